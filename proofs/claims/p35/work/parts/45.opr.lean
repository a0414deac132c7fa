/-! ranges of what an operation gives -/
def az_opr (o : Nat) (lx hx ly hy : Int) : Int × Int :=
  if o = 2 then (-128, 127) else if o = 3 then (-32768, 32767)
  else if o = 12 then (if 0 ≤ ly ∧ -2147483648 ≤ lx * hy ∧ hx * hy ≤ 2147483647 then (if lx < 0 then lx * hy else 0, if 0 ≤ hx then hx * hy else 0) else (-2147483648, 2147483647))
  else if o = 13 then (if 0 ≤ ly then (0, hy) else (-2147483648, 2147483647))
  else if o = 15 then (if 0 ≤ ly ∧ 0 ≤ lx then (0, 2147483647) else if 0 ≤ ly ∧ hx < 0 then (-2147483648, -1) else (-2147483648, 2147483647))
  else if o = 18 then (if 1 ≤ ly ∧ hy ≤ 31 then (0, 2147483647) else (-2147483648, 2147483647))
  else if o = 19 then (if 1 ≤ ly then (if ly = hy then (lx.tdiv ly, hx.tdiv ly) else (if lx < 0 then lx else 0, if 0 ≤ hx then hx else 0)) else (-2147483648, 2147483647))
  else if o = 20 then (if 1 ≤ ly then (if 0 ≤ lx then 0 else 1 - hy, if 0 ≤ hx then hy - 1 else 0) else (-2147483648, 2147483647))
  else (-2147483648, 2147483647)
theorem az_tmod_bd (x : Int) {y : Int} (h : 0 < y) : 1 - y ≤ x.tmod y ∧ x.tmod y ≤ y - 1 ∧ (0 ≤ x → 0 ≤ x.tmod y) ∧ (x ≤ 0 → x.tmod y ≤ 0) := by
  have h3 : (x.tmod y).natAbs = x.natAbs % y.natAbs := Int.natAbs_tmod _ _
  have h4 := Nat.mod_lt x.natAbs (show 0 < y.natAbs by omega)
  refine ⟨by omega, by omega, fun hx => Int.tmod_nonneg _ hx, fun hx => ?_⟩
  have h5 := Int.tmod_nonneg y (show 0 ≤ -x by omega)
  rw [Int.neg_tmod] at h5
  omega
theorem az_tdiv_bd (x : Int) {y : Int} (h : 0 < y) : (0 ≤ x → 0 ≤ x.tdiv y ∧ x.tdiv y ≤ x) ∧ (x ≤ 0 → x ≤ x.tdiv y ∧ x.tdiv y ≤ 0) := by
  have key : ∀ z : Int, 0 ≤ z → 0 ≤ z.tdiv y ∧ z.tdiv y ≤ z := fun z hz => ⟨Int.tdiv_nonneg hz (by omega), Int.tdiv_le_self y hz⟩
  refine ⟨key x, fun hx => ?_⟩
  have := key (-x) (by omega)
  rw [Int.neg_tdiv] at this
  omega
theorem az_rem {x y : Int32} (h : 0 < y.toInt) : (x - x / y * y).toInt = x.toInt.tmod y.toInt ∧ (x / y).toInt = x.toInt.tdiv y.toInt ∧ y ≠ 0 := by
  have hm : y ≠ -1 := fun e => by
    rw [e] at h
    exact absurd h (by decide)
  have h0 : y ≠ 0 := fun e => by
    rw [e] at h
    exact absurd h (by decide)
  have hb := az_tmod_bd x.toInt h
  have hy := sz_bd y
  refine ⟨?_, Int32.toInt_div_of_ne_right _ _ hm, h0⟩
  rw [Int32.toInt_sub, Int32.toInt_mul, Int32.toInt_div_of_ne_right _ _ hm, Int.sub_bmod_bmod, Int.mul_comm, ← Int.tmod_def]
  exact sz_w_id (by omega) (by omega)
theorem az_mul_bd {x y lx hx ly hy : Int} (h1 : lx ≤ x) (h2 : x ≤ hx) (h3 : ly ≤ y) (h4 : y ≤ hy) (h0 : 0 ≤ ly) : (if lx < 0 then lx * hy else 0) ≤ x * y ∧ x * y ≤ (if 0 ≤ hx then hx * hy else 0) := by
  have hy0 : 0 ≤ y := by omega
  rcases Int.le_total 0 x with hx0 | hx0
  · have a1 : 0 ≤ x * y := Int.mul_nonneg hx0 hy0
    have a2 : x * y ≤ hx * hy := Int.mul_le_mul h2 h4 hy0 (by omega)
    rw [if_pos (by omega : 0 ≤ hx)]
    refine ⟨?_, a2⟩
    split
    · rename_i hl
      have : lx * hy ≤ 0 := Int.mul_nonpos_of_nonpos_of_nonneg (by omega) (by omega)
      omega
    · exact a1
  · have b1 : x * y ≤ 0 := Int.mul_nonpos_of_nonpos_of_nonneg hx0 hy0
    have b2 : lx * y ≤ x * y := Int.mul_le_mul_of_nonneg_right h1 hy0
    have b3 : lx ≤ 0 → lx * hy ≤ lx * y := fun hl => Int.mul_le_mul_of_nonpos_left hl h4
    constructor
    · split
      · have := b3 (by omega); omega
      · have : x = 0 := by omega
        rw [this, Int.zero_mul]
        exact Int.le_refl _
    · split
      · rename_i hh
        have : 0 ≤ hx * hy := Int.mul_nonneg hh (by omega)
        omega
      · exact b1
theorem az_and_bd (x : Int32) {y : Int32} (h : 0 ≤ y.toInt) : 0 ≤ (x &&& y).toInt ∧ (x &&& y).toInt ≤ y.toInt := by
  have h1 : (x &&& y).toBitVec.toNat ≤ y.toBitVec.toNat := by
    rw [Int32.toBitVec_and, BitVec.toNat_and]
    exact Nat.and_le_right
  have h2 := az_nat y
  have h3 := az_nat (x &&& y)
  have h4 := y.toBitVec.isLt
  split at h2
  · rw [if_pos (by omega)] at h3
    omega
  · omega
theorem az_xor_bd (x y : Int32) : ((x ^^^ y).toInt < 0) ↔ ¬ ((x.toInt < 0) ↔ (y.toInt < 0)) := by
  have e : ∀ z : Int32, z.toBitVec.msb = decide (z.toInt < 0) := fun z => BitVec.msb_eq_toInt
  have h : (x ^^^ y).toBitVec.msb = (x.toBitVec.msb ^^ y.toBitVec.msb) := by
    rw [Int32.toBitVec_xor, BitVec.msb_xor]
  rw [e, e, e] at h
  by_cases h1 : x.toInt < 0 <;> by_cases h2 : y.toInt < 0 <;> simp [h1, h2] at h <;> simp [h1, h2, h]
theorem az_ushr_bd (x : Int32) {y : Int32} (h1 : 1 ≤ y.toInt) (h2 : y.toInt ≤ 31) : 0 ≤ ((x.toUInt32 >>> (y.toUInt32 &&& Int32.toUInt32 31)).toInt32).toInt := by
  have hy := az_nat y
  have hyl := y.toBitVec.isLt
  have hyn : (y.toBitVec.toNat : Int) = y.toInt := by split at hy <;> omega
  have e1 : (y.toUInt32 &&& Int32.toUInt32 31).toNat = y.toBitVec.toNat := by
    show y.toBitVec.toNat &&& 31 = _
    rw [show (31 : Nat) = 2 ^ 5 - 1 from rfl, Nat.and_two_pow_sub_one_eq_mod]
    omega
  have e2 : ((x.toUInt32 >>> (y.toUInt32 &&& Int32.toUInt32 31)).toInt32).toBitVec.toNat = x.toBitVec.toNat >>> (y.toBitVec.toNat % 32) := by
    show (x.toUInt32 >>> (y.toUInt32 &&& Int32.toUInt32 31)).toNat = _
    rw [UInt32.toNat_shiftRight, e1]
    rfl
  have h3 := az_nat ((x.toUInt32 >>> (y.toUInt32 &&& Int32.toUInt32 31)).toInt32)
  have hxl := x.toBitVec.isLt
  have hlt : x.toBitVec.toNat >>> (y.toBitVec.toNat % 32) < 2147483648 := by
    rw [Nat.mod_eq_of_lt (by omega), Nat.shiftRight_eq_div_pow]
    refine Nat.div_lt_of_lt_mul ?_
    have : 2 ^ 1 ≤ 2 ^ y.toBitVec.toNat := Nat.pow_le_pow_right (by decide) (by omega)
    omega
  rw [e2, if_pos (by omega)] at h3
  omega
theorem az_opr_ok {o : Nat} {lx hx ly hy : Int} {x y : Int32} (h1 : lx ≤ x.toInt) (h2 : x.toInt ≤ hx) (h3 : ly ≤ y.toInt) (h4 : y.toInt ≤ hy) : (az_opr o lx hx ly hy).1 ≤ (sz_op o x y).toInt ∧ (sz_op o x y).toInt ≤ (az_opr o lx hx ly hy).2 := by
  have hb := sz_bd (sz_op o x y)
  unfold az_opr
  split
  · rename_i ho
    subst ho
    show -128 ≤ x.toInt8.toInt32.toInt ∧ x.toInt8.toInt32.toInt ≤ 127
    rw [Int8.toInt_toInt32]
    have a1 := x.toInt8.le_toInt
    have a2 := x.toInt8.toInt_lt
    omega
  split
  · rename_i ho
    subst ho
    show -32768 ≤ x.toInt16.toInt32.toInt ∧ x.toInt16.toInt32.toInt ≤ 32767
    rw [Int16.toInt_toInt32]
    have a1 := x.toInt16.le_toInt
    have a2 := x.toInt16.toInt_lt
    omega
  split
  · rename_i ho
    subst ho
    split
    · rename_i hh
      have e : (sz_op 12 x y).toInt = sz_w (x.toInt * y.toInt) := Int32.toInt_mul x y
      have hm := az_mul_bd h1 h2 h3 h4 hh.1
      rw [e, sz_w_id]
      · exact hm
      · have := hm.1
        split at this <;> omega
      · have := hm.2
        split at this <;> omega
    · exact hb
  split
  · rename_i ho
    subst ho
    split
    · have := az_and_bd x (y := y) (by omega)
      show 0 ≤ (x &&& y).toInt ∧ (x &&& y).toInt ≤ hy
      omega
    · exact hb
  split
  · rename_i ho
    subst ho
    have hx := az_xor_bd x y
    have e : sz_op 15 x y = x ^^^ y := rfl
    rw [e] at hb ⊢
    split
    · have : ¬ (x ^^^ y).toInt < 0 := fun hc => (hx.mp hc) ⟨fun _ => by omega, fun _ => by omega⟩
      dsimp only
      omega
    · split
      · have : (x ^^^ y).toInt < 0 := hx.mpr (fun hc => by have := hc.mp (by omega); omega)
        dsimp only
        omega
      · exact hb
  split
  · rename_i ho
    subst ho
    split
    · have := az_ushr_bd x (y := y) (by omega) (by omega)
      exact ⟨this, hb.2⟩
    · exact hb
  split
  · rename_i ho
    subst ho
    split
    · obtain ⟨r1, r2, r3⟩ := az_rem (x := x) (y := y) (by omega)
      have e : sz_op 19 x y = x / y := by
        show (mz_bin 9 x y).getD 0 = _
        simp [mz_bin, r3]
      rw [e, r2]
      split
      · rename_i hl hc
        have hy : y.toInt = ly := by omega
        rw [hy]
        exact ⟨Int.tdiv_le_tdiv (by omega) h1, Int.tdiv_le_tdiv (by omega) h2⟩
      · have hd := az_tdiv_bd x.toInt (y := y.toInt) (by omega)
        rcases Int.le_total 0 x.toInt with hx0 | hx0
        · have := hd.1 hx0
          constructor
          · dsimp only; split <;> omega
          · dsimp only; split <;> omega
        · have := hd.2 hx0
          constructor
          · dsimp only; split <;> omega
          · dsimp only; split <;> omega
    · exact hb
  split
  · rename_i ho
    subst ho
    split
    · obtain ⟨r1, r2, r3⟩ := az_rem (x := x) (y := y) (by omega)
      have e : sz_op 20 x y = x - x / y * y := by
        show (mz_bin 10 x y).getD 0 = _
        simp [mz_bin, r3]
      rw [e, r1]
      have hd := az_tmod_bd x.toInt (y := y.toInt) (by omega)
      constructor
      · dsimp only; split
        · exact hd.2.2.1 (by omega)
        · omega
      · dsimp only; split
        · omega
        · exact hd.2.2.2 (by omega)
    · exact hb
  · exact hb
