/-! ranges of what an operation gives -/
def az_opr (o : Nat) (lx hx ly hy : Int) : Int × Int :=
  if o = 2 then (-128, 127) else if o = 3 then (-32768, 32767)
  else if o = 12 then (if -2147483648 ≤ az_mn (az_mn (lx * ly) (lx * hy)) (az_mn (hx * ly) (hx * hy)) ∧ az_mx (az_mx (lx * ly) (lx * hy)) (az_mx (hx * ly) (hx * hy)) ≤ 2147483647 then (az_mn (az_mn (lx * ly) (lx * hy)) (az_mn (hx * ly) (hx * hy)), az_mx (az_mx (lx * ly) (lx * hy)) (az_mx (hx * ly) (hx * hy))) else (-2147483648, 2147483647))
  else if o = 13 then (if 0 ≤ ly then (0, hy) else (-2147483648, 2147483647))
  else if o = 14 then (if 0 ≤ ly ∧ 0 ≤ lx then (0, if hx ≤ 1023 ∧ hy ≤ 1023 then 1023 else 2147483647) else (-2147483648, 2147483647))
  else if o = 15 then (if 0 ≤ ly ∧ 0 ≤ lx then (0, 2147483647) else if 0 ≤ ly ∧ hx < 0 then (-2147483648, -1) else (-2147483648, 2147483647))
  else if o = 18 then (if 1 ≤ ly ∧ hy ≤ 31 then (0, 2147483647) else (-2147483648, 2147483647))
  else if o = 19 then (if 1 ≤ ly then (if lx < 0 then lx.tdiv ly else lx.tdiv hy, if 0 ≤ hx then hx.tdiv ly else hx.tdiv hy) else (-2147483648, 2147483647))
  else if o = 20 then (if 1 ≤ ly then (if 0 ≤ lx then 0 else 1 - hy, if 0 ≤ hx then hy - 1 else 0) else (-2147483648, 2147483647))
  else (-2147483648, 2147483647)
theorem az_tmod_bd (x : Int) {y : Int} (h : 0 < y) : 1 - y ≤ x.tmod y ∧ x.tmod y ≤ y - 1 ∧ (0 ≤ x → 0 ≤ x.tmod y) ∧ (x ≤ 0 → x.tmod y ≤ 0) := by
  have h3 : (x.tmod y).natAbs = x.natAbs % y.natAbs := Int.natAbs_tmod _ _
  have h4 := Nat.mod_lt x.natAbs (show 0 < y.natAbs by omega)
  refine ⟨by omega, by omega, fun hx => Int.tmod_nonneg _ hx, fun hx => ?_⟩
  have h5 := Int.tmod_nonneg y (show 0 ≤ -x by omega)
  rw [Int.neg_tmod] at h5
  omega
theorem az_tdiv_bd (x : Int) {y : Int} (h : 0 < y) : (0 ≤ x → 0 ≤ x.tdiv y ∧ x.tdiv y ≤ x) ∧ (x ≤ 0 → x ≤ x.tdiv y ∧ x.tdiv y ≤ 0) := by
  have key : ∀ z : Int, 0 ≤ z → 0 ≤ z.tdiv y ∧ z.tdiv y ≤ z := fun z hz => ⟨Int.tdiv_nonneg hz (by omega), Int.tdiv_le_self y hz⟩
  refine ⟨key x, fun hx => ?_⟩
  have := key (-x) (by omega)
  rw [Int.neg_tdiv] at this
  omega
theorem az_rem {x y : Int32} (h : 0 < y.toInt) : (x - x / y * y).toInt = x.toInt.tmod y.toInt ∧ (x / y).toInt = x.toInt.tdiv y.toInt ∧ y ≠ 0 := by
  have hm : y ≠ -1 := fun e => by
    rw [e] at h
    exact absurd h (by decide)
  have h0 : y ≠ 0 := fun e => by
    rw [e] at h
    exact absurd h (by decide)
  have hb := az_tmod_bd x.toInt h
  have hy := sz_bd y
  refine ⟨?_, Int32.toInt_div_of_ne_right _ _ hm, h0⟩
  rw [Int32.toInt_sub, Int32.toInt_mul, Int32.toInt_div_of_ne_right _ _ hm, Int.sub_bmod_bmod, Int.mul_comm, ← Int.tmod_def]
  exact sz_w_id (by omega) (by omega)
theorem az_tdiv_l {z a b : Int} (hz : 0 ≤ z) (ha : 0 < a) (hab : a ≤ b) : z.tdiv b ≤ z.tdiv a := by
  rw [Int.tdiv_eq_ediv_of_nonneg hz, Int.tdiv_eq_ediv_of_nonneg hz, Int.le_ediv_iff_mul_le ha]
  have h1 := Int.ediv_nonneg hz (show 0 ≤ b by omega)
  have h2 := Int.mul_le_mul_of_nonneg_left hab h1
  have h3 := Int.ediv_mul_le z (show b ≠ 0 by omega)
  exact Int.le_trans h2 h3
theorem az_tdiv_n {z a b : Int} (hz : z ≤ 0) (ha : 0 < a) (hab : a ≤ b) : z.tdiv a ≤ z.tdiv b := by
  have h := az_tdiv_l (z := -z) (by omega) ha hab
  rw [Int.neg_tdiv, Int.neg_tdiv] at h
  omega
theorem az_div_bd {x y lx hx ly hy : Int} (h1 : lx ≤ x) (h2 : x ≤ hx) (h3 : ly ≤ y) (h4 : y ≤ hy) (h0 : 1 ≤ ly) : (if lx < 0 then lx.tdiv ly else lx.tdiv hy) ≤ x.tdiv y ∧ x.tdiv y ≤ (if 0 ≤ hx then hx.tdiv ly else hx.tdiv hy) := by
  have a1 := Int.tdiv_le_tdiv (c := ly) (by omega) h1
  have a2 := Int.tdiv_le_tdiv (c := hy) (by omega) h1
  have a3 := Int.tdiv_le_tdiv (c := ly) (by omega) h2
  have a4 := Int.tdiv_le_tdiv (c := hy) (by omega) h2
  have b1 := az_tdiv_bd lx (y := ly) (by omega)
  have b2 := az_tdiv_bd hx (y := ly) (by omega)
  have b3 := az_tdiv_bd x (y := y) (by omega)
  constructor
  · split
    · rename_i hl
      rcases Int.le_total 0 x with hx0 | hx0
      · have := (b1.2 (by omega)).2; have := (b3.1 hx0).1; omega
      · have := az_tdiv_n hx0 (show 0 < ly by omega) h3; omega
    · have := az_tdiv_l (z := x) (by omega) (show 0 < y by omega) h4; omega
  · split
    · rcases Int.le_total 0 x with hx0 | hx0
      · have := az_tdiv_l hx0 (show 0 < ly by omega) h3; omega
      · have := (b2.1 (by omega)).1; have := (b3.2 hx0).2; omega
    · have := az_tdiv_n (z := x) (by omega) (show 0 < y by omega) h4; omega
theorem az_mul_ln {l x h y : Int} (h1 : l ≤ x) (h2 : x ≤ h) : (l * y ≤ x * y ∧ x * y ≤ h * y) ∨ (h * y ≤ x * y ∧ x * y ≤ l * y) := by
  rcases Int.le_total 0 y with hy | hy
  · exact Or.inl ⟨Int.mul_le_mul_of_nonneg_right h1 hy, Int.mul_le_mul_of_nonneg_right h2 hy⟩
  · exact Or.inr ⟨Int.mul_le_mul_of_nonpos_right h2 hy, Int.mul_le_mul_of_nonpos_right h1 hy⟩
theorem az_mul_rn {l y h x : Int} (h1 : l ≤ y) (h2 : y ≤ h) : (x * l ≤ x * y ∧ x * y ≤ x * h) ∨ (x * h ≤ x * y ∧ x * y ≤ x * l) := by
  have := az_mul_ln (y := x) h1 h2
  rw [Int.mul_comm l x, Int.mul_comm y x, Int.mul_comm h x] at this
  exact this
theorem az_mul_bd {x y lx hx ly hy : Int} (h1 : lx ≤ x) (h2 : x ≤ hx) (h3 : ly ≤ y) (h4 : y ≤ hy) : az_mn (az_mn (lx * ly) (lx * hy)) (az_mn (hx * ly) (hx * hy)) ≤ x * y ∧ x * y ≤ az_mx (az_mx (lx * ly) (lx * hy)) (az_mx (hx * ly) (hx * hy)) := by
  have a := az_mul_ln (y := y) h1 h2
  have b := az_mul_rn (x := lx) h3 h4
  have c := az_mul_rn (x := hx) h3 h4
  have m1 := az_mn_le (lx * ly) (lx * hy)
  have m2 := az_mn_le (hx * ly) (hx * hy)
  have m3 := az_mn_le (az_mn (lx * ly) (lx * hy)) (az_mn (hx * ly) (hx * hy))
  have n1 := az_le_mx (lx * ly) (lx * hy)
  have n2 := az_le_mx (hx * ly) (hx * hy)
  have n3 := az_le_mx (az_mx (lx * ly) (lx * hy)) (az_mx (hx * ly) (hx * hy))
  generalize az_mn (az_mn (lx * ly) (lx * hy)) (az_mn (hx * ly) (hx * hy)) = A at *
  generalize az_mx (az_mx (lx * ly) (lx * hy)) (az_mx (hx * ly) (hx * hy)) = B at *
  generalize az_mn (lx * ly) (lx * hy) = A1 at *
  generalize az_mn (hx * ly) (hx * hy) = A2 at *
  generalize az_mx (lx * ly) (lx * hy) = B1 at *
  generalize az_mx (hx * ly) (hx * hy) = B2 at *
  generalize lx * ly = p1 at *
  generalize lx * hy = p2 at *
  generalize hx * ly = p3 at *
  generalize hx * hy = p4 at *
  generalize lx * y = p5 at *
  generalize hx * y = p6 at *
  generalize x * y = p7 at *
  omega
theorem az_or_bd (x y : Int32) (hx : 0 ≤ x.toInt) (hy : 0 ≤ y.toInt) : x.toInt ≤ (x ||| y).toInt ∧ y.toInt ≤ (x ||| y).toInt ∧ (x.toInt ≤ 1023 → y.toInt ≤ 1023 → (x ||| y).toInt ≤ 1023) := by
  have e : (x ||| y).toBitVec.toNat = x.toBitVec.toNat ||| y.toBitVec.toNat := by rw [Int32.toBitVec_or, BitVec.toNat_or]
  have h1 := az_nat x
  have h2 := az_nat y
  have h3 := az_nat (x ||| y)
  have l1 := x.toBitVec.isLt
  have l2 := y.toBitVec.isLt
  have b1 : x.toBitVec.toNat < 2 ^ 31 := by split at h1 <;> omega
  have b2 : y.toBitVec.toNat < 2 ^ 31 := by split at h2 <;> omega
  have b3 := Nat.or_lt_two_pow b1 b2
  have b4 : x.toBitVec.toNat ≤ x.toBitVec.toNat ||| y.toBitVec.toNat := Nat.left_le_or
  have b5 : y.toBitVec.toNat ≤ x.toBitVec.toNat ||| y.toBitVec.toNat := Nat.right_le_or
  rw [e] at h3
  rw [if_pos (by omega)] at h1 h2 h3
  refine ⟨by omega, by omega, fun q1 q2 => ?_⟩
  have := Nat.or_lt_two_pow (n := 10) (show x.toBitVec.toNat < 2 ^ 10 by omega) (show y.toBitVec.toNat < 2 ^ 10 by omega)
  omega
theorem az_and_bd (x : Int32) {y : Int32} (h : 0 ≤ y.toInt) : 0 ≤ (x &&& y).toInt ∧ (x &&& y).toInt ≤ y.toInt := by
  have h1 : (x &&& y).toBitVec.toNat ≤ y.toBitVec.toNat := by
    rw [Int32.toBitVec_and, BitVec.toNat_and]
    exact Nat.and_le_right
  have h2 := az_nat y
  have h3 := az_nat (x &&& y)
  have h4 := y.toBitVec.isLt
  split at h2
  · rw [if_pos (by omega)] at h3
    omega
  · omega
theorem az_xor_bd (x y : Int32) : ((x ^^^ y).toInt < 0) ↔ ¬ ((x.toInt < 0) ↔ (y.toInt < 0)) := by
  have e : ∀ z : Int32, z.toBitVec.msb = decide (z.toInt < 0) := fun z => BitVec.msb_eq_toInt
  have h : (x ^^^ y).toBitVec.msb = (x.toBitVec.msb ^^ y.toBitVec.msb) := by
    rw [Int32.toBitVec_xor, BitVec.msb_xor]
  rw [e, e, e] at h
  by_cases h1 : x.toInt < 0 <;> by_cases h2 : y.toInt < 0 <;> simp [h1, h2] at h <;> simp [h1, h2, h]
theorem az_ushr_bd (x : Int32) {y : Int32} (h1 : 1 ≤ y.toInt) (h2 : y.toInt ≤ 31) : 0 ≤ ((x.toUInt32 >>> (y.toUInt32 &&& Int32.toUInt32 31)).toInt32).toInt := by
  have hy := az_nat y
  have hyl := y.toBitVec.isLt
  have hyn : (y.toBitVec.toNat : Int) = y.toInt := by split at hy <;> omega
  have e1 : (y.toUInt32 &&& Int32.toUInt32 31).toNat = y.toBitVec.toNat := by
    show y.toBitVec.toNat &&& 31 = _
    rw [show (31 : Nat) = 2 ^ 5 - 1 from rfl, Nat.and_two_pow_sub_one_eq_mod]
    omega
  have e2 : ((x.toUInt32 >>> (y.toUInt32 &&& Int32.toUInt32 31)).toInt32).toBitVec.toNat = x.toBitVec.toNat >>> (y.toBitVec.toNat % 32) := by
    show (x.toUInt32 >>> (y.toUInt32 &&& Int32.toUInt32 31)).toNat = _
    rw [UInt32.toNat_shiftRight, e1]
    rfl
  have h3 := az_nat ((x.toUInt32 >>> (y.toUInt32 &&& Int32.toUInt32 31)).toInt32)
  have hxl := x.toBitVec.isLt
  have hlt : x.toBitVec.toNat >>> (y.toBitVec.toNat % 32) < 2147483648 := by
    rw [Nat.mod_eq_of_lt (by omega), Nat.shiftRight_eq_div_pow]
    refine Nat.div_lt_of_lt_mul ?_
    have : 2 ^ 1 ≤ 2 ^ y.toBitVec.toNat := Nat.pow_le_pow_right (by decide) (by omega)
    omega
  rw [e2, if_pos (by omega)] at h3
  omega
theorem az_opr_ok {o : Nat} {lx hx ly hy : Int} {x y : Int32} (h1 : lx ≤ x.toInt) (h2 : x.toInt ≤ hx) (h3 : ly ≤ y.toInt) (h4 : y.toInt ≤ hy) : (az_opr o lx hx ly hy).1 ≤ (sz_op o x y).toInt ∧ (sz_op o x y).toInt ≤ (az_opr o lx hx ly hy).2 := by
  have hb := sz_bd (sz_op o x y)
  unfold az_opr
  split
  · rename_i ho
    subst ho
    show -128 ≤ x.toInt8.toInt32.toInt ∧ x.toInt8.toInt32.toInt ≤ 127
    rw [Int8.toInt_toInt32]
    have a1 := x.toInt8.le_toInt
    have a2 := x.toInt8.toInt_lt
    omega
  split
  · rename_i ho
    subst ho
    show -32768 ≤ x.toInt16.toInt32.toInt ∧ x.toInt16.toInt32.toInt ≤ 32767
    rw [Int16.toInt_toInt32]
    have a1 := x.toInt16.le_toInt
    have a2 := x.toInt16.toInt_lt
    omega
  split
  · rename_i ho
    subst ho
    split
    · rename_i hh
      have e : (sz_op 12 x y).toInt = sz_w (x.toInt * y.toInt) := Int32.toInt_mul x y
      have hm := az_mul_bd h1 h2 h3 h4
      rw [e, sz_w_id (by omega) (by omega)]
      exact hm
    · exact hb
  split
  · rename_i ho
    subst ho
    split
    · have := az_and_bd x (y := y) (by omega)
      show 0 ≤ (x &&& y).toInt ∧ (x &&& y).toInt ≤ hy
      omega
    · exact hb
  split
  · rename_i ho
    subst ho
    have e : sz_op 14 x y = x ||| y := rfl
    rw [e] at hb ⊢
    split
    · rename_i hh
      have ho := az_or_bd x y (by omega) (by omega)
      dsimp only
      refine ⟨by omega, ?_⟩
      split
      · exact ho.2.2 (by omega) (by omega)
      · exact hb.2
    · exact hb
  split
  · rename_i ho
    subst ho
    have hx := az_xor_bd x y
    have e : sz_op 15 x y = x ^^^ y := rfl
    rw [e] at hb ⊢
    split
    · have : ¬ (x ^^^ y).toInt < 0 := fun hc => (hx.mp hc) ⟨fun _ => by omega, fun _ => by omega⟩
      dsimp only
      omega
    · split
      · have : (x ^^^ y).toInt < 0 := hx.mpr (fun hc => by have := hc.mp (by omega); omega)
        dsimp only
        omega
      · exact hb
  split
  · rename_i ho
    subst ho
    split
    · have := az_ushr_bd x (y := y) (by omega) (by omega)
      exact ⟨this, hb.2⟩
    · exact hb
  split
  · rename_i ho
    subst ho
    split
    · obtain ⟨r1, r2, r3⟩ := az_rem (x := x) (y := y) (by omega)
      have e : sz_op 19 x y = x / y := by
        show (mz_bin 9 x y).getD 0 = _
        simp [mz_bin, r3]
      rw [e, r2]
      exact az_div_bd h1 h2 h3 h4 (by omega)
    · exact hb
  split
  · rename_i ho
    subst ho
    split
    · obtain ⟨r1, r2, r3⟩ := az_rem (x := x) (y := y) (by omega)
      have e : sz_op 20 x y = x - x / y * y := by
        show (mz_bin 10 x y).getD 0 = _
        simp [mz_bin, r3]
      rw [e, r1]
      have hd := az_tmod_bd x.toInt (y := y.toInt) (by omega)
      constructor
      · dsimp only; split
        · exact hd.2.2.1 (by omega)
        · omega
      · dsimp only; split
        · omega
        · exact hd.2.2.2 (by omega)
    · exact hb
  · exact hb
