/-! the law's pieces: sign, and the compared call: written by wip/C/mk822.py -/
theorem by_mod (x : Int32) : x.toInt % 256 = ((x.toBitVec.toNat % 256 : Nat) : Int) := by
  have e : x.toInt = x.toBitVec.toInt := rfl
  have hb := x.toBitVec.isLt
  rw [e, BitVec.toInt_eq_toNat_cond]
  split <;> omega
theorem by_s (v w y : Int32) {s : Nat} (hs : s = 0 ∨ s = 8 ∨ s = 16 ∨ s = 24) (hy : y = Int32.ofInt (s : Int)) : (sz_op 13 (sz_op 18 v y) (Int32.ofInt 255)).toInt % 256 = (sz_op 2 (sz_op 17 v y) w).toInt % 256 := by
  have h1 : ((y.toUInt32 &&& Int32.toUInt32 31).toBitVec.toNat % 32) = s ∧ (((y &&& 31) : Int32).toBitVec.smod 32).toNat = s := by
    subst hy
    rcases hs with e | e | e | e <;> subst e <;> decide
  have eu : (sz_op 18 v y).toBitVec.toNat = v.toBitVec.toNat / 2 ^ s := by
    show ((v.toUInt32 >>> (y.toUInt32 &&& Int32.toUInt32 31)).toInt32).toBitVec.toNat = _
    simp only [UInt32.toBitVec_toInt32, UInt32.toBitVec_shiftRight, Int32.toBitVec_toUInt32]
    rw [← h1.1]
    simp [BitVec.toNat_ushiftRight, Nat.shiftRight_eq_div_pow]
  have es : (sz_op 17 v y).toInt = v.toInt / 2 ^ s := by
    have e : (sz_op 17 v y).toInt = (v.toBitVec.sshiftRight' (((y &&& 31) : Int32).toBitVec.smod 32)).toInt := rfl
    rw [e, BitVec.toInt_sshiftRight', h1.2, Int.shiftRight_eq_div_pow]
    rfl
  have ea : (sz_op 13 (sz_op 18 v y) (Int32.ofInt 255)).toBitVec.toNat = v.toBitVec.toNat / 2 ^ s % 256 := by
    show ((sz_op 18 v y) &&& (Int32.ofInt 255)).toBitVec.toNat = _
    rw [Int32.toBitVec_and, BitVec.toNat_and, eu, show (Int32.ofInt 255).toBitVec.toNat = 2 ^ 8 - 1 from by decide, Nat.and_two_pow_sub_one_eq_mod]
  have eb : (sz_op 2 (sz_op 17 v y) w).toInt % 256 = (v.toInt / 2 ^ s) % 256 := by
    show ((sz_op 17 v y).toInt8.toInt32).toInt % 256 = _
    rw [Int8.toInt_toInt32, Int32.toInt_toInt8, es]
    have hbm : ∀ z : Int, (z.bmod (2 ^ 8)) % 256 = z % 256 := by
      intro z
      rw [Int.bmod_def]
      split <;> omega
    exact hbm _
  have ev : v.toInt = v.toBitVec.toInt := rfl
  have hb := v.toBitVec.isLt
  rw [by_mod, ea, eb, ev, BitVec.toInt_eq_toNat_cond]
  rcases hs with e | e | e | e <;> subst e <;> split <;> omega
noncomputable def y_at (v : szV) : Option Nat := match v.2.2 with
  | [p] => bif decide (v.2.1 = 0) && decide (p.2 = 1) then some p.1 else none
  | _ => none
noncomputable def y_df (D : szD) (v : szV) : Option (Nat × szV × szV) := match y_at v with
  | some k => sz_nth D k
  | none => none
noncomputable def y_b1 (D : szD) (u w : szV) (s : Nat) : Bool := match y_df D u, y_df D w with
  | some p, some r => ((Nat.beq p.1 13 && decide (p.2.2.2 = (255, []))) && Nat.beq r.1 2) && (match y_df D p.2.1, y_df D r.2.1 with
    | some p', some r' => (Nat.beq p'.1 18 && Nat.beq r'.1 17) && ((decide (p'.2.1.2 = (0, [(2, 1)])) && decide (r'.2.1.2 = (0, [(2, 1)]))) && (decide (p'.2.2.2 = ((s : Int), [])) && decide (r'.2.2.2 = ((s : Int), []))))
    | _, _ => false)
  | _, _ => false
noncomputable def y_by (D : szD) (F : azF) (q s : Nat) : Bool := match az_fget 9 ((q : Int), []) F, az_fget 143 ((q : Int), []) F with
  | some u, some w => (Nat.beq u.1 0 && Nat.beq w.1 0) && y_b1 D u w s
  | _, _ => false
theorem y_at_ok {v : szV} {k : Nat} (h : y_at v = some k) (ρ : Nat → Int) : y_n ρ v.2 = ρ k := by
  unfold y_at at h
  split at h
  · rename_i p hp
    cases hc : (decide (v.2.1 = 0) && decide (p.2 = 1)) with
    | false => rw [hc, cond_false] at h; cases h
    | true =>
      rw [hc, cond_true] at h
      cases h
      simp only [Bool.and_eq_true, decide_eq_true_eq] at hc
      unfold y_n
      rw [hp, hc.1]
      show (0 : Int) + (p.2 * ρ p.1 + 0) = _
      rw [hc.2]
      omega
  · cases h
theorem y_df_ok {D : szD} {ρ : Nat → Int} (hD : sz_D D ρ) {v : szV} {o : Nat} {x y : szV} (h : y_df D v = some (o, x, y)) (ho : o ≠ 0) : y_n ρ v.2 = (sz_op o (sz_i ρ x) (sz_i ρ y)).toInt := by
  unfold y_df at h
  split at h
  · rename_i k hk
    rw [sz_nth_eq] at h
    rw [y_at_ok hk ρ]
    exact hD k o x y h ho
  · cases h
theorem y_b1_ok {D : szD} {R : szR} {Cs : azS} {ρ : Nat → Int} (hV : az_V D R Cs ρ) {u w : szV} {s : Nat} (hs : s = 0 ∨ s = 8 ∨ s = 16 ∨ s = 24) (h : y_b1 D u w s = true) : y_n ρ u.2 % 256 = y_n ρ w.2 % 256 ∧ (-2147483648 ≤ y_n ρ u.2 ∧ y_n ρ u.2 ≤ 2147483647) ∧ -2147483648 ≤ y_n ρ w.2 ∧ y_n ρ w.2 ≤ 2147483647 := by
  have hD := hV.1
  have si : ∀ (x : szV) (z : Int32), y_n ρ x.2 = z.toInt → sz_i ρ x = z := fun x z e => by
    unfold sz_i
    unfold y_n at e
    rw [e, Int32.ofInt_toInt]
  unfold y_b1 at h
  split at h
  · rename_i p r hp hr
    obtain ⟨o1, x1, y1⟩ := p
    obtain ⟨o2, x2, y2⟩ := r
    rw [Bool.and_eq_true] at h
    obtain ⟨h1, h2⟩ := h
    simp only [Bool.and_eq_true, decide_eq_true_eq] at h1
    obtain ⟨⟨a1, a2⟩, a3⟩ := h1
    have a1 := Nat.eq_of_beq_eq_true a1
    have a3 := Nat.eq_of_beq_eq_true a3
    subst a1; subst a3
    split at h2
    · rename_i p' r' hp' hr'
      obtain ⟨o3, x3, y3⟩ := p'
      obtain ⟨o4, x4, y4⟩ := r'
      simp only [Bool.and_eq_true, decide_eq_true_eq] at h2
      obtain ⟨⟨b1, b2⟩, ⟨b3, b4⟩, b5, b6⟩ := h2
      have b1 := Nat.eq_of_beq_eq_true b1
      have b2 := Nat.eq_of_beq_eq_true b2
      subst b1; subst b2
      have eu := y_df_ok hD hp (by decide)
      have ew := y_df_ok hD hr (by decide)
      have ex := si _ _ (y_df_ok hD hp' (by decide))
      have ey := si _ _ (y_df_ok hD hr' (by decide))
      have q3 : sz_i ρ x3 = sz_i ρ x4 := by unfold sz_i; rw [b3, b4]
      have q4 : sz_i ρ y3 = Int32.ofInt (s : Int) := by unfold sz_i; rw [b5]; exact congrArg Int32.ofInt (Int.add_zero _)
      have q5 : sz_i ρ y4 = Int32.ofInt (s : Int) := by unfold sz_i; rw [b6]; exact congrArg Int32.ofInt (Int.add_zero _)
      have q6 : sz_i ρ y1 = Int32.ofInt 255 := by unfold sz_i; rw [a2]; exact congrArg Int32.ofInt (Int.add_zero _)
      rw [ex, q4, q6] at eu
      rw [ey, q5, ← q3] at ew
      rw [eu, ew]
      exact ⟨by_s _ _ _ hs rfl, sz_bd _, sz_bd _⟩
    · cases h2
  · cases h
theorem y_by_ok {D : szD} {R : szR} {Cs : azS} {ρ : Nat → Int} (hV : az_V D R Cs ρ) {h : List mzC} {F : azF} (hF : az_HF ρ h false F) {q s : Nat} (hq : q < 1000000) (hs : s = 0 ∨ s = 8 ∨ s = 16 ∨ s = 24) (e : y_by D F q s = true) : hv h 9 q % 256 = hv h 143 q % 256 := by
  unfold y_by at e
  split at e
  · rename_i u w hu hw
    simp only [Bool.and_eq_true] at e
    obtain ⟨⟨u0, w0⟩, e⟩ := e
    have u0 := Nat.eq_of_beq_eq_true u0
    have w0 := Nat.eq_of_beq_eq_true w0
    obtain ⟨k1, k2, k3⟩ := y_b1_ok hV hs e
    have fu := HF_get hF (by decide) hq (az_fget_ok hu)
    have fw := HF_get hF (by decide) hq (az_fget_ok hw)
    rw [y_iv u0] at fu
    rw [y_iv w0] at fw
    rw [hv_val fu k2.1 k2.2, hv_val fw k3.1 k3.2]
    exact k1
  · cases e
/-- the law's sign(), the text having n signs: atom 2 what is told -/
def lsQ : szM := (8, 0, (0, 0, 0), szc_0)
def lsM (n : Nat) : List (Nat × Nat) := (bif Nat.ble n 76 then [(9, n + 1), (9, n + 2), (9, n + 3), (9, n + 4), (143, n + 1), (143, n + 2), (143, n + 3), (143, n + 4)] else []) ++ lwM
def lsC (n : Nat) : azCon := (0, 40, ([azf, azf, azf], [(5, 2560), (0, 2555), ((-2147483648), 2147483647)], [((-5), [(0, 1), (1, (-1))])], [(1, 0, []), (1, 4, []), (1, 145, []), (1, 166, []), (0, 0, [(1, 1)])], [(8, (1, []), (0, (n : Int), [])), (141, (2, []), (0, (n : Int), []))], [], false), [], lsM n, (0, 0))
noncomputable def lsH (n : Nat) (D : szD) (R : szR) (Cs : azS) (F : azF) (i : Nat) (lo : szLo) : Bool := Nat.beq i 13 && (y_lo R Cs [(1, 0, []), (1, 4, []), (1, 145, []), (1, 166, []), (0, 5, [(1, 1)])] lo && (bif Nat.ble n 76 then y_fs R Cs F [(8, 1, (0, (n : Int) + 4, [])), (141, 2, (0, (n : Int) + 4, []))] && ((y_by D F n 24 && y_by D F (n + 1) 16) && (y_by D F (n + 2) 8 && y_by D F (n + 3) 0)) else y_fs R Cs F [(8, 1, (0, (n : Int), [])), (141, 2, (0, (n : Int), []))]))
