/-! instructions on the heap -/
noncomputable def az_at {β : Type} (new : Bool) (r : szV) (k : Nat → azC → Option β) : Option β := match az_cr r with
  | some c => bif !(Nat.beq c 1000000) || new then (match az_cell c with
    | some C => k c C
    | none => none) else none
  | none => none
theorem az_at_ok {β : Type} {new : Bool} {r : szV} {k : Nat → azC → Option β} {z : β} (h : az_at new r k = some z) : ∃ c C, az_cr r = some c ∧ az_cell c = some C ∧ (c = 1000000 → new = true) ∧ k c C = some z := by
  unfold az_at at h
  split at h
  · rename_i c hc
    cases hb : (!(Nat.beq c 1000000) || new) with
    | false => rw [hb] at h; cases h
    | true =>
      rw [hb] at h
      dsimp only [cond] at h
      split at h
      · rename_i C hC
        refine ⟨c, C, hc, hC, fun e => ?_, h⟩
        rw [e] at hb
        simpa using hb
      · cases h
  · cases h
section
variable {D : szD} {R : szR} {Cs : azS} {ρ : Nat → Int} {mods : List (Nat × Nat)} {h0 h : List mzC} {F : azF} {dirty : List Nat} {new : Bool} {u : Nat}
theorem az_cr_ok (H : az_HR mods h0 ρ F dirty new u h) {r : szV} {c : Nat} {C : azC} (hr : az_cr r = some c) (hc : az_cell c = some C) (hn : c = 1000000 → new = true) (s2 : Nat × Nat) : ∃ n fs, sz_v ρ r = .ref n ∧ ¬ n < 4 ∧ n - 4 = az_c ρ c ∧ mz_get (h, s2) n = some (C.1, fs) ∧ h[az_c ρ c]? = some (C.1, fs) ∧ fs.length = C.2.1 ∧ ∀ k τ, az_ty C k = some τ → ∃ v, fs[k]? = some v ∧ az_in τ v := by
  obtain ⟨fs, f1, f2, f3⟩ := az_cell_ok H hc hn
  have key : ∃ n, sz_v ρ r = .ref n ∧ ¬ n < 4 ∧ n - 4 = az_c ρ c := by
    unfold az_cr at hr
    cases hb : Nat.beq r.1 1 with
    | false => rw [hb] at hr; cases hr
    | true =>
      rw [hb] at hr
      have hb := Nat.eq_of_beq_eq_true hb
      dsimp only [cond] at hr
      have hv : sz_v ρ r = .ref (if r.2.1 < 1000000 then r.2.1.toNat else (ρ 1000000).toNat) := sz_v1 hb
      split at hr
      · rename_i hlt
        rw [if_pos hlt] at hv
        cases h4 : Nat.ble 4 r.2.1.toNat with
        | false => rw [h4] at hr; cases hr
        | true =>
          rw [h4] at hr
          have h4 : 4 ≤ r.2.1.toNat := Nat.le_of_ble_eq_true h4
          have hr : some (r.2.1.toNat - 4) = some c := hr
          cases hr
          refine ⟨r.2.1.toNat, hv, Nat.not_lt.mpr h4, ?_⟩
          unfold az_c
          rw [if_neg (by omega)]
      · rename_i hlt
        rw [if_neg hlt] at hv
        cases hr
        have := (H.2.1.1 (hn rfl)).1
        exact ⟨(ρ 1000000).toNat, hv, Nat.not_lt.mpr (Nat.le_trans (Nat.le_add_left 4 azL.length) this), (if_pos rfl).symm⟩
  obtain ⟨n, n1, n2, n3⟩ := key
  refine ⟨n, fs, n1, n2, n3, ?_, f1, f2, f3⟩
  unfold mz_get
  rw [if_neg n2, n3]
  exact f1
theorem az_get_ok (H : az_HR mods h0 ρ F dirty new u h) {c : Nat} {C : azC} (hc : az_cell c = some C) (hn : c = 1000000 → new = true) {ix : Int × szT} {v : szV} (hg : az_get F c C ix = some v) : 0 ≤ (sz_i ρ (0, ix)).toInt ∧ az_slot h (az_c ρ c) (sz_i ρ (0, ix)).toInt.toNat = some (sz_v ρ v) := by
  unfold az_get at hg
  split at hg
  · rename_i w hw
    cases hg
    obtain ⟨_, f2, f3⟩ := H.2.2.1 _ (az_fget_ok hw)
    exact ⟨f2, f3⟩
  · obtain ⟨a, t⟩ := ix
    split at hg
    · rename_i k ht hk
      dsimp only at ht hk
      subst ht
      subst hk
      split at hg
      · rename_i τ hτ
        cases hb : (Nat.beq τ.1 2 && (Nat.blt τ.2.1 1000000 && Nat.blt k 1000000)) with
        | false => rw [hb] at hg; cases hg
        | true =>
          rw [hb] at hg
          have hg : some ((1, Int.ofNat τ.2.1, []) : szV) = some v := hg
          cases hg
          simp only [Bool.and_eq_true] at hb
          obtain ⟨b1, b2, b3⟩ := hb
          have b1 := Nat.eq_of_beq_eq_true b1
          have b2 : τ.2.1 < 1000000 := Nat.le_of_ble_eq_true b2
          have b3 : k < 1000000 := Nat.le_of_ble_eq_true b3
          rw [az_nat_ix b3]
          obtain ⟨w, w1, w2⟩ := az_slot_of (az_cell_ok H hc hn) hτ
          refine ⟨by omega, ?_⟩
          rw [Int.toNat_natCast, w1]
          unfold az_in at w2
          rw [b1] at w2
          rw [w2]
          rw [sz_v1 rfl, if_pos (by show ((τ.2.1 : Nat) : Int) < 1000000; omega)]
          rfl
      · cases hg
    · cases hg
theorem az_ix_ok (hR : sz_R R ρ) (hC : az_S Cs ρ) (v : szV) : ∃ ix : Int × szT, (∀ (β : Type) (k : Int × szT → β), az_ix R Cs v k = k ix) ∧ sz_i ρ (0, ix) = sz_i ρ v := by
  unfold az_ix
  split
  · rename_i c hc
    refine ⟨(c, []), fun β k => sz_fi_eq c _, ?_⟩
    rw [(az_k_ok hR hC hc).2.2.2.1]
    exact sz_i_const ρ 0 c
  · exact ⟨v.2, fun _ _ => rfl, rfl⟩
end
noncomputable def az_h20 (F : azF) (new : Bool) (a b : Nat) (st : List szV) : Option (List szV) := match st with
  | r :: rest => az_at new r (fun c C => bif Nat.beq C.1 (Nat.mul 2 b) && Nat.blt a 1000000 then (match az_get F c C (Int.ofNat a, []) with
    | some v => some (v :: rest)
    | none => none) else none)
  | _ => none
noncomputable def az_h22 (R : szR) (Cs : azS) (F : azF) (new : Bool) (a : Nat) (st : List szV) : Option (List szV) := match st with
  | i :: r :: rest => bif Nat.beq i.1 0 then (bif Nat.beq r.1 1 && Nat.blt r.2.1.toNat 4 then (match sz_nth azX r.2.1.toNat, az_k R Cs i with
      | some l, some (.ofNat k) => (match sz_nth l k with
        | some c => bif Nat.beq a 0 && (Nat.ble 1 r.2.1.toNat && Nat.blt k 1000000) then some ((0, c, []) :: rest) else none
        | none => none)
      | _, _ => none)
    else az_at new r (fun c C => bif mz_akind a C.1 then az_ix R Cs i (fun ix => match az_get F c C ix with
      | some v => some (v :: rest)
      | none => none) else none)) else none
  | _ => none
noncomputable def az_h24 (new : Bool) (st : List szV) : Option (List szV) := match st with
  | r :: rest => bif Nat.beq r.1 1 && Nat.blt r.2.1.toNat 4 then (match sz_nth azX r.2.1.toNat with
      | some l => bif Nat.ble 1 r.2.1.toNat then some ((0, (l.length : Int), []) :: rest) else none
      | none => none)
    else az_at new r (fun _ C => bif Nat.beq (Nat.mod C.1 2) 1 && (Nat.blt C.1 10 && Nat.blt C.2.1 1000000) then some ((0, (C.2.1 : Int), []) :: rest) else none)
  | _ => none
/-- what is asked of the script's place and the static arrays -/
def az_X (X : List (List Value)) : Prop := ∀ r l, azX[r]? = some l → 1 ≤ r → X[r]? = some (l.map (fun c => Value.int (Int32.ofInt c)))
section
variable {D : szD} {R : szR} {Cs : azS} {ρ : Nat → Int} {mods : List (Nat × Nat)} {h0 h : List mzC} {F : azF} {dirty : List Nat} {new : Bool} {u : Nat} {st st' : List szV} {a b : Nat}
theorem az_h20_ok (H : az_HR mods h0 ρ F dirty new u h) (s2 : Nat × Nat) (e : az_h20 F new a b st = some st') : mz_h20 a b (st.map (sz_v ρ)) (h, s2) = some (st'.map (sz_v ρ), (h, s2)) := by
  unfold az_h20 at e
  split at e
  · rename_i r rest
    obtain ⟨c, C, e1, e2, e3, e4⟩ := az_at_ok e
    cases hb : (Nat.beq C.1 (Nat.mul 2 b) && Nat.blt a 1000000) with
    | false => rw [hb] at e4; cases e4
    | true =>
      rw [hb] at e4
      dsimp only [cond] at e4
      rw [Bool.and_eq_true] at hb
      have b1 : C.1 = 2 * b := Nat.eq_of_beq_eq_true hb.1
      have b2 : a < 1000000 := Nat.le_of_ble_eq_true hb.2
      split at e4
      · rename_i v hv
        cases e4
        obtain ⟨n, fs, n1, n2, n3, n4, n5, n6, n7⟩ := az_cr_ok H e1 e2 e3 s2
        obtain ⟨g1, g2⟩ := az_get_ok H e2 e3 hv
        rw [az_nat_ix b2, Int.toNat_natCast] at g2
        unfold az_slot at g2
        rw [n5] at g2
        have g2 : fs[a]? = some (sz_v ρ v) := g2
        show mz_h20 a b (sz_v ρ r :: rest.map (sz_v ρ)) (h, s2) = _
        rw [n1]
        unfold mz_h20
        dsimp only
        rw [n4]
        dsimp only
        rw [if_pos b1, g2]
        rfl
      · cases e4
  · cases e
theorem az_h22_ok {X : List (List Value)} (hX : az_X X) (hR : sz_R R ρ) (hC : az_S Cs ρ) (H : az_HR mods h0 ρ F dirty new u h) (s2 : Nat × Nat) (e : az_h22 R Cs F new a st = some st') : mz_h22 X a (st.map (sz_v ρ)) (h, s2) = some (st'.map (sz_v ρ), (h, s2)) := by
  unfold az_h22 at e
  split at e
  · rename_i i r rest
    cases hi : Nat.beq i.1 0 with
    | false => rw [hi] at e; cases e
    | true =>
    rw [hi] at e
    dsimp only [cond] at e
    have hi := Nat.eq_of_beq_eq_true hi
    show mz_h22 X a (sz_v ρ i :: sz_v ρ r :: rest.map (sz_v ρ)) (h, s2) = _
    rw [sz_vi hi]
    cases hs : (Nat.beq r.1 1 && Nat.blt r.2.1.toNat 4) with
    | true =>
      rw [hs] at e
      dsimp only at e
      rw [Bool.and_eq_true] at hs
      have s1 := Nat.eq_of_beq_eq_true hs.1
      have s4 : r.2.1.toNat < 4 := Nat.le_of_ble_eq_true hs.2
      have hv : sz_v ρ r = .ref r.2.1.toNat := by
        rw [sz_v1 s1, if_pos (by omega)]
      rw [sz_nth_eq] at e
      split at e
      · rename_i l k hl hk
        rw [sz_nth_eq] at e
        split at e
        · rename_i c hc
          cases hb : (Nat.beq a 0 && (Nat.ble 1 r.2.1.toNat && Nat.blt k 1000000)) with
          | false => rw [hb] at e; cases e
          | true =>
            rw [hb] at e
            have e : some (((0, c, []) : szV) :: rest) = some st' := e
            cases e
            simp only [Bool.and_eq_true] at hb
            have b1 := Nat.eq_of_beq_eq_true hb.1
            have b2 : 1 ≤ r.2.1.toNat := Nat.le_of_ble_eq_true hb.2.1
            have b3 : k < 1000000 := Nat.le_of_ble_eq_true hb.2.2
            have hxx := hX _ _ hl b2
            have hki := (az_k_ok hR hC hk).2.2.2.2
            rw [hv]
            unfold mz_h22
            dsimp only
            rw [if_pos s4, hxx]
            dsimp only
            rw [if_pos b1]
            have hin : mz_in (sz_i ρ i) (l.map (fun c => Value.int (Int32.ofInt c))) = some (.int (Int32.ofInt c)) := by
              unfold mz_in
              have hki : (sz_i ρ i).toInt = (k : Int) := hki
              rw [if_neg (fun hh => by
                have := Int32.lt_iff_toInt_lt.mp hh
                have z : (0 : Int32).toInt = 0 := rfl
                omega)]
              have : (sz_i ρ i).toNatClampNeg = k := by
                show (sz_i ρ i).toInt.toNat = k
                rw [hki, Int.toNat_natCast]
              rw [this, List.getElem?_map, hc]
              rfl
            rw [hin]
            show some (Value.int (Int32.ofInt c) :: rest.map (sz_v ρ), (h, s2)) = some (Value.int (sz_i ρ (0, c, [])) :: rest.map (sz_v ρ), (h, s2))
            rw [sz_i_const]
        · cases e
      · cases e
    | false =>
      rw [hs] at e
      dsimp only at e
      obtain ⟨c, C, e1, e2, e3, e4⟩ := az_at_ok e
      cases hb : mz_akind a C.1 with
      | false => rw [hb] at e4; cases e4
      | true =>
        rw [hb] at e4
        dsimp only [cond] at e4
        obtain ⟨ix, i1, i2⟩ := az_ix_ok hR hC i
        rw [i1] at e4
        split at e4
        · rename_i v hv
          cases e4
          obtain ⟨n, fs, n1, n2, n3, n4, n5, n6, n7⟩ := az_cr_ok H e1 e2 e3 s2
          obtain ⟨g1, g2⟩ := az_get_ok H e2 e3 hv
          rw [i2] at g1 g2
          unfold az_slot at g2
          rw [n5] at g2
          rw [n1]
          unfold mz_h22
          dsimp only
          rw [if_neg n2, n4]
          dsimp only
          rw [if_pos hb]
          have hin : mz_in (sz_i ρ i) fs = some (sz_v ρ v) := by
            unfold mz_in
            rw [if_neg (fun hh => by
              have := Int32.lt_iff_toInt_lt.mp hh
              have z : (0 : Int32).toInt = 0 := rfl
              omega)]
            exact g2
          rw [hin]
          rfl
        · cases e4
  · cases e
theorem az_h24_ok {X : List (List Value)} (hX : az_X X) (H : az_HR mods h0 ρ F dirty new u h) (s2 : Nat × Nat) (e : az_h24 new st = some st') : mz_h24 X (st.map (sz_v ρ)) (h, s2) = some (st'.map (sz_v ρ), (h, s2)) := by
  unfold az_h24 at e
  split at e
  · rename_i r rest
    show mz_h24 X (sz_v ρ r :: rest.map (sz_v ρ)) (h, s2) = _
    cases hs : (Nat.beq r.1 1 && Nat.blt r.2.1.toNat 4) with
    | true =>
      rw [hs] at e
      dsimp only [cond] at e
      rw [Bool.and_eq_true] at hs
      have s1 := Nat.eq_of_beq_eq_true hs.1
      have s4 : r.2.1.toNat < 4 := Nat.le_of_ble_eq_true hs.2
      have hv : sz_v ρ r = .ref r.2.1.toNat := by
        rw [sz_v1 s1, if_pos (by omega)]
      rw [sz_nth_eq] at e
      split at e
      · rename_i l hl
        cases hb : Nat.ble 1 r.2.1.toNat with
        | false => rw [hb] at e; cases e
        | true =>
          rw [hb] at e
          have e : some (((0, (l.length : Int), []) : szV) :: rest) = some st' := e
          cases e
          rw [hv]
          unfold mz_h24
          dsimp only
          rw [if_pos s4, hX _ _ hl (Nat.le_of_ble_eq_true hb)]
          dsimp only
          rw [List.length_map]
          show some (Value.int (Int32.ofNat l.length) :: rest.map (sz_v ρ), (h, s2)) = some (Value.int (sz_i ρ (0, (l.length : Int), [])) :: rest.map (sz_v ρ), (h, s2))
          rw [sz_i_const]
          rfl
      · cases e
    | false =>
      rw [hs] at e
      dsimp only [cond] at e
      obtain ⟨c, C, e1, e2, e3, e4⟩ := az_at_ok e
      cases hb : (Nat.beq (Nat.mod C.1 2) 1 && (Nat.blt C.1 10 && Nat.blt C.2.1 1000000)) with
      | false => rw [hb] at e4; cases e4
      | true =>
        rw [hb] at e4
        have e4 : some (((0, (C.2.1 : Int), []) : szV) :: rest) = some st' := e4
        cases e4
        simp only [Bool.and_eq_true] at hb
        have b1 : C.1 % 2 = 1 := Nat.eq_of_beq_eq_true hb.1
        have b2 : C.1 < 10 := Nat.le_of_ble_eq_true hb.2.1
        obtain ⟨n, fs, n1, n2, n3, n4, n5, n6, n7⟩ := az_cr_ok H e1 e2 e3 s2
        rw [n1]
        unfold mz_h24
        dsimp only
        rw [if_neg n2, n4]
        dsimp only
        rw [if_pos ⟨b1, b2⟩, n6]
        show some (Value.int (Int32.ofNat C.2.1) :: rest.map (sz_v ρ), (h, s2)) = some (Value.int (sz_i ρ (0, (C.2.1 : Int), [])) :: rest.map (sz_v ρ), (h, s2))
        rw [sz_i_const]
        rfl
  · cases e
end
