/-! writes -/
/-- the type of all slots that an index may mean -/
noncomputable def az_hom (R : szR) (C : azC) (ix : Int × szT) : Option azTy := bif Nat.beq C.2.2.1 0 then (match ix.2 with
    | [(k, a)] => sz_fi (sz_at R k).1 (fun l => sz_fi (sz_at R k).2 (fun h => match az_ty C (ix.1 + a * l).toNat with
      | some τ => bif (List.range (h - l + 1).toNat).all (fun d => decide (az_ty C (ix.1 + a * (l + (d : Int))).toNat = some τ)) then some τ else none
      | none => none))
    | _ => none) else sz_nth azTs (Nat.pred C.2.2.1)
noncomputable def az_put1 (D : szD) (R : szR) (Cs : azS) (F : azF) (c : Nat) (ix : Int × szT) (v : szV) : azF := (bif Nat.beq v.1 0 then [(c, ix, v)] else []) ++ F.filter (az_keep R Cs c ix)
noncomputable def az_putk {β : Type} (D : szD) (R : szR) (Cs : azS) (F : azF) (c : Nat) (ix : Int × szT) (v : szV) (k : azF → β) : β := az_flt (az_keep R Cs c ix) F (fun F => bif Nat.beq v.1 0 then az_fv v (fun v => k ((c, ix, v) :: F)) else k F)
theorem az_putk_eq {β : Type} {D : szD} {R : szR} {Cs : azS} {F : azF} {c : Nat} {ix : Int × szT} {v : szV} {k : azF → β} : az_putk D R Cs F c ix v k = k (az_put1 D R Cs F c ix v) := by
  unfold az_putk az_put1
  rw [az_flt_eq]
  cases Nat.beq v.1 0 with
  | true => dsimp only [cond]; rw [az_fv_eq]; rfl
  | false => rfl
noncomputable def az_put (D : szD) (R : szR) (Cs : azS) (mods : List (Nat × Nat)) (F : azF) (dirty : List Nat) (c : Nat) (C : azC) (ix : Int × szT) (v : szV) : Option (azF × List Nat) := match ix with
  | (.ofNat k, []) => (match az_ty C k with
    | some τ => bif az_sub D R Cs v τ && (Nat.blt k 1000000 && (Nat.beq c 1000000 || az_md mods c k)) then az_putk D R Cs F c (.ofNat k, []) v (fun F' => some (F', az_dt2 R Cs F F' c k dirty)) else none
    | none => none)
  | ix => bif (az_inb R Cs ix C.2.1 && Nat.blt C.2.1 1000000) && ((match az_pof c with
      | [] => true
      | _ => false) && mods.any (fun m => Nat.beq m.1 c && Nat.beq m.2 0)) then (match az_hom R C ix with
    | some τ => bif az_sub D R Cs v τ then az_putk D R Cs F c ix v (fun F => some (F, dirty)) else none
    | none => none) else none
noncomputable def az_nar (D : szD) (R : szR) (Cs : azS) (t : Nat) (v : szV) : Option szV :=
  if t = 1 then (if v.1 = 0 then some v else none)
  else if t = 5 then (if v.1 = 0 then az_un D R Cs 1 v else none)
  else if t = 7 then (if v.1 = 0 ∧ az_nw R Cs v = true ∧ 0 ≤ az_lb R Cs v.2.1 v.2.2 ∧ az_ub R Cs v.2.1 v.2.2 ≤ 1 then some v else none)
  else if t = 3 then (if v.1 = 2 ∨ v.1 = 5 then some v else none) else none
def az_fit (k : Int) (l h : Int) : Bool := decide (k = 0) || (decide (k = 1) && (decide (0 ≤ l) && decide (h ≤ 1)))
noncomputable def az_h21 (D : szD) (R : szR) (Cs : azS) (mods : List (Nat × Nat)) (F : azF) (dirty : List Nat) (new : Bool) (a b : Nat) (k : Int) (st : List szV) : Option (List szV × azF × List Nat) := match st with
  | v :: r :: rest => az_at new r (fun c C => bif Nat.beq C.1 (Nat.mul 2 b) && (Nat.beq v.1 0 && (az_nw R Cs v && az_fit k (az_lb R Cs v.2.1 v.2.2) (az_ub R Cs v.2.1 v.2.2))) then (match az_put D R Cs mods F dirty c C (.ofNat a, []) v with
    | some (F, d) => some (rest, F, d)
    | none => none) else none)
  | _ => none
noncomputable def az_h23 (D : szD) (R : szR) (Cs : azS) (mods : List (Nat × Nat)) (F : azF) (dirty : List Nat) (new : Bool) (a : Nat) (st : List szV) : Option (List szV × azF × List Nat) := match st with
  | v :: i :: r :: rest => az_at new r (fun c C => bif mz_akind a C.1 && Nat.beq i.1 0 then az_ix R Cs i (fun ix => match az_nar D R Cs C.1 v with
    | some w => (match az_put D R Cs mods F dirty c C ix w with
      | some (F, d) => some (rest, F, d)
      | none => none)
    | none => none) else none)
  | _ => none
section
variable {D : szD} {R : szR} {Cs : azS} {ρ : Nat → Int} {mods : List (Nat × Nat)} {h0 h : List mzC} {F F' : azF} {dirty dirty' : List Nat} {new : Bool} {u : Nat} {st st' : List szV} {a b : Nat}
theorem az_hom_ok (hR : sz_R R ρ) {C : azC} {ix : Int × szT} {τ : azTy} (h : az_hom R C ix = some τ) (h0 : 0 ≤ ix.1 + sz_sum ρ ix.2) (h1 : ix.1 + sz_sum ρ ix.2 < (C.2.1 : Int)) : az_ty C (ix.1 + sz_sum ρ ix.2).toNat = some τ := by
  unfold az_hom at h
  cases hb : Nat.beq C.2.2.1 0 with
  | false =>
    rw [hb] at h
    unfold az_ty
    have : Nat.blt (ix.1 + sz_sum ρ ix.2).toNat C.2.1 = true := Nat.ble_eq_true_of_le (by omega)
    rw [this, hb]
    exact h
  | true =>
    rw [hb] at h
    dsimp only [cond] at h
    obtain ⟨c, t⟩ := ix
    dsimp only at h h0 h1 ⊢
    split at h
    · rename_i k a
      rw [sz_fi_eq, sz_fi_eq] at h
      split at h
      · rename_i τ' hτ
        cases hall : (List.range ((sz_at R k).2 - (sz_at R k).1 + 1).toNat).all (fun d => decide (az_ty C (c + a * ((sz_at R k).1 + (d : Int))).toNat = some τ')) with
        | false => rw [hall] at h; cases h
        | true =>
          rw [hall] at h
          have h : some τ' = some τ := h
          cases h
          have hk := hR k
          have := List.all_eq_true.mp hall (ρ k - (sz_at R k).1).toNat (List.mem_range.mpr (by omega))
          rw [decide_eq_true_eq] at this
          have e : (sz_at R k).1 + ((ρ k - (sz_at R k).1).toNat : Int) = ρ k := by omega
          rw [e] at this
          show az_ty C (c + (a * ρ k + 0)).toNat = some τ
          rw [Int.add_zero]
          exact this
      · cases h
    · cases h
theorem az_put_ok (hV : az_V D R Cs ρ) (H : az_HR mods h0 ρ F dirty new u h) {c : Nat} {C : azC} (hc : az_cell c = some C) (hn : c = 1000000 → new = true) {fs : List Value} (hr : h[az_c ρ c]? = some (C.1, fs)) {ix : Int × szT} {v : szV} (e : az_put D R Cs mods F dirty c C ix v = some (F', dirty')) :
    0 ≤ (sz_i ρ (0, ix)).toInt ∧ (sz_i ρ (0, ix)).toInt.toNat < C.2.1 ∧ az_HR mods h0 ρ F' dirty' new u (h.set (az_c ρ c) (C.1, fs.set (sz_i ρ (0, ix)).toInt.toNat (sz_v ρ v))) := by
  obtain ⟨V1, V2, V3, V4, V5⟩ := id hV
  have hfacts : ∀ (k : Nat), (sz_i ρ (0, ix)).toInt = (k : Int) → ∀ q ∈ az_put1 D R Cs F c ix v, (q ∈ F ∧ (q.1 ≠ c ∨ (sz_i ρ (0, q.2.1)).toInt ≠ (k : Int))) ∨ (q.1 = c ∧ (sz_i ρ (0, q.2.1)).toInt = (k : Int) ∧ sz_v ρ q.2.2 = sz_v ρ v) := by
    intro k hk q hq
    unfold az_put1 at hq
    rcases List.mem_append.mp hq with hq | hq
    · right
      cases hb : Nat.beq v.1 0 with
      | false => rw [hb] at hq; cases hq
      | true =>
        rw [hb] at hq
        have hq : q ∈ [(c, ix, v)] := hq
        rw [List.mem_singleton] at hq
        subst hq
        exact ⟨rfl, hk, rfl⟩
    · left
      obtain ⟨q1, q2⟩ := List.mem_filter.mp hq
      refine ⟨q1, ?_⟩
      rw [← hk]
      exact az_keep_ok V2 V3 q2
  unfold az_put at e
  split at e
  · rename_i k
    split at e
    · rename_i τ hτ
      cases hb : (az_sub D R Cs v τ && (Nat.blt k 1000000 && (Nat.beq c 1000000 || az_md mods c k))) with
      | false => rw [hb] at e; cases e
      | true =>
        rw [hb] at e
        dsimp only [cond] at e
        rw [az_putk_eq] at e
        cases e
        simp only [Bool.and_eq_true] at hb
        obtain ⟨b1, b2, b3⟩ := hb
        have b2 : k < 1000000 := Nat.le_of_ble_eq_true b2
        have hk := az_nat_ix (ρ := ρ) b2
        have hk' : (sz_i ρ (0, (Int.ofNat k, []))).toInt.toNat = k := by rw [hk, Int.toNat_natCast]
        refine ⟨by rw [hk]; omega, by rw [hk']; exact az_ty_lt hτ, ?_⟩
        rw [hk']
        refine az_HR_put hV H hc hn hτ (az_sub_ok V2 V3 V4 b1) (fun hM => ?_) hr b2 (hfacts k hk)
        rw [Bool.or_eq_true] at b3
        rcases b3 with b3 | b3
        · exact absurd (Nat.eq_of_beq_eq_true b3) hM
        · exact b3
    · cases e
  · rename_i ix' hix
    cases hb : ((az_inb R Cs ix C.2.1 && Nat.blt C.2.1 1000000) && ((match az_pof c with
      | [] => true
      | _ => false) && mods.any (fun m => Nat.beq m.1 c && Nat.beq m.2 0))) with
    | false => rw [hb] at e; cases e
    | true =>
      rw [hb] at e
      dsimp only [cond] at e
      simp only [Bool.and_eq_true] at hb
      obtain ⟨⟨b1, b2⟩, b3, b4⟩ := hb
      split at e
      · rename_i τ hτ
        cases hs : az_sub D R Cs v τ with
        | false => rw [hs] at e; cases e
        | true =>
          rw [hs] at e
          dsimp only at e
          rw [az_putk_eq] at e
          cases e
          unfold az_inb at b1
          simp only [Bool.and_eq_true, decide_eq_true_eq] at b1
          obtain ⟨⟨i1, i2⟩, i3⟩ := b1
          have hx := az_nw_ok V2 V3 i3
          dsimp only at hx
          have l1 := az_lb_ok V2 V3 ix.1 ix.2
          have l2 := az_ub_ok V2 V3 ix.1 ix.2
          have b2 : C.2.1 < 1000000 := Nat.le_of_ble_eq_true b2
          have ht := az_hom_ok V2 hτ (by omega) (by omega)
          rw [← hx] at ht
          have hk : (sz_i ρ (0, ix)).toInt = ((sz_i ρ (0, ix)).toInt.toNat : Int) := by omega
          refine ⟨by omega, by omega, ?_⟩
          have hmd : ∀ k, az_md mods c k = true := by
            intro k
            obtain ⟨m, m1, m2⟩ := List.any_eq_true.mp b4
            rw [Bool.and_eq_true] at m2
            refine List.any_eq_true.mpr ⟨m, m1, ?_⟩
            rw [m2.1, m2.2]
            rfl
          have hp : az_pof c = [] := by
            split at b3
            · assumption
            · cases b3
          have := az_HR_put hV H hc hn ht (az_sub_ok V2 V3 V4 hs) (fun _ => hmd _) hr (by omega) (hfacts _ hk)
          rw [az_dt2_nil hp] at this
          exact this
      · cases e
theorem az_nar_ok (hD : sz_D D ρ) (hR : sz_R R ρ) (hC : az_S Cs ρ) {t : Nat} {v w : szV} (e : az_nar D R Cs t v = some w) (s : mzS) : mz_nar s t (sz_v ρ v) = some (sz_v ρ w) := by
  unfold az_nar at e
  split at e
  · rename_i ht
    subst ht
    split at e
    · rename_i hv
      cases e
      rw [sz_vi hv]
      rfl
    · cases e
  split at e
  · rename_i ht
    subst ht
    split at e
    · rename_i hv
      obtain ⟨h1, h2⟩ := az_un_ok hD hR hC e
      rw [sz_vi hv, sz_vi h1]
      have h2 : some ((sz_i ρ v).toInt8.toInt32) = some (sz_i ρ w) := h2
      rw [← Option.some.inj h2]
      rfl
    · cases e
  split at e
  · rename_i ht
    subst ht
    split at e
    · rename_i hv
      cases e
      obtain ⟨h1, h2, h3, h4⟩ := hv
      have hx := az_nw_ok hR hC h2
      have l1 := az_lb_ok hR hC v.2.1 v.2.2
      have l2 := az_ub_ok hR hC v.2.1 v.2.2
      rw [sz_vi h1]
      show some (Value.int (sz_i ρ v &&& 1)) = _
      have : sz_i ρ v = 0 ∨ sz_i ρ v = 1 := by
        have h5 : (sz_i ρ v).toInt = 0 ∨ (sz_i ρ v).toInt = 1 := by omega
        rcases h5 with h5 | h5
        · exact Or.inl (Int32.toInt_inj.mp h5)
        · exact Or.inr (Int32.toInt_inj.mp h5)
      rcases this with e | e <;> rw [e] <;> rfl
    · cases e
  split at e
  · rename_i ht
    subst ht
    split at e
    · rename_i hv
      cases e
      have hz : ∃ z, sz_v ρ v = .long z := by
        rcases hv with h1 | h1
        · exact ⟨_, sz_vl h1⟩
        · exact ⟨_, sz_v5 h1⟩
      obtain ⟨z, hz⟩ := hz
      rw [hz]
      rfl
    · cases e
  · cases e
theorem az_h21_ok {k : Int} (hV : az_V D R Cs ρ) (H : az_HR mods h0 ρ F dirty new u h) (s2 : Nat × Nat) (e : az_h21 D R Cs mods F dirty new a b k st = some (st', F', dirty')) : ∃ h', mz_h21 a b k (st.map (sz_v ρ)) (h, s2) = some (st'.map (sz_v ρ), (h', s2)) ∧ az_HR mods h0 ρ F' dirty' new u h' := by
  obtain ⟨V1, V2, V3, V4, V5⟩ := id hV
  unfold az_h21 at e
  split at e
  · rename_i v r rest
    obtain ⟨c, C, e1, e2, e3, e4⟩ := az_at_ok e
    cases hb : (Nat.beq C.1 (Nat.mul 2 b) && (Nat.beq v.1 0 && (az_nw R Cs v && az_fit k (az_lb R Cs v.2.1 v.2.2) (az_ub R Cs v.2.1 v.2.2)))) with
    | false => rw [hb] at e4; cases e4
    | true =>
      rw [hb] at e4
      dsimp only [cond] at e4
      simp only [Bool.and_eq_true] at hb
      obtain ⟨b1, b2, b3, b4⟩ := hb
      have b1 : C.1 = 2 * b := Nat.eq_of_beq_eq_true b1
      have b2 := Nat.eq_of_beq_eq_true b2
      split at e4
      · rename_i F1 d1 hput
        cases e4
        obtain ⟨n, fs, n1, n2, n3, n4, n5, n6, n7⟩ := az_cr_ok H e1 e2 e3 s2
        obtain ⟨p1, p2, p3⟩ := az_put_ok hV H e2 e3 n5 hput
        have ha : (sz_i ρ (0, (Int.ofNat a, []))).toInt.toNat = a := by
          unfold az_put at hput
          dsimp only at hput
          split at hput
          · rename_i τ hτ
            cases hb : (az_sub D R Cs v τ && (Nat.blt a 1000000 && (Nat.beq c 1000000 || az_md mods c a))) with
            | false => rw [hb] at hput; cases hput
            | true =>
              simp only [Bool.and_eq_true] at hb
              rw [az_nat_ix (Nat.le_of_ble_eq_true hb.2.1), Int.toNat_natCast]
          · cases hput
        rw [ha] at p2 p3
        refine ⟨_, ?_, p3⟩
        show mz_h21 a b k (sz_v ρ v :: sz_v ρ r :: st'.map (sz_v ρ)) (h, s2) = _
        rw [n1]
        unfold mz_h21
        dsimp only
        rw [n4]
        dsimp only
        rw [if_pos]
        · unfold mz_set
          rw [n3]
        · refine ⟨b1, by omega, ?_⟩
          rw [sz_vi b2]
          have hx := az_nw_ok V2 V3 b3
          have l1 := az_lb_ok V2 V3 v.2.1 v.2.2
          have l2 := az_ub_ok V2 V3 v.2.1 v.2.2
          unfold az_fit at b4
          rw [Bool.or_eq_true, decide_eq_true_eq] at b4
          unfold mz_fit
          dsimp only
          rcases b4 with b4 | b4
          · rw [b4]; rfl
          · simp only [Bool.and_eq_true, decide_eq_true_eq] at b4
            have h5 : (sz_i ρ v).toInt = 0 ∨ (sz_i ρ v).toInt = 1 := by omega
            rw [b4.1]
            rcases h5 with h5 | h5
            · rw [show sz_i ρ v = 0 from Int32.toInt_inj.mp h5]; rfl
            · rw [show sz_i ρ v = 1 from Int32.toInt_inj.mp h5]; rfl
      · cases e4
  · cases e
theorem az_h23_ok (hV : az_V D R Cs ρ) (H : az_HR mods h0 ρ F dirty new u h) (s2 : Nat × Nat) (e : az_h23 D R Cs mods F dirty new a st = some (st', F', dirty')) : ∃ h', mz_h23 a (st.map (sz_v ρ)) (h, s2) = some (st'.map (sz_v ρ), (h', s2)) ∧ az_HR mods h0 ρ F' dirty' new u h' := by
  obtain ⟨V1, V2, V3, V4, V5⟩ := id hV
  unfold az_h23 at e
  split at e
  · rename_i v i r rest
    obtain ⟨c, C, e1, e2, e3, e4⟩ := az_at_ok e
    cases hb : (mz_akind a C.1 && Nat.beq i.1 0) with
    | false => rw [hb] at e4; cases e4
    | true =>
      rw [hb] at e4
      dsimp only [cond] at e4
      rw [Bool.and_eq_true] at hb
      have b2 := Nat.eq_of_beq_eq_true hb.2
      obtain ⟨ix, i1, i2⟩ := az_ix_ok V2 V3 i
      rw [i1] at e4
      split at e4
      · rename_i w hw
        split at e4
        · rename_i F1 d1 hput
          cases e4
          obtain ⟨n, fs, n1, n2, n3, n4, n5, n6, n7⟩ := az_cr_ok H e1 e2 e3 s2
          obtain ⟨p1, p2, p3⟩ := az_put_ok hV H e2 e3 n5 hput
          rw [i2] at p1 p2 p3
          refine ⟨_, ?_, p3⟩
          show mz_h23 a (sz_v ρ v :: sz_v ρ i :: sz_v ρ r :: st'.map (sz_v ρ)) (h, s2) = _
          rw [sz_vi b2, n1]
          unfold mz_h23
          dsimp only
          rw [n4]
          dsimp only
          rw [if_pos hb.1]
          have hin : ∃ z, mz_in (sz_i ρ i) fs = some z := by
            unfold mz_in
            rw [if_neg (fun hh => by
              have := Int32.lt_iff_toInt_lt.mp hh
              have z : (0 : Int32).toInt = 0 := rfl
              omega)]
            exact ⟨_, List.getElem?_eq_getElem (show (sz_i ρ i).toNatClampNeg < fs.length from by show (sz_i ρ i).toInt.toNat < fs.length; omega)⟩
          obtain ⟨z, hz⟩ := hin
          rw [hz, az_nar_ok V1 V2 V3 hw (h, s2)]
          dsimp only
          unfold mz_set
          rw [n3]
          rfl
        · cases e4
      · cases e4
  · cases e
end
