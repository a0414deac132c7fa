/-! a write -/
theorem az_slot_set {h : List mzC} {r t : Nat} {fs fs' : List Value} (hr : h[r]? = some (t, fs)) (c' k' : Nat) : az_slot (h.set r (t, fs')) c' k' = if c' = r then fs'[k']? else az_slot h c' k' := by
  have hlt : r < h.length := (List.getElem?_eq_some_iff.mp hr).1
  unfold az_slot
  by_cases hc : c' = r
  · subst hc
    rw [List.getElem?_set_self hlt, if_pos rfl]
  · rw [List.getElem?_set_ne (fun e => hc e.symm), if_neg hc]
theorem az_HC_set {h : List mzC} {r : Nat} {C : azC} {fs fs' : List Value} (hr : h[r]? = some (C.1, fs)) (hl : fs'.length = C.2.1) (ht : ∀ k τ, az_ty C k = some τ → ∃ v, fs'[k]? = some v ∧ az_in τ v) {r' : Nat} {C' : azC} (hC : az_HC h r' C') (hsame : r' = r → C' = C) : az_HC (h.set r (C.1, fs')) r' C' := by
  have hlt : r < h.length := (List.getElem?_eq_some_iff.mp hr).1
  obtain ⟨gs, g1, g2, g3⟩ := hC
  by_cases hc : r' = r
  · have := hsame hc
    subst this
    subst hc
    exact ⟨fs', by rw [List.getElem?_set_self hlt], hl, ht⟩
  · exact ⟨gs, by rw [List.getElem?_set_ne (fun e => hc e.symm)]; exact g1, g2, g3⟩
/-- cells with different numbers lie apart -/
theorem az_c_inj {ρ : Nat → Int} {h : List mzC} {new : Bool} {u : Nat} (hN : az_HN ρ h new u) (hL : azL.length < 1000000) {c c' : Nat} (hc : az_vc new c) (hc' : az_vc new c') (h : az_c ρ c = az_c ρ c') : c = c' := by
  unfold az_c at h
  rcases hc with hc | ⟨hc, hn⟩
  · rcases hc' with hc' | ⟨hc', hn'⟩
    · rw [if_neg (by omega), if_neg (by omega)] at h
      exact h
    · rw [if_neg (by omega), if_pos hc'] at h
      have := (hN.1 hn').1
      omega
  · rcases hc' with hc' | ⟨hc', hn'⟩
    · rw [if_pos hc, if_neg (by omega)] at h
      have := (hN.1 hn).1
      omega
    · omega
theorem az_cell_lt {c : Nat} {C : azC} (h : az_cell c = some C) : c < azL.length ∨ c = 1000000 := by
  unfold az_cell at h
  cases hb : Nat.beq c 1000000 with
  | true => exact Or.inr (Nat.eq_of_beq_eq_true hb)
  | false =>
    rw [hb] at h
    have h : sz_nth azL c = some C := h
    rw [sz_nth_eq] at h
    exact Or.inl (List.getElem?_eq_some_iff.mp h).1
theorem az_HR_set {mods : List (Nat × Nat)} {h0 h : List mzC} {ρ : Nat → Int} {F F' : azF} {dirty dirty' : List Nat} {new : Bool} {u : Nat} (hL : azL.length < 1000000) (H : az_HR mods h0 ρ F dirty new u h) {c : Nat} {C : azC} (hc : az_cell c = some C) (hn : c = 1000000 → new = true)
    {fs fs' : List Value} (hr : h[az_c ρ c]? = some (C.1, fs)) (hl : fs'.length = C.2.1) (ht : ∀ k τ, az_ty C k = some τ → ∃ v, fs'[k]? = some v ∧ az_in τ v) (hm : c ≠ 1000000 → ∀ k, az_md mods c k = false → fs'[k]? = fs[k]?)
    (hF : ∀ q ∈ F', az_vc new q.1 ∧ 0 ≤ (sz_i ρ (0, q.2.1)).toInt ∧ ((q ∈ F ∧ q.1 ≠ c) ∨ (q.1 = c ∧ fs'[(sz_i ρ (0, q.2.1)).toInt.toNat]? = some (sz_v ρ q.2.2))))
    (hP : ∀ i p, azPs[i]? = some p → i ∉ dirty' → (i ∉ dirty ∧ p.1 ≠ c ∧ p.2.2.2.1 ≠ c ∧ p.1 < azL.length ∧ p.2.2.2.1 < azL.length) ∨ az_HP1 (h.set (az_c ρ c) (C.1, fs')) p) :
    az_HR mods h0 ρ F' dirty' new u (h.set (az_c ρ c) (C.1, fs')) := by
  have hcl : az_vc new c := (az_cell_lt hc).imp id (fun e => ⟨e, hn e⟩)
  obtain ⟨H1, H2, H3, H4, H5, H6, H7⟩ := id H
  have hinj : ∀ {c'}, az_vc new c' → az_c ρ c' = az_c ρ c → c' = c := fun hc' e => az_c_inj H2 hL hc' hcl e
  have hst : ∀ {c'}, c' < azL.length → az_c ρ c' = c' := fun hc' => if_neg (by omega)
  refine ⟨?_, ⟨?_, ?_⟩, ?_, ?_, ?_, ?_, ?_⟩
  · intro c' C' hC'
    have hlt : c' < azL.length := (List.getElem?_eq_some_iff.mp hC').1
    refine az_HC_set hr hl ht (H1 c' C' hC') (fun e => ?_)
    have e2 : c' = c := hinj (Or.inl hlt) (by rw [hst hlt]; exact e)
    subst e2
    unfold az_cell at hc
    have hb : Nat.beq c' 1000000 = false := by
      cases hb : Nat.beq c' 1000000 with
      | false => rfl
      | true => have := Nat.eq_of_beq_eq_true hb; omega
    rw [hb] at hc
    have hc : sz_nth azL c' = some C := hc
    rw [sz_nth_eq, hC'] at hc
    cases hc
    rfl
  · intro hnw
    refine ⟨(H2.1 hnw).1, az_HC_set hr hl ht (H2.1 hnw).2 (fun e => ?_)⟩
    have e2 : 1000000 = c := hinj (Or.inr ⟨rfl, hnw⟩) (by rw [show az_c ρ 1000000 = (ρ 1000000).toNat - 4 from if_pos rfl]; exact e)
    subst e2
    have hc : (some (4, 1, 1, []) : Option azC) = some C := hc
    cases hc
    rfl
  · intro hnw hu
    rw [List.length_set]
    exact H2.2 hnw hu
  · intro q hq
    obtain ⟨q1, q2, q3⟩ := hF q hq
    refine ⟨q1, q2, ?_⟩
    rw [az_slot_set hr]
    rcases q3 with ⟨q3, q4⟩ | ⟨q3, q4⟩
    · obtain ⟨f1, f2, f3⟩ := H3 q q3
      rw [if_neg (fun e => q4 (hinj q1 e))]
      exact f3
    · rw [if_pos (by rw [q3])]
      exact q4
  · intro i p hp hi
    rcases hP i p hp hi with ⟨d1, d2, d3, d4, d5⟩ | hP
    · obtain ⟨x, y, x1, y1, xy⟩ := H4 i p hp d1
      refine ⟨x, y, ?_, ?_, xy⟩
      · rw [az_slot_set hr, if_neg (fun e => d2 (hinj (Or.inl d4) (by rw [hst d4]; exact e)))]
        exact x1
      · rw [az_slot_set hr, if_neg (fun e => d3 (hinj (Or.inl d5) (by rw [hst d5]; exact e)))]
        exact y1
    · exact hP
  · intro c' k' hc' hm'
    rw [az_slot_set hr]
    by_cases e1 : c' = az_c ρ c
    · have e3 : c' = c := hinj (Or.inl hc') (by rw [hst hc']; exact e1)
      rw [if_pos e1]
      rw [e3] at hm' hc'
      rw [hm (by omega) k' hm', e3, ← H5 c k' hc' hm']
      unfold az_slot
      rw [hst hc'] at hr
      rw [hr]
    · rw [if_neg e1]
      exact H5 c' k' hc' hm'
  · rw [List.length_set]; exact H6
  · rw [List.length_set]; exact H7
