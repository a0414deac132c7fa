/-! a step of A is sound -/
theorem az_HR_mono {mods : List (Nat × Nat)} {h0 h : List mzC} {ρ : Nat → Int} {F : azF} {dirty : List Nat} {new : Bool} {u u' : Nat} (H : az_HR mods h0 ρ F dirty new u h) (h1 : u ≤ u') (h2 : u' = 0 → u = 0) : az_HR mods h0 ρ F dirty new u' h := by
  obtain ⟨H1, H2, H3, H4, H5, H6, H7⟩ := H
  exact ⟨H1, ⟨H2.1, fun a b => H2.2 a (h2 b)⟩, H3, H4, H5, H6, by omega⟩
theorem az_nx_ok {j : Nat} {m : Nat × Nat × Nat × Nat} {code : Nat} {ws : List szF} {F : azF} {dirty : List Nat} {new : Bool} {uw : Nat × Nat} {d : Nat} {r : szO} {C : azQ} (h : az_nx j m code ws F dirty new uw d r = some C) : ∃ q, r = some q ∧ C = ((j, m, code, q.1, q.2.1, q.2.2), ws, F, dirty, new, uw, d) := by
  unfold az_nx at h
  split at h
  · rw [sz_fo_eq] at h
    cases h
    exact ⟨_, rfl, rfl⟩
  · cases h
theorem az_recv_ok {mods : List (Nat × Nat)} {h0 h : List mzC} {ρ : Nat → Int} {F : azF} {dirty : List Nat} {new : Bool} {u : Nat} (H : az_HR mods h0 ρ F dirty new u h) (s2 : Nat × Nat) {k : Nat} {as : List szV} (e : az_recv k new as = true) : mz_recv k (as.map (sz_v ρ)) (h, s2) = true := by
  unfold az_recv at e
  split at e
  · rfl
  · rename_i c
    split at e
    · rename_i r rest
      split at e
      · rename_i x hx
        obtain ⟨cc, C, e1, e2, e3, e4⟩ := az_at_ok hx
        cases hb : Nat.beq C.1 (Nat.mul 2 c) with
        | false => rw [hb] at e4; cases e4
        | true =>
          have hb : C.1 = 2 * c := Nat.eq_of_beq_eq_true hb
          obtain ⟨n, fs, n1, n2, n3, n4, _⟩ := az_cr_ok H e1 e2 e3 s2
          show (match (sz_v ρ r :: rest.map (sz_v ρ)) with
            | .ref r :: _ => match mz_get (h, s2) r with
              | some t => t.1 == 2 * c
              | none => false
            | _ => false) = true
          rw [n1]
          dsimp only
          rw [n4]
          dsimp only
          rw [hb]
          simp
      · cases e
    · cases e
theorem az_step_ok {P : List szM} (hP : sz_pkall P mzP = true) {inl : Nat → Bool} {X : List (List Value)} (hX : az_X X) {Kb : Option (Option Value) → mzS → Prop} {mods : List (Nat × Nat)} {h0 : List mzC} {bs : Nat × Nat} {ee : Nat} {D : szD} {R : szR} {Cs : azS} {ρ : Nat → Int} (hV : az_V D R Cs ρ) {j : Nat} {m : Nat × Nat × Nat × Nat} {code i : Nat} {lo : szLo} {st : List szV} {ws : List szF} {F : azF} {dirty : List Nat} {new : Bool} {uw : Nat × Nat} {d : Nat} {C' : azQ}
    (e : az_step P inl mods D R Cs j m code i lo st ws F dirty new uw d (sz_sl 80 code i) (Nat.mod (sz_sl 80 code i) 256) = some C') (hg : az_GG X Kb mods h0 bs ee ρ C') : az_GG X Kb mods h0 bs ee ρ ((j, m, code, i, lo, st), ws, F, dirty, new, uw, d) := by
  obtain ⟨V1, V2, V3, V4, V5⟩ := id hV
  intro wsM w h s2 hF hW hH hb1 hb2
  obtain ⟨j', M, i', m', stM⟩ := w
  obtain ⟨F1, F2, F3, F4, F5, F6, F7⟩ := hF
  dsimp only at F1 F2 F3 F4 F5 F6 F7 hW hH hb1 hb2 ⊢
  subst F1; subst F5; subst F7
  unfold az_step at e
  generalize hq : sz_sl 80 code i = q at e
  cases h0q : Nat.beq q 0 with
  | true => rw [h0q] at e; cases e
  | false =>
  have hq0 : q ≠ 0 := fun h1 => by rw [h1] at h0q; cases h0q
  rw [h0q] at e
  dsimp only [cond] at e
  obtain ⟨ri, g1, g2, g3, g4, g5⟩ := sz_pk_ok F4 (i := i) (by rw [hq]; exact hq0)
  rw [hq] at g2 g3 g4 g5
  have hri : ri = (Nat.mod q 256, sz_fa q, sz_fb q, sz_fc q, ri.2.2.2.2) := by rw [← g2, ← g3, ← g4, ← g5]
  generalize hop : Nat.mod q 256 = op at e hri g2
  have hm1 : m.1 = M.1 := by rw [F3]
  have hnext : ∀ {i2 : Nat} {lo2 : szLo} {st2 : List szV} {Fa : azF} {da : List Nat} {na : Bool} {ua : Nat × Nat} {m2 : mzL} {h2 : List mzC} {t2 : Nat × Nat}, C' = ((j, m, code, i2, lo2, st2), ws, Fa, da, na, ua, d) → sz_LR ρ lo2 m2 → az_HR mods h0 ρ Fa da na ua.1 h2 → t2.1 ≤ bs.1 + ua.1 → t2.2 ≤ bs.2 + ua.2 → mz_gg X (az_KK X Kb wsM (d + ee)) (d + ee) j i2 m2 (st2.map (sz_v ρ)) (h2, t2) := by
    intro i2 lo2 st2 Fa da na ua m2 h2 t2 ho hl2 hh2 ht1 ht2
    subst ho
    exact hg wsM (j, M, i2, m2, st2.map (sz_v ρ)) h2 t2 ⟨rfl, F2, F3, F4, rfl, hl2, rfl⟩ hW hh2 ht1 ht2
  cases h20 : (Nat.blt op 20 || Nat.beq op 39) with
  | true =>
    rw [h20] at e
    dsimp only at e
    obtain ⟨r, k1, k2⟩ := az_nx_ok e
    have hsw : az_one D R Cs op (sz_fa q) (sz_fb q) (sz_fc q) (az_sw j i op) i m.1 lo st = some r → az_one D R Cs op (sz_fa q) (sz_fb q) (sz_fc q) ri.2.2.2.2 i m.1 lo st = some r := by
      intro hh
      unfold az_sw at hh
      cases hs : (Nat.beq op 19 || Nat.beq op 39) with
      | true =>
        rw [hs] at hh
        dsimp only [cond] at hh
        rw [sz_nth_eq, F2] at hh
        dsimp only at hh
        rw [sz_nth_eq, g1] at hh
        exact hh
      | false =>
        rw [Bool.or_eq_false_iff] at hs
        unfold az_one at hh ⊢
        rw [hs.1, hs.2] at hh ⊢
        exact hh
    have k1 := hsw k1
    rw [hm1] at k1
    obtain ⟨ho, m2, l1, l2⟩ := az_one_ok V1 V2 V3 F6 k1
    rw [← hri] at l1
    refine mz_gg_one F2 g1 ?_ l1 (hnext k2 l2 hH hb1 hb2)
    rw [g2]
    exact ho
  | false =>
  rw [h20] at e
  dsimp only at e
  cases h31 : Nat.blt op 31 with
  | true =>
    rw [h31] at e
    dsimp only at e
    split at e
    · rename_i st2 Fa da na ua hh
      rw [sz_fo_eq] at e
      cases e
      obtain ⟨h2, t2, l1, l2, l3, l4⟩ := az_hp_ok (sw := ri.2.2.2.2) hX hV hH hb1 hb2 hh
      rw [← hri] at l1
      exact mz_gg_heap F2 g1 l1 (hnext rfl F6 l2 l3 l4)
    · cases e
  | false =>
  rw [h31] at e
  dsimp only at e
  cases h40 : Nat.beq op 40 with
  | true =>
    rw [h40] at e
    have h40 := Nat.eq_of_beq_eq_true h40
    dsimp only at e
    cases hin : inl (sz_fa q) with
    | false => rw [hin] at e; cases e
    | true =>
    rw [hin] at e
    dsimp only at e
    split at e
    · rename_i as rest htk
      rw [sz_fo_eq] at e
      unfold sz_take at htk
      obtain ⟨t1, t2⟩ := sz_tk_ok htk
      unfold az_call at e
      rw [sz_nth_eq] at e
      split at e
      · rename_i d' nL rc hd co hPa
        obtain ⟨M', p1, p2, p3, p4, p5⟩ := sz_pkall_ok hP hPa
        dsimp only at p2 p3 p4 p5
        split at e
        · rename_i hc
          obtain ⟨lo', _, a2, a3⟩ := sz_args_eq (β := Nat) ρ as (fun _ => 0)
          rw [a2] at e
          cases e
          have hlr : sz_LR ρ lo' (lv_args 0 (as.map (sz_v ρ))) := fun k v hk h9 => by
            have := a3 0 k v hk h9
            rwa [Nat.zero_add] at this
          have := hg ((j, M, i, m', rest.map (sz_v ρ)) :: wsM) (sz_fa q, M', 0, lv_args 0 (as.map (sz_v ρ)), []) h s2 ⟨rfl, p1, by rw [p2, p4], p5, rfl, hlr, rfl⟩ ⟨⟨rfl, F2, F3, F4, rfl, F6, rfl⟩, hW⟩ hH hb1 hb2
          dsimp only at this
          cases t2
          rw [show d' + 1 + ee = d' + ee + 1 by omega]
          refine az_gg_call F2 g1 (g2.trans h40) (as := (((st.take (sz_fb q)).reverse ++ []).map (sz_v ρ))) (rest := (st.drop (sz_fb q)).map (sz_v ρ)) ?_ (by rw [g3]; exact p1) (by rw [sz_totv]; exact hc.1) (by rw [sz_totv, ← p2]; exact hc.2.1) ?_ (by rw [g3]; exact this)
          · unfold mz_take
            rw [g4, List.length_map, if_pos t1, ← List.map_take, ← List.map_drop]
            simp
          · rw [← p3]
            exact az_recv_ok hH s2 hc.2.2
        · cases e
      · cases e
    · cases e
  | false =>
  rw [h40] at e
  dsimp only at e
  split at e
  · rename_i v ua hh
    obtain ⟨t2, l1, l2, l3, l4, l5⟩ := az_fin_ok (c := sz_fc q) (sw := ri.2.2.2.2) (h := h) V2 V3 hb1 hb2 hh
    rw [← hri] at l1
    have hH2 : az_HR mods h0 ρ F dirty new ua.1 h := az_HR_mono hH l4 l5
    refine mz_gg_fin F2 g1 l1 ?_
    unfold az_back at e
    split at e
    · cases e
    · rename_i j1 m1 code1 i1 lo1 st1 ws1
      match wsM, hW with
      | (jj, MM, ii, mm, ss) :: wsM, ⟨⟨G1, G2, G3, G4, G5, G6, G7⟩, hW⟩ =>
      dsimp only at G1 G2 G3 G4 G5 G6 G7
      subst G1; subst G5; subst G7
      refine ⟨G2, ?_⟩
      rw [show d + ee + 1 = d + 1 + ee by omega]
      split at e
      · rw [sz_fo_eq] at e
        cases e
        exact ⟨(i1 + 1, st1.map (sz_v ρ)), rfl, hg wsM (j1, MM, i1 + 1, mm, st1.map (sz_v ρ)) h t2 ⟨rfl, G2, G3, G4, rfl, G6, rfl⟩ hW hH2 l2 l3⟩
      · rename_i v'
        rw [sz_fo_eq] at e
        cases e
        exact ⟨(i1 + 1, sz_v ρ v' :: st1.map (sz_v ρ)), rfl, hg wsM (j1, MM, i1 + 1, mm, sz_v ρ v' :: st1.map (sz_v ρ)) h t2 ⟨rfl, G2, G3, G4, rfl, G6, rfl⟩ hW hH2 l2 l3⟩
      · split at e
        · rename_i hc
          cases e
          rw [G3] at hc
          refine ⟨(MM.2.2.1.2.2, [.retAddr 0]), ?_, ?_⟩
          · show (if MM.2.2.1.1 ≤ i1 ∧ i1 < MM.2.2.1.2.1 then _ else _) = _
            rw [if_pos hc]
          · exact hg wsM (j1, MM, MM.2.2.1.2.2, mm, [.retAddr 0]) h t2 ⟨rfl, G2, G3, G4, by rw [G3], G6, rfl⟩ hW hH2 l2 l3
        · cases e
  · cases e
