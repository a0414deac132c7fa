theorem sz_fin_ok {R : szR} {ρ : Nat → Int} (hR : sz_R R ρ) {op a b : Nat} {c : Int} {sw : List (Int × Nat)} {st : List szV} {s : szH} {o : Option (Option szV)} {s' : szH} {h : List mzC} (e : sz_fin R op a b st s = some (o, s')) : mz_fin (op, a, b, c, sw) (st.map (sz_v ρ)) (h, s.2.2.2.2) = some (o.map (fun v => v.map (sz_v ρ)), (h, s'.2.2.2.2)) ∧ s'.1 = s.1 ∧ s'.2.1 = s.2.1 ∧ s'.2.2.1 = s.2.2.1 ∧ s'.2.2.2.1 = s.2.2.2.1 := by
  unfold sz_fin at e
  cases h_ : Nat.beq op 42 with
  | true =>
    rw [h_] at e; have h_ := Nat.eq_of_beq_eq_true h_; subst h_
    dsimp only [cond] at e
    split at e
    · rename_i v
      split at e
      · rename_i hc
        cases e
        refine ⟨?_, rfl, rfl, rfl, rfl⟩
        unfold mz_fin
        dsimp only
        rw [if_neg (by decide), if_pos rfl]
        show (if mz_ty (sz_v ρ v) = a ∧ a < 3 ∧ (b = 0 ∨ sz_v ρ v = .int 0 ∨ sz_v ρ v = .int 1) then _ else _) = _
        rw [if_pos]
        · rfl
        · refine ⟨by rw [sz_ty (by omega)]; exact hc.1, hc.2.1, ?_⟩
          rcases hc.2.2 with h1 | ⟨h1, h2, h3⟩
          · exact Or.inl h1
          · have := sz_rg_ok hR v
            have h4 : (sz_i ρ v).toInt = 0 ∨ (sz_i ρ v).toInt = 1 := by omega
            rw [sz_vi h1]
            rcases h4 with h4 | h4
            · exact Or.inr (Or.inl (congrArg _ (Int32.toInt_inj.mp h4)))
            · exact Or.inr (Or.inr (congrArg _ (Int32.toInt_inj.mp h4)))
      · cases e
    · cases e
  | false =>
  rw [h_] at e; clear h_
  cases h_ : Nat.beq op 41 with
  | true =>
    rw [h_] at e; have h_ := Nat.eq_of_beq_eq_true h_; subst h_
    dsimp only [cond] at e
    split at e
    · cases e
      exact ⟨rfl, rfl, rfl, rfl, rfl⟩
    · cases e
  | false =>
  rw [h_] at e; clear h_
  cases h_ : Nat.beq op 43 with
  | true =>
    rw [h_] at e; have h_ := Nat.eq_of_beq_eq_true h_; subst h_
    dsimp only [cond] at e
    split at e
    · rename_i hc
      cases e
      refine ⟨?_, rfl, rfl, rfl, rfl⟩
      unfold mz_fin
      dsimp only
      rw [if_neg (by decide), if_neg (by decide), if_pos rfl, if_pos (by rw [sz_totv]; exact hc)]
      rfl
    · cases e
  | false =>
  rw [h_] at e; cases e
theorem sz_step_ok {P : List szM} (hP : sz_pkall P mzP = true) {D : szD} {T : List (Int × szT)} {R : szR} {ρ : Nat → Int} {X : List (List szV)} (hD : sz_D D ρ) (hR : sz_R R ρ) {j : Nat} {m : Nat × Nat × Nat × Nat} {code i : Nat} {lo : szLo} {st : List szV} {ws : List szF} {s : szH} {d : Nat} {o : Option szQ} (e : sz_step P D T R X j m code i lo st ws s d (sz_sl 80 code i) (Nat.mod (sz_sl 80 code i) 256) = some o) (hg : sz_then T ρ X (some o)) : sz_GG T ρ X ((j, m, code, i, lo, st), ws, s, d) := by
  intro wsM w h hF hW hH
  obtain ⟨j', M, i', m', stM⟩ := w
  obtain ⟨F1, F2, F3, F4, F5, F6, F7⟩ := hF
  dsimp only at F1 F2 F3 F4 F5 F6 F7 hW hH ⊢
  subst F1; subst F5; subst F7
  unfold sz_step at e
  generalize hq : sz_sl 80 code i = q at e
  cases h0 : Nat.beq q 0 with
  | true => rw [h0] at e; cases e
  | false =>
  have hq0 : q ≠ 0 := fun h1 => by rw [h1] at h0; cases h0
  rw [h0] at e
  dsimp only [cond] at e
  obtain ⟨ri, g1, g2, g3, g4, g5⟩ := sz_pk_ok F4 (i := i) (by rw [hq]; exact hq0)
  rw [hq] at g2 g3 g4 g5
  have hri : ri = (Nat.mod q 256, sz_fa q, sz_fb q, sz_fc q, ri.2.2.2.2) := by rw [← g2, ← g3, ← g4, ← g5]
  generalize hop : Nat.mod q 256 = op at e hri g2
  have hm1 : m.1 = M.1 := by rw [F3]
  have hnext : ∀ {i2 : Nat} {lo2 : szLo} {st2 : List szV} {s2 : szH} {m2 : mzL} {h2 : List mzC}, o = some ((j, m, code, i2, lo2, st2), ws, s2, d) → sz_LR ρ lo2 m2 → sz_HR T ρ s2 h2 → mz_gg (X.map (fun l => l.map (sz_v ρ))) (mz_KK (X.map (fun l => l.map (sz_v ρ))) wsM d) d j i2 m2 (st2.map (sz_v ρ)) (h2, s2.2.2.2.2) := by
    intro i2 lo2 st2 s2 m2 h2 ho hl2 hh2
    exact hg _ (congrArg some ho) wsM (j, M, i2, m2, st2.map (sz_v ρ)) h2 ⟨rfl, F2, F3, F4, rfl, hl2, rfl⟩ hW hh2
  cases h19 : Nat.blt op 19 with
  | true =>
    rw [h19] at e
    have hlt : op < 19 := Nat.le_of_ble_eq_true h19
    dsimp only at e
    unfold sz_or2 at e
    split at e
    · rename_i o' ho'
      cases e
      obtain ⟨r, k1, k2⟩ := sz_nx_ok ho'
      obtain ⟨m2, l1, l2⟩ := sz_one_ok (sw := ri.2.2.2.2) hD hR F6 k1
      rw [hm1, ← hri] at l1
      exact mz_gg_one F2 g1 (Or.inl (by omega)) l1 (hnext k2 l2 hH)
    · obtain ⟨r, k1, k2⟩ := sz_nx_ok e
      rw [hm1] at k1
      exact sz_peep_ok hD hR F2 F4 g1 g2 g3 g4 F6 k1 (fun m2 hm2 => hnext k2 hm2 hH)
  | false =>
  rw [h19] at e
  have hge : ¬ op < 19 := fun hh => by
    have : Nat.blt op 19 = true := Nat.ble_eq_true_of_le hh
    rw [this] at h19; cases h19
  dsimp only at e
  cases h31 : Nat.blt op 31 with
  | true =>
    rw [h31] at e
    dsimp only at e
    cases h20 : Nat.blt op 20 with
    | true =>
      rw [h20] at e
      have h20 : op < 20 := Nat.le_of_ble_eq_true h20
      dsimp only at e
      rw [sz_nth_eq, F2] at e
      dsimp only at e
      rw [sz_nth_eq, g1] at e
      dsimp only at e
      obtain ⟨r, k1, k2⟩ := sz_nx_ok e
      obtain ⟨m2, l1, l2⟩ := sz_o19_ok hR F6 k1
      refine mz_gg_one F2 g1 (Or.inl (by omega)) (q := (r.1, m2, r.2.2.map (sz_v ρ))) ?_ (hnext k2 l2 hH)
      have : op = 19 := by omega
      rw [hri, this]
      exact l1
    | false =>
      rw [h20] at e
      dsimp only at e
      split at e
      · rename_i st2 s2 hh
        rw [sz_fo_eq] at e
        cases e
        obtain ⟨h2, l1, l2⟩ := sz_heap_ok (sw := ri.2.2.2.2) hD hR hH hh
        rw [← hri] at l1
        exact mz_gg_heap F2 g1 l1 (hnext rfl F6 l2)
      · cases e
  | false =>
  rw [h31] at e
  dsimp only at e
  cases h40 : Nat.beq op 40 with
  | true =>
    rw [h40] at e
    have h40 := Nat.eq_of_beq_eq_true h40
    dsimp only at e
    split at e
    · rename_i as rest htk
      rw [sz_fo_eq] at e
      unfold sz_take at htk
      obtain ⟨t1, t2⟩ := sz_tk_ok htk
      unfold sz_call at e
      rw [sz_nth_eq] at e
      split at e
      · rename_i d' nL rc hd co hPa
        obtain ⟨M', p1, p2, p3, p4, p5⟩ := sz_pkall_ok hP hPa
        dsimp only at p2 p3 p4 p5
        split at e
        · rename_i hc
          obtain ⟨lo', _, a2, a3⟩ := sz_args_eq (β := Nat) ρ as (fun _ => 0)
          rw [a2] at e
          cases e
          have hlr : sz_LR ρ lo' (lv_args 0 (as.map (sz_v ρ))) := fun k v hk h9 => by
            have := a3 0 k v hk h9
            rwa [Nat.zero_add] at this
          have := hg _ rfl ((j, M, i, m', rest.map (sz_v ρ)) :: wsM) (sz_fa q, M', 0, lv_args 0 (as.map (sz_v ρ)), []) h ⟨rfl, p1, by rw [p2, p4], p5, rfl, hlr, rfl⟩ ⟨⟨rfl, F2, F3, F4, rfl, F6, rfl⟩, hW⟩ hH
          cases t2
          refine mz_gg_call F2 g1 (g2.trans h40) (as := (((st.take (sz_fb q)).reverse ++ []).map (sz_v ρ))) (rest := (st.drop (sz_fb q)).map (sz_v ρ)) ?_ (by rw [g3]; exact p1) (by rw [sz_totv]; exact hc.1) (by rw [sz_totv, ← p2]; exact hc.2.1) ?_ (by rw [g3]; exact this)
          · unfold mz_take
            rw [g4, List.length_map, if_pos t1, ← List.map_take, ← List.map_drop]
            simp
          · have hrc := hc.2.2
            rw [← p3]
            unfold sz_recv at hrc
            unfold mz_recv
            split at hrc
            · rfl
            · rename_i c
              split at hrc
              · rename_i v vs heq
                rw [heq]
                obtain ⟨x0, x1⟩ := sz_tag_ok hrc
                obtain ⟨fs, y1, _⟩ := sz_get_ok hH x0 s.2.2.2.2
                show (match (sz_v ρ v :: vs.map (sz_v ρ)) with
                  | .ref r :: _ => match mz_get (h, s.2.2.2.2) r with
                    | some t => t.1 == 2 * c
                    | none => false
                  | _ => false) = true
                rw [sz_vr (sz_ce_at x0).1]
                dsimp only
                rw [y1]
                dsimp only
                rw [x1]
                simp
              · cases hrc
        · cases e
      · cases e
    · cases e
  | false =>
  rw [h40] at e
  dsimp only at e
  split at e
  · rename_i v s2 hh
    obtain ⟨l1, l2, l3, l4, l5⟩ := sz_fin_ok (c := sz_fc q) (sw := ri.2.2.2.2) (h := h) hR hh
    rw [← hri] at l1
    refine mz_gg_fin F2 g1 l1 ?_
    have hH2 : sz_HR T ρ s2 h := by
      obtain ⟨N, E, c1, x1, u1⟩ := s
      obtain ⟨N', E', c2, x2, u2⟩ := s2
      dsimp only at l2 l3 l4 l5
      subst l2; subst l3; subst l4; subst l5
      exact hH
    unfold sz_back at e
    split at e
    · match wsM, hW with
      | [], _ =>
      split at e
      · rename_i v'
        split at e
        · rename_i hc
          refine ⟨?_, hc.2.2.1, hc.2.2.2⟩
          show some (some (sz_v ρ v')) = _
          rw [sz_vi hc.1, (sz_k_ok hR hc.2.1).1]
          rfl
        · cases e
      · cases e
    · rename_i j1 m1 code1 i1 lo1 st1 ws1
      match wsM, hW with
      | (jj, MM, ii, mm, ss) :: wsM, ⟨⟨G1, G2, G3, G4, G5, G6, G7⟩, hW⟩ =>
      dsimp only at G1 G2 G3 G4 G5 G6 G7
      subst G1; subst G5; subst G7
      refine ⟨G2, ?_⟩
      split at e
      · rw [sz_fo_eq] at e
        cases e
        exact ⟨(i1 + 1, st1.map (sz_v ρ)), rfl, hg _ rfl wsM (j1, MM, i1 + 1, mm, st1.map (sz_v ρ)) h ⟨rfl, G2, G3, G4, rfl, G6, rfl⟩ hW hH2⟩
      · rename_i v'
        rw [sz_fo_eq] at e
        cases e
        exact ⟨(i1 + 1, sz_v ρ v' :: st1.map (sz_v ρ)), rfl, hg _ rfl wsM (j1, MM, i1 + 1, mm, sz_v ρ v' :: st1.map (sz_v ρ)) h ⟨rfl, G2, G3, G4, rfl, G6, rfl⟩ hW hH2⟩
      · split at e
        · rename_i hc
          cases e
          rw [G3] at hc
          refine ⟨(MM.2.2.1.2.2, [.retAddr 0]), ?_, ?_⟩
          · show (if MM.2.2.1.1 ≤ i1 ∧ i1 < MM.2.2.1.2.1 then _ else _) = _
            rw [if_pos hc]
          · exact hg _ rfl wsM (j1, MM, MM.2.2.1.2.2, mm, [.retAddr 0]) h ⟨rfl, G2, G3, G4, by rw [G3], G6, rfl⟩ hW hH2
        · cases e
  · cases e
