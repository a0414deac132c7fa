/-! S is sound -/
theorem sz_nx_ok {j : Nat} {m : Nat × Nat × Nat × Nat} {code : Nat} {ws : List szF} {s : szH} {d : Nat} {r : szO} {o : Option szQ} (h : sz_nx j m code ws s d r = some o) : ∃ q, r = some q ∧ o = some ((j, m, code, q.1, q.2.1, q.2.2), ws, s, d) := by
  unfold sz_nx at h
  split at h
  · rename_i i lo st
    rw [sz_fo_eq] at h
    cases h
    exact ⟨_, rfl, rfl⟩
  · cases h
theorem sz_mk_shape {D : szD} {o : Nat} {x y z : szV} (h : sz_mk D o x y = some z) : z.2.1 = 0 := by
  unfold sz_mk at h
  split at h
  · cases h; rfl
  · cases h
theorem sz_peep_ok {D : szD} {R : szR} {ρ : Nat → Int} {X : List (List Value)} {K : Option (Option Value) → mzS → Prop} {code op a b i j d : Nat} {M : mzM} {ri : mzI} {lo : szLo} {m : mzL} {st : List szV} {s : mzS} {r : Nat × szLo × List szV} (hD : sz_D D ρ) (hR : sz_R R ρ) (hM : mzP[j]? = some M) (hpk : sz_pk code M.2.2.2 = true) (hri : M.2.2.2[i]? = some ri) (e1 : ri.1 = op) (e2 : ri.2.1 = a) (e3 : ri.2.2.1 = b) (hl : sz_LR ρ lo m) (h : sz_peep D R code op a b i M.1 lo st = some r) (hg : ∀ m2, sz_LR ρ r.2.1 m2 → mz_gg X K d j r.1 m2 (r.2.2.map (sz_v ρ)) s) : mz_gg X K d j i m (st.map (sz_v ρ)) s := by
  obtain ⟨o0, a0, b0, c0, sw0⟩ := ri
  dsimp only at e1 e2 e3
  subst e1; subst e2; subst e3
  unfold sz_peep at h
  split at h
  · rename_i hop
    obtain ⟨hop, ha⟩ := hop
    subst hop; subst ha
    split at h
    · rename_i x rest
      split at h
      · rename_i hx
        split at h
        · rename_i z hz
          have hz0 := sz_mk_shape hz
          obtain ⟨z1, z2⟩ := sz_mk_ok hD (by decide) hz
          have hjmp : ∀ t, (if sz_i ρ x = 0 then t = b0 else t = i + 1) → mz_one (16, 0, b0, c0, sw0) i M.1 m ((x :: rest).map (sz_v ρ)) = some (t, m, rest.map (sz_v ρ)) := by
            intro t ht
            show mz_o16 0 b0 i m (sz_v ρ x :: rest.map (sz_v ρ)) = _
            rw [sz_vi hx.1]
            unfold mz_o16
            dsimp only
            by_cases h0 : sz_i ρ x = 0
            · rw [if_pos h0] at ht
              rw [h0, ht]
              rfl
            · rw [if_neg h0] at ht
              simp only [mz_cond, decide_eq_false h0, ht]
          split at h
          · rename_i hc
            obtain ⟨c1, c2, c3, c4, c5⟩ := hc
            obtain ⟨r1, g1, g2, g3, g4, g5⟩ := sz_pk_ok hpk c5
            rw [c1] at g2
            rw [c3] at g5
            split at h
            · rename_i u hu
              unfold sz_ld at hu
              rw [sz_nth_eq] at hu
              split at h
              · rename_i hu0
                rw [sz_upk_eq] at h
                cases h
                have hsum : ∀ y, sz_i ρ z = y → sz_i ρ (0, u.2.1, sz_add z.2.2 u.2.2) = sz_i ρ u + y := by
                  intro y hy
                  rw [← hy]
                  unfold sz_i
                  rw [← Int32.ofInt_add]
                  congr 1
                  dsimp only
                  rw [sz_sum_add, hz0]
                  omega
                by_cases h0 : sz_i ρ x = 0
                · refine mz_gg_one hM hri (Or.inl (show 16 < 20 by decide)) (hjmp b0 (by rw [if_pos h0])) ?_
                  have hz3 : sz_i ρ z = 0 := by rw [z2]; exact if_pos h0
                  have := hg m ?_
                  · rw [c2]; exact this
                  · intro k w hw hw9
                    rcases sz_upl_at _ _ _ _ _ _ hw with ⟨f1, f2⟩ | ⟨f1, f2 | f2⟩
                    · rw [f1, hl _ u hu (by omega), f2, sz_vi hu0, sz_vi (v := (0, u.2.1, sz_add z.2.2 u.2.2)) rfl, hsum 0 hz3]
                      simp
                    · exact hl k w f2 hw9
                    · rw [f2] at hw9; exact absurd hw9 (by decide)
                · refine mz_gg_one hM hri (Or.inl (show 16 < 20 by decide)) (hjmp (i + 1) (by rw [if_neg h0])) ?_
                  have hz3 : sz_i ρ z = 1 := by rw [z2]; exact if_neg h0
                  refine mz_gg_one (q := (i + 2, mz_up m (sz_fa (sz_sl 80 code (i + 1))) (.int (sz_i ρ u + 1)), rest.map (sz_v ρ))) hM g1 (Or.inl (by omega)) ?_ (hg _ ?_)
                  · obtain ⟨o1, a1, b1, k1, sw1⟩ := r1
                    dsimp only at g2 g3 g5
                    subst g2; subst g5
                    rw [← g3] at hu c4 ⊢
                    show mz_o5 a1 (i + 1) M.1 1 m (rest.map (sz_v ρ)) = _
                    unfold mz_o5
                    rw [hl _ u hu (by omega), sz_vi hu0]
                    dsimp only
                    rw [if_pos c4]
                    rfl
                  · refine sz_up_LR hl hu (by omega) ?_
                    rw [sz_vi (v := (0, u.2.1, sz_add z.2.2 u.2.2)) rfl, hsum 1 hz3]
              · cases h
            · cases h
          · split at h
            · rename_i hc
              obtain ⟨c1, c2, c3, c4, c5, c6, c7, c8, c9⟩ := hc
              cases h
              obtain ⟨r1, g1, g2, g3, g4, g5⟩ := sz_pk_ok hpk c3
              have n2 : sz_sl 80 code (i + 2) ≠ 0 := fun hn => by rw [hn] at c4; cases c4
              obtain ⟨r2, p1, p2, p3, p4, p5⟩ := sz_pk_ok hpk n2
              obtain ⟨r3, q1, q2, q3, q4, q5⟩ := sz_pk_ok hpk c8
              rw [c1] at g2; rw [c2] at g5
              rw [c4] at p2; rw [c5] at p4
              rw [c6] at q2; rw [c7] at q5
              have hpush : ∀ {rr : mzI} {cc : Int} {ii : Nat}, rr.1 = 0 → rr.2.2.2.1 = cc → mz_one rr ii M.1 m (rest.map (sz_v ρ)) = some (ii + 1, m, .int (Int32.ofInt cc) :: rest.map (sz_v ρ)) := by
                intro rr cc ii h1 h2
                obtain ⟨y1, y2, y3, y4, y5⟩ := rr
                dsimp only at h1 h2
                subst h1; subst h2
                rfl
              by_cases h0 : sz_i ρ x = 0
              · refine mz_gg_one hM hri (Or.inl (show 16 < 20 by decide)) (hjmp b0 (by rw [if_pos h0])) ?_
                have hz3 : sz_i ρ z = 0 := by rw [z2]; exact if_pos h0
                rw [c9]
                refine mz_gg_one hM q1 (Or.inl (by omega)) (hpush q2 q5) ?_
                have := hg m hl
                rw [List.map_cons, sz_vi z1, hz3] at this
                exact this
              · refine mz_gg_one hM hri (Or.inl (show 16 < 20 by decide)) (hjmp (i + 1) (by rw [if_neg h0])) ?_
                have hz3 : sz_i ρ z = 1 := by rw [z2]; exact if_neg h0
                refine mz_gg_one hM g1 (Or.inl (by omega)) (hpush g2 g5) ?_
                refine mz_gg_one (q := (i + 4, m, .int 1 :: rest.map (sz_v ρ))) hM p1 (Or.inl (by omega)) ?_ ?_
                · obtain ⟨y1, y2, y3, y4, y5⟩ := r2
                  dsimp only at p2 p4
                  subst p2; subst p4
                  rfl
                · have := hg m hl
                  rw [List.map_cons, sz_vi z1, hz3] at this
                  exact this
            · cases h
        · cases h
      · cases h
    · cases h
  · cases h
