/-! two rules for the law's sheet: 'not 0' without a branch, and four known slots of the script -/
noncomputable def az_peep (D : szD) (code op a b i nL : Nat) (lo : szLo) (st : List szV) : szO :=
  if op = 16 ∧ a = 0 then match st with
    | x :: rest => if x.1 = 0 ∧ ¬ x.2.2 = [] then match sz_mk D 4 x (0, 0, []) with
      | some z => if Nat.mod (sz_sl 80 code (i + 1)) 256 = 5 ∧ b = i + 2 ∧ sz_fc (sz_sl 80 code (i + 1)) = 1 ∧ sz_fa (sz_sl 80 code (i + 1)) < nL ∧ ¬ sz_sl 80 code (i + 1) = 0 then match sz_ld lo (sz_fa (sz_sl 80 code (i + 1))) with
            | some u => if u.1 = 0 then sz_upk (9, 0, []) (sz_fa (sz_sl 80 code (i + 1))) (0, u.2.1, sz_add z.2.2 u.2.2) lo (fun lo => some (i + 2, lo, rest)) else none
            | none => none
          else if Nat.mod (sz_sl 80 code (i + 1)) 256 = 0 ∧ sz_fc (sz_sl 80 code (i + 1)) = 1 ∧ ¬ sz_sl 80 code (i + 1) = 0 ∧ Nat.mod (sz_sl 80 code (i + 2)) 256 = 18 ∧ sz_fb (sz_sl 80 code (i + 2)) = i + 4 ∧ Nat.mod (sz_sl 80 code (i + 3)) 256 = 0 ∧ sz_fc (sz_sl 80 code (i + 3)) = 0 ∧ ¬ sz_sl 80 code (i + 3) = 0 ∧ b = i + 3 then some (i + 4, lo, z :: rest) else none
      | none => none
      else none
    | _ => none
  else none
theorem sz_mk_shape {D : szD} {o : Nat} {x y z : szV} (h : sz_mk D o x y = some z) : z.2.1 = 0 := by
  unfold sz_mk at h
  split at h
  · cases h; rfl
  · cases h
theorem az_peep_ok {D : szD} {ρ : Nat → Int} {X : List (List Value)} {K : Option (Option Value) → mzS → Prop} {code op a b i j d : Nat} {M : mzM} {ri : mzI} {lo : szLo} {m : mzL} {st : List szV} {s : mzS} {r : Nat × szLo × List szV} (hD : sz_D D ρ) (hM : mzP[j]? = some M) (hpk : sz_pk code M.2.2.2 = true) (hri : M.2.2.2[i]? = some ri) (e1 : ri.1 = op) (e2 : ri.2.1 = a) (e3 : ri.2.2.1 = b) (hl : sz_LR ρ lo m) (h : az_peep D code op a b i M.1 lo st = some r) (hg : ∀ m2, sz_LR ρ r.2.1 m2 → mz_gg X K d j r.1 m2 (r.2.2.map (sz_v ρ)) s) : mz_gg X K d j i m (st.map (sz_v ρ)) s := by
  obtain ⟨o0, a0, b0, c0, sw0⟩ := ri
  dsimp only at e1 e2 e3
  subst e1; subst e2; subst e3
  unfold az_peep at h
  split at h
  · rename_i hop
    obtain ⟨hop, ha⟩ := hop
    subst hop; subst ha
    split at h
    · rename_i x rest
      split at h
      · rename_i hx
        split at h
        · rename_i z hz
          have hz0 := sz_mk_shape hz
          obtain ⟨z1, z2⟩ := sz_mk_ok hD (by decide) hz
          have hjmp : ∀ t, (if sz_i ρ x = 0 then t = b0 else t = i + 1) → mz_one (16, 0, b0, c0, sw0) i M.1 m ((x :: rest).map (sz_v ρ)) = some (t, m, rest.map (sz_v ρ)) := by
            intro t ht
            show mz_o16 0 b0 i m (sz_v ρ x :: rest.map (sz_v ρ)) = _
            rw [sz_vi hx.1]
            unfold mz_o16
            dsimp only
            by_cases h0 : sz_i ρ x = 0
            · rw [if_pos h0] at ht
              rw [h0, ht]
              rfl
            · rw [if_neg h0] at ht
              simp only [mz_cond, decide_eq_false h0, ht]
          split at h
          · rename_i hc
            obtain ⟨c1, c2, c3, c4, c5⟩ := hc
            obtain ⟨r1, g1, g2, g3, g4, g5⟩ := sz_pk_ok hpk c5
            rw [c1] at g2
            rw [c3] at g5
            split at h
            · rename_i u hu
              unfold sz_ld at hu
              rw [sz_nth_eq] at hu
              split at h
              · rename_i hu0
                rw [sz_upk_eq] at h
                cases h
                have hsum : ∀ y, sz_i ρ z = y → sz_i ρ (0, u.2.1, sz_add z.2.2 u.2.2) = sz_i ρ u + y := by
                  intro y hy
                  rw [← hy]
                  unfold sz_i
                  rw [← Int32.ofInt_add]
                  congr 1
                  dsimp only
                  rw [sz_sum_add, hz0]
                  omega
                by_cases h0 : sz_i ρ x = 0
                · refine mz_gg_one hM hri (Or.inl (show 16 < 20 by decide)) (hjmp b0 (by rw [if_pos h0])) ?_
                  have hz3 : sz_i ρ z = 0 := by rw [z2]; exact if_pos h0
                  have := hg m ?_
                  · rw [c2]; exact this
                  · intro k w hw hw9
                    rcases sz_upl_at _ _ _ _ _ _ hw with ⟨f1, f2⟩ | ⟨f1, f2 | f2⟩
                    · rw [f1, hl _ u hu (by omega), f2, sz_vi hu0, sz_vi (v := (0, u.2.1, sz_add z.2.2 u.2.2)) rfl, hsum 0 hz3]
                      simp
                    · exact hl k w f2 hw9
                    · rw [f2] at hw9; exact absurd hw9 (by decide)
                · refine mz_gg_one hM hri (Or.inl (show 16 < 20 by decide)) (hjmp (i + 1) (by rw [if_neg h0])) ?_
                  have hz3 : sz_i ρ z = 1 := by rw [z2]; exact if_neg h0
                  refine mz_gg_one (q := (i + 2, mz_up m (sz_fa (sz_sl 80 code (i + 1))) (.int (sz_i ρ u + 1)), rest.map (sz_v ρ))) hM g1 (Or.inl (by omega)) ?_ (hg _ ?_)
                  · obtain ⟨o1, a1, b1, k1, sw1⟩ := r1
                    dsimp only at g2 g3 g5
                    subst g2; subst g5
                    rw [← g3] at hu c4 ⊢
                    show mz_o5 a1 (i + 1) M.1 1 m (rest.map (sz_v ρ)) = _
                    unfold mz_o5
                    rw [hl _ u hu (by omega), sz_vi hu0]
                    dsimp only
                    rw [if_pos c4]
                    rfl
                  · refine sz_up_LR hl hu (by omega) ?_
                    rw [sz_vi (v := (0, u.2.1, sz_add z.2.2 u.2.2)) rfl, hsum 1 hz3]
              · cases h
            · cases h
          · split at h
            · rename_i hc
              obtain ⟨c1, c2, c3, c4, c5, c6, c7, c8, c9⟩ := hc
              cases h
              obtain ⟨r1, g1, g2, g3, g4, g5⟩ := sz_pk_ok hpk c3
              have n2 : sz_sl 80 code (i + 2) ≠ 0 := fun hn => by rw [hn] at c4; cases c4
              obtain ⟨r2, p1, p2, p3, p4, p5⟩ := sz_pk_ok hpk n2
              obtain ⟨r3, q1, q2, q3, q4, q5⟩ := sz_pk_ok hpk c8
              rw [c1] at g2; rw [c2] at g5
              rw [c4] at p2; rw [c5] at p4
              rw [c6] at q2; rw [c7] at q5
              have hpush : ∀ {rr : mzI} {cc : Int} {ii : Nat}, rr.1 = 0 → rr.2.2.2.1 = cc → mz_one rr ii M.1 m (rest.map (sz_v ρ)) = some (ii + 1, m, .int (Int32.ofInt cc) :: rest.map (sz_v ρ)) := by
                intro rr cc ii h1 h2
                obtain ⟨y1, y2, y3, y4, y5⟩ := rr
                dsimp only at h1 h2
                subst h1; subst h2
                rfl
              by_cases h0 : sz_i ρ x = 0
              · refine mz_gg_one hM hri (Or.inl (show 16 < 20 by decide)) (hjmp b0 (by rw [if_pos h0])) ?_
                have hz3 : sz_i ρ z = 0 := by rw [z2]; exact if_pos h0
                rw [c9]
                refine mz_gg_one hM q1 (Or.inl (by omega)) (hpush q2 q5) ?_
                have := hg m hl
                rw [List.map_cons, sz_vi z1, hz3] at this
                exact this
              · refine mz_gg_one hM hri (Or.inl (show 16 < 20 by decide)) (hjmp (i + 1) (by rw [if_neg h0])) ?_
                have hz3 : sz_i ρ z = 1 := by rw [z2]; exact if_neg h0
                refine mz_gg_one hM g1 (Or.inl (by omega)) (hpush g2 g5) ?_
                refine mz_gg_one (q := (i + 4, m, .int 1 :: rest.map (sz_v ρ))) hM p1 (Or.inl (by omega)) ?_ ?_
                · obtain ⟨y1, y2, y3, y4, y5⟩ := r2
                  dsimp only at p2 p4
                  subst p2; subst p4
                  rfl
                · have := hg m hl
                  rw [List.map_cons, sz_vi z1, hz3] at this
                  exact this
            · cases h
        · cases h
      · cases h
    · cases h
  · cases h
/-- the same as a step of A, the atom 'not 0' at hand -/
noncomputable def az_rn1 (D : szD) (R : szR) (Cs : azS) (C : azQ) (f : szD → szR → azS → azQ → Bool) : Bool := match C with
  | ((j, m, code, i, lo, st), ws, F, dirty, new, uw, d) => sz_fo (sz_sl 80 code i) (fun q => !(Nat.beq q 0) && (match az_peep D code (Nat.mod q 256) (sz_fa q) (sz_fb q) i m.1 lo st with
    | some r => sz_fo r.1 (fun i => f D R Cs ((j, m, code, i, r.2.1, r.2.2), ws, F, dirty, new, uw, d))
    | none => false))
theorem az_rn1_ok {X : List (List Value)} {Kb : Option (Option Value) → mzS → Prop} {mods : List (Nat × Nat)} {h0 : List mzC} {bs : Nat × Nat} {ee : Nat} {D : szD} {R : szR} {Cs : azS} {ρ : Nat → Int} (hV : az_V D R Cs ρ) {C : azQ} {f : szD → szR → azS → azQ → Bool} (h : az_rn1 D R Cs C f = true) (hf : ∀ C', f D R Cs C' = true → az_GG X Kb mods h0 bs ee ρ C') : az_GG X Kb mods h0 bs ee ρ C := by
  obtain ⟨⟨j, m, code, i, lo, st⟩, ws, F, dirty, new, uw, d⟩ := C
  intro wsM w hh s2 hF hW' hH b1 b2
  obtain ⟨j', M, i', m', stM⟩ := w
  obtain ⟨F1, F2, F3, F4, F5, F6, F7⟩ := hF
  dsimp only at F1 F2 F3 F4 F5 F6 F7 hW' hH b1 b2 ⊢
  subst F1; subst F5; subst F7
  unfold az_rn1 at h
  dsimp only at h
  rw [sz_fo_eq] at h
  generalize hq : sz_sl 80 code i = q at h
  rw [Bool.and_eq_true] at h
  obtain ⟨hq0, h⟩ := h
  have hq0 : q ≠ 0 := fun e => by rw [e] at hq0; cases hq0
  have hm : m.1 = M.1 := by rw [F3]
  split at h
  · rename_i r hr
    rw [sz_fo_eq] at h
    obtain ⟨ri, g1, g2, g3, g4, g5⟩ := sz_pk_ok F4 (i := i) (by rw [hq]; exact hq0)
    rw [hq] at g2 g3 g4 g5
    refine az_peep_ok hV.1 F2 F4 g1 g2 g3 g4 F6 (by rw [← hm]; exact hr) ?_
    intro m2 hm2
    exact hf _ h wsM (j, M, r.1, m2, r.2.2.map (sz_v ρ)) hh s2 ⟨rfl, F2, F3, F4, rfl, hm2, rfl⟩ hW' hH b1 b2
  · cases h
noncomputable def az_rnz (D : szD) (R : szR) (Cs : azS) (C : azQ) (f : szD → szR → azS → azQ → Bool) : Bool := match C with
  | ((j, m, code, i, lo, st), ws, F, dirty, new, uw, d) => (match st with
    | x :: rest => sz_fo (sz_sl 80 code i) (fun q => (Nat.beq (Nat.mod q 256) 16 && Nat.beq (sz_fa q) 0) && (match sz_mk D 4 x (0, 0, []) with
      | some _ => az_rn1 D R Cs ((j, m, code, i, lo, x :: rest), ws, F, dirty, new, uw, d) f
      | none => ((az_lo R.length x.2.2 && az_loC R.length ((j, m, code, i, lo, x :: rest), ws, F, dirty, new, uw, d)) && Nat.blt (R.length + 1) 1000000) && az_fv x (fun x' => az_snk D (4, x', (0, 0, [])) (fun D => az_snk R (0, 1) (fun R => az_rn1 D R Cs ((j, m, code, i, lo, x :: rest), ws, F, dirty, new, uw, d) f)))))
    | _ => false)
theorem az_rnz_ok {X : List (List Value)} {Kb : Option (Option Value) → mzS → Prop} {mods : List (Nat × Nat)} {h0 : List mzC} {bs : Nat × Nat} {ee : Nat} {D : szD} {R : szR} {Cs : azS} {ρ : Nat → Int} (hV : az_V D R Cs ρ) (hW : az_wf D R Cs) {C : azQ} {f : szD → szR → azS → azQ → Bool} (h : az_rnz D R Cs C f = true)
    (hf : ∀ D' R' Cs' C' ρ', f D' R' Cs' C' = true → az_V D' R' Cs' ρ' → az_wf D' R' Cs' → az_ag R.length ρ ρ' → R.length ≤ R'.length → az_GG X Kb mods h0 bs ee ρ' C') : az_GG X Kb mods h0 bs ee ρ C := by
  obtain ⟨⟨j, m, code, i, lo, st⟩, ws, F, dirty, new, uw, d⟩ := C
  unfold az_rnz at h
  dsimp only at h
  split at h
  · rename_i x rest
    rw [sz_fo_eq, Bool.and_eq_true] at h
    obtain ⟨_, h⟩ := h
    split at h
    · exact az_rn1_ok hV h (fun C' hc => hf D R Cs C' ρ hc hV hW (az_ag_refl _ _) (Nat.le_refl _))
    · rw [Bool.and_eq_true, az_fv_eq, az_snk_eq, az_snk_eq] at h
      obtain ⟨h1, h2⟩ := h
      simp only [Bool.and_eq_true] at h1
      obtain ⟨⟨l1, l2⟩, l3⟩ := h1
      have l3 : R.length + 1 < 1000000 := Nat.le_of_ble_eq_true l3
      have hr : (0 : Int) ≤ (sz_op 4 (sz_i ρ x) (sz_i ρ (0, 0, []))).toInt ∧ (sz_op 4 (sz_i ρ x) (sz_i ρ (0, 0, []))).toInt ≤ 1 := by
        have e : sz_op 4 (sz_i ρ x) (sz_i ρ (0, 0, [])) = if sz_i ρ x = 0 then 0 else 1 := rfl
        rw [e]
        split
        · exact ⟨by decide, by decide⟩
        · exact ⟨by decide, by decide⟩
      obtain ⟨a1, a2, a3⟩ := az_fresh hV hW (d := (4, x, (0, 0, []))) (p := (0, 1)) (x := (sz_op 4 (sz_i ρ x) (sz_i ρ (0, 0, []))).toInt) l3 (sz_bd _) hr l1 rfl (fun _ => rfl) (fun e => absurd (show (4 : Nat) = 0 from e) (by decide))
      refine az_GG_ag a3 l2 (az_rn1_ok a1 h2 (fun C' hc => hf _ _ _ C' _ hc a1 a2 a3 ?_))
      rw [List.length_append]
      exact Nat.le_add_right _ _
  · cases h
/-- the four slots behind the round's first: atoms 2 to 5 -/
noncomputable def az_rk4 (D : szD) (R : szR) (Cs : azS) (C : azQ) (f : szD → szR → azS → azQ → Bool) : Bool := match C with
  | ((j, m, code, i, lo, st), ws, F, dirty, new, uw, d) => (match st with
    | y :: r :: rest => sz_fo (sz_sl 80 code i) (fun q => (!(Nat.beq q 0) && ((Nat.beq (Nat.mod q 256) 22 && Nat.beq (sz_fa q) 0) && (Nat.beq y.1 0 && (Nat.beq r.1 1 && decide (r.2.1 = 0))))) && (((decide (1 ≤ y.2.1) && decide (y.2.1 ≤ 4)) && decide (y.2.2 = [(1, 1)])) && sz_fo (y.2.1.toNat + 1) (fun k => sz_fo (i + 1) (fun i => f D R Cs ((j, m, code, i, lo, (0, 0, [(k, 1)]) :: rest), ws, F, dirty, new, uw, d)))))
    | _ => false)
theorem az_rk4_ok {X : List (List Value)} {L : Int} (hS : az_scr X L) {Kb : Option (Option Value) → mzS → Prop} {mods : List (Nat × Nat)} {h0 : List mzC} {bs : Nat × Nat} {ee : Nat} {D : szD} {R : szR} {Cs : azS} {ρ : Nat → Int} (hx0 : 0 ≤ ρ 1) (hxm : ρ 1 + 4 < L) (hLm : L < 2147483648) (hx : ∀ c : Nat, 1 ≤ c → c ≤ 4 → ∃ x : Int32, ρ (c + 1) = x.toInt ∧ ∀ fs, X[0]? = some fs → fs[(ρ 1 + c).toNat]? = some (.int x)) (hV : az_V D R Cs ρ) (hW : az_wf D R Cs) {C : azQ} {f : szD → szR → azS → azQ → Bool} (h : az_rk4 D R Cs C f = true)
    (hf : ∀ D' R' Cs' C' ρ', f D' R' Cs' C' = true → az_V D' R' Cs' ρ' → az_wf D' R' Cs' → az_ag R.length ρ ρ' → R.length ≤ R'.length → az_GG X Kb mods h0 bs ee ρ' C') : az_GG X Kb mods h0 bs ee ρ C := by
  obtain ⟨⟨j, m, code, i, lo, st⟩, ws, F, dirty, new, uw, d⟩ := C
  intro wsM w hh s2 hF hW' hH b1 b2
  obtain ⟨j', M, i', m', stM⟩ := w
  obtain ⟨F1, F2, F3, F4, F5, F6, F7⟩ := hF
  dsimp only at F1 F2 F3 F4 F5 F6 F7 hW' hH b1 b2 ⊢
  subst F1; subst F5; subst F7
  unfold az_rk4 at h
  dsimp only at h
  split at h
  · rename_i y r rest
    rw [sz_fo_eq] at h
    generalize hq : sz_sl 80 code i = q at h
    rw [Bool.and_eq_true] at h
    obtain ⟨h1, h23⟩ := h
    rw [Bool.and_eq_true, sz_fo_eq, sz_fo_eq] at h23
    obtain ⟨h2, h3⟩ := h23
    simp only [Bool.and_eq_true, decide_eq_true_eq] at h1 h2
    obtain ⟨hq0, ⟨ho, ha⟩, hy, hr1, hr0⟩ := h1
    obtain ⟨⟨y0, y4⟩, y2⟩ := h2
    have hq0 : q ≠ 0 := fun e => by rw [e] at hq0; cases hq0
    have ho := Nat.eq_of_beq_eq_true ho
    have ha := Nat.eq_of_beq_eq_true ha
    have hy := Nat.eq_of_beq_eq_true hy
    have hr1 := Nat.eq_of_beq_eq_true hr1
    obtain ⟨ri, g1, g2, g3, g4, g5⟩ := sz_pk_ok F4 (i := i) (by rw [hq]; exact hq0)
    rw [hq] at g2 g3 g4 g5
    obtain ⟨fs, x0, xl, xi⟩ := hS
    obtain ⟨x, hx2, hxx⟩ := hx y.2.1.toNat (by omega) (by omega)
    replace hxx := hxx fs x0
    have hr : sz_v ρ r = .ref 0 := by
      rw [sz_v1 hr1, hr0]
      rfl
    have hyv : (sz_i ρ y).toInt = ρ 1 + y.2.1 := by
      obtain ⟨yg, yc, yt⟩ := y
      dsimp only at y0 y4 y2 hy ⊢
      subst y2
      show (Int32.ofInt (yc + (1 * ρ 1 + 0))).toInt = ρ 1 + yc
      rw [sz_toInt, sz_w_id (by omega) (by omega)]
      omega
    have hcl : (sz_i ρ y).toNatClampNeg = (sz_i ρ y).toInt.toNat := rfl
    have hcc : ((y.2.1.toNat : Nat) : Int) = y.2.1 := by omega
    rw [hcc] at hxx
    have hin : mz_in (sz_i ρ y) fs = some (.int x) := by
      unfold mz_in
      rw [if_neg (by rw [Int32.lt_iff_toInt_lt]; show ¬ (sz_i ρ y).toInt < 0; omega), hcl, hyv, hxx]
    have hheap : mz_heap X ri ((y :: r :: rest).map (sz_v ρ)) (hh, s2) = some (.int x :: rest.map (sz_v ρ), (hh, s2)) := by
      have : mz_heap X ri ((y :: r :: rest).map (sz_v ρ)) (hh, s2) = mz_h22 X ri.2.1 ((y :: r :: rest).map (sz_v ρ)) (hh, s2) := by
        unfold mz_heap
        rw [g2, ho]
        rfl
      rw [this, List.map_cons, List.map_cons, sz_vi hy, hr]
      unfold mz_h22
      dsimp only
      rw [if_pos (by decide), x0]
      dsimp only
      rw [if_pos (g3.trans ha), hin]
    refine mz_gg_heap F2 g1 hheap ?_
    have hfin := hf D R Cs _ ρ h3 hV hW (az_ag_refl _ _) (Nat.le_refl _) wsM (j, M, i + 1, m', .int x :: rest.map (sz_v ρ)) hh s2 ⟨rfl, F2, F3, F4, rfl, F6, ?_⟩ hW' hH b1 b2
    · exact hfin
    · show Value.int x :: rest.map (sz_v ρ) = sz_v ρ (0, 0, [(y.2.1.toNat + 1, 1)]) :: rest.map (sz_v ρ)
      have e : sz_v ρ (0, 0, [(y.2.1.toNat + 1, 1)]) = .int x := by
        rw [sz_v_iv]
        show iv ((0 : Int) + (1 * ρ (y.2.1.toNat + 1) + 0)) = _
        rw [hx2, show (0 : Int) + (1 * x.toInt + 0) = x.toInt by omega]
        unfold iv
        rw [Int32.ofInt_toInt]
      rw [e]
  · cases h
