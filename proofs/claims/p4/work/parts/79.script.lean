/-! reads of the script: atom 0 is its length -/
/-- the script: so many ints -/
def az_scr (X : List (List Value)) (L : Int) : Prop := ∃ fs, X[0]? = some fs ∧ (fs.length : Int) = L ∧ ∀ v ∈ fs, ∃ x : Int32, v = .int x
noncomputable def az_rscr (D : szD) (R : szR) (Cs : azS) (C : azQ) (f : szD → szR → azS → azQ → Bool) : Bool := match C with
  | ((j, m, code, i, lo, st), ws, F, dirty, new, uw, d) => (match st with
    | y :: r :: rest => (az_loC R.length C && Nat.blt (R.length + 1) 1000000) && sz_fo (sz_sl 80 code i) (fun q => (!(Nat.beq q 0) && ((Nat.beq (Nat.mod q 256) 22 && Nat.beq (sz_fa q) 0) && (Nat.beq y.1 0 && (Nat.beq r.1 1 && decide (r.2.1 = 0))))) && (((az_nw R Cs y && decide (0 ≤ az_lb R Cs y.2.1 y.2.2)) && decide (0 ≤ az_lb R Cs (-y.2.1 - 1) (sz_add [(0, 1)] (sz_sc (-1) y.2.2)))) && sz_fo R.length (fun n => sz_fo (i + 1) (fun i => az_snk D (0, (0, 0, []), (0, 0, [])) (fun D => az_snk R (-2147483648, 2147483647) (fun R => f D R Cs ((j, m, code, i, lo, (0, 0, [(n, 1)]) :: rest), ws, F, dirty, new, uw, d)))))))
    | _ => false)
set_option maxRecDepth 20000 in
theorem az_rscr_ok {X : List (List Value)} {L : Int} (hS : az_scr X L) {Kb : Option (Option Value) → mzS → Prop} {mods : List (Nat × Nat)} {h0 : List mzC} {bs : Nat × Nat} {ee : Nat} {D : szD} {R : szR} {Cs : azS} {ρ : Nat → Int} (h00 : ρ 0 = L) (hV : az_V D R Cs ρ) (hW : az_wf D R Cs) {C : azQ} {f : szD → szR → azS → azQ → Bool} (h : az_rscr D R Cs C f = true)
    (hf : ∀ D' R' Cs' C' ρ', f D' R' Cs' C' = true → az_V D' R' Cs' ρ' → az_wf D' R' Cs' → az_ag R.length ρ ρ' → R.length ≤ R'.length → az_GG X Kb mods h0 bs ee ρ' C') : az_GG X Kb mods h0 bs ee ρ C := by
  obtain ⟨⟨j, m, code, i, lo, st⟩, ws, F, dirty, new, uw, d⟩ := C
  intro wsM w hh s2 hF hW' hH b1 b2
  obtain ⟨j', M, i', m', stM⟩ := w
  obtain ⟨F1, F2, F3, F4, F5, F6, F7⟩ := hF
  dsimp only at F1 F2 F3 F4 F5 F6 F7 hW' hH b1 b2 ⊢
  subst F1; subst F5; subst F7
  unfold az_rscr at h
  dsimp only at h
  split at h
  · rename_i y r rest
    rw [sz_fo_eq] at h
    generalize hq : sz_sl 80 code i = q at h
    rw [Bool.and_eq_true, Bool.and_eq_true] at h
    obtain ⟨⟨lo3, c4⟩, h⟩ := h
    rw [Bool.and_eq_true] at h
    obtain ⟨h1, h⟩ := h
    rw [Bool.and_eq_true, sz_fo_eq, sz_fo_eq, az_snk_eq, az_snk_eq] at h
    obtain ⟨h2, h3⟩ := h
    simp only [Bool.and_eq_true, decide_eq_true_eq] at h1 h2
    obtain ⟨hq0, ⟨ho, ha⟩, hy, hr1, hr0⟩ := h1
    obtain ⟨⟨hn, hl0⟩, hl1⟩ := h2
    have c4 : R.length + 1 < 1000000 := Nat.le_of_ble_eq_true c4
    have hq0 : q ≠ 0 := fun e => by rw [e] at hq0; cases hq0
    have ho := Nat.eq_of_beq_eq_true ho
    have ha := Nat.eq_of_beq_eq_true ha
    have hy := Nat.eq_of_beq_eq_true hy
    have hr1 := Nat.eq_of_beq_eq_true hr1
    obtain ⟨ri, g1, g2, g3, g4, g5⟩ := sz_pk_ok F4 (i := i) (by rw [hq]; exact hq0)
    rw [hq] at g2 g3 g4 g5
    unfold az_loC az_loFr at lo3
    simp only [Bool.and_eq_true] at lo3
    obtain ⟨⟨lo1, lo2⟩, lo4, lo5⟩ := lo3
    simp only [List.all_cons, Bool.and_eq_true] at lo2
    obtain ⟨fs, x0, xl, xi⟩ := hS
    have e1 := az_nw_ok hV.2.1 hV.2.2.1 hn
    have q1 := az_lb_ok hV.2.1 hV.2.2.1 y.2.1 y.2.2
    have q2 := az_lb_ok hV.2.1 hV.2.2.1 (-y.2.1 - 1) (sz_add [(0, 1)] (sz_sc (-1) y.2.2))
    rw [sz_sum_add, sz_sum_sc] at q2
    have q3 : sz_sum ρ [(0, 1)] = ρ 0 := by simp [sz_sum]
    rw [q3, h00] at q2
    have hi0 : 0 ≤ (sz_i ρ y).toInt := by omega
    have hi1 : (sz_i ρ y).toInt < fs.length := by omega
    have hcl : (sz_i ρ y).toNatClampNeg = (sz_i ρ y).toInt.toNat := rfl
    have hlt : (sz_i ρ y).toInt.toNat < fs.length := by omega
    obtain ⟨x, hx⟩ := xi _ (List.getElem_mem hlt)
    have hin : mz_in (sz_i ρ y) fs = some (.int x) := by
      unfold mz_in
      rw [if_neg (by rw [Int32.lt_iff_toInt_lt]; show ¬ (sz_i ρ y).toInt < 0; omega), hcl, List.getElem?_eq_getElem hlt, hx]
    have hr : sz_v ρ r = .ref 0 := by
      rw [sz_v1 hr1, hr0]
      rfl
    have hheap : mz_heap X ri ((y :: r :: rest).map (sz_v ρ)) (hh, s2) = some (.int x :: rest.map (sz_v ρ), (hh, s2)) := by
      have : mz_heap X ri ((y :: r :: rest).map (sz_v ρ)) (hh, s2) = mz_h22 X ri.2.1 ((y :: r :: rest).map (sz_v ρ)) (hh, s2) := by
        unfold mz_heap
        rw [g2, ho]
        rfl
      rw [this, List.map_cons, List.map_cons, sz_vi hy, hr]
      unfold mz_h22
      dsimp only
      rw [if_pos (by decide), x0]
      dsimp only
      rw [if_pos (g3.trans ha), hin]
    refine mz_gg_heap F2 g1 hheap ?_
    obtain ⟨a1, a2, a3⟩ := az_fresh hV hW (d := (0, (0, 0, []), (0, 0, []))) (p := (-2147483648, 2147483647)) (x := x.toInt) c4 (sz_bd x) (sz_bd x) rfl rfl (fun e => absurd rfl e) (fun _ e => absurd rfl e)
    have hfin := hf _ _ Cs _ _ h3 a1 a2 a3 (by rw [List.length_append]; omega) wsM (j, M, i + 1, m', .int x :: rest.map (sz_v ρ)) hh s2 ⟨rfl, F2, F3, F4, rfl, ?_, ?_⟩ (az_WR_ag a3 lo4 hW') (az_HR_ag a3 lo5 hH) b1 b2
    · exact hfin
    · intro k' v' hv' h9
      rw [F6 k' v' hv' h9, az_v_ag a3 (List.all_eq_true.mp lo1 v' (List.mem_of_getElem? hv'))]
    · show Value.int x :: rest.map (sz_v ρ) = sz_v (az_up ρ R.length x.toInt) (0, 0, [(R.length, 1)]) :: rest.map (sz_v (az_up ρ R.length x.toInt))
      have e : sz_v (az_up ρ R.length x.toInt) (0, 0, [(R.length, 1)]) = .int x := by
        rw [sz_v_iv]
        show iv ((0 : Int) + (1 * az_up ρ R.length x.toInt R.length + 0)) = _
        rw [show az_up ρ R.length x.toInt R.length = x.toInt from if_pos rfl, show (0 : Int) + (1 * x.toInt + 0) = x.toInt by omega]
        unfold iv
        rw [Int32.ofInt_toInt]
      rw [e]
      congr 1
      exact List.map_congr_left (fun v' hv' => (az_v_ag a3 (List.all_eq_true.mp lo2.2.2 v' hv')).symm)
  · cases h
set_option maxRecDepth 20000 in
theorem az_exN {P : List szM} (hP : sz_pkall P mzP = true) {inl : Nat → Bool} {X : List (List Value)} (hX : az_X X) {Kb : Option (Option Value) → mzS → Prop} {mods : List (Nat × Nat)} {h0 : List mzC} {dm : Nat} (hlen0 : h0.length + 1000 * (dm + 2) < 2147483648) {bs : Nat × Nat} {ee : Nat} {tb : List azCon} (htb : ∀ c ∈ tb, az_Valid X c) {pre hint : szD → szR → azS → azQ → Option azDir} {leaf : szD → szR → azS → azQ → Bool} {n0 : Nat} {ρ0 : Nat → Int}
    (hleaf : ∀ D R Cs C ρ, leaf D R Cs C = true → az_V D R Cs ρ → az_wf D R Cs → az_ag n0 ρ0 ρ → n0 ≤ R.length → az_GG X Kb mods h0 bs ee ρ C) : ∀ (n : Nat) (D : szD) (R : szR) (Cs : azS) (C : azQ) (ρ : Nat → Int), az_ex P inl dm tb mods pre hint leaf n D R Cs C = true → az_V D R Cs ρ → az_wf D R Cs → az_ag n0 ρ0 ρ → n0 ≤ R.length → az_GG X Kb mods h0 bs ee ρ C
  | 0, _, _, _, _, _, h, _, _, _, _ => by cases h
  | n + 1, D, R, Cs, C, ρ, h, hV, hW, hag, hn => by
    have h : az_ex1 P inl dm tb mods pre hint leaf (az_ex P inl dm tb mods pre hint leaf n) D R Cs C = true := h
    obtain ⟨⟨j, m, code, i, lo, st⟩, ws, F, dirty, new, uw, d⟩ := C
    unfold az_ex1 at h
    dsimp only at h
    rw [sz_fo_eq, sz_fo_eq] at h
    have hdo : ∀ g, az_do P dm tb mods D R Cs ((j, m, code, i, lo, st), ws, F, dirty, new, uw, d) g (az_ex P inl dm tb mods pre hint leaf n) = true → az_GG X Kb mods h0 bs ee ρ ((j, m, code, i, lo, st), ws, F, dirty, new, uw, d) := fun g h => az_do_ok hP hlen0 htb hV hW h (fun D' R' Cs' C' ρ' hf' hV' hW' hag' hle => az_exN hP hX hlen0 htb hleaf n D' R' Cs' C' ρ' hf' hV' hW' (az_ag_trans hn hag hag') (Nat.le_trans hn hle))
    have hgo : az_go1 P inl dm tb mods hint (az_ex P inl dm tb mods pre hint leaf n) D R Cs j m code i lo st ws F dirty new uw d (sz_sl 80 code i) (Nat.mod (sz_sl 80 code i) 256) = true → az_GG X Kb mods h0 bs ee ρ ((j, m, code, i, lo, st), ws, F, dirty, new, uw, d) := by
      intro h
      unfold az_go1 at h
      split at h
      · rename_i C' he
        exact az_step_ok hP hX hV he (az_exN hP hX hlen0 htb hleaf n D R Cs C' ρ h hV hW hag hn)
      · split at h
        · exact hdo _ h
        · cases h
    cases hfp : az_fp st ws (Nat.mod (sz_sl 80 code i) 256) with
    | true =>
      rw [hfp] at h
      exact hgo h
    | false =>
      rw [hfp] at h
      dsimp only [cond] at h
      cases hl : leaf D R Cs ((j, m, code, i, lo, st), ws, F, dirty, new, uw, d) with
      | true => exact hleaf D R Cs ((j, m, code, i, lo, st), ws, F, dirty, new, uw, d) ρ hl hV hW hag hn
      | false =>
        rw [hl] at h
        dsimp only [cond] at h
        split at h
        · exact hdo _ h
        · exact hgo h
/-- leaves that may read the script so many times -/
noncomputable def az_lvl (P : List szM) (inl : Nat → Bool) (dm : Nat) (tb : List azCon) (mods : List (Nat × Nat)) (pre hint : szD → szR → azS → azQ → Option azDir) (n : Nat) (leaf : szD → szR → azS → azQ → Bool) : Nat → szD → szR → azS → azQ → Bool
  | 0, D, R, Cs, C => leaf D R Cs C
  | k + 1, D, R, Cs, C => leaf D R Cs C || az_rscr D R Cs C (fun D R Cs C => az_ex P inl dm tb mods pre hint (az_lvl P inl dm tb mods pre hint n leaf k) n D R Cs C)
set_option maxRecDepth 20000 in
theorem az_lvl_ok {P : List szM} (hP : sz_pkall P mzP = true) {inl : Nat → Bool} {X : List (List Value)} (hX : az_X X) {L : Int} (hS : az_scr X L) {Kb : Option (Option Value) → mzS → Prop} {mods : List (Nat × Nat)} {h0 : List mzC} {dm : Nat} (hlen0 : h0.length + 1000 * (dm + 2) < 2147483648) {bs : Nat × Nat} {ee : Nat} {tb : List azCon} (htb : ∀ c ∈ tb, az_Valid X c) {pre hint : szD → szR → azS → azQ → Option azDir} {leaf : szD → szR → azS → azQ → Bool} {n n0 : Nat} {ρ0 : Nat → Int} (hn0 : 1 ≤ n0) (h00 : ρ0 0 = L)
    (hleaf : ∀ D R Cs C ρ, leaf D R Cs C = true → az_V D R Cs ρ → az_wf D R Cs → az_ag n0 ρ0 ρ → n0 ≤ R.length → az_GG X Kb mods h0 bs ee ρ C) : ∀ (k : Nat) (D : szD) (R : szR) (Cs : azS) (C : azQ) (ρ : Nat → Int), az_lvl P inl dm tb mods pre hint n leaf k D R Cs C = true → az_V D R Cs ρ → az_wf D R Cs → az_ag n0 ρ0 ρ → n0 ≤ R.length → az_GG X Kb mods h0 bs ee ρ C
  | 0, D, R, Cs, C, ρ, h, hV, hW, hag, hn => hleaf D R Cs C ρ h hV hW hag hn
  | k + 1, D, R, Cs, C, ρ, h, hV, hW, hag, hn => by
    have h : (leaf D R Cs C || az_rscr D R Cs C (fun D R Cs C => az_ex P inl dm tb mods pre hint (az_lvl P inl dm tb mods pre hint n leaf k) n D R Cs C)) = true := h
    rw [Bool.or_eq_true] at h
    rcases h with h | h
    · exact hleaf D R Cs C ρ h hV hW hag hn
    · refine az_rscr_ok hS (by rw [hag.1 0 (by omega)]; exact h00) hV hW h ?_
      intro D' R' Cs' C' ρ' hf hV' hW' hag' hle
      refine az_exN hP hX hlen0 htb (leaf := az_lvl P inl dm tb mods pre hint n leaf k) (n0 := n0) (ρ0 := ρ0) ?_ n D' R' Cs' C' ρ' hf hV' hW' (az_ag_trans hn hag hag') (Nat.le_trans hn hle)
      intro D2 R2 Cs2 C2 ρ2 h2 hV2 hW2 hag2 hn2
      exact az_lvl_ok hP hX hS hlen0 htb hn0 h00 hleaf k D2 R2 Cs2 C2 ρ2 h2 hV2 hW2 hag2 hn2
