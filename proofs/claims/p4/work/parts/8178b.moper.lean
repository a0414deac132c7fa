/-! an OPERAND: the reference's readOperand -/
def toD : List Nat := [280, 281, 282, 283, 284, 285, 286, 287, 288, 289, 290]
theorem mr_typ {h : List mzC} (hT : az_HT h) : (az_slot h 141 2 = some (iv (hv h 141 2)) ∧ 0 ≤ hv h 141 2 ∧ hv h 141 2 ≤ 80) ∧ (az_slot h 141 6 = some (iv (hv h 141 6)) ∧ 0 ≤ hv h 141 6 ∧ hv h 141 6 ≤ 80) ∧ (az_slot h 141 7 = some (iv (hv h 141 7)) ∧ 0 ≤ hv h 141 7 ∧ hv h 141 7 ≤ 90) ∧ (az_slot h 141 8 = some (iv (hv h 141 8)) ∧ -1 ≤ hv h 141 8 ∧ hv h 141 8 ≤ 90) ∧ (az_slot h 141 10 = some (iv (hv h 141 10)) ∧ -1 ≤ hv h 141 10 ∧ hv h 141 10 ≤ 9) := ⟨hv_slot hT azL_141 (by decide +kernel), hv_slot hT azL_141 (by decide +kernel), hv_slot hT azL_141 (by decide +kernel), hv_slot hT azL_141 (by decide +kernel), hv_slot hT azL_141 (by decide +kernel)⟩
def moQ : szM := (5, 12, (0, 0, 0), szc_94)
def moMd : List (Nat × Nat) := [(141, 8), (141, 9), (141, 11)]
def moF : azF := [(141, (6, []), (0, 0, [(0, 1)])), (141, (7, []), (0, 0, [(1, 1)])), (141, (8, []), (0, (-1), [])), (141, (10, []), (0, 0, [(3, 1)]))]
def moC : azCon := (94, 5, ([azf, azf, azf, azf], coR, [], [(1, 145, []), (0, 0, [(2, 1)])], moF, toD, false), [], moMd, (0, 0))
noncomputable def moI (j : Nat) : Bool := az_inl j || Nat.beq j 90
noncomputable def moE (D : szD) (R : szR) (Cs : azS) (F : azF) (o : Option szV) : Bool := match o with
  | some v => ((Nat.beq v.1 0 && az_nw R Cs v) && az_sub D R Cs v yT1) && y_2 R Cs F 141 8 141 10 (fun w x => y_2 R Cs F 141 7 141 7 (fun u _ => yOp R Cs F 143 (0, [(2, 1)]) (0, [(1, 1)]) (0, [(3, 1)]) (fun p g => y_eq R Cs w (-1, []) && (y_eq R Cs u p && y_eq R Cs x g)) (y_eq R Cs w (0, [(1, 1)]))))
  | none => false
theorem moRun : yRun moI moC [] moQ 0 4000 0 (az_ylD toD 94 5 (fun _ _ _ _ _ _ => false) moE) yNo = true := by decide +kernel
/-- its outcome: wrong, at, highest -/
def moP (t : Int → Int) (L k p g w p' g' : Int) : Prop := (o_ok t L k p = true ∧ w = -1 ∧ p' = o_e t L p ∧ g' = o_g t L p g) ∨ (o_ok t L k p = false ∧ w = p)
def moK (h0 : List mzC) (s0 : Nat × Nat) (k : Int) (o : Option (Option Value)) (s' : mzS) : Prop := (∃ v, o = some (some (iv v)) ∧ yOpd v) ∧ moP (y_t h0 143) (hv h0 141 6) k (hv h0 141 7) (hv h0 141 10) (hv s'.1 141 8) (hv s'.1 141 7) (hv s'.1 141 10) ∧ (az_HT s'.1 ∧ az_HP s'.1 toD) ∧ az_HM moMd h0 s'.1 ∧ s'.1.length = h0.length ∧ s'.2.1 ≤ s0.1 ∧ s'.2.2 ≤ s0.2
set_option maxRecDepth 20000 in
theorem mo_all {X : List (List Value)} (hX : az_X X) {h : List mzC} {s2 : Nat × Nat} (hlen : h.length + 7000 < 2147483648) {d : Nat} (hd : 5 ≤ d) (hT : az_HT h) (hDp : az_HP h toD) (hw : az_slot h 141 8 = some (iv (-1))) {k : Int} (hk : 0 ≤ k ∧ k ≤ 9) {lo : mzL} (hlo : az_ml lo [.ref 145, iv k]) : mz_gg X (moK h s2 k) d 94 0 lo [] (h, s2) := by
  obtain ⟨_, t1, t2, _, t3⟩ := mr_typ hT
  refine az_goD (c := moC) (i0 := 0) (ρ := rho [hv h 141 6, hv h 141 7, k, hv h 141 10] ((h.length : Int) + 4)) sz_pkall_szP hX (tb := []) (fun _ hc => by cases hc) (q := moQ) rfl (az_wfb_ok (by decide +kernel)) moRun rfl (by show h.length + 1000 * (5 + 2) < 2147483648; omega) (rho_z _ _) hd ?_ hT hDp ?_ ?_ (fun D R Cs C ρ1 f hr => by cases hr) ?_
  · exact rho_V (rho_free rfl _) (show rin coR [hv h 141 6, hv h 141 7, k, hv h 141 10] from ⟨t1.2, t2.2, hk, t3.2, trivial⟩) rfl (by omega) (by decide) trivial
  · exact HF_cons 6 (hv h 141 6) (by decide) (show (6 : Int) + 0 = ((6 : Nat) : Int) by omega) (by decide) (lw_sv (rho_0 _ _ _)) t1.1 (HF_cons 7 (hv h 141 7) (by decide) (show (7 : Int) + 0 = ((7 : Nat) : Int) by omega) (by decide) (lw_sv (rho_1 _ _ _ _)) t2.1 (HF_cons 8 (-1) (by decide) (show (8 : Int) + 0 = ((8 : Nat) : Int) by omega) (by decide) (y_c0 _ _) hw (HF_cons 10 (hv h 141 10) (by decide) (show (10 : Int) + 0 = ((10 : Nat) : Int) by omega) (by decide) (lw_sv (rho_3 _ _ _ _ _ _)) t3.1 (HF_nil _ _))))
  · exact ml_one (r := 145) (by decide) hlo (show (0 : Int) + (1 * rho [hv h 141 6, hv h 141 7, k, hv h 141 10] _ 2 + 0) = k by rw [rho_2]; omega)
  · intro D R Cs C ρ2 hl2 hV2 hW2 hag hn2
    have a0 : ρ2 0 = hv h 141 6 := (hag.1 0 (by show 0 < 4; decide)).trans (rho_0 _ _ _)
    have a1 : ρ2 1 = hv h 141 7 := (hag.1 1 (by show 1 < 4; decide)).trans (rho_1 _ _ _ _)
    have a2 : ρ2 2 = k := (hag.1 2 (by show 2 < 4; decide)).trans (rho_2 _ _ _ _ _)
    have a3 : ρ2 3 = hv h 141 10 := (hag.1 3 (by show 3 < 4; decide)).trans (rho_3 _ _ _ _ _ _)
    refine az_ylD_ok hV2 hl2 (fun F i lo' m h' s3 hk => by cases hk) ?_
    intro F o h' s3 hk hT' hDp' hM' hF' hl' c1 c2
    unfold moE at hk
    split at hk
    · rename_i v
      rw [Bool.and_eq_true] at hk
      obtain ⟨hk1, hk2⟩ := hk
      simp only [Bool.and_eq_true] at hk1
      obtain ⟨⟨v0, vn⟩, vt⟩ := hk1
      have v0 := Nat.eq_of_beq_eq_true v0
      obtain ⟨w, x, e, ew, ex⟩ := y_2_ok hV2 hF' (by decide) (by decide) (by decide) (by decide) hk2
      obtain ⟨u, _, e, eu, _⟩ := y_2_ok hV2 hF' (by decide) (by decide) (by decide) (by decide) e
      refine ⟨⟨y_n ρ2 v.2, by show some (some (sz_v ρ2 v)) = _; rw [y_iv v0], y_in1 v0 vn hV2 vt⟩, ?_, ⟨hT', hDp'⟩, hM', hl', c1, c2⟩
      have q := yOp_ok hV2 hF' (by decide) e
      rw [y_a, y_a, y_a, a0, a1, a2, a3, y_t_eq hM' (by decide) (by decide)] at q
      show moP (y_t h 143) (hv h 141 6) k (hv h 141 7) (hv h 141 10) (hv h' 141 8) (hv h' 141 7) (hv h' 141 10)
      rcases q with ⟨q1, p', g', q2, q3, q4⟩ | ⟨q1, q2⟩
      · simp only [Bool.and_eq_true] at q2
        obtain ⟨z1, z2, z3⟩ := q2
        have z1 := y_eq_ok hV2 z1
        have z2 := y_eq_ok hV2 z2
        have z3 := y_eq_ok hV2 z3
        exact Or.inl ⟨q1, by rw [ew, z1]; rfl, by rw [eu, z2, q3], by rw [ex, z3, q4]⟩
      · have z1 := y_eq_ok hV2 q2
        rw [y_a, a1] at z1
        exact Or.inr ⟨q1, by rw [ew, z1]⟩
    · cases hk
/-- contracts: it may stand there: atoms 4 where it goes on, 5 the greatest letter with '; it may not -/
def moA : azCon := (94, 5, ([azf, azf, azf, azf, azf, azf], coR ++ [(0, 90), ((-1), 9)], [], [(1, 145, []), (0, 0, [(2, 1)])], moF, toD, false), [(some (some (0, 0, [(6, 1)])), [azf, azf, azf, azf, azf, azf] ++ [(0, (4, 0, []), (0, 0, []))], (coR ++ [(0, 90), ((-1), 9)]) ++ [(0, 80)], [], [(141, (7, []), (0, 0, [(4, 1)])), (141, (8, []), (0, (-1), [])), (141, (10, []), (0, 0, [(5, 1)]))])], moMd, (0, 0))
def moN : azCon := (94, 5, ([azf, azf, azf, azf], coR, [], [(1, 145, []), (0, 0, [(2, 1)])], moF, toD, false), [(some (some (0, 0, [(4, 1)])), [azf, azf, azf, azf] ++ [(0, (4, 0, []), (0, 0, []))], coR ++ [(0, 80)], [], [(141, (8, []), (0, 0, [(1, 1)]))])], moMd, (0, 0))
set_option maxRecDepth 20000 in
theorem moA_hc {X : List (List Value)} (hX : az_X X) {ρ1 : Nat → Int} {hh : List mzC} {args : List Value} {s2 : Nat × Nat} {d : Nat} (ho : o_ok (y_t hh 143) (ρ1 0) (ρ1 2) (ρ1 1) = true) (h4 : ρ1 4 = o_e (y_t hh 143) (ρ1 0) (ρ1 1)) (h5 : ρ1 5 = o_g (y_t hh 143) (ρ1 0) (ρ1 1) (ρ1 3)) (hl : args.length = 2) (hV : az_V moA.2.2.1.1 moA.2.2.1.2.1 moA.2.2.1.2.2.1 ρ1) (hLR : sz_LR ρ1 moA.2.2.1.2.2.2.1 (lv_args 0 args)) (H : az_HR [] hh ρ1 moA.2.2.1.2.2.2.2.1 moA.2.2.1.2.2.2.2.2.1 moA.2.2.1.2.2.2.2.2.2 0 hh) (hlen : hh.length + 1000 * (moA.2.1 + 2) < 2147483648) (hd : moA.2.1 ≤ d) : mz_gg X (az_PostH moA ρ1 hh s2) d moA.1 0 (lv_args 0 args) [] (hh, s2) := by
  have hlen : hh.length + 1000 * (5 + 2) < 2147483648 := hlen
  have e0 := y_fh H.1 H.2.2.1 (c := 141) (k := 6) (a := 0) (by decide) (by decide) (List.Mem.head _) (hV.2.2.2.2 0)
  have e1 := y_fh H.1 H.2.2.1 (c := 141) (k := 7) (a := 1) (by decide) (by decide) (List.Mem.tail _ (List.Mem.head _)) (hV.2.2.2.2 1)
  have e8 := HF_get H.2.2.1 (c := 141) (k := 8) (v := (0, (-1), [])) (by decide) (by decide) (List.Mem.tail _ (List.Mem.tail _ (List.Mem.head _)))
  rw [y_c0] at e8
  have e3 := y_fh H.1 H.2.2.1 (c := 141) (k := 10) (a := 3) (by decide) (by decide) (List.Mem.tail _ (List.Mem.tail _ (List.Mem.tail _ (List.Mem.head _)))) (hV.2.2.2.2 3)
  have r2 : (0 : Int) ≤ ρ1 2 ∧ ρ1 2 ≤ 9 := hV.2.1 2
  refine mz_gg_mono ?_ (mo_all hX (by omega) hd H.1 H.2.2.2.1 e8 r2 (args_2 (by decide) hl hLR))
  intro o s' hk
  obtain ⟨⟨v, k1, kv⟩, kp, k2, k3, k4, k5, k6⟩ := hk
  rw [e0, e1, e3] at kp
  have rv := yOpd_rg kv
  obtain ⟨_, _, t2, t8, t3⟩ := mr_typ k2.1
  rcases kp with ⟨_, kw, kp, kg⟩ | ⟨kn, _⟩
  · rw [← h4] at kp
    rw [← h5] at kg
    have up : ∀ a, a < 6 → az_up ρ1 6 v a = ρ1 a := fun a ha => if_neg (by omega)
    rw [kw] at t8
    refine y_post1 (c := moA) (v := (0, 0, [(6, 1)])) (d := (0, (4, 0, []), (0, 0, []))) (r := (0, 80)) (x := v) (List.Mem.head _) rfl rfl hV (az_wfb_ok (by decide +kernel)) rv (by omega) rfl ⟨rfl, rfl⟩ (fun _ => yOpd_ty kv) (by decide) (H.2.1.2 rfl rfl) k2.1 k2.2 k3 ?_ k4 k5 k6 ?_
    · exact HF_cons 7 (hv s'.1 141 7) (by decide) (show (7 : Int) + 0 = ((7 : Nat) : Int) by omega) (by decide) (lw_sv ((up 4 (by decide)).trans kp.symm)) t2.1 (HF_cons 8 (-1) (by decide) (show (8 : Int) + 0 = ((8 : Nat) : Int) by omega) (by decide) (y_c0 _ _) t8.1 (HF_cons 10 (hv s'.1 141 10) (by decide) (show (10 : Int) + 0 = ((10 : Nat) : Int) by omega) (by decide) (lw_sv ((up 5 (by decide)).trans kg.symm)) t3.1 (HF_nil _ _)))
    · rw [k1]
      exact congrArg (fun z => some (some z)) (lw_sv (show az_up ρ1 6 v 6 = v from if_pos rfl)).symm
  · rw [ho] at kn
    cases kn
set_option maxRecDepth 20000 in
theorem moN_hc {X : List (List Value)} (hX : az_X X) {ρ1 : Nat → Int} {hh : List mzC} {args : List Value} {s2 : Nat × Nat} {d : Nat} (ho : o_ok (y_t hh 143) (ρ1 0) (ρ1 2) (ρ1 1) = false) (hl : args.length = 2) (hV : az_V moN.2.2.1.1 moN.2.2.1.2.1 moN.2.2.1.2.2.1 ρ1) (hLR : sz_LR ρ1 moN.2.2.1.2.2.2.1 (lv_args 0 args)) (H : az_HR [] hh ρ1 moN.2.2.1.2.2.2.2.1 moN.2.2.1.2.2.2.2.2.1 moN.2.2.1.2.2.2.2.2.2 0 hh) (hlen : hh.length + 1000 * (moN.2.1 + 2) < 2147483648) (hd : moN.2.1 ≤ d) : mz_gg X (az_PostH moN ρ1 hh s2) d moN.1 0 (lv_args 0 args) [] (hh, s2) := by
  have hlen : hh.length + 1000 * (5 + 2) < 2147483648 := hlen
  have e0 := y_fh H.1 H.2.2.1 (c := 141) (k := 6) (a := 0) (by decide) (by decide) (List.Mem.head _) (hV.2.2.2.2 0)
  have e1 := y_fh H.1 H.2.2.1 (c := 141) (k := 7) (a := 1) (by decide) (by decide) (List.Mem.tail _ (List.Mem.head _)) (hV.2.2.2.2 1)
  have e8 := HF_get H.2.2.1 (c := 141) (k := 8) (v := (0, (-1), [])) (by decide) (by decide) (List.Mem.tail _ (List.Mem.tail _ (List.Mem.head _)))
  rw [y_c0] at e8
  have e3 := y_fh H.1 H.2.2.1 (c := 141) (k := 10) (a := 3) (by decide) (by decide) (List.Mem.tail _ (List.Mem.tail _ (List.Mem.tail _ (List.Mem.head _)))) (hV.2.2.2.2 3)
  have r2 : (0 : Int) ≤ ρ1 2 ∧ ρ1 2 ≤ 9 := hV.2.1 2
  refine mz_gg_mono ?_ (mo_all hX (by omega) hd H.1 H.2.2.2.1 e8 r2 (args_2 (by decide) hl hLR))
  intro o s' hk
  obtain ⟨⟨v, k1, kv⟩, kp, k2, k3, k4, k5, k6⟩ := hk
  rw [e0, e1, e3] at kp
  have rv := yOpd_rg kv
  obtain ⟨_, _, t2, t8, t3⟩ := mr_typ k2.1
  rcases kp with ⟨kn, _⟩ | ⟨_, kw⟩
  · rw [ho] at kn
    cases kn
  · have up : ∀ a, a < 4 → az_up ρ1 4 v a = ρ1 a := fun a ha => if_neg (by omega)
    refine y_post1 (c := moN) (v := (0, 0, [(4, 1)])) (d := (0, (4, 0, []), (0, 0, []))) (r := (0, 80)) (x := v) (List.Mem.head _) rfl rfl hV (az_wfb_ok (by decide +kernel)) rv (by omega) rfl ⟨rfl, rfl⟩ (fun _ => yOpd_ty kv) (by decide) (H.2.1.2 rfl rfl) k2.1 k2.2 k3 ?_ k4 k5 k6 ?_
    · exact HF_cons 8 (hv s'.1 141 8) (by decide) (show (8 : Int) + 0 = ((8 : Nat) : Int) by omega) (by decide) (lw_sv ((up 1 (by decide)).trans kw.symm)) t8.1 (HF_nil _ _)
    · rw [k1]
      exact congrArg (fun z => some (some z)) (lw_sv (show az_up ρ1 4 v 4 = v from if_pos rfl)).symm
