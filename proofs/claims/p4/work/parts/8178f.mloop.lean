/-! a loop's text: the reference's loop -/
theorem y_post0 {c : azCon} {ρ : Nat → Int} {h : List mzC} {s2 : Nat × Nat} {FP : azF} (hp : (some none, c.2.2.1.1, c.2.2.1.2.1, c.2.2.1.2.2.1, FP) ∈ c.2.2.2.1) (hc0 : c.2.2.1.2.2.2.2.2 = ([], false)) (hc1 : c.2.2.2.2.2 = (0, 0)) (hV : az_V c.2.2.1.1 c.2.2.1.2.1 c.2.2.1.2.2.1 ρ) (hz : (ρ 1000000).toNat = h.length + 4) {h' : List mzC} {s3 : Nat × Nat} (hT : az_Tp h') (hM : az_HM c.2.2.2.2.1 h h') (hF : az_HF ρ h' false FP) (hl : h'.length = h.length) (b1 : s3.1 ≤ s2.1) (b2 : s3.2 ≤ s2.2) {o : Option (Option Value)} (ho : o = some none) : az_PostH c ρ h s2 o (h', s3) := by
  have e1 : c.2.2.1.2.2.2.2.2.1 = [] := by rw [hc0]
  have e2 : c.2.2.1.2.2.2.2.2.2 = false := by rw [hc0]
  have e3 : c.2.2.2.2.2.1 = 0 := by rw [hc1]
  have e4 : c.2.2.2.2.2.2 = 0 := by rw [hc1]
  refine ⟨_, hp, ρ, hV, ⟨fun _ _ => rfl, fun _ => rfl⟩, ho, ?_, by rw [e3]; exact b1, by rw [e4]; exact b2⟩
  rw [e1, e2, e3]
  exact ⟨hT.1, ⟨(fun e => by cases e), fun _ _ => by rw [hz, hl]⟩, hF, hT.2, hM, by rw [hl]; exact Nat.le_refl _, by rw [hl]; exact Nat.le_refl _⟩
/-- contracts of readAct -/
def naA : azCon := (95, 9, ([azf, azf, azf, azf, azf, azf], coR ++ [(0, 90), ((-1), 9)], [], [(1, 145, []), (0, 0, [(2, 1)])], moF, [], false), [(some none, [azf, azf, azf, azf, azf, azf], coR ++ [(0, 90), ((-1), 9)], [], [(141, (7, []), (0, 0, [(4, 1)])), (141, (8, []), (0, (-1), [])), (141, (10, []), (0, 0, [(5, 1)]))])], naMd, (0, 0))
def naN : azCon := (95, 9, ([azf, azf, azf, azf, azf], coR ++ [(0, 90)], [], [(1, 145, []), (0, 0, [(2, 1)])], moF, [], false), [(some none, [azf, azf, azf, azf, azf], coR ++ [(0, 90)], [], [(141, (8, []), (0, 0, [(4, 1)]))])], naMd, (0, 0))
set_option maxRecDepth 20000 in
theorem naA_hc {X : List (List Value)} (hX : az_X X) {ρ1 : Nat → Int} {hh : List mzC} {args : List Value} {s2 : Nat × Nat} {d : Nat} (ha : a_act (y_t hh 143) (ρ1 0) (ρ1 2) (ρ1 1) (ρ1 3) = (true, ρ1 4, ρ1 5)) (hl : args.length = 2) (hV : az_V naA.2.2.1.1 naA.2.2.1.2.1 naA.2.2.1.2.2.1 ρ1) (hLR : sz_LR ρ1 naA.2.2.1.2.2.2.1 (lv_args 0 args)) (H : az_HR [] hh ρ1 naA.2.2.1.2.2.2.2.1 naA.2.2.1.2.2.2.2.2.1 naA.2.2.1.2.2.2.2.2.2 0 hh) (hlen : hh.length + 1000 * (naA.2.1 + 2) < 2147483648) (hd : naA.2.1 ≤ d) : mz_gg X (az_PostH naA ρ1 hh s2) d naA.1 0 (lv_args 0 args) [] (hh, s2) := by
  have hlen : hh.length + 1000 * (9 + 2) < 2147483648 := hlen
  have e0 := y_fh H.1 H.2.2.1 (c := 141) (k := 6) (a := 0) (by decide) (by decide) (List.Mem.head _) (hV.2.2.2.2 0)
  have e1 := y_fh H.1 H.2.2.1 (c := 141) (k := 7) (a := 1) (by decide) (by decide) (List.Mem.tail _ (List.Mem.head _)) (hV.2.2.2.2 1)
  have e8 := HF_get H.2.2.1 (c := 141) (k := 8) (v := (0, (-1), [])) (by decide) (by decide) (List.Mem.tail _ (List.Mem.tail _ (List.Mem.head _)))
  rw [y_c0] at e8
  have e3 := y_fh H.1 H.2.2.1 (c := 141) (k := 10) (a := 3) (by decide) (by decide) (List.Mem.tail _ (List.Mem.tail _ (List.Mem.tail _ (List.Mem.head _)))) (hV.2.2.2.2 3)
  have r2 : (0 : Int) ≤ ρ1 2 ∧ ρ1 2 ≤ 9 := hV.2.1 2
  refine mz_gg_mono ?_ (na_all hX (by omega) hd ⟨H.1, H.2.2.2.1⟩ e8 r2 (args_2 (by decide) hl hLR))
  intro o s' hk
  obtain ⟨k1, kp, k2, k3, k4, k5, k6⟩ := hk
  rw [e0, e1, e3] at kp
  obtain ⟨_, _, t2, t8, t3⟩ := mr_typ k2.1
  rw [ha] at kp
  rcases kp with ⟨_, kw, kp, kg⟩ | ⟨kn, _⟩
  · rw [kw] at t8
    refine y_post0 (c := naA) (FP := [(141, (7, []), (0, 0, [(4, 1)])), (141, (8, []), (0, (-1), [])), (141, (10, []), (0, 0, [(5, 1)]))]) (List.Mem.head _) rfl rfl hV (H.2.1.2 rfl rfl) k2 k3 ?_ k4 k5 k6 k1
    exact HF_cons 7 (hv s'.1 141 7) (by decide) (show (7 : Int) + 0 = ((7 : Nat) : Int) by omega) (by decide) (lw_sv kp.symm) t2.1 (HF_cons 8 (-1) (by decide) (show (8 : Int) + 0 = ((8 : Nat) : Int) by omega) (by decide) (y_c0 _ _) t8.1 (HF_cons 10 (hv s'.1 141 10) (by decide) (show (10 : Int) + 0 = ((10 : Nat) : Int) by omega) (by decide) (lw_sv kg.symm) t3.1 (HF_nil _ _)))
  · cases kn
set_option maxRecDepth 20000 in
theorem naN_hc {X : List (List Value)} (hX : az_X X) {ρ1 : Nat → Int} {hh : List mzC} {args : List Value} {s2 : Nat × Nat} {d : Nat} (ha : (a_act (y_t hh 143) (ρ1 0) (ρ1 2) (ρ1 1) (ρ1 3)).1 = false) (h4 : (a_act (y_t hh 143) (ρ1 0) (ρ1 2) (ρ1 1) (ρ1 3)).2.1 = ρ1 4) (hl : args.length = 2) (hV : az_V naN.2.2.1.1 naN.2.2.1.2.1 naN.2.2.1.2.2.1 ρ1) (hLR : sz_LR ρ1 naN.2.2.1.2.2.2.1 (lv_args 0 args)) (H : az_HR [] hh ρ1 naN.2.2.1.2.2.2.2.1 naN.2.2.1.2.2.2.2.2.1 naN.2.2.1.2.2.2.2.2.2 0 hh) (hlen : hh.length + 1000 * (naN.2.1 + 2) < 2147483648) (hd : naN.2.1 ≤ d) : mz_gg X (az_PostH naN ρ1 hh s2) d naN.1 0 (lv_args 0 args) [] (hh, s2) := by
  have hlen : hh.length + 1000 * (9 + 2) < 2147483648 := hlen
  have e0 := y_fh H.1 H.2.2.1 (c := 141) (k := 6) (a := 0) (by decide) (by decide) (List.Mem.head _) (hV.2.2.2.2 0)
  have e1 := y_fh H.1 H.2.2.1 (c := 141) (k := 7) (a := 1) (by decide) (by decide) (List.Mem.tail _ (List.Mem.head _)) (hV.2.2.2.2 1)
  have e8 := HF_get H.2.2.1 (c := 141) (k := 8) (v := (0, (-1), [])) (by decide) (by decide) (List.Mem.tail _ (List.Mem.tail _ (List.Mem.head _)))
  rw [y_c0] at e8
  have e3 := y_fh H.1 H.2.2.1 (c := 141) (k := 10) (a := 3) (by decide) (by decide) (List.Mem.tail _ (List.Mem.tail _ (List.Mem.tail _ (List.Mem.head _)))) (hV.2.2.2.2 3)
  have r2 : (0 : Int) ≤ ρ1 2 ∧ ρ1 2 ≤ 9 := hV.2.1 2
  refine mz_gg_mono ?_ (na_all hX (by omega) hd ⟨H.1, H.2.2.2.1⟩ e8 r2 (args_2 (by decide) hl hLR))
  intro o s' hk
  obtain ⟨k1, kp, k2, k3, k4, k5, k6⟩ := hk
  rw [e0, e1, e3] at kp
  obtain ⟨_, _, t2, t8, t3⟩ := mr_typ k2.1
  rcases kp with ⟨kn, _⟩ | ⟨_, kw⟩
  · rw [ha] at kn
    cases kn
  · rw [h4] at kw
    refine y_post0 (c := naN) (FP := [(141, (8, []), (0, 0, [(4, 1)]))]) (List.Mem.head _) rfl rfl hV (H.2.1.2 rfl rfl) k2 k3 ?_ k4 k5 k6 k1
    exact HF_cons 8 (hv s'.1 141 8) (by decide) (show (8 : Int) + 0 = ((8 : Nat) : Int) by omega) (by decide) (lw_sv kw.symm) t8.1 (HF_nil _ _)
def nlMd : List (Nat × Nat) := [(141, 11), (141, 14), (141, 3), (141, 6), (141, 7), (141, 8), (141, 9), (142, 0), (145, 0), (147, 0), (148, 0)]
def nlQ : szM := (4, 12, (0, 0, 0), szc_96)
def nlK (h0 : List mzC) (s0 : Nat × Nat) (v : Int) (o : Option (Option Value)) (s' : mzS) : Prop := o = some (some (iv v)) ∧ az_Tp s'.1 ∧ az_HM nlMd h0 s'.1 ∧ az_slot s'.1 141 2 = some (iv 0) ∧ s'.1.length = h0.length ∧ s'.2.1 ≤ s0.1 ∧ s'.2.2 ≤ s0.2
/-- its end: so many ACTS are told -/
def ntC (n : Nat) : azCon := (96, 6, ([], [], [], [(1, 145, []), (0, (n : Int), [])], [(141, (2, []), (0, 0, []))], [], false), [(some (some (0, (n : Int), [])), [], [], [], [(141, (2, []), (0, 0, []))])], [(141, 14), (142, 0), (147, 0), (148, 0)], (0, 0))
theorem ntR_0 : az_ex szP az_inl (ntC 0).2.1 [chgB] (ntC 0).2.2.2.2.1 (fun _ => az_pre 96 []) (az_hint [chgB]) (az_sleaf szP az_inl [chgB] (fun _ => az_pre 96 []) (az_hint [chgB]) (ntC 0) [] (az_hb 0) (az_rb 0) none 0) 6000 (ntC 0).2.2.1.1 (ntC 0).2.2.1.2.1 (ntC 0).2.2.1.2.2.1 (az_hc (ntC 0) nlQ (68, (ntC 0).2.2.1, (0, []), (0, 0))) = true := by decide +kernel
theorem ntR_1 : az_ex szP az_inl (ntC 1).2.1 [chgB] (ntC 1).2.2.2.2.1 (fun _ => az_pre 96 []) (az_hint [chgB]) (az_sleaf szP az_inl [chgB] (fun _ => az_pre 96 []) (az_hint [chgB]) (ntC 1) [] (az_hb 0) (az_rb 0) none 0) 6000 (ntC 1).2.2.1.1 (ntC 1).2.2.1.2.1 (ntC 1).2.2.1.2.2.1 (az_hc (ntC 1) nlQ (68, (ntC 1).2.2.1, (0, []), (0, 0))) = true := by decide +kernel
theorem ntR_2 : az_ex szP az_inl (ntC 2).2.1 [chgB] (ntC 2).2.2.2.2.1 (fun _ => az_pre 96 []) (az_hint [chgB]) (az_sleaf szP az_inl [chgB] (fun _ => az_pre 96 []) (az_hint [chgB]) (ntC 2) [] (az_hb 0) (az_rb 0) none 0) 6000 (ntC 2).2.2.1.1 (ntC 2).2.2.1.2.1 (ntC 2).2.2.1.2.2.1 (az_hc (ntC 2) nlQ (68, (ntC 2).2.2.1, (0, []), (0, 0))) = true := by decide +kernel
theorem ntR_3 : az_ex szP az_inl (ntC 3).2.1 [chgB] (ntC 3).2.2.2.2.1 (fun _ => az_pre 96 []) (az_hint [chgB]) (az_sleaf szP az_inl [chgB] (fun _ => az_pre 96 []) (az_hint [chgB]) (ntC 3) [] (az_hb 0) (az_rb 0) none 0) 6000 (ntC 3).2.2.1.1 (ntC 3).2.2.1.2.1 (ntC 3).2.2.1.2.2.1 (az_hc (ntC 3) nlQ (68, (ntC 3).2.2.1, (0, []), (0, 0))) = true := by decide +kernel
theorem ntR_4 : az_ex szP az_inl (ntC 4).2.1 [chgB] (ntC 4).2.2.2.2.1 (fun _ => az_pre 96 []) (az_hint [chgB]) (az_sleaf szP az_inl [chgB] (fun _ => az_pre 96 []) (az_hint [chgB]) (ntC 4) [] (az_hb 0) (az_rb 0) none 0) 6000 (ntC 4).2.2.1.1 (ntC 4).2.2.1.2.1 (ntC 4).2.2.1.2.2.1 (az_hc (ntC 4) nlQ (68, (ntC 4).2.2.1, (0, []), (0, 0))) = true := by decide +kernel
theorem ntR_5 : az_ex szP az_inl (ntC 5).2.1 [chgB] (ntC 5).2.2.2.2.1 (fun _ => az_pre 96 []) (az_hint [chgB]) (az_sleaf szP az_inl [chgB] (fun _ => az_pre 96 []) (az_hint [chgB]) (ntC 5) [] (az_hb 0) (az_rb 0) none 0) 6000 (ntC 5).2.2.1.1 (ntC 5).2.2.1.2.1 (ntC 5).2.2.1.2.2.1 (az_hc (ntC 5) nlQ (68, (ntC 5).2.2.1, (0, []), (0, 0))) = true := by decide +kernel
theorem ntR_6 : az_ex szP az_inl (ntC 6).2.1 [chgB] (ntC 6).2.2.2.2.1 (fun _ => az_pre 96 []) (az_hint [chgB]) (az_sleaf szP az_inl [chgB] (fun _ => az_pre 96 []) (az_hint [chgB]) (ntC 6) [] (az_hb 0) (az_rb 0) none 0) 6000 (ntC 6).2.2.1.1 (ntC 6).2.2.1.2.1 (ntC 6).2.2.1.2.2.1 (az_hc (ntC 6) nlQ (68, (ntC 6).2.2.1, (0, []), (0, 0))) = true := by decide +kernel
theorem ntR_7 : az_ex szP az_inl (ntC 7).2.1 [chgB] (ntC 7).2.2.2.2.1 (fun _ => az_pre 96 []) (az_hint [chgB]) (az_sleaf szP az_inl [chgB] (fun _ => az_pre 96 []) (az_hint [chgB]) (ntC 7) [] (az_hb 0) (az_rb 0) none 0) 6000 (ntC 7).2.2.1.1 (ntC 7).2.2.1.2.1 (ntC 7).2.2.1.2.2.1 (az_hc (ntC 7) nlQ (68, (ntC 7).2.2.1, (0, []), (0, 0))) = true := by decide +kernel
theorem ntR_8 : az_ex szP az_inl (ntC 8).2.1 [chgB] (ntC 8).2.2.2.2.1 (fun _ => az_pre 96 []) (az_hint [chgB]) (az_sleaf szP az_inl [chgB] (fun _ => az_pre 96 []) (az_hint [chgB]) (ntC 8) [] (az_hb 0) (az_rb 0) none 0) 6000 (ntC 8).2.2.1.1 (ntC 8).2.2.1.2.1 (ntC 8).2.2.1.2.2.1 (az_hc (ntC 8) nlQ (68, (ntC 8).2.2.1, (0, []), (0, 0))) = true := by decide +kernel
theorem ntR_9 : az_ex szP az_inl (ntC 9).2.1 [chgB] (ntC 9).2.2.2.2.1 (fun _ => az_pre 96 []) (az_hint [chgB]) (az_sleaf szP az_inl [chgB] (fun _ => az_pre 96 []) (az_hint [chgB]) (ntC 9) [] (az_hb 0) (az_rb 0) none 0) 6000 (ntC 9).2.2.1.1 (ntC 9).2.2.1.2.1 (ntC 9).2.2.1.2.2.1 (az_hc (ntC 9) nlQ (68, (ntC 9).2.2.1, (0, []), (0, 0))) = true := by decide +kernel
theorem ntR_10 : az_ex szP az_inl (ntC 10).2.1 [chgB] (ntC 10).2.2.2.2.1 (fun _ => az_pre 96 []) (az_hint [chgB]) (az_sleaf szP az_inl [chgB] (fun _ => az_pre 96 []) (az_hint [chgB]) (ntC 10) [] (az_hb 0) (az_rb 0) none 0) 6000 (ntC 10).2.2.1.1 (ntC 10).2.2.1.2.1 (ntC 10).2.2.1.2.2.1 (az_hc (ntC 10) nlQ (68, (ntC 10).2.2.1, (0, []), (0, 0))) = true := by decide +kernel
theorem ntR (n : Nat) (hn : n ≤ 10) : az_ex szP az_inl (ntC n).2.1 [chgB] (ntC n).2.2.2.2.1 (fun _ => az_pre 96 []) (az_hint [chgB]) (az_sleaf szP az_inl [chgB] (fun _ => az_pre 96 []) (az_hint [chgB]) (ntC n) [] (az_hb 0) (az_rb 0) none 0) 6000 (ntC n).2.2.1.1 (ntC n).2.2.1.2.1 (ntC n).2.2.1.2.2.1 (az_hc (ntC n) nlQ (68, (ntC n).2.2.1, (0, []), (0, 0))) = true := by
  match n, hn with
  | 0, _ => exact ntR_0
  | 1, _ => exact ntR_1
  | 2, _ => exact ntR_2
  | 3, _ => exact ntR_3
  | 4, _ => exact ntR_4
  | 5, _ => exact ntR_5
  | 6, _ => exact ntR_6
  | 7, _ => exact ntR_7
  | 8, _ => exact ntR_8
  | 9, _ => exact ntR_9
  | 10, _ => exact ntR_10
  | n + 11, h => omega
set_option maxRecDepth 20000 in
theorem nt_all {X : List (List Value)} (hX : az_X X) (hC : az_Valid X chgB) {h0 : List mzC} {s0 : Nat × Nat} {h : List mzC} {s2 : Nat × Nat} (hlen : h.length + 8000 < 2147483648) {d : Nat} (hd : 6 ≤ d) (hT : az_Tp h) (hM0 : az_HM nlMd h0 h) (hl : h.length = h0.length) (b1 : s2.1 ≤ s0.1) (b2 : s2.2 ≤ s0.2) (h2 : az_slot h 141 2 = some (iv 0)) {n : Nat} (hn : n ≤ 10) {lo : mzL} (hlo : az_ml lo [.ref 145, iv n]) : mz_gg X (nlK h0 s0 (n : Int)) d 96 68 lo [] (h, s2) := by
  refine az_go (c := ntC n) (ends := []) (i0 := 68) (ρ := rho [] ((h.length : Int) + 4)) sz_pkall_szP hX (tb := [chgB]) (List.forall_mem_cons.mpr ⟨hC, fun _ hc => by cases hc⟩) (q := nlQ) rfl (az_wfb_ok rfl) (ntR n hn) rfl rfl rfl (by show h.length + 1000 * (6 + 2) < 2147483648; omega) (rho_z _ _) hd ?_ hT ?_ ?_ (fun k hk => by cases hk) ?_ (fun E hE => by cases hE)
  · exact rho_V (rho_free rfl _) (show rin [] [] from trivial) rfl (by omega) (by show 0 ≤ 1000000; decide) trivial
  · exact HF_cons 2 0 (by decide) (show (2 : Int) + 0 = ((2 : Nat) : Int) by omega) (by decide) (y_c0 _ _) h2 (HF_nil _ _)
  · show az_ml lo (([(1, 145, []), (0, (n : Int), [])] : szLo).map (sz_v _))
    rw [List.map_cons, List.map_cons, List.map_nil, sz_v_ref _ (show (145 : Int) < 1000000 by decide), y_c0]
    exact hlo
  · intro p hp ρ' h' s3 w1 ag hT' hM' hF' hl' c1 c2
    have hp := List.mem_singleton.mp hp
    subst hp
    have e2 := HF_get hF' (c := 141) (k := 2) (v := (0, 0, [])) (by decide) (by decide) (List.Mem.head _)
    refine ⟨?_, hT', HM_trans hM0 hM' (md_all2 rfl), e2.trans (congrArg some (y_c0 _ _)), by show h'.length = _; omega, by show s3.1 ≤ _; omega, by show s3.2 ≤ _; omega⟩
    show some (some (sz_v ρ' (0, (n : Int), []))) = _
    rw [y_c0]
/-- an ACT of it: atoms 0 how many signs, 1 where, 2 which ACT, 3 the greatest letter with '; 4, 5 behind it -/
def nlC (b : Bool) : azCon := (96, 12, ([azf, azf, azf, azf, azf, azf], csR b, [], [(1, 145, []), (0, 0, [(2, 1)]), (0, 1, [])], moF, [], false), [], naMd, (0, 0))
noncomputable def nlD (ok : Bool) (D : szD) (R : szR) (Cs : azS) (C : azQ) (fn : szD → szR → azS → azQ → Bool) : Bool := bif ok then az_knr szP 12 naMd 6 96 24 naA [(0, 0, [(0, 1)]), (0, 0, [(1, 1)]), (0, 0, [(2, 1)]), (0, 0, [(3, 1)]), (0, 0, [(4, 1)]), (0, 0, [(5, 1)])] D R Cs C fn else az_knr szP 12 naMd 6 96 24 naN [(0, 0, [(0, 1)]), (0, 0, [(1, 1)]), (0, 0, [(2, 1)]), (0, 0, [(3, 1)]), (0, 0, [(4, 1)])] D R Cs C fn
noncomputable def nlH (ok b : Bool) (_ : szD) (R : szR) (Cs : azS) (F : azF) (i : Nat) (lo : szLo) : Bool :=
  ((Nat.beq i 22 && (!b && ok)) && ((y_lo R Cs [(1, 145, []), (0, 1, [(2, 1)]), (0, 1, [])] lo && y_fs R Cs F [(141, 8, (0, (-1), []))]) && y_2 R Cs F 141 7 141 10 (fun u w => y_dec R Cs y_L (0, [(4, 1)]) false (yC R Cs F 143 (0, [(4, 1)]) 59 59 (y_eq R Cs u (1, [(4, 1)]) && y_eq R Cs w (0, [(5, 1)])) false))))
  || ((Nat.beq i 68 && ok) && (y_lo R Cs [(1, 145, []), (0, 1, [(2, 1)])] lo && y_dec R Cs y_L (0, [(4, 1)]) (y_lt R Cs (0, [(5, 1)]) (1, [(2, 1)])) false))
noncomputable def nlE (ok b : Bool) (_ : szD) (R : szR) (Cs : azS) (F : azF) (o : Option szV) : Bool := match o with
  | some v => Nat.beq v.1 0 && (bif ok then y_dec R Cs y_L (0, [(4, 1)]) (y_le R Cs (1, [(2, 1)]) (0, [(5, 1)]) && y_eq R Cs v.2 ((-200), [])) (y_eq R Cs v.2 ((-1), [(4, (-1))]) && (b || yC R Cs F 143 (0, [(4, 1)]) 59 59 false true)) else y_eq R Cs v.2 ((-1), [(4, (-1))]))
  | none => false
theorem nlR_0 : yRun az_inl (nlC false) [chgB] nlQ 22 3000 1 (az_yl 96 12 (nlH false false) (nlE false false)) (nlD false) = true := by decide +kernel
theorem nlR_1 : yRun az_inl (nlC true) [chgB] nlQ 22 3000 1 (az_yl 96 12 (nlH false true) (nlE false true)) (nlD false) = true := by decide +kernel
theorem nlR_2 : yRun az_inl (nlC false) [chgB] nlQ 22 3000 1 (az_yl 96 12 (nlH true false) (nlE true false)) (nlD true) = true := by decide +kernel
theorem nlR_3 : yRun az_inl (nlC true) [chgB] nlQ 22 3000 1 (az_yl 96 12 (nlH true true) (nlE true true)) (nlD true) = true := by decide +kernel
theorem nlRun (ok b : Bool) : yRun az_inl (nlC b) [chgB] nlQ 22 3000 1 (az_yl 96 12 (nlH ok b) (nlE ok b)) (nlD ok) = true := by
  cases ok <;> cases b
  · exact nlR_0
  · exact nlR_1
  · exact nlR_2
  · exact nlR_3
set_option maxRecDepth 20000 in
theorem nl_step {X : List (List Value)} (hX : az_X X) (hC : az_Valid X chgB) {h0 : List mzC} {s0 : Nat × Nat} (hlen : h0.length + 14000 < 2147483648) {L : Int} (hL : 0 ≤ L ∧ L ≤ 80) {d : Nat} (hd : 12 ≤ d) {n : Nat} {p g k : Int} {h : List mzC} {s2 : Nat × Nat} {lo : mzL} (hn : n ≤ 9) (hk : k = 9 - (n : Int)) (hpL : p ≤ L) (hT : az_Tp h) (hM : az_HM nlMd h0 h) (hl : h.length = h0.length) (b1 : s2.1 ≤ s0.1) (b2 : s2.2 ≤ s0.2) (eL : hv h 141 6 = L) (ep : hv h 141 7 = p) (eg : hv h 141 10 = g) (ew : az_slot h 141 8 = some (iv (-1))) (e20 : az_slot h 141 2 = some (iv 0)) (hlo : az_ml lo [.ref 145, iv k, iv 1])
    (ih : Nat.beq n 0 = false → ∀ (p' g' : Int) (h' : List mzC) (s3 : Nat × Nat) (lo' : mzL), p' ≤ L → az_Tp h' → az_HM nlMd h0 h' → h'.length = h0.length → s3.1 ≤ s0.1 → s3.2 ≤ s0.2 → hv h' 141 6 = L → hv h' 141 7 = p' → hv h' 141 10 = g' → az_slot h' 141 8 = some (iv (-1)) → az_slot h' 141 2 = some (iv 0) → az_ml lo' [.ref 145, iv (k + 1), iv 1] → mz_gg X (nlK h0 s0 (l_a (l_r (y_t h0 143) L n p' g'))) d 96 22 lo' [] (h', s3)) : mz_gg X (nlK h0 s0 (l_a (l_r (y_t h0 143) L (n + 1) p g))) d 96 22 lo [] (h, s2) := by
  obtain ⟨_, t1, t2, _, t3⟩ := mr_typ hT.1
  rw [eL] at t1
  rw [ep] at t2
  rw [eg] at t3
  have ht : y_t h 143 = y_t h0 143 := y_t_eq hM (by decide) (by decide)
  have ab := a_act_bd (t := y_t h0 143) (k := k) (g := g) hpL t3.2
  have hkr : (bif Nat.beq n 0 then ((9, 9) : Int × Int) else (0, 8)).1 ≤ k ∧ k ≤ (bif Nat.beq n 0 then ((9, 9) : Int × Int) else (0, 8)).2 := by
    cases hz : Nat.beq n 0 with
    | true =>
      have := Nat.eq_of_beq_eq_true hz
      rw [cond_true]
      dsimp only
      omega
    | false =>
      have : n ≠ 0 := fun e => by rw [e] at hz; cases hz
      rw [cond_false]
      dsimp only
      omega
  obtain ⟨ok, e, g1, hok, he, hg1, re, rg⟩ : ∃ (ok : Bool) (e g1 : Int), (a_act (y_t h0 143) L k p g).1 = ok ∧ (a_act (y_t h0 143) L k p g).2.1 = e ∧ (ok = true → (a_act (y_t h0 143) L k p g).2.2 = g1) ∧ (0 ≤ e ∧ e ≤ 90) ∧ (-1 ≤ g1 ∧ g1 ≤ 9) := by
    cases h1 : (a_act (y_t h0 143) L k p g).1 with
    | true => exact ⟨true, _, _, rfl, rfl, fun _ => rfl, by omega, ab.2 h1⟩
    | false => exact ⟨false, _, 0, rfl, rfl, fun q => (by cases q), by omega, by omega⟩
  have eact : ok = true → a_act (y_t h0 143) L k p g = (true, e, g1) := by
    intro q
    rw [← hok] at q
    have q2 := hg1 (by rw [← hok]; exact q)
    rw [← he, ← q2, ← q]
  rw [l_r_succ, ← hk, hok, he]
  refine az_goX (c := nlC (Nat.beq n 0)) (i0 := 22) (ρ := rho [L, p, k, g, e, g1] ((h.length : Int) + 4)) sz_pkall_szP hX (tb := [chgB]) (List.forall_mem_cons.mpr ⟨hC, fun _ hc => by cases hc⟩) (q := nlQ) rfl (az_wfb_ok (by cases Nat.beq n 0 <;> rfl)) (nlRun ok (Nat.beq n 0)) rfl (by show h.length + 1000 * (12 + 2) < 2147483648; omega) (rho_z _ _) hd ?_ hT ?_ ?_ ?_ ?_
  · exact rho_V (rho_free rfl _) (show rin (csR (Nat.beq n 0)) [L, p, k, g, e, g1] from ⟨hL, t2.2, hkr, t3.2, re, rg, trivial⟩) (by cases Nat.beq n 0 <;> rfl) (by omega) (by show 6 ≤ 1000000; decide) trivial
  · exact HF_cons 6 L (by decide) (show (6 : Int) + 0 = ((6 : Nat) : Int) by omega) (by decide) (lw_sv (rho_0 _ _ _)) t1.1 (HF_cons 7 p (by decide) (show (7 : Int) + 0 = ((7 : Nat) : Int) by omega) (by decide) (lw_sv (rho_1 _ _ _ _)) t2.1 (HF_cons 8 (-1) (by decide) (show (8 : Int) + 0 = ((8 : Nat) : Int) by omega) (by decide) (y_c0 _ _) ew (HF_cons 10 g (by decide) (show (10 : Int) + 0 = ((10 : Nat) : Int) by omega) (by decide) (lw_sv (rho_3 _ _ _ _ _ _)) t3.1 (HF_nil _ _))))
  · show az_ml lo (([(1, 145, []), (0, 0, [(2, 1)]), (0, 1, [])] : szLo).map (sz_v (rho [L, p, k, g, e, g1] ((h.length : Int) + 4))))
    rw [List.map_cons, List.map_cons, List.map_cons, List.map_nil, sz_v_ref _ (show (145 : Int) < 1000000 by decide), lw_sv (rho_2 _ _ _ _ _), y_c0]
    exact hlo
  · intro D R Cs C ρ1 fn hr hV1 hW1 hag hn hf
    have a0 := (hag.1 0 (by show 0 < 6; decide)).trans (rho_0 _ _ _)
    have a1 := (hag.1 1 (by show 1 < 6; decide)).trans (rho_1 _ _ _ _)
    have a2 := (hag.1 2 (by show 2 < 6; decide)).trans (rho_2 _ _ _ _ _)
    have a3 := (hag.1 3 (by show 3 < 6; decide)).trans (rho_3 _ _ _ _ _ _)
    have a4 := (hag.1 4 (by show 4 < 6; decide)).trans (rho_4 _ _ _ _ _ _ _)
    have a5 := (hag.1 5 (by show 5 < 6; decide)).trans (rho_5 _ _ _ _ _ _ _ _)
    have hl12 : h.length + 1000 * (12 + 2) < 2147483648 := by omega
    unfold nlD at hr
    rcases Bool.eq_false_or_eq_true ok with hokb | hokb
    · rw [hokb, cond_true] at hr
      refine az_knr_ok sz_pkall_szP hl12 hV1 hW1 ?_ hr hf
      intro ρ3 hh args s4 d4 hl4 hbd hM4 hV3 hLR H hlen3 hd4
      have c0 : ρ3 0 = (0 : Int) + (1 * ρ1 0 + 0) := hbd 0 _ rfl
      have c1 : ρ3 1 = (0 : Int) + (1 * ρ1 1 + 0) := hbd 1 _ rfl
      have c2 : ρ3 2 = (0 : Int) + (1 * ρ1 2 + 0) := hbd 2 _ rfl
      have c3 : ρ3 3 = (0 : Int) + (1 * ρ1 3 + 0) := hbd 3 _ rfl
      have c4 : ρ3 4 = (0 : Int) + (1 * ρ1 4 + 0) := hbd 4 _ rfl
      have c5 : ρ3 5 = (0 : Int) + (1 * ρ1 5 + 0) := hbd 5 _ rfl
      refine naA_hc hX ?_ hl4 hV3 hLR H hlen3 hd4
      rw [y_t_eq hM4 (by decide) rfl, ht, show ρ3 0 = L by omega, show ρ3 1 = p by omega, show ρ3 2 = k by omega, show ρ3 3 = g by omega, show ρ3 4 = e by omega, show ρ3 5 = g1 by omega]
      exact eact hokb
    · rw [hokb, cond_false] at hr
      refine az_knr_ok sz_pkall_szP hl12 hV1 hW1 ?_ hr hf
      intro ρ3 hh args s4 d4 hl4 hbd hM4 hV3 hLR H hlen3 hd4
      have c0 : ρ3 0 = (0 : Int) + (1 * ρ1 0 + 0) := hbd 0 _ rfl
      have c1 : ρ3 1 = (0 : Int) + (1 * ρ1 1 + 0) := hbd 1 _ rfl
      have c2 : ρ3 2 = (0 : Int) + (1 * ρ1 2 + 0) := hbd 2 _ rfl
      have c3 : ρ3 3 = (0 : Int) + (1 * ρ1 3 + 0) := hbd 3 _ rfl
      have c4 : ρ3 4 = (0 : Int) + (1 * ρ1 4 + 0) := hbd 4 _ rfl
      have z0 : ρ3 0 = L := by omega
      have z1 : ρ3 1 = p := by omega
      have z2 : ρ3 2 = k := by omega
      have z3 : ρ3 3 = g := by omega
      have z4 : ρ3 4 = e := by omega
      refine naN_hc hX ?_ ?_ hl4 hV3 hLR H hlen3 hd4
      · rw [y_t_eq hM4 (by decide) rfl, ht, z0, z1, z2, z3, hok, hokb]
      · rw [y_t_eq hM4 (by decide) rfl, ht, z0, z1, z2, z3, z4, he]
  · intro D R Cs C ρ2 hl2 hV2 hW2 hag hn2
    have a0 := (hag.1 0 (by show 0 < 6; decide)).trans (rho_0 _ _ _)
    have a2 := (hag.1 2 (by show 2 < 6; decide)).trans (rho_2 _ _ _ _ _)
    have a4 := (hag.1 4 (by show 4 < 6; decide)).trans (rho_4 _ _ _ _ _ _ _)
    have a5 := (hag.1 5 (by show 5 < 6; decide)).trans (rho_5 _ _ _ _ _ _ _ _)
    have n0 : ∀ z : Int, y_n ρ2 (z, []) = z := fun z => Int.add_zero z
    have n1 : ∀ q : Nat, y_n ρ2 ((1 : Int), [(q, 1)]) = ρ2 q + 1 := by
      intro q
      show (1 : Int) + (1 * ρ2 q + 0) = _
      omega
    have nm : y_n ρ2 ((-1 : Int), [(4, (-1))]) = -1 - e := by
      show (-1 : Int) + ((-1) * ρ2 4 + 0) = _
      rw [a4]
      omega
    have hdd : (12 : Nat) + (d - 12) = d := by omega
    have hsb : ∀ c k, az_md nlMd c k = false → az_md naMd c k = false := md_all2 rfl
    refine az_yl_ok hV2 hl2 ?_ ?_
    · intro F i lo' mm h' s3 hk2 hLR hT' hM' hF' hl' c1 c2
      have tt : y_t h' 143 = y_t h0 143 := (y_t_eq hM' (by decide) rfl).trans ht
      have hM2 := HM_trans hM hM' hsb
      have e2' : az_slot h' 141 2 = some (iv 0) := (hM' 141 2 (by rw [azL_len]; decide) rfl).trans e20
      unfold nlH at hk2
      rw [Bool.or_eq_true] at hk2
      rcases hk2 with hk2 | hk2
      · rw [Bool.and_eq_true, Bool.and_eq_true, Bool.and_eq_true, Bool.and_eq_true, Bool.and_eq_true] at hk2
        obtain ⟨⟨hi, hb, hokb⟩, ⟨hlo2, hw2⟩, hk2⟩ := hk2
        have hb : Nat.beq n 0 = false := by simpa using hb
        have hi := Nat.eq_of_beq_eq_true hi
        subst hi
        have ew' := (y_fs_ok hV2 hF' hw2 _ (List.Mem.head _)).trans (congrArg some (y_c0 _ _))
        obtain ⟨u, w, ee, eu, ew2⟩ := y_2_ok hV2 hF' (by decide) (by decide) (by decide) (by decide) hk2
        rcases y_dec_ok hV2 ee with ⟨_, ee⟩ | ⟨q1, ee⟩
        · cases ee
        rcases yC_ok hV2 hF' (by decide) ee with ⟨q2, ee⟩ | ⟨_, ee⟩
        rotate_left
        · cases ee
        rw [Bool.and_eq_true] at ee
        have z1 := y_eq_ok hV2 ee.1
        have z2 := y_eq_ok hV2 ee.2
        rw [y_L_n, y_a, a0, a4] at q1
        rw [tt, y_a, a0, a4] at q2
        rw [n1, a4] at z1
        rw [y_a, a5] at z2
        rw [hokb, cond_true, if_neg (by omega), hb, cond_false, q2, cond_true, hg1 hokb, ← z1, ← eu, ← z2, ← ew2]
        have G := ih hb (hv h' 141 7) (hv h' 141 10) h' s3 mm (by rw [eu, z1]; omega) hT' hM2 (by omega) (by omega) (by omega) (by rw [HM_hv hM' (by decide) rfl, eL]) rfl rfl ew' e2' (by
          have q := y_lo_ok hV2 hlo2 hLR
          rw [List.map_cons, List.map_cons, List.map_cons, List.map_nil, sz_v_ref _ (show (145 : Int) < 1000000 by decide), sz_v_iv, y_c0, show (1 : Int) + sz_sum ρ2 [(2, 1)] = k + 1 by show (1 : Int) + (1 * ρ2 2 + 0) = _; rw [a2]; omega] at q
          exact q)
        show mz_gg X _ (12 + (d - 12)) 96 22 mm [] (h', s3)
        rw [hdd]
        exact G
      · rw [Bool.and_eq_true, Bool.and_eq_true, Bool.and_eq_true] at hk2
        obtain ⟨⟨hi, hokb⟩, hlo2, hk2⟩ := hk2
        have hi := Nat.eq_of_beq_eq_true hi
        subst hi
        rcases y_dec_ok hV2 hk2 with ⟨q1, ee⟩ | ⟨_, ee⟩
        rotate_left
        · cases ee
        have ee := y_lt_ok hV2 ee
        rw [y_L_n, y_a, a0, a4] at q1
        rw [y_a, n1, a5, a2] at ee
        rw [hokb, cond_true, if_pos q1, hg1 hokb]
        have e10 : l_a (true, 10 - (n : Int), g1) = ((10 - n : Nat) : Int) := by
          unfold l_a
          rw [cond_true]
          show (if 10 - (n : Int) ≤ g1 then (-200 : Int) else 10 - (n : Int)) = _
          rw [if_neg (by omega)]
          omega
        rw [e10]
        have G := nt_all hX hC (h0 := h0) (s0 := s0) (h := h') (s2 := s3) (by omega) (by omega : 6 ≤ d) hT' hM2 (by omega) (by omega) (by omega) e2' (n := 10 - n) (by omega) (lo := mm) (by
          have q := ml_one' (r := 145) (by decide) (y_lo_ok hV2 hlo2 hLR) (show (1 : Int) + (1 * ρ2 2 + 0) = ((10 - n : Nat) : Int) by rw [a2]; omega)
          exact q)
        show mz_gg X _ (12 + (d - 12)) 96 68 mm [] (h', s3)
        rw [hdd]
        exact G
    · intro F o h' s3 hk2 hT' hM' hF' hl' c1 c2
      have tt : y_t h' 143 = y_t h0 143 := (y_t_eq hM' (by decide) rfl).trans ht
      have e2' : az_slot h' 141 2 = some (iv 0) := (hM' 141 2 (by rw [azL_len]; decide) rfl).trans e20
      unfold nlE at hk2
      split at hk2
      · rename_i v
        rw [Bool.and_eq_true] at hk2
        obtain ⟨v0, hk2⟩ := hk2
        have v0 := Nat.eq_of_beq_eq_true v0
        refine ⟨?_, hT', HM_trans hM hM' hsb, e2', by show h'.length = _; omega, by show s3.1 ≤ _; omega, by show s3.2 ≤ _; omega⟩
        show some (some (sz_v ρ2 v)) = _
        rw [y_iv v0]
        refine congrArg (fun z => some (some (iv z))) ?_
        cases hokb : ok with
        | true =>
          rw [hokb, cond_true] at hk2
          rw [cond_true]
          rcases y_dec_ok hV2 hk2 with ⟨q1, ee⟩ | ⟨q1, ee⟩
          · rw [y_L_n, y_a, a0, a4] at q1
            rw [Bool.and_eq_true] at ee
            have z0 := y_le_ok hV2 ee.1
            have z1 := y_eq_ok hV2 ee.2
            rw [n1, y_a, a2, a5] at z0
            rw [if_pos q1, hg1 hokb, z1, n0]
            unfold l_a
            rw [cond_true]
            show (-200 : Int) = (if 10 - (n : Int) ≤ g1 then (-200 : Int) else 10 - (n : Int))
            rw [if_pos (by omega)]
          · rw [y_L_n, y_a, a0, a4] at q1
            simp only [Bool.and_eq_true] at ee
            obtain ⟨e1, e3⟩ := ee
            have z0 := y_eq_ok hV2 e1
            rw [nm] at z0
            rw [if_neg (by omega), z0]
            cases hz : Nat.beq n 0 with
            | true =>
              rw [cond_true]
              rfl
            | false =>
              rw [hz, Bool.false_or] at e3
              rw [cond_false]
              rcases yC_ok hV2 hF' (by decide) e3 with ⟨_, e3⟩ | ⟨q2, _⟩
              · cases e3
              · rw [tt, y_a, a0, a4] at q2
                rw [q2, cond_false]
                rfl
        | false =>
          rw [hokb, cond_false] at hk2
          have z0 := y_eq_ok hV2 hk2
          rw [nm] at z0
          rw [cond_false, z0]
          rfl
      · cases hk2
theorem nl_loop {X : List (List Value)} (hX : az_X X) (hC : az_Valid X chgB) {h0 : List mzC} {s0 : Nat × Nat} (hlen : h0.length + 14000 < 2147483648) {L : Int} (hL : 0 ≤ L ∧ L ≤ 80) {d : Nat} (hd : 12 ≤ d) : ∀ (n : Nat) (p g k : Int) (h : List mzC) (s2 : Nat × Nat) (lo : mzL), n ≤ 9 → k = 9 - (n : Int) → p ≤ L → az_Tp h → az_HM nlMd h0 h → h.length = h0.length → s2.1 ≤ s0.1 → s2.2 ≤ s0.2 → hv h 141 6 = L → hv h 141 7 = p → hv h 141 10 = g → az_slot h 141 8 = some (iv (-1)) → az_slot h 141 2 = some (iv 0) → az_ml lo [.ref 145, iv k, iv 1] → mz_gg X (nlK h0 s0 (l_a (l_r (y_t h0 143) L (n + 1) p g))) d 96 22 lo [] (h, s2)
  | 0, p, g, k, h, s2, lo, hn, hk, hpL, hT, hM, hl, b1, b2, eL, ep, eg, ew, e20, hlo => nl_step hX hC hlen hL hd hn hk hpL hT hM hl b1 b2 eL ep eg ew e20 hlo (fun e => by cases e)
  | n + 1, p, g, k, h, s2, lo, hn, hk, hpL, hT, hM, hl, b1, b2, eL, ep, eg, ew, e20, hlo => nl_step hX hC hlen hL hd hn hk hpL hT hM hl b1 b2 eL ep eg ew e20 hlo (fun _ p' g' h' s3 lo' q1 q2 q3 q4 q5 q6 q7 q8 q9 q10 q11 q12 => nl_loop hX hC hlen hL hd n p' g' (k + 1) h' s3 lo' (by omega) (by omega) q1 q2 q3 q4 q5 q6 q7 q8 q9 q10 q11 q12)
/-- its begin: atom 0 how many signs -/
def nbMd : List (Nat × Nat) := [(141, 3), (141, 6), (141, 7), (141, 8), (141, 9), (141, 11)]
def nbC : azCon := (96, 12, ([azf], [(0, 80)], [], [(1, 145, [])], [(141, (2, []), (0, 0, [(0, 1)]))], [], false), [], nbMd, (0, 0))
noncomputable def nbH (_ : szD) (R : szR) (Cs : azS) (F : azF) (i : Nat) (lo : szLo) : Bool :=
  (Nat.beq i 22 && (y_lo R Cs [(1, 145, []), (0, 0, []), (0, 1, [])] lo && (y_fs R Cs F [(141, 6, (0, 0, [(0, 1)])), (141, 7, (0, 0, [])), (141, 8, (0, (-1), [])), (141, 10, (0, (-1), [])), (141, 2, (0, 0, []))] && y_le R Cs (1, []) y_L)))
  || (Nat.beq i 68 && (y_lo R Cs [(1, 145, []), (0, 0, [])] lo && (y_fs R Cs F [(141, 2, (0, 0, []))] && y_le R Cs y_L (0, []))))
theorem nbR : yRun az_inl nbC [chgB] nlQ 0 1000 0 (az_yl 96 12 nbH (fun _ _ _ _ _ => false)) yNo = true := by decide +kernel
set_option maxRecDepth 20000 in
theorem nb_all {X : List (List Value)} (hX : az_X X) (hC : az_Valid X chgB) {h : List mzC} {s2 : Nat × Nat} (hlen : h.length + 14000 < 2147483648) {d : Nat} (hd : 12 ≤ d) (hT : az_Tp h) {lo : mzL} (hlo : az_ml lo [.ref 145]) : mz_gg X (nlK h s2 (l_rd (y_t h 143) (hv h 141 2))) d 96 0 lo [] (h, s2) := by
  obtain ⟨t1, _⟩ := mr_typ hT.1
  refine az_goX (c := nbC) (i0 := 0) (ρ := rho [hv h 141 2] ((h.length : Int) + 4)) sz_pkall_szP hX (tb := [chgB]) (List.forall_mem_cons.mpr ⟨hC, fun _ hc => by cases hc⟩) (q := nlQ) rfl (az_wfb_ok (by decide +kernel)) nbR rfl (by show h.length + 1000 * (12 + 2) < 2147483648; omega) (rho_z _ _) hd ?_ hT ?_ ?_ (fun D R Cs C ρ1 f hr => by cases hr) ?_
  · exact rho_V (rho_free rfl _) (show rin [(0, 80)] [hv h 141 2] from ⟨t1.2, trivial⟩) rfl (by omega) (by decide) trivial
  · exact HF_cons 2 (hv h 141 2) (by decide) (show (2 : Int) + 0 = ((2 : Nat) : Int) by omega) (by decide) (lw_sv (rho_0 _ _ _)) t1.1 (HF_nil _ _)
  · show az_ml lo (([(1, 145, [])] : szLo).map (sz_v _))
    rw [List.map_cons, List.map_nil, sz_v_ref _ (show (145 : Int) < 1000000 by decide)]
    exact hlo
  · intro D R Cs C ρ2 hl2 hV2 hW2 hag hn2
    have a0 : ρ2 0 = hv h 141 2 := (hag.1 0 (by show 0 < 1; decide)).trans (rho_0 _ _ _)
    have n0 : ∀ z : Int, y_n ρ2 (z, []) = z := fun z => Int.add_zero z
    have hdd : (12 : Nat) + (d - 12) = d := by omega
    have hsb : ∀ c k, az_md nlMd c k = false → az_md nbMd c k = false := md_all2 rfl
    have hsb2 : ∀ {h' : List mzC}, az_HM nbMd h h' → az_HM nlMd h h' := fun hM' c k hc hm => hM' c k hc (hsb c k hm)
    refine az_yl_ok hV2 hl2 ?_ (fun F o h' s3 hk => by cases hk)
    intro F i lo' mm h' s3 hk hLR hT' hM' hF' hl' c1 c2
    unfold nbH at hk
    rw [Bool.or_eq_true] at hk
    rcases hk with hk | hk
    · rw [Bool.and_eq_true, Bool.and_eq_true, Bool.and_eq_true] at hk
      obtain ⟨hi, hlo2, hk, hL1⟩ := hk
      have hi := Nat.eq_of_beq_eq_true hi
      subst hi
      have hL1 := y_le_ok hV2 hL1
      rw [n0, y_L_n, a0] at hL1
      have f6 := y_fs_ok hV2 hF' hk _ (List.Mem.head _)
      have f7 := y_fs_ok hV2 hF' hk _ (List.Mem.tail _ (List.Mem.head _))
      have f8 := y_fs_ok hV2 hF' hk _ (List.Mem.tail _ (List.Mem.tail _ (List.Mem.head _)))
      have f10 := y_fs_ok hV2 hF' hk _ (List.Mem.tail _ (List.Mem.tail _ (List.Mem.tail _ (List.Mem.head _))))
      have f2 := y_fs_ok hV2 hF' hk _ (List.Mem.tail _ (List.Mem.tail _ (List.Mem.tail _ (List.Mem.tail _ (List.Mem.head _)))))
      have f6 : az_slot h' 141 6 = some (iv (hv h 141 2)) := (show az_slot h' 141 6 = some (sz_v ρ2 (0, 0, [(0, 1)])) from f6).trans (congrArg some (lw_sv a0))
      have f7 : az_slot h' 141 7 = some (iv 0) := (show az_slot h' 141 7 = some (sz_v ρ2 (0, 0, [])) from f7).trans (congrArg some (y_c0 _ _))
      have f8 : az_slot h' 141 8 = some (iv (-1)) := (show az_slot h' 141 8 = some (sz_v ρ2 (0, (-1), [])) from f8).trans (congrArg some (y_c0 _ _))
      have f10 : az_slot h' 141 10 = some (iv (-1)) := (show az_slot h' 141 10 = some (sz_v ρ2 (0, (-1), [])) from f10).trans (congrArg some (y_c0 _ _))
      have f2 : az_slot h' 141 2 = some (iv 0) := (show az_slot h' 141 2 = some (sz_v ρ2 (0, 0, [])) from f2).trans (congrArg some (y_c0 _ _))
      have G := nl_loop hX hC (h0 := h) (s0 := s2) hlen t1.2 hd 9 0 (-1) 0 h' s3 mm (by decide) (by decide) (by omega) hT' (hsb2 hM') hl' c1 c2 (hv_val f6 (by omega) (by omega)) (hv_val f7 (by decide) (by decide)) (hv_val f10 (by decide) (by decide)) f8 f2 (by
        have q := y_lo_ok hV2 hlo2 hLR
        rw [List.map_cons, List.map_cons, List.map_cons, List.map_nil, sz_v_ref _ (show (145 : Int) < 1000000 by decide), y_c0, y_c0] at q
        exact q)
      have e : l_rd (y_t h 143) (hv h 141 2) = l_a (l_r (y_t h 143) (hv h 141 2) (9 + 1) 0 (-1)) := by
        unfold l_rd
        rw [if_neg (by omega)]
      rw [e]
      show mz_gg X _ (12 + (d - 12)) 96 22 mm [] (h', s3)
      rw [hdd]
      exact G
    · simp only [Bool.and_eq_true] at hk
      obtain ⟨hi, hlo2, hf2, hL0⟩ := hk
      have hi := Nat.eq_of_beq_eq_true hi
      subst hi
      have hL0 := y_le_ok hV2 hL0
      rw [n0, y_L_n, a0] at hL0
      have f2 := y_fs_ok hV2 hF' hf2 _ (List.Mem.head _)
      have f2 : az_slot h' 141 2 = some (iv 0) := (show az_slot h' 141 2 = some (sz_v ρ2 (0, 0, [])) from f2).trans (congrArg some (y_c0 _ _))
      have e : l_rd (y_t h 143) (hv h 141 2) = ((0 : Nat) : Int) := by
        unfold l_rd
        rw [if_pos hL0]
        rfl
      rw [e]
      have G := nt_all hX hC (h0 := h) (s0 := s2) (h := h') (s2 := s3) (by omega) (by omega : 6 ≤ d) hT' (hsb2 hM') hl' c1 c2 f2 (n := 0) (by decide) (lo := mm) (by
        have q1 := y_lo_ok hV2 hlo2 hLR
        rw [List.map_cons, List.map_cons, List.map_nil, sz_v_ref _ (show (145 : Int) < 1000000 by decide), y_c0] at q1
        exact q1)
      show mz_gg X _ (12 + (d - 12)) 96 68 mm [] (h', s3)
      rw [hdd]
      exact G
/-- the same as a contract: atoms 0 how many signs, 1 the answer -/
def nlB : azCon := (96, 12, ([azf, azf], [(0, 80), ((-200), 10)], [], [(1, 145, [])], [(141, (2, []), (0, 0, [(0, 1)]))], [], false), [(some (some (0, 0, [(1, 1)])), [azf, azf], [(0, 80), ((-200), 10)], [], [(141, (2, []), (0, 0, []))])], nlMd, (0, 0))
set_option maxRecDepth 20000 in
theorem nlB_hc {X : List (List Value)} (hX : az_X X) {ρ1 : Nat → Int} {hh : List mzC} {args : List Value} {s2 : Nat × Nat} {d : Nat} (hC : az_Valid X chgB) (hv1 : ρ1 1 = l_rd (y_t hh 143) (ρ1 0)) (hl : args.length = 1) (hV : az_V nlB.2.2.1.1 nlB.2.2.1.2.1 nlB.2.2.1.2.2.1 ρ1) (hLR : sz_LR ρ1 nlB.2.2.1.2.2.2.1 (lv_args 0 args)) (H : az_HR [] hh ρ1 nlB.2.2.1.2.2.2.2.1 nlB.2.2.1.2.2.2.2.2.1 nlB.2.2.1.2.2.2.2.2.2 0 hh) (hlen : hh.length + 1000 * (nlB.2.1 + 2) < 2147483648) (hd : nlB.2.1 ≤ d) : mz_gg X (az_PostH nlB ρ1 hh s2) d nlB.1 0 (lv_args 0 args) [] (hh, s2) := by
  have hlen : hh.length + 1000 * (12 + 2) < 2147483648 := hlen
  have e0 := y_fh H.1 H.2.2.1 (c := 141) (k := 2) (a := 0) (by decide) (by decide) (List.Mem.head _) (hV.2.2.2.2 0)
  refine mz_gg_mono ?_ (nb_all hX hC (by omega) hd ⟨H.1, H.2.2.2.1⟩ (args_1 (by decide) hl hLR))
  intro o s' hk
  obtain ⟨k1, k2, k3, k7, k4, k5, k6⟩ := hk
  refine y_post (c := nlB) (v := (0, 0, [(1, 1)])) (FP := [(141, (2, []), (0, 0, []))]) (List.Mem.head _) rfl rfl hV (H.2.1.2 rfl rfl) k2 k3 (HF_cons 2 0 (by decide) (show (2 : Int) + 0 = ((2 : Nat) : Int) by omega) (by decide) (y_c0 _ _) k7 (HF_nil _ _)) k4 k5 k6 ?_
  rw [k1, e0, ← hv1, lw_sv rfl]
