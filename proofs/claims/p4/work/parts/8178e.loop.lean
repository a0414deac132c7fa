/-! a loop's text: the class's readsActs, readLoop, loop -/
/-- contracts of readsAct: it may stand there: atoms 4 where it goes on, 5 the greatest letter with '; it may not: 4 where it is wrong -/
def caA : azCon := (262, 9, ([azf, azf, azf, azf, azf, azf], coR ++ [(0, 90), ((-1), 9)], [], [(1, 14, []), (0, 0, [(2, 1)])], coF, [], false), [(some (some (0, 1, [])), [azf, azf, azf, azf, azf, azf], coR ++ [(0, 90), ((-1), 9)], [], [(8, (2, []), (0, 0, [(4, 1)])), (10, (2, []), (0, 0, [(5, 1)]))])], caMd, (0, 0))
def caN : azCon := (262, 9, ([azf, azf, azf, azf, azf], coR ++ [(0, 90)], [], [(1, 14, []), (0, 0, [(2, 1)])], coF, [], false), [(some (some (0, 0, [])), [azf, azf, azf, azf, azf], coR ++ [(0, 90)], [], [(8, (2, []), (0, 0, [(4, 1)]))])], caMd, (0, 0))
set_option maxRecDepth 20000 in
theorem caA_hc {X : List (List Value)} (hX : az_X X) {ρ1 : Nat → Int} {hh : List mzC} {args : List Value} {s2 : Nat × Nat} {d : Nat} (ha : a_act (y_t hh 9) (ρ1 0) (ρ1 2) (ρ1 1) (ρ1 3) = (true, ρ1 4, ρ1 5)) (hl : args.length = 2) (hV : az_V caA.2.2.1.1 caA.2.2.1.2.1 caA.2.2.1.2.2.1 ρ1) (hLR : sz_LR ρ1 caA.2.2.1.2.2.2.1 (lv_args 0 args)) (H : az_HR [] hh ρ1 caA.2.2.1.2.2.2.2.1 caA.2.2.1.2.2.2.2.2.1 caA.2.2.1.2.2.2.2.2.2 0 hh) (hlen : hh.length + 1000 * (caA.2.1 + 2) < 2147483648) (hd : caA.2.1 ≤ d) : mz_gg X (az_PostH caA ρ1 hh s2) d caA.1 0 (lv_args 0 args) [] (hh, s2) := by
  have hlen : hh.length + 1000 * (9 + 2) < 2147483648 := hlen
  have e0 := y_fh H.1 H.2.2.1 (c := 8) (k := 1) (a := 0) (by decide) (by decide) (List.Mem.head _) (hV.2.2.2.2 0)
  have e1 := y_fh H.1 H.2.2.1 (c := 8) (k := 2) (a := 1) (by decide) (by decide) (List.Mem.tail _ (List.Mem.head _)) (hV.2.2.2.2 1)
  have e3 := y_fh H.1 H.2.2.1 (c := 10) (k := 2) (a := 3) (by decide) (by decide) (List.Mem.tail _ (List.Mem.tail _ (List.Mem.head _))) (hV.2.2.2.2 3)
  have r2 : (0 : Int) ≤ ρ1 2 ∧ ρ1 2 ≤ 9 := hV.2.1 2
  refine mz_gg_mono ?_ (ca_all hX (by omega) hd ⟨H.1, H.2.2.2.1⟩ r2 (args_2 (by decide) hl hLR))
  intro o s' hk
  obtain ⟨⟨v, k1, kp⟩, k2, k3, k4, k5, k6⟩ := hk
  rw [e0, e1, e3] at kp
  obtain ⟨_, t2, t3, _⟩ := rd_typ k2.1
  rw [ha] at kp
  rcases kp with ⟨_, kv, kp, kg⟩ | ⟨kn, _⟩
  · refine y_post (c := caA) (v := (0, 1, [])) (FP := [(8, (2, []), (0, 0, [(4, 1)])), (10, (2, []), (0, 0, [(5, 1)]))]) (List.Mem.head _) rfl rfl hV (H.2.1.2 rfl rfl) k2 k3 ?_ k4 k5 k6 ?_
    · exact HF_cons 2 (hv s'.1 8 2) (by decide) (show (2 : Int) + 0 = ((2 : Nat) : Int) by omega) (by decide) (lw_sv kp.symm) t2.1 (HF_cons 2 (hv s'.1 10 2) (by decide) (show (2 : Int) + 0 = ((2 : Nat) : Int) by omega) (by decide) (lw_sv kg.symm) t3.1 (HF_nil _ _))
    · rw [k1, kv]
      exact congrArg (fun z => some (some z)) (y_c0 _ _).symm
  · cases kn
set_option maxRecDepth 20000 in
theorem caN_hc {X : List (List Value)} (hX : az_X X) {ρ1 : Nat → Int} {hh : List mzC} {args : List Value} {s2 : Nat × Nat} {d : Nat} (ha : (a_act (y_t hh 9) (ρ1 0) (ρ1 2) (ρ1 1) (ρ1 3)).1 = false) (h4 : (a_act (y_t hh 9) (ρ1 0) (ρ1 2) (ρ1 1) (ρ1 3)).2.1 = ρ1 4) (hl : args.length = 2) (hV : az_V caN.2.2.1.1 caN.2.2.1.2.1 caN.2.2.1.2.2.1 ρ1) (hLR : sz_LR ρ1 caN.2.2.1.2.2.2.1 (lv_args 0 args)) (H : az_HR [] hh ρ1 caN.2.2.1.2.2.2.2.1 caN.2.2.1.2.2.2.2.2.1 caN.2.2.1.2.2.2.2.2.2 0 hh) (hlen : hh.length + 1000 * (caN.2.1 + 2) < 2147483648) (hd : caN.2.1 ≤ d) : mz_gg X (az_PostH caN ρ1 hh s2) d caN.1 0 (lv_args 0 args) [] (hh, s2) := by
  have hlen : hh.length + 1000 * (9 + 2) < 2147483648 := hlen
  have e0 := y_fh H.1 H.2.2.1 (c := 8) (k := 1) (a := 0) (by decide) (by decide) (List.Mem.head _) (hV.2.2.2.2 0)
  have e1 := y_fh H.1 H.2.2.1 (c := 8) (k := 2) (a := 1) (by decide) (by decide) (List.Mem.tail _ (List.Mem.head _)) (hV.2.2.2.2 1)
  have e3 := y_fh H.1 H.2.2.1 (c := 10) (k := 2) (a := 3) (by decide) (by decide) (List.Mem.tail _ (List.Mem.tail _ (List.Mem.head _))) (hV.2.2.2.2 3)
  have r2 : (0 : Int) ≤ ρ1 2 ∧ ρ1 2 ≤ 9 := hV.2.1 2
  refine mz_gg_mono ?_ (ca_all hX (by omega) hd ⟨H.1, H.2.2.2.1⟩ r2 (args_2 (by decide) hl hLR))
  intro o s' hk
  obtain ⟨⟨v, k1, kp⟩, k2, k3, k4, k5, k6⟩ := hk
  rw [e0, e1, e3] at kp
  obtain ⟨_, t2, t3, _⟩ := rd_typ k2.1
  rcases kp with ⟨kn, _⟩ | ⟨_, kv, kp⟩
  · rw [ha] at kn
    cases kn
  · rw [h4] at kp
    refine y_post (c := caN) (v := (0, 0, [])) (FP := [(8, (2, []), (0, 0, [(4, 1)]))]) (List.Mem.head _) rfl rfl hV (H.2.1.2 rfl rfl) k2 k3 ?_ k4 k5 k6 ?_
    · exact HF_cons 2 (hv s'.1 8 2) (by decide) (show (2 : Int) + 0 = ((2 : Nat) : Int) by omega) (by decide) (lw_sv kp.symm) t2.1 (HF_nil _ _)
    · rw [k1, kv]
      exact congrArg (fun z => some (some z)) (y_c0 _ _).symm
/-- readsActs: atoms 0 how many signs, 1 where, 2 which ACT, 3 the greatest letter with '; 4, 5 behind the ACT -/
def csQ : szM := (2, 8, (0, 0, 0), szc_261)
def csMd : List (Nat × Nat) := [(8, 3), (10, 3), (11, 1), (12, 0), (13, 0), (14, 0), (15, 0)]
def csR (b : Bool) : szR := [(0, 80), (0, 90), bif b then (9, 9) else (0, 8), ((-1), 9), (0, 90), ((-1), 9)]
def csC (b : Bool) : azCon := (261, 12, ([azf, azf, azf, azf, azf, azf], csR b, [], [(1, 14, []), (0, 0, [(2, 1)])], coF, [], false), [], csMd, (0, 0))
noncomputable def csD (ok : Bool) (D : szD) (R : szR) (Cs : azS) (C : azQ) (fn : szD → szR → azS → azQ → Bool) : Bool := bif ok then az_knr szP 12 csMd 6 261 7 caA [(0, 0, [(0, 1)]), (0, 0, [(1, 1)]), (0, 0, [(2, 1)]), (0, 0, [(3, 1)]), (0, 0, [(4, 1)]), (0, 0, [(5, 1)])] D R Cs C fn else az_knr szP 12 csMd 6 261 7 caN [(0, 0, [(0, 1)]), (0, 0, [(1, 1)]), (0, 0, [(2, 1)]), (0, 0, [(3, 1)]), (0, 0, [(4, 1)])] D R Cs C fn
noncomputable def csH (ok b : Bool) (_ : szD) (R : szR) (Cs : azS) (F : azF) (i : Nat) (lo : szLo) : Bool := (Nat.beq i 2 && (!b && ok)) && (y_lo R Cs [(1, 14, []), (0, 1, [(2, 1)])] lo && y_2 R Cs F 8 2 10 2 (fun u w => y_dec R Cs y_L (0, [(4, 1)]) false (yC R Cs F 9 (0, [(4, 1)]) 59 59 (y_eq R Cs u (1, [(4, 1)]) && y_eq R Cs w (0, [(5, 1)])) false)))
noncomputable def csE (ok b : Bool) (_ : szD) (R : szR) (Cs : azS) (F : azF) (o : Option szV) : Bool := match o with
  | some v => (Nat.beq v.1 0 && az_nw R Cs v) && (bif ok then y_dec R Cs y_L (0, [(4, 1)]) (y_eq R Cs v.2 (1, []) && y_2 R Cs F 11 0 10 2 (fun u w => y_eq R Cs u (1, [(2, 1)]) && y_eq R Cs w (0, [(5, 1)]))) (y_eq R Cs v.2 (0, []) && (y_2 R Cs F 8 2 8 2 (fun u _ => y_eq R Cs u (0, [(4, 1)])) && (b || yC R Cs F 9 (0, [(4, 1)]) 59 59 false true))) else y_eq R Cs v.2 (0, []) && y_2 R Cs F 8 2 8 2 (fun u _ => y_eq R Cs u (0, [(4, 1)])))
  | none => false
theorem csR_0 : yRun az_inl (csC false) [] csQ 2 2000 1 (az_yl 261 12 (csH false false) (csE false false)) (csD false) = true := by decide +kernel
theorem csR_1 : yRun az_inl (csC true) [] csQ 2 2000 1 (az_yl 261 12 (csH false true) (csE false true)) (csD false) = true := by decide +kernel
theorem csR_2 : yRun az_inl (csC false) [] csQ 2 2000 1 (az_yl 261 12 (csH true false) (csE true false)) (csD true) = true := by decide +kernel
theorem csR_3 : yRun az_inl (csC true) [] csQ 2 2000 1 (az_yl 261 12 (csH true true) (csE true true)) (csD true) = true := by decide +kernel
theorem csRun (ok b : Bool) : yRun az_inl (csC b) [] csQ 2 2000 1 (az_yl 261 12 (csH ok b) (csE ok b)) (csD ok) = true := by
  cases ok <;> cases b
  · exact csR_0
  · exact csR_1
  · exact csR_2
  · exact csR_3
/-- its outcome -/
def csP (r : Bool × Int × Int) (v m g' p' : Int) : Prop := (r.1 = true ∧ v = 1 ∧ m = r.2.1 ∧ g' = r.2.2) ∨ (r.1 = false ∧ v = 0 ∧ p' = r.2.1)
def csK (h0 : List mzC) (s0 : Nat × Nat) (r : Bool × Int × Int) (o : Option (Option Value)) (s' : mzS) : Prop := (∃ v, o = some (some (iv v)) ∧ csP r v (hv s'.1 11 0) (hv s'.1 10 2) (hv s'.1 8 2)) ∧ az_Tp s'.1 ∧ az_HM csMd h0 s'.1 ∧ s'.1.length = h0.length ∧ s'.2.1 ≤ s0.1 ∧ s'.2.2 ≤ s0.2
set_option maxRecDepth 20000 in
theorem cs_step {X : List (List Value)} (hX : az_X X) {h0 : List mzC} {s0 : Nat × Nat} (hlen : h0.length + 14000 < 2147483648) {L : Int} (hL : 0 ≤ L ∧ L ≤ 80) {d : Nat} (hd : 12 ≤ d) {n : Nat} {p g k : Int} {h : List mzC} {s2 : Nat × Nat} {lo : mzL} (hn : n ≤ 9) (hk : k = 9 - (n : Int)) (hpL : p ≤ L) (hT : az_Tp h) (hM : az_HM csMd h0 h) (hl : h.length = h0.length) (b1 : s2.1 ≤ s0.1) (b2 : s2.2 ≤ s0.2) (eL : hv h 8 1 = L) (ep : hv h 8 2 = p) (eg : hv h 10 2 = g) (hlo : az_ml lo [.ref 14, iv k])
    (ih : Nat.beq n 0 = false → ∀ (p' g' : Int) (h' : List mzC) (s3 : Nat × Nat) (lo' : mzL), p' ≤ L → az_Tp h' → az_HM csMd h0 h' → h'.length = h0.length → s3.1 ≤ s0.1 → s3.2 ≤ s0.2 → hv h' 8 1 = L → hv h' 8 2 = p' → hv h' 10 2 = g' → az_ml lo' [.ref 14, iv (k + 1)] → mz_gg X (csK h0 s0 (l_r (y_t h0 9) L n p' g')) d 261 2 lo' [] (h', s3)) : mz_gg X (csK h0 s0 (l_r (y_t h0 9) L (n + 1) p g)) d 261 2 lo [] (h, s2) := by
  obtain ⟨t1, t2, t3, _⟩ := rd_typ hT.1
  rw [eL] at t1
  rw [ep] at t2
  rw [eg] at t3
  have ht : y_t h 9 = y_t h0 9 := y_t_eq hM (by decide) (by decide)
  have ab := a_act_bd (t := y_t h0 9) (k := k) (g := g) hpL t3.2
  have hkr : (bif Nat.beq n 0 then ((9, 9) : Int × Int) else (0, 8)).1 ≤ k ∧ k ≤ (bif Nat.beq n 0 then ((9, 9) : Int × Int) else (0, 8)).2 := by
    cases hz : Nat.beq n 0 with
    | true =>
      have := Nat.eq_of_beq_eq_true hz
      rw [cond_true]
      dsimp only
      omega
    | false =>
      have : n ≠ 0 := fun e => by rw [e] at hz; cases hz
      rw [cond_false]
      dsimp only
      omega
  obtain ⟨ok, e, g1, hok, he, hg1, re, rg⟩ : ∃ (ok : Bool) (e g1 : Int), (a_act (y_t h0 9) L k p g).1 = ok ∧ (a_act (y_t h0 9) L k p g).2.1 = e ∧ (ok = true → (a_act (y_t h0 9) L k p g).2.2 = g1) ∧ (0 ≤ e ∧ e ≤ 90) ∧ (-1 ≤ g1 ∧ g1 ≤ 9) := by
    cases h1 : (a_act (y_t h0 9) L k p g).1 with
    | true => exact ⟨true, _, _, rfl, rfl, fun _ => rfl, by omega, ab.2 h1⟩
    | false => exact ⟨false, _, 0, rfl, rfl, fun q => (by cases q), by omega, by omega⟩
  have eact : ok = true → a_act (y_t h0 9) L k p g = (true, e, g1) := by
    intro q
    rw [← hok] at q
    have q2 := hg1 (by rw [← hok]; exact q)
    rw [← he, ← q2, ← q]
  rw [l_r_succ, ← hk, hok, he]
  refine az_goX (c := csC (Nat.beq n 0)) (i0 := 2) (ρ := rho [L, p, k, g, e, g1] ((h.length : Int) + 4)) sz_pkall_szP hX (tb := []) (fun _ hc => by cases hc) (q := csQ) rfl (az_wfb_ok (by cases Nat.beq n 0 <;> rfl)) (csRun ok (Nat.beq n 0)) rfl (by show h.length + 1000 * (12 + 2) < 2147483648; omega) (rho_z _ _) hd ?_ hT ?_ ?_ ?_ ?_
  · exact rho_V (rho_free rfl _) (show rin (csR (Nat.beq n 0)) [L, p, k, g, e, g1] from ⟨hL, t2.2, hkr, t3.2, re, rg, trivial⟩) (by cases Nat.beq n 0 <;> rfl) (by omega) (by show 6 ≤ 1000000; decide) trivial
  · exact HF_cons 1 L (by decide) (show (1 : Int) + 0 = ((1 : Nat) : Int) by omega) (by decide) (lw_sv (rho_0 _ _ _)) t1.1 (HF_cons 2 p (by decide) (show (2 : Int) + 0 = ((2 : Nat) : Int) by omega) (by decide) (lw_sv (rho_1 _ _ _ _)) t2.1 (HF_cons 2 g (by decide) (show (2 : Int) + 0 = ((2 : Nat) : Int) by omega) (by decide) (lw_sv (rho_3 _ _ _ _ _ _)) t3.1 (HF_nil _ _)))
  · exact ml_one (r := 14) (by decide) hlo (show (0 : Int) + (1 * rho [L, p, k, g, e, g1] _ 2 + 0) = k by rw [rho_2]; omega)
  · intro D R Cs C ρ1 fn hr hV1 hW1 hag hn hf
    have a0 := (hag.1 0 (by show 0 < 6; decide)).trans (rho_0 _ _ _)
    have a1 := (hag.1 1 (by show 1 < 6; decide)).trans (rho_1 _ _ _ _)
    have a2 := (hag.1 2 (by show 2 < 6; decide)).trans (rho_2 _ _ _ _ _)
    have a3 := (hag.1 3 (by show 3 < 6; decide)).trans (rho_3 _ _ _ _ _ _)
    have a4 := (hag.1 4 (by show 4 < 6; decide)).trans (rho_4 _ _ _ _ _ _ _)
    have a5 := (hag.1 5 (by show 5 < 6; decide)).trans (rho_5 _ _ _ _ _ _ _ _)
    have hl12 : h.length + 1000 * (12 + 2) < 2147483648 := by omega
    unfold csD at hr
    rcases Bool.eq_false_or_eq_true ok with hokb | hokb
    · rw [hokb, cond_true] at hr
      refine az_knr_ok sz_pkall_szP hl12 hV1 hW1 ?_ hr hf
      intro ρ3 hh args s4 d4 hl4 hbd hM4 hV3 hLR H hlen3 hd4
      have c0 : ρ3 0 = (0 : Int) + (1 * ρ1 0 + 0) := hbd 0 _ rfl
      have c1 : ρ3 1 = (0 : Int) + (1 * ρ1 1 + 0) := hbd 1 _ rfl
      have c2 : ρ3 2 = (0 : Int) + (1 * ρ1 2 + 0) := hbd 2 _ rfl
      have c3 : ρ3 3 = (0 : Int) + (1 * ρ1 3 + 0) := hbd 3 _ rfl
      have c4 : ρ3 4 = (0 : Int) + (1 * ρ1 4 + 0) := hbd 4 _ rfl
      have c5 : ρ3 5 = (0 : Int) + (1 * ρ1 5 + 0) := hbd 5 _ rfl
      refine caA_hc hX ?_ hl4 hV3 hLR H hlen3 hd4
      rw [y_t_eq hM4 (by decide) rfl, ht, show ρ3 0 = L by omega, show ρ3 1 = p by omega, show ρ3 2 = k by omega, show ρ3 3 = g by omega, show ρ3 4 = e by omega, show ρ3 5 = g1 by omega]
      exact eact hokb
    · rw [hokb, cond_false] at hr
      refine az_knr_ok sz_pkall_szP hl12 hV1 hW1 ?_ hr hf
      intro ρ3 hh args s4 d4 hl4 hbd hM4 hV3 hLR H hlen3 hd4
      have c0 : ρ3 0 = (0 : Int) + (1 * ρ1 0 + 0) := hbd 0 _ rfl
      have c1 : ρ3 1 = (0 : Int) + (1 * ρ1 1 + 0) := hbd 1 _ rfl
      have c2 : ρ3 2 = (0 : Int) + (1 * ρ1 2 + 0) := hbd 2 _ rfl
      have c3 : ρ3 3 = (0 : Int) + (1 * ρ1 3 + 0) := hbd 3 _ rfl
      have c4 : ρ3 4 = (0 : Int) + (1 * ρ1 4 + 0) := hbd 4 _ rfl
      have z0 : ρ3 0 = L := by omega
      have z1 : ρ3 1 = p := by omega
      have z2 : ρ3 2 = k := by omega
      have z3 : ρ3 3 = g := by omega
      have z4 : ρ3 4 = e := by omega
      refine caN_hc hX ?_ ?_ hl4 hV3 hLR H hlen3 hd4
      · rw [y_t_eq hM4 (by decide) rfl, ht, z0, z1, z2, z3, hok, hokb]
      · rw [y_t_eq hM4 (by decide) rfl, ht, z0, z1, z2, z3, z4, he]
  · intro D R Cs C ρ2 hl2 hV2 hW2 hag hn2
    have a0 := (hag.1 0 (by show 0 < 6; decide)).trans (rho_0 _ _ _)
    have a2 := (hag.1 2 (by show 2 < 6; decide)).trans (rho_2 _ _ _ _ _)
    have a4 := (hag.1 4 (by show 4 < 6; decide)).trans (rho_4 _ _ _ _ _ _ _)
    have a5 := (hag.1 5 (by show 5 < 6; decide)).trans (rho_5 _ _ _ _ _ _ _ _)
    have n0 : ∀ z : Int, y_n ρ2 (z, []) = z := fun z => Int.add_zero z
    have n1 : ∀ q : Nat, y_n ρ2 ((1 : Int), [(q, 1)]) = ρ2 q + 1 := by
      intro q
      show (1 : Int) + (1 * ρ2 q + 0) = _
      omega
    have hdd : (12 : Nat) + (d - 12) = d := by omega
    refine az_yl_ok hV2 hl2 ?_ ?_
    · intro F i lo' mm h' s3 hk2 hLR hT' hM' hF' hl' c1 c2
      have tt : y_t h' 9 = y_t h0 9 := (y_t_eq hM' (by decide) rfl).trans ht
      unfold csH at hk2
      rw [Bool.and_eq_true, Bool.and_eq_true, Bool.and_eq_true, Bool.and_eq_true] at hk2
      obtain ⟨⟨hi, hb, hokb⟩, hlo2, hk2⟩ := hk2
      have hb : Nat.beq n 0 = false := by simpa using hb
      have hi := Nat.eq_of_beq_eq_true hi
      subst hi
      obtain ⟨u, w, ee, eu, ew⟩ := y_2_ok hV2 hF' (by decide) (by decide) (by decide) (by decide) hk2
      rcases y_dec_ok hV2 ee with ⟨_, ee⟩ | ⟨q1, ee⟩
      · cases ee
      rcases yC_ok hV2 hF' (by decide) ee with ⟨q2, ee⟩ | ⟨_, ee⟩
      rotate_left
      · cases ee
      rw [Bool.and_eq_true] at ee
      have z1 := y_eq_ok hV2 ee.1
      have z2 := y_eq_ok hV2 ee.2
      rw [y_L_n, y_a, a0, a4] at q1
      rw [tt, y_a, a0, a4] at q2
      rw [n1, a4] at z1
      rw [y_a, a5] at z2
      rw [hokb, cond_true, if_neg (by omega), hb, cond_false, q2, cond_true, hg1 hokb, ← z1, ← eu, ← z2, ← ew]
      have G := ih hb (hv h' 8 2) (hv h' 10 2) h' s3 mm (by rw [eu, z1]; omega) hT' (HM_trans hM hM' (fun _ _ z => z)) (by omega) (by omega) (by omega) (by rw [HM_hv hM' (by decide) rfl, eL]) rfl rfl (ml_one' (r := 14) (by decide) (y_lo_ok hV2 hlo2 hLR) (show (1 : Int) + (1 * ρ2 2 + 0) = k + 1 by rw [a2]; omega))
      show mz_gg X _ (12 + (d - 12)) 261 2 mm [] (h', s3)
      rw [hdd]
      exact G
    · intro F o h' s3 hk2 hT' hM' hF' hl' c1 c2
      have tt : y_t h' 9 = y_t h0 9 := (y_t_eq hM' (by decide) rfl).trans ht
      unfold csE at hk2
      split at hk2
      · rename_i v
        rw [Bool.and_eq_true, Bool.and_eq_true] at hk2
        obtain ⟨⟨v0, vn⟩, hk2⟩ := hk2
        have v0 := Nat.eq_of_beq_eq_true v0
        refine ⟨⟨y_n ρ2 v.2, by show some (some (sz_v ρ2 v)) = _; rw [y_iv v0], ?_⟩, hT', HM_trans hM hM' (fun _ _ z => z), by show h'.length = _; omega, by show s3.1 ≤ _; omega, by show s3.2 ≤ _; omega⟩
        cases hokb : ok with
        | true =>
          rw [hokb, cond_true] at hk2
          rw [cond_true]
          rcases y_dec_ok hV2 hk2 with ⟨q1, ee⟩ | ⟨q1, ee⟩
          · rw [y_L_n, y_a, a0, a4] at q1
            rw [Bool.and_eq_true] at ee
            obtain ⟨u, w, e2, eu, ew⟩ := y_2_ok hV2 hF' (by decide) (by decide) (by decide) (by decide) ee.2
            rw [Bool.and_eq_true] at e2
            have z0 := y_eq_ok hV2 ee.1
            have z1 := y_eq_ok hV2 e2.1
            have z2 := y_eq_ok hV2 e2.2
            rw [n0] at z0
            rw [n1, a2] at z1
            rw [y_a, a5] at z2
            rw [if_pos q1]
            refine Or.inl ⟨rfl, z0, ?_, ?_⟩
            · show hv h' 11 0 = 10 - (n : Int)
              rw [eu, z1, hk]
              omega
            · show hv h' 10 2 = (a_act (y_t h0 9) L k p g).2.2
              rw [ew, z2, hg1 hokb]
          · rw [y_L_n, y_a, a0, a4] at q1
            simp only [Bool.and_eq_true] at ee
            obtain ⟨e1, e2, e3⟩ := ee
            obtain ⟨u, _, e2, eu, _⟩ := y_2_ok hV2 hF' (by decide) (by decide) (by decide) (by decide) e2
            have z0 := y_eq_ok hV2 e1
            have z1 := y_eq_ok hV2 e2
            rw [n0] at z0
            rw [y_a, a4] at z1
            rw [if_neg (by omega)]
            cases hz : Nat.beq n 0 with
            | true =>
              rw [cond_true]
              exact Or.inr ⟨rfl, z0, by show hv h' 8 2 = e; rw [eu, z1]⟩
            | false =>
              rw [hz, Bool.false_or] at e3
              rw [cond_false]
              rcases yC_ok hV2 hF' (by decide) e3 with ⟨_, e3⟩ | ⟨q2, _⟩
              · cases e3
              · rw [tt, y_a, a0, a4] at q2
                rw [q2, cond_false]
                exact Or.inr ⟨rfl, z0, by show hv h' 8 2 = e; rw [eu, z1]⟩
        | false =>
          rw [hokb, cond_false] at hk2
          rw [Bool.and_eq_true] at hk2
          obtain ⟨u, _, e2, eu, _⟩ := y_2_ok hV2 hF' (by decide) (by decide) (by decide) (by decide) hk2.2
          have z0 := y_eq_ok hV2 hk2.1
          have z1 := y_eq_ok hV2 e2
          rw [n0] at z0
          rw [y_a, a4] at z1
          rw [cond_false]
          exact Or.inr ⟨rfl, z0, by show hv h' 8 2 = e; rw [eu, z1]⟩
      · cases hk2
theorem cs_loop {X : List (List Value)} (hX : az_X X) {h0 : List mzC} {s0 : Nat × Nat} (hlen : h0.length + 14000 < 2147483648) {L : Int} (hL : 0 ≤ L ∧ L ≤ 80) {d : Nat} (hd : 12 ≤ d) : ∀ (n : Nat) (p g k : Int) (h : List mzC) (s2 : Nat × Nat) (lo : mzL), n ≤ 9 → k = 9 - (n : Int) → p ≤ L → az_Tp h → az_HM csMd h0 h → h.length = h0.length → s2.1 ≤ s0.1 → s2.2 ≤ s0.2 → hv h 8 1 = L → hv h 8 2 = p → hv h 10 2 = g → az_ml lo [.ref 14, iv k] → mz_gg X (csK h0 s0 (l_r (y_t h0 9) L (n + 1) p g)) d 261 2 lo [] (h, s2)
  | 0, p, g, k, h, s2, lo, hn, hk, hpL, hT, hM, hl, b1, b2, eL, ep, eg, hlo => cs_step hX hlen hL hd hn hk hpL hT hM hl b1 b2 eL ep eg hlo (fun e => by cases e)
  | n + 1, p, g, k, h, s2, lo, hn, hk, hpL, hT, hM, hl, b1, b2, eL, ep, eg, hlo => cs_step hX hlen hL hd hn hk hpL hT hM hl b1 b2 eL ep eg hlo (fun _ p' g' h' s3 lo' q1 q2 q3 q4 q5 q6 q7 q8 q9 q10 => cs_loop hX hlen hL hd n p' g' (k + 1) h' s3 lo' (by omega) (by omega) q1 q2 q3 q4 q5 q6 q7 q8 q9 q10)
/-- its begin -/
def cbC : azCon := (261, 12, ([], [], [], [(1, 14, [])], [], [], false), [], [], (0, 0))
theorem cbRun : yRun az_inl cbC [] csQ 0 200 0 (az_yl 261 12 (fun _ R Cs _ i lo => Nat.beq i 2 && y_lo R Cs [(1, 14, []), (0, 0, [])] lo) (fun _ _ _ _ _ => false)) yNo = true := by decide +kernel
set_option maxRecDepth 20000 in
theorem cb_all {X : List (List Value)} (hX : az_X X) {h : List mzC} {s2 : Nat × Nat} (hlen : h.length + 14000 < 2147483648) {d : Nat} (hd : 12 ≤ d) (hT : az_Tp h) (hp : hv h 8 2 ≤ hv h 8 1) {lo : mzL} (hlo : az_ml lo [.ref 14]) : mz_gg X (csK h s2 (l_r (y_t h 9) (hv h 8 1) 10 (hv h 8 2) (hv h 10 2))) d 261 0 lo [] (h, s2) := by
  obtain ⟨t1, _, _, _⟩ := rd_typ hT.1
  refine az_goX (c := cbC) (i0 := 0) (ρ := rho [] ((h.length : Int) + 4)) sz_pkall_szP hX (tb := []) (fun _ hc => by cases hc) (q := csQ) rfl (az_wfb_ok (by decide +kernel)) cbRun rfl (by show h.length + 1000 * (12 + 2) < 2147483648; omega) (rho_z _ _) hd ?_ hT (HF_nil _ _) ?_ (fun D R Cs C ρ1 f hr => by cases hr) ?_
  · exact rho_V (rho_free rfl _) (show rin [] [] from trivial) rfl (by omega) (by decide) trivial
  · show az_ml lo (([(1, 14, [])] : szLo).map (sz_v _))
    rw [List.map_cons, List.map_nil, sz_v_ref _ (show (14 : Int) < 1000000 by decide)]
    exact hlo
  · intro D R Cs C ρ2 hl2 hV2 hW2 hag hn2
    have hdd : (12 : Nat) + (d - 12) = d := by omega
    refine az_yl_ok hV2 hl2 ?_ (fun F o h' s3 hk => by cases hk)
    intro F i lo' mm h' s3 hk hLR hT' hM' hF' hl' c1 c2
    rw [Bool.and_eq_true] at hk
    have hi := Nat.eq_of_beq_eq_true hk.1
    subst hi
    have m0 : ∀ c k : Nat, c < 163 → hv h' c k = hv h c k := fun c k hc => HM_hv hM' hc rfl
    have G := cs_loop hX (h0 := h) (s0 := s2) hlen t1.2 hd 9 (hv h 8 2) (hv h 10 2) 0 h' s3 mm (by decide) (by decide) hp hT' (fun c k hc _ => hM' c k hc rfl) hl' c1 c2 (m0 8 1 (by decide)) (m0 8 2 (by decide)) (m0 10 2 (by decide)) (ml_one' (r := 14) (by decide) (y_lo_ok hV2 hk.2 hLR) (Int.add_zero 0))
    show mz_gg X _ (12 + (d - 12)) 261 2 mm [] (h', s3)
    rw [hdd]
    exact G
/-- contracts of readsActs: atoms 0 how many signs; 1 how many ACTS, 2 the greatest letter with ', or 1 where it is wrong -/
def csA : azCon := (261, 12, ([azf, azf, azf], [(1, 80), (1, 10), ((-1), 9)], [], [(1, 14, [])], [(8, (1, []), (0, 0, [(0, 1)])), (8, (2, []), (0, 0, [])), (10, (2, []), (0, (-1), []))], [], false), [(some (some (0, 1, [])), [azf, azf, azf], [(1, 80), (1, 10), ((-1), 9)], [], [(11, (0, []), (0, 0, [(1, 1)])), (10, (2, []), (0, 0, [(2, 1)]))])], csMd, (0, 0))
def csN : azCon := (261, 12, ([azf, azf], [(1, 80), (0, 90)], [], [(1, 14, [])], [(8, (1, []), (0, 0, [(0, 1)])), (8, (2, []), (0, 0, [])), (10, (2, []), (0, (-1), []))], [], false), [(some (some (0, 0, [])), [azf, azf], [(1, 80), (0, 90)], [], [(8, (2, []), (0, 0, [(1, 1)]))])], csMd, (0, 0))
set_option maxRecDepth 20000 in
theorem csA_hc {X : List (List Value)} (hX : az_X X) {ρ1 : Nat → Int} {hh : List mzC} {args : List Value} {s2 : Nat × Nat} {d : Nat} (ha : l_r (y_t hh 9) (ρ1 0) 10 0 (-1) = (true, ρ1 1, ρ1 2)) (hl : args.length = 1) (hV : az_V csA.2.2.1.1 csA.2.2.1.2.1 csA.2.2.1.2.2.1 ρ1) (hLR : sz_LR ρ1 csA.2.2.1.2.2.2.1 (lv_args 0 args)) (H : az_HR [] hh ρ1 csA.2.2.1.2.2.2.2.1 csA.2.2.1.2.2.2.2.2.1 csA.2.2.1.2.2.2.2.2.2 0 hh) (hlen : hh.length + 1000 * (csA.2.1 + 2) < 2147483648) (hd : csA.2.1 ≤ d) : mz_gg X (az_PostH csA ρ1 hh s2) d csA.1 0 (lv_args 0 args) [] (hh, s2) := by
  have hlen : hh.length + 1000 * (12 + 2) < 2147483648 := hlen
  have e0 := y_fh H.1 H.2.2.1 (c := 8) (k := 1) (a := 0) (by decide) (by decide) (List.Mem.head _) (hV.2.2.2.2 0)
  have e1 := HF_get H.2.2.1 (c := 8) (k := 2) (v := (0, 0, [])) (by decide) (by decide) (List.Mem.tail _ (List.Mem.head _))
  have e3 := HF_get H.2.2.1 (c := 10) (k := 2) (v := (0, (-1), [])) (by decide) (by decide) (List.Mem.tail _ (List.Mem.tail _ (List.Mem.head _)))
  rw [y_c0] at e1 e3
  have e1 := hv_val e1 (by decide) (by decide)
  have e3 := hv_val e3 (by decide) (by decide)
  have r0 : (1 : Int) ≤ ρ1 0 ∧ ρ1 0 ≤ 80 := hV.2.1 0
  refine mz_gg_mono ?_ (cb_all hX (by omega) hd ⟨H.1, H.2.2.2.1⟩ (by omega) (args_1 (by decide) hl hLR))
  intro o s' hk
  obtain ⟨⟨v, k1, kp⟩, k2, k3, k4, k5, k6⟩ := hk
  rw [e0, e1, e3] at kp
  obtain ⟨_, t2, t3, t4⟩ := rd_typ k2.1
  rw [ha] at kp
  rcases kp with ⟨_, kv, kp, kg⟩ | ⟨kn, _⟩
  · refine y_post (c := csA) (v := (0, 1, [])) (FP := [(11, (0, []), (0, 0, [(1, 1)])), (10, (2, []), (0, 0, [(2, 1)]))]) (List.Mem.head _) rfl rfl hV (H.2.1.2 rfl rfl) k2 k3 ?_ k4 k5 k6 ?_
    · exact HF_cons 0 (hv s'.1 11 0) (by decide) (show (0 : Int) + 0 = ((0 : Nat) : Int) by omega) (by decide) (lw_sv kp.symm) t4.1 (HF_cons 2 (hv s'.1 10 2) (by decide) (show (2 : Int) + 0 = ((2 : Nat) : Int) by omega) (by decide) (lw_sv kg.symm) t3.1 (HF_nil _ _))
    · rw [k1, kv]
      exact congrArg (fun z => some (some z)) (y_c0 _ _).symm
  · cases kn
set_option maxRecDepth 20000 in
theorem csN_hc {X : List (List Value)} (hX : az_X X) {ρ1 : Nat → Int} {hh : List mzC} {args : List Value} {s2 : Nat × Nat} {d : Nat} (ha : (l_r (y_t hh 9) (ρ1 0) 10 0 (-1)).1 = false) (h1 : (l_r (y_t hh 9) (ρ1 0) 10 0 (-1)).2.1 = ρ1 1) (hl : args.length = 1) (hV : az_V csN.2.2.1.1 csN.2.2.1.2.1 csN.2.2.1.2.2.1 ρ1) (hLR : sz_LR ρ1 csN.2.2.1.2.2.2.1 (lv_args 0 args)) (H : az_HR [] hh ρ1 csN.2.2.1.2.2.2.2.1 csN.2.2.1.2.2.2.2.2.1 csN.2.2.1.2.2.2.2.2.2 0 hh) (hlen : hh.length + 1000 * (csN.2.1 + 2) < 2147483648) (hd : csN.2.1 ≤ d) : mz_gg X (az_PostH csN ρ1 hh s2) d csN.1 0 (lv_args 0 args) [] (hh, s2) := by
  have hlen : hh.length + 1000 * (12 + 2) < 2147483648 := hlen
  have e0 := y_fh H.1 H.2.2.1 (c := 8) (k := 1) (a := 0) (by decide) (by decide) (List.Mem.head _) (hV.2.2.2.2 0)
  have e1 := HF_get H.2.2.1 (c := 8) (k := 2) (v := (0, 0, [])) (by decide) (by decide) (List.Mem.tail _ (List.Mem.head _))
  have e3 := HF_get H.2.2.1 (c := 10) (k := 2) (v := (0, (-1), [])) (by decide) (by decide) (List.Mem.tail _ (List.Mem.tail _ (List.Mem.head _)))
  rw [y_c0] at e1 e3
  have e1 := hv_val e1 (by decide) (by decide)
  have e3 := hv_val e3 (by decide) (by decide)
  have r0 : (1 : Int) ≤ ρ1 0 ∧ ρ1 0 ≤ 80 := hV.2.1 0
  refine mz_gg_mono ?_ (cb_all hX (by omega) hd ⟨H.1, H.2.2.2.1⟩ (by omega) (args_1 (by decide) hl hLR))
  intro o s' hk
  obtain ⟨⟨v, k1, kp⟩, k2, k3, k4, k5, k6⟩ := hk
  rw [e0, e1, e3] at kp
  obtain ⟨_, t2, t3, t4⟩ := rd_typ k2.1
  rcases kp with ⟨kn, _⟩ | ⟨_, kv, kp⟩
  · rw [ha] at kn
    cases kn
  · rw [h1] at kp
    refine y_post (c := csN) (v := (0, 0, [])) (FP := [(8, (2, []), (0, 0, [(1, 1)]))]) (List.Mem.head _) rfl rfl hV (H.2.1.2 rfl rfl) k2 k3 ?_ k4 k5 k6 ?_
    · exact HF_cons 2 (hv s'.1 8 2) (by decide) (show (2 : Int) + 0 = ((2 : Nat) : Int) by omega) (by decide) (lw_sv kp.symm) t2.1 (HF_nil _ _)
    · rw [k1, kv]
      exact congrArg (fun z => some (some z)) (y_c0 _ _).symm
/-- readLoop: atoms 0 how many signs, 1 how many ACTS, 2 the greatest letter with ', 3 where it is wrong -/
def clQ : szM := (1, 8, (0, 0, 0), szc_260)
def clC : azCon := (260, 14, ([azf, azf, azf, azf], [(0, 80), (1, 10), ((-1), 9), (0, 90)], [], [(1, 14, [])], [(8, (1, []), (0, 0, [(0, 1)]))], [], false), [], csMd, (0, 0))
noncomputable def clD (ok : Bool) (D : szD) (R : szR) (Cs : azS) (C : azQ) (fn : szD → szR → azS → azQ → Bool) : Bool := bif ok then az_knr szP 14 csMd 4 260 16 csA [(0, 0, [(0, 1)]), (0, 0, [(1, 1)]), (0, 0, [(2, 1)])] D R Cs C fn else az_knr szP 14 csMd 4 260 16 csN [(0, 0, [(0, 1)]), (0, 0, [(3, 1)])] D R Cs C fn
noncomputable def clE (ok : Bool) (_ : szD) (R : szR) (Cs : azS) (_ : azF) (o : Option szV) : Bool := match o with
  | some v => Nat.beq v.1 0 && y_dec R Cs y_L (0, []) (y_eq R Cs v.2 (0, [])) (bif ok then y_dec R Cs (0, [(1, 1)]) (0, [(2, 1)]) (y_eq R Cs v.2 ((-200), [])) (y_eq R Cs v.2 (0, [(1, 1)])) else y_eq R Cs v.2 ((-1), [(3, (-1))]))
  | none => false
theorem clR_0 : yRun az_inl clC [] clQ 0 1000 1 (az_yl 260 14 (fun _ _ _ _ _ _ => false) (clE false)) (clD false) = true := by decide +kernel
theorem clR_1 : yRun az_inl clC [] clQ 0 1000 1 (az_yl 260 14 (fun _ _ _ _ _ _ => false) (clE true)) (clD true) = true := by decide +kernel
def clK (h0 : List mzC) (s0 : Nat × Nat) (o : Option (Option Value)) (s' : mzS) : Prop := o = some (some (iv (l_rd (y_t h0 9) (hv h0 8 1)))) ∧ az_Tp s'.1 ∧ az_HM csMd h0 s'.1 ∧ s'.1.length = h0.length ∧ s'.2.1 ≤ s0.1 ∧ s'.2.2 ≤ s0.2
set_option maxRecDepth 20000 in
theorem cl_all {X : List (List Value)} (hX : az_X X) {h : List mzC} {s2 : Nat × Nat} (hlen : h.length + 16000 < 2147483648) {d : Nat} (hd : 14 ≤ d) (hT : az_Tp h) {lo : mzL} (hlo : az_ml lo [.ref 14]) : mz_gg X (clK h s2) d 260 0 lo [] (h, s2) := by
  obtain ⟨t1, _, _, _⟩ := rd_typ hT.1
  have rb := l_r_bd (t := y_t h 9) (L := hv h 8 1) 10 0 (-1) (by decide) (by decide) t1.2.1 (by decide) (by decide)
  obtain ⟨ok, m, g, e, hok, hm, hg, he, rm, rg, re⟩ : ∃ (ok : Bool) (m g e : Int), (l_r (y_t h 9) (hv h 8 1) 10 0 (-1)).1 = ok ∧ (ok = true → (l_r (y_t h 9) (hv h 8 1) 10 0 (-1)).2.1 = m) ∧ (ok = true → (l_r (y_t h 9) (hv h 8 1) 10 0 (-1)).2.2 = g) ∧ (ok = false → (l_r (y_t h 9) (hv h 8 1) 10 0 (-1)).2.1 = e) ∧ (1 ≤ m ∧ m ≤ 10) ∧ (-1 ≤ g ∧ g ≤ 9) ∧ (0 ≤ e ∧ e ≤ 90) := by
    cases h1 : (l_r (y_t h 9) (hv h 8 1) 10 0 (-1)).1 with
    | true => exact ⟨true, _, _, 0, rfl, fun _ => rfl, fun _ => rfl, fun q => (by cases q), (rb.1 h1).1, (rb.1 h1).2, by omega⟩
    | false =>
      have := rb.2 h1
      exact ⟨false, 1, 0, _, rfl, fun q => (by cases q), fun q => (by cases q), fun _ => rfl, by omega, by omega, by omega⟩
  have hrun : yRun az_inl clC [] clQ 0 1000 1 (az_yl 260 14 (fun _ _ _ _ _ _ => false) (clE ok)) (clD ok) = true := by
    cases ok
    · exact clR_0
    · exact clR_1
  refine az_goX (c := clC) (i0 := 0) (ρ := rho [hv h 8 1, m, g, e] ((h.length : Int) + 4)) sz_pkall_szP hX (tb := []) (fun _ hc => by cases hc) (q := clQ) rfl (az_wfb_ok (by decide +kernel)) hrun rfl (by show h.length + 1000 * (14 + 2) < 2147483648; omega) (rho_z _ _) hd ?_ hT ?_ ?_ ?_ ?_
  · exact rho_V (rho_free rfl _) (show rin [(0, 80), (1, 10), ((-1), 9), (0, 90)] [hv h 8 1, m, g, e] from ⟨t1.2, rm, rg, re, trivial⟩) rfl (by omega) (by decide) trivial
  · exact HF_cons 1 (hv h 8 1) (by decide) (show (1 : Int) + 0 = ((1 : Nat) : Int) by omega) (by decide) (lw_sv (rho_0 _ _ _)) t1.1 (HF_nil _ _)
  · show az_ml lo (([(1, 14, [])] : szLo).map (sz_v _))
    rw [List.map_cons, List.map_nil, sz_v_ref _ (show (14 : Int) < 1000000 by decide)]
    exact hlo
  · intro D R Cs C ρ1 fn hr hV1 hW1 hag hn hf
    have a0 := (hag.1 0 (by show 0 < 4; decide)).trans (rho_0 _ _ _)
    have a1 := (hag.1 1 (by show 1 < 4; decide)).trans (rho_1 _ _ _ _)
    have a2 := (hag.1 2 (by show 2 < 4; decide)).trans (rho_2 _ _ _ _ _)
    have a3 := (hag.1 3 (by show 3 < 4; decide)).trans (rho_3 _ _ _ _ _ _)
    have hl14 : h.length + 1000 * (14 + 2) < 2147483648 := by omega
    unfold clD at hr
    rcases Bool.eq_false_or_eq_true ok with hokb | hokb
    · rw [hokb, cond_true] at hr
      refine az_knr_ok sz_pkall_szP hl14 hV1 hW1 ?_ hr hf
      intro ρ3 hh args s4 d4 hl4 hbd hM4 hV3 hLR H hlen3 hd4
      have c0 : ρ3 0 = (0 : Int) + (1 * ρ1 0 + 0) := hbd 0 _ rfl
      have c1 : ρ3 1 = (0 : Int) + (1 * ρ1 1 + 0) := hbd 1 _ rfl
      have c2 : ρ3 2 = (0 : Int) + (1 * ρ1 2 + 0) := hbd 2 _ rfl
      have z0 : ρ3 0 = hv h 8 1 := by omega
      have z1 : ρ3 1 = m := by omega
      have z2 : ρ3 2 = g := by omega
      refine csA_hc hX ?_ hl4 hV3 hLR H hlen3 hd4
      rw [y_t_eq hM4 (by decide) rfl, z0, z1, z2, ← hm hokb, ← hg hokb, ← hokb, ← hok]
    · rw [hokb, cond_false] at hr
      refine az_knr_ok sz_pkall_szP hl14 hV1 hW1 ?_ hr hf
      intro ρ3 hh args s4 d4 hl4 hbd hM4 hV3 hLR H hlen3 hd4
      have c0 : ρ3 0 = (0 : Int) + (1 * ρ1 0 + 0) := hbd 0 _ rfl
      have c1 : ρ3 1 = (0 : Int) + (1 * ρ1 3 + 0) := hbd 1 _ rfl
      have z0 : ρ3 0 = hv h 8 1 := by omega
      have z1 : ρ3 1 = e := by omega
      refine csN_hc hX ?_ ?_ hl4 hV3 hLR H hlen3 hd4
      · rw [y_t_eq hM4 (by decide) rfl, z0, hok, hokb]
      · rw [y_t_eq hM4 (by decide) rfl, z0, z1, he hokb]
  · intro D R Cs C ρ2 hl2 hV2 hW2 hag hn2
    have a0 := (hag.1 0 (by show 0 < 4; decide)).trans (rho_0 _ _ _)
    have a1 := (hag.1 1 (by show 1 < 4; decide)).trans (rho_1 _ _ _ _)
    have a2 := (hag.1 2 (by show 2 < 4; decide)).trans (rho_2 _ _ _ _ _)
    have a3 := (hag.1 3 (by show 3 < 4; decide)).trans (rho_3 _ _ _ _ _ _)
    have n0 : ∀ z : Int, y_n ρ2 (z, []) = z := fun z => Int.add_zero z
    refine az_yl_ok hV2 hl2 (fun F i lo' m' h' s3 hk => by cases hk) ?_
    intro F o h' s3 hk hT' hM' hF' hl' c1 c2
    unfold clE at hk
    split at hk
    · rename_i v
      rw [Bool.and_eq_true] at hk
      obtain ⟨v0, hk⟩ := hk
      have v0 := Nat.eq_of_beq_eq_true v0
      refine ⟨?_, hT', hM', hl', c1, c2⟩
      show some (some (sz_v ρ2 v)) = _
      rw [y_iv v0]
      have key : y_n ρ2 v.2 = l_rd (y_t h 9) (hv h 8 1) := by
        unfold l_rd
        rcases y_dec_ok hV2 hk with ⟨q1, ee⟩ | ⟨q1, ee⟩
        · rw [y_L_n, n0, a0] at q1
          rw [if_pos q1, y_eq_ok hV2 ee, n0]
        · rw [y_L_n, n0, a0] at q1
          rw [if_neg (by omega)]
          unfold l_a
          rw [hok]
          cases hokb : ok with
          | true =>
            rw [hokb, cond_true] at ee
            rw [cond_true, hm hokb, hg hokb]
            rcases y_dec_ok hV2 ee with ⟨q2, ee⟩ | ⟨q2, ee⟩
            · rw [y_a, y_a, a1, a2] at q2
              rw [if_pos q2, y_eq_ok hV2 ee, n0]
            · rw [y_a, y_a, a1, a2] at q2
              rw [if_neg (by omega), y_eq_ok hV2 ee, y_a, a1]
          | false =>
            rw [hokb, cond_false] at ee
            rw [cond_false, he hokb, y_eq_ok hV2 ee]
            show (-1 : Int) + ((-1) * ρ2 3 + 0) = _
            rw [a3]
            omega
      rw [key]
    · cases hk
/-- contract of readLoop: atom 1 the answer -/
def clB : azCon := (260, 14, ([azf, azf], [(0, 80), ((-200), 10)], [], [(1, 14, [])], [(8, (1, []), (0, 0, [(0, 1)]))], [], false), [(some (some (0, 0, [(1, 1)])), [azf, azf], [(0, 80), ((-200), 10)], [], [])], csMd, (0, 0))
set_option maxRecDepth 20000 in
theorem clB_hc {X : List (List Value)} (hX : az_X X) {ρ1 : Nat → Int} {hh : List mzC} {args : List Value} {s2 : Nat × Nat} {d : Nat} (hv1 : ρ1 1 = l_rd (y_t hh 9) (ρ1 0)) (hl : args.length = 1) (hV : az_V clB.2.2.1.1 clB.2.2.1.2.1 clB.2.2.1.2.2.1 ρ1) (hLR : sz_LR ρ1 clB.2.2.1.2.2.2.1 (lv_args 0 args)) (H : az_HR [] hh ρ1 clB.2.2.1.2.2.2.2.1 clB.2.2.1.2.2.2.2.2.1 clB.2.2.1.2.2.2.2.2.2 0 hh) (hlen : hh.length + 1000 * (clB.2.1 + 2) < 2147483648) (hd : clB.2.1 ≤ d) : mz_gg X (az_PostH clB ρ1 hh s2) d clB.1 0 (lv_args 0 args) [] (hh, s2) := by
  have hlen : hh.length + 1000 * (14 + 2) < 2147483648 := hlen
  have e0 := y_fh H.1 H.2.2.1 (c := 8) (k := 1) (a := 0) (by decide) (by decide) (List.Mem.head _) (hV.2.2.2.2 0)
  refine mz_gg_mono ?_ (cl_all hX (by omega) hd ⟨H.1, H.2.2.2.1⟩ (args_1 (by decide) hl hLR))
  intro o s' hk
  obtain ⟨k1, k2, k3, k4, k5, k6⟩ := hk
  refine y_post (c := clB) (v := (0, 0, [(1, 1)])) (FP := []) (List.Mem.head _) rfl rfl hV (H.2.1.2 rfl rfl) k2 k3 (HF_nil _ _) k4 k5 k6 ?_
  rw [k1, e0, ← hv1, lw_sv rfl]
def takeB : azCon := (216, 0, ([], [], [], [(1, 5, []), (1, 15, [])], [], [], false), [(some none, [], [], [], [])], [(1, 1), (2, 0), (3, 0), (4, 0), (5, 0)], (0, 0))
def cpMd : List (Nat × Nat) := [(1, 1), (10, 3), (100, 0), (101, 0), (102, 0), (103, 0), (104, 0), (105, 0), (106, 1), (107, 0), (108, 0), (109, 0), (11, 1), (110, 0), (111, 0), (112, 0), (113, 1), (114, 0), (115, 0), (116, 0), (117, 0), (118, 0), (119, 0), (12, 0), (120, 1), (121, 0), (122, 0), (123, 0), (124, 0), (125, 0), (126, 0), (13, 0), (14, 0), (15, 0), (18, 2), (2, 0), (3, 0), (33, 3), (4, 0), (5, 0), (53, 3), (53, 4), (57, 1), (58, 0), (59, 0), (60, 0), (61, 0), (62, 0), (63, 0), (64, 1), (65, 0), (66, 0), (67, 0), (68, 0), (69, 0), (70, 0), (71, 1), (72, 0), (73, 0), (74, 0), (75, 0), (76, 0), (77, 0), (78, 1), (79, 0), (8, 2), (8, 3), (80, 0), (81, 0), (82, 0), (83, 0), (84, 0), (85, 1), (86, 0), (87, 0), (88, 0), (89, 0), (90, 0), (91, 0), (92, 1), (93, 0), (94, 0), (95, 0), (96, 0), (97, 0), (98, 0), (99, 1)]
/-- loop: atoms 0 how many signs, 1 the answer -/
def cpQ : szM := (2, 11, (0, 0, 0), szc_8)
def cpC : azCon := (8, 16, ([azf, azf], [(0, 80), ((-200), 10)], [], [(1, 4, [])], [(8, (1, []), (0, 0, [(0, 1)]))], [], false), [], cpMd, (0, 0))
noncomputable def cpD (D : szD) (R : szR) (Cs : azS) (C : azQ) (fn : szD → szR → azS → azQ → Bool) : Bool := az_knr szP 16 cpMd 2 8 2 clB [(0, 0, [(0, 1)]), (0, 0, [(1, 1)])] D R Cs C fn
noncomputable def cpE (_ : szD) (R : szR) (Cs : azS) (F : azF) (o : Option szV) : Bool := match o with
  | some v => Nat.beq v.1 0 && (y_fs R Cs F [(8, 1, (0, 0, []))] && y_eq R Cs v.2 (0, [(1, 1)]))
  | none => false
theorem cpR : yRun az_inl cpC [markB, takeB, keepB] cpQ 0 2000 1 (az_yl 8 16 (fun _ _ _ _ _ _ => false) cpE) cpD = true := by decide +kernel
def cpK (h0 : List mzC) (s0 : Nat × Nat) (v : Int) (o : Option (Option Value)) (s' : mzS) : Prop := o = some (some (iv v)) ∧ az_Tp s'.1 ∧ az_HM cpMd h0 s'.1 ∧ az_slot s'.1 8 1 = some (iv 0) ∧ s'.1.length = h0.length ∧ s'.2.1 ≤ s0.1 ∧ s'.2.2 ≤ s0.2
set_option maxRecDepth 20000 in
theorem cp_all {X : List (List Value)} (hX : az_X X) (hB1 : az_Valid X markB) (hB3 : az_Valid X takeB) (hB2 : az_Valid X keepB) {h : List mzC} {s2 : Nat × Nat} (hlen : h.length + 18000 < 2147483648) {d : Nat} (hd : 16 ≤ d) (hT : az_Tp h) {lo : mzL} (hlo : az_ml lo [.ref 4]) : mz_gg X (cpK h s2 (l_rd (y_t h 9) (hv h 8 1))) d 8 0 lo [] (h, s2) := by
  obtain ⟨t1, _, _, _⟩ := rd_typ hT.1
  have tb := l_rd_bd (t := y_t h 9) t1.2.1 t1.2.2
  refine az_goX (c := cpC) (i0 := 0) (ρ := rho [hv h 8 1, l_rd (y_t h 9) (hv h 8 1)] ((h.length : Int) + 4)) sz_pkall_szP hX (tb := [markB, takeB, keepB]) (List.forall_mem_cons.mpr ⟨hB1, List.forall_mem_cons.mpr ⟨hB3, List.forall_mem_cons.mpr ⟨hB2, fun _ hc => by cases hc⟩⟩⟩) (q := cpQ) rfl (az_wfb_ok (by decide +kernel)) cpR rfl (by show h.length + 1000 * (16 + 2) < 2147483648; omega) (rho_z _ _) hd ?_ hT ?_ ?_ ?_ ?_
  · exact rho_V (rho_free rfl _) (show rin [(0, 80), ((-200), 10)] [hv h 8 1, l_rd (y_t h 9) (hv h 8 1)] from ⟨t1.2, tb, trivial⟩) rfl (by omega) (by decide) trivial
  · exact HF_cons 1 (hv h 8 1) (by decide) (show (1 : Int) + 0 = ((1 : Nat) : Int) by omega) (by decide) (lw_sv (rho_0 _ _ _)) t1.1 (HF_nil _ _)
  · show az_ml lo (([(1, 4, [])] : szLo).map (sz_v _))
    rw [List.map_cons, List.map_nil, sz_v_ref _ (show (4 : Int) < 1000000 by decide)]
    exact hlo
  · intro D R Cs C ρ1 fn hr hV1 hW1 hag hn hf
    have a0 := (hag.1 0 (by show 0 < 2; decide)).trans (rho_0 _ _ _)
    have a1 := (hag.1 1 (by show 1 < 2; decide)).trans (rho_1 _ _ _ _)
    unfold cpD at hr
    refine az_knr_ok sz_pkall_szP (by show h.length + 1000 * (16 + 2) < 2147483648; omega) hV1 hW1 ?_ hr hf
    intro ρ3 hh args s4 d4 hl hbd hM hV3 hLR H hlen3 hd4
    have c0 : ρ3 0 = (0 : Int) + (1 * ρ1 0 + 0) := hbd 0 _ rfl
    have c1 : ρ3 1 = (0 : Int) + (1 * ρ1 1 + 0) := hbd 1 _ rfl
    refine clB_hc hX ?_ hl hV3 hLR H hlen3 hd4
    rw [c1, a1, y_t_eq hM (by decide) (by decide), show ρ3 0 = hv h 8 1 by omega]
    omega
  · intro D R Cs C ρ2 hl2 hV2 hW2 hag hn2
    have a1 := (hag.1 1 (by show 1 < 2; decide)).trans (rho_1 _ _ _ _)
    refine az_yl_ok hV2 hl2 (fun F i lo' m' h' s3 hk => by cases hk) ?_
    intro F o h' s3 hk hT' hM' hF' hl' c1 c2
    unfold cpE at hk
    split at hk
    · rename_i v
      simp only [Bool.and_eq_true] at hk
      obtain ⟨v0, hf0, hfin⟩ := hk
      have v0 := Nat.eq_of_beq_eq_true v0
      have e2 := y_fs_ok hV2 hF' hf0 _ (List.Mem.head _)
      have e2 : az_slot h' 8 1 = some (iv 0) := (show az_slot h' 8 1 = some (sz_v ρ2 (0, 0, [])) from e2).trans (congrArg some (y_c0 _ _))
      refine ⟨?_, hT', hM', e2, hl', c1, c2⟩
      show some (some (sz_v ρ2 v)) = _
      rw [y_iv v0, y_eq_ok hV2 hfin, y_a, a1]
    · cases hk
/-- the same as a contract -/
def cpB : azCon := (8, 16, ([azf, azf], [(0, 80), ((-200), 10)], [], [(1, 4, [])], [(8, (1, []), (0, 0, [(0, 1)]))], [], false), [(some (some (0, 0, [(1, 1)])), [azf, azf], [(0, 80), ((-200), 10)], [], [(8, (1, []), (0, 0, []))])], cpMd, (0, 0))
set_option maxRecDepth 20000 in
theorem cpB_hc {X : List (List Value)} (hX : az_X X) {ρ1 : Nat → Int} {hh : List mzC} {args : List Value} {s2 : Nat × Nat} {d : Nat} (hB1 : az_Valid X markB) (hB3 : az_Valid X takeB) (hB2 : az_Valid X keepB) (hv1 : ρ1 1 = l_rd (y_t hh 9) (ρ1 0)) (hl : args.length = 1) (hV : az_V cpB.2.2.1.1 cpB.2.2.1.2.1 cpB.2.2.1.2.2.1 ρ1) (hLR : sz_LR ρ1 cpB.2.2.1.2.2.2.1 (lv_args 0 args)) (H : az_HR [] hh ρ1 cpB.2.2.1.2.2.2.2.1 cpB.2.2.1.2.2.2.2.2.1 cpB.2.2.1.2.2.2.2.2.2 0 hh) (hlen : hh.length + 1000 * (cpB.2.1 + 2) < 2147483648) (hd : cpB.2.1 ≤ d) : mz_gg X (az_PostH cpB ρ1 hh s2) d cpB.1 0 (lv_args 0 args) [] (hh, s2) := by
  have hlen : hh.length + 1000 * (16 + 2) < 2147483648 := hlen
  have e0 := y_fh H.1 H.2.2.1 (c := 8) (k := 1) (a := 0) (by decide) (by decide) (List.Mem.head _) (hV.2.2.2.2 0)
  refine mz_gg_mono ?_ (cp_all hX hB1 hB3 hB2 (by omega) hd ⟨H.1, H.2.2.2.1⟩ (args_1 (by decide) hl hLR))
  intro o s' hk
  obtain ⟨k1, k2, k3, k7, k4, k5, k6⟩ := hk
  refine y_post (c := cpB) (v := (0, 0, [(1, 1)])) (FP := [(8, (1, []), (0, 0, []))]) (List.Mem.head _) rfl rfl hV (H.2.1.2 rfl rfl) k2 k3 (HF_cons 1 0 (by decide) (show (1 : Int) + 0 = ((1 : Nat) : Int) by omega) (by decide) (y_c0 _ _) k7 (HF_nil _ _)) k4 k5 k6 ?_
  rw [k1, e0, ← hv1, lw_sv rfl]
