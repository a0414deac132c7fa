/-! an OPERAND: the class's readOperand -/
/-- a number that may be an OPERAND -/
def yOpd (v : Int) : Prop := (0 ≤ v ∧ v ≤ 20) ∨ (41 ≤ v ∧ v ≤ 50) ∨ (71 ≤ v ∧ v ≤ 80)
theorem yOpd_ty {v : Int} (h : yOpd v) : ∃ τ, azTs[4 - 1]? = some τ ∧ ∃ p ∈ τ.2.2, p.1 ≤ v ∧ v ≤ p.2 := by
  refine ⟨(0, 0, [(0, 20), (41, 50), (71, 80)]), by decide +kernel, ?_⟩
  rcases h with h | h | h
  · exact ⟨_, List.Mem.head _, h⟩
  · exact ⟨_, List.Mem.tail _ (List.Mem.head _), h⟩
  · exact ⟨_, List.Mem.tail _ (List.Mem.tail _ (List.Mem.head _)), h⟩
theorem yOpd_rg {v : Int} (h : yOpd v) : 0 ≤ v ∧ v ≤ 80 := by
  unfold yOpd at h
  omega
def yT1 : azTy := (0, 0, [(0, 20), (41, 50), (71, 80)])
def yT2 : azTy := (0, 0, [((-1), 20), (41, 50), (71, 80)])
section
variable {D : szD} {R : szR} {Cs : azS} {ρ : Nat → Int}
theorem y_in {τ : azTy} {v : szV} (h0 : τ.1 = 0) (hv : v.1 = 0) (hn : az_nw R Cs v = true) (hV : az_V D R Cs ρ) (h : az_sub D R Cs v τ = true) : ∃ p ∈ τ.2.2, p.1 ≤ y_n ρ v.2 ∧ y_n ρ v.2 ≤ p.2 := by
  have a := az_sub_ok hV.2.1 hV.2.2.1 hV.2.2.2.1 h
  rw [y_iv hv] at a
  unfold az_in at a
  rw [h0] at a
  obtain ⟨x, e, p, hp, p1, p2⟩ := a
  have hb : (sz_i ρ v).toInt = y_n ρ v.2 := az_nw_ok hV.2.1 hV.2.2.1 hn
  have hb2 := sz_bd (sz_i ρ v)
  have e : Int32.ofInt (y_n ρ v.2) = x := Value.int.inj e
  have e2 : x.toInt = y_n ρ v.2 := by
    rw [← e, sz_toInt]
    exact sz_w_id (by omega) (by omega)
  rw [e2] at p1 p2
  exact ⟨p, hp, p1, p2⟩
theorem y_in1 {v : szV} (hv : v.1 = 0) (hn : az_nw R Cs v = true) (hV : az_V D R Cs ρ) (h : az_sub D R Cs v yT1 = true) : yOpd (y_n ρ v.2) := by
  obtain ⟨p, hp, p1, p2⟩ := y_in rfl hv hn hV h
  have hp : p ∈ [((0 : Int), (20 : Int)), (41, 50), (71, 80)] := hp
  simp only [List.mem_cons, List.not_mem_nil, or_false] at hp
  unfold yOpd
  rcases hp with e | e | e <;> subst e <;> dsimp only at p1 p2 <;> omega
theorem y_in2 {v : szV} (hv : v.1 = 0) (hn : az_nw R Cs v = true) (hV : az_V D R Cs ρ) (h : az_sub D R Cs v yT2 = true) (h0 : 0 ≤ y_n ρ v.2) : yOpd (y_n ρ v.2) := by
  obtain ⟨p, hp, p1, p2⟩ := y_in rfl hv hn hV h
  have hp : p ∈ [((-1 : Int), (20 : Int)), (41, 50), (71, 80)] := hp
  simp only [List.mem_cons, List.not_mem_nil, or_false] at hp
  unfold yOpd
  rcases hp with e | e | e <;> subst e <;> dsimp only at p1 p2 <;> omega
end
theorem rd_typ {h : List mzC} (hT : az_HT h) : (az_slot h 8 1 = some (iv (hv h 8 1)) ∧ 0 ≤ hv h 8 1 ∧ hv h 8 1 ≤ 80) ∧ (az_slot h 8 2 = some (iv (hv h 8 2)) ∧ 0 ≤ hv h 8 2 ∧ hv h 8 2 ≤ 90) ∧ (az_slot h 10 2 = some (iv (hv h 10 2)) ∧ -1 ≤ hv h 10 2 ∧ hv h 10 2 ≤ 9) ∧ (az_slot h 11 0 = some (iv (hv h 11 0)) ∧ 0 ≤ hv h 11 0 ∧ hv h 11 0 ≤ 10) := ⟨hv_slot hT (c := 8) (k := 1) (C := (18, 3, 0, [53, 15, 16])) (by decide +kernel) (by decide +kernel), hv_slot hT (c := 8) (k := 2) (C := (18, 3, 0, [53, 15, 16])) (by decide +kernel) (by decide +kernel), hv_slot hT (c := 10) (k := 2) (C := (14, 3, 0, [39, 54, 17])) (by decide +kernel) (by decide +kernel), hv_slot hT (c := 11) (k := 0) (C := (6, 7, 0, [11, 55, 56, 57, 58, 59, 60])) (by decide +kernel) (by decide +kernel)⟩
/-- atoms 0 how many signs, 1 where, 2 ACT, 3 the greatest letter with ' -/
def coQ : szM := (5, 8, (0, 0, 0), szc_265)
def coR : szR := [(0, 80), (0, 90), (0, 9), ((-1), 9)]
def coMd : List (Nat × Nat) := [(10, 3), (8, 3)]
def coF : azF := [(8, (1, []), (0, 0, [(0, 1)])), (8, (2, []), (0, 0, [(1, 1)])), (10, (2, []), (0, 0, [(3, 1)]))]
def coC : azCon := (265, 4, ([azf, azf, azf, azf], coR, [], [(1, 14, []), (0, 0, [(2, 1)])], coF, [], false), [], coMd, (0, 0))
/-- two slots as forms -/
noncomputable def y_2 (R : szR) (Cs : azS) (F : azF) (c1 k1 c2 k2 : Nat) (f : Int × szT → Int × szT → Bool) : Bool := match az_fget c1 ((k1 : Int), []) F, az_fget c2 ((k2 : Int), []) F with
  | some u, some w => ((Nat.beq u.1 0 && az_nw R Cs u) && (Nat.beq w.1 0 && az_nw R Cs w)) && f u.2 w.2
  | _, _ => false
theorem y_2_ok {D : szD} {R : szR} {Cs : azS} {ρ : Nat → Int} (hV : az_V D R Cs ρ) {h : List mzC} {F : azF} (hF : az_HF ρ h false F) {c1 k1 c2 k2 : Nat} (h1 : c1 < 163) (h2 : k1 < 1000000) (h3 : c2 < 163) (h4 : k2 < 1000000) {f : Int × szT → Int × szT → Bool} (e : y_2 R Cs F c1 k1 c2 k2 f = true) : ∃ u w, f u w = true ∧ hv h c1 k1 = y_n ρ u ∧ hv h c2 k2 = y_n ρ w := by
  unfold y_2 at e
  split at e
  · rename_i u w hu hw
    simp only [Bool.and_eq_true] at e
    obtain ⟨⟨⟨u0, un⟩, w0, wn⟩, e⟩ := e
    exact ⟨u.2, w.2, e, y_hv hV hF h1 h2 hu (Nat.eq_of_beq_eq_true u0) un, y_hv hV hF h3 h4 hw (Nat.eq_of_beq_eq_true w0) wn⟩
  · cases e
noncomputable def coE (D : szD) (R : szR) (Cs : azS) (F : azF) (o : Option szV) : Bool := match o with
  | some v => ((Nat.beq v.1 0 && az_nw R Cs v) && az_sub D R Cs v yT2) && y_2 R Cs F 8 2 10 2 (fun u w => yOp R Cs F 9 (0, [(2, 1)]) (0, [(1, 1)]) (0, [(3, 1)]) (fun p g => y_le R Cs (0, []) v.2 && (y_eq R Cs u p && y_eq R Cs w g)) (y_eq R Cs v.2 (-1, []) && (y_eq R Cs u (0, [(1, 1)]) && y_eq R Cs w (0, [(3, 1)]))))
  | none => false
theorem coRun : yRun az_inl coC [] coQ 0 2000 0 (az_yl 265 4 (fun _ _ _ _ _ _ => false) coE) yNo = true := by decide +kernel
/-- its outcome -/
def coP (t : Int → Int) (L k p g v p' g' : Int) : Prop := (o_ok t L k p = true ∧ yOpd v ∧ p' = o_e t L p ∧ g' = o_g t L p g) ∨ (o_ok t L k p = false ∧ v = -1 ∧ p' = p ∧ g' = g)
def coK (h0 : List mzC) (s0 : Nat × Nat) (k : Int) (o : Option (Option Value)) (s' : mzS) : Prop := (∃ v, o = some (some (iv v)) ∧ coP (y_t h0 9) (hv h0 8 1) k (hv h0 8 2) (hv h0 10 2) v (hv s'.1 8 2) (hv s'.1 10 2)) ∧ az_Tp s'.1 ∧ az_HM coMd h0 s'.1 ∧ s'.1.length = h0.length ∧ s'.2.1 ≤ s0.1 ∧ s'.2.2 ≤ s0.2
theorem y_a (ρ : Nat → Int) (k : Nat) : y_n ρ ((0 : Int), [(k, 1)]) = ρ k := by
  show (0 : Int) + (1 * ρ k + 0) = _
  omega
set_option maxRecDepth 20000 in
theorem co_all {X : List (List Value)} (hX : az_X X) {h : List mzC} {s2 : Nat × Nat} (hlen : h.length + 6000 < 2147483648) {d : Nat} (hd : 4 ≤ d) (hT : az_Tp h) {k : Int} (hk : 0 ≤ k ∧ k ≤ 9) {lo : mzL} (hlo : az_ml lo [.ref 14, iv k]) : mz_gg X (coK h s2 k) d 265 0 lo [] (h, s2) := by
  obtain ⟨t1, t2, t3, _⟩ := rd_typ hT.1
  refine az_goX (c := coC) (i0 := 0) (ρ := rho [hv h 8 1, hv h 8 2, k, hv h 10 2] ((h.length : Int) + 4)) sz_pkall_szP hX (tb := []) (fun _ hc => by cases hc) (q := coQ) rfl (az_wfb_ok (by decide +kernel)) coRun rfl (by show h.length + 1000 * (4 + 2) < 2147483648; omega) (rho_z _ _) hd ?_ hT ?_ ?_ (fun D R Cs C ρ1 f hr => by cases hr) ?_
  · exact rho_V (rho_free rfl _) (show rin coR [hv h 8 1, hv h 8 2, k, hv h 10 2] from ⟨t1.2, t2.2, hk, t3.2, trivial⟩) rfl (by omega) (by decide) trivial
  · exact HF_cons 1 (hv h 8 1) (by decide) (show (1 : Int) + 0 = ((1 : Nat) : Int) by omega) (by decide) (lw_sv (rho_0 _ _ _)) t1.1 (HF_cons 2 (hv h 8 2) (by decide) (show (2 : Int) + 0 = ((2 : Nat) : Int) by omega) (by decide) (lw_sv (rho_1 _ _ _ _)) t2.1 (HF_cons 2 (hv h 10 2) (by decide) (show (2 : Int) + 0 = ((2 : Nat) : Int) by omega) (by decide) (lw_sv (rho_3 _ _ _ _ _ _)) t3.1 (HF_nil _ _)))
  · exact ml_one (r := 14) (by decide) hlo (show (0 : Int) + (1 * rho [hv h 8 1, hv h 8 2, k, hv h 10 2] _ 2 + 0) = k by rw [rho_2]; omega)
  · intro D R Cs C ρ2 hl2 hV2 hW2 hag hn2
    have a0 : ρ2 0 = hv h 8 1 := (hag.1 0 (by show 0 < 4; decide)).trans (rho_0 _ _ _)
    have a1 : ρ2 1 = hv h 8 2 := (hag.1 1 (by show 1 < 4; decide)).trans (rho_1 _ _ _ _)
    have a2 : ρ2 2 = k := (hag.1 2 (by show 2 < 4; decide)).trans (rho_2 _ _ _ _ _)
    have a3 : ρ2 3 = hv h 10 2 := (hag.1 3 (by show 3 < 4; decide)).trans (rho_3 _ _ _ _ _ _)
    refine az_yl_ok hV2 hl2 (fun F i lo' m h' s3 hk => by cases hk) ?_
    intro F o h' s3 hk hT' hM' hF' hl' c1 c2
    unfold coE at hk
    split at hk
    · rename_i v
      rw [Bool.and_eq_true] at hk
      obtain ⟨hk1, hk2⟩ := hk
      simp only [Bool.and_eq_true] at hk1
      obtain ⟨⟨v0, vn⟩, vt⟩ := hk1
      have v0 := Nat.eq_of_beq_eq_true v0
      obtain ⟨u, w, e, eu, ew⟩ := y_2_ok hV2 hF' (by decide) (by decide) (by decide) (by decide) hk2
      refine ⟨⟨y_n ρ2 v.2, by show some (some (sz_v ρ2 v)) = _; rw [y_iv v0], ?_⟩, hT', hM', hl', c1, c2⟩
      have q := yOp_ok hV2 hF' (by decide) e
      rw [y_a, y_a, y_a, a0, a1, a2, a3, y_t_eq hM' (by decide) (by decide)] at q
      show coP (y_t h 9) (hv h 8 1) k (hv h 8 2) (hv h 10 2) (y_n ρ2 v.2) (hv h' 8 2) (hv h' 10 2)
      rcases q with ⟨q1, p', g', q2, q3, q4⟩ | ⟨q1, q2⟩
      · simp only [Bool.and_eq_true] at q2
        obtain ⟨z1, z2, z3⟩ := q2
        have z1 := y_le_ok hV2 z1
        have z2 := y_eq_ok hV2 z2
        have z3 := y_eq_ok hV2 z3
        have z1 : (0 : Int) ≤ y_n ρ2 v.2 := by
          have : y_n ρ2 ((0 : Int), []) = 0 := rfl
          omega
        exact Or.inl ⟨q1, y_in2 v0 vn hV2 vt z1, by rw [eu, z2, q3], by rw [ew, z3, q4]⟩
      · simp only [Bool.and_eq_true] at q2
        obtain ⟨z1, z2, z3⟩ := q2
        have z1 := y_eq_ok hV2 z1
        have z2 := y_eq_ok hV2 z2
        have z3 := y_eq_ok hV2 z3
        rw [y_a, a1] at z2
        rw [y_a, a3] at z3
        exact Or.inr ⟨q1, z1, by rw [eu, z2], by rw [ew, z3]⟩
    · cases hk
/-- contracts: it may stand there: atoms 4 where it goes on, 5 the greatest letter with '; it may not -/
def coA : azCon := (265, 4, ([azf, azf, azf, azf, azf, azf], coR ++ [(0, 90), ((-1), 9)], [], [(1, 14, []), (0, 0, [(2, 1)])], coF, [], false), [(some (some (0, 0, [(6, 1)])), [azf, azf, azf, azf, azf, azf] ++ [(0, (4, 0, []), (0, 0, []))], (coR ++ [(0, 90), ((-1), 9)]) ++ [(0, 80)], [], [(8, (2, []), (0, 0, [(4, 1)])), (10, (2, []), (0, 0, [(5, 1)]))])], coMd, (0, 0))
def coN : azCon := (265, 4, ([azf, azf, azf, azf], coR, [], [(1, 14, []), (0, 0, [(2, 1)])], coF, [], false), [(some (some (0, (-1), [])), [azf, azf, azf, azf], coR, [], [(8, (2, []), (0, 0, [(1, 1)])), (10, (2, []), (0, 0, [(3, 1)]))])], coMd, (0, 0))
theorem y_fh {ρ : Nat → Int} {h : List mzC} {F : azF} (hT : az_HT h) (hF : az_HF ρ h false F) {c k a : Nat} (hc : c < 163) (hk : k < 1000000) (hm : (c, ((k : Int), []), ((0, 0, [(a, 1)]) : szV)) ∈ F) (hb : -2147483648 ≤ ρ a ∧ ρ a ≤ 2147483647) : hv h c k = ρ a := by
  have e := HF_get hF hc hk hm
  rw [lw_sv rfl] at e
  exact hv_val e hb.1 hb.2
set_option maxRecDepth 20000 in
theorem coA_hc {X : List (List Value)} (hX : az_X X) {ρ1 : Nat → Int} {hh : List mzC} {args : List Value} {s2 : Nat × Nat} {d : Nat} (ho : o_ok (y_t hh 9) (ρ1 0) (ρ1 2) (ρ1 1) = true) (h4 : ρ1 4 = o_e (y_t hh 9) (ρ1 0) (ρ1 1)) (h5 : ρ1 5 = o_g (y_t hh 9) (ρ1 0) (ρ1 1) (ρ1 3)) (hl : args.length = 2) (hV : az_V coA.2.2.1.1 coA.2.2.1.2.1 coA.2.2.1.2.2.1 ρ1) (hLR : sz_LR ρ1 coA.2.2.1.2.2.2.1 (lv_args 0 args)) (H : az_HR [] hh ρ1 coA.2.2.1.2.2.2.2.1 coA.2.2.1.2.2.2.2.2.1 coA.2.2.1.2.2.2.2.2.2 0 hh) (hlen : hh.length + 1000 * (coA.2.1 + 2) < 2147483648) (hd : coA.2.1 ≤ d) : mz_gg X (az_PostH coA ρ1 hh s2) d coA.1 0 (lv_args 0 args) [] (hh, s2) := by
  have hlen : hh.length + 1000 * (4 + 2) < 2147483648 := hlen
  have e0 := y_fh H.1 H.2.2.1 (c := 8) (k := 1) (a := 0) (by decide) (by decide) (List.Mem.head _) (hV.2.2.2.2 0)
  have e1 := y_fh H.1 H.2.2.1 (c := 8) (k := 2) (a := 1) (by decide) (by decide) (List.Mem.tail _ (List.Mem.head _)) (hV.2.2.2.2 1)
  have e3 := y_fh H.1 H.2.2.1 (c := 10) (k := 2) (a := 3) (by decide) (by decide) (List.Mem.tail _ (List.Mem.tail _ (List.Mem.head _))) (hV.2.2.2.2 3)
  have r2 : (0 : Int) ≤ ρ1 2 ∧ ρ1 2 ≤ 9 := hV.2.1 2
  refine mz_gg_mono ?_ (co_all hX (by omega) hd ⟨H.1, H.2.2.2.1⟩ r2 (args_2 (by decide) hl hLR))
  intro o s' hk
  obtain ⟨⟨v, k1, kp⟩, k2, k3, k4, k5, k6⟩ := hk
  rw [e0, e1, e3] at kp
  rcases kp with ⟨_, kv, kp, kg⟩ | ⟨kn, _⟩
  · rw [← h4] at kp
    rw [← h5] at kg
    obtain ⟨_, t2, t3, _⟩ := rd_typ k2.1
    have up : ∀ a, a < 6 → az_up ρ1 6 v a = ρ1 a := fun a ha => if_neg (by omega)
    have rv := yOpd_rg kv
    refine y_post1 (c := coA) (v := (0, 0, [(6, 1)])) (d := (0, (4, 0, []), (0, 0, []))) (r := (0, 80)) (x := v) (List.Mem.head _) rfl rfl hV (az_wfb_ok (by decide +kernel)) rv (by omega) rfl ⟨rfl, rfl⟩ (fun _ => yOpd_ty kv) (by decide) (H.2.1.2 rfl rfl) k2.1 k2.2 k3 ?_ k4 k5 k6 ?_
    · exact HF_cons 2 (hv s'.1 8 2) (by decide) (show (2 : Int) + 0 = ((2 : Nat) : Int) by omega) (by decide) (lw_sv ((up 4 (by decide)).trans kp.symm)) t2.1 (HF_cons 2 (hv s'.1 10 2) (by decide) (show (2 : Int) + 0 = ((2 : Nat) : Int) by omega) (by decide) (lw_sv ((up 5 (by decide)).trans kg.symm)) t3.1 (HF_nil _ _))
    · rw [k1]
      exact congrArg (fun z => some (some z)) (lw_sv (show az_up ρ1 6 v 6 = v from if_pos rfl)).symm
  · rw [ho] at kn
    cases kn
set_option maxRecDepth 20000 in
theorem coN_hc {X : List (List Value)} (hX : az_X X) {ρ1 : Nat → Int} {hh : List mzC} {args : List Value} {s2 : Nat × Nat} {d : Nat} (ho : o_ok (y_t hh 9) (ρ1 0) (ρ1 2) (ρ1 1) = false) (hl : args.length = 2) (hV : az_V coN.2.2.1.1 coN.2.2.1.2.1 coN.2.2.1.2.2.1 ρ1) (hLR : sz_LR ρ1 coN.2.2.1.2.2.2.1 (lv_args 0 args)) (H : az_HR [] hh ρ1 coN.2.2.1.2.2.2.2.1 coN.2.2.1.2.2.2.2.2.1 coN.2.2.1.2.2.2.2.2.2 0 hh) (hlen : hh.length + 1000 * (coN.2.1 + 2) < 2147483648) (hd : coN.2.1 ≤ d) : mz_gg X (az_PostH coN ρ1 hh s2) d coN.1 0 (lv_args 0 args) [] (hh, s2) := by
  have hlen : hh.length + 1000 * (4 + 2) < 2147483648 := hlen
  have e0 := y_fh H.1 H.2.2.1 (c := 8) (k := 1) (a := 0) (by decide) (by decide) (List.Mem.head _) (hV.2.2.2.2 0)
  have e1 := y_fh H.1 H.2.2.1 (c := 8) (k := 2) (a := 1) (by decide) (by decide) (List.Mem.tail _ (List.Mem.head _)) (hV.2.2.2.2 1)
  have e3 := y_fh H.1 H.2.2.1 (c := 10) (k := 2) (a := 3) (by decide) (by decide) (List.Mem.tail _ (List.Mem.tail _ (List.Mem.head _))) (hV.2.2.2.2 3)
  have r2 : (0 : Int) ≤ ρ1 2 ∧ ρ1 2 ≤ 9 := hV.2.1 2
  refine mz_gg_mono ?_ (co_all hX (by omega) hd ⟨H.1, H.2.2.2.1⟩ r2 (args_2 (by decide) hl hLR))
  intro o s' hk
  obtain ⟨⟨v, k1, kp⟩, k2, k3, k4, k5, k6⟩ := hk
  rw [e0, e1, e3] at kp
  rcases kp with ⟨kn, _⟩ | ⟨_, kv, kp, kg⟩
  · rw [ho] at kn
    cases kn
  · obtain ⟨_, t2, t3, _⟩ := rd_typ k2.1
    refine y_post (c := coN) (v := (0, (-1), [])) (FP := [(8, (2, []), (0, 0, [(1, 1)])), (10, (2, []), (0, 0, [(3, 1)]))]) (List.Mem.head _) rfl rfl hV (H.2.1.2 rfl rfl) k2 k3 ?_ k4 k5 k6 ?_
    · exact HF_cons 2 (hv s'.1 8 2) (by decide) (show (2 : Int) + 0 = ((2 : Nat) : Int) by omega) (by decide) (lw_sv kp.symm) t2.1 (HF_cons 2 (hv s'.1 10 2) (by decide) (show (2 : Int) + 0 = ((2 : Nat) : Int) by omega) (by decide) (lw_sv kg.symm) t3.1 (HF_nil _ _))
    · rw [k1, kv]
      exact congrArg (fun z => some (some z)) (y_c0 _ _).symm
