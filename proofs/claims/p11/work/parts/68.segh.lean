/-! pieces with loops in them -/
noncomputable def az_hleaf (c : azCon) (hds ends : List azHd) (rk : Option (Int × szT)) (hb : szD → szR → azS → azQ → azHd → List szV) (rb : szD → szR → azS → azF → Option szV → azPo → List szV) (D : szD) (R : szR) (Cs : azS) (C : azQ) : Bool := az_leaf c hds rk hb rb D R Cs C || az_lhd c ends none hb D R Cs C
set_option maxRecDepth 20000 in
theorem az_segH {P : List szM} (hP : sz_pkall P mzP = true) {inl : Nat → Bool} {X : List (List Value)} (hX : az_X X) {tb : List azCon} (htb : ∀ c ∈ tb, az_Valid X c) {pre hint : szD → szR → azS → azQ → Option azDir} {hb : szD → szR → azS → azQ → azHd → List szV} {rb : szD → szR → azS → azF → Option szV → azPo → List szV} {n : Nat} {c : azCon} {q : szM} (hq : P[c.1]? = some q) {hds ends : List azHd} {i0 : Nat} (hw : az_wf c.2.2.1.1 c.2.2.1.2.1 c.2.2.1.2.2.1) (hho : ∀ H ∈ hds, az_hok c H = true)
    (h1 : az_ex P inl c.2.1 tb c.2.2.2.2.1 pre hint (az_hleaf c hds ends none hb rb) n c.2.2.1.1 c.2.2.1.2.1 c.2.2.1.2.2.1 (az_hc c q (i0, c.2.2.1, (0, []), (0, 0))) = true) (h2 : ∀ H ∈ hds, az_ex P inl c.2.1 tb c.2.2.2.2.1 pre hint (az_hleaf c hds ends (some H.2.2.1) hb rb) n H.2.1.1 H.2.1.2.1 H.2.1.2.2.1 (az_hc c q H) = true)
    {Kb : Option (Option Value) → mzS → Prop} {ρ : Nat → Int} {h : List mzC} (hlen : h.length + 1000 * (c.2.1 + 2) < 2147483648) {s2 : Nat × Nat} {ee : Nat} (hV : az_V c.2.2.1.1 c.2.2.1.2.1 c.2.2.1.2.2.1 ρ)
    (hret : ∀ o s', az_PostH c ρ h s2 o s' → Kb o s')
    (hend : ∀ E ∈ ends, ∀ ρ', az_V E.2.1.1 E.2.1.2.1 E.2.1.2.2.1 ρ' → ((∀ k, k < c.2.2.1.2.1.length → ρ' k = ρ k) ∧ (c.2.2.1.2.2.2.2.2.2 = true → ρ' 1000000 = ρ 1000000)) → az_GG X Kb c.2.2.2.2.1 h s2 ee ρ' (az_hc c q E)) :
    az_GG X Kb c.2.2.2.2.1 h s2 ee ρ (az_hc c q (i0, c.2.2.1, (0, []), (0, 0))) := by
  have key : ∀ N : Nat, ∀ H ∈ hds, ∀ ρ', az_V H.2.1.1 H.2.1.2.1 H.2.1.2.2.1 ρ' → ((∀ k, k < c.2.2.1.2.1.length → ρ' k = ρ k) ∧ (c.2.2.1.2.2.2.2.2.2 = true → ρ' 1000000 = ρ 1000000)) → H.2.2.1.1 + sz_sum ρ' H.2.2.1.2 < (N : Int) → az_GG X Kb c.2.2.2.2.1 h s2 ee ρ' (az_hc c q H) := by
    intro N
    induction N with
    | zero =>
      intro H hHm ρ' hV' _ hr
      have := hho H hHm
      unfold az_hok at this
      simp only [Bool.and_eq_true, decide_eq_true_eq] at this
      have q1 := (sz_rs_ok hV'.2.1 H.2.2.1.2).1
      have q2 := this.2.2
      omega
    | succ N ih =>
      intro H hHm ρ' hV' hE hr
      have hok := hho H hHm
      unfold az_hok at hok
      simp only [Bool.and_eq_true, decide_eq_true_eq] at hok
      obtain ⟨⟨o1, o2⟩, o3, o4⟩ := hok
      have o2 : c.2.2.1.2.1.length ≤ H.2.1.2.1.length := Nat.le_of_ble_eq_true o2
      refine az_ex_ok hP hX hlen htb (n0 := H.2.1.2.1.length) (ρ0 := ρ') ?_ n _ _ _ _ ρ' (h2 H hHm) hV' (az_wfb_ok o1) (az_ag_refl _ _) (Nat.le_refl _)
      intro D R Cs C ρ2 hleaf hV2 hW2 hag
      have hE2 : (∀ k, k < c.2.2.1.2.1.length → ρ2 k = ρ k) ∧ (c.2.2.1.2.2.2.2.2.2 = true → ρ2 1000000 = ρ 1000000) := ⟨fun k hk => by rw [hag.1 k (by omega), hE.1 k hk], fun hn => by rw [hag.2, hE.2 hn]⟩
      unfold az_hleaf az_leaf at hleaf
      rw [Bool.or_eq_true, Bool.or_eq_true] at hleaf
      rcases hleaf with (hleaf | hleaf) | hleaf
      · refine az_lhd_ok hP hq hlen hV2 hE2 (fun H' hH' ρ3 hV3 hE3 hr3 => ih H' hH' ρ3 hV3 hE3 ?_) hleaf
        have := hr3 _ rfl
        rw [az_sum_ag hag o3] at this
        omega
      · exact az_GG_mono hret (az_lret_ok hlen hV2 hE2 hleaf)
      · exact az_lhd_ok hP hq hlen hV2 hE2 (fun H hH ρ3 hV3 hE3 _ => hend H hH ρ3 hV3 hE3) hleaf
  refine az_ex_ok hP hX hlen htb (n0 := c.2.2.1.2.1.length) (ρ0 := ρ) ?_ n _ _ _ _ ρ h1 hV hw (az_ag_refl _ _) (Nat.le_refl _)
  intro D R Cs C ρ2 hleaf hV2 hW2 hag
  have hE2 : (∀ k, k < c.2.2.1.2.1.length → ρ2 k = ρ k) ∧ (c.2.2.1.2.2.2.2.2.2 = true → ρ2 1000000 = ρ 1000000) := ⟨fun k hk => hag.1 k hk, fun _ => hag.2⟩
  unfold az_hleaf az_leaf at hleaf
  rw [Bool.or_eq_true, Bool.or_eq_true] at hleaf
  rcases hleaf with (hleaf | hleaf) | hleaf
  · exact az_lhd_ok hP hq hlen hV2 hE2 (fun H' hH' ρ3 hV3 hE3 _ => key ((H'.2.2.1.1 + sz_sum ρ3 H'.2.2.1.2).toNat + 1) H' hH' ρ3 hV3 hE3 (by omega)) hleaf
  · exact az_GG_mono hret (az_lret_ok hlen hV2 hE2 hleaf)
  · exact az_lhd_ok hP hq hlen hV2 hE2 (fun H hH ρ3 hV3 hE3 _ => hend H hH ρ3 hV3 hE3) hleaf
set_option maxRecDepth 20000 in
theorem az_goH {P : List szM} (hP : sz_pkall P mzP = true) {inl : Nat → Bool} {X : List (List Value)} (hX : az_X X) {tb : List azCon} (htb : ∀ c ∈ tb, az_Valid X c) {pre hint : szD → szR → azS → azQ → Option azDir} {hb : szD → szR → azS → azQ → azHd → List szV} {rb : szD → szR → azS → azF → Option szV → azPo → List szV} {n : Nat} {c : azCon} {q : szM} (hq : P[c.1]? = some q) {hds ends : List azHd} {i0 : Nat} (hw : az_wf c.2.2.1.1 c.2.2.1.2.1 c.2.2.1.2.2.1)
    (hho : ∀ H ∈ hds, az_hok c H = true)
    (h1 : az_ex P inl c.2.1 tb c.2.2.2.2.1 pre hint (az_hleaf c hds ends none hb rb) n c.2.2.1.1 c.2.2.1.2.1 c.2.2.1.2.2.1 (az_hc c q (i0, c.2.2.1, (0, []), (0, 0))) = true) (h2 : ∀ H ∈ hds, az_ex P inl c.2.1 tb c.2.2.2.2.1 pre hint (az_hleaf c hds ends (some H.2.2.1) hb rb) n H.2.1.1 H.2.1.2.1 H.2.1.2.2.1 (az_hc c q H) = true)
    (hc0 : c.2.2.1.2.2.2.2.2 = ([], false)) (hc1 : c.2.2.2.2.2 = (0, 0)) (hes : ends.all az_eok = true)
    {Kb : Option (Option Value) → mzS → Prop} {ρ : Nat → Int} {h : List mzC} (hlen : h.length + 1000 * (c.2.1 + 2) < 2147483648) (hM : ρ 1000000 = (h.length : Int) + 4) {s2 : Nat × Nat} {d : Nat} (hd : c.2.1 ≤ d) (hV : az_V c.2.2.1.1 c.2.2.1.2.1 c.2.2.1.2.2.1 ρ) (hT : az_Tp h) (hF : az_HF ρ h false c.2.2.1.2.2.2.2.1) {lo : mzL} (hlo : az_ml lo (c.2.2.1.2.2.2.1.map (sz_v ρ)))
    (hret : ∀ p ∈ c.2.2.2.1, ∀ (ρ' : Nat → Int) (h' : List mzC) (s3 : Nat × Nat), az_V p.2.1 p.2.2.1 p.2.2.2.1 ρ' → (∀ k, k < c.2.2.1.2.1.length → ρ' k = ρ k) → az_Tp h' → az_HM c.2.2.2.2.1 h h' → az_HF ρ' h' false p.2.2.2.2 → h'.length = h.length → s3.1 ≤ s2.1 → s3.2 ≤ s2.2 → Kb (p.1.map (fun v => v.map (sz_v ρ'))) (h', s3))
    (hend : ∀ E ∈ ends, ∀ (ρ' : Nat → Int) (h' : List mzC) (s3 : Nat × Nat) (lo' : mzL), az_V E.2.1.1 E.2.1.2.1 E.2.1.2.2.1 ρ' → (∀ k, k < c.2.2.1.2.1.length → ρ' k = ρ k) → az_Tp h' → az_HM c.2.2.2.2.1 h h' → az_HF ρ' h' false E.2.1.2.2.2.2.1 → h'.length = h.length → s3.1 ≤ s2.1 → s3.2 ≤ s2.2 → az_ml lo' (E.2.1.2.2.2.1.map (sz_v ρ')) → mz_gg X Kb d c.1 E.1 lo' [] (h', s3)) :
    mz_gg X Kb d c.1 i0 lo [] (h, s2) := by
  obtain ⟨M', p1, p2, p3, p4, p5⟩ := sz_pkall_ok hP hq
  have hed : c.2.1 + (d - c.2.1) = d := by omega
  have e1 : c.2.2.1.2.2.2.2.2.1 = [] := by rw [hc0]
  have e2 : c.2.2.1.2.2.2.2.2.2 = false := by rw [hc0]
  have e3 : c.2.2.2.2.2.1 = 0 := by rw [hc1]
  have e4 : c.2.2.2.2.2.2 = 0 := by rw [hc1]
  have G := az_segH (Kb := Kb) (ee := d - c.2.1) (s2 := s2) (h := h) (i0 := i0) hP hX htb hq hw hho h1 h2 hlen hV (by
    intro o s' hp
    obtain ⟨p, hp, ρ', v1, ag, ho, HR, c1, c2⟩ := hp
    rw [e3] at c1
    rw [e4] at c2
    rw [e1, e2, e3] at HR
    subst ho
    exact hret p hp ρ' s'.1 s'.2 v1 ag.1 ⟨HR.1, HR.2.2.2.1⟩ HR.2.2.2.2.1 HR.2.2.1 (by have := HR.2.2.2.2.2; omega) (by omega) (by omega)) (by
    intro E hE ρ' v1 ag
    have hok := List.all_eq_true.mp hes E hE
    unfold az_eok at hok
    simp only [Bool.and_eq_true, Bool.not_eq_true'] at hok
    obtain ⟨⟨k1, k2, k3⟩, k4, k5⟩ := hok
    have k2 : E.2.1.2.2.2.2.2.1 = [] := List.isEmpty_iff.mp k2
    have k4 := Nat.eq_of_beq_eq_true k4
    have k5 := Nat.eq_of_beq_eq_true k5
    intro ws w hh s3 hF' hW' hH b1 b2
    obtain ⟨j', M, i', m', stM⟩ := w
    obtain ⟨F1, F2, F3, F4, F5, F6, F7⟩ := hF'
    match ws, hW' with
    | [], _ =>
    dsimp only [az_hc] at F1 F2 F3 F4 F5 F6 F7 hH b1 b2 ⊢
    subst F1; subst F5; subst F7
    rw [k2, k3, k4] at hH
    rw [k4] at b1
    rw [k5] at b2
    rw [hed]
    exact mz_gg_mono (fun o s hk => hk) (hend E hE ρ' hh s3 m' v1 ag.1 ⟨hH.1, hH.2.2.2.1⟩ hH.2.2.2.2.1 hH.2.2.1 (by have := hH.2.2.2.2.2; omega) (by omega) (by omega) (az_LR_ml k1 F6)))
  have HR : az_HR c.2.2.2.2.1 h ρ c.2.2.1.2.2.2.2.1 c.2.2.1.2.2.2.2.2.1 c.2.2.1.2.2.2.2.2.2 0 h := by
    rw [e1, e2]
    exact ⟨hT.1, ⟨(fun e => by cases e), fun _ _ => by rw [hM]; omega⟩, hF, hT.2, fun _ _ _ _ => rfl, Nat.le_refl _, Nat.le_refl _⟩
  have := G [] (c.1, M', i0, lo, []) h s2 ⟨rfl, p1, by show (q.1, q.2.2.1) = _; rw [p2, p4], p5, rfl, az_ml_LR hlo, rfl⟩ trivial HR (Nat.le_refl _) (Nat.le_refl _)
  dsimp only [az_hc] at this
  rw [hed] at this
  exact mz_gg_mono (fun o s hk => hk) this
