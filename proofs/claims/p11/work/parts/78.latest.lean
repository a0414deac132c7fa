/-! latest -/
def trB : azCon := (71, 1, ([], [], [], [(1, 145, []), (1, 156, [])], [], [], false), [(some none, [azf], [(0, 10)], [], [(141, (4, []), (0, 0, [(0, 1)]))])], [(141, 5), (144, 0)], (0, 0))
def ltQ : szM := (4, 12, (0, 0, 0), szc_132)
set_option maxRecDepth 20000 in
theorem ltQ_ok : szP[132]? = some ltQ := rfl
def ltM : mzM := (4, 12, (0, 0, 0), mzc_132)
set_option maxRecDepth 20000 in
theorem ltM_ok : mzP[132]? = some ltM := rfl
def ltC0 : azCon := (132, 4, ([azf], [((-2147483648), 2147483647)], [], [(1, 145, []), (0, 0, [(0, 1)])], [], [], false), [(some (some (0, (-1), [])), [azf], [((-2147483648), 2147483647)], [], [])], [(141, 6)], (0, 0))
def ltE0 : azHd := (10, ([azf], [(1, 60)], [], [(1, 145, []), (0, 0, [(0, 1)])], [], [], false), (0, []), (0, 0))
theorem ltR0 : az_ex szP az_inl ltC0.2.1 [] ltC0.2.2.2.2.1 (fun _ => az_pre 132 []) (az_hint []) (az_sleaf szP az_inl [] (fun _ => az_pre 132 []) (az_hint []) ltC0 [ltE0] (az_hb 1) (az_rb 1) none 0) 1000 ltC0.2.2.1.1 ltC0.2.2.1.2.1 ltC0.2.2.1.2.2.1 (az_hc ltC0 ltQ (0, ltC0.2.2.1, (0, []), (0, 0))) = true := by decide +kernel
def ltC1 : azCon := (132, 4, ([azf], [(1, 60)], [], [(1, 145, []), (0, 0, [(0, 1)])], [], [], false), [(some (some (0, 0, [(1, 1)])), [azf, azf], [(1, 60), (0, 10)], [], [])], [(141, 5), (144, 0)], (0, 0))
def ltH1 : azHd := (23, ([azf, azf, azf], [(1, 60), (0, 10), (0, 10)], [(0, [(1, (-1)), (2, 1)])], [(1, 145, []), (0, 0, [(0, 1)]), (0, 0, [(1, 1)]), (0, 0, [(2, 1)])], [], [], false), (11, [(2, (-1))]), (0, 0))
theorem ltR1a : az_ex szP az_inl ltC1.2.1 [trB] ltC1.2.2.2.2.1 (fun _ => az_pre 132 []) (az_hint [trB]) (az_hleaf ltC1 [ltH1] [] none (az_hb 1) (az_rb 1)) 2000 ltC1.2.2.1.1 ltC1.2.2.1.2.1 ltC1.2.2.1.2.2.1 (az_hc ltC1 ltQ (19, ltC1.2.2.1, (0, []), (0, 0))) = true := by decide +kernel
theorem ltR1b : az_ex szP az_inl ltC1.2.1 [trB] ltC1.2.2.2.2.1 (fun _ => az_pre 132 []) (az_hint [trB]) (az_hleaf ltC1 [ltH1] [] (some ltH1.2.2.1) (az_hb 1) (az_rb 1)) 2000 ltH1.2.1.1 ltH1.2.1.2.1 ltH1.2.1.2.2.1 (az_hc ltC1 ltQ ltH1) = true := by decide +kernel
theorem ltH1_ok : az_hok ltC1 ltH1 = true := by decide +kernel
def ltMd : List (Nat × Nat) := [(141, 5), (141, 6), (144, 0), (151, 0), (152, 0)]
set_option maxRecDepth 20000 in
theorem md_app {m1 m2 : List (Nat × Nat)} {c k : Nat} : az_md (m1 ++ m2) c k = (az_md m1 c k || az_md m2 c k) := by
  unfold az_md
  rw [List.any_append]
set_option maxRecDepth 20000 in
theorem md_lt : ∀ c k, az_md ltMd c k = false → az_md [(141, 6)] c k = false ∧ az_md [(151, 0)] c k = false ∧ az_md [(152, 0)] c k = false ∧ az_md [(141, 5), (144, 0)] c k = false := by
  intro c k h
  have h : az_md ([(141, 5)] ++ ([(141, 6)] ++ ([(144, 0)] ++ ([(151, 0)] ++ [(152, 0)])))) c k = false := h
  rw [md_app, md_app, md_app, md_app, Bool.or_eq_false_iff, Bool.or_eq_false_iff, Bool.or_eq_false_iff, Bool.or_eq_false_iff] at h
  refine ⟨h.2.1, h.2.2.2.1, h.2.2.2.2, ?_⟩
  show az_md ([(141, 5)] ++ [(144, 0)]) c k = false
  rw [md_app, h.1, h.2.2.1]
  rfl
def ltK (h0 : List mzC) (s0 : Nat × Nat) (o : Option (Option Value)) (s' : mzS) : Prop := az_Tp s'.1 ∧ az_HM ltMd h0 s'.1 ∧ s'.1.length = h0.length ∧ s'.2.1 ≤ s0.1 ∧ s'.2.2 ≤ s0.2 ∧ ∃ v, -2 ≤ v ∧ v ≤ 10 ∧ o = some (some (iv v))
set_option maxRecDepth 20000 in
/-- the first two locals -/
theorem ml2e {ρ : Nat → Int} {c1 x1 : Int} {t1 : szT} (e1 : c1 + sz_sum ρ t1 = x1) : ([(1, 145, []), (0, c1, t1)] : szLo).map (sz_v ρ) = [.ref 145, iv x1] := by
  simp only [List.map]
  rw [sz_v_ref _ (by decide), sz_v_eq e1]
  rfl
set_option maxRecDepth 20000 in
theorem ml2 {lo : mzL} {ρ : Nat → Int} {c1 x1 : Int} {t1 : szT} (h : az_ml lo (([(1, 145, []), (0, c1, t1)] : szLo).map (sz_v ρ))) (e1 : c1 + sz_sum ρ t1 = x1) : az_ml lo [.ref 145, iv x1] := by
  rw [ml2e e1] at h
  exact h
set_option maxRecDepth 20000 in
theorem ml2r {lo : mzL} {ρ : Nat → Int} {c1 x1 : Int} {t1 : szT} (h : az_ml lo [.ref 145, iv x1]) (e1 : c1 + sz_sum ρ t1 = x1) : az_ml lo (([(1, 145, []), (0, c1, t1)] : szLo).map (sz_v ρ)) := by
  rw [ml2e e1]
  exact h
set_option maxRecDepth 20000 in
theorem lt_all {X : List (List Value)} (hX : az_X X) (hB : az_Valid X bhB) (h1 : az_Valid X lbB) (h2 : az_Valid X lsB) (h3 : az_Valid X trB) {h : List mzC} (hT : az_Tp h) (hlen : h.length + 7000 < 2147483648) {g : Int} (hg : -2147483648 ≤ g ∧ g ≤ 2147483647) {d : Nat} (hd : 6 ≤ d) {s2 : Nat × Nat} {lo : mzL} (hlo : az_ml lo [.ref 145, iv g]) : mz_gg X (ltK h s2) d 132 0 lo [] (h, s2) := by
  obtain ⟨d1, rfl⟩ : ∃ d1, d = d1 + 1 := ⟨d - 1, by omega⟩
  refine az_go (c := ltC0) (ends := [ltE0]) (i0 := 0) (ρ := rho [g] ((h.length : Int) + 4)) sz_pkall_szP hX (tb := []) (fun c hc => by cases hc) ltQ_ok (az_wfc_ok rfl) ltR0 rfl rfl rfl (by show h.length + 1000 * (4 + 2) < 2147483648; omega) rfl (by show 4 ≤ d1 + 1; omega) ?_ hT (HF_nil _ _) ?_ (fun k hk => by cases hk) ?_ ?_
  · exact rho_V (rho_free rfl _) (show rin [((-2147483648), 2147483647)] [g] from by simp only [rin, and_true]; omega) rfl (by omega) (by decide) trivial
  · exact ml2r hlo (show (0 : Int) + (1 * g + 0) = g by omega)
  · intro p hp ρ' h' s3 w1 ag hT' hM' hF' hl' b1 b2
    have hp := List.mem_singleton.mp hp
    subst hp
    refine ⟨hT', fun c k hc hm => hM' c k hc (md_lt c k hm).1, hl', b1, b2, -1, by decide, by decide, ?_⟩
    show some (some (sz_v ρ' (0, (-1), []))) = _
    rw [sz_v_eq (show (-1 : Int) + 0 = -1 by omega)]
  · intro E hE ρ' h' s3 lo' w1 ag hT' hM' hF' hl' b1 b2 hml
    have ee := List.mem_singleton.mp hE
    subst ee
    have a0 : ρ' 0 = g := ag 0 (by decide)
    have r0 : (1 : Int) ≤ ρ' 0 ∧ ρ' 0 ≤ 60 := w1.2.1 0
    have hlo2 := ml2 hml (show (0 : Int) + (1 * ρ' 0 + 0) = g by omega)
    have hg2 : 1 ≤ g ∧ g ≤ 200 := by omega
    refine g_ld ltM_ok (a := 0) (b := 1) rfl (hlo2 0 _ rfl) rfl (by decide) ?_
    refine g_ld ltM_ok (a := 1) (b := 0) rfl (hlo2 1 _ rfl) rfl (by decide) ?_
    refine az_gg_by ltM_ok (ri := (40, 123, 2, 0, [])) rfl rfl (as := [.ref 145, iv g]) (rest := []) rfl leM_ok (by decide) (by show (2 : Nat) ≤ 7; decide) (recv_m hT'.1 _ _) (K' := leK X h' s3 g (hv h' 142 0).toNat) (le_all hX hB hT' (by omega) hg2 (by omega) (ml_args2 0 g)) ?_
    intro o s' hk
    obtain ⟨kT, kM, kl, k1, k2, ko⟩ := hk
    obtain ⟨h4, s4⟩ := s'
    dsimp only at kT kM kl k1 k2 ko
    rcases ko with ko | ⟨ko, kal, ksat⟩
    · subst ko
      refine ⟨_, rfl, ?_⟩
      refine mz_gg_one ltM_ok (ri := (16, 1, 16, 0, [])) rfl (Or.inl (by decide)) (q := (14, lo', [])) rfl ?_
      refine mz_gg_one ltM_ok (ri := (0, 0, 0, (-2), [])) rfl (Or.inl (by decide)) (q := (15, lo', [iv (-2)])) rfl ?_
      refine mz_gg_fin ltM_ok (ri := (42, 0, 0, 0, [])) rfl (r := (some (some (iv (-2))), (h4, s4))) rfl ?_
      exact ⟨kT, fun c k hc hm => by rw [kM c k hc (md_lt c k hm).2.1, hM' c k hc (md_lt c k hm).1], by show h4.length = _; omega, by show s4.1 ≤ _; omega, by show s4.2 ≤ _; omega, -2, by decide, by decide, rfl⟩
    · subst ko
      refine ⟨_, rfl, ?_⟩
      refine mz_gg_one ltM_ok (ri := (16, 1, 16, 0, [])) rfl (Or.inl (by decide)) (q := (16, lo', [])) rfl ?_
      refine g_ld ltM_ok (a := 0) (b := 1) rfl (hlo2 0 _ rfl) rfl (by decide) ?_
      refine g_ld ltM_ok (a := 1) (b := 0) rfl (hlo2 1 _ rfl) rfl (by decide) ?_
      have e142 : hv h4 142 0 = hv h' 142 0 := HM_hv kM (by decide) (md_other (by decide))
      refine az_gg_by ltM_ok (ri := (40, 125, 2, 0, [])) rfl rfl (as := [.ref 145, iv g]) (rest := []) rfl llM_ok (by decide) (by show (2 : Nat) ≤ 8; decide) (recv_m kT.1 _ _) (K' := llK h4 s4) (ll_all hX h1 h2 kT (by omega) hg2 (by omega) (ml_args2 0 g) (by rw [e142]; exact kal) (by rw [e142]; exact ksat)) ?_
      intro o s' hk2
      obtain ⟨jT, jM, jl, j1, j2, jo⟩ := hk2
      obtain ⟨h5, s5⟩ := s'
      dsimp only at jT jM jl j1 j2 jo
      subst jo
      refine ⟨_, rfl, ?_⟩
      show mz_gg X (ltK h s2) (d1 + 1) 132 19 lo' [] (h5, s5)
      refine az_goH (c := ltC1) (hds := [ltH1]) (ends := []) (i0 := 19) (ρ := rho [g] ((h5.length : Int) + 4)) sz_pkall_szP hX (tb := [trB]) (List.forall_mem_cons.mpr ⟨h3, fun _ h => by cases h⟩) ltQ_ok (az_wfc_ok rfl) (List.forall_mem_cons.mpr ⟨ltH1_ok, fun _ h => by cases h⟩) ltR1a (List.forall_mem_cons.mpr ⟨ltR1b, fun _ h => by cases h⟩) rfl rfl rfl (by show h5.length + 1000 * (4 + 2) < 2147483648; omega) rfl (by show 4 ≤ d1 + 1; omega) ?_ jT (HF_nil _ _) ?_ ?_ (fun E hE => by cases hE)
      · exact rho_V (rho_free rfl _) (show rin [(1, 60)] [g] from by simp only [rin, and_true]; omega) rfl (by omega) (by decide) trivial
      · exact ml2r hlo2 (show (0 : Int) + (1 * g + 0) = g by omega)
      · intro p hp ρ3 h6 s6 w2 ag2 hT6 hM6 hF6 hl6 c1 c2
        have hp := List.mem_singleton.mp hp
        subst hp
        have r1 : (0 : Int) ≤ ρ3 1 ∧ ρ3 1 ≤ 10 := w2.2.1 1
        refine ⟨hT6, fun c k hc hm => by rw [hM6 c k hc (md_lt c k hm).2.2.2, jM c k hc (md_lt c k hm).2.2.1, kM c k hc (md_lt c k hm).2.1, hM' c k hc (md_lt c k hm).1], by show h6.length = _; omega, by show s6.1 ≤ _; omega, by show s6.2 ≤ _; omega, ρ3 1, by omega, by omega, ?_⟩
        show some (some (sz_v ρ3 (0, 0, [(1, 1)]))) = _
        rw [sz_v_eq (show (0 : Int) + (1 * ρ3 1 + 0) = ρ3 1 by omega)]
def ltB : azCon := (132, 10, ([azf], [((-2147483648), 2147483647)], [], [(1, 145, []), (0, 0, [(0, 1)])], [], [], false), [(some (some (0, 0, [(1, 1)])), [azf, azf], [((-2147483648), 2147483647), ((-2), 10)], [], [])], ltMd, (0, 0))
set_option maxRecDepth 20000 in
theorem ltB_v {X : List (List Value)} (hX : az_X X) (hB : az_Valid X bhB) (h1 : az_Valid X lbB) (h2 : az_Valid X lsB) (h3 : az_Valid X trB) : az_Valid X ltB := by
  intro ρ h args s2 d hV hl hH hlen hd
  have r0 : (-2147483648 : Int) ≤ ρ 0 ∧ ρ 0 ≤ 2147483647 := hV.2.1 0
  have hm := ml2 (az_LR_ml (pat := [(1, 145, []), (0, 0, [(0, 1)])]) rfl hl) (show (0 : Int) + (1 * ρ 0 + 0) = ρ 0 by omega)
  replace hlen : h.length + 1000 * (10 + 2) < 2147483648 := hlen
  replace hd : 10 ≤ d := hd
  refine mz_gg_mono ?_ (lt_all hX hB h1 h2 h3 ⟨hH.1, hH.2.2.2.1⟩ (by omega) r0 (d := d) (by omega) (s2 := s2) hm)
  intro o s' hk
  obtain ⟨k1, k2, k3, k4, k5, v, v1, v2, ko⟩ := hk
  subst ko
  have hR : ∀ k, (sz_at [((-2147483648), 2147483647), ((-2), 10)] k).1 ≤ az_up ρ 1 v k ∧ az_up ρ 1 v k ≤ (sz_at [((-2147483648), 2147483647), ((-2), 10)] k).2 := by
    intro k
    match k with
    | 0 => exact r0
    | 1 => exact ⟨v1, v2⟩
    | k + 2 =>
      have : az_up ρ 1 v (k + 2) = ρ (k + 2) := if_neg (by omega)
      rw [this]
      exact hV.2.2.2.2 (k + 2)
  refine ⟨_, List.Mem.head _, az_up ρ 1 v, ⟨(rho_free rfl _).1, hR, (fun f hf => by cases hf), (rho_free rfl _).2, ?_⟩, ⟨?_, fun e => by cases e⟩, ?_, ?_, by show s'.2.1 ≤ s2.1 + 0; omega, by show s'.2.2 ≤ s2.2 + 0; omega⟩
  · intro k
    by_cases e : k = 1
    · subst e
      have : az_up ρ 1 v 1 = v := if_pos rfl
      rw [this]
      omega
    · have : az_up ρ 1 v k = ρ k := if_neg e
      rw [this]
      exact hV.2.2.2.2 k
  · intro k hk
    have hk : k < 1 := hk
    exact if_neg (by omega)
  · show some (some (iv v)) = some (some (sz_v (az_up ρ 1 v) (0, 0, [(1, 1)])))
    rw [sz_v_eq (show (0 : Int) + (1 * az_up ρ 1 v 1 + 0) = v by rw [show az_up ρ 1 v 1 = v from if_pos rfl]; omega)]
  · have e : az_up ρ 1 v 1000000 = ρ 1000000 := if_neg (by decide)
    refine ⟨k1.1, ⟨(fun e => by cases e), fun _ _ => by rw [e, k3]; exact hH.2.1.2 rfl rfl⟩, HF_nil _ _, k1.2, k2, by omega, by show s'.1.length ≤ h.length + 0; omega⟩
