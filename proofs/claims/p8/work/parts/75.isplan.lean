/-! isPlan; contracts of what was proved by hand -/
set_option maxRecDepth 20000 in
theorem post_of {c : azCon} {ρ : Nat → Int} {h : List mzC} {s2 : Nat × Nat} {o : Option (Option Value)} {s' : mzS} {p : azPo} (hp : p ∈ c.2.2.2.1) (hp0 : p.2.2.2.2 = []) (hV : az_V p.2.1 p.2.2.1 p.2.2.2.1 ρ) (ho : o = p.1.map (fun v => v.map (sz_v ρ))) (h1 : c.2.2.1.2.2.2.2.2.1 = []) (h2 : c.2.2.1.2.2.2.2.2.2 = false) (h3 : c.2.2.2.2.2.1 = 0) (hH : az_HN ρ h false 0) (hT : az_Tp s'.1) (hM : az_HM c.2.2.2.2.1 h s'.1) (hl : s'.1.length = h.length) (b1 : s'.2.1 ≤ s2.1) (b2 : s'.2.2 ≤ s2.2) : az_PostH c ρ h s2 o s' := by
  refine ⟨p, hp, ρ, hV, ⟨fun _ _ => rfl, fun _ => rfl⟩, ho, ?_, by omega, by omega⟩
  rw [hp0, h1, h2, h3]
  refine ⟨hT.1, ⟨(fun e => by cases e), fun _ _ => by rw [hl]; exact hH.2 rfl rfl⟩, HF_nil _ _, hT.2, hM, by omega, by omega⟩
def gB (j dp : Nat) (mods : List (Nat × Nat)) : azCon := (j, dp, ([azf], [(1, 200)], [], [(1, 145, []), (0, 0, [(0, 1)])], [], [], false), [(some (some (0, 0, [])), [azf], [(1, 200)], [], []), (some (some (0, 1, [])), [azf], [(1, 200)], [], [])], mods, (0, 0))
set_option maxRecDepth 20000 in
/-- a method with a gap, that answers true or false -/
theorem gB_v {X : List (List Value)} {j dp : Nat} {mods : List (Nat × Nat)} (hgo : ∀ (h : List mzC) (s2 : Nat × Nat) (lo : mzL) (g : Int) (d : Nat), az_Tp h → h.length + 1000 * (dp + 2) < 2147483648 → 1 ≤ g ∧ g ≤ 200 → dp ≤ d → az_ml lo [.ref 145, iv g] → mz_gg X (fun o s' => az_Tp s'.1 ∧ az_HM mods h s'.1 ∧ s'.1.length = h.length ∧ s'.2.1 ≤ s2.1 ∧ s'.2.2 ≤ s2.2 ∧ (o = some (some (iv 0)) ∨ o = some (some (iv 1)))) d j 0 lo [] (h, s2)) : az_Valid X (gB j dp mods) := by
  intro ρ h args s2 d hV hl hH hlen hd
  have r0 : (1 : Int) ≤ ρ 0 ∧ ρ 0 ≤ 200 := hV.2.1 0
  have hm := az_LR_ml (pat := [(1, 145, []), (0, 0, [(0, 1)])]) rfl hl
  have e : ([(1, 145, []), (0, 0, [(0, 1)])] : szLo).map (sz_v ρ) = [.ref 145, iv (ρ 0)] := by
    simp only [List.map]
    rw [sz_v_ref _ (by decide), sz_v_eq (show (0 : Int) + (1 * ρ 0 + 0) = ρ 0 by omega)]
    rfl
  rw [e] at hm
  refine mz_gg_mono ?_ (hgo h s2 _ (ρ 0) d ⟨hH.1, hH.2.2.2.1⟩ hlen r0 hd hm)
  intro o s' hk
  obtain ⟨k1, k2, k3, k4, k5, ko⟩ := hk
  rcases ko with ko | ko
  · refine post_of (c := gB j dp mods) (List.Mem.head _) rfl hV ?_ rfl rfl rfl hH.2.1 k1 k2 k3 k4 k5
    rw [ko]
    show _ = some (some (sz_v ρ (0, 0, [])))
    rw [sz_v_eq (show (0 : Int) + 0 = 0 by omega)]
  · refine post_of (c := gB j dp mods) (List.Mem.tail _ (List.Mem.head _)) rfl hV ?_ rfl rfl rfl hH.2.1 k1 k2 k3 k4 k5
    rw [ko]
    show _ = some (some (sz_v ρ (0, 1, [])))
    rw [sz_v_eq (show (1 : Int) + 0 = 1 by omega)]
set_option maxRecDepth 20000 in
/-- layEarly's contract -/
theorem leB_v {X : List (List Value)} (hX : az_X X) (hB : az_Valid X bhB) : az_Valid X (gB 123 10 [(151, 0)]) := gB_v (fun h s2 lo g d hT hlen hg hd hlo => mz_gg_mono (fun o s' hk => by
  obtain ⟨k1, k2, k3, k4, k5, ko⟩ := hk
  refine ⟨k1, k2, k3, k4, k5, ?_⟩
  rcases ko with ko | ⟨ko, _⟩
  · exact Or.inl ko
  · exact Or.inr ko) (le_all hX hB hT (by omega) hg (by omega) hlo))
def ipMd : List (Nat × Nat) := [(151, 0), (152, 0), (153, 0), (141, 21)]
def ipM : mzM := (2, 12, (0, 0, 0), mzc_144)
set_option maxRecDepth 20000 in
theorem ipM_ok : mzP[144]? = some ipM := rfl
set_option maxRecDepth 20000 in
theorem leM_ok : mzP[123]? = some (7, 12, (0, 0, 0), mzc_123) := rfl
set_option maxRecDepth 20000 in
theorem llM_ok : mzP[125]? = some (8, 12, (0, 0, 0), mzc_125) := rfl
set_option maxRecDepth 20000 in
theorem ml_args2 (a b : Int) : az_ml (lv_args 0 [.ref 145, iv b]) [.ref 145, iv b] := by
  intro j v hj
  match j, hj with
  | 0, hj => cases hj; rfl
  | 1, hj => cases hj; rfl
  | j + 2, hj => simp at hj
set_option maxRecDepth 20000 in
theorem md_ip1 : ∀ c k, az_md ipMd c k = false → az_md [(151, 0)] c k = false := by
  intro c k h
  have h : az_md ([(151, 0)] ++ [(152, 0), (153, 0), (141, 21)]) c k = false := h
  unfold az_md at h ⊢
  rw [List.any_append, Bool.or_eq_false_iff] at h
  exact h.1
set_option maxRecDepth 20000 in
theorem md_ip2 : ∀ c k, az_md ipMd c k = false → az_md [(152, 0)] c k = false := by
  intro c k h
  have h : az_md ([(151, 0)] ++ ([(152, 0)] ++ [(153, 0), (141, 21)])) c k = false := h
  unfold az_md at h ⊢
  rw [List.any_append, List.any_append, Bool.or_eq_false_iff, Bool.or_eq_false_iff] at h
  exact h.2.1
set_option maxRecDepth 20000 in
theorem md_ip3 : ∀ c k, az_md ipMd c k = false → az_md poMd c k = false := by
  intro c k h
  have h : az_md ([(151, 0), (152, 0)] ++ [(153, 0), (141, 21)]) c k = false := h
  show az_md [(153, 0), (141, 21)] c k = false
  unfold az_md at h ⊢
  rw [List.any_append, Bool.or_eq_false_iff] at h
  exact h.2
set_option maxRecDepth 20000 in
/-- isPlan -/
theorem ip_all {X : List (List Value)} (hX : az_X X) (hB : az_Valid X bhB) (hR : az_Valid X hrB) (h1 : az_Valid X lbB) (h2 : az_Valid X lsB) {h : List mzC} (hT : az_Tp h) (hlen : h.length + 7000 < 2147483648) {g : Int} (hg : 1 ≤ g ∧ g ≤ 200) {d : Nat} (hd : 6 ≤ d) {s2 : Nat × Nat} {lo : mzL} (hlo : az_ml lo [.ref 145, iv g]) : mz_gg X (fun o s' => az_Tp s'.1 ∧ az_HM ipMd h s'.1 ∧ s'.1.length = h.length ∧ s'.2.1 ≤ s2.1 ∧ s'.2.2 ≤ s2.2 ∧ (o = some (some (iv 0)) ∨ o = some (some (iv 1)))) d 144 0 lo [] (h, s2) := by
  obtain ⟨d1, rfl⟩ : ∃ d1, d = d1 + 1 := ⟨d - 1, by omega⟩
  refine g_ld ipM_ok (a := 0) (b := 1) rfl (hlo 0 _ rfl) rfl (by decide) ?_
  refine g_ld ipM_ok (a := 1) (b := 0) rfl (hlo 1 _ rfl) rfl (by decide) ?_
  refine az_gg_by ipM_ok (ri := (40, 123, 2, 0, [])) rfl rfl (as := [.ref 145, iv g]) (rest := []) rfl leM_ok (by decide) (by show (2 : Nat) ≤ 7; decide) (recv_m hT.1 _ _) (K' := leK X h s2 g (hv h 142 0).toNat) (le_all hX hB hT (by omega) hg (by omega) (ml_args2 0 g)) ?_
  intro o s' hk
  obtain ⟨kT, kM, kl, k1, k2, ko⟩ := hk
  obtain ⟨h', s3⟩ := s'
  dsimp only at kT kM kl k1 k2 ko
  rcases ko with ko | ⟨ko, kal, ksat⟩
  · subst ko
    refine ⟨_, rfl, ?_⟩
    refine mz_gg_one ipM_ok (ri := (16, 1, 6, 0, [])) rfl (Or.inl (by decide)) (q := (4, lo, [])) rfl ?_
    refine mz_gg_one ipM_ok (ri := (0, 0, 0, 0, [])) rfl (Or.inl (by decide)) (q := (5, lo, [iv 0])) rfl ?_
    refine mz_gg_fin ipM_ok (ri := (42, 0, 1, 0, [])) rfl (r := (some (some (iv 0)), (h', s3))) rfl ?_
    exact ⟨kT, fun c k hc hm => kM c k hc (md_ip1 c k hm), kl, k1, k2, Or.inl rfl⟩
  · subst ko
    refine ⟨_, rfl, ?_⟩
    refine mz_gg_one ipM_ok (ri := (16, 1, 6, 0, [])) rfl (Or.inl (by decide)) (q := (6, lo, [])) rfl ?_
    refine g_ld ipM_ok (a := 0) (b := 1) rfl (hlo 0 _ rfl) rfl (by decide) ?_
    refine g_ld ipM_ok (a := 1) (b := 0) rfl (hlo 1 _ rfl) rfl (by decide) ?_
    have e142 : hv h' 142 0 = hv h 142 0 := HM_hv kM (by decide) (md_other (by decide))
    refine az_gg_by ipM_ok (ri := (40, 125, 2, 0, [])) rfl rfl (as := [.ref 145, iv g]) (rest := []) rfl llM_ok (by decide) (by show (2 : Nat) ≤ 8; decide) (recv_m kT.1 _ _) (K' := llK h' s3) (ll_all hX h1 h2 kT (by omega) hg (by omega) (ml_args2 0 g) (by rw [e142]; exact kal) (by rw [e142]; exact ksat)) ?_
    intro o s' hk2
    obtain ⟨jT, jM, jl, j1, j2, jo⟩ := hk2
    obtain ⟨h'', s4⟩ := s'
    dsimp only at jT jM jl j1 j2 jo
    subst jo
    refine ⟨_, rfl, ?_⟩
    refine g_ld ipM_ok (a := 0) (b := 1) rfl (hlo 0 _ rfl) rfl (by decide) ?_
    refine g_ld ipM_ok (a := 1) (b := 0) rfl (hlo 1 _ rfl) rfl (by decide) ?_
    refine az_gg_by ipM_ok (ri := (40, 143, 2, 0, [])) rfl rfl (as := [.ref 145, iv g]) (rest := []) rfl plM_ok (by decide) (by show (2 : Nat) ≤ 5; decide) (recv_m jT.1 _ _) (K' := plK h'' s4) (pl_all hX hB hR jT (by omega) hg (by omega) (ml_args2 0 g)) ?_
    intro o s' hk3
    obtain ⟨iT, iM, il, i1, i2, io⟩ := hk3
    obtain ⟨h3, s5⟩ := s'
    dsimp only at iT iM il i1 i2 io
    have hMall : az_HM ipMd h h3 := fun c k hc hm => by rw [iM c k hc (md_ip3 c k hm), jM c k hc (md_ip2 c k hm), kM c k hc (md_ip1 c k hm)]
    rcases io with io | io
    · subst io
      refine ⟨_, rfl, ?_⟩
      refine mz_gg_fin ipM_ok (ri := (42, 0, 1, 0, [])) rfl (r := (some (some (iv 0)), (h3, s5))) rfl ?_
      exact ⟨iT, hMall, by show h3.length = _; omega, by show s5.1 ≤ _; omega, by show s5.2 ≤ _; omega, Or.inl rfl⟩
    · subst io
      refine ⟨_, rfl, ?_⟩
      refine mz_gg_fin ipM_ok (ri := (42, 0, 1, 0, [])) rfl (r := (some (some (iv 1)), (h3, s5))) rfl ?_
      exact ⟨iT, hMall, by show h3.length = _; omega, by show s5.1 ≤ _; omega, by show s5.2 ≤ _; omega, Or.inr rfl⟩
set_option maxRecDepth 20000 in
theorem ipB_v {X : List (List Value)} (hX : az_X X) (hB : az_Valid X bhB) (hR : az_Valid X hrB) (h1 : az_Valid X lbB) (h2 : az_Valid X lsB) : az_Valid X (gB 144 10 ipMd) := gB_v (fun h s2 lo g d hT hlen hg hd hlo => ip_all hX hB hR h1 h2 hT (by omega) hg (by omega) hlo)
