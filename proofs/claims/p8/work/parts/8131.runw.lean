/-! runs that ask the leaf at sums and products within a statement, too -/
noncomputable def az_exw1 (P : List szM) (inl : Nat → Bool) (dm : Nat) (tb : List azCon) (mods : List (Nat × Nat)) (pre hint : szD → szR → azS → azQ → Option azDir) (leaf : szD → szR → azS → azQ → Bool) (ih : szD → szR → azS → azQ → Bool) (D : szD) (R : szR) (Cs : azS) (C : azQ) : Bool := match C with
  | ((j, m, code, i, lo, st), ws, F, dirty, new, uw, d) => sz_fo (sz_sl 80 code i) (fun q => sz_fo (Nat.mod q 256) (fun op => bif az_fp st ws op then (bif Nat.beq op 6 && leaf D R Cs ((j, m, code, i, lo, st), ws, F, dirty, new, uw, d) then true else az_go1 P inl dm tb mods hint ih D R Cs j m code i lo st ws F dirty new uw d q op) else bif leaf D R Cs ((j, m, code, i, lo, st), ws, F, dirty, new, uw, d) then true else (match pre D R Cs ((j, m, code, i, lo, st), ws, F, dirty, new, uw, d) with
    | some g => az_do P dm tb mods D R Cs ((j, m, code, i, lo, st), ws, F, dirty, new, uw, d) g ih
    | none => az_go1 P inl dm tb mods hint ih D R Cs j m code i lo st ws F dirty new uw d q op)))
noncomputable def az_exw (P : List szM) (inl : Nat → Bool) (dm : Nat) (tb : List azCon) (mods : List (Nat × Nat)) (pre hint : szD → szR → azS → azQ → Option azDir) (leaf : szD → szR → azS → azQ → Bool) (n : Nat) : szD → szR → azS → azQ → Bool := Nat.rec (fun _ _ _ _ => false) (fun _ ih D R Cs C => az_exw1 P inl dm tb mods pre hint leaf ih D R Cs C) n
theorem az_exw_ok {P : List szM} (hP : sz_pkall P mzP = true) {inl : Nat → Bool} {X : List (List Value)} (hX : az_X X) {Kb : Option (Option Value) → mzS → Prop} {mods : List (Nat × Nat)} {h0 : List mzC} {dm : Nat} (hlen0 : h0.length + 1000 * (dm + 2) < 2147483648) {bs : Nat × Nat} {ee : Nat} {tb : List azCon} (htb : ∀ c ∈ tb, az_Valid X c) {pre hint : szD → szR → azS → azQ → Option azDir} {leaf : szD → szR → azS → azQ → Bool} {n0 : Nat} {ρ0 : Nat → Int}
    (hleaf : ∀ D R Cs C ρ, leaf D R Cs C = true → az_V D R Cs ρ → az_wf D R Cs → az_ag n0 ρ0 ρ → n0 ≤ R.length → az_GG X Kb mods h0 bs ee ρ C) : ∀ (n : Nat) (D : szD) (R : szR) (Cs : azS) (C : azQ) (ρ : Nat → Int), az_exw P inl dm tb mods pre hint leaf n D R Cs C = true → az_V D R Cs ρ → az_wf D R Cs → az_ag n0 ρ0 ρ → n0 ≤ R.length → az_GG X Kb mods h0 bs ee ρ C
  | 0, _, _, _, _, _, h, _, _, _, _ => by cases h
  | n + 1, D, R, Cs, C, ρ, h, hV, hW, hag, hn => by
    have h : az_exw1 P inl dm tb mods pre hint leaf (az_exw P inl dm tb mods pre hint leaf n) D R Cs C = true := h
    obtain ⟨⟨j, m, code, i, lo, st⟩, ws, F, dirty, new, uw, d⟩ := C
    unfold az_exw1 at h
    dsimp only at h
    rw [sz_fo_eq, sz_fo_eq] at h
    have hdo : ∀ g, az_do P dm tb mods D R Cs ((j, m, code, i, lo, st), ws, F, dirty, new, uw, d) g (az_exw P inl dm tb mods pre hint leaf n) = true → az_GG X Kb mods h0 bs ee ρ ((j, m, code, i, lo, st), ws, F, dirty, new, uw, d) := fun g h => az_do_ok hP hlen0 htb hV hW h (fun D' R' Cs' C' ρ' hf' hV' hW' hag' hle => az_exw_ok hP hX hlen0 htb hleaf n D' R' Cs' C' ρ' hf' hV' hW' (az_ag_trans hn hag hag') (Nat.le_trans hn hle))
    have hgo : az_go1 P inl dm tb mods hint (az_exw P inl dm tb mods pre hint leaf n) D R Cs j m code i lo st ws F dirty new uw d (sz_sl 80 code i) (Nat.mod (sz_sl 80 code i) 256) = true → az_GG X Kb mods h0 bs ee ρ ((j, m, code, i, lo, st), ws, F, dirty, new, uw, d) := by
      intro h
      unfold az_go1 at h
      split at h
      · rename_i C' he
        exact az_step_ok hP hX hV he (az_exw_ok hP hX hlen0 htb hleaf n D R Cs C' ρ h hV hW hag hn)
      · split at h
        · exact hdo _ h
        · cases h
    cases hfp : az_fp st ws (Nat.mod (sz_sl 80 code i) 256) with
    | true =>
      rw [hfp] at h
      dsimp only [cond] at h
      cases hl : (Nat.beq (Nat.mod (sz_sl 80 code i) 256) 6 && leaf D R Cs ((j, m, code, i, lo, st), ws, F, dirty, new, uw, d)) with
      | true =>
        rw [Bool.and_eq_true] at hl
        exact hleaf D R Cs ((j, m, code, i, lo, st), ws, F, dirty, new, uw, d) ρ hl.2 hV hW hag hn
      | false =>
        rw [hl] at h
        dsimp only [cond] at h
        exact hgo h
    | false =>
      rw [hfp] at h
      dsimp only [cond] at h
      cases hl : leaf D R Cs ((j, m, code, i, lo, st), ws, F, dirty, new, uw, d) with
      | true => exact hleaf D R Cs ((j, m, code, i, lo, st), ws, F, dirty, new, uw, d) ρ hl hV hW hag hn
      | false =>
        rw [hl] at h
        dsimp only [cond] at h
        split at h
        · exact hdo _ h
        · exact hgo h
set_option maxRecDepth 20000 in
noncomputable def az_lvw (P : List szM) (inl : Nat → Bool) (dm : Nat) (tb : List azCon) (mods : List (Nat × Nat)) (pre hint : szD → szR → azS → azQ → Option azDir) (n : Nat) (leaf : szD → szR → azS → azQ → Bool) (rd : szD → szR → azS → azQ → (szD → szR → azS → azQ → Bool) → Bool) : Nat → szD → szR → azS → azQ → Bool
  | 0, D, R, Cs, C => leaf D R Cs C
  | k + 1, D, R, Cs, C => leaf D R Cs C || rd D R Cs C (fun D R Cs C => az_exw P inl dm tb mods pre hint (az_lvw P inl dm tb mods pre hint n leaf rd k) n D R Cs C)
set_option maxRecDepth 20000 in
theorem az_lvw_ok {P : List szM} (hP : sz_pkall P mzP = true) {inl : Nat → Bool} {X : List (List Value)} (hX : az_X X) {Kb : Option (Option Value) → mzS → Prop} {mods : List (Nat × Nat)} {h0 : List mzC} {dm : Nat} (hlen0 : h0.length + 1000 * (dm + 2) < 2147483648) {bs : Nat × Nat} {ee : Nat} {tb : List azCon} (htb : ∀ c ∈ tb, az_Valid X c) {pre hint : szD → szR → azS → azQ → Option azDir} {leaf : szD → szR → azS → azQ → Bool} {rd : szD → szR → azS → azQ → (szD → szR → azS → azQ → Bool) → Bool} {n n0 : Nat} {ρ0 : Nat → Int}
    (hleaf : ∀ D R Cs C ρ, leaf D R Cs C = true → az_V D R Cs ρ → az_wf D R Cs → az_ag n0 ρ0 ρ → n0 ≤ R.length → az_GG X Kb mods h0 bs ee ρ C)
    (hrd : ∀ D R Cs C ρ f, rd D R Cs C f = true → az_V D R Cs ρ → az_wf D R Cs → az_ag n0 ρ0 ρ → n0 ≤ R.length → (∀ D' R' Cs' C' ρ', f D' R' Cs' C' = true → az_V D' R' Cs' ρ' → az_wf D' R' Cs' → az_ag R.length ρ ρ' → R.length ≤ R'.length → az_GG X Kb mods h0 bs ee ρ' C') → az_GG X Kb mods h0 bs ee ρ C) : ∀ (k : Nat) (D : szD) (R : szR) (Cs : azS) (C : azQ) (ρ : Nat → Int), az_lvw P inl dm tb mods pre hint n leaf rd k D R Cs C = true → az_V D R Cs ρ → az_wf D R Cs → az_ag n0 ρ0 ρ → n0 ≤ R.length → az_GG X Kb mods h0 bs ee ρ C
  | 0, D, R, Cs, C, ρ, h, hV, hW, hag, hn => hleaf D R Cs C ρ h hV hW hag hn
  | k + 1, D, R, Cs, C, ρ, h, hV, hW, hag, hn => by
    have h : (leaf D R Cs C || rd D R Cs C (fun D R Cs C => az_exw P inl dm tb mods pre hint (az_lvw P inl dm tb mods pre hint n leaf rd k) n D R Cs C)) = true := h
    rw [Bool.or_eq_true] at h
    rcases h with h | h
    · exact hleaf D R Cs C ρ h hV hW hag hn
    · refine hrd D R Cs C ρ _ h hV hW hag hn ?_
      intro D' R' Cs' C' ρ' hf hV' hW' hag' hle
      refine az_exw_ok hP hX hlen0 htb (leaf := az_lvw P inl dm tb mods pre hint n leaf rd k) (n0 := n0) (ρ0 := ρ0) ?_ n D' R' Cs' C' ρ' hf hV' hW' (az_ag_trans hn hag hag') (Nat.le_trans hn hle)
      intro D2 R2 Cs2 C2 ρ2 h2 hV2 hW2 hag2 hn2
      exact az_lvw_ok hP hX hlen0 htb hleaf hrd k D2 R2 Cs2 C2 ρ2 h2 hV2 hW2 hag2 hn2
set_option maxRecDepth 20000 in
theorem az_goW {P : List szM} (hP : sz_pkall P mzP = true) {inl : Nat → Bool} {X : List (List Value)} (hX : az_X X) {tb : List azCon} (htb : ∀ c ∈ tb, az_Valid X c) {pre hint : szD → szR → azS → azQ → Option azDir} {hb : szD → szR → azS → azQ → azHd → List szV} {rb : szD → szR → azS → azF → Option szV → azPo → List szV} {rd : szD → szR → azS → azQ → (szD → szR → azS → azQ → Bool) → Bool} {n k : Nat} {c : azCon} {q : szM} (hq : P[c.1]? = some q) {ends : List azHd} {i0 : Nat} (hw : az_wf c.2.2.1.1 c.2.2.1.2.1 c.2.2.1.2.2.1)
    (h1 : az_exw P inl c.2.1 tb c.2.2.2.2.1 pre hint (az_lvw P inl c.2.1 tb c.2.2.2.2.1 pre hint n (az_leaf c ends none hb rb) rd k) n c.2.2.1.1 c.2.2.1.2.1 c.2.2.1.2.2.1 (az_hc c q (i0, c.2.2.1, (0, []), (0, 0))) = true)
    (hc0 : c.2.2.1.2.2.2.2.2 = ([], false)) (hes : ends.all az_eoS = true)
    {Kb : Option (Option Value) → mzS → Prop} {ρ : Nat → Int} {h : List mzC} (hlen : h.length + 1000 * (c.2.1 + 2) < 2147483648) (hM : ρ 1000000 = (h.length : Int) + 4) {s2 : Nat × Nat} {d : Nat} (hd : c.2.1 ≤ d) (hV : az_V c.2.2.1.1 c.2.2.1.2.1 c.2.2.1.2.2.1 ρ) (hT : az_Tp h) (hF : az_HF ρ h false c.2.2.1.2.2.2.2.1) {lo : mzL} (hlo : az_ml lo (c.2.2.1.2.2.2.1.map (sz_v ρ)))
    (hrd : ∀ D R Cs C ρ1 f, rd D R Cs C f = true → az_V D R Cs ρ1 → az_wf D R Cs → az_ag c.2.2.1.2.1.length ρ ρ1 → c.2.2.1.2.1.length ≤ R.length → (∀ D' R' Cs' C' ρ', f D' R' Cs' C' = true → az_V D' R' Cs' ρ' → az_wf D' R' Cs' → az_ag R.length ρ1 ρ' → R.length ≤ R'.length → az_GG X Kb c.2.2.2.2.1 h s2 (d - c.2.1) ρ' C') → az_GG X Kb c.2.2.2.2.1 h s2 (d - c.2.1) ρ1 C)
    (hret : ∀ p ∈ c.2.2.2.1, ∀ (ρ' : Nat → Int) (h' : List mzC) (s3 : Nat × Nat), s3.1 ≤ s2.1 + c.2.2.2.2.2.1 → s3.2 ≤ s2.2 + c.2.2.2.2.2.2 → Kb (p.1.map (fun v => v.map (sz_v ρ'))) (h', s3))
    (hend : ∀ E ∈ ends, ∀ (ρ' : Nat → Int) (h' : List mzC) (s3 : Nat × Nat) (lo' : mzL), az_V E.2.1.1 E.2.1.2.1 E.2.1.2.2.1 ρ' → (∀ k, k < c.2.2.1.2.1.length → ρ' k = ρ k) → az_Tp h' → az_HF ρ' h' false E.2.1.2.2.2.2.1 → h'.length ≤ h.length + E.2.2.2.1 → s3.1 ≤ s2.1 + E.2.2.2.1 → s3.2 ≤ s2.2 + E.2.2.2.2 → az_ml lo' (E.2.1.2.2.2.1.map (sz_v ρ')) → mz_gg X Kb d c.1 E.1 lo' [] (h', s3)) :
    mz_gg X Kb d c.1 i0 lo [] (h, s2) := by
  obtain ⟨M', p1, p2, p3, p4, p5⟩ := sz_pkall_ok hP hq
  have hed : c.2.1 + (d - c.2.1) = d := by omega
  have e1 : c.2.2.1.2.2.2.2.2.1 = [] := by rw [hc0]
  have e2 : c.2.2.1.2.2.2.2.2.2 = false := by rw [hc0]
  have hleaf : ∀ D R Cs C ρ2, az_leaf c ends none hb rb D R Cs C = true → az_V D R Cs ρ2 → az_wf D R Cs → az_ag c.2.2.1.2.1.length ρ ρ2 → c.2.2.1.2.1.length ≤ R.length → az_GG X Kb c.2.2.2.2.1 h s2 (d - c.2.1) ρ2 C := by
    intro D R Cs C ρ2 hleaf hV2 hW2 hag _
    have hE2 : (∀ k, k < c.2.2.1.2.1.length → ρ2 k = ρ k) ∧ (c.2.2.1.2.2.2.2.2.2 = true → ρ2 1000000 = ρ 1000000) := ⟨fun k hk => hag.1 k hk, fun _ => hag.2⟩
    unfold az_leaf at hleaf
    rw [Bool.or_eq_true] at hleaf
    rcases hleaf with hleaf | hleaf
    · refine az_lhd_ok hP hq hlen hV2 hE2 (fun E hE ρ' v1 ag _ => ?_) hleaf
      have hok := List.all_eq_true.mp hes E hE
      unfold az_eoS at hok
      simp only [Bool.and_eq_true, Bool.not_eq_true'] at hok
      obtain ⟨k1, k2, k3⟩ := hok
      have k2 : E.2.1.2.2.2.2.2.1 = [] := List.isEmpty_iff.mp k2
      intro ws w hh s3 hF' hW' hH b1 b2
      obtain ⟨j', M, i', m', stM⟩ := w
      obtain ⟨F1, F2, F3, F4, F5, F6, F7⟩ := hF'
      match ws, hW' with
      | [], _ =>
      dsimp only [az_hc] at F1 F2 F3 F4 F5 F6 F7 hH b1 b2 ⊢
      subst F1; subst F5; subst F7
      rw [k2, k3] at hH
      rw [hed]
      exact mz_gg_mono (fun o s hk => hk) (hend E hE ρ' hh s3 m' v1 ag.1 ⟨hH.1, hH.2.2.2.1⟩ hH.2.2.1 hH.2.2.2.2.2.2 b1 b2 (az_LR_ml k1 F6))
    · refine az_GG_mono ?_ (az_lret_ok hlen hV2 hE2 hleaf)
      intro o s' hp
      obtain ⟨p, hp, ρ', v1, ag, ho, HR, c1, c2⟩ := hp
      subst ho
      exact hret p hp ρ' s'.1 s'.2 c1 c2
  have G : az_GG X Kb c.2.2.2.2.1 h s2 (d - c.2.1) ρ (az_hc c q (i0, c.2.2.1, (0, []), (0, 0))) := by
    refine az_exw_ok hP hX hlen htb (n0 := c.2.2.1.2.1.length) (ρ0 := ρ) ?_ n _ _ _ _ ρ h1 hV hw (az_ag_refl _ _) (Nat.le_refl _)
    intro D R Cs C ρ2 h2 hV2 hW2 hag2 hn2
    exact az_lvw_ok hP hX hlen htb hleaf hrd k D R Cs C ρ2 h2 hV2 hW2 hag2 hn2
  have HR : az_HR c.2.2.2.2.1 h ρ c.2.2.1.2.2.2.2.1 c.2.2.1.2.2.2.2.2.1 c.2.2.1.2.2.2.2.2.2 0 h := by
    rw [e1, e2]
    exact ⟨hT.1, ⟨(fun e => by cases e), fun _ _ => by rw [hM]; omega⟩, hF, hT.2, fun _ _ _ _ => rfl, Nat.le_refl _, Nat.le_refl _⟩
  have := G [] (c.1, M', i0, lo, []) h s2 ⟨rfl, p1, by show (q.1, q.2.2.1) = _; rw [p2, p4], p5, rfl, az_ml_LR hlo, rfl⟩ trivial HR (Nat.le_refl _) (Nat.le_refl _)
  dsimp only [az_hc] at this
  rw [hed] at this
  exact mz_gg_mono (fun o s hk => hk) this
