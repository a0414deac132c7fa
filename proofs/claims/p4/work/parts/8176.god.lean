/-! pieces and ends with dirty pairs: written by wip/C/mk8176.py -/
theorem az_goD {P : List szM} (hP : sz_pkall P mzP = true) {inl : Nat → Bool} {X : List (List Value)} (hX : az_X X) {tb : List azCon} (htb : ∀ c ∈ tb, az_Valid X c) {pre hint : szD → szR → azS → azQ → Option azDir} {leaf : szD → szR → azS → azQ → Bool} {rd : szD → szR → azS → azQ → (szD → szR → azS → azQ → Bool) → Bool} {n k : Nat} {c : azCon} {q : szM} (hq : P[c.1]? = some q) {i0 : Nat} (hw : az_wf c.2.2.1.1 c.2.2.1.2.1 c.2.2.1.2.2.1)
    (h1 : az_ex P inl c.2.1 tb c.2.2.2.2.1 pre hint (az_lvx P inl c.2.1 tb c.2.2.2.2.1 pre hint n leaf rd k) n c.2.2.1.1 c.2.2.1.2.1 c.2.2.1.2.2.1 (az_hc c q (i0, c.2.2.1, (0, []), (0, 0))) = true)
    (hc0 : c.2.2.1.2.2.2.2.2.2 = false) 
    {Kb : Option (Option Value) → mzS → Prop} {ρ : Nat → Int} {h : List mzC} (hlen : h.length + 1000 * (c.2.1 + 2) < 2147483648) (hM : ρ 1000000 = (h.length : Int) + 4) {s2 : Nat × Nat} {d : Nat} (hd : c.2.1 ≤ d) (hV : az_V c.2.2.1.1 c.2.2.1.2.1 c.2.2.1.2.2.1 ρ) (hT : az_HT h) (hDp : az_HP h c.2.2.1.2.2.2.2.2.1) (hF : az_HF ρ h false c.2.2.1.2.2.2.2.1) {lo : mzL} (hlo : az_ml lo (c.2.2.1.2.2.2.1.map (sz_v ρ)))
    (hrd : ∀ D R Cs C ρ1 f, rd D R Cs C f = true → az_V D R Cs ρ1 → az_wf D R Cs → az_ag c.2.2.1.2.1.length ρ ρ1 → c.2.2.1.2.1.length ≤ R.length → (∀ D' R' Cs' C' ρ', f D' R' Cs' C' = true → az_V D' R' Cs' ρ' → az_wf D' R' Cs' → az_ag R.length ρ1 ρ' → R.length ≤ R'.length → az_GG X Kb c.2.2.2.2.1 h s2 (d - c.2.1) ρ' C') → az_GG X Kb c.2.2.2.2.1 h s2 (d - c.2.1) ρ1 C)
    (hleaf : ∀ D R Cs C ρ2, leaf D R Cs C = true → az_V D R Cs ρ2 → az_wf D R Cs → az_ag c.2.2.1.2.1.length ρ ρ2 → c.2.2.1.2.1.length ≤ R.length → az_GG X Kb c.2.2.2.2.1 h s2 (d - c.2.1) ρ2 C) :
    mz_gg X Kb d c.1 i0 lo [] (h, s2) := by
  obtain ⟨M', p1, p2, p3, p4, p5⟩ := sz_pkall_ok hP hq
  have hed : c.2.1 + (d - c.2.1) = d := by omega
  have e2 : c.2.2.1.2.2.2.2.2.2 = false := hc0
  have G : az_GG X Kb c.2.2.2.2.1 h s2 (d - c.2.1) ρ (az_hc c q (i0, c.2.2.1, (0, []), (0, 0))) := by
    refine az_exN hP hX hlen htb (n0 := c.2.2.1.2.1.length) (ρ0 := ρ) ?_ n _ _ _ _ ρ h1 hV hw (az_ag_refl _ _) (Nat.le_refl _)
    intro D R Cs C ρ2 h2 hV2 hW2 hag2 hn2
    exact az_lvx_ok hP hX hlen htb hleaf hrd k D R Cs C ρ2 h2 hV2 hW2 hag2 hn2
  have HR : az_HR c.2.2.2.2.1 h ρ c.2.2.1.2.2.2.2.1 c.2.2.1.2.2.2.2.2.1 c.2.2.1.2.2.2.2.2.2 0 h := by
    rw [e2]
    exact ⟨hT, ⟨(fun e => by cases e), fun _ _ => by rw [hM]; omega⟩, hF, hDp, fun _ _ _ _ => rfl, Nat.le_refl _, Nat.le_refl _⟩
  have := G [] (c.1, M', i0, lo, []) h s2 ⟨rfl, p1, by show (q.1, q.2.2.1) = _; rw [p2, p4], p5, rfl, az_ml_LR hlo, rfl⟩ trivial HR (Nat.le_refl _) (Nat.le_refl _)
  dsimp only [az_hc] at this
  rw [hed] at this
  exact mz_gg_mono (fun o s hk => hk) this
noncomputable def az_ylD (dl : List Nat) (j0 dm : Nat) (hk : szD → szR → azS → azF → Nat → szLo → Bool) (rk : szD → szR → azS → azF → Option szV → Bool) (D : szD) (R : szR) (Cs : azS) (C : azQ) : Bool := match C with
  | ((j, _, code, i, lo, st), ws, F, dirty, new, uw, d) => (match ws with
    | _ :: _ => false
    | [] => ((Nat.beq j j0 && Nat.beq d dm) && ((dirty.all (fun i => dl.any (fun k => Nat.beq k i)) && !new) && (Nat.beq uw.1 0 && Nat.beq uw.2 0))) && ((st.isEmpty && hk D R Cs F i lo) || sz_fo (sz_sl 80 code i) (fun q => !(Nat.beq q 0) && (match az_fin R Cs (Nat.mod q 256) (sz_fa q) (sz_fb q) st uw with
      | some (some o, uw') => (Nat.beq uw'.1 0 && Nat.beq uw'.2 0) && rk D R Cs F o
      | _ => false))))
theorem az_ylD_ok {X : List (List Value)} {Kb : Option (Option Value) → mzS → Prop} {mods : List (Nat × Nat)} {h0 : List mzC} {bs : Nat × Nat} {ee : Nat} {dl : List Nat} {j0 dm : Nat} {hk : szD → szR → azS → azF → Nat → szLo → Bool} {rk : szD → szR → azS → azF → Option szV → Bool} {D : szD} {R : szR} {Cs : azS} {ρ : Nat → Int} (hV : az_V D R Cs ρ) {C : azQ} (h : az_ylD dl j0 dm hk rk D R Cs C = true)
    (hh : ∀ (F : azF) (i : Nat) (lo : szLo) (m : mzL) (h' : List mzC) (s3 : Nat × Nat), hk D R Cs F i lo = true → sz_LR ρ lo m → az_HT h' → az_HP h' dl → az_HM mods h0 h' → az_HF ρ h' false F → h'.length = h0.length → s3.1 ≤ bs.1 → s3.2 ≤ bs.2 → mz_gg X Kb (dm + ee) j0 i m [] (h', s3))
    (hr : ∀ (F : azF) (o : Option szV) (h' : List mzC) (s3 : Nat × Nat), rk D R Cs F o = true → az_HT h' → az_HP h' dl → az_HM mods h0 h' → az_HF ρ h' false F → h'.length = h0.length → s3.1 ≤ bs.1 → s3.2 ≤ bs.2 → Kb (some (o.map (sz_v ρ))) (h', s3)) : az_GG X Kb mods h0 bs ee ρ C := by
  obtain ⟨⟨j, m, code, i, lo, st⟩, ws, F, dirty, new, uw, d⟩ := C
  intro wsM w hh2 s2 hF hW' hH b1 b2
  obtain ⟨j', M, i', m', stM⟩ := w
  obtain ⟨F1, F2, F3, F4, F5, F6, F7⟩ := hF
  dsimp only at F1 F2 F3 F4 F5 F6 F7 hW' hH b1 b2 ⊢
  subst F1; subst F5; subst F7
  unfold az_ylD at h
  dsimp only at h
  split at h
  · cases h
  · match wsM, hW' with
    | [], _ =>
    rw [Bool.and_eq_true] at h
    obtain ⟨hA, hB⟩ := h
    simp only [Bool.and_eq_true, Bool.not_eq_true'] at hA
    obtain ⟨⟨hj, hd⟩, ⟨hdi, hn⟩, hu1, hu2⟩ := hA
    have hj := Nat.eq_of_beq_eq_true hj
    have hd := Nat.eq_of_beq_eq_true hd
    have hu1 := Nat.eq_of_beq_eq_true hu1
    have hu2 := Nat.eq_of_beq_eq_true hu2
    subst hj; subst hd; subst hn
    have hl : hh2.length = h0.length := by
      have := hH.2.2.2.2.2
      omega
    have hT : az_HT hh2 := hH.1
    have hDp : az_HP hh2 dl := by
      intro k p hp hk
      refine hH.2.2.2.1 k p hp (fun hm => hk ?_)
      obtain ⟨k', c1, c2⟩ := List.any_eq_true.mp (List.all_eq_true.mp hdi k hm)
      rw [← Nat.eq_of_beq_eq_true c2]
      exact c1
    have hM : az_HM mods h0 hh2 := hH.2.2.2.2.1
    have hFF : az_HF ρ hh2 false F := hH.2.2.1
    rw [Bool.or_eq_true] at hB
    rcases hB with hB | hB
    · rw [Bool.and_eq_true] at hB
      obtain ⟨hs, hk1⟩ := hB
      have hs : st = [] := List.isEmpty_iff.mp hs
      subst hs
      exact mz_gg_mono (fun o s hx => hx) (hh F i lo m' hh2 s2 hk1 F6 hT hDp hM hFF hl (by omega) (by omega))
    · rw [sz_fo_eq] at hB
      generalize hq : sz_sl 80 code i = q at hB
      rw [Bool.and_eq_true] at hB
      obtain ⟨hq0, hB⟩ := hB
      have hq0 : q ≠ 0 := fun e => by rw [e] at hq0; cases hq0
      obtain ⟨ri, g1, g2, g3, g4, g5⟩ := sz_pk_ok F4 (i := i) (by rw [hq]; exact hq0)
      rw [hq] at g2 g3 g4 g5
      have hri : ri = (Nat.mod q 256, sz_fa q, sz_fb q, sz_fc q, ri.2.2.2.2) := by rw [← g2, ← g3, ← g4, ← g5]
      split at hB
      · rename_i o uw' hfin
        simp only [Bool.and_eq_true] at hB
        obtain ⟨⟨u1, u2⟩, hrk⟩ := hB
        have u1 := Nat.eq_of_beq_eq_true u1
        have u2 := Nat.eq_of_beq_eq_true u2
        obtain ⟨t2, l1, l2, l3, l4, l5⟩ := az_fin_ok (c := sz_fc q) (sw := ri.2.2.2.2) (h := hh2) hV.2.1 hV.2.2.1 b1 b2 hfin
        rw [← hri] at l1
        refine mz_gg_fin F2 g1 l1 ?_
        have fin := hr F o hh2 t2 hrk hT hDp hM hFF hl (by omega) (by omega)
        exact fin
      · cases hB
/-- what a contract with one post and one atom of its own asks -/
theorem y_post1 {c : azCon} {ρ : Nat → Int} {h : List mzC} {s2 : Nat × Nat} {v : szV} {d : Nat × szV × szV} {r : Int × Int} {FP : azF} {x : Int} (hp : (some (some v), c.2.2.1.1 ++ [d], c.2.2.1.2.1 ++ [r], c.2.2.1.2.2.1, FP) ∈ c.2.2.2.1) (hc0 : c.2.2.1.2.2.2.2.2.2 = false) (hc1 : c.2.2.2.2.2 = (0, 0)) (hV : az_V c.2.2.1.1 c.2.2.1.2.1 c.2.2.1.2.2.1 ρ) (hW : az_wf c.2.2.1.1 c.2.2.1.2.1 c.2.2.1.2.2.1) (hx : r.1 ≤ x ∧ x ≤ r.2) (hxb : -2147483648 ≤ x ∧ x ≤ 2147483647) (hd0 : d.1 = 0) (hd2 : d.2.1.2.2 = [] ∧ d.2.2.2.2 = []) (hty : d.2.1.1 ≠ 0 → ∃ τ, azTs[d.2.1.1 - 1]? = some τ ∧ ∃ p ∈ τ.2.2, p.1 ≤ x ∧ x ≤ p.2) (hn : c.2.2.1.2.1.length < 1000) (hz : (ρ 1000000).toNat = h.length + 4) {h' : List mzC} {s3 : Nat × Nat} (hT : az_HT h') (hDp : az_HP h' c.2.2.1.2.2.2.2.2.1) (hM : az_HM c.2.2.2.2.1 h h') (hF : az_HF (az_up ρ c.2.2.1.2.1.length x) h' false FP) (hl : h'.length = h.length) (b1 : s3.1 ≤ s2.1) (b2 : s3.2 ≤ s2.2) {o : Option (Option Value)} (ho : o = some (some (sz_v (az_up ρ c.2.2.1.2.1.length x) v))) : az_PostH c ρ h s2 o (h', s3) := by
  have e2 : c.2.2.1.2.2.2.2.2.2 = false := hc0
  have e3 : c.2.2.2.2.2.1 = 0 := by rw [hc1]
  have e4 : c.2.2.2.2.2.2 = 0 := by rw [hc1]
  obtain ⟨K1, K2, K3⟩ := az_fresh (d := d) (p := r) (x := x) hV hW (by omega) hxb hx (by rw [hd2.1]; rfl) (by rw [hd2.2]; rfl) (fun e => absurd hd0 e) (fun _ e => hty e)
  refine ⟨_, hp, az_up ρ _ x, K1, ⟨K3.1, fun _ => K3.2⟩, ho, ?_, by rw [e3]; exact b1, by rw [e4]; exact b2⟩
  rw [e2, e3]
  exact ⟨hT, ⟨(fun e => by cases e), fun _ _ => by rw [K3.2, hz, hl]⟩, hF, hDp, hM, by rw [hl]; exact Nat.le_refl _, by rw [hl]; exact Nat.le_refl _⟩
