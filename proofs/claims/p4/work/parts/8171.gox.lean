/-! a piece with a leaf of one's own: written by wip/C/mk817.py -/
theorem az_goX {P : List szM} (hP : sz_pkall P mzP = true) {inl : Nat → Bool} {X : List (List Value)} (hX : az_X X) {tb : List azCon} (htb : ∀ c ∈ tb, az_Valid X c) {pre hint : szD → szR → azS → azQ → Option azDir} {leaf : szD → szR → azS → azQ → Bool} {rd : szD → szR → azS → azQ → (szD → szR → azS → azQ → Bool) → Bool} {n k : Nat} {c : azCon} {q : szM} (hq : P[c.1]? = some q) {i0 : Nat} (hw : az_wf c.2.2.1.1 c.2.2.1.2.1 c.2.2.1.2.2.1)
    (h1 : az_ex P inl c.2.1 tb c.2.2.2.2.1 pre hint (az_lvx P inl c.2.1 tb c.2.2.2.2.1 pre hint n leaf rd k) n c.2.2.1.1 c.2.2.1.2.1 c.2.2.1.2.2.1 (az_hc c q (i0, c.2.2.1, (0, []), (0, 0))) = true)
    (hc0 : c.2.2.1.2.2.2.2.2 = ([], false)) 
    {Kb : Option (Option Value) → mzS → Prop} {ρ : Nat → Int} {h : List mzC} (hlen : h.length + 1000 * (c.2.1 + 2) < 2147483648) (hM : ρ 1000000 = (h.length : Int) + 4) {s2 : Nat × Nat} {d : Nat} (hd : c.2.1 ≤ d) (hV : az_V c.2.2.1.1 c.2.2.1.2.1 c.2.2.1.2.2.1 ρ) (hT : az_Tp h) (hF : az_HF ρ h false c.2.2.1.2.2.2.2.1) {lo : mzL} (hlo : az_ml lo (c.2.2.1.2.2.2.1.map (sz_v ρ)))
    (hrd : ∀ D R Cs C ρ1 f, rd D R Cs C f = true → az_V D R Cs ρ1 → az_wf D R Cs → az_ag c.2.2.1.2.1.length ρ ρ1 → c.2.2.1.2.1.length ≤ R.length → (∀ D' R' Cs' C' ρ', f D' R' Cs' C' = true → az_V D' R' Cs' ρ' → az_wf D' R' Cs' → az_ag R.length ρ1 ρ' → R.length ≤ R'.length → az_GG X Kb c.2.2.2.2.1 h s2 (d - c.2.1) ρ' C') → az_GG X Kb c.2.2.2.2.1 h s2 (d - c.2.1) ρ1 C)
    (hleaf : ∀ D R Cs C ρ2, leaf D R Cs C = true → az_V D R Cs ρ2 → az_wf D R Cs → az_ag c.2.2.1.2.1.length ρ ρ2 → c.2.2.1.2.1.length ≤ R.length → az_GG X Kb c.2.2.2.2.1 h s2 (d - c.2.1) ρ2 C) :
    mz_gg X Kb d c.1 i0 lo [] (h, s2) := by
  obtain ⟨M', p1, p2, p3, p4, p5⟩ := sz_pkall_ok hP hq
  have hed : c.2.1 + (d - c.2.1) = d := by omega
  have e1 : c.2.2.1.2.2.2.2.2.1 = [] := by rw [hc0]
  have e2 : c.2.2.1.2.2.2.2.2.2 = false := by rw [hc0]
  have G : az_GG X Kb c.2.2.2.2.1 h s2 (d - c.2.1) ρ (az_hc c q (i0, c.2.2.1, (0, []), (0, 0))) := by
    refine az_exN hP hX hlen htb (n0 := c.2.2.1.2.1.length) (ρ0 := ρ) ?_ n _ _ _ _ ρ h1 hV hw (az_ag_refl _ _) (Nat.le_refl _)
    intro D R Cs C ρ2 h2 hV2 hW2 hag2 hn2
    exact az_lvx_ok hP hX hlen htb hleaf hrd k D R Cs C ρ2 h2 hV2 hW2 hag2 hn2
  have HR : az_HR c.2.2.2.2.1 h ρ c.2.2.1.2.2.2.2.1 c.2.2.1.2.2.2.2.2.1 c.2.2.1.2.2.2.2.2.2 0 h := by
    rw [e1, e2]
    exact ⟨hT.1, ⟨(fun e => by cases e), fun _ _ => by rw [hM]; omega⟩, hF, hT.2, fun _ _ _ _ => rfl, Nat.le_refl _, Nat.le_refl _⟩
  have := G [] (c.1, M', i0, lo, []) h s2 ⟨rfl, p1, by show (q.1, q.2.2.1) = _; rw [p2, p4], p5, rfl, az_ml_LR hlo, rfl⟩ trivial HR (Nat.le_refl _) (Nat.le_refl _)
  dsimp only [az_hc] at this
  rw [hed] at this
  exact mz_gg_mono (fun o s hk => hk) this
