/-! the law's loop: pieces that read the script, and its length -/
noncomputable def az_rlen (D : szD) (R : szR) (Cs : azS) (C : azQ) (f : szD → szR → azS → azQ → Bool) : Bool := match C with
  | ((j, m, code, i, lo, st), ws, F, dirty, new, uw, d) => (match st with
    | r :: rest => sz_fo (sz_sl 80 code i) (fun q => (!(Nat.beq q 0) && (Nat.beq (Nat.mod q 256) 24 && (Nat.beq r.1 1 && decide (r.2.1 = 0)))) && sz_fo (i + 1) (fun i => f D R Cs ((j, m, code, i, lo, (0, 0, [(0, 1)]) :: rest), ws, F, dirty, new, uw, d)))
    | _ => false)
set_option maxRecDepth 20000 in
theorem az_rlen_ok {X : List (List Value)} {L : Int} (hS : az_scr X L) {Kb : Option (Option Value) → mzS → Prop} {mods : List (Nat × Nat)} {h0 : List mzC} {bs : Nat × Nat} {ee : Nat} {D : szD} {R : szR} {Cs : azS} {ρ : Nat → Int} (h00 : ρ 0 = L) (hV : az_V D R Cs ρ) (hW : az_wf D R Cs) {C : azQ} {f : szD → szR → azS → azQ → Bool} (h : az_rlen D R Cs C f = true)
    (hf : ∀ D' R' Cs' C' ρ', f D' R' Cs' C' = true → az_V D' R' Cs' ρ' → az_wf D' R' Cs' → az_ag R.length ρ ρ' → R.length ≤ R'.length → az_GG X Kb mods h0 bs ee ρ' C') : az_GG X Kb mods h0 bs ee ρ C := by
  obtain ⟨⟨j, m, code, i, lo, st⟩, ws, F, dirty, new, uw, d⟩ := C
  intro wsM w hh s2 hF hW' hH b1 b2
  obtain ⟨j', M, i', m', stM⟩ := w
  obtain ⟨F1, F2, F3, F4, F5, F6, F7⟩ := hF
  dsimp only at F1 F2 F3 F4 F5 F6 F7 hW' hH b1 b2 ⊢
  subst F1; subst F5; subst F7
  unfold az_rlen at h
  dsimp only at h
  split at h
  · rename_i r rest
    rw [sz_fo_eq] at h
    generalize hq : sz_sl 80 code i = q at h
    rw [Bool.and_eq_true, sz_fo_eq] at h
    obtain ⟨h1, h3⟩ := h
    simp only [Bool.and_eq_true, decide_eq_true_eq] at h1
    obtain ⟨hq0, ho, hr1, hr0⟩ := h1
    have hq0 : q ≠ 0 := fun e => by rw [e] at hq0; cases hq0
    have ho := Nat.eq_of_beq_eq_true ho
    have hr1 := Nat.eq_of_beq_eq_true hr1
    obtain ⟨ri, g1, g2, g3, g4, g5⟩ := sz_pk_ok F4 (i := i) (by rw [hq]; exact hq0)
    rw [hq] at g2 g3 g4 g5
    obtain ⟨fs, x0, xl, xi⟩ := hS
    have hr : sz_v ρ r = .ref 0 := by
      rw [sz_v1 hr1, hr0]
      rfl
    have hheap : mz_heap X ri ((r :: rest).map (sz_v ρ)) (hh, s2) = some (.int (Int32.ofNat fs.length) :: rest.map (sz_v ρ), (hh, s2)) := by
      have : mz_heap X ri ((r :: rest).map (sz_v ρ)) (hh, s2) = mz_h24 X ((r :: rest).map (sz_v ρ)) (hh, s2) := by
        unfold mz_heap
        rw [g2, ho]
        rfl
      rw [this, List.map_cons, hr]
      unfold mz_h24
      dsimp only
      rw [if_pos (by decide), x0]
    refine mz_gg_heap F2 g1 hheap ?_
    have hfin := hf D R Cs _ ρ h3 hV hW (az_ag_refl _ _) (Nat.le_refl _) wsM (j, M, i + 1, m', .int (Int32.ofNat fs.length) :: rest.map (sz_v ρ)) hh s2 ⟨rfl, F2, F3, F4, rfl, F6, ?_⟩ hW' hH b1 b2
    · exact hfin
    · show Value.int (Int32.ofNat fs.length) :: rest.map (sz_v ρ) = sz_v ρ (0, 0, [(0, 1)]) :: rest.map (sz_v ρ)
      have e : sz_v ρ (0, 0, [(0, 1)]) = .int (Int32.ofNat fs.length) := by
        rw [sz_v_iv]
        show iv ((0 : Int) + (1 * ρ 0 + 0)) = _
        rw [h00, ← xl, show (0 : Int) + (1 * (fs.length : Int) + 0) = (fs.length : Int) by omega]
        rfl
      rw [e]
  · cases h
/-- the slot behind the round's first: atom 2 -/
noncomputable def az_rkn (D : szD) (R : szR) (Cs : azS) (C : azQ) (f : szD → szR → azS → azQ → Bool) : Bool := match C with
  | ((j, m, code, i, lo, st), ws, F, dirty, new, uw, d) => (match st with
    | y :: r :: rest => sz_fo (sz_sl 80 code i) (fun q => (!(Nat.beq q 0) && ((Nat.beq (Nat.mod q 256) 22 && Nat.beq (sz_fa q) 0) && (Nat.beq y.1 0 && (Nat.beq r.1 1 && decide (r.2.1 = 0))))) && ((decide (y.2.1 = 1) && decide (y.2.2 = [(1, 1)])) && sz_fo (i + 1) (fun i => f D R Cs ((j, m, code, i, lo, (0, 0, [(2, 1)]) :: rest), ws, F, dirty, new, uw, d))))
    | _ => false)
set_option maxRecDepth 20000 in
theorem az_rkn_ok {X : List (List Value)} {L : Int} (hS : az_scr X L) {Kb : Option (Option Value) → mzS → Prop} {mods : List (Nat × Nat)} {h0 : List mzC} {bs : Nat × Nat} {ee : Nat} {D : szD} {R : szR} {Cs : azS} {ρ : Nat → Int} {x : Int32} (hx0 : 0 ≤ ρ 1) (hxm : ρ 1 + 1 < L) (hLm : L < 2147483648) (hx2 : ρ 2 = x.toInt) (hx : ∀ fs, X[0]? = some fs → fs[(ρ 1 + 1).toNat]? = some (.int x)) (hV : az_V D R Cs ρ) (hW : az_wf D R Cs) {C : azQ} {f : szD → szR → azS → azQ → Bool} (h : az_rkn D R Cs C f = true)
    (hf : ∀ D' R' Cs' C' ρ', f D' R' Cs' C' = true → az_V D' R' Cs' ρ' → az_wf D' R' Cs' → az_ag R.length ρ ρ' → R.length ≤ R'.length → az_GG X Kb mods h0 bs ee ρ' C') : az_GG X Kb mods h0 bs ee ρ C := by
  obtain ⟨⟨j, m, code, i, lo, st⟩, ws, F, dirty, new, uw, d⟩ := C
  intro wsM w hh s2 hF hW' hH b1 b2
  obtain ⟨j', M, i', m', stM⟩ := w
  obtain ⟨F1, F2, F3, F4, F5, F6, F7⟩ := hF
  dsimp only at F1 F2 F3 F4 F5 F6 F7 hW' hH b1 b2 ⊢
  subst F1; subst F5; subst F7
  unfold az_rkn at h
  dsimp only at h
  split at h
  · rename_i y r rest
    rw [sz_fo_eq] at h
    generalize hq : sz_sl 80 code i = q at h
    rw [Bool.and_eq_true] at h
    obtain ⟨h1, h23⟩ := h
    rw [Bool.and_eq_true, sz_fo_eq] at h23
    obtain ⟨h2, h3⟩ := h23
    simp only [Bool.and_eq_true, decide_eq_true_eq] at h1 h2
    obtain ⟨hq0, ⟨ho, ha⟩, hy, hr1, hr0⟩ := h1
    obtain ⟨y1, y2⟩ := h2
    have hq0 : q ≠ 0 := fun e => by rw [e] at hq0; cases hq0
    have ho := Nat.eq_of_beq_eq_true ho
    have ha := Nat.eq_of_beq_eq_true ha
    have hy := Nat.eq_of_beq_eq_true hy
    have hr1 := Nat.eq_of_beq_eq_true hr1
    obtain ⟨ri, g1, g2, g3, g4, g5⟩ := sz_pk_ok F4 (i := i) (by rw [hq]; exact hq0)
    rw [hq] at g2 g3 g4 g5
    obtain ⟨fs, x0, xl, xi⟩ := hS
    have hxx := hx fs x0
    have hr : sz_v ρ r = .ref 0 := by
      rw [sz_v1 hr1, hr0]
      rfl
    have hyv : (sz_i ρ y).toInt = ρ 1 + 1 := by
      obtain ⟨yg, yc, yt⟩ := y
      dsimp only at y1 y2 hy
      subst y1; subst y2
      show (Int32.ofInt ((1 : Int) + (1 * ρ 1 + 0))).toInt = ρ 1 + 1
      rw [sz_toInt, sz_w_id (by omega) (by omega)]
      omega
    have hcl : (sz_i ρ y).toNatClampNeg = (sz_i ρ y).toInt.toNat := rfl
    have hin : mz_in (sz_i ρ y) fs = some (.int x) := by
      unfold mz_in
      rw [if_neg (by rw [Int32.lt_iff_toInt_lt]; show ¬ (sz_i ρ y).toInt < 0; omega), hcl, hyv, hxx]
    have hheap : mz_heap X ri ((y :: r :: rest).map (sz_v ρ)) (hh, s2) = some (.int x :: rest.map (sz_v ρ), (hh, s2)) := by
      have : mz_heap X ri ((y :: r :: rest).map (sz_v ρ)) (hh, s2) = mz_h22 X ri.2.1 ((y :: r :: rest).map (sz_v ρ)) (hh, s2) := by
        unfold mz_heap
        rw [g2, ho]
        rfl
      rw [this, List.map_cons, List.map_cons, sz_vi hy, hr]
      unfold mz_h22
      dsimp only
      rw [if_pos (by decide), x0]
      dsimp only
      rw [if_pos (g3.trans ha), hin]
    refine mz_gg_heap F2 g1 hheap ?_
    have hfin := hf D R Cs _ ρ h3 hV hW (az_ag_refl _ _) (Nat.le_refl _) wsM (j, M, i + 1, m', .int x :: rest.map (sz_v ρ)) hh s2 ⟨rfl, F2, F3, F4, rfl, F6, ?_⟩ hW' hH b1 b2
    · exact hfin
    · show Value.int x :: rest.map (sz_v ρ) = sz_v ρ (0, 0, [(2, 1)]) :: rest.map (sz_v ρ)
      have e : sz_v ρ (0, 0, [(2, 1)]) = .int x := by
        rw [sz_v_iv]
        show iv ((0 : Int) + (1 * ρ 2 + 0)) = _
        rw [hx2, show (0 : Int) + (1 * x.toInt + 0) = x.toInt by omega]
        unfold iv
        rw [Int32.ofInt_toInt]
      rw [e]
  · cases h
/-- leaves that may use a rule so many times -/
noncomputable def az_lvx (P : List szM) (inl : Nat → Bool) (dm : Nat) (tb : List azCon) (mods : List (Nat × Nat)) (pre hint : szD → szR → azS → azQ → Option azDir) (n : Nat) (leaf : szD → szR → azS → azQ → Bool) (rd : szD → szR → azS → azQ → (szD → szR → azS → azQ → Bool) → Bool) : Nat → szD → szR → azS → azQ → Bool
  | 0, D, R, Cs, C => leaf D R Cs C
  | k + 1, D, R, Cs, C => leaf D R Cs C || rd D R Cs C (fun D R Cs C => az_ex P inl dm tb mods pre hint (az_lvx P inl dm tb mods pre hint n leaf rd k) n D R Cs C)
set_option maxRecDepth 20000 in
theorem az_lvx_ok {P : List szM} (hP : sz_pkall P mzP = true) {inl : Nat → Bool} {X : List (List Value)} (hX : az_X X) {Kb : Option (Option Value) → mzS → Prop} {mods : List (Nat × Nat)} {h0 : List mzC} {dm : Nat} (hlen0 : h0.length + 1000 * (dm + 2) < 2147483648) {bs : Nat × Nat} {ee : Nat} {tb : List azCon} (htb : ∀ c ∈ tb, az_Valid X c) {pre hint : szD → szR → azS → azQ → Option azDir} {leaf : szD → szR → azS → azQ → Bool} {rd : szD → szR → azS → azQ → (szD → szR → azS → azQ → Bool) → Bool} {n n0 : Nat} {ρ0 : Nat → Int}
    (hleaf : ∀ D R Cs C ρ, leaf D R Cs C = true → az_V D R Cs ρ → az_wf D R Cs → az_ag n0 ρ0 ρ → n0 ≤ R.length → az_GG X Kb mods h0 bs ee ρ C)
    (hrd : ∀ D R Cs C ρ f, rd D R Cs C f = true → az_V D R Cs ρ → az_wf D R Cs → az_ag n0 ρ0 ρ → n0 ≤ R.length → (∀ D' R' Cs' C' ρ', f D' R' Cs' C' = true → az_V D' R' Cs' ρ' → az_wf D' R' Cs' → az_ag R.length ρ ρ' → R.length ≤ R'.length → az_GG X Kb mods h0 bs ee ρ' C') → az_GG X Kb mods h0 bs ee ρ C) : ∀ (k : Nat) (D : szD) (R : szR) (Cs : azS) (C : azQ) (ρ : Nat → Int), az_lvx P inl dm tb mods pre hint n leaf rd k D R Cs C = true → az_V D R Cs ρ → az_wf D R Cs → az_ag n0 ρ0 ρ → n0 ≤ R.length → az_GG X Kb mods h0 bs ee ρ C
  | 0, D, R, Cs, C, ρ, h, hV, hW, hag, hn => hleaf D R Cs C ρ h hV hW hag hn
  | k + 1, D, R, Cs, C, ρ, h, hV, hW, hag, hn => by
    have h : (leaf D R Cs C || rd D R Cs C (fun D R Cs C => az_ex P inl dm tb mods pre hint (az_lvx P inl dm tb mods pre hint n leaf rd k) n D R Cs C)) = true := h
    rw [Bool.or_eq_true] at h
    rcases h with h | h
    · exact hleaf D R Cs C ρ h hV hW hag hn
    · refine hrd D R Cs C ρ _ h hV hW hag hn ?_
      intro D' R' Cs' C' ρ' hf hV' hW' hag' hle
      refine az_exN hP hX hlen0 htb (leaf := az_lvx P inl dm tb mods pre hint n leaf rd k) (n0 := n0) (ρ0 := ρ0) ?_ n D' R' Cs' C' ρ' hf hV' hW' (az_ag_trans hn hag hag') (Nat.le_trans hn hle)
      intro D2 R2 Cs2 C2 ρ2 h2 hV2 hW2 hag2 hn2
      exact az_lvx_ok hP hX hlen0 htb hleaf hrd k D2 R2 Cs2 C2 ρ2 h2 hV2 hW2 hag2 hn2
/-- an end of a piece of the law: no dirty pair, no new cell at hand, all its locals are known -/
def az_eoS (E : azHd) : Bool := E.2.1.2.2.2.1.all (fun v => Nat.blt v.1 9) && (E.2.1.2.2.2.2.2.1.isEmpty && !E.2.1.2.2.2.2.2.2)
set_option maxRecDepth 20000 in
theorem az_goS {P : List szM} (hP : sz_pkall P mzP = true) {inl : Nat → Bool} {X : List (List Value)} (hX : az_X X) {tb : List azCon} (htb : ∀ c ∈ tb, az_Valid X c) {pre hint : szD → szR → azS → azQ → Option azDir} {hb : szD → szR → azS → azQ → azHd → List szV} {rb : szD → szR → azS → azF → Option szV → azPo → List szV} {rd : szD → szR → azS → azQ → (szD → szR → azS → azQ → Bool) → Bool} {n k : Nat} {c : azCon} {q : szM} (hq : P[c.1]? = some q) {ends : List azHd} {i0 : Nat} (hw : az_wf c.2.2.1.1 c.2.2.1.2.1 c.2.2.1.2.2.1)
    (h1 : az_ex P inl c.2.1 tb c.2.2.2.2.1 pre hint (az_lvx P inl c.2.1 tb c.2.2.2.2.1 pre hint n (az_leaf c ends none hb rb) rd k) n c.2.2.1.1 c.2.2.1.2.1 c.2.2.1.2.2.1 (az_hc c q (i0, c.2.2.1, (0, []), (0, 0))) = true)
    (hc0 : c.2.2.1.2.2.2.2 = ([], [], false)) (hes : ends.all az_eoS = true)
    {Kb : Option (Option Value) → mzS → Prop} {ρ : Nat → Int} {h : List mzC} (hlen : h.length + 1000 * (c.2.1 + 2) < 2147483648) (hM : ρ 1000000 = (h.length : Int) + 4) {s2 : Nat × Nat} {d : Nat} (hd : c.2.1 ≤ d) (hV : az_V c.2.2.1.1 c.2.2.1.2.1 c.2.2.1.2.2.1 ρ) (hT : az_Tp h) {lo : mzL} (hlo : az_ml lo (c.2.2.1.2.2.2.1.map (sz_v ρ)))
    (hrd : ∀ D R Cs C ρ1 f, rd D R Cs C f = true → az_V D R Cs ρ1 → az_wf D R Cs → az_ag c.2.2.1.2.1.length ρ ρ1 → c.2.2.1.2.1.length ≤ R.length → (∀ D' R' Cs' C' ρ', f D' R' Cs' C' = true → az_V D' R' Cs' ρ' → az_wf D' R' Cs' → az_ag R.length ρ1 ρ' → R.length ≤ R'.length → az_GG X Kb c.2.2.2.2.1 h s2 (d - c.2.1) ρ' C') → az_GG X Kb c.2.2.2.2.1 h s2 (d - c.2.1) ρ1 C)
    (hret : ∀ p ∈ c.2.2.2.1, ∀ (ρ' : Nat → Int) (h' : List mzC) (s3 : Nat × Nat), s3.1 ≤ s2.1 + c.2.2.2.2.2.1 → s3.2 ≤ s2.2 + c.2.2.2.2.2.2 → Kb (p.1.map (fun v => v.map (sz_v ρ'))) (h', s3))
    (hend : ∀ E ∈ ends, ∀ (ρ' : Nat → Int) (h' : List mzC) (s3 : Nat × Nat) (lo' : mzL), az_V E.2.1.1 E.2.1.2.1 E.2.1.2.2.1 ρ' → (∀ k, k < c.2.2.1.2.1.length → ρ' k = ρ k) → az_Tp h' → h'.length ≤ h.length + E.2.2.2.1 → s3.1 ≤ s2.1 + E.2.2.2.1 → s3.2 ≤ s2.2 + E.2.2.2.2 → az_ml lo' (E.2.1.2.2.2.1.map (sz_v ρ')) → mz_gg X Kb d c.1 E.1 lo' [] (h', s3)) :
    mz_gg X Kb d c.1 i0 lo [] (h, s2) := by
  obtain ⟨M', p1, p2, p3, p4, p5⟩ := sz_pkall_ok hP hq
  have hed : c.2.1 + (d - c.2.1) = d := by omega
  have e0 : c.2.2.1.2.2.2.2.1 = [] := by rw [hc0]
  have e1 : c.2.2.1.2.2.2.2.2.1 = [] := by rw [hc0]
  have e2 : c.2.2.1.2.2.2.2.2.2 = false := by rw [hc0]
  have hleaf : ∀ D R Cs C ρ2, az_leaf c ends none hb rb D R Cs C = true → az_V D R Cs ρ2 → az_wf D R Cs → az_ag c.2.2.1.2.1.length ρ ρ2 → c.2.2.1.2.1.length ≤ R.length → az_GG X Kb c.2.2.2.2.1 h s2 (d - c.2.1) ρ2 C := by
    intro D R Cs C ρ2 hleaf hV2 hW2 hag _
    have hE2 : (∀ k, k < c.2.2.1.2.1.length → ρ2 k = ρ k) ∧ (c.2.2.1.2.2.2.2.2.2 = true → ρ2 1000000 = ρ 1000000) := ⟨fun k hk => hag.1 k hk, fun _ => hag.2⟩
    unfold az_leaf at hleaf
    rw [Bool.or_eq_true] at hleaf
    rcases hleaf with hleaf | hleaf
    · refine az_lhd_ok hP hq hlen hV2 hE2 (fun E hE ρ' v1 ag _ => ?_) hleaf
      have hok := List.all_eq_true.mp hes E hE
      unfold az_eoS at hok
      simp only [Bool.and_eq_true, Bool.not_eq_true'] at hok
      obtain ⟨k1, k2, k3⟩ := hok
      have k2 : E.2.1.2.2.2.2.2.1 = [] := List.isEmpty_iff.mp k2
      intro ws w hh s3 hF' hW' hH b1 b2
      obtain ⟨j', M, i', m', stM⟩ := w
      obtain ⟨F1, F2, F3, F4, F5, F6, F7⟩ := hF'
      match ws, hW' with
      | [], _ =>
      dsimp only [az_hc] at F1 F2 F3 F4 F5 F6 F7 hH b1 b2 ⊢
      subst F1; subst F5; subst F7
      rw [k2, k3] at hH
      rw [hed]
      exact mz_gg_mono (fun o s hk => hk) (hend E hE ρ' hh s3 m' v1 ag.1 ⟨hH.1, hH.2.2.2.1⟩ hH.2.2.2.2.2.2 b1 b2 (az_LR_ml k1 F6))
    · refine az_GG_mono ?_ (az_lret_ok hlen hV2 hE2 hleaf)
      intro o s' hp
      obtain ⟨p, hp, ρ', v1, ag, ho, HR, c1, c2⟩ := hp
      subst ho
      exact hret p hp ρ' s'.1 s'.2 c1 c2
  have G : az_GG X Kb c.2.2.2.2.1 h s2 (d - c.2.1) ρ (az_hc c q (i0, c.2.2.1, (0, []), (0, 0))) := by
    refine az_exN hP hX hlen htb (n0 := c.2.2.1.2.1.length) (ρ0 := ρ) ?_ n _ _ _ _ ρ h1 hV hw (az_ag_refl _ _) (Nat.le_refl _)
    intro D R Cs C ρ2 h2 hV2 hW2 hag2 hn2
    exact az_lvx_ok hP hX hlen htb hleaf hrd k D R Cs C ρ2 h2 hV2 hW2 hag2 hn2
  have HR : az_HR c.2.2.2.2.1 h ρ c.2.2.1.2.2.2.2.1 c.2.2.1.2.2.2.2.2.1 c.2.2.1.2.2.2.2.2.2 0 h := by
    rw [e0, e1, e2]
    exact ⟨hT.1, ⟨(fun e => by cases e), fun _ _ => by rw [hM]; omega⟩, (fun q hq => by cases hq), hT.2, fun _ _ _ _ => rfl, Nat.le_refl _, Nat.le_refl _⟩
  have := G [] (c.1, M', i0, lo, []) h s2 ⟨rfl, p1, by show (q.1, q.2.2.1) = _; rw [p2, p4], p5, rfl, az_ml_LR hlo, rfl⟩ trivial HR (Nat.le_refl _) (Nat.le_refl _)
  dsimp only [az_hc] at this
  rw [hed] at this
  exact mz_gg_mono (fun o s hk => hk) this
