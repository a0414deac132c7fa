/-! pieces of a method: from a pattern to others, or to its end; of one call the value may be known -/
theorem mz_gg_mono {X : List (List Value)} {K K' : Option (Option Value) → mzS → Prop} (hK : ∀ o s, K o s → K' o s) {d j i : Nat} {lo : mzL} {st : List Value} {s : mzS} (h : mz_gg X K d j i lo st s) : mz_gg X K' d j i lo st s := by
  obtain ⟨n, o, s', h1, h2⟩ := h
  exact ⟨n, o, s', h1, hK o s' h2⟩
theorem az_KK_mono {X : List (List Value)} {K K' : Option (Option Value) → mzS → Prop} (hK : ∀ o s, K o s → K' o s) : ∀ (ws : List mzW) (d : Nat) (o : Option (Option Value)) (s : mzS), az_KK X K ws d o s → az_KK X K' ws d o s
  | [], _, o, s, h => hK o s h
  | (j, M, i, lo, rest) :: ws, d, o, s, ⟨h1, q, h2, h3⟩ => ⟨h1, q, h2, mz_gg_mono (az_KK_mono hK ws (d + 1)) h3⟩
theorem az_GG_mono {X : List (List Value)} {K K' : Option (Option Value) → mzS → Prop} (hK : ∀ o s, K o s → K' o s) {mods : List (Nat × Nat)} {h0 : List mzC} {bs : Nat × Nat} {e : Nat} {ρ : Nat → Int} {C : azQ} (h : az_GG X K mods h0 bs e ρ C) : az_GG X K' mods h0 bs e ρ C := fun ws w hh s2 a1 a2 a3 a4 a5 => mz_gg_mono (az_KK_mono hK ws _) (h ws w hh s2 a1 a2 a3 a4 a5)
/-- the call at instruction pc, by a contract of its own -/
noncomputable def az_kn (P : List szM) (dm : Nat) (mods : List (Nat × Nat)) (n0 : Nat) (kn : Nat × azCon × List szV) (D : szD) (R : szR) (Cs : azS) (C : azQ) (f : szD → szR → azS → azQ → Bool) : Bool := match C with
  | ((j, m, code, i, lo, st), ws, F, dirty, new, uw, d) => (match ws with
    | [] => (Nat.beq i kn.1 && (Nat.ble n0 R.length && Nat.beq (sz_fb (sz_sl 80 code i)) kn.2.1.2.2.1.2.2.2.1.length)) && az_rcall P dm mods D R Cs ((j, m, code, i, lo, st), ws, F, dirty, new, uw, d) kn.2.1 kn.2.2 f
    | _ :: _ => false)
noncomputable def az_sleaf (P : List szM) (inl : Nat → Bool) (tb : List azCon) (pre hint : szD → szR → azS → azQ → Option azDir) (c : azCon) (ends : List azHd) (hb : szD → szR → azS → azQ → azHd → List szV) (rb : szD → szR → azS → azF → Option szV → azPo → List szV) (kn : Option (Nat × azCon × List szV)) (n2 : Nat) (D : szD) (R : szR) (Cs : azS) (C : azQ) : Bool := match kn with
  | none => az_leaf c ends none hb rb D R Cs C
  | some k => az_leaf c ends none hb rb D R Cs C || az_kn P c.2.1 c.2.2.2.2.1 c.2.2.1.2.1.length k D R Cs C (fun D R Cs C => az_ex P inl c.2.1 tb c.2.2.2.2.1 pre hint (az_leaf c ends none hb rb) n2 D R Cs C)
theorem az_seg {P : List szM} (hP : sz_pkall P mzP = true) {inl : Nat → Bool} {X : List (List Value)} (hX : az_X X) {tb : List azCon} (htb : ∀ c ∈ tb, az_Valid X c) {pre hint : szD → szR → azS → azQ → Option azDir} {hb : szD → szR → azS → azQ → azHd → List szV} {rb : szD → szR → azS → azF → Option szV → azPo → List szV} {n n2 : Nat} {c : azCon} {q : szM} (hq : P[c.1]? = some q) {ends : List azHd} {i0 : Nat} {kn : Option (Nat × azCon × List szV)} (hw : az_wf c.2.2.1.1 c.2.2.1.2.1 c.2.2.1.2.2.1)
    (h1 : az_ex P inl c.2.1 tb c.2.2.2.2.1 pre hint (az_sleaf P inl tb pre hint c ends hb rb kn n2) n c.2.2.1.1 c.2.2.1.2.1 c.2.2.1.2.2.1 (az_hc c q (i0, c.2.2.1, (0, []), (0, 0))) = true)
    {Kb : Option (Option Value) → mzS → Prop} {ρ : Nat → Int} {h : List mzC} (hlen : h.length + 1000 * (c.2.1 + 2) < 2147483648) {s2 : Nat × Nat} {ee : Nat} (hV : az_V c.2.2.1.1 c.2.2.1.2.1 c.2.2.1.2.2.1 ρ)
    (hkn : ∀ k, kn = some k → ∀ ρ2, az_ag c.2.2.1.2.1.length ρ ρ2 → ∀ (ρ1 : Nat → Int) (hh : List mzC) (args : List Value) (s2 : Nat × Nat) (d : Nat), args.length = k.2.1.2.2.1.2.2.2.1.length → az_bd k.2.2 ρ2 ρ1 → az_HM c.2.2.2.2.1 h hh → az_V k.2.1.2.2.1.1 k.2.1.2.2.1.2.1 k.2.1.2.2.1.2.2.1 ρ1 → sz_LR ρ1 k.2.1.2.2.1.2.2.2.1 (lv_args 0 args) → az_HR [] hh ρ1 k.2.1.2.2.1.2.2.2.2.1 k.2.1.2.2.1.2.2.2.2.2.1 k.2.1.2.2.1.2.2.2.2.2.2 0 hh → hh.length + 1000 * (k.2.1.2.1 + 2) < 2147483648 → k.2.1.2.1 ≤ d → mz_gg X (az_PostH k.2.1 ρ1 hh s2) d k.2.1.1 0 (lv_args 0 args) [] (hh, s2))
    (hret : ∀ o s', az_PostH c ρ h s2 o s' → Kb o s')
    (hend : ∀ E ∈ ends, ∀ ρ', az_V E.2.1.1 E.2.1.2.1 E.2.1.2.2.1 ρ' → ((∀ k, k < c.2.2.1.2.1.length → ρ' k = ρ k) ∧ (c.2.2.1.2.2.2.2.2.2 = true → ρ' 1000000 = ρ 1000000)) → az_GG X Kb c.2.2.2.2.1 h s2 ee ρ' (az_hc c q E)) :
    az_GG X Kb c.2.2.2.2.1 h s2 ee ρ (az_hc c q (i0, c.2.2.1, (0, []), (0, 0))) := by
  have hstd : ∀ D R Cs C ρ2, az_leaf c ends none hb rb D R Cs C = true → az_V D R Cs ρ2 → az_wf D R Cs → az_ag c.2.2.1.2.1.length ρ ρ2 → az_GG X Kb c.2.2.2.2.1 h s2 ee ρ2 C := by
    intro D R Cs C ρ2 hleaf hV2 hW2 hag
    have hE2 : (∀ k, k < c.2.2.1.2.1.length → ρ2 k = ρ k) ∧ (c.2.2.1.2.2.2.2.2.2 = true → ρ2 1000000 = ρ 1000000) := ⟨fun k hk => hag.1 k hk, fun _ => hag.2⟩
    unfold az_leaf at hleaf
    rw [Bool.or_eq_true] at hleaf
    rcases hleaf with hleaf | hleaf
    · exact az_lhd_ok hP hq hlen hV2 hE2 (fun H hH ρ3 hV3 hE3 _ => hend H hH ρ3 hV3 hE3) hleaf
    · exact az_GG_mono hret (az_lret_ok hlen hV2 hE2 hleaf)
  refine az_ex_ok hP hX hlen htb (n0 := c.2.2.1.2.1.length) (ρ0 := ρ) ?_ n _ _ _ _ ρ h1 hV hw (az_ag_refl _ _) (Nat.le_refl _)
  intro D R Cs C ρ2 hleaf hV2 hW2 hag
  unfold az_sleaf at hleaf
  split at hleaf
  · exact hstd D R Cs C ρ2 hleaf hV2 hW2 hag
  · rename_i k
    rw [Bool.or_eq_true] at hleaf
    rcases hleaf with hleaf | hleaf
    · exact hstd D R Cs C ρ2 hleaf hV2 hW2 hag
    · obtain ⟨⟨j, m, code, i, lo, st⟩, ws, F, dirty, new, uw, d⟩ := C
      unfold az_kn at hleaf
      dsimp only at hleaf
      split at hleaf
      · simp only [Bool.and_eq_true] at hleaf
        obtain ⟨⟨_, hn, ha⟩, hleaf⟩ := hleaf
        have hn : c.2.2.1.2.1.length ≤ R.length := Nat.le_of_ble_eq_true hn
        have ha := Nat.eq_of_beq_eq_true ha
        exact az_rcall_at hP hlen hV2 hW2 (fun ρ1 hh args s3 d b0 b1 b2 b3 b4 b5 b6 b7 => hkn k rfl ρ2 hag ρ1 hh args s3 d (b0.trans ha) b1 b2 b3 b4 b5 b6 b7) hleaf (fun D' R' Cs' C' ρ' hf' hV' hW' hag' hle => az_ex_ok hP hX hlen htb (n0 := c.2.2.1.2.1.length) (ρ0 := ρ) hstd n2 D' R' Cs' C' ρ' hf' hV' hW' (az_ag_trans hn hag hag') (Nat.le_trans hn hle))
      · cases hleaf
/-- a heap that keeps the layout -/
def az_Tp (h : List mzC) : Prop := az_HT h ∧ az_HP h []
/-- the first locals -/
def az_ml (lo : mzL) (vs : List Value) : Prop := ∀ (k : Nat) (v : Value), vs[k]? = some v → mz_ld lo k = some v
theorem az_ml_LR {ρ : Nat → Int} {pat : szLo} {lo : mzL} (h : az_ml lo (pat.map (sz_v ρ))) : sz_LR ρ pat lo := by
  intro k v hk _
  exact h k _ (by rw [List.getElem?_map, hk]; rfl)
theorem az_LR_ml {ρ : Nat → Int} {pat : szLo} {lo : mzL} (ht : pat.all (fun v => Nat.blt v.1 9) = true) (h : sz_LR ρ pat lo) : az_ml lo (pat.map (sz_v ρ)) := by
  intro k v hk
  rw [List.getElem?_map] at hk
  cases hp : pat[k]? with
  | none => rw [hp] at hk; cases hk
  | some p =>
    rw [hp] at hk
    cases hk
    exact h k p hp (Nat.le_of_ble_eq_true (List.all_eq_true.mp ht p (List.mem_of_getElem? hp)))
/-- an end of a piece: no dirty pair, no new cell, all its locals are known -/
def az_eok (E : azHd) : Bool := (E.2.1.2.2.2.1.all (fun v => Nat.blt v.1 9) && (E.2.1.2.2.2.2.2.1.isEmpty && !E.2.1.2.2.2.2.2.2)) && (Nat.beq E.2.2.2.1 0 && Nat.beq E.2.2.2.2 0)
theorem az_go {P : List szM} (hP : sz_pkall P mzP = true) {inl : Nat → Bool} {X : List (List Value)} (hX : az_X X) {tb : List azCon} (htb : ∀ c ∈ tb, az_Valid X c) {pre hint : szD → szR → azS → azQ → Option azDir} {hb : szD → szR → azS → azQ → azHd → List szV} {rb : szD → szR → azS → azF → Option szV → azPo → List szV} {n n2 : Nat} {c : azCon} {q : szM} (hq : P[c.1]? = some q) {ends : List azHd} {i0 : Nat} {kn : Option (Nat × azCon × List szV)} (hw : az_wf c.2.2.1.1 c.2.2.1.2.1 c.2.2.1.2.2.1)
    (h1 : az_ex P inl c.2.1 tb c.2.2.2.2.1 pre hint (az_sleaf P inl tb pre hint c ends hb rb kn n2) n c.2.2.1.1 c.2.2.1.2.1 c.2.2.1.2.2.1 (az_hc c q (i0, c.2.2.1, (0, []), (0, 0))) = true)
    (hc0 : c.2.2.1.2.2.2.2.2 = ([], false)) (hc1 : c.2.2.2.2.2 = (0, 0)) (hes : ends.all az_eok = true)
    {Kb : Option (Option Value) → mzS → Prop} {ρ : Nat → Int} {h : List mzC} (hlen : h.length + 1000 * (c.2.1 + 2) < 2147483648) (hM : ρ 1000000 = (h.length : Int) + 4) {s2 : Nat × Nat} {d : Nat} (hd : c.2.1 ≤ d) (hV : az_V c.2.2.1.1 c.2.2.1.2.1 c.2.2.1.2.2.1 ρ) (hT : az_Tp h) (hF : az_HF ρ h false c.2.2.1.2.2.2.2.1) {lo : mzL} (hlo : az_ml lo (c.2.2.1.2.2.2.1.map (sz_v ρ)))
    (hkn : ∀ k, kn = some k → ∀ ρ2, az_ag c.2.2.1.2.1.length ρ ρ2 → ∀ (ρ1 : Nat → Int) (hh : List mzC) (args : List Value) (s2 : Nat × Nat) (d : Nat), args.length = k.2.1.2.2.1.2.2.2.1.length → az_bd k.2.2 ρ2 ρ1 → az_HM c.2.2.2.2.1 h hh → az_V k.2.1.2.2.1.1 k.2.1.2.2.1.2.1 k.2.1.2.2.1.2.2.1 ρ1 → sz_LR ρ1 k.2.1.2.2.1.2.2.2.1 (lv_args 0 args) → az_HR [] hh ρ1 k.2.1.2.2.1.2.2.2.2.1 k.2.1.2.2.1.2.2.2.2.2.1 k.2.1.2.2.1.2.2.2.2.2.2 0 hh → hh.length + 1000 * (k.2.1.2.1 + 2) < 2147483648 → k.2.1.2.1 ≤ d → mz_gg X (az_PostH k.2.1 ρ1 hh s2) d k.2.1.1 0 (lv_args 0 args) [] (hh, s2))
    (hret : ∀ p ∈ c.2.2.2.1, ∀ (ρ' : Nat → Int) (h' : List mzC) (s3 : Nat × Nat), az_V p.2.1 p.2.2.1 p.2.2.2.1 ρ' → (∀ k, k < c.2.2.1.2.1.length → ρ' k = ρ k) → az_Tp h' → az_HM c.2.2.2.2.1 h h' → az_HF ρ' h' false p.2.2.2.2 → h'.length = h.length → s3.1 ≤ s2.1 → s3.2 ≤ s2.2 → Kb (p.1.map (fun v => v.map (sz_v ρ'))) (h', s3))
    (hend : ∀ E ∈ ends, ∀ (ρ' : Nat → Int) (h' : List mzC) (s3 : Nat × Nat) (lo' : mzL), az_V E.2.1.1 E.2.1.2.1 E.2.1.2.2.1 ρ' → (∀ k, k < c.2.2.1.2.1.length → ρ' k = ρ k) → az_Tp h' → az_HM c.2.2.2.2.1 h h' → az_HF ρ' h' false E.2.1.2.2.2.2.1 → h'.length = h.length → s3.1 ≤ s2.1 → s3.2 ≤ s2.2 → az_ml lo' (E.2.1.2.2.2.1.map (sz_v ρ')) → mz_gg X Kb d c.1 E.1 lo' [] (h', s3)) :
    mz_gg X Kb d c.1 i0 lo [] (h, s2) := by
  obtain ⟨M', p1, p2, p3, p4, p5⟩ := sz_pkall_ok hP hq
  have hed : c.2.1 + (d - c.2.1) = d := by omega
  have e1 : c.2.2.1.2.2.2.2.2.1 = [] := by rw [hc0]
  have e2 : c.2.2.1.2.2.2.2.2.2 = false := by rw [hc0]
  have e3 : c.2.2.2.2.2.1 = 0 := by rw [hc1]
  have e4 : c.2.2.2.2.2.2 = 0 := by rw [hc1]
  have G := az_seg (Kb := Kb) (ee := d - c.2.1) (s2 := s2) (h := h) (i0 := i0) hP hX htb hq hw h1 hlen hV hkn (by
    intro o s' hp
    obtain ⟨p, hp, ρ', v1, ag, ho, HR, c1, c2⟩ := hp
    rw [e3] at c1
    rw [e4] at c2
    rw [e1, e2, e3] at HR
    subst ho
    exact hret p hp ρ' s'.1 s'.2 v1 ag.1 ⟨HR.1, HR.2.2.2.1⟩ HR.2.2.2.2.1 HR.2.2.1 (by have := HR.2.2.2.2.2; omega) (by omega) (by omega)) (by
    intro E hE ρ' v1 ag
    have hok := List.all_eq_true.mp hes E hE
    unfold az_eok at hok
    simp only [Bool.and_eq_true, Bool.not_eq_true'] at hok
    obtain ⟨⟨k1, k2, k3⟩, k4, k5⟩ := hok
    have k2 : E.2.1.2.2.2.2.2.1 = [] := List.isEmpty_iff.mp k2
    have k4 := Nat.eq_of_beq_eq_true k4
    have k5 := Nat.eq_of_beq_eq_true k5
    intro ws w hh s3 hF' hW' hH b1 b2
    obtain ⟨j', M, i', m', stM⟩ := w
    obtain ⟨F1, F2, F3, F4, F5, F6, F7⟩ := hF'
    match ws, hW' with
    | [], _ =>
    dsimp only [az_hc] at F1 F2 F3 F4 F5 F6 F7 hH b1 b2 ⊢
    subst F1; subst F5; subst F7
    rw [k2, k3, k4] at hH
    rw [k4] at b1
    rw [k5] at b2
    rw [hed]
    exact mz_gg_mono (fun o s hk => hk) (hend E hE ρ' hh s3 m' v1 ag.1 ⟨hH.1, hH.2.2.2.1⟩ hH.2.2.2.2.1 hH.2.2.1 (by have := hH.2.2.2.2.2; omega) (by omega) (by omega) (az_LR_ml k1 F6)))
  have HR : az_HR c.2.2.2.2.1 h ρ c.2.2.1.2.2.2.2.1 c.2.2.1.2.2.2.2.2.1 c.2.2.1.2.2.2.2.2.2 0 h := by
    rw [e1, e2]
    exact ⟨hT.1, ⟨(fun e => by cases e), fun _ _ => by rw [hM]; omega⟩, hF, hT.2, fun _ _ _ _ => rfl, Nat.le_refl _, Nat.le_refl _⟩
  have := G [] (c.1, M', i0, lo, []) h s2 ⟨rfl, p1, by show (q.1, q.2.2.1) = _; rw [p2, p4], p5, rfl, az_ml_LR hlo, rfl⟩ trivial HR (Nat.le_refl _) (Nat.le_refl _)
  dsimp only [az_hc] at this
  rw [hed] at this
  exact mz_gg_mono (fun o s hk => hk) this
