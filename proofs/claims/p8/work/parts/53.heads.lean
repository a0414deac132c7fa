/-! heads, and: a contract is valid -/
/-- a head: instruction, pattern, rank, cells and slots made -/
abbrev azHd : Type := Nat × azPat × (Int × szT) × (Nat × Nat)
/-- the state of a head -/
def az_hc (c : azCon) (q : szM) (H : azHd) : azQ := ((c.1, (q.1, q.2.2.1), q.2.2.2, H.1, H.2.1.2.2.2.1, []), [], H.2.1.2.2.2.2.1, H.2.1.2.2.2.2.2.1, H.2.1.2.2.2.2.2.2, H.2.2.2, c.2.1)
/-- the rank falls -/
noncomputable def az_rkd (R : szR) (Cs : azS) (b : List szV) (rk : Option (Int × szT)) (r' : Int × szT) : Bool := match rk with
  | none => true
  | some r => az_lo b.length r'.2 && decide (0 ≤ az_lb R Cs (r.1 - r'.1 - (az_sbt b r'.2).1 - 1) (sz_add r.2 (sz_sc (-1) (az_sbt b r'.2).2)))
theorem az_rkd_ok {R : szR} {Cs : azS} {ρ ρ' : Nat → Int} (hR : sz_R R ρ) (hC : az_S Cs ρ) {b : List szV} (hb : az_bd b ρ ρ') {r r' : Int × szT} (h : az_rkd R Cs b (some r) r' = true) : r'.1 + sz_sum ρ' r'.2 < r.1 + sz_sum ρ r.2 := by
  unfold az_rkd at h
  dsimp only at h
  rw [Bool.and_eq_true, decide_eq_true_eq] at h
  have q1 := az_sbt_ok hb h.1
  have q2 := az_lb_ok hR hC (r.1 - r'.1 - (az_sbt b r'.2).1 - 1) (sz_add r.2 (sz_sc (-1) (az_sbt b r'.2).2))
  rw [sz_sum_add, sz_sum_sc] at q2
  have q3 := Int.le_trans h.2 q2
  omega
/-- a quick look: numbers among the locals -/
noncomputable def az_lq : szLo → szLo → Bool
  | p :: ps, v :: vs => (match p, v with
    | (0, a, []), (0, b, []) => decide (a = b)
    | _, _ => true) && az_lq ps vs
  | _, _ => true
noncomputable def az_lh1 (c : azCon) (rk : Option (Int × szT)) (D : szD) (R : szR) (Cs : azS) (i : Nat) (lo : szLo) (F : azF) (dirty : List Nat) (new : Bool) (uw : Nat × Nat) (H : azHd) (b : List szV) : Bool := (Nat.beq H.1 i && az_lq H.2.1.2.2.2.1 lo) && ((Nat.ble uw.1 H.2.2.2.1 && (Nat.ble uw.2 H.2.2.2.2 && (!c.2.2.1.2.2.2.2.2.2 || H.2.1.2.2.2.2.2.2))) && ((Nat.blt uw.1 900 && az_mp D R Cs F dirty new lo b H.2.1) && (az_idb c.2.2.1.2.1.length 0 b && az_rkd R Cs b rk H.2.2.1)))
noncomputable def az_lhd (c : azCon) (hds : List azHd) (rk : Option (Int × szT)) (hb : szD → szR → azS → azQ → azHd → List szV) (D : szD) (R : szR) (Cs : azS) (C : azQ) : Bool := match C with
  | ((j, m, code, i, lo, st), ws, F, dirty, new, uw, d) => (match ws, st with
    | [], [] => (Nat.beq j c.1 && Nat.beq d c.2.1) && hds.any (fun H => az_lh1 c rk D R Cs i lo F dirty new uw H (hb D R Cs ((j, m, code, i, lo, st), ws, F, dirty, new, uw, d) H))
    | _, _ => false)
theorem az_lhd_ok {P : List szM} (hP : sz_pkall P mzP = true) {X : List (List Value)} {c : azCon} {q : szM} (hq : P[c.1]? = some q) {hds : List azHd} {rk : Option (Int × szT)} {hb : szD → szR → azS → azQ → azHd → List szV} {Kb : Option (Option Value) → mzS → Prop} {ρE : Nat → Int} {h0 : List mzC} (hlen0 : h0.length + 1000 * (c.2.1 + 2) < 2147483648) {bs : Nat × Nat} {ee : Nat} {D : szD} {R : szR} {Cs : azS} {ρ : Nat → Int} (hV : az_V D R Cs ρ) (hE : (∀ k, k < c.2.2.1.2.1.length → ρ k = ρE k) ∧ (c.2.2.1.2.2.2.2.2.2 = true → ρ 1000000 = ρE 1000000))
    (hI : ∀ H ∈ hds, ∀ ρ', az_V H.2.1.1 H.2.1.2.1 H.2.1.2.2.1 ρ' → ((∀ k, k < c.2.2.1.2.1.length → ρ' k = ρE k) ∧ (c.2.2.1.2.2.2.2.2.2 = true → ρ' 1000000 = ρE 1000000)) → (∀ r, rk = some r → H.2.2.1.1 + sz_sum ρ' H.2.2.1.2 < r.1 + sz_sum ρ r.2) → az_GG X Kb c.2.2.2.2.1 h0 bs ee ρ' (az_hc c q H))
    {C : azQ} (h : az_lhd c hds rk hb D R Cs C = true) : az_GG X Kb c.2.2.2.2.1 h0 bs ee ρ C := by
  obtain ⟨⟨j, m, code, i, lo, st⟩, ws, F, dirty, new, uw, d⟩ := C
  intro wsM w hh s2 hF hW' hH b1 b2
  obtain ⟨j', M, i', m', stM⟩ := w
  obtain ⟨F1, F2, F3, F4, F5, F6, F7⟩ := hF
  dsimp only at F1 F2 F3 F4 F5 F6 F7 hW' hH b1 b2 ⊢
  subst F1; subst F5; subst F7
  unfold az_lhd at h
  dsimp only at h
  split at h
  · match wsM, hW' with
    | [], _ =>
    rw [Bool.and_eq_true, Bool.and_eq_true] at h
    obtain ⟨⟨hj, hd⟩, h⟩ := h
    have hj := Nat.eq_of_beq_eq_true hj
    have hd := Nat.eq_of_beq_eq_true hd
    obtain ⟨H, hHm, h⟩ := List.any_eq_true.mp h
    unfold az_lh1 at h
    simp only [Bool.and_eq_true] at h
    obtain ⟨⟨e1, _⟩, ⟨e2, e3, e4⟩, ⟨e5, e6⟩, e7, e8⟩ := h
    have e1 := Nat.eq_of_beq_eq_true e1
    have e2 : uw.1 ≤ H.2.2.2.1 := Nat.le_of_ble_eq_true e2
    have e3 : uw.2 ≤ H.2.2.2.2 := Nat.le_of_ble_eq_true e3
    have e5 : uw.1 < 900 := Nat.le_of_ble_eq_true e5
    have hlen := az_len2 hH.2.2.2.2.2.2 e5 hlen0
    obtain ⟨ρ', m1, m2, m3, m4, m5, m6⟩ := az_mp_ok hV hH hlen e6 F6
    subst hj
    subst e1
    subst hd
    obtain ⟨M', p1, p2, p3, p4, p5⟩ := sz_pkall_ok hP hq
    rw [F2] at p1
    cases p1
    have hG := hI H hHm ρ' m4 ⟨fun k hk => by rw [az_idb_bd e7 m1 k hk, hE.1 k hk], fun hn => by
      have : H.2.1.2.2.2.2.2.2 = true := by rw [hn] at e4; simpa using e4
      rw [m3 this, hE.2 hn]⟩ (fun r hr => by
        subst hr
        exact az_rkd_ok hV.2.1 hV.2.2.1 m1 e8)
    exact hG [] (c.1, M, H.1, m', []) hh s2 ⟨rfl, F2, by show (q.1, q.2.2.1) = _; rw [p2, p4], p5, rfl, m5, rfl⟩ trivial (az_HR_two hH m6 e2) (by show s2.1 ≤ bs.1 + H.2.2.2.1; omega) (by show s2.2 ≤ bs.2 + H.2.2.2.2; omega)
  · cases h
noncomputable def az_leaf (c : azCon) (hds : List azHd) (rk : Option (Int × szT)) (hb : szD → szR → azS → azQ → azHd → List szV) (rb : szD → szR → azS → azF → Option szV → azPo → List szV) (D : szD) (R : szR) (Cs : azS) (C : azQ) : Bool := az_lhd c hds rk hb D R Cs C || az_lret c rb D R Cs C
/-- a pattern's atoms -/
def az_wfb (P : azPat) : Bool := (Nat.beq P.1.length P.2.1.length && Nat.blt P.2.1.length 1000000) && (P.1.all (fun q => az_lo 0 q.2.1.2.2 && az_lo 0 q.2.2.2.2) && P.2.2.1.all (fun f => az_lo P.2.1.length f.2))
theorem az_wfb_ok {P : azPat} (h : az_wfb P = true) : az_wf P.1 P.2.1 P.2.2.1 := by
  unfold az_wfb at h
  simp only [Bool.and_eq_true] at h
  obtain ⟨⟨h1, h2⟩, h3, h4⟩ := h
  refine ⟨Nat.eq_of_beq_eq_true h1, Nat.le_of_ble_eq_true h2, ?_, fun f hf => List.all_eq_true.mp h4 f hf⟩
  intro k o x y hk
  have := List.all_eq_true.mp h3 _ (List.mem_of_getElem? hk)
  rw [Bool.and_eq_true] at this
  exact ⟨az_lo_le (Nat.zero_le _) this.1, az_lo_le (Nat.zero_le _) this.2⟩
/-- what is asked of a head by itself -/
noncomputable def az_hok (c : azCon) (H : azHd) : Bool := (az_wfb H.2.1 && Nat.ble c.2.2.1.2.1.length H.2.1.2.1.length) && (az_lo H.2.1.2.1.length H.2.2.1.2 && decide (0 ≤ H.2.2.1.1 + (sz_rs H.2.1.2.1 H.2.2.1.2).1))
theorem az_wf_len {D : szD} {R R' : szR} {Cs : azS} (h : R'.length = R.length) (hw : az_wf D R Cs) : az_wf D R' Cs := by
  obtain ⟨h1, h2, h3, h4⟩ := hw
  exact ⟨by rw [h]; exact h1, by rw [h]; exact h2, h3, by rw [h]; exact h4⟩
/-- a range told apart -/
theorem az_splitR {D : szD} {R : szR} {Cs : azS} {k : Nat} {l h : Int} {Q : szR → Prop} (hk : R[k]? = some (l, h)) (hQ : ∀ x : Int, l ≤ x → x ≤ h → ∃ p : Int × Int, p.1 ≤ x ∧ x ≤ p.2 ∧ Q (R.set k p)) (ρ : Nat → Int) (hV : az_V D R Cs ρ) : ∃ R', az_V D R' Cs ρ ∧ R'.length = R.length ∧ Q R' := by
  have hr := hV.2.1 k
  have e : sz_at R k = (l, h) := by
    unfold sz_at
    rw [List.getD_eq_getElem?_getD, hk]
    rfl
  rw [e] at hr
  obtain ⟨p, p1, p2, p3⟩ := hQ (ρ k) hr.1 hr.2
  refine ⟨R.set k p, ⟨hV.1, ?_, hV.2.2⟩, List.length_set, p3⟩
  intro i
  by_cases hi : i = k
  · subst hi
    have : sz_at (R.set i p) i = p := by
      unfold sz_at
      rw [List.getD_eq_getElem?_getD, List.getElem?_set_self (List.getElem?_eq_some_iff.mp hk).1]
      rfl
    rw [this]
    exact ⟨p1, p2⟩
  · have : sz_at (R.set k p) i = sz_at R i := by
      unfold sz_at
      rw [List.getD_eq_getElem?_getD, List.getD_eq_getElem?_getD, List.getElem?_set_ne (fun e => hi e.symm)]
    rw [this]
    exact hV.2.1 i
def az_cvb : List (Int × Int) → Int → Int → Bool
  | [], l, h => decide (h < l)
  | p :: ps, l, h => decide (p.1 ≤ l) && az_cvb ps (p.2 + 1) h
theorem az_cvq {Q : Int × Int → Prop} : ∀ {ps : List (Int × Int)} {l h : Int}, az_cvb ps l h = true → (∀ p ∈ ps, Q p) → ∀ x : Int, l ≤ x → x ≤ h → ∃ p : Int × Int, p.1 ≤ x ∧ x ≤ p.2 ∧ Q p
  | [], l, h, hc, _, x, h1, h2 => by
    have hc : h < l := by simpa [az_cvb] using hc
    omega
  | p :: ps, l, h, hc, hq, x, h1, h2 => by
    unfold az_cvb at hc
    rw [Bool.and_eq_true, decide_eq_true_eq] at hc
    rcases Int.lt_or_le p.2 x with hx | hx
    · exact az_cvq hc.2 (fun q hq' => hq q (List.mem_cons_of_mem _ hq')) x (by omega) h2
    · exact ⟨p, by omega, hx, hq p List.mem_cons_self⟩
theorem az_mem1 {H : azHd} {l : List azHd} (k : Nat) (h : l[k]? = some H) : H ∈ l := List.mem_of_getElem? h
theorem az_validS {P : List szM} (hP : sz_pkall P mzP = true) {inl : Nat → Bool} {X : List (List Value)} (hX : az_X X) {tb : List azCon} (htb : ∀ c ∈ tb, az_Valid X c) {pre hint : szD → szR → azS → azQ → Option azDir} {hb : szD → szR → azS → azQ → azHd → List szV} {rb : szD → szR → azS → azF → Option szV → azPo → List szV} {n : Nat} {c : azCon} {q : szM} (hq : P[c.1]? = some q) {hds : List azHd} (hw : az_wfb c.2.2.1 = true) (hho : ∀ H ∈ hds, az_hok c H = true)
    (h1 : ∀ ρ, az_V c.2.2.1.1 c.2.2.1.2.1 c.2.2.1.2.2.1 ρ → ∃ R', az_V c.2.2.1.1 R' c.2.2.1.2.2.1 ρ ∧ R'.length = c.2.2.1.2.1.length ∧ ∃ hs : List azHd, (∀ H' ∈ hs, H' ∈ hds) ∧ az_ex P inl c.2.1 tb c.2.2.2.2.1 pre hint (az_leaf c hs none hb rb) n c.2.2.1.1 R' c.2.2.1.2.2.1 (az_hc c q (0, c.2.2.1, (0, []), (0, 0))) = true) (h2 : ∀ H ∈ hds, ∀ ρ, az_V H.2.1.1 H.2.1.2.1 H.2.1.2.2.1 ρ → ∃ R', az_V H.2.1.1 R' H.2.1.2.2.1 ρ ∧ R'.length = H.2.1.2.1.length ∧ ∃ hs : List azHd, (∀ H' ∈ hs, H' ∈ hds) ∧ az_ex P inl c.2.1 tb c.2.2.2.2.1 pre hint (az_leaf c hs (some H.2.2.1) hb rb) n H.2.1.1 R' H.2.1.2.2.1 (az_hc c q H) = true) : az_Valid X c := by
  intro ρ h args s2 d hV hl hH hlen hd
  obtain ⟨M', p1, p2, p3, p4, p5⟩ := sz_pkall_ok hP hq
  have hed : d = c.2.1 + (d - c.2.1) := by omega
  have key : ∀ N : Nat, ∀ H ∈ hds, ∀ ρ', az_V H.2.1.1 H.2.1.2.1 H.2.1.2.2.1 ρ' → ((∀ k, k < c.2.2.1.2.1.length → ρ' k = ρ k) ∧ (c.2.2.1.2.2.2.2.2.2 = true → ρ' 1000000 = ρ 1000000)) → H.2.2.1.1 + sz_sum ρ' H.2.2.1.2 < (N : Int) → az_GG X (az_PostH c ρ h s2) c.2.2.2.2.1 h s2 (d - c.2.1) ρ' (az_hc c q H) := by
    intro N
    induction N with
    | zero =>
      intro H hHm ρ' hV' _ hr
      have := hho H hHm
      unfold az_hok at this
      simp only [Bool.and_eq_true, decide_eq_true_eq] at this
      have q1 := (sz_rs_ok hV'.2.1 H.2.2.1.2).1
      have q2 := this.2.2
      omega
    | succ N ih =>
      intro H hHm ρ' hV' hE hr
      have hok := hho H hHm
      unfold az_hok at hok
      simp only [Bool.and_eq_true, decide_eq_true_eq] at hok
      obtain ⟨⟨o1, o2⟩, o3, o4⟩ := hok
      have o2 : c.2.2.1.2.1.length ≤ H.2.1.2.1.length := Nat.le_of_ble_eq_true o2
      obtain ⟨R', hVR, hRl, hs, hsub, hex⟩ := h2 H hHm ρ' hV'
      refine az_ex_ok hP hX hlen htb (n0 := H.2.1.2.1.length) (ρ0 := ρ') ?_ n _ _ _ _ ρ' hex hVR (az_wf_len hRl (az_wfb_ok o1)) (az_ag_refl _ _) (by omega)
      intro D R Cs C ρ2 hleaf hV2 hW2 hag
      have hE2 : (∀ k, k < c.2.2.1.2.1.length → ρ2 k = ρ k) ∧ (c.2.2.1.2.2.2.2.2.2 = true → ρ2 1000000 = ρ 1000000) := ⟨fun k hk => by rw [hag.1 k (by omega), hE.1 k hk], fun hn => by rw [hag.2, hE.2 hn]⟩
      unfold az_leaf at hleaf
      rw [Bool.or_eq_true] at hleaf
      rcases hleaf with hleaf | hleaf
      · refine az_lhd_ok hP hq hlen hV2 hE2 (fun H' hH' ρ3 hV3 hE3 hr3 => ih H' (hsub H' hH') ρ3 hV3 hE3 ?_) hleaf
        have := hr3 _ rfl
        rw [az_sum_ag hag o3] at this
        omega
      · exact az_lret_ok hlen hV2 hE2 hleaf
  have hG : az_GG X (az_PostH c ρ h s2) c.2.2.2.2.1 h s2 (d - c.2.1) ρ (az_hc c q (0, c.2.2.1, (0, []), (0, 0))) := by
    obtain ⟨R', hVR, hRl, hs, hsub, hex⟩ := h1 ρ hV
    refine az_ex_ok hP hX hlen htb (n0 := c.2.2.1.2.1.length) (ρ0 := ρ) ?_ n _ _ _ _ ρ hex hVR (az_wf_len hRl (az_wfb_ok hw)) (az_ag_refl _ _) (by omega)
    intro D R Cs C ρ2 hleaf hV2 hW2 hag
    have hE2 : (∀ k, k < c.2.2.1.2.1.length → ρ2 k = ρ k) ∧ (c.2.2.1.2.2.2.2.2.2 = true → ρ2 1000000 = ρ 1000000) := ⟨fun k hk => hag.1 k hk, fun _ => hag.2⟩
    unfold az_leaf at hleaf
    rw [Bool.or_eq_true] at hleaf
    rcases hleaf with hleaf | hleaf
    · refine az_lhd_ok hP hq hlen hV2 hE2 (fun H' hH' ρ3 hV3 hE3 _ => key ((H'.2.2.1.1 + sz_sum ρ3 H'.2.2.1.2).toNat + 1) H' (hsub H' hH') ρ3 hV3 hE3 ?_) hleaf
      omega
    · exact az_lret_ok hlen hV2 hE2 hleaf
  have hHR : az_HR c.2.2.2.2.1 h ρ c.2.2.1.2.2.2.2.1 c.2.2.1.2.2.2.2.2.1 c.2.2.1.2.2.2.2.2.2 0 h := az_HR_two (mods := c.2.2.2.2.1) (h0 := h) ⟨hH.1, hH.2.1, hH.2.2.1, hH.2.2.2.1, fun _ _ _ _ => rfl, Nat.le_refl _, Nat.le_refl _⟩ hH (Nat.le_refl _)
  have := hG [] (c.1, M', 0, lv_args 0 args, []) h s2 ⟨rfl, p1, by show (q.1, q.2.2.1) = _; rw [p2, p4], p5, rfl, hl, rfl⟩ trivial hHR (Nat.le_refl _) (Nat.le_refl _)
  rw [hed]
  exact this
theorem az_valid {P : List szM} (hP : sz_pkall P mzP = true) {inl : Nat → Bool} {X : List (List Value)} (hX : az_X X) {tb : List azCon} (htb : ∀ c ∈ tb, az_Valid X c) {pre hint : szD → szR → azS → azQ → Option azDir} {hb : szD → szR → azS → azQ → azHd → List szV} {rb : szD → szR → azS → azF → Option szV → azPo → List szV} {n : Nat} {c : azCon} {q : szM} (hq : P[c.1]? = some q) {hds : List azHd} (hw : az_wfb c.2.2.1 = true) (hho : ∀ H ∈ hds, az_hok c H = true)
    (h1 : az_ex P inl c.2.1 tb c.2.2.2.2.1 pre hint (az_leaf c hds none hb rb) n c.2.2.1.1 c.2.2.1.2.1 c.2.2.1.2.2.1 (az_hc c q (0, c.2.2.1, (0, []), (0, 0))) = true) (h2 : ∀ H ∈ hds, az_ex P inl c.2.1 tb c.2.2.2.2.1 pre hint (az_leaf c hds (some H.2.2.1) hb rb) n H.2.1.1 H.2.1.2.1 H.2.1.2.2.1 (az_hc c q H) = true) : az_Valid X c := az_validS hP hX htb hq hw hho (fun ρ hV => ⟨_, hV, rfl, _, fun _ h => h, h1⟩) (fun H hH ρ hV => ⟨_, hV, rfl, _, fun _ h => h, h2 H hH⟩)
