/-! layEarly: it ends; where it answers true, all bounds hold -/
abbrev azf : Nat × szV × szV := (0, (0, 0, []), (0, 0, []))
def az_wfd : Nat → szD → Bool
  | _, [] => true
  | n, d :: D => (az_lo n d.2.1.2.2 && az_lo n d.2.2.2.2) && az_wfd (n + 1) D
set_option maxRecDepth 20000 in
theorem az_wfd_ok : ∀ {n : Nat} {D : szD}, az_wfd n D = true → ∀ k o x y, D[k]? = some (o, x, y) → az_lo (n + k) x.2.2 = true ∧ az_lo (n + k) y.2.2 = true
  | _, [], _, k, o, x, y, h => by simp at h
  | n, d :: D, hw, k, o, x, y, h => by
    unfold az_wfd at hw
    rw [Bool.and_eq_true, Bool.and_eq_true] at hw
    match k, h with
    | 0, h => cases h; exact hw.1
    | k + 1, h =>
      have := az_wfd_ok hw.2 k o x y h
      rw [show n + (k + 1) = n + 1 + k by omega]
      exact this
def az_wfc (P : azPat) : Bool := (Nat.beq P.1.length P.2.1.length && Nat.blt P.2.1.length 1000000) && (az_wfd 0 P.1 && P.2.2.1.all (fun f => az_lo P.2.1.length f.2))
set_option maxRecDepth 20000 in
theorem az_wfc_ok {P : azPat} (h : az_wfc P = true) : az_wf P.1 P.2.1 P.2.2.1 := by
  unfold az_wfc at h
  simp only [Bool.and_eq_true] at h
  obtain ⟨⟨h1, h2⟩, h3, h4⟩ := h
  refine ⟨Nat.eq_of_beq_eq_true h1, Nat.le_of_ble_eq_true h2, ?_, fun f hf => List.all_eq_true.mp h4 f hf⟩
  intro k o x y hk
  have := az_wfd_ok h3 k o x y hk
  rwa [Nat.zero_add] at this
set_option maxRecDepth 20000 in
theorem HM_hv {mods : List (Nat × Nat)} {h h' : List mzC} (hM : az_HM mods h h') {c k : Nat} (hc : c < 163) (hm : az_md mods c k = false) : hv h' c k = hv h c k := hv_eq (hM c k (by rw [azL_len]; exact hc) hm)
set_option maxRecDepth 20000 in
theorem HM_trans {m1 m2 : List (Nat × Nat)} {h h' h'' : List mzC} (h1 : az_HM m1 h h') (h2 : az_HM m2 h' h'') (hs : ∀ c k, az_md m1 c k = false → az_md m2 c k = false) : az_HM m1 h h'' := fun c k hc hm => (h2 c k hc (hs c k hm)).trans (h1 c k hc hm)
set_option maxRecDepth 20000 in
theorem HF_nil (ρ : Nat → Int) (h : List mzC) : az_HF ρ h false [] := fun q hq => by cases hq
set_option maxRecDepth 20000 in
theorem HF_cons {ρ : Nat → Int} {h : List mzC} {c : Nat} {ix : Int × szT} {v : szV} {F : azF} (i : Nat) (x : Int) (hc : c < 163) (hi : ix.1 + sz_sum ρ ix.2 = (i : Int)) (hi2 : i < 1000000) (hv : sz_v ρ v = iv x) (hs : az_slot h c i = some (iv x)) (hF : az_HF ρ h false F) : az_HF ρ h false ((c, ix, v) :: F) := by
  intro q hq
  rcases List.mem_cons.mp hq with e | e
  · subst e
    have hz : (sz_i ρ (0, ix)).toInt = (i : Int) := by
      unfold sz_i
      rw [iv_toInt (by dsimp only; omega) (by dsimp only; omega)]
      exact hi
    refine ⟨Or.inl (by rw [azL_len]; exact hc), ?_, ?_⟩
    · rw [hz]; omega
    · have h2 : az_c ρ c = c := if_neg (by omega)
      dsimp only
      rw [hz, h2, hv, Int.toNat_natCast]
      exact hs
  · exact hF q e
set_option maxRecDepth 20000 in
theorem HF_get {ρ : Nat → Int} {h : List mzC} {F : azF} (hF : az_HF ρ h false F) {c : Nat} {k : Nat} {v : szV} (hc : c < 163) (hk : k < 1000000) (hm : (c, ((k : Int), []), v) ∈ F) : az_slot h c k = some (sz_v ρ v) := by
  obtain ⟨_, _, f3⟩ := hF _ hm
  have hz : (sz_i ρ (0, ((k : Int), ([] : szT)))).toInt = (k : Int) := by
    rw [sz_i_const, iv_toInt (by omega) (by omega)]
  have h2 : az_c ρ c = c := if_neg (by omega)
  dsimp only at f3
  rw [hz, h2, Int.toNat_natCast] at f3
  exact f3
def alw (h : List mzC) (k : Nat) (t : Int) : Prop := t % 10 = 0 ∨ (hv h 142 (1 + 4 * k) ≤ 2 ∧ t % 10 + hv h 142 79 ≤ 10)
def sat1 (X : List (List Value)) (h : List mzC) (g : Int) (k o : Nat) : Prop := ∃ v, -1000000 ≤ v ∧ v ≤ 40 ∧ bh X h k o g v ∧ hv h 151 o + v ≤ hv h 151 k
set_option maxRecDepth 20000 in
theorem alw_tr {h h' : List mzC} (e : ∀ k, hv h' 142 k = hv h 142 k) {k : Nat} {t : Int} (ha : alw h k t) : alw h' k t := by
  unfold alw at ha ⊢
  rw [e, e]
  exact ha
set_option maxRecDepth 20000 in
theorem sat1_tr {X : List (List Value)} {h h' : List mzC} {mods : List (Nat × Nat)} (hT : az_HT h) (hT' : az_HT h') (hM : az_HM mods h h') (hm : mods.all (fun m => !(Nat.beq m.1 141 || (Nat.beq m.1 142 || Nat.beq m.1 151))) = true) {g : Int} {k o : Nat} (hs : sat1 X h g k o) : sat1 X h' g k o := by
  have hm1 : mods.all (fun m => !(Nat.beq m.1 141)) = true := List.all_eq_true.mpr (fun m h => by
    have := List.all_eq_true.mp hm m h
    revert this
    cases Nat.beq m.1 141 <;> simp)
  have hm2 : mods.all (fun m => !(Nat.beq m.1 142)) = true := List.all_eq_true.mpr (fun m h => by
    have := List.all_eq_true.mp hm m h
    revert this
    cases Nat.beq m.1 142 <;> simp)
  have hm3 : ∀ k, az_md mods 151 k = false := by
    intro k
    unfold az_md
    rw [List.any_eq_false]
    intro m h
    have := List.all_eq_true.mp hm m h
    revert this
    cases Nat.beq m.1 151 <;> simp
  obtain ⟨v, v1, v2, hb, hle⟩ := hs
  refine ⟨v, v1, v2, bh_to hT (HM_cell hT hT' hM azL_141 hm1) (HM_cell hT hT' hM azL_142 hm2) hb, ?_⟩
  rw [HM_hv hM (by decide) (hm3 o), HM_hv hM (by decide) (hm3 k)]
  exact hle
def mu (h : List mzC) : Nat → Int
  | 0 => 0
  | i + 1 => mu h i + hv h 151 i
set_option maxRecDepth 20000 in
theorem mu_eq {h h' : List mzC} : ∀ {n : Nat}, (∀ i, i < n → hv h' 151 i = hv h 151 i) → mu h' n = mu h n
  | 0, _ => rfl
  | n + 1, e => by
    show mu h' n + hv h' 151 n = mu h n + hv h 151 n
    rw [mu_eq (fun i hi => e i (by omega)), e n (by omega)]
set_option maxRecDepth 20000 in
theorem mu_up {h h' : List mzC} {k : Nat} : ∀ {n : Nat}, k < n → (∀ i, i < n → i ≠ k → hv h' 151 i = hv h 151 i) → mu h' n = mu h n + (hv h' 151 k - hv h 151 k)
  | 0, hk, _ => by omega
  | n + 1, hk, e => by
    show mu h' n + hv h' 151 n = mu h n + hv h 151 n + _
    by_cases hn : k = n
    · subst hn
      rw [mu_eq (fun i hi => e i (by omega) (by omega))]
      omega
    · rw [mu_up (by omega) (fun i hi hik => e i (by omega) hik), e n (by omega) (fun h => hn h.symm)]
      omega
set_option maxRecDepth 20000 in
theorem mu_le {h : List mzC} : ∀ {n : Nat}, (∀ i, i < n → hv h 151 i ≤ 999) → mu h n ≤ 999 * (n : Int)
  | 0, _ => by simp [mu]
  | n + 1, e => by
    show mu h n + hv h 151 n ≤ _
    have := mu_le (n := n) (fun i hi => e i (by omega))
    have := e n (by omega)
    omega
set_option maxRecDepth 20000 in
theorem mu_ge {h : List mzC} : ∀ {n : Nat}, (∀ i, i < n → 0 ≤ hv h 151 i) → 0 ≤ mu h n
  | 0, _ => by simp [mu]
  | n + 1, e => by
    show 0 ≤ mu h n + hv h 151 n
    have := mu_ge (n := n) (fun i hi => e i (by omega))
    have := e n (by omega)
    omega
theorem hv_early {h : List mzC} (hT : az_HT h) {k : Nat} (hk : k < 10) : az_slot h 151 k = some (iv (hv h 151 k)) ∧ 0 ≤ hv h 151 k ∧ hv h 151 k ≤ 1060 := hv_arr hT (c := 151) (t := 1) (n := 10) (g := 34) (by decide +kernel) (by decide +kernel) hk
/-- the pieces -/
def leQ : szM := (7, 12, (0, 0, 0), szc_123)
set_option maxRecDepth 20000 in
theorem leQ_ok : szP[123]? = some leQ := rfl
def leEI (nn : Nat) : azHd := (37, ([azf, azf], [(1, 200), ((nn : Int), (nn : Int))], [], [(1, 145, []), (0, 0, [(0, 1)]), (0, 0, [(1, 1)]), (0, 0, []), (0, 0, []), (0, 0, [])], (List.range nn).map (fun (i : Nat) => (151, ((i : Int), []), (0, 0, []))), [], false), (0, []), (0, 0))
def leEIs : List azHd := (List.range 10).map (fun i => leEI (i + 1))
def leCI : azCon := (123, 4, ([azf, azf], [(1, 200), (0, 10)], [], [(1, 145, []), (0, 0, [(0, 1)])], [(142, (0, []), (0, 0, [(1, 1)]))], [], false), [(some (some (0, 1, [])), [azf, azf], [(1, 200), (0, 0)], [], [])], [(151, 0)], (0, 0))
theorem leRI : az_ex szP az_inl leCI.2.1 [] leCI.2.2.2.2.1 (fun _ => az_pre 123 []) (az_hint []) (az_sleaf szP az_inl [] (fun _ => az_pre 123 []) (az_hint []) leCI leEIs (az_hb 2) (az_rb 2) none 0) 20000 leCI.2.2.1.1 leCI.2.2.1.2.1 leCI.2.2.1.2.2.1 (az_hc leCI leQ (0, leCI.2.2.1, (0, []), (0, 0))) = true := by decide +kernel
def leCF : azCon := (123, 4, ([azf, azf, azf, azf, azf, azf, azf, azf], [(1, 200), (1, 10), (0, 1), (0, 9), (0, 9), (0, 999), (0, 999), ((-1000000), 40)], [((-1), [(1, 1), (3, (-1))]), ((-1), [(1, 1), (4, (-1))]), (0, [(5, (-1)), (6, 1), (7, (-1))])], [(1, 145, []), (0, 0, [(0, 1)]), (0, 0, [(1, 1)]), (0, 0, [(2, 1)]), (0, 0, [(3, 1)]), (0, 0, [(4, 1)])], [(151, (0, [(4, 1)]), (0, 0, [(5, 1)])), (151, (0, [(3, 1)]), (0, 0, [(6, 1)]))], [], false), [], [], (0, 0))
def leEF : azHd := (73, ([azf, azf, azf, azf, azf, azf, azf, azf], [(1, 200), (1, 10), (0, 1), (0, 9), (0, 9), (0, 999), (0, 999), ((-1000000), 40)], [], [(1, 145, []), (0, 0, [(0, 1)]), (0, 0, [(1, 1)]), (0, 0, [(2, 1)]), (0, 0, [(3, 1)]), (0, 0, [(4, 1)])], [], [], false), (0, []), (0, 0))
def leKF : Nat × azCon × List szV := (45, bhC, [(0, 0, [(3, 1)]), (0, 0, [(4, 1)]), (0, 0, [(0, 1)]), (0, 0, [(7, 1)])])
theorem leRF : az_ex szP az_inl leCF.2.1 [] leCF.2.2.2.2.1 (fun _ => az_pre 123 []) (az_hint []) (az_sleaf szP az_inl [] (fun _ => az_pre 123 []) (az_hint []) leCF [leEF] (az_hb 8) (az_rb 8) (some leKF) 1000) 1000 leCF.2.2.1.1 leCF.2.2.1.2.1 leCF.2.2.1.2.2.1 (az_hc leCF leQ (37, leCF.2.2.1, (0, []), (0, 0))) = true := by decide +kernel
def leRs (k : Nat) : szR := [(1, 200), (1, 10), (0, 1), ((k : Int), (k : Int)), (0, 9), (0, 999), (0, 999), (1, 1039), (0, 9), (0, 5), (1, 10)]
def leDs : szD := [azf, azf, azf, azf, azf, azf, azf, azf, azf, azf, azf]
def leCG (k : Nat) : azCon := (123, 4, ([azf, azf, azf, azf, azf, azf, azf, azf, (20, (0, 0, [(7, 1)]), (0, 10, [])), azf, azf], leRs k, [((-1), [(1, 1), (3, (-1))]), ((-1), [(1, 1), (4, (-1))]), ((-1), [(6, (-1)), (7, 1)]), (40, [(5, 1), (7, (-1))])], [(1, 145, []), (0, 0, [(0, 1)]), (0, 0, [(1, 1)]), (0, 0, [(2, 1)]), (0, (k : Int), []), (0, 0, [(4, 1)])], [(151, (0, [(4, 1)]), (0, 0, [(5, 1)])), (151, ((k : Int), []), (0, 0, [(6, 1)])), (142, (((1 + 4 * k : Nat) : Int), []), (0, 0, [(9, 1)])), (142, (79, []), (0, 0, [(10, 1)]))], [], false), [(some (some (0, 0, [])), leDs, leRs k, [], [])], [(151, k + 1)], (0, 0))
def leEG (k : Nat) (Cs : azS) (v : szV) : azHd := (73, (leDs, leRs k, Cs, [(1, 145, []), (0, 0, [(0, 1)]), (0, 0, [(1, 1)]), (0, 1, []), (0, (k : Int), []), (0, 0, [(4, 1)])], [(151, ((k : Int), []), v)], [], false), (0, []), (0, 0))
def leEGs (k : Nat) : List azHd := [leEG k [(2, [(9, (-1))]), (10, [(8, (-1)), (10, (-1))]), (999, [(7, (-1))])] (0, 0, [(7, 1)]), leEG k [((-3), [(9, 1)]), (0, [(8, (-1))]), (999, [(7, (-1))])] (0, 0, [(7, 1)]), leEG k [(989, [(7, (-1)), (8, 1)])] (0, 10, [(7, 1), (8, (-1))])]
def leKG (k : Nat) : Nat × azCon × List szV := (45, bhC, [(0, (k : Int), []), (0, 0, [(4, 1)]), (0, 0, [(0, 1)]), (0, 0, [(5, (-1)), (7, 1)])])
theorem leRGs : (List.range 10).all (fun k => az_ex szP az_inl (leCG k).2.1 [] (leCG k).2.2.2.2.1 (fun _ => az_pre 123 []) (az_hint []) (az_sleaf szP az_inl [] (fun _ => az_pre 123 []) (az_hint []) (leCG k) (leEGs k) (az_hb 11) (az_rb 11) (some (leKG k)) 1000) 1000 (leCG k).2.2.1.1 (leCG k).2.2.1.2.1 (leCG k).2.2.1.2.2.1 (az_hc (leCG k) leQ (37, (leCG k).2.2.1, (0, []), (0, 0)))) = true := by decide +kernel
def leR5 : szR := [(1, 200), (1, 10), (0, 1), (0, 9), (0, 9)]
def leD5 : szD := [azf, azf, azf, azf, azf]
def leCN : azCon := (123, 4, (leD5, leR5, [((-1), [(1, 1), (3, (-1))]), ((-1), [(1, 1), (4, (-1))])], [(1, 145, []), (0, 0, [(0, 1)]), (0, 0, [(1, 1)]), (0, 0, [(2, 1)]), (0, 0, [(3, 1)]), (0, 0, [(4, 1)])], [], [], false), [(some (some (0, 1, [])), leD5, leR5, [(0, [(2, (-1))]), (1, [(1, (-1)), (4, 1)]), (1, [(1, (-1)), (3, 1)])], [])], [], (0, 0))
def leEN1 : azHd := (37, (leD5, leR5, [((-2), [(1, 1), (4, (-1))])], [(1, 145, []), (0, 0, [(0, 1)]), (0, 0, [(1, 1)]), (0, 0, [(2, 1)]), (0, 0, [(3, 1)]), (0, 1, [(4, 1)])], [], [], false), (0, []), (0, 0))
def leEN2 : azHd := (37, (leD5, leR5, [(1, [(1, (-1)), (4, 1)]), ((-2), [(1, 1), (3, (-1))])], [(1, 145, []), (0, 0, [(0, 1)]), (0, 0, [(1, 1)]), (0, 0, [(2, 1)]), (0, 1, [(3, 1)]), (0, 0, [])], [], [], false), (0, []), (0, 0))
def leEN3 : azHd := (37, (leD5, leR5, [((-1), [(2, 1)]), (1, [(1, (-1)), (4, 1)]), (1, [(1, (-1)), (3, 1)])], [(1, 145, []), (0, 0, [(0, 1)]), (0, 0, [(1, 1)]), (0, 0, []), (0, 0, []), (0, 0, [])], [], [], false), (0, []), (0, 0))
theorem leRN : az_ex szP az_inl leCN.2.1 [] leCN.2.2.2.2.1 (fun _ => az_pre 123 []) (az_hint []) (az_sleaf szP az_inl [] (fun _ => az_pre 123 []) (az_hint []) leCN [leEN1, leEN2, leEN3] (az_hb 5) (az_rb 5) none 0) 1000 leCN.2.2.1.1 leCN.2.2.1.2.1 leCN.2.2.1.2.2.1 (az_hc leCN leQ (73, leCN.2.2.1, (0, []), (0, 0))) = true := by decide +kernel
