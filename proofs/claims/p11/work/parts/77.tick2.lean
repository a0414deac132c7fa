/-! goTick: whole -/
def cb (f : Nat → Bool) : Nat → Nat
  | 0 => 0
  | j + 1 => cb f j + (bif f j then 1 else 0)
set_option maxRecDepth 20000 in
theorem cb_mono {f g : Nat → Bool} : ∀ {n : Nat}, (∀ j, j < n → f j = true → g j = true) → cb f n ≤ cb g n
  | 0, _ => Nat.le_refl _
  | n + 1, h => by
    have ih := cb_mono (f := f) (g := g) (n := n) (fun j hj => h j (by omega))
    have := h n (by omega)
    show cb f n + (bif f n then 1 else 0) ≤ cb g n + (bif g n then 1 else 0)
    cases hf : f n with
    | false => simp only [cond_false]; omega
    | true => rw [this hf]; simp only [cond_true]; omega
set_option maxRecDepth 20000 in
theorem cb_lt {f g : Nat → Bool} {k : Nat} (h1 : f k = false) (h2 : g k = true) : ∀ {n : Nat}, k < n → (∀ j, j < n → f j = true → g j = true) → cb f n + 1 ≤ cb g n
  | 0, hk, _ => by omega
  | n + 1, hk, h => by
    show cb f n + (bif f n then 1 else 0) + 1 ≤ cb g n + (bif g n then 1 else 0)
    by_cases hn : k = n
    · subst hn
      have := cb_mono (f := f) (g := g) (n := k) (fun j hj => h j (by omega))
      rw [h1, h2]
      simp only [cond_true, cond_false]
      omega
    · have ih := cb_lt h1 h2 (n := n) (by omega) (fun j hj => h j (by omega))
      have := h n (by omega)
      cases hf : f n with
      | false => simp only [cond_false]; omega
      | true => rw [this hf]; simp only [cond_true]; omega
set_option maxRecDepth 20000 in
theorem cb_true : ∀ {n : Nat}, cb (fun _ => true) n = n
  | 0 => rfl
  | n + 1 => by
    show cb (fun _ => true) n + 1 = n + 1
    rw [cb_true]
/-- acts that were looked at: part and act -/
def gtf (h : List mzC) (p : Int) (k : Nat) (j : Nat) : Bool := decide (hv h 153 j % 10 < p) || (decide (hv h 153 j % 10 = p) && decide (j < k))
set_option maxRecDepth 20000 in
theorem gtf_ok {h : List mzC} {p : Int} {k j : Nat} : gtf h p k j = true ↔ (hv h 153 j % 10 < p ∨ (hv h 153 j % 10 = p ∧ j < k)) := by
  unfold gtf
  simp
set_option maxRecDepth 20000 in
theorem hv_where {h : List mzC} (hT : az_HT h) {k : Nat} (hk : k < 10) : az_slot h 158 k = some (iv (hv h 158 k)) := by
  have ht : az_ty (1, 10, 37, []) k = some (0, 0, [(0, 0), (41, 72)]) := by
    unfold az_ty
    have : Nat.blt k 10 = true := Nat.ble_eq_true_of_le hk
    dsimp only
    rw [this]
    show sz_nth azTs 36 = _
    rw [sz_nth_eq]
    decide +kernel
  obtain ⟨v, v1, v2⟩ := az_slot_of (hT 158 (1, 10, 37, []) (by decide +kernel)) ht
  obtain ⟨x, e, _⟩ := v2
  subst e
  exact hv_iv v1
def gtMd : List (Nat × Nat) := [(142, 0), (149, 0), (158, 0), (159, 0)]
def gtMe : List (Nat × Nat) := [(149, 0), (158, 0), (159, 0)]
set_option maxRecDepth 20000 in
theorem md_gt1 : ∀ c k, az_md gtMd c k = false → az_md gtMe c k = false := by
  intro c k h
  have h : az_md ([(142, 0)] ++ [(149, 0), (158, 0), (159, 0)]) c k = false := h
  show az_md [(149, 0), (158, 0), (159, 0)] c k = false
  unfold az_md at h ⊢
  rw [List.any_append, Bool.or_eq_false_iff] at h
  exact h.2
set_option maxRecDepth 20000 in
theorem md_gt2 : ∀ c k, az_md gtMd c k = false → az_md [(142, 0)] c k = false := by
  intro c k h
  have h : az_md ([(142, 0)] ++ [(149, 0), (158, 0), (159, 0)]) c k = false := h
  unfold az_md at h ⊢
  rw [List.any_append, Bool.or_eq_false_iff] at h
  exact h.1
set_option maxRecDepth 20000 in
theorem md_gt3 {m : Nat} : ∀ c k, az_md gtMe c k = false → az_md [(149, 0), (158, m + 1), (159, 0)] c k = false := by
  intro c k h
  have h : az_md ([(149, 0)] ++ ([(158, 0)] ++ [(159, 0)])) c k = false := h
  show az_md ([(149, 0)] ++ ([(158, m + 1)] ++ [(159, 0)])) c k = false
  have e : ∀ m1 m2 : List (Nat × Nat), az_md (m1 ++ m2) c k = (az_md m1 c k || az_md m2 c k) := fun m1 m2 => by unfold az_md; rw [List.any_append]
  rw [e, e, Bool.or_eq_false_iff, Bool.or_eq_false_iff] at h
  rw [e, e, h.1, md_sub c k h.2.1, h.2.2]
  rfl
def gtK (h0 : List mzC) (s0 : Nat × Nat) (o : Option (Option Value)) (s' : mzS) : Prop := az_Tp s'.1 ∧ az_HM gtMd h0 s'.1 ∧ s'.1.length = h0.length ∧ s'.2.1 ≤ s0.1 ∧ s'.2.2 ≤ s0.2 ∧ o = some none
set_option maxRecDepth 20000 in
theorem gt_writes {X : List (List Value)} (hX : az_X X) {h0 : List mzC} {s0 : Nat × Nat} (hlen : h0.length + 7000 < 2147483648) {t n g : Int} (ht : -2147483648 ≤ t ∧ t ≤ 2147483647) (hn : 0 ≤ n ∧ n ≤ 40) (hg : 1 ≤ g ∧ g ≤ 200) {d : Nat} (hd : 5 ≤ d) {m : Nat} (hm : m ≤ 10) : ∀ (r j : Nat) (h : List mzC) (s2 : Nat × Nat) (lo : mzL), az_Tp h → az_HM gtMd h0 h → h.length = h0.length → s2.1 ≤ s0.1 → s2.2 ≤ s0.2 → j + r = m → (∀ i, i < m → 41 ≤ hv h 158 i ∧ hv h 158 i ≤ 72) → az_ml lo [.ref 145, iv t, iv n, iv g, iv m, iv j] → mz_gg X (gtK h0 s0) d 166 96 lo [] (h, s2) := by
  intro r
  induction r with
  | zero =>
    intro j h s2 lo hT hM0 hl hs1 hs2 hj hw hlo
    have e : j = m := by omega
    subst e
    refine az_go (c := gtC5) (ends := []) (i0 := 96) (ρ := rho [t, n, g, (j : Int)] ((h.length : Int) + 4)) sz_pkall_szP hX (tb := []) (fun c hc => by cases hc) gtQ_ok (az_wfc_ok rfl) gtR5 rfl rfl rfl (by show h.length + 1000 * (5 + 2) < 2147483648; omega) rfl hd ?_ hT (HF_nil _ _) ?_ (fun k hk => by cases hk) ?_ (fun E hE => by cases hE)
    · exact rho_V (rho_free rfl _) (show rin [((-2147483648), 2147483647), (0, 40), (1, 200), (0, 10)] [t, n, g, (j : Int)] from by simp only [rin, and_true]; omega) rfl (by omega) (by decide) trivial
    · exact ml6rb hlo (show (0 : Int) + (1 * t + 0) = t by omega) (show (0 : Int) + (1 * n + 0) = n by omega) (show (0 : Int) + (1 * g + 0) = g by omega) (show (0 : Int) + (1 * (j : Int) + 0) = j by omega) (show (0 : Int) + (1 * (j : Int) + 0) = j by omega)
    · intro p hp ρ' h' s3 w1 ag hT' hM' hF' hl' b1 b2
      have hp := List.mem_singleton.mp hp
      subst hp
      exact ⟨hT', HM_trans hM0 hM' (fun _ _ _ => rfl), by show h'.length = _; omega, by show s3.1 ≤ _; omega, by show s3.2 ≤ _; omega, rfl⟩
  | succ r ih =>
    intro j h s2 lo hT hM0 hl hs1 hs2 hj hw hlo
    have ew := hv_where hT.1 (k := j) (by omega)
    have bw := hw j (by omega)
    refine az_go (c := gtC4) (ends := [gtE4]) (i0 := 96) (ρ := rho [t, n, g, (m : Int), (j : Int), hv h 158 j] ((h.length : Int) + 4)) sz_pkall_szP hX (tb := []) (fun c hc => by cases hc) gtQ_ok (az_wfc_ok rfl) gtR4 rfl rfl rfl (by show h.length + 1000 * (5 + 2) < 2147483648; omega) rfl hd ?_ hT ?_ ?_ (fun k hk => by cases hk) (fun p hp => by cases hp) ?_
    · exact rho_V (rho_free rfl _) (show rin [((-2147483648), 2147483647), (0, 40), (1, 200), (1, 10), (0, 9), (41, 72)] [t, n, g, (m : Int), (j : Int), hv h 158 j] from by simp only [rin, and_true]; omega) rfl (by omega) (by decide) (show 0 ≤ (-1 : Int) + (1 * (m : Int) + ((-1) * (j : Int) + 0)) ∧ True from ⟨by omega, trivial⟩)
    · exact HF_cons j (hv h 158 j) (by decide) (show (0 : Int) + (1 * (j : Int) + 0) = j by omega) (by omega) (sz_v_eq (show (0 : Int) + (1 * hv h 158 j + 0) = _ by omega)) ew (HF_nil _ _)
    · exact ml6rb hlo (show (0 : Int) + (1 * t + 0) = t by omega) (show (0 : Int) + (1 * n + 0) = n by omega) (show (0 : Int) + (1 * g + 0) = g by omega) (show (0 : Int) + (1 * (m : Int) + 0) = m by omega) (show (0 : Int) + (1 * (j : Int) + 0) = j by omega)
    · intro E hE ρ' h' s3 lo' w1 ag hT' hM' hF' hl' b1 b2 hml
      have ee := List.mem_singleton.mp hE
      subst ee
      have a0 : ρ' 0 = t := ag 0 (by decide)
      have a1 : ρ' 1 = n := ag 1 (by decide)
      have a2 : ρ' 2 = g := ag 2 (by decide)
      have a3 : ρ' 3 = m := ag 3 (by decide)
      have a4 : ρ' 4 = j := ag 4 (by decide)
      refine ih (j + 1) h' s3 lo' hT' (HM_trans hM0 hM' md_gt2) (by omega) (by omega) (by omega) (by omega) (fun i hi => by rw [HM_hv hM' (by decide) (md_other (by decide))]; exact hw i hi) (ml6b hml (show (0 : Int) + (1 * ρ' 0 + 0) = t by omega) (show (0 : Int) + (1 * ρ' 1 + 0) = n by omega) (show (0 : Int) + (1 * ρ' 2 + 0) = g by omega) (show (0 : Int) + (1 * ρ' 3 + 0) = (m : Int) by omega) (show (1 : Int) + (1 * ρ' 4 + 0) = ((j + 1 : Nat) : Int) by omega))
def gtS (h0 : List mzC) (s0 : Nat × Nat) (N : Nat) (h : List mzC) (s2 : Nat × Nat) (m : Nat) (p : Int) (k : Nat) : Prop := az_Tp h ∧ az_HM gtMe h0 h ∧ h.length = h0.length ∧ s2.1 ≤ s0.1 ∧ s2.2 ≤ s0.2 ∧ hv h 142 0 = (N : Int) ∧ (0 ≤ p ∧ p ≤ 9) ∧ k ≤ N ∧ m ≤ cb (gtf h0 p k) N ∧ (∀ i, i < m → 41 ≤ hv h 158 i ∧ hv h 158 i ≤ 72)
set_option maxRecDepth 20000 in
theorem md_where {m i : Nat} (h : i ≠ m) : az_md [(149, 0), (158, m + 1), (159, 0)] 158 i = false := by
  show az_md ([(149, 0)] ++ ([(158, m + 1)] ++ [(159, 0)])) 158 i = false
  have e : ∀ m1 m2 : List (Nat × Nat), az_md (m1 ++ m2) 158 i = (az_md m1 158 i || az_md m2 158 i) := fun m1 m2 => by unfold az_md; rw [List.any_append]
  rw [e, e, md_other (by decide), md_one h, md_other (by decide)]
  rfl
set_option maxRecDepth 20000 in
theorem mem_ty {k : Nat} (hk : k < 10) : az_ty azC142 (2 + 4 * k) = some (0, 0, [((-1), 1)]) := by
  match k, hk with
  | 0, _ => decide +kernel
  | 1, _ => decide +kernel
  | 2, _ => decide +kernel
  | 3, _ => decide +kernel
  | 4, _ => decide +kernel
  | 5, _ => decide +kernel
  | 6, _ => decide +kernel
  | 7, _ => decide +kernel
  | 8, _ => decide +kernel
  | 9, _ => decide +kernel
  | k + 10, h => omega
set_option maxRecDepth 20000 in
theorem mem_pr {k : Nat} (hk : k < 10) : azPs[140 + k]? = some (142, 1 + 4 * k, (-1), 142, 2 + 4 * k, 2, 5) := by
  match k, hk with
  | 0, _ => exact rfl
  | 1, _ => exact rfl
  | 2, _ => exact rfl
  | 3, _ => exact rfl
  | 4, _ => exact rfl
  | 5, _ => exact rfl
  | 6, _ => exact rfl
  | 7, _ => exact rfl
  | 8, _ => exact rfl
  | 9, _ => exact rfl
  | k + 10, h => omega
set_option maxRecDepth 20000 in
theorem mem_ok {h : List mzC} (hT : az_Tp h) {k : Nat} (hk : k < 10) (h5 : hv h 142 (1 + 4 * k) = 5) : az_slot h 142 (2 + 4 * k) = some (iv (hv h 142 (2 + 4 * k))) ∧ 0 ≤ hv h 142 (2 + 4 * k) ∧ hv h 142 (2 + 4 * k) ≤ 1 := by
  obtain ⟨e1, e2, e3⟩ := hv_slot hT.1 azL_142 (mem_ty hk)
  obtain ⟨x, y, x1, y1, xy⟩ := hT.2 _ _ (mem_pr hk) (by simp)
  have x1 : az_slot h 142 (1 + 4 * k) = some (.int x) := x1
  have y1 : az_slot h 142 (2 + 4 * k) = some (.int y) := y1
  have xy : 0 ≤ (-1) * x.toInt + 2 * y.toInt + 5 := xy
  rw [hv_at x1] at h5
  rw [hv_at y1] at e2 e3 ⊢
  rw [← hv_at y1]
  refine ⟨e1, ?_, ?_⟩
  · rw [hv_at y1]; omega
  · rw [hv_at y1]; omega
set_option maxRecDepth 20000 in
theorem gt_loop {X : List (List Value)} (hX : az_X X) (hL : az_Valid X vlB) {h0 : List mzC} {s0 : Nat × Nat} (hlen : h0.length + 7000 < 2147483648) {N : Nat} (hN : N ≤ 10) {t n g : Int} (ht : -2147483648 ≤ t ∧ t ≤ 2147483647) (hn : 0 ≤ n ∧ n ≤ 40) (hg : 1 ≤ g ∧ g ≤ 200) {d : Nat} (hd : 5 ≤ d) : ∀ (r : Nat) (p k m : Nat) (h : List mzC) (s2 : Nat × Nat) (lo : mzL), (9 - p) * 11 + (N - k) = r → gtS h0 s0 N h s2 m p k → az_ml lo [.ref 145, iv t, iv n, iv g, iv m, iv p, iv k] → mz_gg X (gtK h0 s0) d 166 9 lo [] (h, s2) := by
  intro r
  induction r using Nat.strongRecOn with
  | ind r ih =>
  intro p k m h s2 lo hr hS hlo
  obtain ⟨hT, hM0, hl, hs1, hs2, hNv, hp, hkN, hm, hw⟩ := hS
  obtain ⟨en, en1, en2⟩ := hv_slot hT.1 azL_142 many_ty
  have hcn : cb (gtf h0 p k) N ≤ N := by
    have := cb_mono (f := gtf h0 p k) (g := fun _ => true) (n := N) (fun _ _ _ => rfl)
    rw [cb_true] at this
    exact this
  have e153 : ∀ j, hv h 153 j = hv h0 153 j := fun j => HM_hv hM0 (by decide) (by show az_md [(149, 0), (158, 0), (159, 0)] 153 j = false; rfl)
  by_cases hk : k = N
  · subst hk
    refine az_go (c := gtC3) (ends := [gtE3a, gtE3b]) (i0 := 9) (ρ := rho [t, n, g, (p : Int), (k : Int), (m : Int)] ((h.length : Int) + 4)) sz_pkall_szP hX (tb := []) (fun c hc => by cases hc) gtQ_ok (az_wfc_ok rfl) gtR3' rfl rfl rfl (by show h.length + 1000 * (5 + 2) < 2147483648; omega) rfl hd ?_ hT ?_ ?_ (fun k hk => by cases hk) (fun p hp => by cases hp) ?_
    · exact rho_V (rho_free rfl _) (show rin [((-2147483648), 2147483647), (0, 40), (1, 200), (0, 9), (0, 10), (0, 10)] [t, n, g, (p : Int), (k : Int), (m : Int)] from by simp only [rin, and_true]; omega) rfl (by omega) (by decide) trivial
    · exact HF_cons 0 (k : Int) (by decide) (show (0 : Int) + 0 = ((0 : Nat) : Int) by omega) (by omega) (sz_v_eq (show (0 : Int) + (1 * (k : Int) + 0) = _ by omega)) (by rw [en, hNv]) (HF_nil _ _)
    · exact ml7r hlo (show (0 : Int) + (1 * t + 0) = t by omega) (show (0 : Int) + (1 * n + 0) = n by omega) (show (0 : Int) + (1 * g + 0) = g by omega) (show (0 : Int) + (1 * (m : Int) + 0) = m by omega) (show (0 : Int) + (1 * (p : Int) + 0) = p by omega) (show (0 : Int) + (1 * (k : Int) + 0) = k by omega)
    · intro E hE ρ' h' s3 lo' w1 ag hT' hM' hF' hl' b1 b2 hml
      have a0 : ρ' 0 = t := ag 0 (by decide)
      have a1 : ρ' 1 = n := ag 1 (by decide)
      have a2 : ρ' 2 = g := ag 2 (by decide)
      have a3 : ρ' 3 = p := ag 3 (by decide)
      have a5 : ρ' 5 = m := ag 5 (by decide)
      have e : ∀ c j, c < 163 → hv h' c j = hv h c j := fun c j hc => HM_hv hM' hc rfl
      have hw' : ∀ i, i < m → 41 ≤ hv h' 158 i ∧ hv h' 158 i ≤ 72 := fun i hi => by rw [e 158 i (by decide)]; exact hw i hi
      rcases List.mem_cons.mp hE with ee | hE
      · subst ee
        have c1 : 0 ≤ (8 : Int) + ((-1) * ρ' 3 + 0) := w1.2.2.1 _ (List.Mem.head _)
        refine ih ((9 - (p + 1)) * 11 + (k - 0)) (by omega) (p + 1) 0 m h' s3 lo' rfl ⟨hT', HM_trans hM0 hM' (fun _ _ _ => rfl), by omega, by omega, by omega, by rw [e 142 0 (by decide)]; exact hNv, by omega, by omega, ?_, hw'⟩ (ml7 hml (show (0 : Int) + (1 * ρ' 0 + 0) = t by omega) (show (0 : Int) + (1 * ρ' 1 + 0) = n by omega) (show (0 : Int) + (1 * ρ' 2 + 0) = g by omega) (show (0 : Int) + (1 * ρ' 5 + 0) = (m : Int) by omega) (show (1 : Int) + (1 * ρ' 3 + 0) = ((p + 1 : Nat) : Int) by omega) (show (0 : Int) + 0 = ((0 : Nat) : Int) by omega))
        refine Nat.le_trans hm (cb_mono (fun j hj hf => ?_))
        rw [gtf_ok] at hf ⊢
        omega
      · have ee := List.mem_singleton.mp hE
        subst ee
        exact gt_writes hX hlen ht hn hg hd (by omega) m 0 h' s3 lo' hT' (fun c j hc hmd => by rw [hM' c j hc rfl, hM0 c j hc (md_gt1 c j hmd)]) (by omega) (by omega) (by omega) (by omega) hw' (ml6b hml (show (0 : Int) + (1 * ρ' 0 + 0) = t by omega) (show (0 : Int) + (1 * ρ' 1 + 0) = n by omega) (show (0 : Int) + (1 * ρ' 2 + 0) = g by omega) (show (0 : Int) + (1 * ρ' 5 + 0) = (m : Int) by omega) (show (0 : Int) + 0 = ((0 : Nat) : Int) by omega))
  · have hk10 : k < 10 := by omega
    obtain ⟨ep, ep1, ep2⟩ := hv_put hT.1 hk10
    have hmono : cb (gtf h0 p k) N ≤ cb (gtf h0 p (k + 1)) N := cb_mono (fun j hj hf => by
      rw [gtf_ok] at hf ⊢
      omega)
    by_cases hdp : hv h 153 k % 10 = p
    · have hm9 : m + 1 ≤ N := by
        have := cb_lt (f := gtf h0 p k) (g := fun _ => true) (k := k) (by
          cases hf : gtf h0 p k k with
          | false => rfl
          | true =>
            rw [gtf_ok, ← e153] at hf
            omega) rfl (n := N) (by omega) (fun _ _ _ => rfl)
        rw [cb_true] at this
        omega
      have hlt : cb (gtf h0 p k) N + 1 ≤ cb (gtf h0 p (k + 1)) N := cb_lt (k := k) (by
        cases hf : gtf h0 p k k with
        | false => rfl
        | true =>
          rw [gtf_ok, ← e153] at hf
          omega) (by rw [gtf_ok, ← e153]; omega) (by omega) (fun j hj hf => by
          rw [gtf_ok] at hf ⊢
          omega)
      obtain ⟨es, es1, es2⟩ := hv_slot hT.1 azL_142 (sort_ty hk10)
      have fN : ∀ (ρ : Nat → Int) (F : azF) (a : Nat), ρ a = N → az_HF ρ h false F → az_HF ρ h false ((142, (0, []), (0, 0, [(a, 1)])) :: F) := fun ρ F a ha hF => HF_cons 0 (N : Int) (by decide) (show (0 : Int) + 0 = ((0 : Nat) : Int) by omega) (by omega) (sz_v_eq (show (0 : Int) + (1 * ρ a + 0) = _ by omega)) (by rw [en, hNv]) hF
      by_cases h5 : hv h 142 (1 + 4 * k) = 5
      · obtain ⟨em, em1, em2⟩ := mem_ok hT hk10 h5
        have hrun := List.all_eq_true.mp (gtR6s k hk10) m (List.mem_range.mpr (by omega))
        refine az_go (c := gtC6 k m) (ends := [gtE6a k m, gtE6b k m]) (i0 := 9) (ρ := rho [t, n, g, (N : Int), hv h 153 k, (p : Int), hv h 142 (2 + 4 * k)] ((h.length : Int) + 4)) sz_pkall_szP hX (tb := [vlB]) (List.forall_mem_cons.mpr ⟨hL, fun _ h => by cases h⟩) gtQ_ok (az_wfc_ok rfl) hrun rfl rfl rfl (by show h.length + 1000 * (5 + 2) < 2147483648; omega) rfl hd ?_ hT ?_ ?_ (fun k hk => by cases hk) (fun p hp => by cases hp) ?_
        · refine rho_V ⟨?_, ?_⟩ (show rin [((-2147483648), 2147483647), (0, 40), (1, 200), ((k : Int) + 1, 10), (0, 60000), (0, 9), (0, 1)] [t, n, g, (N : Int), hv h 153 k, (p : Int), hv h 142 (2 + 4 * k)] from by simp only [rin, and_true]; omega) ?_ (by omega) (by show 7 ≤ 1000000; decide) trivial
          · intro j op x y hj hop
            match j, hj with
            | 5, hj =>
              cases hj
              show (p : Int) = (sz_op 20 (Int32.ofInt ((0 : Int) + (1 * hv h 153 k + 0))) (Int32.ofInt ((10 : Int) + 0))).toInt
              rw [show (0 : Int) + (1 * hv h 153 k + 0) = hv h 153 k by omega, Int.add_zero, op20 ep1 (by omega), hdp]
            | 0, hj => cases hj; exact absurd rfl hop
            | 1, hj => cases hj; exact absurd rfl hop
            | 2, hj => cases hj; exact absurd rfl hop
            | 3, hj => cases hj; exact absurd rfl hop
            | 4, hj => cases hj; exact absurd rfl hop
            | 6, hj => cases hj; exact absurd rfl hop
            | j + 7, hj => simp [gtC6] at hj
          · intro j x y hj hx
            match j, hj with
            | 5, hj => cases hj
            | 0, hj => cases hj; exact absurd rfl hx
            | 1, hj => cases hj; exact absurd rfl hx
            | 2, hj => cases hj; exact absurd rfl hx
            | 3, hj => cases hj; exact absurd rfl hx
            | 4, hj => cases hj; exact absurd rfl hx
            | 6, hj => cases hj; exact absurd rfl hx
            | j + 7, hj => simp [gtC6] at hj
          · show List.all [((-2147483648 : Int), (2147483647 : Int)), (0, 40), (1, 200), ((k : Int) + 1, 10), (0, 60000), (0, 9), (0, 1)] _ = true
            simp only [List.all_cons, List.all_nil, Bool.and_eq_true, decide_eq_true_eq, Bool.and_true]
            omega
        · exact fN _ _ 3 rfl (HF_cons k (hv h 153 k) (by decide) (show (k : Int) + 0 = k by omega) (by omega) (sz_v_eq (show (0 : Int) + (1 * hv h 153 k + 0) = _ by omega)) ep (HF_cons (1 + 4 * k) 5 (by decide) (show ((1 + 4 * k : Nat) : Int) + 0 = ((1 + 4 * k : Nat) : Int) by omega) (by omega) (sz_v_eq (show (5 : Int) + 0 = 5 by omega)) (by rw [es, h5]) (HF_cons (2 + 4 * k) (hv h 142 (2 + 4 * k)) (by decide) (show ((2 + 4 * k : Nat) : Int) + 0 = ((2 + 4 * k : Nat) : Int) by omega) (by omega) (sz_v_eq (show (0 : Int) + (1 * hv h 142 (2 + 4 * k) + 0) = _ by omega)) em (HF_nil _ _))))
        · exact ml7r hlo (show (0 : Int) + (1 * t + 0) = t by omega) (show (0 : Int) + (1 * n + 0) = n by omega) (show (0 : Int) + (1 * g + 0) = g by omega) (show (m : Int) + 0 = m by omega) (show (0 : Int) + (1 * (p : Int) + 0) = p by omega) (show (k : Int) + 0 = k by omega)
        · intro E hE ρ' h' s3 lo' w1 ag hT' hM' hF' hl' b1 b2 hml
          have a0 : ρ' 0 = t := ag 0 (by show 0 < 7; decide)
          have a1 : ρ' 1 = n := ag 1 (by show 1 < 7; decide)
          have a2 : ρ' 2 = g := ag 2 (by show 2 < 7; decide)
          have a5 : ρ' 5 = p := ag 5 (by show 5 < 7; decide)
          have eN : hv h' 142 0 = (N : Int) := by
            rw [HM_hv hM' (by decide) (by show az_md [(149, 0), (158, m + 1), (159, 0)] 142 0 = false; rfl)]
            exact hNv
          have hM2 : az_HM gtMe h0 h' := HM_trans hM0 hM' md_gt3
          have hwo : ∀ i, i < m → 41 ≤ hv h' 158 i ∧ hv h' 158 i ≤ 72 := fun i hi => by
            rw [HM_hv hM' (by decide) (md_where (by omega))]
            exact hw i hi
          rcases List.mem_cons.mp hE with ee | hE
          · subst ee
            exact ih ((9 - p) * 11 + (N - (k + 1))) (by omega) p (k + 1) m h' s3 lo' rfl ⟨hT', hM2, by omega, by omega, by omega, eN, hp, by omega, by omega, hwo⟩ (ml7 hml (show (0 : Int) + (1 * ρ' 0 + 0) = t by omega) (show (0 : Int) + (1 * ρ' 1 + 0) = n by omega) (show (0 : Int) + (1 * ρ' 2 + 0) = g by omega) (show (m : Int) + 0 = (m : Int) by omega) (show (0 : Int) + (1 * ρ' 5 + 0) = (p : Int) by omega) (show ((k : Int) + 1) + 0 = ((k + 1 : Nat) : Int) by omega))
          · have ee := List.mem_singleton.mp hE
            subst ee
            have r7 : (41 : Int) ≤ ρ' 7 ∧ ρ' 7 ≤ 72 := w1.2.1 7
            have f1 := HF_get hF' (c := 158) (k := m) (v := (0, 0, [(7, 1)])) (by decide) (by omega) (List.Mem.head _)
            rw [sz_v_eq (show (0 : Int) + (1 * ρ' 7 + 0) = ρ' 7 by omega)] at f1
            have g1 : hv h' 158 m = ρ' 7 := hv_val f1 (by omega) (by omega)
            refine ih ((9 - p) * 11 + (N - (k + 1))) (by omega) p (k + 1) (m + 1) h' s3 lo' rfl ⟨hT', hM2, by omega, by omega, by omega, eN, hp, by omega, by omega, fun i hi => ?_⟩ (ml7 hml (show (0 : Int) + (1 * ρ' 0 + 0) = t by omega) (show (0 : Int) + (1 * ρ' 1 + 0) = n by omega) (show (0 : Int) + (1 * ρ' 2 + 0) = g by omega) (show ((m : Int) + 1) + 0 = ((m + 1 : Nat) : Int) by omega) (show (0 : Int) + (1 * ρ' 5 + 0) = (p : Int) by omega) (show ((k : Int) + 1) + 0 = ((k + 1 : Nat) : Int) by omega))
            by_cases him : i = m
            · subst him; rw [g1]; exact r7
            · exact hwo i (by omega)
      · have hrun := List.all_eq_true.mp gtR2s k (List.mem_range.mpr hk10)
        refine az_go (c := gtC2 k) (ends := [gtE2 k]) (i0 := 9) (ρ := rho [t, n, g, (N : Int), hv h 153 k, (p : Int), (m : Int), hv h 142 (1 + 4 * k)] ((h.length : Int) + 4)) sz_pkall_szP hX (tb := [vlB]) (List.forall_mem_cons.mpr ⟨hL, fun _ h => by cases h⟩) gtQ_ok (az_wfc_ok rfl) hrun rfl rfl rfl (by show h.length + 1000 * (5 + 2) < 2147483648; omega) rfl hd ?_ hT ?_ ?_ (fun k hk => by cases hk) (fun p hp => by cases hp) ?_
        · refine rho_V ⟨?_, ?_⟩ (show rin [((-2147483648), 2147483647), (0, 40), (1, 200), ((k : Int) + 1, 10), (0, 60000), (0, 9), (0, 9), (0, 4)] [t, n, g, (N : Int), hv h 153 k, (p : Int), (m : Int), hv h 142 (1 + 4 * k)] from by simp only [rin, and_true]; omega) ?_ (by omega) (by show 8 ≤ 1000000; decide) trivial
          · intro j op x y hj hop
            match j, hj with
            | 5, hj =>
              cases hj
              show (p : Int) = (sz_op 20 (Int32.ofInt ((0 : Int) + (1 * hv h 153 k + 0))) (Int32.ofInt ((10 : Int) + 0))).toInt
              rw [show (0 : Int) + (1 * hv h 153 k + 0) = hv h 153 k by omega, Int.add_zero, op20 ep1 (by omega), hdp]
            | 0, hj => cases hj; exact absurd rfl hop
            | 1, hj => cases hj; exact absurd rfl hop
            | 2, hj => cases hj; exact absurd rfl hop
            | 3, hj => cases hj; exact absurd rfl hop
            | 4, hj => cases hj; exact absurd rfl hop
            | 6, hj => cases hj; exact absurd rfl hop
            | 7, hj => cases hj; exact absurd rfl hop
            | j + 8, hj => simp [gtC2] at hj
          · intro j x y hj hx
            match j, hj with
            | 5, hj => cases hj
            | 0, hj => cases hj; exact absurd rfl hx
            | 1, hj => cases hj; exact absurd rfl hx
            | 2, hj => cases hj; exact absurd rfl hx
            | 3, hj => cases hj; exact absurd rfl hx
            | 4, hj => cases hj; exact absurd rfl hx
            | 6, hj => cases hj; exact absurd rfl hx
            | 7, hj => cases hj; exact absurd rfl hx
            | j + 8, hj => simp [gtC2] at hj
          · show List.all [((-2147483648 : Int), (2147483647 : Int)), (0, 40), (1, 200), ((k : Int) + 1, 10), (0, 60000), (0, 9), (0, 9), (0, 4)] _ = true
            simp only [List.all_cons, List.all_nil, Bool.and_eq_true, decide_eq_true_eq, Bool.and_true]
            omega
        · exact fN _ _ 3 rfl (HF_cons k (hv h 153 k) (by decide) (show (k : Int) + 0 = k by omega) (by omega) (sz_v_eq (show (0 : Int) + (1 * hv h 153 k + 0) = _ by omega)) ep (HF_cons (1 + 4 * k) (hv h 142 (1 + 4 * k)) (by decide) (show ((1 + 4 * k : Nat) : Int) + 0 = ((1 + 4 * k : Nat) : Int) by omega) (by omega) (sz_v_eq (show (0 : Int) + (1 * hv h 142 (1 + 4 * k) + 0) = _ by omega)) es (HF_nil _ _)))
        · exact ml7r hlo (show (0 : Int) + (1 * t + 0) = t by omega) (show (0 : Int) + (1 * n + 0) = n by omega) (show (0 : Int) + (1 * g + 0) = g by omega) (show (0 : Int) + (1 * (m : Int) + 0) = m by omega) (show (0 : Int) + (1 * (p : Int) + 0) = p by omega) (show (k : Int) + 0 = k by omega)
        · intro E hE ρ' h' s3 lo' w1 ag hT' hM' hF' hl' b1 b2 hml
          have ee := List.mem_singleton.mp hE
          subst ee
          have a0 : ρ' 0 = t := ag 0 (by show 0 < 8; decide)
          have a1 : ρ' 1 = n := ag 1 (by show 1 < 8; decide)
          have a2 : ρ' 2 = g := ag 2 (by show 2 < 8; decide)
          have a5 : ρ' 5 = p := ag 5 (by show 5 < 8; decide)
          have a6 : ρ' 6 = m := ag 6 (by show 6 < 8; decide)
          have e1 : ∀ c i, c ≠ 149 → c < 163 → hv h' c i = hv h c i := fun c i hc hc2 => HM_hv hM' hc2 (md_other hc)
          have hM2 : az_HM gtMe h0 h' := HM_trans hM0 hM' (fun c j hmd => by
            have hmd : az_md ([(149, 0)] ++ [(158, 0), (159, 0)]) c j = false := hmd
            unfold az_md at hmd ⊢
            rw [List.any_append, Bool.or_eq_false_iff] at hmd
            exact hmd.1)
          exact ih ((9 - p) * 11 + (N - (k + 1))) (by omega) p (k + 1) m h' s3 lo' rfl ⟨hT', hM2, by omega, by omega, by omega, by rw [e1 142 0 (by decide) (by decide)]; exact hNv, hp, by omega, by omega, fun i hi => by rw [e1 158 i (by decide) (by decide)]; exact hw i hi⟩ (ml7 hml (show (0 : Int) + (1 * ρ' 0 + 0) = t by omega) (show (0 : Int) + (1 * ρ' 1 + 0) = n by omega) (show (0 : Int) + (1 * ρ' 2 + 0) = g by omega) (show (0 : Int) + (1 * ρ' 6 + 0) = (m : Int) by omega) (show (0 : Int) + (1 * ρ' 5 + 0) = (p : Int) by omega) (show ((k : Int) + 1) + 0 = ((k + 1 : Nat) : Int) by omega))
    · have fin : ∀ b : Bool, (b = true → hv h 153 k % 10 < p) → (b = false → (p : Int) < hv h 153 k % 10) → mz_gg X (gtK h0 s0) d 166 9 lo [] (h, s2) := by
        intro b hb1 hb2
        have hrun := List.all_eq_true.mp gtR1s b (by cases b <;> decide)
        refine az_go (c := gtC1 b) (ends := [gtE1]) (i0 := 9) (ρ := rho [t, n, g, (p : Int), (k : Int), (N : Int), hv h 153 k, hv h 153 k % 10, (m : Int)] ((h.length : Int) + 4)) sz_pkall_szP hX (tb := []) (fun c hc => by cases hc) gtQ_ok (az_wfc_ok (by cases b <;> rfl)) hrun rfl rfl rfl (by show h.length + 1000 * (5 + 2) < 2147483648; omega) rfl hd ?_ hT ?_ ?_ (fun k hk => by cases hk) (fun p hp => by cases hp) ?_
        · refine rho_V ⟨?_, ?_⟩ (show rin [((-2147483648), 2147483647), (0, 40), (1, 200), (0, 9), (0, 9), (1, 10), (0, 60000), (0, 9), (0, 10)] [t, n, g, (p : Int), (k : Int), (N : Int), hv h 153 k, hv h 153 k % 10, (m : Int)] from by simp only [rin, and_true]; omega) rfl (by omega) (by show 9 ≤ 1000000; decide) ?_
          · intro j op x y hj hop
            match j, hj with
            | 7, hj =>
              cases hj
              show hv h 153 k % 10 = (sz_op 20 (Int32.ofInt ((0 : Int) + (1 * hv h 153 k + 0))) (Int32.ofInt ((10 : Int) + 0))).toInt
              rw [show (0 : Int) + (1 * hv h 153 k + 0) = hv h 153 k by omega, Int.add_zero, op20 ep1 (by omega)]
            | 0, hj => cases hj; exact absurd rfl hop
            | 1, hj => cases hj; exact absurd rfl hop
            | 2, hj => cases hj; exact absurd rfl hop
            | 3, hj => cases hj; exact absurd rfl hop
            | 4, hj => cases hj; exact absurd rfl hop
            | 5, hj => cases hj; exact absurd rfl hop
            | 6, hj => cases hj; exact absurd rfl hop
            | 8, hj => cases hj; exact absurd rfl hop
            | j + 9, hj => simp [gtC1] at hj
          · intro j x y hj hx
            match j, hj with
            | 7, hj => cases hj
            | 0, hj => cases hj; exact absurd rfl hx
            | 1, hj => cases hj; exact absurd rfl hx
            | 2, hj => cases hj; exact absurd rfl hx
            | 3, hj => cases hj; exact absurd rfl hx
            | 4, hj => cases hj; exact absurd rfl hx
            | 5, hj => cases hj; exact absurd rfl hx
            | 6, hj => cases hj; exact absurd rfl hx
            | 8, hj => cases hj; exact absurd rfl hx
            | j + 9, hj => simp [gtC1] at hj
          · cases b with
            | true =>
              have := hb1 rfl
              exact (show 0 ≤ (-1 : Int) + ((-1) * (k : Int) + (1 * (N : Int) + 0)) ∧ 0 ≤ (-1 : Int) + (1 * (p : Int) + ((-1) * (hv h 153 k % 10) + 0)) ∧ True from ⟨by omega, by omega, trivial⟩)
            | false =>
              have := hb2 rfl
              exact (show 0 ≤ (-1 : Int) + ((-1) * (k : Int) + (1 * (N : Int) + 0)) ∧ 0 ≤ (-1 : Int) + ((-1) * (p : Int) + (1 * (hv h 153 k % 10) + 0)) ∧ True from ⟨by omega, by omega, trivial⟩)
        · exact HF_cons 0 (N : Int) (by decide) (show (0 : Int) + 0 = ((0 : Nat) : Int) by omega) (by omega) (sz_v_eq (show (0 : Int) + (1 * (N : Int) + 0) = _ by omega)) (by rw [en, hNv]) (HF_cons k (hv h 153 k) (by decide) (show (0 : Int) + (1 * (k : Int) + 0) = k by omega) (by omega) (sz_v_eq (show (0 : Int) + (1 * hv h 153 k + 0) = _ by omega)) ep (HF_nil _ _))
        · exact ml7r hlo (show (0 : Int) + (1 * t + 0) = t by omega) (show (0 : Int) + (1 * n + 0) = n by omega) (show (0 : Int) + (1 * g + 0) = g by omega) (show (0 : Int) + (1 * (m : Int) + 0) = m by omega) (show (0 : Int) + (1 * (p : Int) + 0) = p by omega) (show (0 : Int) + (1 * (k : Int) + 0) = k by omega)
        · intro E hE ρ' h' s3 lo' w1 ag hT' hM' hF' hl' b1 b2 hml
          have ee := List.mem_singleton.mp hE
          subst ee
          have a0 : ρ' 0 = t := ag 0 (by show 0 < 9; decide)
          have a1 : ρ' 1 = n := ag 1 (by show 1 < 9; decide)
          have a2 : ρ' 2 = g := ag 2 (by show 2 < 9; decide)
          have a3 : ρ' 3 = p := ag 3 (by show 3 < 9; decide)
          have a4 : ρ' 4 = k := ag 4 (by show 4 < 9; decide)
          have a8 : ρ' 8 = m := ag 8 (by show 8 < 9; decide)
          have e : ∀ c j, c < 163 → hv h' c j = hv h c j := fun c j hc => HM_hv hM' hc rfl
          exact ih ((9 - p) * 11 + (N - (k + 1))) (by omega) p (k + 1) m h' s3 lo' rfl ⟨hT', HM_trans hM0 hM' (fun _ _ _ => rfl), by omega, by omega, by omega, by rw [e 142 0 (by decide)]; exact hNv, hp, by omega, by omega, fun i hi => by rw [e 158 i (by decide)]; exact hw i hi⟩ (ml7 hml (show (0 : Int) + (1 * ρ' 0 + 0) = t by omega) (show (0 : Int) + (1 * ρ' 1 + 0) = n by omega) (show (0 : Int) + (1 * ρ' 2 + 0) = g by omega) (show (0 : Int) + (1 * ρ' 8 + 0) = (m : Int) by omega) (show (0 : Int) + (1 * ρ' 3 + 0) = (p : Int) by omega) (show (1 : Int) + (1 * ρ' 4 + 0) = ((k + 1 : Nat) : Int) by omega))
      rcases Int.lt_or_le (hv h 153 k % 10) p with hlt | hge
      · exact fin true (fun _ => hlt) (fun hh => by cases hh)
      · exact fin false (fun hh => by cases hh) (fun _ => by omega)
set_option maxRecDepth 20000 in
/-- goTick -/
theorem gt_all {X : List (List Value)} (hX : az_X X) (hL : az_Valid X vlB) {h : List mzC} (hT : az_Tp h) (hlen : h.length + 7000 < 2147483648) {t n g : Int} (ht : -2147483648 ≤ t ∧ t ≤ 2147483647) (hn : 0 ≤ n ∧ n ≤ 40) (hg : 1 ≤ g ∧ g ≤ 200) {d : Nat} (hd : 5 ≤ d) {s2 : Nat × Nat} {lo : mzL} (hlo : az_ml lo [.ref 145, iv t, iv n, iv g]) : mz_gg X (gtK h s2) d 166 0 lo [] (h, s2) := by
  obtain ⟨en, en1, en2⟩ := hv_slot hT.1 azL_142 many_ty
  have e4 : ∀ ρ : Nat → Int, ρ 0 = t → ρ 1 = n → ρ 2 = g → ([(1, 145, []), (0, 0, [(0, 1)]), (0, 0, [(1, 1)]), (0, 0, [(2, 1)])] : szLo).map (sz_v ρ) = [.ref 145, iv t, iv n, iv g] := by
    intro ρ a0 a1 a2
    simp only [List.map]
    rw [sz_v_ref _ (by decide), sz_v_eq (show (0 : Int) + (1 * ρ 0 + 0) = t by omega), sz_v_eq (show (0 : Int) + (1 * ρ 1 + 0) = n by omega), sz_v_eq (show (0 : Int) + (1 * ρ 2 + 0) = g by omega)]
    rfl
  refine az_go (c := gtC0) (ends := [gtE0]) (i0 := 0) (ρ := rho [t, n, g] ((h.length : Int) + 4)) sz_pkall_szP hX (tb := []) (fun c hc => by cases hc) gtQ_ok (az_wfc_ok rfl) gtR0 rfl rfl rfl (by show h.length + 1000 * (5 + 2) < 2147483648; omega) rfl hd ?_ hT (HF_nil _ _) ?_ (fun k hk => by cases hk) (fun p hp => by cases hp) ?_
  · exact rho_V (rho_free rfl _) (show rin [((-2147483648), 2147483647), (0, 40), (1, 200)] [t, n, g] from by simp only [rin, and_true]; omega) rfl (by omega) (by decide) trivial
  · show az_ml lo (([(1, 145, []), (0, 0, [(0, 1)]), (0, 0, [(1, 1)]), (0, 0, [(2, 1)])] : szLo).map (sz_v (rho [t, n, g] ((h.length : Int) + 4))))
    rw [e4 _ rfl rfl rfl]
    exact hlo
  · intro E hE ρ' h' s3 lo' w1 ag hT' hM' hF' hl' b1 b2 hml
    have ee := List.mem_singleton.mp hE
    subst ee
    have a0 : ρ' 0 = t := ag 0 (by decide)
    have a1 : ρ' 1 = n := ag 1 (by decide)
    have a2 : ρ' 2 = g := ag 2 (by decide)
    have e : ∀ c j, c < 163 → hv h' c j = hv h c j := fun c j hc => HM_hv hM' hc rfl
    refine gt_loop hX hL hlen (N := (hv h 142 0).toNat) (by omega) ht hn hg hd _ 0 0 0 h' s3 lo' rfl ⟨hT', fun c j hc _ => hM' c j hc rfl, hl', b1, b2, by rw [e 142 0 (by decide)]; omega, by omega, by omega, by omega, fun i hi => by omega⟩ (ml7 hml (show (0 : Int) + (1 * ρ' 0 + 0) = t by omega) (show (0 : Int) + (1 * ρ' 1 + 0) = n by omega) (show (0 : Int) + (1 * ρ' 2 + 0) = g by omega) (show (0 : Int) + 0 = ((0 : Nat) : Int) by omega) (show (0 : Int) + 0 = ((0 : Nat) : Int) by omega) (show (0 : Int) + 0 = ((0 : Nat) : Int) by omega))
def gtB : azCon := (166, 10, ([azf, azf, azf], [((-2147483648), 2147483647), (0, 40), (1, 200)], [], [(1, 145, []), (0, 0, [(0, 1)]), (0, 0, [(1, 1)]), (0, 0, [(2, 1)])], [], [], false), [(some none, [azf, azf, azf], [((-2147483648), 2147483647), (0, 40), (1, 200)], [], [])], gtMd, (0, 0))
set_option maxRecDepth 20000 in
theorem gtB_v {X : List (List Value)} (hX : az_X X) (hL : az_Valid X vlB) : az_Valid X gtB := by
  intro ρ h args s2 d hV hl hH hlen hd
  have r0 : (-2147483648 : Int) ≤ ρ 0 ∧ ρ 0 ≤ 2147483647 := hV.2.1 0
  have r1 : (0 : Int) ≤ ρ 1 ∧ ρ 1 ≤ 40 := hV.2.1 1
  have r2 : (1 : Int) ≤ ρ 2 ∧ ρ 2 ≤ 200 := hV.2.1 2
  have hm := az_LR_ml (pat := [(1, 145, []), (0, 0, [(0, 1)]), (0, 0, [(1, 1)]), (0, 0, [(2, 1)])]) rfl hl
  have e : ([(1, 145, []), (0, 0, [(0, 1)]), (0, 0, [(1, 1)]), (0, 0, [(2, 1)])] : szLo).map (sz_v ρ) = [.ref 145, iv (ρ 0), iv (ρ 1), iv (ρ 2)] := by
    simp only [List.map]
    rw [sz_v_ref _ (by decide), sz_v_eq (show (0 : Int) + (1 * ρ 0 + 0) = ρ 0 by omega), sz_v_eq (show (0 : Int) + (1 * ρ 1 + 0) = ρ 1 by omega), sz_v_eq (show (0 : Int) + (1 * ρ 2 + 0) = ρ 2 by omega)]
    rfl
  rw [e] at hm
  replace hlen : h.length + 1000 * (10 + 2) < 2147483648 := hlen
  replace hd : 10 ≤ d := hd
  refine mz_gg_mono ?_ (gt_all hX hL ⟨hH.1, hH.2.2.2.1⟩ (by omega) r0 r1 r2 (d := d) (by omega) (s2 := s2) hm)
  intro o s' hk
  obtain ⟨k1, k2, k3, k4, k5, ko⟩ := hk
  exact post_of (c := gtB) (List.Mem.head _) rfl hV ko rfl rfl rfl hH.2.1 k1 k2 k3 k4 k5
