/-! runs of S -/
theorem sz_cov_ok {v : Int} : ∀ {ps : List (Int × Int)} {lo hi : Int}, sz_cov lo hi ps = true → lo ≤ v → v ≤ hi → ∃ p ∈ ps, p.1 ≤ v ∧ v ≤ p.2
  | [], lo, hi, h, h1, h2 => by
    have h := of_decide_eq_true h
    omega
  | p :: ps, lo, hi, h, h1, h2 => by
    unfold sz_cov at h
    rw [Bool.and_eq_true, decide_eq_true_eq] at h
    by_cases hv : v ≤ p.2
    · exact ⟨p, List.mem_cons_self, by omega, hv⟩
    · obtain ⟨q, hq, h3⟩ := sz_cov_ok h.2 (by omega) h2
      exact ⟨q, List.mem_cons_of_mem _ hq, h3⟩
theorem sz_R_up {R : szR} {ρ : Nat → Int} (hB : ∀ k, -2147483648 ≤ ρ k ∧ ρ k ≤ 2147483647) (hR : sz_R R ρ) {k : Nat} {p : Int × Int} (h : p.1 ≤ ρ k ∧ ρ k ≤ p.2) : sz_R (sz_upl (-2147483648, 2147483647) k p R) ρ := by
  intro k'
  unfold sz_at
  rw [List.getD_eq_getElem?_getD]
  cases hq : (sz_upl (-2147483648, 2147483647) k p R)[k']? with
  | none => exact hB k'
  | some w =>
    show w.1 ≤ ρ k' ∧ ρ k' ≤ w.2
    rcases sz_upl_at _ _ _ _ _ _ hq with ⟨e1, e2⟩ | ⟨e1, e2 | e2⟩
    · rw [e1, e2]; exact h
    · have := hR k'
      unfold sz_at at this
      rw [List.getD_eq_getElem?_getD, e2] at this
      exact this
    · rw [e2]; exact hB k'
theorem sz_ex_ok {P : List szM} (hP : sz_pkall P mzP = true) {D : szD} {T : List (Int × szT)} {ρ : Nat → Int} {X : List (List szV)} (hD : sz_D D ρ) (hB : ∀ k, -2147483648 ≤ ρ k ∧ ρ k ≤ 2147483647) : ∀ (n : Nat) (R : szR) (C : szQ), sz_ex P D T X n R C = true → sz_R R ρ → sz_GG T ρ X C
  | 0, _, _, h, _ => by cases h
  | n + 1, R, ((j, m, code, i, lo, st), ws, s, d), h, hR => by
    have h : sz_ex1 P D T X (sz_ex P D T X n) R j m code i lo st ws s d (sz_sl 80 code i) (Nat.mod (sz_sl 80 code i) 256) = true := h
    unfold sz_ex1 at h
    split at h
    · rename_i he
      exact sz_step_ok hP hD hR he (fun C hC => by cases hC)
    · rename_i C he
      exact sz_step_ok hP hD hR he (fun C' hC => by cases hC; exact sz_ex_ok hP hD hB n R C h hR)
    · split at h
      · rename_i k ps _
        rw [Bool.and_eq_true] at h
        obtain ⟨p, hp, hv⟩ := sz_cov_ok h.1 (hR k).1 (hR k).2
        have h2 := List.all_eq_true.mp h.2 p hp
        rw [sz_fi_eq, sz_fi_eq, sz_upk_eq] at h2
        exact sz_ex_ok hP hD hB n _ _ h2 (sz_R_up hB hR hv)
      · cases h
theorem sz_HR_0 (T : List (Int × szT)) (ρ : Nat → Int) : sz_HR T ρ (0, 0, 0, 1, 0, 0) [] := by
  have h0 : ∀ w k, sz_sl w 0 k = 0 := by
    intro w k
    show (0 >>> (w * k)) % 2 ^ w = 0
    rw [Nat.zero_shiftRight]
    exact Nat.zero_mod _
  exact ⟨rfl, Nat.le_refl _, fun k _ => h0 40 k, fun r hr => absurd (h0 64 r) hr, fun r _ hr => absurd (h0 64 r) hr⟩
theorem sz_good {D : szD} {T : List (Int × szT)} {ρ : Nat → Int} {R : szR} {L n : Nat} {xs : Nat → Int32} (hP : sz_pkall szP mzP = true) (hpk : sz_pk szc_0 mzc_0 = true) (hD : sz_D D ρ) (hB : ∀ k, -2147483648 ≤ ρ k ∧ ρ k ≤ 2147483647) (hR : sz_R R ρ) (hx : ∀ k, k < L → ρ k = (xs k).toInt) (h : sz_ex szP D T (sz_X L) n R sz_0 = true) : mz_Good L xs := by
  have hX : (sz_X L).map (fun l => l.map (sz_v ρ)) = mz_X L xs := by
    unfold sz_X mz_X
    have hc : ∀ l : List Int, (l.map (fun c => ((0, c, []) : szV))).map (sz_v ρ) = l.map (fun c => Value.int (Int32.ofInt c)) := by
      intro l
      rw [List.map_map]
      refine List.map_congr_left (fun c _ => ?_)
      show Value.int (sz_i ρ (0, c, [])) = _
      rw [sz_i_const]
    simp only [List.map_cons, List.map_nil]
    rw [List.map_map]
    refine congr (congrArg List.cons ?_) ?_
    · refine List.map_congr_left (fun k hk => ?_)
      show Value.int (sz_i ρ (0, 0, [(k, 1)])) = _
      unfold sz_i
      simp only [sz_sum, Int.zero_add, Int.one_mul, Int.add_zero, hx k (List.mem_range.mp hk), Int32.ofInt_toInt]
    · simp only [sz_v, sz_i_const]
      rfl
  have hG := sz_ex_ok hP hD hB n R sz_0 h hR [] (0, (8, 0, (0, 0, 0), mzc_0), 0, [(0, .ref 0)], []) [] ⟨rfl, mz_P0, rfl, hpk, rfl, ?_, rfl⟩ trivial (sz_HR_0 T ρ)
  · obtain ⟨n', o, s', h1, h2, h3, h4⟩ := hG
    rw [hX] at h1
    refine ⟨n', 100, s', ?_, by decide, h3, h4⟩
    rw [← h2]
    exact h1
  · intro k v hv h9
    match k, hv with
    | 0, hv => cases hv; rfl
    | k + 1, hv => simp [sz_0] at hv
