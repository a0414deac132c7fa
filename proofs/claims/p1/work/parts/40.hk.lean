/-! a known state serves -/
theorem sz_hk_ok {D : szD} {T : List (Int × szT)} {X : List (List szV)} {A : szA} {a b : Int} {H : szQ} {R : szR} {C : szQ} {ρ : Nat → Int} (hDa : sz_acy D 0 = true)
    (hDf : ∀ k, k < 5 → ∃ x y, D[k]? = some (0, x, y)) (hDg : ∀ n, n < A.length → ∃ x y, D[6 + n]? = some (0, x, y)) (hT : ∀ n, n < A.length → T[n]? = some (0, [(6 + n, 1)])) (hA : A.length ≤ 100)
    (hS : sz_stat A H = true) (hX : ∀ l ∈ X, ∀ v ∈ l, sz_low v = true)
    (hH : ∀ ρ', sz_D D ρ' → (∀ k, -2147483648 ≤ ρ' k ∧ ρ' k ≤ 2147483647) → a ≤ ρ' 2 → ρ' 2 ≤ b → sz_GG T ρ' X H)
    (h : sz_hk T A a b H R C = true) (hB : ∀ k, -2147483648 ≤ ρ k ∧ ρ k ≤ 2147483647) (hR : sz_R R ρ) : sz_GG T ρ X C := by
  obtain ⟨f, ws, ⟨N, E, c, x, u⟩, d⟩ := C
  obtain ⟨f', ws', ⟨N', E', c', x', u'⟩, d'⟩ := H
  unfold sz_hk at h
  simp only [Bool.and_eq_true, decide_eq_true_eq] at h
  obtain ⟨_, _, h1, h2, h3, h4, h5, h6, h7, h8⟩ := h
  have h1 := sz_eF_ok h1
  have h2 := sz_eFs_ok h2
  subst h1; subst h2
  have h4 := Nat.eq_of_beq_eq_true h4
  subst h4
  cases h3
  have h8 := Nat.eq_of_beq_eq_true h8
  unfold sz_stat at hS
  simp only [Bool.and_eq_true] at hS
  obtain ⟨⟨s1, s2⟩, s3, s4⟩ := hS
  have hl := sz_lst_ok s3
  have hlok := sz_lok_ok h7
  have hmem : ∀ q ∈ A, ∃ n, A[n]? = some q := fun q hq => List.mem_iff_getElem?.mp hq
  have h38 : ∀ q ∈ A, q.2 < 8 := by
    intro q hq
    obtain ⟨n, hn⟩ := hmem q hq
    rcases (hl n q hn).2.1 with h | h <;> omega
  have hsame : ∀ k, k ≠ 0 → (∀ q ∈ A, q.1 ≠ k) → sz_sl 40 N' k = sz_sl 40 N k := by
    intro k hk hq
    rw [← h8, sz_abs_sl h38 (by omega) hq, sz_sl_ss (by decide), if_neg hk]
  obtain ⟨ρ', hD', hB', hf'⟩ := sz_rho (fun k => if k < 5 then Int32.ofInt (ρ k) else sz_i ρ (sz_nd T (sz_sl 40 N ((A[k - 6]?).getD (0, 0)).1))) hDa
  have hlow : ∀ k, k < 5 → ρ' k = ρ k := by
    intro k hk
    obtain ⟨p, q, hpq⟩ := hDf k hk
    have := hf' k p q hpq
    rw [if_pos hk, sz_toInt, sz_w_id (hB k).1 (hB k).2] at this
    exact this
  have hat : ∀ n q, A[n]? = some q → ρ' (6 + n) = (sz_i ρ (sz_nd T (sz_sl 40 N q.1))).toInt := by
    intro n q hq
    obtain ⟨p, r, hpr⟩ := hDg n (List.getElem?_eq_some_iff.mp hq).1
    have := hf' (6 + n) p r hpr
    rw [if_neg (by omega), Nat.add_sub_cancel_left, hq] at this
    exact this
  have h2' := hlow 2 (by decide)
  have hr2 := hR 2
  have hG := hH ρ' hD' hB' (by omega) (by omega)
  have hXX : X.map (fun l => l.map (sz_v ρ')) = X.map (fun l => l.map (sz_v ρ)) := List.map_congr_left (fun l hl => List.map_congr_left (fun v hv => sz_v_low hlow (hX l hl v hv)))
  intro wsM w h hF hW hHR
  have := hG wsM w h (sz_FR_low hlow s1 hF) (sz_WR_low hlow s2 hW) ?_
  · rw [hXX] at this
    exact this
  obtain ⟨H1, H2, H3, H4, H5⟩ := hHR
  dsimp only at H1 H2 H3 H4 H5
  refine ⟨H1, H2, ?_, ?_, H5⟩
  · intro k hk
    dsimp only at hk ⊢
    rw [hsame k (by omega) (fun q hq => ?_)]
    · exact H3 k hk
    · obtain ⟨n, hn⟩ := hmem q hq
      have := (hl n q hn).2.2.2
      omega
  · intro r hr
    dsimp only at hr ⊢
    obtain ⟨fs, g1, g2, g3, g4, g5⟩ := H4 r hr
    refine ⟨fs, g1, g2, g3, g4, fun k hk => ?_⟩
    rw [g5 k hk]
    congr 1
    show sz_v ρ (sz_rd2 T _ k (sz_sl 40 N (sz_db (sz_sl 64 E r) + k))) = sz_v ρ' (sz_rd2 T _ k (sz_sl 40 N' (sz_db (sz_sl 64 E r) + k)))
    have hb1 : 0 < sz_db (sz_sl 64 E r) + k := by omega
    have hb2 : sz_db (sz_sl 64 E r) + k < x := by omega
    generalize sz_db (sz_sl 64 E r) + k = y at hb1 hb2
    by_cases hm : ∃ q ∈ A, q.1 = y
    · obtain ⟨q, hq, hqy⟩ := hm
      obtain ⟨n, hn⟩ := hmem q hq
      obtain ⟨l1, l2, _, _⟩ := hl n q hn
      obtain ⟨k1, k2⟩ := hlok q hq
      have hv := hat n q hn
      have hTn := hT n (List.getElem?_eq_some_iff.mp hn).1
      rw [hqy] at l1 k1 k2 hv
      rw [Nat.zero_add] at l1
      have e1 : sz_rd2 T (sz_dt (sz_sl 64 E r)) k (sz_sl 40 N y) = sz_nd T (sz_sl 40 N y) := by
        unfold sz_rd2
        cases hb : Nat.beq (sz_sl 40 N y) 0 with
        | false => rfl
        | true => exact absurd (Nat.eq_of_beq_eq_true hb) k1
      have e2 : sz_rd2 T (sz_dt (sz_sl 64 E r)) k (sz_sl 40 N' y) = sz_nd T (8 * n + q.2) := by
        rw [l1]
        unfold sz_rd2
        cases hb : Nat.beq (8 * n + q.2) 0 with
        | false => rfl
        | true =>
          have := Nat.eq_of_beq_eq_true hb
          omega
      rw [e1, e2]
      have hi : ∀ g, sz_i ρ' (g, 0, [(6 + n, 1)]) = sz_i ρ (sz_nd T (sz_sl 40 N y)) := by
        intro g
        unfold sz_i
        simp only [sz_sum, Int.zero_add, Int.one_mul, Int.add_zero, hv, Int32.ofInt_toInt]
        rfl
      rcases l2 with l2 | l2
      · have e3 : sz_nd T (8 * n + q.2) = (0, 0, [(6 + n, 1)]) := by
          unfold sz_nd
          rw [l2, show Nat.mod (8 * n + 3) 8 = 3 from sz_mod8 n 3 (by decide), show Nat.shiftRight (8 * n + 3) 3 = n from sz_shr3 n 3 (by decide), sz_nth_eq, hTn]
          rfl
        rw [l2] at k2
        have k2 : (sz_nd T (sz_sl 40 N y)).1 = 0 := k2
        rw [e3, sz_vi k2, sz_vi rfl, hi]
      · have e3 : sz_nd T (8 * n + q.2) = (2, 0, [(6 + n, 1)]) := by
          unfold sz_nd
          rw [l2, show Nat.mod (8 * n + 5) 8 = 5 from sz_mod8 n 5 (by decide), show Nat.shiftRight (8 * n + 5) 3 = n from sz_shr3 n 5 (by decide), sz_nth_eq, hTn]
          rfl
        rw [l2] at k2
        have k2 : (sz_nd T (sz_sl 40 N y)).1 = 2 := k2
        rw [e3, sz_vl k2, sz_vl rfl, hi]
    · have hn : ∀ q ∈ A, q.1 ≠ y := fun q hq hy => hm ⟨q, hq, hy⟩
      have hs := hsame y (by omega) hn
      have hc := sz_scan_ok s4 y hb2
      rw [hs]
      rw [hs] at hc
      have hno : ¬ (sz_sl 40 N y % 8 = 3 ∨ sz_sl 40 N y % 8 = 5) := by
        intro hh
        have := hc hh
        rw [Nat.zero_add] at this
        obtain ⟨q, hq, hy⟩ := List.mem_map.mp this
        exact hn q hq hy
      refine (sz_v_cst ?_).symm
      unfold sz_rd2
      cases Nat.beq (sz_sl 40 N y) 0 with
      | true => exact sz_df_cst _ _
      | false => exact sz_nd_cst (fun hh => hno (Or.inl hh)) (fun hh => hno (Or.inr hh))
theorem sz_rem_bd (x : Int32) {c : Int} (h1 : 1 < c) (h2 : c ≤ 100) : -(c - 1) ≤ (sz_op 20 x (Int32.ofInt c)).toInt ∧ (sz_op 20 x (Int32.ofInt c)).toInt ≤ c - 1 := by
  have hc : (Int32.ofInt c).toInt = c := Int32.toInt_ofInt_of_le (by omega) (by omega)
  have hne : Int32.ofInt c ≠ 0 := fun h => by
    rw [h] at hc
    have : (0 : Int32).toInt = 0 := rfl
    omega
  have hm : Int32.ofInt c ≠ -1 := fun h => by
    rw [h] at hc
    have : (-1 : Int32).toInt = -1 := rfl
    omega
  have e : sz_op 20 x (Int32.ofInt c) = x - x / Int32.ofInt c * Int32.ofInt c := by
    show (mz_bin 10 x (Int32.ofInt c)).getD 0 = _
    simp [mz_bin, hne]
  have h3 : (x.toInt.tmod c).natAbs = x.toInt.natAbs % c.natAbs := Int.natAbs_tmod _ _
  have h4 := Nat.mod_lt x.toInt.natAbs (show 0 < c.natAbs by omega)
  have e2 : (x - x / Int32.ofInt c * Int32.ofInt c).toInt = x.toInt.tmod c := by
    rw [Int32.toInt_sub, Int32.toInt_mul, Int32.toInt_div_of_ne_right _ _ hm, hc, Int.sub_bmod_bmod, Int.mul_comm, ← Int.tmod_def]
    exact sz_w_id (by omega) (by omega)
  rw [e, e2]
  omega
