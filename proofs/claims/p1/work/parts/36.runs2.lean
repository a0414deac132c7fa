/-! runs that are told apart by the second and the third int -/
def sz_R6 (a b a1 b1 a2 b2 : Int) : szR := [(-2147483648, 2147483647), (a1, b1), (a2, b2), (-2147483648, 2147483647), (-2147483648, 2147483647), (a, b)]
def sz_T6 : List (Int × szT) := [(0, [(1, 1)]), (0, [(2, 1)]), (0, [(3, 1)])]
theorem sz_case2 {xs : Nat → Int32} {a b a1 b1 a2 b2 : Int} (h1 : a ≤ (xs 0 &&& 63).toInt) (h2 : (xs 0 &&& 63).toInt ≤ b) (g1 : a1 ≤ (xs 1).toInt ∧ (xs 1).toInt ≤ b1) (g2 : a2 ≤ (xs 2).toInt ∧ (xs 2).toInt ≤ b2) {T : List (Int × szT)} {n : Nat} (h : sz_ex szP sz_D5 T (sz_X 5) n (sz_R6 a b a1 b1 a2 b2) sz_0 = true) : mz_Good 5 xs := by
  obtain ⟨ρ, hD, hB, hf⟩ := sz_rho xs (D := sz_D5) (by decide)
  have h0 : ρ 0 = (xs 0).toInt := hf 0 _ _ rfl
  have h5 : ρ 5 = (xs 0 &&& 63).toInt := by
    rw [hD 5 13 _ _ rfl (by decide)]
    have e1 : sz_i ρ (0, 0, [(0, 1)]) = xs 0 := by
      unfold sz_i
      simp only [sz_sum, Int.zero_add, Int.one_mul, Int.add_zero, h0, Int32.ofInt_toInt]
    rw [e1, sz_i_const]
    rfl
  refine sz_good sz_pkall_szP sz_pk_0 hD hB ?_ ?_ h
  · intro k
    match k with
    | 0 => exact hB 0
    | 1 =>
      show a1 ≤ ρ 1 ∧ ρ 1 ≤ b1
      rw [hf 1 _ _ rfl]
      exact g1
    | 2 =>
      show a2 ≤ ρ 2 ∧ ρ 2 ≤ b2
      rw [hf 2 _ _ rfl]
      exact g2
    | 3 => exact hB 3
    | 4 => exact hB 4
    | 5 =>
      show a ≤ ρ 5 ∧ ρ 5 ≤ b
      rw [h5]
      exact ⟨h1, h2⟩
    | k + 6 => exact hB (k + 6)
  · intro k hk
    match k, hk with
    | 0, _ => exact h0
    | 1, _ => exact hf 1 _ _ rfl
    | 2, _ => exact hf 2 _ _ rfl
    | 3, _ => exact hf 3 _ _ rfl
    | 4, _ => exact hf 4 _ _ rfl
theorem sz_run_1 : sz_ex szP sz_D5 sz_T6 (sz_X 5) 1000000 (sz_R5 1 1) sz_0 = true := by decide +kernel
