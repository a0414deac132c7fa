/-! static ranges -/
def sz_st (q : Nat × szV × szV) (p : Int × Int) : Bool :=
  (decide (p.1 ≤ -2147483648) && decide (2147483647 ≤ p.2)) || ((Nat.beq q.1 2 && (decide (p.1 ≤ -128) && decide (127 ≤ p.2))) || ((Nat.beq q.1 3 && (decide (p.1 ≤ -32768) && decide (32767 ≤ p.2))) || (Nat.beq q.1 4 && (decide (p.1 ≤ 0) && decide (1 ≤ p.2)))))
theorem sz_st_ok {ρ : Nat → Int} {q : Nat × szV × szV} {p : Int × Int} (hB : ∀ k, -2147483648 ≤ ρ k ∧ ρ k ≤ 2147483647) {k : Nat} (hv : q.1 ≠ 0 → ρ k = (sz_op q.1 (sz_i ρ q.2.1) (sz_i ρ q.2.2)).toInt) (h : sz_st q p = true) : p.1 ≤ ρ k ∧ ρ k ≤ p.2 := by
  unfold sz_st at h
  simp only [Bool.or_eq_true, Bool.and_eq_true, decide_eq_true_eq] at h
  have hb := hB k
  rcases h with h | ⟨h1, h⟩ | ⟨h1, h⟩ | ⟨h1, h⟩
  · omega
  · have h1 := Nat.eq_of_beq_eq_true h1
    rw [h1] at hv
    rw [hv (by decide)]
    show p.1 ≤ ((sz_i ρ q.2.1).toInt8.toInt32).toInt ∧ ((sz_i ρ q.2.1).toInt8.toInt32).toInt ≤ p.2
    rw [Int8.toInt_toInt32]
    have a1 := (sz_i ρ q.2.1).toInt8.le_toInt
    have a2 := (sz_i ρ q.2.1).toInt8.toInt_lt
    omega
  · have h1 := Nat.eq_of_beq_eq_true h1
    rw [h1] at hv
    rw [hv (by decide)]
    show p.1 ≤ ((sz_i ρ q.2.1).toInt16.toInt32).toInt ∧ ((sz_i ρ q.2.1).toInt16.toInt32).toInt ≤ p.2
    rw [Int16.toInt_toInt32]
    have a1 := (sz_i ρ q.2.1).toInt16.le_toInt
    have a2 := (sz_i ρ q.2.1).toInt16.toInt_lt
    omega
  · have h1 := Nat.eq_of_beq_eq_true h1
    rw [h1] at hv
    rw [hv (by decide)]
    show p.1 ≤ (if sz_i ρ q.2.1 = 0 then (0 : Int32) else 1).toInt ∧ (if sz_i ρ q.2.1 = 0 then (0 : Int32) else 1).toInt ≤ p.2
    have e0 : (0 : Int32).toInt = 0 := rfl
    have e1 : (1 : Int32).toInt = 1 := rfl
    split
    · rw [e0]; omega
    · rw [e1]; omega
def sz_sts : szD → szR → Bool
  | _, [] => true
  | q :: D, p :: R => sz_st q p && sz_sts D R
  | [], _ :: _ => false
theorem sz_sts_ok {ρ : Nat → Int} (hB : ∀ k, -2147483648 ≤ ρ k ∧ ρ k ≤ 2147483647) : ∀ {D : szD} {R : szR} {n : Nat}, sz_sts D R = true → (∀ t q, D[t]? = some q → q.1 ≠ 0 → ρ (n + t) = (sz_op q.1 (sz_i ρ q.2.1) (sz_i ρ q.2.2)).toInt) → ∀ t p, R[t]? = some p → p.1 ≤ ρ (n + t) ∧ ρ (n + t) ≤ p.2
  | _, [], _, _, _, _, _, hp => by simp at hp
  | [], _ :: _, _, h, _, _, _, _ => by cases h
  | q :: D, p :: R, n, h, hD, 0, p', hp => by
    unfold sz_sts at h
    rw [Bool.and_eq_true] at h
    cases hp
    exact sz_st_ok hB (fun hq => hD 0 q rfl hq) h.1
  | q :: D, p :: R, n, h, hD, t + 1, p', hp => by
    unfold sz_sts at h
    rw [Bool.and_eq_true] at h
    have := sz_sts_ok hB (n := n + 1) h.2 (fun t q hq h0 => by
      have := hD (t + 1) q (by simpa using hq) h0
      rw [show n + 1 + t = n + (t + 1) by omega]
      exact this) t p' (by simpa using hp)
    rw [show n + 1 + t = n + (t + 1) by omega] at this
    exact this
/-- a case with more atoms: E and S behind the first six -/
theorem sz_case3 {xs : Nat → Int32} {a b : Int} (h1 : a ≤ (xs 0 &&& 63).toInt) (h2 : (xs 0 &&& 63).toInt ≤ b) {E : szD} {S : szR} (ha : sz_acy (sz_D5 ++ E) 0 = true) (hs : sz_sts E S = true) {T : List (Int × szT)} {n : Nat} (h : sz_ex szP (sz_D5 ++ E) T (sz_X 5) n (sz_R5 a b ++ S) sz_0 = true) : mz_Good 5 xs := by
  obtain ⟨ρ, hD, hB, hf⟩ := sz_rho xs ha
  have h0 : ρ 0 = (xs 0).toInt := hf 0 _ _ rfl
  have h5 : ρ 5 = (xs 0 &&& 63).toInt := by
    rw [hD 5 13 _ _ rfl (by decide)]
    have e1 : sz_i ρ (0, 0, [(0, 1)]) = xs 0 := by
      unfold sz_i
      simp only [sz_sum, Int.zero_add, Int.one_mul, Int.add_zero, h0, Int32.ofInt_toInt]
    rw [e1, sz_i_const]
    rfl
  refine sz_good sz_pkall_szP sz_pk_0 hD hB ?_ ?_ h
  · intro k
    match k with
    | 0 => exact hB 0
    | 1 => exact hB 1
    | 2 => exact hB 2
    | 3 => exact hB 3
    | 4 => exact hB 4
    | 5 =>
      show a ≤ ρ 5 ∧ ρ 5 ≤ b
      rw [h5]
      exact ⟨h1, h2⟩
    | k + 6 =>
      have hk : (sz_R5 a b ++ S)[k + 6]? = S[k]? := by
        rw [List.getElem?_append_right (by show 6 ≤ k + 6; omega)]
        congr 1
      unfold sz_at
      rw [List.getD_eq_getElem?_getD, hk]
      cases hp : S[k]? with
      | none => exact hB (k + 6)
      | some p =>
        have := sz_sts_ok hB (n := 6) hs (fun t q hq hq0 => by
          have hq' : (sz_D5 ++ E)[6 + t]? = some (q.1, q.2.1, q.2.2) := by
            rw [List.getElem?_append_right (by show 6 ≤ 6 + t; omega)]
            show E[6 + t - 6]? = _
            rw [Nat.add_sub_cancel_left]
            exact hq
          exact hD (6 + t) _ _ _ hq' hq0) k p hp
        rw [show 6 + k = k + 6 by omega] at this
        exact this
  · intro k hk
    match k, hk with
    | 0, _ => exact h0
    | 1, _ => exact hf 1 _ _ rfl
    | 2, _ => exact hf 2 _ _ rfl
    | 3, _ => exact hf 3 _ _ rfl
    | 4, _ => exact hf 4 _ _ rfl
