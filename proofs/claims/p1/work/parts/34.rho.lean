/-! atoms have values -/
def sz_bld (xs : Nat → Int32) : szD → Nat → (Nat → Int) → (Nat → Int)
  | [], _, ρ => ρ
  | q :: D, k, ρ => sz_bld xs D (k + 1) (fun n => if n = k then (if q.1 = 0 then (xs k).toInt else (sz_op q.1 (sz_i ρ q.2.1) (sz_i ρ q.2.2)).toInt) else ρ n)
def sz_acy : szD → Nat → Bool
  | [], _ => true
  | q :: D, k => q.2.1.2.2.all (fun e => decide (e.1 < k)) && (q.2.2.2.2.all (fun e => decide (e.1 < k)) && sz_acy D (k + 1))
theorem sz_bld_low (xs : Nat → Int32) : ∀ (D : szD) (k : Nat) (ρ : Nat → Int) (n : Nat), n < k → sz_bld xs D k ρ n = ρ n
  | [], _, _, _, _ => rfl
  | q :: D, k, ρ, n, h => by
    unfold sz_bld
    rw [sz_bld_low xs D (k + 1) _ n (by omega), if_neg (by omega)]
theorem sz_sum_congr {ρ ρ' : Nat → Int} {k : Nat} (h : ∀ n, n < k → ρ' n = ρ n) : ∀ t : szT, t.all (fun e => decide (e.1 < k)) = true → sz_sum ρ' t = sz_sum ρ t
  | [], _ => rfl
  | q :: t, ht => by
    rw [List.all_cons, Bool.and_eq_true, decide_eq_true_eq] at ht
    unfold sz_sum
    rw [h _ ht.1, sz_sum_congr h t ht.2]
theorem sz_bld_at (xs : Nat → Int32) : ∀ (D : szD) (k : Nat) (ρ : Nat → Int), sz_acy D k = true → ∀ t o x y, D[t]? = some (o, x, y) → sz_bld xs D k ρ (k + t) = if o = 0 then (xs (k + t)).toInt else (sz_op o (sz_i (sz_bld xs D k ρ) x) (sz_i (sz_bld xs D k ρ) y)).toInt
  | [], _, _, _, _, _, _, _, h => by simp at h
  | q :: D, k, ρ, ha, 0, o, x, y, h => by
    unfold sz_acy at ha
    simp only [Bool.and_eq_true] at ha
    cases h
    have hlow : ∀ n, n < k → sz_bld xs ((o, x, y) :: D) k ρ n = ρ n := fun n hn => sz_bld_low xs _ k ρ n hn
    have hx : sz_i (sz_bld xs ((o, x, y) :: D) k ρ) x = sz_i ρ x := by unfold sz_i; rw [sz_sum_congr hlow _ ha.1]
    have hy : sz_i (sz_bld xs ((o, x, y) :: D) k ρ) y = sz_i ρ y := by unfold sz_i; rw [sz_sum_congr hlow _ ha.2.1]
    rw [hx, hy, Nat.add_zero]
    unfold sz_bld
    rw [sz_bld_low xs D (k + 1) _ k (by omega), if_pos rfl]
  | q :: D, k, ρ, ha, t + 1, o, x, y, h => by
    unfold sz_acy at ha
    simp only [Bool.and_eq_true] at ha
    have := sz_bld_at xs D (k + 1) (fun n => if n = k then (if q.1 = 0 then (xs k).toInt else (sz_op q.1 (sz_i ρ q.2.1) (sz_i ρ q.2.2)).toInt) else ρ n) ha.2.2 t o x y (by simpa using h)
    rw [show k + 1 + t = k + (t + 1) by omega] at this
    exact this
theorem sz_bld_bd (xs : Nat → Int32) : ∀ (D : szD) (k : Nat) (ρ : Nat → Int), (∀ n, -2147483648 ≤ ρ n ∧ ρ n ≤ 2147483647) → ∀ n, -2147483648 ≤ sz_bld xs D k ρ n ∧ sz_bld xs D k ρ n ≤ 2147483647
  | [], _, _, h, n => h n
  | q :: D, k, ρ, h, n => by
    unfold sz_bld
    refine sz_bld_bd xs D (k + 1) _ (fun n => ?_) n
    split
    · split
      · exact sz_bd _
      · exact sz_bd _
    · exact h n
theorem sz_rho (xs : Nat → Int32) {D : szD} (ha : sz_acy D 0 = true) : ∃ ρ, sz_D D ρ ∧ (∀ k, -2147483648 ≤ ρ k ∧ ρ k ≤ 2147483647) ∧ ∀ k x y, D[k]? = some (0, x, y) → ρ k = (xs k).toInt := by
  refine ⟨sz_bld xs D 0 (fun _ => 0), ?_, sz_bld_bd xs D 0 _ (fun _ => ⟨by decide, by decide⟩), ?_⟩
  · intro k o x y h ho
    have := sz_bld_at xs D 0 (fun _ => 0) ha k o x y h
    rw [Nat.zero_add, if_neg ho] at this
    exact this
  · intro k x y h
    have := sz_bld_at xs D 0 (fun _ => 0) ha k 0 x y h
    rw [Nat.zero_add, if_pos rfl] at this
    exact this
def sz_D5 : szD := [(0, (0, 0, []), (0, 0, [])), (0, (0, 0, []), (0, 0, [])), (0, (0, 0, []), (0, 0, [])), (0, (0, 0, []), (0, 0, [])), (0, (0, 0, []), (0, 0, [])), (13, (0, 0, [(0, 1)]), (0, 63, []))]
def sz_R5 (a b : Int) : szR := [(-2147483648, 2147483647), (-2147483648, 2147483647), (-2147483648, 2147483647), (-2147483648, 2147483647), (-2147483648, 2147483647), (a, b)]
/-- a case of the law's switch whose run needs no more atoms -/
theorem sz_case {xs : Nat → Int32} {a b : Int} (h1 : a ≤ (xs 0 &&& 63).toInt) (h2 : (xs 0 &&& 63).toInt ≤ b) {T : List (Int × szT)} {n : Nat} (h : sz_ex szP sz_D5 T (sz_X 5) n (sz_R5 a b) sz_0 = true) : mz_Good 5 xs := by
  obtain ⟨ρ, hD, hB, hf⟩ := sz_rho xs (D := sz_D5) (by decide)
  have h0 : ρ 0 = (xs 0).toInt := hf 0 _ _ rfl
  have h5 : ρ 5 = (xs 0 &&& 63).toInt := by
    rw [hD 5 13 _ _ rfl (by decide)]
    have e1 : sz_i ρ (0, 0, [(0, 1)]) = xs 0 := by
      unfold sz_i
      simp only [sz_sum, Int.zero_add, Int.one_mul, Int.add_zero, h0, Int32.ofInt_toInt]
    rw [e1, sz_i_const]
    rfl
  refine sz_good sz_pkall_szP sz_pk_0 hD hB ?_ ?_ h
  · intro k
    match k with
    | 0 => exact hB 0
    | 1 => exact hB 1
    | 2 => exact hB 2
    | 3 => exact hB 3
    | 4 => exact hB 4
    | 5 =>
      show a ≤ ρ 5 ∧ ρ 5 ≤ b
      rw [h5]
      exact ⟨h1, h2⟩
    | k + 6 => exact hB (k + 6)
  · intro k hk
    match k, hk with
    | 0, _ => exact h0
    | 1, _ => exact hf 1 _ _ rfl
    | 2, _ => exact hf 2 _ _ rfl
    | 3, _ => exact hf 3 _ _ rfl
    | 4, _ => exact hf 4 _ _ rfl
/-- a script too short for a call -/
theorem sz_short {xs : Nat → Int32} {L n : Nat} (h : sz_ex szP [] [] (sz_X L) n [] sz_0 = true) : mz_Good L xs := by
  refine sz_good (ρ := fun k => (xs k).toInt) sz_pkall_szP sz_pk_0 (fun k o x y h => by simp at h) (fun k => sz_bd _) (fun k => ?_) (fun _ _ => rfl) h
  exact sz_bd _
