/-! values of A: what holds of them -/
theorem sz_fo_eq {β : Type} (x : Nat) (f : Nat → β) : sz_fo x f = f x := rfl
theorem sz_fi_eq {β : Type} (c : Int) (f : Int → β) : sz_fi c f = f c := by cases c <;> rfl
theorem sz_fv_eq {β : Type} (v : szV) (f : szV → β) : sz_fv v f = f v := by
  obtain ⟨g, c, t⟩ := v
  cases c <;> cases t <;> rfl
theorem sz_nth_eq {α : Type} : ∀ (l : List α) (n : Nat), sz_nth l n = l[n]?
  | [], _ => rfl
  | _ :: _, 0 => rfl
  | _ :: l, n + 1 => (sz_nth_eq l n).trans (by simp)
noncomputable def sz_upl {α : Type} (z : α) (i : Nat) (v : α) (l : List α) : List α := sz_upk z i v l (fun l => l)
theorem sz_upk_eq {α β : Type} (z : α) (v : α) : ∀ (i : Nat) (l : List α) (k : List α → β), sz_upk z i v l k = k (sz_upl z i v l)
  | 0, [], _ => rfl
  | 0, _ :: _, _ => rfl
  | i + 1, [], k => (sz_upk_eq z v i [] (fun t => k (z :: t))).trans (congrArg k (sz_upk_eq z v i [] (fun t => z :: t)).symm)
  | i + 1, a :: l, k => (sz_upk_eq z v i l (fun t => k (a :: t))).trans (congrArg k (sz_upk_eq z v i l (fun t => a :: t)).symm)
theorem sz_upl_nil {α : Type} (z v : α) (i : Nat) : sz_upl z (i + 1) v [] = z :: sz_upl z i v [] := sz_upk_eq z v i [] (fun t => z :: t)
theorem sz_upl_cons {α : Type} (z v a : α) (i : Nat) (l : List α) : sz_upl z (i + 1) v (a :: l) = a :: sz_upl z i v l := sz_upk_eq z v i l (fun t => a :: t)
theorem sz_upl_at {α : Type} (z v : α) : ∀ (i : Nat) (l : List α) (n : Nat) (w : α), (sz_upl z i v l)[n]? = some w → (n = i ∧ w = v) ∨ (n ≠ i ∧ (l[n]? = some w ∨ w = z))
  | 0, [], 0, w, h => Or.inl ⟨rfl, by cases h; rfl⟩
  | 0, [], n + 1, w, h => by cases h
  | 0, _ :: _, 0, w, h => Or.inl ⟨rfl, by cases h; rfl⟩
  | 0, _ :: l, n + 1, w, h => Or.inr ⟨by omega, Or.inl h⟩
  | i + 1, [], 0, w, h => by rw [sz_upl_nil] at h; cases h; exact Or.inr ⟨by omega, Or.inr rfl⟩
  | i + 1, [], n + 1, w, h => by
    rw [sz_upl_nil] at h
    rcases sz_upl_at z v i [] n w (by simpa using h) with h | ⟨h1, h2⟩
    · exact Or.inl ⟨by omega, h.2⟩
    · exact Or.inr ⟨by omega, by rcases h2 with h2 | h2; · simp at h2
                                 · exact Or.inr h2⟩
  | i + 1, a :: l, 0, w, h => by rw [sz_upl_cons] at h; cases h; exact Or.inr ⟨by omega, Or.inl rfl⟩
  | i + 1, a :: l, n + 1, w, h => by
    rw [sz_upl_cons] at h
    rcases sz_upl_at z v i l n w (by simpa using h) with h | ⟨h1, h2⟩
    · exact Or.inl ⟨by omega, h.2⟩
    · exact Or.inr ⟨by omega, by rcases h2 with h2 | h2; · exact Or.inl (by simpa using h2)
                                 · exact Or.inr h2⟩
/-- values of atoms in their ranges -/
def sz_R (R : szR) (ρ : Nat → Int) : Prop := ∀ k, (sz_at R k).1 ≤ ρ k ∧ ρ k ≤ (sz_at R k).2
def sz_D (D : szD) (ρ : Nat → Int) : Prop := ∀ k o x y, D[k]? = some (o, x, y) → o ≠ 0 → ρ k = (sz_op o (sz_i ρ x) (sz_i ρ y)).toInt
theorem sz_rs_ok {R : szR} {ρ : Nat → Int} (h : sz_R R ρ) : ∀ t : szT, (sz_rs R t).1 ≤ sz_sum ρ t ∧ sz_sum ρ t ≤ (sz_rs R t).2
  | [] => ⟨Int.le_refl _, Int.le_refl _⟩
  | q :: t => by
    have ih := sz_rs_ok h t
    have hq := h q.1
    unfold sz_rs sz_sum
    by_cases h0 : 0 ≤ q.2
    · rw [if_pos h0]
      have h1 := Int.mul_le_mul_of_nonneg_left hq.1 h0
      have h2 := Int.mul_le_mul_of_nonneg_left hq.2 h0
      dsimp only
      omega
    · rw [if_neg h0]
      have h1 := Int.mul_le_mul_of_nonpos_left (a := q.2) (by omega) hq.1
      have h2 := Int.mul_le_mul_of_nonpos_left (a := q.2) (by omega) hq.2
      dsimp only
      omega
theorem sz_toInt (x : Int) : (Int32.ofInt x).toInt = sz_w x := Int32.toInt_ofInt
theorem sz_bd (x : Int32) : -2147483648 ≤ x.toInt ∧ x.toInt ≤ 2147483647 := ⟨x.le_toInt, by have := x.toInt_lt; omega⟩
theorem sz_w_id {x : Int} (h1 : -2147483648 ≤ x) (h2 : x ≤ 2147483647) : sz_w x = x := by
  rw [← sz_toInt]
  exact Int32.toInt_ofInt_of_le h1 (by omega)
theorem sz_rg_ok {R : szR} {ρ : Nat → Int} (h : sz_R R ρ) (v : szV) : (sz_rg R v).1 ≤ (sz_i ρ v).toInt ∧ (sz_i ρ v).toInt ≤ (sz_rg R v).2 := by
  obtain ⟨g, c, t⟩ := v
  unfold sz_rg sz_rg1 sz_i
  rw [sz_toInt]
  dsimp only
  cases t with
  | nil => exact ⟨by simp [sz_sum], by simp [sz_sum]⟩
  | cons q t =>
    dsimp only
    have hs := sz_rs_ok h (q :: t)
    generalize sz_rs R (q :: t) = u at hs ⊢
    generalize sz_sum ρ (q :: t) = z at hs ⊢
    unfold sz_rg2
    by_cases h1 : c + u.1 = c + u.2
    · rw [if_pos h1]
      have : c + z = c + u.1 := by omega
      rw [this]
      exact ⟨Int.le_refl _, Int.le_refl _⟩
    · rw [if_neg h1]
      by_cases h2 : -2147483648 ≤ c + u.1 ∧ c + u.2 ≤ 2147483647
      · rw [if_pos h2, sz_w_id (by omega) (by omega)]
        dsimp only
        omega
      · rw [if_neg h2, ← sz_toInt]
        exact sz_bd _
theorem sz_k_ok {R : szR} {ρ : Nat → Int} (h : sz_R R ρ) {v : szV} {c : Int} (hk : sz_k R v = some c) : sz_i ρ v = Int32.ofInt c ∧ (sz_i ρ v).toInt = c := by
  unfold sz_k at hk
  have hr := sz_rg_ok h v
  split at hk
  · rename_i he
    cases hk
    have : (sz_i ρ v).toInt = (sz_rg R v).1 := by omega
    exact ⟨by rw [← this, Int32.ofInt_toInt], this⟩
  · cases hk
theorem sz_sum_ins (ρ : Nat → Int) (q : Nat × Int) : ∀ t : szT, sz_sum ρ (sz_ins q t) = q.2 * ρ q.1 + sz_sum ρ t
  | [] => rfl
  | p :: t => by
    unfold sz_ins
    by_cases h1 : q.1 = p.1
    · rw [if_pos h1]
      by_cases h2 : q.2 + p.2 = 0
      · rw [if_pos h2]
        simp only [sz_sum]
        have : q.2 * ρ q.1 + p.2 * ρ p.1 = 0 := by rw [h1, ← Int.add_mul, h2, Int.zero_mul]
        omega
      · rw [if_neg h2]
        simp only [sz_sum]
        rw [h1, Int.add_mul]
        omega
    · rw [if_neg h1]
      by_cases h2 : q.1 < p.1
      · rw [if_pos h2]; rfl
      · rw [if_neg h2]
        simp only [sz_sum, sz_sum_ins ρ q t]
        omega
theorem sz_sum_add (ρ : Nat → Int) : ∀ t u : szT, sz_sum ρ (sz_add t u) = sz_sum ρ t + sz_sum ρ u
  | [], u => by simp [sz_add, sz_sum]
  | q :: t, u => by
    simp only [sz_add, sz_sum_ins, sz_sum, sz_sum_add ρ t u]
    omega
theorem sz_sum_sc (ρ : Nat → Int) (n : Int) : ∀ t : szT, sz_sum ρ (sz_sc n t) = n * sz_sum ρ t
  | [] => by simp [sz_sc, sz_sum]
  | q :: t => by
    have := sz_sum_sc ρ n t
    unfold sz_sc at this ⊢
    simp only [List.map_cons, sz_sum, this, Int.mul_add, Int.mul_assoc]
theorem sz_find_ok : ∀ {D : szD} {o : Nat} {x y : szV} {n k : Nat}, sz_find D o x y n = some k → ∃ x' y', n ≤ k ∧ D[k - n]? = some (o, x', y') ∧ x'.2 = x.2 ∧ y'.2 = y.2
  | [], _, _, _, _, _, h => by cases h
  | q :: D, o, x, y, n, k, h => by
    unfold sz_find at h
    split at h
    · rename_i hc
      cases h
      exact ⟨q.2.1, q.2.2, Nat.le_refl _, by rw [Nat.sub_self]; simp [← hc.1], hc.2.1, hc.2.2⟩
    · obtain ⟨x', y', h1, h2, h3⟩ := sz_find_ok h
      refine ⟨x', y', by omega, ?_, h3⟩
      have : k - n = (k - (n + 1)) + 1 := by omega
      rw [this]
      simpa using h2
theorem sz_i_eq {ρ : Nat → Int} {x y : szV} (h : x.2 = y.2) : sz_i ρ x = sz_i ρ y := by unfold sz_i; rw [h]
theorem sz_mk_ok {D : szD} {ρ : Nat → Int} (hD : sz_D D ρ) {o : Nat} {x y z : szV} (ho : o ≠ 0) (h : sz_mk D o x y = some z) : z.1 = 0 ∧ sz_i ρ z = sz_op o (sz_i ρ x) (sz_i ρ y) := by
  unfold sz_mk at h
  split at h
  · rename_i k hk
    cases h
    obtain ⟨x', y', h1, h2, h3, h4⟩ := sz_find_ok hk
    have := hD k o x' y' (by simpa using h2) ho
    refine ⟨rfl, ?_⟩
    unfold sz_i
    simp only [sz_sum, Int.zero_add, Int.one_mul, Int.add_zero, this, Int32.ofInt_toInt]
    rw [sz_i_eq h3, sz_i_eq h4]
    rfl
  · cases h
theorem sz_i_const (ρ : Nat → Int) (g : Nat) (c : Int) : sz_i ρ (g, c, []) = Int32.ofInt c := by unfold sz_i; simp [sz_sum]
theorem sz_lt_ok {p q : Int × Int} {x y : Int32} (hp : p.1 ≤ x.toInt ∧ x.toInt ≤ p.2) (hq : q.1 ≤ y.toInt ∧ y.toInt ≤ q.2) {b : Bool} (h : sz_lt p q = some b) : b = decide (x < y) := by
  unfold sz_lt at h
  split at h
  · cases h
    exact (decide_eq_true (Int32.lt_iff_toInt_lt.mpr (by omega))).symm
  · split at h
    · cases h
      exact (decide_eq_false (fun hh => by have := Int32.lt_iff_toInt_lt.mp hh; omega)).symm
    · cases h
theorem sz_eq_ok {p q : Int × Int} {x y : Int32} (hp : p.1 ≤ x.toInt ∧ x.toInt ≤ p.2) (hq : q.1 ≤ y.toInt ∧ y.toInt ≤ q.2) {b : Bool} (h : sz_eq p q = some b) : b = decide (x = y) := by
  unfold sz_eq at h
  split at h
  · cases h
    exact (decide_eq_false (fun hh => by rw [hh] at hp; omega)).symm
  · split at h
    · cases h
      exact (decide_eq_true (Int32.toInt_inj.mp (by omega))).symm
    · cases h
theorem sz_le_not (x y : Int32) : decide (y ≤ x) = !decide (x < y) := by
  rw [← decide_not]
  congr 1
  rw [Int32.le_iff_toInt_le, Int32.lt_iff_toInt_lt]
  exact propext (by omega)
theorem sz_vi {ρ : Nat → Int} {v : szV} (h : v.1 = 0) : sz_v ρ v = .int (sz_i ρ v) := by unfold sz_v; rw [h]; rfl
theorem sz_vl {ρ : Nat → Int} {v : szV} (h : v.1 = 2) : sz_v ρ v = .long (sz_i ρ v).toInt64 := by unfold sz_v; rw [h]; rfl
theorem sz_vj {ρ : Nat → Int} {v : szV} (h : v.1 = 3) : sz_v ρ v = .retAddr 0 := by unfold sz_v; rw [h]; rfl
theorem sz_ty {ρ : Nat → Int} {v : szV} (h : v.1 < 4) : mz_ty (sz_v ρ v) = v.1 := by
  obtain ⟨g, c, t⟩ := v
  match g, h with
  | 0, _ => rfl
  | 1, _ => rfl
  | 2, _ => rfl
  | 3, _ => rfl
theorem sz_catv (ρ : Nat → Int) (v : szV) : (sz_v ρ v).category = sz_cat v := by
  obtain ⟨g, c, t⟩ := v
  match g with
  | 0 => rfl
  | 1 => rfl
  | 2 => rfl
  | 3 => rfl
  | 4 => rfl
  | 5 => rfl
  | _ + 6 => simp [sz_v, sz_cat, Value.category]
theorem sz_totv (ρ : Nat → Int) (st : List szV) : mz_sum (st.map (sz_v ρ)) = sz_tot st := by
  unfold mz_sum sz_tot
  rw [List.map_map]
  congr 1
  exact List.map_congr_left (fun v _ => sz_catv ρ v)
theorem sz_v5 {ρ : Nat → Int} {v : szV} (h : v.1 = 5) : sz_v ρ v = .long (Int64.ofInt (v.2.1 + sz_sum ρ v.2.2)) := by unfold sz_v; rw [h]; rfl
theorem sz_v1 {ρ : Nat → Int} {v : szV} (h : v.1 = 1) : sz_v ρ v = .ref (if v.2.1 < 1000000 then v.2.1.toNat else (ρ 1000000).toNat) := by unfold sz_v; rw [h]; rfl
