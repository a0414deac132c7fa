/-! one instruction on the heap -/
theorem sz_zero_ok {ρ : Nat → Int} {a : Nat} (ha : ¬ 3 < a) : ∀ k, sz_v ρ (sz_df (2 * a + 1) k) = mz_zero a := by
  have hz : ∀ g : Nat, sz_i ρ (g, 0, []) = 0 := fun g => by rw [sz_i_const]; rfl
  intro k
  match a, ha with
  | 0, _ => show Value.int (sz_i ρ (0, 0, [])) = Value.int 0; rw [hz]
  | 1, _ => show Value.long (sz_i ρ (2, 0, [])).toInt64 = Value.long 0; rw [hz]; rfl
  | 2, _ => show Value.int (sz_i ρ (0, 0, [])) = Value.int 0; rw [hz]
  | 3, _ => show Value.int (sz_i ρ (0, 0, [])) = Value.int 0; rw [hz]
  | n + 4, h => exact absurd (by omega) h
theorem sz_heap_ok {D : szD} {T : List (Int × szT)} {R : szR} {ρ : Nat → Int} {X : List (List szV)} {s : szH} {h : List mzC} {st : List szV} {op a b : Nat} {c : Int} {r : List szV × szH} {sw : List (Int × Nat)} (hD : sz_D D ρ) (hR : sz_R R ρ) (H : sz_HR T ρ s h) (e : sz_heap D T R X op a b c st s = some r) : sz_2 T ρ (mz_heap (X.map (fun l => l.map (sz_v ρ))) (op, a, b, c, sw) (st.map (sz_v ρ)) (h, s.2.2.2.2)) r := by
  unfold sz_heap at e
  cases h_ : Nat.beq op 20 with
  | true => rw [h_] at e; have h_ := Nat.eq_of_beq_eq_true h_; subst h_; exact sz_h20_ok H e
  | false =>
  rw [h_] at e; clear h_
  cases h_ : Nat.beq op 22 with
  | true => rw [h_] at e; have h_ := Nat.eq_of_beq_eq_true h_; subst h_; exact sz_h22_ok hR H e
  | false =>
  rw [h_] at e; clear h_
  cases h_ : Nat.beq op 23 with
  | true => rw [h_] at e; have h_ := Nat.eq_of_beq_eq_true h_; subst h_; exact sz_h23_ok hD hR H e
  | false =>
  rw [h_] at e; clear h_
  cases h_ : Nat.beq op 21 with
  | true => rw [h_] at e; have h_ := Nat.eq_of_beq_eq_true h_; subst h_; exact sz_h21_ok hR H e
  | false =>
  rw [h_] at e; clear h_
  cases h_ : Nat.beq op 24 with
  | true => rw [h_] at e; have h_ := Nat.eq_of_beq_eq_true h_; subst h_; exact sz_h24_ok H e
  | false =>
  rw [h_] at e; clear h_
  cases h_ : Nat.beq op 25 with
  | true =>
    rw [h_] at e; have h_ := Nat.eq_of_beq_eq_true h_; subst h_
    have e : (if a < 12 then sz_mkc (2 * a) (mz_def a).length b st s else none) = some r := e
    split at e
    · rename_i ha
      obtain ⟨k1, k2, k3⟩ := sz_mkc_ok H rfl (sz_df_def ha) e
      refine ⟨_, ?_, k3⟩
      rw [k1, k2]
      show mz_h25 a b _ _ = _
      unfold mz_h25
      rw [if_pos ha]
    · cases e
  | false =>
  rw [h_] at e; clear h_
  cases h_ : Nat.beq op 26 with
  | true =>
    rw [h_] at e; have h_ := Nat.eq_of_beq_eq_true h_; subst h_
    have e : (if 3 < a then none else sz_new R (2 * a + 1) st s) = some r := e
    split at e
    · cases e
    · rename_i ha
      obtain ⟨n, rest, k0, k1, k2, k3, k4⟩ := sz_new_ok hR H (sz_zero_ok ha) e
      refine ⟨_, ?_, k4⟩
      rw [k0, k2, k3]
      show mz_h26 a (Value.int n :: rest) (h, s.2.2.2.2) = _
      unfold mz_h26
      dsimp only
      have hneg : ¬ (n < 0 ∨ 60000 < n.toNatClampNeg ∨ 3 < a) := fun h1 => h1.elim (fun h1 => k1 (Or.inl h1)) (fun h1 => h1.elim (fun h1 => k1 (Or.inr h1)) ha)
      rw [if_neg hneg]
  | false =>
  rw [h_] at e; clear h_
  cases h_ : Nat.beq op 27 with
  | true =>
    rw [h_] at e; have h_ := Nat.eq_of_beq_eq_true h_; subst h_
    have e : sz_new R 9 st s = some r := e
    obtain ⟨n, rest, k0, k1, k2, k3, k4⟩ := sz_new_ok hR H (fun _ => rfl) e
    refine ⟨_, ?_, k4⟩
    rw [k0, k2, k3]
    show mz_h27 (Value.int n :: rest) (h, s.2.2.2.2) = _
    unfold mz_h27
    dsimp only
    rw [if_neg k1]
  | false =>
  rw [h_] at e; clear h_
  cases h_ : Nat.beq op 28 with
  | true =>
    rw [h_] at e; have h_ := Nat.eq_of_beq_eq_true h_; subst h_
    have e : (if 1 ≤ a ∧ a < 4 then some (((1, Int.ofNat a, []) : szV) :: st, s) else none) = some r := e
    split at e
    · rename_i ha
      cases e
      refine ⟨h, ?_, H⟩
      show (if 1 ≤ a ∧ a < 4 then some (Value.ref a :: st.map (sz_v ρ), (h, s.2.2.2.2)) else none) = _
      rw [if_pos ha]
      rfl
    · cases e
  | false =>
  rw [h_] at e; clear h_
  cases h_ : Nat.beq op 29 with
  | true => rw [h_] at e; have h_ := Nat.eq_of_beq_eq_true h_; subst h_; exact sz_h29_ok H e
  | false =>
  rw [h_] at e; clear h_
  cases h_ : Nat.beq op 30 with
  | true => rw [h_] at e; have h_ := Nat.eq_of_beq_eq_true h_; subst h_; exact sz_h30_ok hR H e
  | false =>
  rw [h_] at e; cases e
