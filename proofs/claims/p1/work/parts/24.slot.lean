/-! slots -/
theorem sz_sl_bit (w N k i : Nat) : (sz_sl w N k).testBit i = (decide (i < w) && N.testBit (w * k + i)) := by
  show ((N >>> (w * k)) % 2 ^ w).testBit i = _
  rw [Nat.testBit_mod_two_pow, Nat.testBit_shiftRight]
theorem sz_hi {w x i : Nat} (hx : x < 2 ^ w) (h : w ≤ i) : x.testBit i = false := Nat.testBit_lt_two_pow (Nat.lt_of_lt_of_le hx (Nat.pow_le_pow_right (by decide) h))
theorem sz_sl_lt (w N k : Nat) : sz_sl w N k < 2 ^ w := Nat.mod_lt _ (Nat.two_pow_pos w)
theorem sz_sl_ss {w N k x k' : Nat} (hx : x < 2 ^ w) : sz_sl w (sz_ss w N k x) k' = if k' = k then x else sz_sl w N k' := by
  have hb : ∀ j, (sz_ss w N k x).testBit j = (N.testBit j ^^ (decide (w * k ≤ j) && ((sz_sl w N k).testBit (j - w * k) ^^ x.testBit (j - w * k)))) := by
    intro j
    show (N ^^^ ((sz_sl w N k ^^^ x) <<< (w * k))).testBit j = _
    rw [Nat.testBit_xor, Nat.testBit_shiftLeft, Nat.testBit_xor]
  apply Nat.eq_of_testBit_eq
  intro i
  rw [sz_sl_bit, hb]
  by_cases hk : k' = k
  · subst hk
    rw [if_pos rfl, sz_sl_bit, Nat.add_sub_cancel_left, decide_eq_true (Nat.le_add_right _ _)]
    by_cases hi : i < w
    · rw [decide_eq_true hi]
      cases N.testBit (w * k' + i) <;> cases x.testBit i <;> rfl
    · rw [decide_eq_false hi, sz_hi hx (by omega)]
      rfl
  · rw [if_neg hk, sz_sl_bit (k := k')]
    by_cases hi : i < w
    · rw [decide_eq_true hi]
      have : (decide (w * k ≤ w * k' + i) && ((sz_sl w N k).testBit (w * k' + i - w * k) ^^ x.testBit (w * k' + i - w * k))) = false := by
        by_cases hlt : k' < k
        · have := Nat.mul_le_mul_left w (Nat.succ_le_of_lt hlt)
          rw [Nat.mul_succ] at this
          rw [decide_eq_false (by omega)]
          rfl
        · have := Nat.mul_le_mul_left w (Nat.succ_le_of_lt (show k < k' by omega))
          rw [Nat.mul_succ] at this
          rw [sz_hi (sz_sl_lt w N k) (by omega), sz_hi hx (by omega)]
          simp
      rw [this]
      cases N.testBit (w * k' + i) <;> rfl
    · rw [decide_eq_false hi]
      rfl
theorem sz_sl_tick {N k : Nat} (h : k ≠ 0) : sz_sl 40 (sz_tick N) k = sz_sl 40 N k := by
  unfold sz_tick
  rw [sz_sl_ss (x := Nat.mod (Nat.add (sz_sl 40 N 0) 1) 1099511627776) (Nat.mod_lt _ (by decide)), if_neg h]
/-- a block of n slots copied -/
theorem sz_cp_sl {N sb db n k : Nat} : sz_sl 40 (sz_cp N sb db n) k = if db ≤ k ∧ k < db + n then sz_sl 40 N (sb + (k - db)) else sz_sl 40 N k := by
  have hl : ∀ b j, (sz_bl N b n).testBit j = (decide (j < 40 * n) && N.testBit (40 * b + j)) := by
    intro b j
    show ((N >>> (40 * b)) % 2 ^ (40 * n)).testBit j = _
    rw [Nat.testBit_mod_two_pow, Nat.testBit_shiftRight]
  have hb : ∀ j, (sz_cp N sb db n).testBit j = (N.testBit j ^^ (decide (40 * db ≤ j) && ((sz_bl N sb n).testBit (j - 40 * db) ^^ (sz_bl N db n).testBit (j - 40 * db)))) := by
    intro j
    show (N ^^^ ((sz_bl N sb n ^^^ sz_bl N db n) <<< (40 * db))).testBit j = _
    rw [Nat.testBit_xor, Nat.testBit_shiftLeft, Nat.testBit_xor]
  apply Nat.eq_of_testBit_eq
  intro i
  rw [sz_sl_bit, hb, hl, hl]
  by_cases hi : i < 40
  · rw [decide_eq_true hi]
    by_cases hk : db ≤ k ∧ k < db + n
    · rw [if_pos hk, sz_sl_bit, decide_eq_true hi, decide_eq_true (show 40 * db ≤ 40 * k + i by omega), decide_eq_true (show 40 * k + i - 40 * db < 40 * n by omega)]
      have e1 : 40 * db + (40 * k + i - 40 * db) = 40 * k + i := by omega
      have e2 : 40 * sb + (40 * k + i - 40 * db) = 40 * (sb + (k - db)) + i := by omega
      rw [e1, e2]
      cases N.testBit (40 * k + i) <;> cases N.testBit (40 * (sb + (k - db)) + i) <;> rfl
    · rw [if_neg hk, sz_sl_bit, decide_eq_true hi]
      by_cases h1 : db ≤ k
      · rw [decide_eq_false (show ¬ 40 * k + i - 40 * db < 40 * n by omega)]
        cases N.testBit (40 * k + i) <;> simp
      · rw [decide_eq_false (show ¬ 40 * db ≤ 40 * k + i by omega)]
        cases N.testBit (40 * k + i) <;> rfl
  · rw [decide_eq_false hi]
    split <;> (rw [sz_sl_bit, decide_eq_false hi]; rfl)
/-! codes of values -/
theorem sz_ix_ok : ∀ {T : List (Int × szT)} {x : Int × szT} {n k : Nat}, sz_ix T x n = some k → n ≤ k ∧ T[k - n]? = some x
  | [], _, _, _, h => by cases h
  | q :: T, x, n, k, h => by
    unfold sz_ix at h
    split at h
    · rename_i hc
      cases h
      exact ⟨Nat.le_refl _, by rw [Nat.sub_self, hc]; rfl⟩
    · obtain ⟨h1, h2⟩ := sz_ix_ok h
      refine ⟨by omega, ?_⟩
      have : k - n = (k - (n + 1)) + 1 := by omega
      rw [this]
      simpa using h2
theorem sz_w_bd (x : Int) : -2147483648 ≤ sz_w x ∧ sz_w x ≤ 2147483647 := by rw [← sz_toInt]; exact sz_bd _
theorem sz_i_w (ρ : Nat → Int) (g g' : Nat) (c : Int) : sz_i ρ (g, sz_w c, []) = sz_i ρ (g', c, []) := by
  rw [sz_i_const, sz_i_const, ← sz_toInt, Int32.ofInt_toInt]
theorem sz_mod8 (k a : Nat) (h : a < 8) : Nat.mod (Nat.add (Nat.mul 8 k) a) 8 = a := by show (8 * k + a) % 8 = a; omega
theorem sz_shr3 (k a : Nat) (h : a < 8) : Nat.shiftRight (Nat.add (Nat.mul 8 k) a) 3 = k := by show (8 * k + a) >>> 3 = k; rw [Nat.shiftRight_eq_div_pow]; omega
theorem sz_sub (c : Int) (h : -2147483648 ≤ c) : Int.subNatNat (c + 2147483648).toNat 2147483648 = c := by
  rw [Int.subNatNat_eq_coe]
  omega
theorem sz_c8 (k a : Nat) : Nat.add (Nat.mul 8 k) a = 8 * k + a := rfl
theorem sz_en_ok {T : List (Int × szT)} {v : szV} {c : Nat} (ρ : Nat → Int) (h : sz_en T v = some c) : c ≠ 0 ∧ c < 2 ^ 40 ∧ sz_v ρ (sz_nd T c) = sz_v ρ v := by
  obtain ⟨g, x⟩ := v
  have key : ∀ {a b : Nat}, a < 8 → b < 8 → a ≠ 0 → b ≠ 0 → sz_en2 T x a b = some c → c ≠ 0 ∧ c < 2 ^ 40 ∧ ((x.2 = [] ∧ Nat.mod c 8 = a ∧ Int.subNatNat (Nat.shiftRight c 3) 2147483648 = sz_w x.1) ∨ (Nat.mod c 8 = b ∧ (sz_nth T (Nat.shiftRight c 3)).getD (0, []) = x)) := by
    intro a b ha hb ha0 hb0 h
    obtain ⟨p, t⟩ := x
    unfold sz_en2 at h
    cases t with
    | nil =>
      dsimp only at h
      cases h
      have := sz_w_bd p
      refine ⟨?_, ?_, Or.inl ⟨rfl, sz_mod8 _ _ ha, ?_⟩⟩
      · rw [sz_c8]; omega
      · rw [sz_c8]; omega
      · rw [sz_shr3 _ _ ha]; exact sz_sub _ this.1
    | cons q t =>
      dsimp only at h
      split at h
      · rename_i k hk
        split at h
        · rename_i hlt
          cases h
          refine ⟨?_, ?_, Or.inr ⟨sz_mod8 _ _ hb, ?_⟩⟩
          · rw [sz_c8]; omega
          · rw [sz_c8]; omega
          · rw [sz_shr3 _ _ hb, sz_nth_eq]
            have := (sz_ix_ok hk).2
            rw [Nat.sub_zero] at this
            rw [this]
            rfl
        · cases h
      · cases h
  unfold sz_en at h
  match g, h with
  | 0, h =>
    obtain ⟨h1, h2, h3⟩ := key (by decide) (by decide) (by decide) (by decide) h
    refine ⟨h1, h2, ?_⟩
    rcases h3 with ⟨h3, h4, h5⟩ | ⟨h4, h5⟩
    · unfold sz_nd
      rw [h4, h5]
      obtain ⟨p, t⟩ := x
      dsimp only at h3
      subst h3
      exact congrArg Value.int (sz_i_w ρ 0 0 p)
    · unfold sz_nd
      rw [h4, h5]
      rfl
  | 1, h =>
    have h : (if x.1.toNat < 4294967296 then some (Nat.add (Nat.mul 8 x.1.toNat) 2) else none) = some c := h
    split at h
    · rename_i hlt
      cases h
      refine ⟨?_, ?_, ?_⟩
      · rw [sz_c8]; omega
      · rw [sz_c8]; omega
      · unfold sz_nd
        rw [sz_mod8 _ _ (by decide), sz_shr3 _ _ (by decide)]
        exact sz_vr rfl
    · cases h
  | 2, h =>
    obtain ⟨h1, h2, h3⟩ := key (by decide) (by decide) (by decide) (by decide) h
    refine ⟨h1, h2, ?_⟩
    rcases h3 with ⟨h3, h4, h5⟩ | ⟨h4, h5⟩
    · unfold sz_nd
      rw [h4, h5]
      obtain ⟨p, t⟩ := x
      dsimp only at h3
      subst h3
      exact congrArg (fun z => Value.long (Int32.toInt64 z)) (sz_i_w ρ 2 2 p)
    · unfold sz_nd
      rw [h4, h5]
      rfl
  | n + 3, h =>
    have h : (none : Option Nat) = some c := h
    cases h
