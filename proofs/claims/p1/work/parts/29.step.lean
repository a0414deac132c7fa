/-! a step of S -/
theorem sz_pk_ok : ∀ {cs : List mzI} {N i : Nat}, sz_pk N cs = true → sz_sl 80 N i ≠ 0 → ∃ ri, cs[i]? = some ri ∧ ri.1 = Nat.mod (sz_sl 80 N i) 256 ∧ ri.2.1 = sz_fa (sz_sl 80 N i) ∧ ri.2.2.1 = sz_fb (sz_sl 80 N i) ∧ ri.2.2.2.1 = sz_fc (sz_sl 80 N i)
  | [], N, i, h, h0 => by
    have h : N = 0 := Nat.eq_of_beq_eq_true h
    subst h
    exact absurd (by show (0 >>> (80 * i)) % 2 ^ 80 = 0; rw [Nat.zero_shiftRight]) h0
  | ri :: cs, N, 0, h, h0 => by
    unfold sz_pk at h
    simp only [Bool.and_eq_true, decide_eq_true_eq] at h
    obtain ⟨h1, h2, h3, h4, _⟩ := h
    have e : sz_sl 80 N 0 = Nat.mod N (Nat.pow 2 80) := rfl
    rw [e]
    refine ⟨ri, rfl, ?_, Nat.eq_of_beq_eq_true h2, Nat.eq_of_beq_eq_true h3, h4⟩
    rw [Nat.eq_of_beq_eq_true h1]
    show N % 256 = N % 2 ^ 80 % 256
    omega
  | ri :: cs, N, i + 1, h, h0 => by
    unfold sz_pk at h
    simp only [Bool.and_eq_true, decide_eq_true_eq] at h
    obtain ⟨_, _, _, _, _, h5⟩ := h
    have e : sz_sl 80 N (i + 1) = sz_sl 80 (Nat.shiftRight N 80) i := by
      show (N >>> (80 * (i + 1))) % 2 ^ 80 = ((N >>> 80) >>> (80 * i)) % 2 ^ 80
      rw [← Nat.shiftRight_add]
      congr 2
      omega
    rw [e] at h0 ⊢
    obtain ⟨ri', g1, g2⟩ := sz_pk_ok h5 h0
    exact ⟨ri', by simpa using g1, g2⟩
def sz_pkall : List szM → List mzM → Bool
  | [], _ => true
  | q :: r, M :: r' => Nat.beq q.1 M.1 && (Nat.beq q.2.1 M.2.1 && (decide (q.2.2.1 = M.2.2.1) && (sz_pk q.2.2.2 M.2.2.2 && sz_pkall r r')))
  | _ :: _, [] => false
theorem sz_pkall_ok : ∀ {P : List szM} {Q : List mzM} {j : Nat} {q : szM}, sz_pkall P Q = true → P[j]? = some q → ∃ M, Q[j]? = some M ∧ q.1 = M.1 ∧ q.2.1 = M.2.1 ∧ q.2.2.1 = M.2.2.1 ∧ sz_pk q.2.2.2 M.2.2.2 = true
  | [], _, _, _, _, h => by simp at h
  | _ :: _, [], _, _, h, _ => by cases h
  | p :: P, M :: Q, 0, q, h, hq => by
    unfold sz_pkall at h
    simp only [Bool.and_eq_true, decide_eq_true_eq] at h
    cases hq
    exact ⟨M, rfl, Nat.eq_of_beq_eq_true h.1, Nat.eq_of_beq_eq_true h.2.1, h.2.2.1, h.2.2.2.1⟩
  | p :: P, M :: Q, j + 1, q, h, hq => by
    unfold sz_pkall at h
    simp only [Bool.and_eq_true, decide_eq_true_eq] at h
    obtain ⟨M', g⟩ := sz_pkall_ok h.2.2.2.2 (by simpa using hq)
    exact ⟨M', by simpa using g.1, g.2⟩
def sz_FR (ρ : Nat → Int) (f : szF) (w : mzW) : Prop := f.1 = w.1 ∧ mzP[w.1]? = some w.2.1 ∧ f.2.1 = (w.2.1.1, w.2.1.2.2.1) ∧ sz_pk f.2.2.1 w.2.1.2.2.2 = true ∧ f.2.2.2.1 = w.2.2.1 ∧ sz_LR ρ f.2.2.2.2.1 w.2.2.2.1 ∧ w.2.2.2.2 = f.2.2.2.2.2.map (sz_v ρ)
def sz_WR (ρ : Nat → Int) : List szF → List mzW → Prop
  | [], [] => True
  | f :: fs, w :: ws => sz_FR ρ f w ∧ sz_WR ρ fs ws
  | _, _ => False
def sz_GG (T : List (Int × szT)) (ρ : Nat → Int) (X : List (List szV)) (C : szQ) : Prop := ∀ (ws : List mzW) (w : mzW) (h : List mzC), sz_FR ρ C.1 w → sz_WR ρ C.2.1 ws → sz_HR T ρ C.2.2.1 h → mz_gg (X.map (fun l => l.map (sz_v ρ))) (mz_KK (X.map (fun l => l.map (sz_v ρ))) ws C.2.2.2) C.2.2.2 w.1 w.2.2.1 w.2.2.2.1 w.2.2.2.2 (h, C.2.2.1.2.2.2.2)
def sz_then (T : List (Int × szT)) (ρ : Nat → Int) (X : List (List szV)) (o : Option (Option szQ)) : Prop := ∀ C, o = some (some C) → sz_GG T ρ X C
theorem sz_args_eq {β : Type} (ρ : Nat → Int) : ∀ (as : List szV) (k : szLo → β), ∃ lo, sz_args as k = k lo ∧ (∀ (β' : Type) (k' : szLo → β'), sz_args as k' = k' lo) ∧ ∀ n i v, lo[i]? = some v → v.1 < 9 → mz_ld (lv_args n (as.map (sz_v ρ))) (n + i) = some (sz_v ρ v)
  | [], k => ⟨[], rfl, fun _ _ => rfl, fun _ _ _ h => by simp at h⟩
  | a :: as, k => by
    have hcat := sz_catv ρ a
    by_cases hc : sz_cat a = 2
    · obtain ⟨lo, h1, h2, h3⟩ := sz_args_eq ρ as (fun l => k (a :: (9, 0, []) :: l))
      refine ⟨a :: (9, 0, []) :: lo, ?_, ?_, ?_⟩
      · unfold sz_args; rw [if_pos hc]; exact h1
      · intro β' k'; unfold sz_args; rw [if_pos hc]; exact h2 _ _
      · intro n i v hv h9
        show mz_ld ((n, sz_v ρ a) :: lv_args (if (sz_v ρ a).category = 2 then n + 2 else n + 1) (as.map (sz_v ρ))) (n + i) = _
        rw [hcat, if_pos hc]
        unfold mz_ld
        match i, hv with
        | 0, hv => cases hv; rw [if_pos (by omega)]
        | 1, hv => cases hv; exact absurd h9 (by decide)
        | i + 2, hv =>
          rw [if_neg (by omega)]
          have := h3 (n + 2) i v (by simpa using hv) h9
          rw [show n + (i + 2) = n + 2 + i by omega]
          exact this
    · obtain ⟨lo, h1, h2, h3⟩ := sz_args_eq ρ as (fun l => k (a :: l))
      refine ⟨a :: lo, ?_, ?_, ?_⟩
      · unfold sz_args; rw [if_neg hc]; exact h1
      · intro β' k'; unfold sz_args; rw [if_neg hc]; exact h2 _ _
      · intro n i v hv h9
        show mz_ld ((n, sz_v ρ a) :: lv_args (if (sz_v ρ a).category = 2 then n + 2 else n + 1) (as.map (sz_v ρ))) (n + i) = _
        rw [hcat, if_neg hc]
        unfold mz_ld
        match i, hv with
        | 0, hv => cases hv; rw [if_pos (by omega)]
        | i + 1, hv =>
          rw [if_neg (by omega)]
          have := h3 (n + 1) i v (by simpa using hv) h9
          rw [show n + (i + 1) = n + 1 + i by omega]
          exact this
theorem sz_tk_ok : ∀ {n : Nat} {st as : List szV} {q : List szV × List szV}, sz_tk n st as (fun as rest => (as, rest)) = some q → n ≤ st.length ∧ q = ((st.take n).reverse ++ as, st.drop n)
  | 0, st, as, q, h => by
    have h : some (as, st) = some q := h
    cases h
    exact ⟨Nat.zero_le _, by simp⟩
  | n + 1, [], as, q, h => by
    have h : (none : Option (List szV × List szV)) = some q := h
    cases h
  | n + 1, v :: st, as, q, h => by
    have h : sz_tk n st (v :: as) (fun as rest => (as, rest)) = some q := h
    obtain ⟨h1, h2⟩ := sz_tk_ok h
    refine ⟨by simpa using h1, ?_⟩
    rw [h2]
    simp
