/-! S's heap against M's -/
def sz_HC (T : List (Int × szT)) (ρ : Nat → Int) (N x : Nat) (h : List mzC) (r d : Nat) : Prop := ∃ fs, h[r]? = some (sz_dt d, fs) ∧ fs.length = sz_dl d ∧ 1 ≤ sz_db d ∧ sz_db d + sz_dl d ≤ x ∧ ∀ k, k < sz_dl d → fs[k]? = some (sz_v ρ (sz_rd T N (sz_dt d) (sz_db d) k))
def sz_HR (T : List (Int × szT)) (ρ : Nat → Int) (s : szH) (h : List mzC) : Prop :=
  h.length = s.2.2.1 ∧ 1 ≤ s.2.2.2.1 ∧ (∀ k, s.2.2.2.1 ≤ k → sz_sl 40 s.1 k = 0) ∧ (∀ r, sz_sl 64 s.2.1 r ≠ 0 → sz_HC T ρ s.1 s.2.2.2.1 h r (sz_sl 64 s.2.1 r)) ∧
  (∀ r r', sz_sl 64 s.2.1 r ≠ 0 → sz_sl 64 s.2.1 r' ≠ 0 → r ≠ r' → sz_db (sz_sl 64 s.2.1 r) + sz_dl (sz_sl 64 s.2.1 r) ≤ sz_db (sz_sl 64 s.2.1 r') ∨ sz_db (sz_sl 64 s.2.1 r') + sz_dl (sz_sl 64 s.2.1 r') ≤ sz_db (sz_sl 64 s.2.1 r))
theorem sz_ce_at {s : szH} {r : szV} (h : sz_ce s r ≠ 0) : r.1 = 1 ∧ 4 ≤ r.2.1.toNat ∧ sz_ce s r = sz_sl 64 s.2.1 (r.2.1.toNat - 4) := by
  unfold sz_ce at h ⊢
  cases hc : (Nat.beq r.1 1 && Nat.ble 4 r.2.1.toNat) with
  | false => rw [hc] at h; exact absurd rfl h
  | true =>
    rw [Bool.and_eq_true] at hc
    exact ⟨Nat.eq_of_beq_eq_true hc.1, Nat.le_of_ble_eq_true hc.2, rfl⟩
theorem sz_get_ok {T : List (Int × szT)} {ρ : Nat → Int} {s : szH} {h : List mzC} (H : sz_HR T ρ s h) {r : szV} (hc : sz_ce s r ≠ 0) (u : Nat × Nat) : ∃ fs, mz_get (h, u) r.2.1.toNat = some (sz_dt (sz_ce s r), fs) ∧ h[r.2.1.toNat - 4]? = some (sz_dt (sz_ce s r), fs) ∧ fs.length = sz_dl (sz_ce s r) ∧ 1 ≤ sz_db (sz_ce s r) ∧ sz_db (sz_ce s r) + sz_dl (sz_ce s r) ≤ s.2.2.2.1 ∧ ∀ k, k < sz_dl (sz_ce s r) → fs[k]? = some (sz_v ρ (sz_rd T s.1 (sz_dt (sz_ce s r)) (sz_db (sz_ce s r)) k)) := by
  obtain ⟨h1, h2, h3⟩ := sz_ce_at hc
  rw [h3] at hc ⊢
  obtain ⟨fs, g1, g2, g3, g4, g5⟩ := H.2.2.2.1 _ hc
  refine ⟨fs, ?_, g1, g2, g3, g4, g5⟩
  unfold mz_get
  rw [if_neg (by omega)]
  exact g1
theorem sz_rd_eq {T : List (Int × szT)} {N N' t b k : Nat} (h : sz_sl 40 N' (b + k) = sz_sl 40 N (b + k)) : sz_rd T N' t b k = sz_rd T N t b k := by
  show sz_rd2 T t k (sz_sl 40 N' (b + k)) = sz_rd2 T t k (sz_sl 40 N (b + k))
  rw [h]
theorem sz_rd_new {T : List (Int × szT)} {N t b k c : Nat} (h : sz_sl 40 N (b + k) = c) (hc : c ≠ 0) : sz_rd T N t b k = sz_nd T c := by
  show sz_rd2 T t k (sz_sl 40 N (b + k)) = _
  rw [h]
  unfold sz_rd2
  cases hb : Nat.beq c 0 with
  | false => rfl
  | true => exact absurd (Nat.eq_of_beq_eq_true hb) hc
/-- a write -/
theorem sz_HR_put {T : List (Int × szT)} {ρ : Nat → Int} {s : szH} {h : List mzC} (H : sz_HR T ρ s h) {r : szV} (hc : sz_ce s r ≠ 0) {k c : Nat} (hk : k < sz_dl (sz_ce s r)) (h0 : c ≠ 0) (h1 : c < 2 ^ 40) {fs : List Value} (hf : h[r.2.1.toNat - 4]? = some (sz_dt (sz_ce s r), fs)) : sz_HR T ρ (sz_tick (sz_ss 40 s.1 (sz_db (sz_ce s r) + k) c), s.2) (h.set (r.2.1.toNat - 4) (sz_dt (sz_ce s r), fs.set k (sz_v ρ (sz_nd T c)))) := by
  obtain ⟨e1, e2, e3⟩ := sz_ce_at hc
  rw [e3] at hc hk hf ⊢
  obtain ⟨H1, H2, H3, H4, H5⟩ := H
  generalize hr0 : r.2.1.toNat - 4 = r0 at *
  obtain ⟨fs', g1, g2, g3, g4, g5⟩ := H4 r0 hc
  rw [hf] at g1
  cases g1
  have hN : ∀ n, n ≠ 0 → n ≠ sz_db (sz_sl 64 s.2.1 r0) + k → sz_sl 40 (sz_tick (sz_ss 40 s.1 (sz_db (sz_sl 64 s.2.1 r0) + k) c)) n = sz_sl 40 s.1 n := by
    intro n hn hn2
    rw [sz_sl_tick hn, sz_sl_ss h1, if_neg hn2]
  refine ⟨by rw [List.length_set]; exact H1, H2, ?_, ?_, H5⟩
  · intro n hn
    dsimp only at hn ⊢
    rw [hN n (by omega) (by omega)]
    exact H3 n hn
  · intro r1 hr1
    dsimp only at hr1 ⊢
    by_cases hr : r1 = r0
    · subst hr
      have hlt : r1 < h.length := (List.getElem?_eq_some_iff.mp hf).1
      refine ⟨fs.set k (sz_v ρ (sz_nd T c)), by rw [List.getElem?_set_self hlt], by rw [List.length_set]; exact g2, g3, g4, ?_⟩
      intro n hn
      by_cases hnk : n = k
      · subst hnk
        rw [List.getElem?_set_self (by omega), sz_rd_new _ h0]
        rw [sz_sl_tick (by omega), sz_sl_ss h1, if_pos rfl]
      · rw [List.getElem?_set_ne (by omega), sz_rd_eq (hN _ (by omega) (by omega))]
        exact g5 n hn
    · obtain ⟨fs2, q1, q2, q3, q4, q5⟩ := H4 r1 hr1
      have hd := H5 r1 r0 hr1 hc hr
      refine ⟨fs2, by rw [List.getElem?_set_ne (by omega)]; exact q1, q2, q3, q4, ?_⟩
      intro n hn
      rw [sz_rd_eq (hN _ (by omega) (by omega))]
      exact q5 n hn
theorem sz_dd_ok {t l b : Nat} (ht : t < 4095) (hl : l < 1048576) (hb : b < 4294967296) : sz_dd t l b < 2 ^ 64 ∧ sz_dd t l b ≠ 0 ∧ sz_dt (sz_dd t l b) = t ∧ sz_dl (sz_dd t l b) = l ∧ sz_db (sz_dd t l b) = b := by
  have e : sz_dd t l b = (t + 1) + l * 4096 + b * 4294967296 := rfl
  refine ⟨by rw [e]; omega, by rw [e]; omega, ?_, ?_, ?_⟩
  · show (sz_dd t l b) % 4096 - 1 = t
    rw [e]; omega
  · show ((sz_dd t l b) >>> 12) % 1048576 = l
    rw [e, Nat.shiftRight_eq_div_pow]; omega
  · show (sz_dd t l b) >>> 32 = b
    rw [e, Nat.shiftRight_eq_div_pow]; omega
/-- a new cell -/
theorem sz_HR_new {T : List (Int × szT)} {ρ : Nat → Int} {N E c x u w : Nat} {h : List mzC} (H : sz_HR T ρ (N, E, c, x, u, w) h) {t n : Nat} (ht : t < 4095) (hn : n < 1048576) (hx : x < 4294967296) {fs : List Value} (hl : fs.length = n) (hf : ∀ k, k < n → fs[k]? = some (sz_v ρ (sz_df t k))) (u' w' : Nat) : sz_HR T ρ (N, sz_ss 64 E c (sz_dd t n x), c + 1, x + n, u', w') (h ++ [(t, fs)]) := by
  obtain ⟨H1, H2, H3, H4, H5⟩ := H
  dsimp only at H1 H2 H3 H4 H5
  obtain ⟨d1, d2, d3, d4, d5⟩ := sz_dd_ok ht hn hx
  have hE : ∀ r, sz_sl 64 (sz_ss 64 E c (sz_dd t n x)) r = if r = c then sz_dd t n x else sz_sl 64 E r := fun r => sz_sl_ss d1
  have hcl : ∀ r, sz_sl 64 E r ≠ 0 → r < c := by
    intro r hr
    obtain ⟨fs, g1, _⟩ := H4 r hr
    have := (List.getElem?_eq_some_iff.mp g1).1
    omega
  refine ⟨by rw [List.length_append, H1]; rfl, by dsimp only; omega, fun k hk => H3 k (by dsimp only at hk; omega), ?_, ?_⟩
  · intro r hr
    dsimp only at hr ⊢
    rw [hE] at hr ⊢
    by_cases hrc : r = c
    · rw [if_pos hrc] at hr ⊢
      refine ⟨fs, ?_, by rw [d4]; exact hl, by rw [d5]; exact H2, by rw [d4, d5]; omega, ?_⟩
      · rw [d3, List.getElem?_append_right (by omega), H1, hrc, Nat.sub_self]
        rfl
      · intro k hk
        rw [d4] at hk
        rw [d3, d5, hf k hk]
        have : sz_sl 40 N (x + k) = 0 := H3 _ (by omega)
        show _ = some (sz_v ρ (sz_rd2 T t k (sz_sl 40 N (x + k))))
        rw [this]
        rfl
    · rw [if_neg hrc] at hr ⊢
      obtain ⟨fs2, q1, q2, q3, q4, q5⟩ := H4 r hr
      exact ⟨fs2, by rw [List.getElem?_append_left (by have := hcl r hr; omega)]; exact q1, q2, q3, by omega, q5⟩
  · intro r r' hr hr' hne
    dsimp only at hr hr' ⊢
    rw [hE] at hr hr' ⊢
    rw [hE]
    by_cases h1 : r = c
    · by_cases h2 : r' = c
      · omega
      · rw [if_neg h2] at hr' ⊢
        rw [if_pos h1, d4, d5]
        obtain ⟨_, _, _, _, q4, _⟩ := H4 r' hr'
        exact Or.inr q4
    · rw [if_neg h1] at hr ⊢
      by_cases h2 : r' = c
      · rw [if_pos h2, d4, d5]
        obtain ⟨_, _, _, _, q4, _⟩ := H4 r hr
        exact Or.inl q4
      · rw [if_neg h2] at hr' ⊢
        exact H5 r r' hr hr' hne
