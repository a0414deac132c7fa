/-! runs of M put together: a stack of frames -/
theorem mz_heap_op {X : List (List Value)} {ri : mzI} {st : List Value} {s : mzS} {q : List Value × mzS} (h : mz_heap X ri st s = some q) : 20 ≤ ri.1 ∧ ri.1 ≤ 30 := by
  unfold mz_heap at h
  split at h <;> first | omega | cases h
theorem mz_fin_op {ri : mzI} {st : List Value} {s : mzS} {r : Option (Option Value) × mzS} (h : mz_fin ri st s = some r) : 41 ≤ ri.1 ∧ ri.1 ≤ 43 := by
  unfold mz_fin at h
  by_cases h1 : ri.1 = 41
  · omega
  rw [if_neg h1] at h
  by_cases h2 : ri.1 = 42
  · omega
  rw [if_neg h2] at h
  by_cases h3 : ri.1 = 43
  · omega
  rw [if_neg h3] at h
  cases h
theorem mz_run_call {P : List mzM} {X : List (List Value)} {n d j i : Nat} {lo : mzL} {st : List Value} {s : mzS} {r : Option (Option Value) × mzS} {M M' : mzM} {ri : mzI} {as rest : List Value} {o : Option (Option Value)} {s' : mzS} {q : Nat × List Value}
    (hM : P[j]? = some M) (hri : M.2.2.2[i]? = some ri) (h40 : ri.1 = 40) (htk : mz_take ri.2.2.1 st = some (as, rest)) (hM' : P[ri.2.1]? = some M') (h1 : mz_sum rest ≤ 8) (h2 : mz_sum as ≤ M'.1) (h3 : mz_recv M'.2.1 as s = true)
    (hc : mz_run P X n d ri.2.1 0 (lv_args 0 as) [] s = some (o, s')) (hq : mz_res M i rest o = some q) (hg : mz_run P X n (d + 1) j q.1 lo q.2 s' = some r) : mz_run P X (n + 1) (d + 1) j i lo st s = some r := by
  unfold mz_run
  rw [hM]
  dsimp only
  rw [hri]
  dsimp only
  rw [if_pos h40, htk, hM']
  dsimp only
  rw [if_pos ⟨h1, h2, h3⟩, hc]
  match o, hq with
  | some none, hq => cases hq; exact hg
  | some (some v), hq => cases hq; exact hg
  | none, hq =>
    simp only [mz_res] at hq
    by_cases hh : M.2.2.1.1 ≤ i ∧ i < M.2.2.1.2.1
    · rw [if_pos hh] at hq
      cases hq
      dsimp only
      rw [if_pos hh]
      exact hg
    · rw [if_neg hh] at hq; cases hq
theorem mz_run_fin {P : List mzM} {X : List (List Value)} {n d j i : Nat} {lo : mzL} {st : List Value} {s : mzS} {r : Option (Option Value) × mzS} {M : mzM} {ri : mzI} (hM : P[j]? = some M) (hri : M.2.2.2[i]? = some ri) (h : mz_fin ri st s = some r) : mz_run P X (n + 1) d j i lo st s = some r := by
  have ho := mz_fin_op h
  unfold mz_run
  rw [hM]
  dsimp only
  rw [hri]
  dsimp only
  rw [if_neg (by omega)]
  unfold mz_fin at h
  by_cases h1 : ri.1 = 41
  · rw [if_pos h1] at h ⊢; exact h
  rw [if_neg h1] at h ⊢
  by_cases h2 : ri.1 = 42
  · rw [if_pos h2] at h ⊢; exact h
  rw [if_neg h2] at h ⊢
  by_cases h3 : ri.1 = 43
  · rw [if_pos h3] at h ⊢; exact h
  omega
theorem mz_run_one {P : List mzM} {X : List (List Value)} {n d j i : Nat} {lo : mzL} {st : List Value} {s : mzS} {r : Option (Option Value) × mzS} {M : mzM} {ri : mzI} {q : Nat × mzL × List Value} (hM : P[j]? = some M) (hri : M.2.2.2[i]? = some ri) (ho : ri.1 < 20 ∨ ri.1 = 39) (h : mz_one ri i M.1 lo st = some q) (hg : mz_run P X n d j q.1 q.2.1 q.2.2 s = some r) : mz_run P X (n + 1) d j i lo st s = some r := by
  unfold mz_run
  rw [hM]
  dsimp only
  rw [hri]
  dsimp only
  rw [if_neg (by omega), if_neg (by omega), if_neg (by omega), if_neg (by omega), if_pos ho, h]
  exact hg
theorem mz_run_heap {P : List mzM} {X : List (List Value)} {n d j i : Nat} {lo : mzL} {st : List Value} {s : mzS} {r : Option (Option Value) × mzS} {M : mzM} {ri : mzI} {q : List Value × mzS} (hM : P[j]? = some M) (hri : M.2.2.2[i]? = some ri) (h : mz_heap X ri st s = some q) (hg : mz_run P X n d j (i + 1) lo q.1 q.2 = some r) : mz_run P X (n + 1) d j i lo st s = some r := by
  have ho := mz_heap_op h
  unfold mz_run
  rw [hM]
  dsimp only
  rw [hri]
  dsimp only
  rw [if_neg (by omega), if_neg (by omega), if_neg (by omega), if_neg (by omega), if_neg (by omega), h]
  exact hg
theorem mz_fuel {P : List mzM} {X : List (List Value)} : ∀ {n m d j i : Nat} {lo : mzL} {st : List Value} {s : mzS} {r : Option (Option Value) × mzS}, n ≤ m → mz_run P X n d j i lo st s = some r → mz_run P X m d j i lo st s = some r
  | 0, _, _, _, _, _, _, _, _, _, h => by simp [mz_run] at h
  | n + 1, 0, _, _, _, _, _, _, _, hm, _ => by omega
  | n + 1, m + 1, d, j, i, lo, st, s, r, hm, h => by
    have hm' : n ≤ m := by omega
    obtain ⟨M, ri, hM, hri, hc⟩ := mz_run_cases h
    rcases hc with ⟨h40, d', as, rest, M', o, s', q, hd, htk, hM', h1, h2, h3, hcal, hq, hg⟩ | hf | ⟨ho, q, hq, hg⟩ | ⟨_, _, _, _, q, hq, hg⟩
    · subst hd
      exact mz_run_call hM hri h40 htk hM' h1 h2 h3 (mz_fuel hm' hcal) hq (mz_fuel hm' hg)
    · exact mz_run_fin hM hri hf
    · exact mz_run_one hM hri ho hq (mz_fuel hm' hg)
    · exact mz_run_heap hM hri hq (mz_fuel hm' hg)
/-- a waiting frame: method, its record, the call, locals, the stack under the arguments -/
abbrev mzW : Type := Nat × mzM × Nat × mzL × List Value
def mz_gg (X : List (List Value)) (K : Option (Option Value) → mzS → Prop) (d j i : Nat) (lo : mzL) (st : List Value) (s : mzS) : Prop := ∃ n o s', mz_run mzP X n d j i lo st s = some (o, s') ∧ K o s'
/-- what is asked of an outcome that comes back to waiting frames -/
def mz_KK (X : List (List Value)) : List mzW → Nat → Option (Option Value) → mzS → Prop
  | [], _, o, s => o = some (some (.int 1)) ∧ s.2.1 ≤ 601024 ∧ s.2.2 ≤ 7293034
  | (j, M, i, lo, rest) :: ws, d, o, s => mzP[j]? = some M ∧ ∃ q, mz_res M i rest o = some q ∧ mz_gg X (mz_KK X ws (d + 1)) (d + 1) j q.1 lo q.2 s
theorem mz_gg_one {X : List (List Value)} {K : Option (Option Value) → mzS → Prop} {d j i : Nat} {lo : mzL} {st : List Value} {s : mzS} {M : mzM} {ri : mzI} {q : Nat × mzL × List Value} (hM : mzP[j]? = some M) (hri : M.2.2.2[i]? = some ri) (ho : ri.1 < 20 ∨ ri.1 = 39) (h : mz_one ri i M.1 lo st = some q) (hg : mz_gg X K d j q.1 q.2.1 q.2.2 s) : mz_gg X K d j i lo st s := by
  obtain ⟨n, o, s', h1, h2⟩ := hg
  exact ⟨n + 1, o, s', mz_run_one hM hri ho h h1, h2⟩
theorem mz_gg_heap {X : List (List Value)} {K : Option (Option Value) → mzS → Prop} {d j i : Nat} {lo : mzL} {st : List Value} {s : mzS} {M : mzM} {ri : mzI} {q : List Value × mzS} (hM : mzP[j]? = some M) (hri : M.2.2.2[i]? = some ri) (h : mz_heap X ri st s = some q) (hg : mz_gg X K d j (i + 1) lo q.1 q.2) : mz_gg X K d j i lo st s := by
  obtain ⟨n, o, s', h1, h2⟩ := hg
  exact ⟨n + 1, o, s', mz_run_heap hM hri h h1, h2⟩
theorem mz_gg_fin {X : List (List Value)} {K : Option (Option Value) → mzS → Prop} {d j i : Nat} {lo : mzL} {st : List Value} {s : mzS} {M : mzM} {ri : mzI} {r : Option (Option Value) × mzS} (hM : mzP[j]? = some M) (hri : M.2.2.2[i]? = some ri) (h : mz_fin ri st s = some r) (hg : K r.1 r.2) : mz_gg X K d j i lo st s := ⟨1, r.1, r.2, mz_run_fin hM hri h, hg⟩
theorem mz_gg_call {X : List (List Value)} {ws : List mzW} {d j i : Nat} {lo : mzL} {st : List Value} {s : mzS} {M M' : mzM} {ri : mzI} {as rest : List Value} (hM : mzP[j]? = some M) (hri : M.2.2.2[i]? = some ri) (h40 : ri.1 = 40) (htk : mz_take ri.2.2.1 st = some (as, rest)) (hM' : mzP[ri.2.1]? = some M') (h1 : mz_sum rest ≤ 8) (h2 : mz_sum as ≤ M'.1) (h3 : mz_recv M'.2.1 as s = true)
    (hg : mz_gg X (mz_KK X ((j, M, i, lo, rest) :: ws) d) d ri.2.1 0 (lv_args 0 as) [] s) : mz_gg X (mz_KK X ws (d + 1)) (d + 1) j i lo st s := by
  obtain ⟨n, o, s', hr, _, q, hq, n', o', s'', hr', hK⟩ := hg
  exact ⟨max n n' + 1, o', s'', mz_run_call hM hri h40 htk hM' h1 h2 h3 (mz_fuel (Nat.le_max_left _ _) hr) hq (mz_fuel (Nat.le_max_right _ _) hr'), hK⟩
