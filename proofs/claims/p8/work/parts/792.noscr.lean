/-! a run that goes through with no script goes the same way with every script -/
set_option maxRecDepth 20000 in
theorem mx_heap {T : List (List Value)} (fs : List Value) {ri : mzI} {st : List Value} {s : mzS} {q : List Value × mzS} (h24 : ri.1 ≠ 24) (h : mz_heap ([] :: T) ri st s = some q) : mz_heap (fs :: T) ri st s = some q := by
  by_cases h22 : ri.1 = 22
  · have e : ∀ X, mz_heap X ri st s = mz_h22 X ri.2.1 st s := fun X => by unfold mz_heap; rw [h22]; rfl
    rw [e] at h ⊢
    unfold mz_h22 at h ⊢
    split at h
    · rename_i i r rest
      by_cases hr : r < 4
      · rw [if_pos hr] at h ⊢
        match r, h with
        | 0, h =>
          exfalso
          have h : (if ri.2.1 = 0 then (match mz_in i [] with
            | some v => some (v :: rest, s)
            | none => none) else none) = some q := h
          have e : mz_in i [] = none := by unfold mz_in; split <;> simp
          rw [e] at h
          split at h <;> cases h
        | r + 1, h => exact h
      · rw [if_neg hr] at h ⊢
        exact h
    · cases h
  · obtain ⟨o, a, b, c, sw⟩ := ri
    dsimp only at h24 h22
    have e : mz_heap (fs :: T) (o, a, b, c, sw) st s = mz_heap ([] :: T) (o, a, b, c, sw) st s := by
      have hop := (mz_heap_op h)
      dsimp only at hop
      have hc : o = 20 ∨ o = 21 ∨ o = 23 ∨ o = 25 ∨ o = 26 ∨ o = 27 ∨ o = 28 ∨ o = 29 ∨ o = 30 := by omega
      rcases hc with e | e | e | e | e | e | e | e | e <;> subst e <;> rfl
    rw [e]
    exact h
set_option maxRecDepth 20000 in
theorem mx_run {P : List mzM} {T : List (List Value)} (fs : List Value) {S : List Nat} (hS : ∀ j ∈ S, ∀ M, P[j]? = some M → ∀ ri ∈ M.2.2.2, ri.1 ≠ 24 ∧ (ri.1 = 40 → ri.2.1 ∈ S)) : ∀ {n d j i : Nat} {lo : mzL} {st : List Value} {s : mzS} {r : Option (Option Value) × mzS}, j ∈ S → mz_run P ([] :: T) n d j i lo st s = some r → mz_run P (fs :: T) n d j i lo st s = some r
  | 0, _, _, _, _, _, _, _, _, h => by simp [mz_run] at h
  | n + 1, d, j, i, lo, st, s, r, hj, h => by
    obtain ⟨M, ri, hM, hri, hc⟩ := mz_run_cases h
    have hi := hS j hj M hM ri (List.mem_of_getElem? hri)
    rcases hc with ⟨h40, d0, as, rest, M', o, s', q, ed, htk, hM', h1, h2, h3, hcal, hq, hg⟩ | hf | ⟨ho, q, hq, hg⟩ | ⟨_, _, _, _, q, hq, hg⟩
    · subst ed
      exact mz_run_call hM hri h40 htk hM' h1 h2 h3 (mx_run fs hS (hi.2 h40) hcal) hq (mx_run fs hS hj hg)
    · exact mz_run_fin hM hri hf
    · exact mz_run_one hM hri ho hq (mx_run fs hS hj hg)
    · exact mz_run_heap hM hri (mx_heap fs hi.1 hq) (mx_run fs hS hj hg)
