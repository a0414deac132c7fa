/-! the law's begin: its frame up to the loop -/
set_option maxRecDepth 20000 in
theorem mz_dep {P : List mzM} {X : List (List Value)} : ∀ {n d d' j i : Nat} {lo : mzL} {st : List Value} {s : mzS} {r : Option (Option Value) × mzS}, d ≤ d' → mz_run P X n d j i lo st s = some r → mz_run P X n d' j i lo st s = some r
  | 0, _, _, _, _, _, _, _, _, _, h => by simp [mz_run] at h
  | n + 1, d, d', j, i, lo, st, s, r, hd, h => by
    obtain ⟨M, ri, hM, hri, hc⟩ := mz_run_cases h
    rcases hc with ⟨h40, d0, as, rest, M', o, s', q, ed, htk, hM', h1, h2, h3, hcal, hq, hg⟩ | hf | ⟨ho, q, hq, hg⟩ | ⟨_, _, _, _, q, hq, hg⟩
    · subst ed
      obtain ⟨d1, rfl⟩ : ∃ d1, d' = d1 + 1 := ⟨d' - 1, by omega⟩
      exact mz_run_call hM hri h40 htk hM' h1 h2 h3 (mz_dep (by omega) hcal) hq (mz_dep hd hg)
    · exact mz_run_fin hM hri hf
    · exact mz_run_one hM hri ho hq (mz_dep hd hg)
    · exact mz_run_heap hM hri hq (mz_dep hd hg)
/-- method 0 from an instruction to its loop (13): calls with fuel F and depth 20 -/
def mz_pre (X : List (List Value)) (F : Nat) : Nat → Nat → mzL → List Value → mzS → Option (mzL × mzS)
  | 0, _, _, _, _ => none
  | n + 1, i, lo, st, s => if i = 13 then (match st with
      | [] => some (lo, s)
      | _ :: _ => none) else (match mzc_0[i]? with
      | none => none
      | some ri => if ri.1 = 40 then (match mz_take ri.2.2.1 st, mzP[ri.2.1]? with
          | some (as, rest), some M' => if mz_sum rest ≤ 8 ∧ mz_sum as ≤ M'.1 ∧ mz_recv M'.2.1 as s = true then (match mz_run mzP X F 20 ri.2.1 0 (lv_args 0 as) [] s with
            | some (some none, s') => mz_pre X F n (i + 1) lo rest s'
            | _ => none) else none
          | _, _ => none)
        else if ri.1 < 20 ∨ ri.1 = 39 then (match mz_one ri i 8 lo st with
          | some q => mz_pre X F n q.1 q.2.1 q.2.2 s
          | none => none)
        else (match mz_heap X ri st s with
          | some q => mz_pre X F n (i + 1) lo q.1 q.2
          | none => none))
set_option maxRecDepth 20000 in
theorem mz_pre_ok {X : List (List Value)} {F : Nat} {K : Option (Option Value) → mzS → Prop} {d : Nat} (hd : 21 ≤ d) : ∀ (n i : Nat) (lo : mzL) (st : List Value) (s : mzS) (lo' : mzL) (s' : mzS), mz_pre X F n i lo st s = some (lo', s') → mz_gg X K d 0 13 lo' [] s' → mz_gg X K d 0 i lo st s
  | 0, _, _, _, _, _, _, h, _ => by cases h
  | n + 1, i, lo, st, s, lo', s', h, hg => by
    have hM : mzP[0]? = some (8, 0, (0, 0, 0), mzc_0) := rfl
    unfold mz_pre at h
    split at h
    · rename_i hi
      subst hi
      split at h
      · cases h; exact hg
      · cases h
    · split at h
      · cases h
      · rename_i ri hri
        split at h
        · rename_i h40
          split at h
          · rename_i as rest M' htk hM'
            split at h
            · rename_i hc
              split at h
              · rename_i s1 hr
                obtain ⟨d1, rfl⟩ : ∃ d1, d = d1 + 1 := ⟨d - 1, by omega⟩
                refine az_gg_by hM hri h40 htk hM' hc.1 hc.2.1 hc.2.2 (K' := fun o s' => o = some none ∧ s' = s1) ⟨F, _, _, mz_dep (by omega) hr, rfl, rfl⟩ ?_
                intro o s2 hk
                obtain ⟨rfl, rfl⟩ := hk
                exact ⟨_, rfl, mz_pre_ok hd n _ _ _ _ _ _ h hg⟩
              · cases h
            · cases h
          · cases h
        · split at h
          · rename_i ho
            split at h
            · rename_i q hq
              exact mz_gg_one hM hri ho hq (mz_pre_ok hd n _ _ _ _ _ _ h hg)
            · cases h
          · split at h
            · rename_i q hq
              exact mz_gg_heap hM hri hq (mz_pre_ok hd n _ _ _ _ _ _ h hg)
            · cases h
