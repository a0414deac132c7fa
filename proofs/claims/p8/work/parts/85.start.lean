/-! the heap behind the constructors, for every script -/
def st_r0 (st : List Value) : Bool := match st with
  | .ref r :: _ => Nat.beq r 0
  | _ => false
set_option maxRecDepth 20000 in
theorem st_heap {T : List (List Value)} (fs : List Value) {ri : mzI} {st : List Value} {s : mzS} {q : List Value × mzS} (hg : ¬ (ri.1 = 24 ∧ st_r0 st = true)) (h : mz_heap ([] :: T) ri st s = some q) : mz_heap (fs :: T) ri st s = some q := by
  by_cases h24 : ri.1 = 24
  · have e : ∀ X, mz_heap X ri st s = mz_h24 X st s := fun X => by unfold mz_heap; rw [h24]; rfl
    rw [e] at h ⊢
    unfold mz_h24 at h ⊢
    split at h
    · rename_i r rest
      by_cases hr : r < 4
      · rw [if_pos hr] at h ⊢
        match r, hg, h with
        | 0, hg, h => exact absurd ⟨h24, rfl⟩ hg
        | r + 1, _, h => exact h
      · rw [if_neg hr] at h ⊢
        exact h
    · cases h
  · exact mx_heap fs h24 h
/-- M that stops where the script's length is asked for -/
def st_run (P : List mzM) (X : List (List Value)) : Nat → Nat → Nat → Nat → mzL → List Value → mzS → Option (Option (Option Value) × mzS)
  | 0, _, _, _, _, _, _ => none
  | n + 1, d, j, i, lo, st, s => match P[j]? with
    | none => none
    | some M => match M.2.2.2[i]? with
      | none => none
      | some ri =>
        if ri.1 = 40 then match d, mz_take ri.2.2.1 st, P[ri.2.1]? with
          | d' + 1, some (as, rest), some M' =>
            if mz_sum rest ≤ 8 ∧ mz_sum as ≤ M'.1 ∧ mz_recv M'.2.1 as s = true then
              match st_run P X n d' ri.2.1 0 (lv_args 0 as) [] s with
              | none => none
              | some (o, s') => match mz_res M i rest o with
                | some q => st_run P X n d j q.1 lo q.2 s'
                | none => none
            else none
          | _, _, _ => none
        else if 40 < ri.1 then mz_fin ri st s
        else if ri.1 < 20 ∨ ri.1 = 39 then match mz_one ri i M.1 lo st with
          | some q => st_run P X n d j q.1 q.2.1 q.2.2 s
          | none => none
        else if ri.1 = 24 ∧ st_r0 st = true then none
        else match mz_heap X ri st s with
          | some q => st_run P X n d j (i + 1) lo q.1 q.2
          | none => none
set_option maxRecDepth 20000 in
theorem st_run_ok {P : List mzM} {T : List (List Value)} (fs : List Value) : ∀ {n d j i : Nat} {lo : mzL} {st : List Value} {s : mzS} {r : Option (Option Value) × mzS}, st_run P ([] :: T) n d j i lo st s = some r → mz_run P (fs :: T) n d j i lo st s = some r
  | 0, _, _, _, _, _, _, _, h => by cases h
  | n + 1, d, j, i, lo, st, s, r, h => by
    unfold st_run at h
    split at h
    · cases h
    · rename_i M hM
      split at h
      · cases h
      · rename_i ri hri
        by_cases h40 : ri.1 = 40
        · rw [if_pos h40] at h
          split at h
          · rename_i d' as rest M' htk hM'
            split at h
            · rename_i hc
              split at h
              · cases h
              · rename_i o s' hcal
                split at h
                · rename_i q hq
                  exact mz_run_call hM hri h40 htk hM' hc.1 hc.2.1 hc.2.2 (st_run_ok fs hcal) hq (st_run_ok fs h)
                · cases h
            · cases h
          · cases h
        · rw [if_neg h40] at h
          by_cases hf : 40 < ri.1
          · rw [if_pos hf] at h
            exact mz_run_fin hM hri h
          · rw [if_neg hf] at h
            by_cases ho : ri.1 < 20 ∨ ri.1 = 39
            · rw [if_pos ho] at h
              split at h
              · rename_i q hq
                exact mz_run_one hM hri ho hq (st_run_ok fs h)
              · cases h
            · rw [if_neg ho] at h
              by_cases hg : ri.1 = 24 ∧ st_r0 st = true
              · rw [if_pos hg] at h
                cases h
              · rw [if_neg hg] at h
                split at h
                · rename_i q hq
                  exact mz_run_heap hM hri (st_heap fs hg hq) (st_run_ok fs h)
                · cases h
/-- method 0 up to its loop, likewise -/
def st_pre (X : List (List Value)) (F : Nat) : Nat → Nat → mzL → List Value → mzS → Option (mzL × mzS)
  | 0, _, _, _, _ => none
  | n + 1, i, lo, st, s => if i = 13 then (match st with
      | [] => some (lo, s)
      | _ :: _ => none) else (match mzc_0[i]? with
      | none => none
      | some ri => if ri.1 = 40 then (match mz_take ri.2.2.1 st, mzP[ri.2.1]? with
          | some (as, rest), some M' => if mz_sum rest ≤ 8 ∧ mz_sum as ≤ M'.1 ∧ mz_recv M'.2.1 as s = true then (match st_run mzP X F 20 ri.2.1 0 (lv_args 0 as) [] s with
            | some (some none, s') => st_pre X F n (i + 1) lo rest s'
            | _ => none) else none
          | _, _ => none)
        else if ri.1 < 20 ∨ ri.1 = 39 then (match mz_one ri i 8 lo st with
          | some q => st_pre X F n q.1 q.2.1 q.2.2 s
          | none => none)
        else if ri.1 = 24 ∧ st_r0 st = true then none
        else (match mz_heap X ri st s with
          | some q => st_pre X F n (i + 1) lo q.1 q.2
          | none => none))
set_option maxRecDepth 20000 in
theorem st_pre_ok {T : List (List Value)} (fs : List Value) {F : Nat} {K : Option (Option Value) → mzS → Prop} {d : Nat} (hd : 21 ≤ d) : ∀ (n i : Nat) (lo : mzL) (st : List Value) (s : mzS) (lo' : mzL) (s' : mzS), st_pre ([] :: T) F n i lo st s = some (lo', s') → mz_gg (fs :: T) K d 0 13 lo' [] s' → mz_gg (fs :: T) K d 0 i lo st s
  | 0, _, _, _, _, _, _, h, _ => by cases h
  | n + 1, i, lo, st, s, lo', s', h, hg => by
    have hM : mzP[0]? = some (8, 0, (0, 0, 0), mzc_0) := rfl
    unfold st_pre at h
    split at h
    · rename_i hi
      subst hi
      split at h
      · cases h; exact hg
      · cases h
    · split at h
      · cases h
      · rename_i ri hri
        split at h
        · rename_i h40
          split at h
          · rename_i as rest M' htk hM'
            split at h
            · rename_i hc
              split at h
              · rename_i s1 hr
                obtain ⟨d1, rfl⟩ : ∃ d1, d = d1 + 1 := ⟨d - 1, by omega⟩
                refine az_gg_by hM hri h40 htk hM' hc.1 hc.2.1 hc.2.2 (K' := fun o s' => o = some none ∧ s' = s1) ⟨F, _, _, mz_dep (by omega) (st_run_ok fs hr), rfl, rfl⟩ ?_
                intro o s2 hk
                obtain ⟨rfl, rfl⟩ := hk
                exact ⟨_, rfl, st_pre_ok fs hd n _ _ _ _ _ _ h hg⟩
              · cases h
            · cases h
          · cases h
        · split at h
          · rename_i ho
            split at h
            · rename_i q hq
              exact mz_gg_one hM hri ho hq (st_pre_ok fs hd n _ _ _ _ _ _ h hg)
            · cases h
          · split at h
            · cases h
            · rename_i hg24
              split at h
              · rename_i q hq
                exact mz_gg_heap hM hri (st_heap fs hg24 hq) (st_pre_ok fs hd n _ _ _ _ _ _ h hg)
              · cases h
/-! the layout, looked at by the kernel -/
noncomputable def st_vi (l : List (Int × Int)) : Value → Bool
  | .int x => l.any (fun p => decide (p.1 ≤ x.toInt) && decide (x.toInt ≤ p.2))
  | _ => false
noncomputable def st_vl : Value → Bool
  | .long _ => true
  | _ => false
noncomputable def st_vr (a : Nat) : Value → Bool
  | .ref r => Nat.beq r a
  | _ => false
noncomputable def st_in (τ : azTy) (v : Value) : Bool := bif Nat.beq τ.1 0 then st_vi τ.2.2 v else bif Nat.beq τ.1 1 then st_vl v else st_vr τ.2.1 v
set_option maxRecDepth 20000 in
theorem st_vi_ok {l : List (Int × Int)} {v : Value} (h : st_vi l v = true) : ∃ x, v = .int x ∧ ∃ p ∈ l, p.1 ≤ x.toInt ∧ x.toInt ≤ p.2 := by
  unfold st_vi at h
  split at h
  · obtain ⟨p, hp, hq⟩ := List.any_eq_true.mp h
    rw [Bool.and_eq_true, decide_eq_true_eq, decide_eq_true_eq] at hq
    exact ⟨_, rfl, p, hp, hq.1, hq.2⟩
  · cases h
set_option maxRecDepth 20000 in
theorem st_vl_ok {v : Value} (h : st_vl v = true) : ∃ x, v = .long x := by
  unfold st_vl at h
  split at h
  · exact ⟨_, rfl⟩
  · cases h
set_option maxRecDepth 20000 in
theorem st_vr_ok {a : Nat} {v : Value} (h : st_vr a v = true) : v = .ref a := by
  unfold st_vr at h
  split at h
  · rw [Nat.eq_of_beq_eq_true h]
  · cases h
set_option maxRecDepth 20000 in
theorem st_in_ok {τ : azTy} {v : Value} (h : st_in τ v = true) : az_in τ v := by
  obtain ⟨g, r, l⟩ := τ
  match g, h with
  | 0, h => exact st_vi_ok (l := l) h
  | 1, h => exact st_vl_ok h
  | g + 2, h => exact st_vr_ok (a := r) h
noncomputable def st_fs (C : azC) : List Value → Nat → Bool
  | [], _ => true
  | v :: r, k => (match az_ty C k with
    | some τ => st_in τ v
    | none => true) && st_fs C r (k + 1)
set_option maxRecDepth 20000 in
theorem st_fs_ok {C : azC} : ∀ {fs : List Value} {k : Nat}, st_fs C fs k = true → ∀ (i : Nat) (v : Value) (τ : azTy), fs[i]? = some v → az_ty C (k + i) = some τ → az_in τ v
  | [], _, _, i, v, _, hv, _ => by simp at hv
  | w :: r, k, h, i, v, τ, hv, ht => by
    unfold st_fs at h
    rw [Bool.and_eq_true] at h
    match i, hv, ht with
    | 0, hv, ht =>
      cases hv
      have ht : az_ty C k = some τ := ht
      have h1 := h.1
      rw [ht] at h1
      exact st_in_ok h1
    | i + 1, hv, ht => exact st_fs_ok h.2 i v τ (by simpa using hv) (by rw [show k + 1 + i = k + (i + 1) by omega]; exact ht)
noncomputable def st_ht (h : List mzC) : List azC → Nat → Bool
  | [], _ => true
  | C :: r, c => (match h[c]? with
    | some (t, fs) => (Nat.beq t C.1 && Nat.beq fs.length C.2.1) && st_fs C fs 0
    | none => false) && st_ht h r (c + 1)
set_option maxRecDepth 20000 in
theorem st_ht_ok {h : List mzC} : ∀ {Ls : List azC} {n : Nat}, st_ht h Ls n = true → ∀ (c : Nat) (C : azC), Ls[c]? = some C → az_HC h (n + c) C
  | [], _, _, c, C, hc => by simp at hc
  | D :: r, n, hh, c, C, hc => by
    unfold st_ht at hh
    rw [Bool.and_eq_true] at hh
    match c, hc with
    | 0, hc =>
      cases hc
      obtain ⟨h1, _⟩ := hh
      split at h1
      · rename_i t fs hf
        simp only [Bool.and_eq_true] at h1
        obtain ⟨⟨t1, t2⟩, t3⟩ := h1
        have t1 := Nat.eq_of_beq_eq_true t1
        have t2 := Nat.eq_of_beq_eq_true t2
        subst t1
        refine ⟨fs, hf, t2, fun k τ ht => ?_⟩
        have hk : k < fs.length := by
          have := az_ty_lt ht
          omega
        exact ⟨_, List.getElem?_eq_getElem hk, st_fs_ok t3 k _ τ (List.getElem?_eq_getElem hk) (by rw [Nat.zero_add]; exact ht)⟩
      · cases h1
    | c + 1, hc =>
      rw [show n + (c + 1) = n + 1 + c by omega]
      exact st_ht_ok hh.2 c C (by simpa using hc)
noncomputable def st_hp (h : List mzC) (p : azP) : Bool := match az_slot h p.1 p.2.1, az_slot h p.2.2.2.1 p.2.2.2.2.1 with
  | some (.int x), some (.int y) => decide (0 ≤ p.2.2.1 * x.toInt + p.2.2.2.2.2.1 * y.toInt + p.2.2.2.2.2.2)
  | _, _ => false
set_option maxRecDepth 20000 in
theorem st_hp_ok {h : List mzC} {p : azP} (hp : st_hp h p = true) : az_HP1 h p := by
  unfold st_hp at hp
  split at hp
  · rename_i x y h1 h2
    exact ⟨x, y, h1, h2, of_decide_eq_true hp⟩
  · cases hp
noncomputable def st_lo (lo : mzL) : Bool := ((match mz_ld lo 0 with
    | some (.ref r) => Nat.beq r 0
    | _ => false) && (match mz_ld lo 1 with
    | some (.ref r) => Nat.beq r 4
    | _ => false)) && (((match mz_ld lo 2 with
    | some (.ref r) => Nat.beq r 145
    | _ => false) && (match mz_ld lo 3 with
    | some (.ref r) => Nat.beq r 166
    | _ => false)) && (match mz_ld lo 4 with
    | some (.int x) => decide (x.toInt = 0)
    | _ => false))
set_option maxRecDepth 20000 in
theorem st_ref {o : Option Value} {a : Nat} (h : (match o with
    | some (.ref r) => Nat.beq r a
    | _ => false) = true) : o = some (.ref a) := by
  split at h
  · rw [Nat.eq_of_beq_eq_true h]
  · cases h
set_option maxRecDepth 20000 in
theorem st_lo_ok {lo : mzL} (h : st_lo lo = true) : az_ml lo [.ref 0, .ref 4, .ref 145, .ref 166, iv 0] := by
  unfold st_lo at h
  simp only [Bool.and_eq_true] at h
  obtain ⟨⟨h0, h1⟩, ⟨h2, h3⟩, h4⟩ := h
  have e4 : mz_ld lo 4 = some (iv 0) := by
    split at h4
    · rename_i x hx
      have e : x.toInt = 0 := of_decide_eq_true h4
      rw [hx]
      unfold iv
      rw [← e, Int32.ofInt_toInt]
    · cases h4
  intro k v hv
  match k, hv with
  | 0, hv => cases hv; exact st_ref h0
  | 1, hv => cases hv; exact st_ref h1
  | 2, hv => cases hv; exact st_ref h2
  | 3, hv => cases hv; exact st_ref h3
  | 4, hv => cases hv; exact e4
  | k + 5, hv => simp at hv
/-- all that is asked of the first heap -/
noncomputable def st_all (q : mzL × mzS) : Bool := (st_lo q.1 && (st_ht q.2.1 azL 0 && azPs.all (st_hp q.2.1))) && (Nat.ble q.2.1.length 10000 && (Nat.ble q.2.2.1 590000 && Nat.ble q.2.2.2 7200000))
set_option maxRecDepth 20000 in
theorem st_run_all : (match st_pre ([] :: stT) 100000 40 0 [(0, .ref 0)] [] ([], 0, 0) with
  | some q => st_all q
  | none => false) = true := by decide +kernel
set_option maxRecDepth 20000 in
theorem st_first : ∃ (lo : mzL) (s : mzS), st_pre ([] :: stT) 100000 40 0 [(0, .ref 0)] [] ([], 0, 0) = some (lo, s) ∧ az_ml lo [.ref 0, .ref 4, .ref 145, .ref 166, iv 0] ∧ az_Tp s.1 ∧ s.1.length ≤ 10000 ∧ s.2.1 ≤ 590000 ∧ s.2.2 ≤ 7200000 := by
  have h := st_run_all
  split at h
  · rename_i q hq
    obtain ⟨lo, s⟩ := q
    unfold st_all at h
    simp only [Bool.and_eq_true] at h
    obtain ⟨⟨h1, h2, h3⟩, h4, h5, h6⟩ := h
    refine ⟨lo, s, hq, st_lo_ok h1, ⟨?_, ?_⟩, Nat.le_of_ble_eq_true h4, Nat.le_of_ble_eq_true h5, Nat.le_of_ble_eq_true h6⟩
    · intro c C hc
      have := st_ht_ok h2 c C hc
      rwa [Nat.zero_add] at this
    · intro i p hp _
      exact st_hp_ok (List.all_eq_true.mp h3 p (List.mem_of_getElem? hp))
  · cases h
