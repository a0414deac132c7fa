/-! locals and simple instructions of S -/
def sz_LR (ρ : Nat → Int) (lo : szLo) (m : mzL) : Prop := ∀ k v, lo[k]? = some v → v.1 < 9 → mz_ld m k = some (sz_v ρ v)
theorem mz_ld_filter {f : Nat × Value → Bool} {k : Nat} {w : Value} (hf : f (k, w) = true) : ∀ {m : mzL}, mz_ld m k = some w → mz_ld (m.filter f) k = some w
  | [], h => by cases h
  | (k', v) :: m, h => by
    unfold mz_ld at h
    by_cases hk : k' = k
    · rw [if_pos hk] at h
      cases h
      subst hk
      rw [List.filter_cons_of_pos hf]
      unfold mz_ld
      rw [if_pos rfl]
    · rw [if_neg hk] at h
      have ih := mz_ld_filter hf h
      by_cases hp : f (k', v) = true
      · rw [List.filter_cons_of_pos hp]
        unfold mz_ld
        rw [if_neg hk]
        exact ih
      · rw [List.filter_cons_of_neg hp]
        exact ih
theorem mz_ld_up (i : Nat) (v : Value) (k : Nat) : ∀ m : mzL, mz_ld (mz_up m i v) k = if k = i then (mz_ld m k).map (fun _ => v) else mz_ld m k
  | [] => by simp [mz_up, mz_ld]
  | (k', w) :: m => by
    have ih := mz_ld_up i v k m
    unfold mz_up at ih ⊢
    rw [List.map_cons]
    by_cases hk : k' = k
    · subst hk
      by_cases hi : k' = i
      · subst hi
        simp [mz_ld]
      · simp [mz_ld, hi]
    · have : mz_ld ((if k' = i then (k', v) else (k', w)) :: List.map (fun q => if q.1 = i then (q.1, v) else q) m) k = mz_ld (List.map (fun q => if q.1 = i then (q.1, v) else q) m) k := by
        by_cases hi : k' = i
        · rw [if_pos hi]; show (if k' = k then some v else _) = _; rw [if_neg hk]
        · rw [if_neg hi]; show (if k' = k then some w else _) = _; rw [if_neg hk]
      rw [this, ih]
      show _ = if k = i then Option.map (fun _ => v) (if k' = k then some w else mz_ld m k) else (if k' = k then some w else mz_ld m k)
      rw [if_neg hk]
theorem sz_lg_ok {lo : szLo} {a n : Nat} {w : szV} (h : sz_lg lo a = true) (hn : n + 1 = a) (hw : lo[n]? = some w) : sz_cat w = 1 := by
  subst hn
  unfold sz_lg at h
  dsimp only at h
  rw [sz_nth_eq, hw] at h
  unfold sz_cat
  split
  · rename_i h2
    dsimp only at h
    rw [h2] at h
    cases h
  · rfl
def sz_1 (ρ : Nat → Int) (m : mzL) (q : mzR) (r : Nat × szLo × List szV) : Prop := ∃ m', q = some (r.1, m', r.2.2.map (sz_v ρ)) ∧ sz_LR ρ r.2.1 m'
section
variable {D : szD} {R : szR} {ρ : Nat → Int} {lo : szLo} {m : mzL} {st : List szV} {a b i nL : Nat} {c : Int} {r : Nat × szLo × List szV}
theorem sz_o2_ok (hl : sz_LR ρ lo m) (h : sz_o2 a b i lo st = some r) : sz_1 ρ m (mz_o2 a b i m (st.map (sz_v ρ))) r := by
  unfold sz_o2 sz_ld at h
  rw [sz_nth_eq] at h
  split at h
  · rename_i v hv
    split at h
    · rename_i hc
      cases h
      refine ⟨m, ?_, hl⟩
      unfold mz_o2
      rw [hl a v hv (by omega)]
      dsimp only
      rw [if_pos ⟨by rw [sz_ty (by omega)]; exact hc.1, hc.2⟩]
      rfl
    · cases h
  · cases h
theorem sz_o3_ok (hl : sz_LR ρ lo m) (h : sz_o3 a b i nL lo st = some r) : sz_1 ρ m (mz_o3 a b i nL m (st.map (sz_v ρ))) r := by
  unfold sz_o3 at h
  split at h
  · rename_i v rest
    split at h
    · rename_i hc
      rw [sz_upk_eq] at h
      cases h
      obtain ⟨h1, h2, h3, h4⟩ := hc
      refine ⟨mz_st1 m a (sz_v ρ v), ?_, ?_⟩
      · show mz_o3 a b i nL m (sz_v ρ v :: rest.map (sz_v ρ)) = _
        unfold mz_o3
        dsimp only
        rw [if_pos ⟨by rw [sz_ty (by omega)]; exact h1, h2, h3⟩]
      · intro k w hw hw9
        rcases sz_upl_at _ _ _ _ _ _ hw with ⟨e1, e2⟩ | ⟨e1, e2 | e2⟩
        · subst e1; subst e2
          show (if k = k then _ else _) = _
          rw [if_pos rfl]
        · show (if a = k then _ else mz_ld _ k) = _
          rw [if_neg (by omega)]
          refine mz_ld_filter ?_ (hl k w e2 hw9)
          by_cases hk : k + 1 = a
          · have := sz_lg_ok h4 hk e2
            simp [e1, sz_catv, this]
          · simp [e1, hk]
        · rw [e2] at hw9
          exact absurd hw9 (by decide)
    · cases h
  · cases h
theorem sz_o4_ok (hl : sz_LR ρ lo m) (h : sz_o4 a i nL lo st = some r) : sz_1 ρ m (mz_o4 a i nL m (st.map (sz_v ρ))) r := by
  unfold sz_o4 at h
  split at h
  · rename_i v rest
    split at h
    · rename_i hc
      rw [sz_upk_eq, sz_upk_eq] at h
      cases h
      obtain ⟨h1, h2, h3⟩ := hc
      refine ⟨mz_st2 m a (sz_v ρ v), ?_, ?_⟩
      · show mz_o4 a i nL m (sz_v ρ v :: rest.map (sz_v ρ)) = _
        rw [sz_vl h1]
        unfold mz_o4
        dsimp only
        rw [if_pos h2]
      · intro k w hw hw9
        dsimp only at hw
        rcases sz_upl_at _ _ _ _ _ _ hw with ⟨e1, e2⟩ | ⟨e1, e2 | e2⟩
        · rw [e2] at hw9
          exact absurd hw9 (by decide)
        · rcases sz_upl_at _ _ _ _ _ _ e2 with ⟨f1, f2⟩ | ⟨f1, f2 | f2⟩
          · subst f1; subst f2
            show (if k = k then _ else _) = _
            rw [if_pos rfl]
          · show (if a = k then _ else mz_ld _ k) = _
            rw [if_neg (by omega)]
            refine mz_ld_filter ?_ (hl k w f2 hw9)
            by_cases hk : k + 1 = a
            · have := sz_lg_ok h3 hk f2
              simp [f1, e1, sz_catv, this]
            · simp [f1, e1, hk]
          · rw [f2] at hw9
            exact absurd hw9 (by decide)
        · rw [e2] at hw9
          exact absurd hw9 (by decide)
    · cases h
  · cases h
theorem sz_up_LR (hl : sz_LR ρ lo m) {v : szV} {u : szV} (hu : lo[a]? = some u) (hu9 : u.1 < 9) {w : Value} (hw : w = sz_v ρ v) : sz_LR ρ (sz_upl (9, 0, []) a v lo) (mz_up m a w) := by
  intro k x hx hx9
  rw [mz_ld_up]
  rcases sz_upl_at _ _ _ _ _ _ hx with ⟨e1, e2⟩ | ⟨e1, e2 | e2⟩
  · subst e1; subst e2
    rw [if_pos rfl, hl k u hu hu9, hw]
    rfl
  · rw [if_neg e1]
    exact hl k x e2 hx9
  · rw [e2] at hx9
    exact absurd hx9 (by decide)
theorem sz_o5_ok (hl : sz_LR ρ lo m) (h : sz_o5 a i nL c lo st = some r) : sz_1 ρ m (mz_o5 a i nL c m (st.map (sz_v ρ))) r := by
  unfold sz_o5 sz_ld at h
  rw [sz_nth_eq] at h
  split at h
  · rename_i x hx
    split at h
    · rename_i hc
      rw [sz_fv_eq, sz_upk_eq] at h
      cases h
      refine ⟨mz_up m a (.int (sz_i ρ x + Int32.ofInt c)), ?_, ?_⟩
      · unfold mz_o5
        rw [hl a x hx (by omega), sz_vi hc.1]
        dsimp only
        rw [if_pos hc.2]
      · refine sz_up_LR hl hx (by omega) ?_
        show _ = Value.int (sz_i ρ (0, x.2.1 + c, x.2.2))
        congr 1
        unfold sz_i
        rw [← Int32.ofInt_add]
        congr 1
        dsimp only
        omega
    · cases h
  · cases h
theorem sz_o6_ok (hD : sz_D D ρ) (hR : sz_R R ρ) (hl : sz_LR ρ lo m) (h : sz_o6 D R a i lo st = some r) : sz_1 ρ m (mz_o6 a i m (st.map (sz_v ρ))) r := by
  unfold sz_o6 at h
  split at h
  · rename_i y x rest
    split at h
    · rename_i hc
      split at h
      · rename_i z hz
        rw [sz_fv_eq] at h
        cases h
        obtain ⟨h1, h2⟩ := sz_bin_ok hD hR hz
        refine ⟨m, ?_, hl⟩
        show mz_o6 a i m (sz_v ρ y :: sz_v ρ x :: rest.map (sz_v ρ)) = some (i + 1, m, sz_v ρ z :: rest.map (sz_v ρ))
        rw [sz_vi hc.1, sz_vi hc.2, sz_vi h1]
        unfold mz_o6
        dsimp only
        rw [h2]
      · cases h
    · cases h
  · cases h
theorem sz_o7_ok (hD : sz_D D ρ) (hR : sz_R R ρ) (hl : sz_LR ρ lo m) (h : sz_o7 D R a i lo st = some r) : sz_1 ρ m (mz_o7 a i m (st.map (sz_v ρ))) r := by
  unfold sz_o7 at h
  split at h
  · rename_i x rest
    split at h
    · rename_i hc
      split at h
      · rename_i z hz
        rw [sz_fv_eq] at h
        cases h
        obtain ⟨h1, h2⟩ := sz_un_ok hD hR hz
        refine ⟨m, ?_, hl⟩
        show mz_o7 a i m (sz_v ρ x :: rest.map (sz_v ρ)) = some (i + 1, m, sz_v ρ z :: rest.map (sz_v ρ))
        rw [sz_vi hc, sz_vi h1]
        unfold mz_o7
        dsimp only
        rw [h2]
      · cases h
    · cases h
  · cases h
theorem sz_o8_ok (hl : sz_LR ρ lo m) (h : sz_o8 i lo st = some r) : sz_1 ρ m (mz_o8 i m (st.map (sz_v ρ))) r := by
  unfold sz_o8 at h
  split at h
  · rename_i x rest
    split at h
    · rename_i hc
      cases h
      refine ⟨m, ?_, hl⟩
      show mz_o8 i m (sz_v ρ x :: rest.map (sz_v ρ)) = _
      rw [sz_vi hc]
      rfl
    · cases h
  · cases h
theorem sz_cmp (x y : Int32) : lg_cmp x.toInt64 y.toInt64 = if y < x then 1 else if x = y then 0 else -1 := by
  unfold lg_cmp
  have h1 : (x.toInt64 > y.toInt64) ↔ y < x := by
    rw [gt_iff_lt, Int64.lt_iff_toInt_lt, Int32.lt_iff_toInt_lt, Int32.toInt_toInt64, Int32.toInt_toInt64]
  have h2 : (x.toInt64 = y.toInt64) ↔ x = y := by
    rw [← Int64.toInt_inj, ← Int32.toInt_inj, Int32.toInt_toInt64, Int32.toInt_toInt64]
  simp only [h1, h2]
theorem sz_o11_ok (hR : sz_R R ρ) (hl : sz_LR ρ lo m) (h : sz_o11 R i lo st = some r) : sz_1 ρ m (mz_o11 i m (st.map (sz_v ρ))) r := by
  unfold sz_o11 at h
  split at h
  · rename_i y x rest
    split at h
    · rename_i hc
      have hs : ∀ z, lg_cmp (sz_i ρ x).toInt64 (sz_i ρ y).toInt64 = Int32.ofInt z → mz_o11 i m ((y :: x :: rest).map (sz_v ρ)) = some (i + 1, m, ((0, z, []) :: rest : List szV).map (sz_v ρ)) := by
        intro z hz
        show mz_o11 i m (sz_v ρ y :: sz_v ρ x :: rest.map (sz_v ρ)) = some (i + 1, m, sz_v ρ (0, z, []) :: rest.map (sz_v ρ))
        rw [sz_vl hc.1, sz_vl hc.2, sz_vi (v := (0, z, [])) rfl, sz_i_const, ← hz]
        rfl
      rw [sz_cmp] at hs
      split at h
      · rename_i h1
        cases h
        have h1 := sz_cond_ok hR h1
        simp only [mz_cond, Option.some.injEq, decide_eq_true_eq] at h1
        exact ⟨m, hs 1 (by rw [if_pos h1]; rfl), hl⟩
      · rename_i h1 h2
        cases h
        have h1 := sz_cond_ok hR h1
        have h2 := sz_cond_ok hR h2
        simp only [mz_cond, Option.some.injEq, decide_eq_true_eq, decide_eq_false_iff_not] at h1 h2
        exact ⟨m, hs 0 (by rw [if_neg h1, if_pos h2]; rfl), hl⟩
      · rename_i h1 h2
        cases h
        have h1 := sz_cond_ok hR h1
        have h2 := sz_cond_ok hR h2
        simp only [mz_cond, Option.some.injEq, decide_eq_true_eq, decide_eq_false_iff_not] at h1 h2
        exact ⟨m, hs (-1) (by rw [if_neg h1, if_neg h2]; rfl), hl⟩
      · cases h
    · cases h
  · cases h
theorem sz_o12_ok (hl : sz_LR ρ lo m) (h : sz_o12 i lo st = some r) : sz_1 ρ m (mz_o12 i m (st.map (sz_v ρ))) r := by
  unfold sz_o12 at h
  split at h
  · rename_i v rest
    split at h
    · rename_i hc
      cases h
      refine ⟨m, ?_, hl⟩
      show mz_o12 i m (sz_v ρ v :: rest.map (sz_v ρ)) = _
      unfold mz_o12
      dsimp only
      rw [if_pos (by rw [sz_ty (by omega)]; exact hc)]
      rfl
    · cases h
  · cases h
theorem sz_o13_ok (hl : sz_LR ρ lo m) (h : sz_o13 i lo st = some r) : sz_1 ρ m (mz_o13 i m (st.map (sz_v ρ))) r := by
  unfold sz_o13 at h
  split at h
  · rename_i v w rest
    split at h
    · rename_i hc
      cases h
      refine ⟨m, ?_, hl⟩
      show mz_o13 i m (sz_v ρ v :: sz_v ρ w :: rest.map (sz_v ρ)) = _
      unfold mz_o13
      dsimp only
      rw [if_pos ⟨by rw [sz_ty (by omega)]; exact hc.1, by rw [sz_ty (by omega)]; exact hc.2⟩]
      rfl
    · cases h
  · cases h
theorem sz_o14_ok (hl : sz_LR ρ lo m) (h : sz_o14 i lo st = some r) : sz_1 ρ m (mz_o14 i m (st.map (sz_v ρ))) r := by
  unfold sz_o14 at h
  split at h
  · rename_i v rest
    split at h
    · rename_i hc
      cases h
      refine ⟨m, ?_, hl⟩
      show mz_o14 i m (sz_v ρ v :: rest.map (sz_v ρ)) = _
      unfold mz_o14
      dsimp only
      rw [if_pos (by rw [sz_ty (by omega)]; exact hc)]
    · cases h
  · cases h
theorem sz_o15_ok (hl : sz_LR ρ lo m) (h : sz_o15 i lo st = some r) : sz_1 ρ m (mz_o15 i m (st.map (sz_v ρ))) r := by
  unfold sz_o15 at h
  split at h
  · rename_i v w rest
    split at h
    · rename_i hc
      cases h
      refine ⟨m, ?_, hl⟩
      show mz_o15 i m (sz_v ρ v :: sz_v ρ w :: rest.map (sz_v ρ)) = _
      unfold mz_o15
      dsimp only
      rw [if_pos ⟨by rw [sz_ty (by omega)]; exact hc.1, by rw [sz_ty (by omega)]; exact hc.2⟩]
      rfl
    · cases h
  · cases h
theorem sz_o16_ok (hR : sz_R R ρ) (hl : sz_LR ρ lo m) (h : sz_o16 R a b i lo st = some r) : sz_1 ρ m (mz_o16 a b i m (st.map (sz_v ρ))) r := by
  unfold sz_o16 at h
  split at h
  · rename_i x rest
    split at h
    · rename_i hc
      unfold sz_jmp at h
      have hs : mz_o16 a b i m ((x :: rest).map (sz_v ρ)) = match mz_cond a (sz_i ρ x) 0 with
        | some true => some (b, m, rest.map (sz_v ρ))
        | some false => some (i + 1, m, rest.map (sz_v ρ))
        | none => none := by
        show mz_o16 a b i m (sz_v ρ x :: rest.map (sz_v ρ)) = _
        rw [sz_vi hc]
        rfl
      have h0 : (0 : Int32) = sz_i ρ (0, 0, []) := by rw [sz_i_const]; rfl
      split at h
      · rename_i h1
        cases h
        refine ⟨m, ?_, hl⟩
        rw [hs, h0, sz_cond_ok hR h1]
      · rename_i h1
        cases h
        refine ⟨m, ?_, hl⟩
        rw [hs, h0, sz_cond_ok hR h1]
      · cases h
    · cases h
  · cases h
theorem sz_o17_ok (hR : sz_R R ρ) (hl : sz_LR ρ lo m) (h : sz_o17 R a b i lo st = some r) : sz_1 ρ m (mz_o17 a b i m (st.map (sz_v ρ))) r := by
  unfold sz_o17 at h
  split at h
  · rename_i y x rest
    split at h
    · rename_i hc
      unfold sz_jmp at h
      have hs : mz_o17 a b i m ((y :: x :: rest).map (sz_v ρ)) = match mz_cond a (sz_i ρ x) (sz_i ρ y) with
        | some true => some (b, m, rest.map (sz_v ρ))
        | some false => some (i + 1, m, rest.map (sz_v ρ))
        | none => none := by
        show mz_o17 a b i m (sz_v ρ y :: sz_v ρ x :: rest.map (sz_v ρ)) = _
        rw [sz_vi hc.1, sz_vi hc.2]
        rfl
      split at h
      · rename_i h1
        cases h
        refine ⟨m, ?_, hl⟩
        rw [hs, sz_cond_ok hR h1]
      · rename_i h1
        cases h
        refine ⟨m, ?_, hl⟩
        rw [hs, sz_cond_ok hR h1]
      · cases h
    · cases h
  · cases h
theorem sz_o19_ok (hR : sz_R R ρ) (hl : sz_LR ρ lo m) {sw : List (Int × Nat)} (h : sz_o19 R b c sw lo st = some r) : sz_1 ρ m (mz_o19 b c sw m (st.map (sz_v ρ))) r := by
  unfold sz_o19 at h
  split at h
  · rename_i x rest
    split at h
    · rename_i hc
      have hs : mz_o19 b c sw m ((x :: rest).map (sz_v ρ)) = match mz_tab sw b ((sz_i ρ x).toInt - c) with
        | some t => some (t, m, rest.map (sz_v ρ))
        | none => none := by
        show mz_o19 b c sw m (sz_v ρ x :: rest.map (sz_v ρ)) = _
        rw [sz_vi hc]
        rfl
      split at h
      · rename_i h1
        cases h
        refine ⟨m, ?_, hl⟩
        have := sz_rg_ok hR x
        rw [hs]
        unfold mz_tab
        rw [if_pos (by omega)]
      · split at h
        · rename_i k hk
          split at h
          · rename_i t ht
            cases h
            refine ⟨m, ?_, hl⟩
            rw [hs, (sz_k_ok hR hk).2, ht]
          · cases h
        · cases h
    · cases h
  · cases h
theorem sz_one_ok (hD : sz_D D ρ) (hR : sz_R R ρ) (hl : sz_LR ρ lo m) {op : Nat} {sw : List (Int × Nat)} (h : sz_one D R op a b c i nL lo st = some r) : sz_1 ρ m (mz_one (op, a, b, c, sw) i nL m (st.map (sz_v ρ))) r := by
  unfold sz_one at h
  cases h_ : Nat.beq op 2 with
  | true =>
    rw [h_] at h
    have h_ := Nat.eq_of_beq_eq_true h_
    subst h_
    exact sz_o2_ok hl h
  | false =>
  rw [h_] at h
  clear h_
  cases h_ : Nat.beq op 0 with
  | true =>
    rw [h_] at h
    have h_ := Nat.eq_of_beq_eq_true h_
    subst h_
    have h : some (i + 1, lo, ((0, c, []) : szV) :: st) = some r := h
    cases h
    refine ⟨m, ?_, hl⟩
    show some (i + 1, m, Value.int (Int32.ofInt c) :: st.map (sz_v ρ)) = some (i + 1, m, Value.int (sz_i ρ (0, c, [])) :: st.map (sz_v ρ))
    rw [sz_i_const]
  | false =>
  rw [h_] at h
  clear h_
  cases h_ : Nat.beq op 17 with
  | true =>
    rw [h_] at h
    have h_ := Nat.eq_of_beq_eq_true h_
    subst h_
    exact sz_o17_ok hR hl h
  | false =>
  rw [h_] at h
  clear h_
  cases h_ : Nat.beq op 18 with
  | true =>
    rw [h_] at h
    have h_ := Nat.eq_of_beq_eq_true h_
    subst h_
    have h : some (b, lo, st) = some r := h
    cases h
    exact ⟨m, rfl, hl⟩
  | false =>
  rw [h_] at h
  clear h_
  cases h_ : Nat.beq op 5 with
  | true =>
    rw [h_] at h
    have h_ := Nat.eq_of_beq_eq_true h_
    subst h_
    exact sz_o5_ok hl h
  | false =>
  rw [h_] at h
  clear h_
  cases h_ : Nat.beq op 6 with
  | true =>
    rw [h_] at h
    have h_ := Nat.eq_of_beq_eq_true h_
    subst h_
    exact sz_o6_ok hD hR hl h
  | false =>
  rw [h_] at h
  clear h_
  cases h_ : Nat.beq op 3 with
  | true =>
    rw [h_] at h
    have h_ := Nat.eq_of_beq_eq_true h_
    subst h_
    exact sz_o3_ok hl h
  | false =>
  rw [h_] at h
  clear h_
  cases h_ : Nat.beq op 16 with
  | true =>
    rw [h_] at h
    have h_ := Nat.eq_of_beq_eq_true h_
    subst h_
    exact sz_o16_ok hR hl h
  | false =>
  rw [h_] at h
  clear h_
  cases h_ : Nat.beq op 7 with
  | true =>
    rw [h_] at h
    have h_ := Nat.eq_of_beq_eq_true h_
    subst h_
    exact sz_o7_ok hD hR hl h
  | false =>
  rw [h_] at h
  clear h_
  cases h_ : Nat.beq op 8 with
  | true =>
    rw [h_] at h
    have h_ := Nat.eq_of_beq_eq_true h_
    subst h_
    exact sz_o8_ok hl h
  | false =>
  rw [h_] at h
  clear h_
  cases h_ : Nat.beq op 12 with
  | true =>
    rw [h_] at h
    have h_ := Nat.eq_of_beq_eq_true h_
    subst h_
    exact sz_o12_ok hl h
  | false =>
  rw [h_] at h
  clear h_
  cases h_ : Nat.beq op 1 with
  | true =>
    rw [h_] at h
    have h_ := Nat.eq_of_beq_eq_true h_
    subst h_
    have h : (if -2147483648 ≤ c ∧ c ≤ 2147483647 then some (i + 1, lo, ((2, c, []) : szV) :: st) else none) = some r := h
    split at h
    · rename_i hc
      cases h
      refine ⟨m, ?_, hl⟩
      show some (i + 1, m, Value.long (Int64.ofInt c) :: st.map (sz_v ρ)) = some (i + 1, m, Value.long (sz_i ρ (2, c, [])).toInt64 :: st.map (sz_v ρ))
      rw [sz_i_const]
      have e : Int64.ofInt c = (Int32.ofInt c).toInt64 := by
        rw [← Int64.toInt_inj, Int32.toInt_toInt64, Int32.toInt_ofInt_of_le hc.1 (by omega), Int64.toInt_ofInt_of_le (by omega) (by omega)]
      rw [e]
    · cases h
  | false =>
  rw [h_] at h
  clear h_
  cases h_ : Nat.beq op 4 with
  | true =>
    rw [h_] at h
    have h_ := Nat.eq_of_beq_eq_true h_
    subst h_
    exact sz_o4_ok hl h
  | false =>
  rw [h_] at h
  clear h_
  cases h_ : Nat.beq op 11 with
  | true =>
    rw [h_] at h
    have h_ := Nat.eq_of_beq_eq_true h_
    subst h_
    exact sz_o11_ok hR hl h
  | false =>
  rw [h_] at h
  clear h_
  cases h_ : Nat.beq op 13 with
  | true =>
    rw [h_] at h
    have h_ := Nat.eq_of_beq_eq_true h_
    subst h_
    exact sz_o13_ok hl h
  | false =>
  rw [h_] at h
  clear h_
  cases h_ : Nat.beq op 14 with
  | true =>
    rw [h_] at h
    have h_ := Nat.eq_of_beq_eq_true h_
    subst h_
    exact sz_o14_ok hl h
  | false =>
  rw [h_] at h
  clear h_
  cases h_ : Nat.beq op 15 with
  | true =>
    rw [h_] at h
    have h_ := Nat.eq_of_beq_eq_true h_
    subst h_
    exact sz_o15_ok hl h
  | false =>
  rw [h_] at h
  clear h_
  cases h
end
