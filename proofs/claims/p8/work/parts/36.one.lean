/-! locals and simple instructions of A (turned from p1's S) -/
def sz_LR (ρ : Nat → Int) (lo : szLo) (m : mzL) : Prop := ∀ k v, lo[k]? = some v → v.1 < 9 → mz_ld m k = some (sz_v ρ v)
theorem mz_ld_filter {f : Nat × Value → Bool} {k : Nat} {w : Value} (hf : f (k, w) = true) : ∀ {m : mzL}, mz_ld m k = some w → mz_ld (m.filter f) k = some w
  | [], h => by cases h
  | (k', v) :: m, h => by
    unfold mz_ld at h
    by_cases hk : k' = k
    · rw [if_pos hk] at h
      cases h
      subst hk
      rw [List.filter_cons_of_pos hf]
      unfold mz_ld
      rw [if_pos rfl]
    · rw [if_neg hk] at h
      have ih := mz_ld_filter hf h
      by_cases hp : f (k', v) = true
      · rw [List.filter_cons_of_pos hp]
        unfold mz_ld
        rw [if_neg hk]
        exact ih
      · rw [List.filter_cons_of_neg hp]
        exact ih
theorem mz_ld_up (i : Nat) (v : Value) (k : Nat) : ∀ m : mzL, mz_ld (mz_up m i v) k = if k = i then (mz_ld m k).map (fun _ => v) else mz_ld m k
  | [] => by simp [mz_up, mz_ld]
  | (k', w) :: m => by
    have ih := mz_ld_up i v k m
    unfold mz_up at ih ⊢
    rw [List.map_cons]
    by_cases hk : k' = k
    · subst hk
      by_cases hi : k' = i
      · subst hi
        simp [mz_ld]
      · simp [mz_ld, hi]
    · have : mz_ld ((if k' = i then (k', v) else (k', w)) :: List.map (fun q => if q.1 = i then (q.1, v) else q) m) k = mz_ld (List.map (fun q => if q.1 = i then (q.1, v) else q) m) k := by
        by_cases hi : k' = i
        · rw [if_pos hi]; show (if k' = k then some v else _) = _; rw [if_neg hk]
        · rw [if_neg hi]; show (if k' = k then some w else _) = _; rw [if_neg hk]
      rw [this, ih]
      show _ = if k = i then Option.map (fun _ => v) (if k' = k then some w else mz_ld m k) else (if k' = k then some w else mz_ld m k)
      rw [if_neg hk]
theorem sz_lg_ok {lo : szLo} {a n : Nat} {w : szV} (h : sz_lg lo a = true) (hn : n + 1 = a) (hw : lo[n]? = some w) : sz_cat w = 1 := by
  subst hn
  unfold sz_lg at h
  dsimp only at h
  rw [sz_nth_eq, hw] at h
  unfold sz_cat
  split
  · rename_i h2
    dsimp only at h
    rcases h2 with h2 | h2 <;> rw [h2] at h <;> cases h
  · rfl
def sz_1 (ρ : Nat → Int) (m : mzL) (q : mzR) (r : Nat × szLo × List szV) : Prop := ∃ m', q = some (r.1, m', r.2.2.map (sz_v ρ)) ∧ sz_LR ρ r.2.1 m'
noncomputable def az_o2 (a b i : Nat) (lo : szLo) (st : List szV) : szO := match sz_ld lo a with
  | some v => if (v.1 = b ∨ (v.1 = 5 ∧ b = 2)) ∧ b < 3 then some (i + 1, lo, v :: st) else none
  | none => none
noncomputable def az_o4 (a i nL : Nat) (lo : szLo) (st : List szV) : szO := match st with
  | v :: rest => if (v.1 = 2 ∨ v.1 = 5) ∧ a + 1 < nL ∧ sz_lg lo a = true then sz_upk (9, 0, []) a v lo (fun lo => sz_upk (9, 0, []) (a + 1) (9, 0, []) lo (fun lo => some (i + 1, lo, rest))) else none
  | _ => none
/-- all numbers of a sum are written out -/
noncomputable def az_ft {β : Type} (t : szT) : (szT → β) → β := List.rec (fun k => k []) (fun q _ ih k => sz_fo q.1 (fun a => sz_fi q.2 (fun b => ih (fun t => k ((a, b) :: t))))) t
theorem az_ft_eq {β : Type} : ∀ (t : szT) (k : szT → β), az_ft t k = k t
  | [], _ => rfl
  | q :: t, k => by
    show sz_fo q.1 (fun a => sz_fi q.2 (fun b => az_ft t (fun t => k ((a, b) :: t)))) = _
    rw [sz_fo_eq, sz_fi_eq, az_ft_eq t]
noncomputable def az_fv {β : Type} (v : szV) (f : szV → β) : β := sz_fo v.1 (fun g => sz_fi v.2.1 (fun c => az_ft v.2.2 (fun t => f (g, c, t))))
theorem az_fv_eq {β : Type} (v : szV) (f : szV → β) : az_fv v f = f v := by unfold az_fv; rw [sz_fo_eq, sz_fi_eq, az_ft_eq]
noncomputable def az_o5 (D : szD) (R : szR) (Cs : azS) (a i nL : Nat) (c : Int) (lo : szLo) (st : List szV) : szO := match sz_ld lo a with
  | some x => if x.1 = 0 ∧ a < nL then (match az_bin D R Cs 0 x (0, c, []) with
    | some z => az_fv z (fun v => sz_upk (9, 0, []) a v lo (fun lo => some (i + 1, lo, st)))
    | none => none) else none
  | none => none
noncomputable def az_o6 (D : szD) (R : szR) (Cs : azS) (a i : Nat) (lo : szLo) (st : List szV) : szO := match st with
  | y :: x :: rest => if y.1 = 0 ∧ x.1 = 0 then match az_bin D R Cs a x y with
    | some z => az_fv z (fun z => some (i + 1, lo, z :: rest))
    | none => none else none
  | _ => none
noncomputable def az_o7 (D : szD) (R : szR) (Cs : azS) (a i : Nat) (lo : szLo) (st : List szV) : szO := match st with
  | x :: rest => if x.1 = 0 then match az_un D R Cs a x with
    | some z => az_fv z (fun z => some (i + 1, lo, z :: rest))
    | none => none else none
  | _ => none
def az_jmp (b i : Nat) (lo : szLo) (rest : List szV) (q : Option Bool) : szO := match q with
  | some true => some (b, lo, rest)
  | some false => some (i + 1, lo, rest)
  | none => none
noncomputable def az_o16 (R : szR) (Cs : azS) (a b i : Nat) (lo : szLo) (st : List szV) : szO := match st with
  | x :: rest => if x.1 = 0 then az_jmp b i lo rest (az_cond R Cs a x (0, 0, [])) else none
  | _ => none
noncomputable def az_o17 (R : szR) (Cs : azS) (a b i : Nat) (lo : szLo) (st : List szV) : szO := match st with
  | y :: x :: rest => if y.1 = 0 ∧ x.1 = 0 then az_jmp b i lo rest (az_cond R Cs a x y) else none
  | _ => none
noncomputable def az_o19 (R : szR) (Cs : azS) (b : Nat) (c : Int) (sw : List (Int × Nat)) (lo : szLo) (st : List szV) : szO := match st with
  | x :: rest => if x.1 = 0 ∧ az_nw R Cs x = true then (if az_ub R Cs x.2.1 x.2.2 < c ∨ c + (sw.length : Int) ≤ az_lb R Cs x.2.1 x.2.2 then some (b, lo, rest) else match az_k R Cs x with
    | some k => match mz_tab sw b (k - c) with
      | some t => some (t, lo, rest)
      | none => none
    | none => none) else none
  | _ => none
noncomputable def az_o39 (R : szR) (Cs : azS) (b : Nat) (sw : List (Int × Nat)) (lo : szLo) (st : List szV) : szO := match st with
  | x :: rest => if x.1 = 0 ∧ az_nw R Cs x = true then (match az_k R Cs x with
    | some k => some (mz_look sw b k, lo, rest)
    | none => if sw.all (fun q => decide (q.1 < az_lb R Cs x.2.1 x.2.2) || decide (az_ub R Cs x.2.1 x.2.2 < q.1)) = true then some (b, lo, rest) else none) else none
  | _ => none
section
variable {D : szD} {R : szR} {Cs : azS} {ρ : Nat → Int} {lo : szLo} {m : mzL} {st : List szV} {a b i nL : Nat} {c : Int} {r : Nat × szLo × List szV}
theorem az_o2_ok (hl : sz_LR ρ lo m) (h : az_o2 a b i lo st = some r) : sz_1 ρ m (mz_o2 a b i m (st.map (sz_v ρ))) r := by
  unfold az_o2 sz_ld at h
  rw [sz_nth_eq] at h
  split at h
  · rename_i v hv
    split at h
    · rename_i hc
      cases h
      refine ⟨m, ?_, hl⟩
      unfold mz_o2
      rw [hl a v hv (by omega)]
      dsimp only
      have hty : mz_ty (sz_v ρ v) = b := by
        rcases hc.1 with h1 | ⟨h1, h2⟩
        · rw [sz_ty (by omega)]; exact h1
        · rw [sz_v5 h1, h2]
          rfl
      rw [if_pos ⟨hty, hc.2⟩]
      rfl
    · cases h
  · cases h
theorem sz_o3_ok (hl : sz_LR ρ lo m) (h : sz_o3 a b i nL lo st = some r) : sz_1 ρ m (mz_o3 a b i nL m (st.map (sz_v ρ))) r := by
  unfold sz_o3 at h
  split at h
  · rename_i v rest
    split at h
    · rename_i hc
      rw [sz_upk_eq] at h
      cases h
      obtain ⟨h1, h2, h3, h4⟩ := hc
      refine ⟨mz_st1 m a (sz_v ρ v), ?_, ?_⟩
      · show mz_o3 a b i nL m (sz_v ρ v :: rest.map (sz_v ρ)) = _
        unfold mz_o3
        dsimp only
        rw [if_pos ⟨by rw [sz_ty (by omega)]; exact h1, h2, h3⟩]
      · intro k w hw hw9
        rcases sz_upl_at _ _ _ _ _ _ hw with ⟨e1, e2⟩ | ⟨e1, e2 | e2⟩
        · subst e1; subst e2
          show (if k = k then _ else _) = _
          rw [if_pos rfl]
        · show (if a = k then _ else mz_ld _ k) = _
          rw [if_neg (by omega)]
          refine mz_ld_filter ?_ (hl k w e2 hw9)
          by_cases hk : k + 1 = a
          · have := sz_lg_ok h4 hk e2
            simp [e1, sz_catv, this]
          · simp [e1, hk]
        · rw [e2] at hw9
          exact absurd hw9 (by decide)
    · cases h
  · cases h
theorem az_o4_ok (hl : sz_LR ρ lo m) (h : az_o4 a i nL lo st = some r) : sz_1 ρ m (mz_o4 a i nL m (st.map (sz_v ρ))) r := by
  unfold az_o4 at h
  split at h
  · rename_i v rest
    split at h
    · rename_i hc
      rw [sz_upk_eq, sz_upk_eq] at h
      cases h
      obtain ⟨h1, h2, h3⟩ := hc
      refine ⟨mz_st2 m a (sz_v ρ v), ?_, ?_⟩
      · show mz_o4 a i nL m (sz_v ρ v :: rest.map (sz_v ρ)) = _
        have hv : ∃ z, sz_v ρ v = .long z := by
          rcases h1 with h1 | h1
          · exact ⟨_, sz_vl h1⟩
          · exact ⟨_, sz_v5 h1⟩
        obtain ⟨z, hz⟩ := hv
        rw [hz]
        unfold mz_o4
        dsimp only
        rw [if_pos h2]
      · intro k w hw hw9
        dsimp only at hw
        rcases sz_upl_at _ _ _ _ _ _ hw with ⟨e1, e2⟩ | ⟨e1, e2 | e2⟩
        · rw [e2] at hw9
          exact absurd hw9 (by decide)
        · rcases sz_upl_at _ _ _ _ _ _ e2 with ⟨f1, f2⟩ | ⟨f1, f2 | f2⟩
          · subst f1; subst f2
            show (if k = k then _ else _) = _
            rw [if_pos rfl]
          · show (if a = k then _ else mz_ld _ k) = _
            rw [if_neg (by omega)]
            refine mz_ld_filter ?_ (hl k w f2 hw9)
            by_cases hk : k + 1 = a
            · have := sz_lg_ok h3 hk f2
              simp [f1, e1, sz_catv, this]
            · simp [f1, e1, hk]
          · rw [f2] at hw9
            exact absurd hw9 (by decide)
        · rw [e2] at hw9
          exact absurd hw9 (by decide)
    · cases h
  · cases h
theorem sz_up_LR (hl : sz_LR ρ lo m) {v : szV} {u : szV} (hu : lo[a]? = some u) (hu9 : u.1 < 9) {w : Value} (hw : w = sz_v ρ v) : sz_LR ρ (sz_upl (9, 0, []) a v lo) (mz_up m a w) := by
  intro k x hx hx9
  rw [mz_ld_up]
  rcases sz_upl_at _ _ _ _ _ _ hx with ⟨e1, e2⟩ | ⟨e1, e2 | e2⟩
  · subst e1; subst e2
    rw [if_pos rfl, hl k u hu hu9, hw]
    rfl
  · rw [if_neg e1]
    exact hl k x e2 hx9
  · rw [e2] at hx9
    exact absurd hx9 (by decide)
theorem az_o5_ok (hD : sz_D D ρ) (hR : sz_R R ρ) (hC : az_S Cs ρ) (hl : sz_LR ρ lo m) (h : az_o5 D R Cs a i nL c lo st = some r) : sz_1 ρ m (mz_o5 a i nL c m (st.map (sz_v ρ))) r := by
  unfold az_o5 sz_ld at h
  rw [sz_nth_eq] at h
  split at h
  · rename_i x hx
    split at h
    · rename_i hc
      split at h
      · rename_i z hz
        rw [az_fv_eq, sz_upk_eq] at h
        cases h
        obtain ⟨z1, z2⟩ := az_bin_ok hD hR hC hz
        have z2 : some (sz_i ρ x + sz_i ρ (0, c, [])) = some (sz_i ρ z) := z2
        rw [sz_i_const] at z2
        have z2 := Option.some.inj z2
        refine ⟨mz_up m a (.int (sz_i ρ x + Int32.ofInt c)), ?_, ?_⟩
        · unfold mz_o5
          rw [hl a x hx (by omega), sz_vi hc.1]
          dsimp only
          rw [if_pos hc.2]
        · refine sz_up_LR hl hx (by omega) ?_
          rw [sz_vi z1, z2]
      · cases h
    · cases h
  · cases h
theorem az_o6_ok (hD : sz_D D ρ) (hR : sz_R R ρ) (hC : az_S Cs ρ) (hl : sz_LR ρ lo m) (h : az_o6 D R Cs a i lo st = some r) : sz_1 ρ m (mz_o6 a i m (st.map (sz_v ρ))) r := by
  unfold az_o6 at h
  split at h
  · rename_i y x rest
    split at h
    · rename_i hc
      split at h
      · rename_i z hz
        rw [az_fv_eq] at h
        cases h
        obtain ⟨z1, z2⟩ := az_bin_ok hD hR hC hz
        refine ⟨m, ?_, hl⟩
        show mz_o6 a i m (sz_v ρ y :: sz_v ρ x :: rest.map (sz_v ρ)) = _
        rw [sz_vi hc.1, sz_vi hc.2]
        unfold mz_o6
        dsimp only
        rw [z2]
        dsimp only
        rw [List.map_cons, sz_vi z1]
      · cases h
    · cases h
  · cases h
theorem az_o7_ok (hD : sz_D D ρ) (hR : sz_R R ρ) (hC : az_S Cs ρ) (hl : sz_LR ρ lo m) (h : az_o7 D R Cs a i lo st = some r) : sz_1 ρ m (mz_o7 a i m (st.map (sz_v ρ))) r := by
  unfold az_o7 at h
  split at h
  · rename_i x rest
    split at h
    · rename_i hc
      split at h
      · rename_i z hz
        rw [az_fv_eq] at h
        cases h
        obtain ⟨z1, z2⟩ := az_un_ok hD hR hC hz
        refine ⟨m, ?_, hl⟩
        show mz_o7 a i m (sz_v ρ x :: rest.map (sz_v ρ)) = _
        rw [sz_vi hc]
        unfold mz_o7
        dsimp only
        rw [z2]
        dsimp only
        rw [List.map_cons, sz_vi z1]
      · cases h
    · cases h
  · cases h
theorem az_jmp_ok {q : Option Bool} {rest : List szV} (h : az_jmp b i lo rest q = some r) : ∃ t, q = some t ∧ r = (if t then b else i + 1, lo, rest) := by
  unfold az_jmp at h
  split at h
  · cases h; exact ⟨true, rfl, rfl⟩
  · cases h; exact ⟨false, rfl, rfl⟩
  · cases h
theorem az_o16_ok (hR : sz_R R ρ) (hC : az_S Cs ρ) (hl : sz_LR ρ lo m) (h : az_o16 R Cs a b i lo st = some r) : sz_1 ρ m (mz_o16 a b i m (st.map (sz_v ρ))) r := by
  unfold az_o16 at h
  split at h
  · rename_i x rest
    split at h
    · rename_i hc
      obtain ⟨t, t1, t2⟩ := az_jmp_ok h
      have := az_cond_ok hR hC t1
      rw [sz_i_const] at this
      subst t2
      refine ⟨m, ?_, hl⟩
      show mz_o16 a b i m (sz_v ρ x :: rest.map (sz_v ρ)) = _
      rw [sz_vi hc]
      unfold mz_o16
      dsimp only
      rw [show (0 : Int32) = Int32.ofInt 0 from rfl, this]
      cases t <;> rfl
    · cases h
  · cases h
theorem az_o17_ok (hR : sz_R R ρ) (hC : az_S Cs ρ) (hl : sz_LR ρ lo m) (h : az_o17 R Cs a b i lo st = some r) : sz_1 ρ m (mz_o17 a b i m (st.map (sz_v ρ))) r := by
  unfold az_o17 at h
  split at h
  · rename_i y x rest
    split at h
    · rename_i hc
      obtain ⟨t, t1, t2⟩ := az_jmp_ok h
      have := az_cond_ok hR hC t1
      subst t2
      refine ⟨m, ?_, hl⟩
      show mz_o17 a b i m (sz_v ρ y :: sz_v ρ x :: rest.map (sz_v ρ)) = _
      rw [sz_vi hc.1, sz_vi hc.2]
      unfold mz_o17
      dsimp only
      rw [this]
      cases t <;> rfl
    · cases h
  · cases h
theorem az_o19_ok (hR : sz_R R ρ) (hC : az_S Cs ρ) (hl : sz_LR ρ lo m) {sw : List (Int × Nat)} (h : az_o19 R Cs b c sw lo st = some r) : sz_1 ρ m (mz_o19 b c sw m (st.map (sz_v ρ))) r := by
  unfold az_o19 at h
  split at h
  · rename_i x rest
    split at h
    · rename_i hc
      have hs : mz_o19 b c sw m ((x :: rest).map (sz_v ρ)) = match mz_tab sw b ((sz_i ρ x).toInt - c) with
        | some t => some (t, m, rest.map (sz_v ρ))
        | none => none := by
        show mz_o19 b c sw m (sz_v ρ x :: rest.map (sz_v ρ)) = _
        rw [sz_vi hc.1]
        rfl
      have hx := az_nw_ok hR hC hc.2
      have l1 := az_lb_ok hR hC x.2.1 x.2.2
      have l2 := az_ub_ok hR hC x.2.1 x.2.2
      split at h
      · rename_i h1
        cases h
        refine ⟨m, ?_, hl⟩
        rw [hs]
        unfold mz_tab
        rw [if_pos (by omega)]
      · split at h
        · rename_i k hk
          split at h
          · rename_i t ht
            cases h
            refine ⟨m, ?_, hl⟩
            rw [hs, (az_k_ok hR hC hk).2.2.2.2, ht]
          · cases h
        · cases h
    · cases h
  · cases h
theorem az_look_out {x : Int} {d : Nat} : ∀ {sw : List (Int × Nat)}, (∀ q ∈ sw, q.1 ≠ x) → mz_look sw d x = d
  | [], _ => rfl
  | (k, t) :: sw, h => by
    unfold mz_look
    rw [if_neg (fun e => h (k, t) List.mem_cons_self e.symm)]
    exact az_look_out (fun q hq => h q (List.mem_cons_of_mem _ hq))
theorem az_o39_ok (hR : sz_R R ρ) (hC : az_S Cs ρ) (hl : sz_LR ρ lo m) {sw : List (Int × Nat)} (h : az_o39 R Cs b sw lo st = some r) : sz_1 ρ m (mz_o39 b sw m (st.map (sz_v ρ))) r := by
  unfold az_o39 at h
  split at h
  · rename_i x rest
    split at h
    · rename_i hc
      have hs : mz_o39 b sw m ((x :: rest).map (sz_v ρ)) = some (mz_look sw b (sz_i ρ x).toInt, m, rest.map (sz_v ρ)) := by
        show mz_o39 b sw m (sz_v ρ x :: rest.map (sz_v ρ)) = _
        rw [sz_vi hc.1]
        rfl
      have hx := az_nw_ok hR hC hc.2
      have l1 := az_lb_ok hR hC x.2.1 x.2.2
      have l2 := az_ub_ok hR hC x.2.1 x.2.2
      split at h
      · rename_i k hk
        cases h
        refine ⟨m, ?_, hl⟩
        rw [hs, (az_k_ok hR hC hk).2.2.2.2]
      · split at h
        · rename_i hh
          cases h
          refine ⟨m, ?_, hl⟩
          rw [hs, az_look_out]
          intro q hq e
          have := List.all_eq_true.mp hh q hq
          rw [Bool.or_eq_true, decide_eq_true_eq, decide_eq_true_eq] at this
          omega
        · cases h
    · cases h
  · cases h
theorem sz_o8_ok (hl : sz_LR ρ lo m) (h : sz_o8 i lo st = some r) : sz_1 ρ m (mz_o8 i m (st.map (sz_v ρ))) r := by
  unfold sz_o8 at h
  split at h
  · rename_i x rest
    split at h
    · rename_i hc
      cases h
      refine ⟨m, ?_, hl⟩
      show mz_o8 i m (sz_v ρ x :: rest.map (sz_v ρ)) = _
      rw [sz_vi hc]
      rfl
    · cases h
  · cases h
theorem sz_o12_ok (hl : sz_LR ρ lo m) (h : sz_o12 i lo st = some r) : sz_1 ρ m (mz_o12 i m (st.map (sz_v ρ))) r := by
  unfold sz_o12 at h
  split at h
  · rename_i v rest
    split at h
    · rename_i hc
      cases h
      refine ⟨m, ?_, hl⟩
      show mz_o12 i m (sz_v ρ v :: rest.map (sz_v ρ)) = _
      unfold mz_o12
      dsimp only
      rw [if_pos (by rw [sz_ty (by omega)]; exact hc)]
      rfl
    · cases h
  · cases h
theorem sz_o13_ok (hl : sz_LR ρ lo m) (h : sz_o13 i lo st = some r) : sz_1 ρ m (mz_o13 i m (st.map (sz_v ρ))) r := by
  unfold sz_o13 at h
  split at h
  · rename_i v w rest
    split at h
    · rename_i hc
      cases h
      refine ⟨m, ?_, hl⟩
      show mz_o13 i m (sz_v ρ v :: sz_v ρ w :: rest.map (sz_v ρ)) = _
      unfold mz_o13
      dsimp only
      rw [if_pos ⟨by rw [sz_ty (by omega)]; exact hc.1, by rw [sz_ty (by omega)]; exact hc.2⟩]
      rfl
    · cases h
  · cases h
theorem sz_o14_ok (hl : sz_LR ρ lo m) (h : sz_o14 i lo st = some r) : sz_1 ρ m (mz_o14 i m (st.map (sz_v ρ))) r := by
  unfold sz_o14 at h
  split at h
  · rename_i v rest
    split at h
    · rename_i hc
      cases h
      refine ⟨m, ?_, hl⟩
      show mz_o14 i m (sz_v ρ v :: rest.map (sz_v ρ)) = _
      unfold mz_o14
      dsimp only
      rw [if_pos (by rw [sz_ty (by omega)]; exact hc)]
    · cases h
  · cases h
theorem sz_o15_ok (hl : sz_LR ρ lo m) (h : sz_o15 i lo st = some r) : sz_1 ρ m (mz_o15 i m (st.map (sz_v ρ))) r := by
  unfold sz_o15 at h
  split at h
  · rename_i v w rest
    split at h
    · rename_i hc
      cases h
      refine ⟨m, ?_, hl⟩
      show mz_o15 i m (sz_v ρ v :: sz_v ρ w :: rest.map (sz_v ρ)) = _
      unfold mz_o15
      dsimp only
      rw [if_pos ⟨by rw [sz_ty (by omega)]; exact hc.1, by rw [sz_ty (by omega)]; exact hc.2⟩]
      rfl
    · cases h
  · cases h
end
theorem sz_pk_ok : ∀ {cs : List mzI} {N i : Nat}, sz_pk N cs = true → sz_sl 80 N i ≠ 0 → ∃ ri, cs[i]? = some ri ∧ ri.1 = Nat.mod (sz_sl 80 N i) 256 ∧ ri.2.1 = sz_fa (sz_sl 80 N i) ∧ ri.2.2.1 = sz_fb (sz_sl 80 N i) ∧ ri.2.2.2.1 = sz_fc (sz_sl 80 N i)
  | [], N, i, h, h0 => by
    have h : N = 0 := Nat.eq_of_beq_eq_true h
    subst h
    exact absurd (by show (0 >>> (80 * i)) % 2 ^ 80 = 0; rw [Nat.zero_shiftRight]) h0
  | ri :: cs, N, 0, h, h0 => by
    unfold sz_pk at h
    simp only [Bool.and_eq_true, decide_eq_true_eq] at h
    obtain ⟨h1, h2, h3, h4, _⟩ := h
    have e : sz_sl 80 N 0 = Nat.mod N (Nat.pow 2 80) := rfl
    rw [e]
    refine ⟨ri, rfl, ?_, Nat.eq_of_beq_eq_true h2, Nat.eq_of_beq_eq_true h3, h4⟩
    rw [Nat.eq_of_beq_eq_true h1]
    show N % 256 = N % 2 ^ 80 % 256
    omega
  | ri :: cs, N, i + 1, h, h0 => by
    unfold sz_pk at h
    simp only [Bool.and_eq_true, decide_eq_true_eq] at h
    obtain ⟨_, _, _, _, _, h5⟩ := h
    have e : sz_sl 80 N (i + 1) = sz_sl 80 (Nat.shiftRight N 80) i := by
      show (N >>> (80 * (i + 1))) % 2 ^ 80 = ((N >>> 80) >>> (80 * i)) % 2 ^ 80
      rw [← Nat.shiftRight_add]
      congr 2
      omega
    rw [e] at h0 ⊢
    obtain ⟨ri', g1, g2⟩ := sz_pk_ok h5 h0
    exact ⟨ri', by simpa using g1, g2⟩
def sz_pkall : List szM → List mzM → Bool
  | [], _ => true
  | q :: r, M :: r' => Nat.beq q.1 M.1 && (Nat.beq q.2.1 M.2.1 && (decide (q.2.2.1 = M.2.2.1) && (sz_pk q.2.2.2 M.2.2.2 && sz_pkall r r')))
  | _ :: _, [] => false
theorem sz_pkall_ok : ∀ {P : List szM} {Q : List mzM} {j : Nat} {q : szM}, sz_pkall P Q = true → P[j]? = some q → ∃ M, Q[j]? = some M ∧ q.1 = M.1 ∧ q.2.1 = M.2.1 ∧ q.2.2.1 = M.2.2.1 ∧ sz_pk q.2.2.2 M.2.2.2 = true
  | [], _, _, _, _, h => by simp at h
  | _ :: _, [], _, _, h, _ => by cases h
  | p :: P, M :: Q, 0, q, h, hq => by
    unfold sz_pkall at h
    simp only [Bool.and_eq_true, decide_eq_true_eq] at h
    cases hq
    exact ⟨M, rfl, Nat.eq_of_beq_eq_true h.1, Nat.eq_of_beq_eq_true h.2.1, h.2.2.1, h.2.2.2.1⟩
  | p :: P, M :: Q, j + 1, q, h, hq => by
    unfold sz_pkall at h
    simp only [Bool.and_eq_true, decide_eq_true_eq] at h
    obtain ⟨M', g⟩ := sz_pkall_ok h.2.2.2.2 (by simpa using hq)
    exact ⟨M', by simpa using g.1, g.2⟩
def sz_FR (ρ : Nat → Int) (f : szF) (w : mzW) : Prop := f.1 = w.1 ∧ mzP[w.1]? = some w.2.1 ∧ f.2.1 = (w.2.1.1, w.2.1.2.2.1) ∧ sz_pk f.2.2.1 w.2.1.2.2.2 = true ∧ f.2.2.2.1 = w.2.2.1 ∧ sz_LR ρ f.2.2.2.2.1 w.2.2.2.1 ∧ w.2.2.2.2 = f.2.2.2.2.2.map (sz_v ρ)
def sz_WR (ρ : Nat → Int) : List szF → List mzW → Prop
  | [], [] => True
  | f :: fs, w :: ws => sz_FR ρ f w ∧ sz_WR ρ fs ws
  | _, _ => False
theorem sz_args_eq {β : Type} (ρ : Nat → Int) : ∀ (as : List szV) (k : szLo → β), ∃ lo, sz_args as k = k lo ∧ (∀ (β' : Type) (k' : szLo → β'), sz_args as k' = k' lo) ∧ ∀ n i v, lo[i]? = some v → v.1 < 9 → mz_ld (lv_args n (as.map (sz_v ρ))) (n + i) = some (sz_v ρ v)
  | [], k => ⟨[], rfl, fun _ _ => rfl, fun _ _ _ h => by simp at h⟩
  | a :: as, k => by
    have hcat := sz_catv ρ a
    by_cases hc : sz_cat a = 2
    · obtain ⟨lo, h1, h2, h3⟩ := sz_args_eq ρ as (fun l => k (a :: (9, 0, []) :: l))
      refine ⟨a :: (9, 0, []) :: lo, ?_, ?_, ?_⟩
      · unfold sz_args; rw [if_pos hc]; exact h1
      · intro β' k'; unfold sz_args; rw [if_pos hc]; exact h2 _ _
      · intro n i v hv h9
        show mz_ld ((n, sz_v ρ a) :: lv_args (if (sz_v ρ a).category = 2 then n + 2 else n + 1) (as.map (sz_v ρ))) (n + i) = _
        rw [hcat, if_pos hc]
        unfold mz_ld
        match i, hv with
        | 0, hv => cases hv; rw [if_pos (by omega)]
        | 1, hv => cases hv; exact absurd h9 (by decide)
        | i + 2, hv =>
          rw [if_neg (by omega)]
          have := h3 (n + 2) i v (by simpa using hv) h9
          rw [show n + (i + 2) = n + 2 + i by omega]
          exact this
    · obtain ⟨lo, h1, h2, h3⟩ := sz_args_eq ρ as (fun l => k (a :: l))
      refine ⟨a :: lo, ?_, ?_, ?_⟩
      · unfold sz_args; rw [if_neg hc]; exact h1
      · intro β' k'; unfold sz_args; rw [if_neg hc]; exact h2 _ _
      · intro n i v hv h9
        show mz_ld ((n, sz_v ρ a) :: lv_args (if (sz_v ρ a).category = 2 then n + 2 else n + 1) (as.map (sz_v ρ))) (n + i) = _
        rw [hcat, if_neg hc]
        unfold mz_ld
        match i, hv with
        | 0, hv => cases hv; rw [if_pos (by omega)]
        | i + 1, hv =>
          rw [if_neg (by omega)]
          have := h3 (n + 1) i v (by simpa using hv) h9
          rw [show n + (i + 1) = n + 1 + i by omega]
          exact this
theorem sz_tk_ok : ∀ {n : Nat} {st as : List szV} {q : List szV × List szV}, sz_tk n st as (fun as rest => (as, rest)) = some q → n ≤ st.length ∧ q = ((st.take n).reverse ++ as, st.drop n)
  | 0, st, as, q, h => by
    have h : some (as, st) = some q := h
    cases h
    exact ⟨Nat.zero_le _, by simp⟩
  | n + 1, [], as, q, h => by
    have h : (none : Option (List szV × List szV)) = some q := h
    cases h
  | n + 1, v :: st, as, q, h => by
    have h : sz_tk n st (v :: as) (fun as rest => (as, rest)) = some q := h
    obtain ⟨h1, h2⟩ := sz_tk_ok h
    refine ⟨by simpa using h1, ?_⟩
    rw [h2]
    simp

