/-! runs that read two cells alone: a change of other cells changes nothing -/
section
variable {a b : Nat}
def mr_v (a b : Nat) (v : Value) : Prop := ∀ r, v = .ref r → r = a ∨ r = b
def mr_st (a b : Nat) (st : List Value) : Prop := ∀ v ∈ st, mr_v a b v
def mr_lo (a b : Nat) (lo : mzL) : Prop := ∀ q ∈ lo, mr_v a b q.2
theorem mr_int (x : Int32) : mr_v a b (.int x) := fun r h => by cases h
theorem mr_long (x : Int64) : mr_v a b (.long x) := fun r h => by cases h
theorem mr_cons {v : Value} {st : List Value} (h1 : mr_v a b v) (h2 : mr_st a b st) : mr_st a b (v :: st) := fun w hw => by
  rcases List.mem_cons.mp hw with e | e
  · rw [e]; exact h1
  · exact h2 w e
theorem mr_hd {v : Value} {st : List Value} (h : mr_st a b (v :: st)) : mr_v a b v := h v List.mem_cons_self
theorem mr_tl {v : Value} {st : List Value} (h : mr_st a b (v :: st)) : mr_st a b st := fun w hw => h w (List.mem_cons_of_mem _ hw)
theorem mr_ld : ∀ {lo : mzL}, mr_lo a b lo → ∀ {k : Nat} {v : Value}, mz_ld lo k = some v → mr_v a b v
  | [], _, _, _, h => by cases h
  | (k', w) :: lo, hl, k, v, h => by
    unfold mz_ld at h
    split at h
    · cases h
      exact hl (k', w) List.mem_cons_self
    · exact mr_ld (fun q hq => hl q (List.mem_cons_of_mem _ hq)) h
theorem mr_st1 {lo : mzL} (hl : mr_lo a b lo) {v : Value} (hv : mr_v a b v) (i : Nat) : mr_lo a b (mz_st1 lo i v) := fun q hq => by
  unfold mz_st1 at hq
  rcases List.mem_cons.mp hq with e | e
  · rw [e]; exact hv
  · exact hl q (List.mem_filter.mp e).1
theorem mr_st2 {lo : mzL} (hl : mr_lo a b lo) {v : Value} (hv : mr_v a b v) (i : Nat) : mr_lo a b (mz_st2 lo i v) := fun q hq => by
  unfold mz_st2 at hq
  rcases List.mem_cons.mp hq with e | e
  · rw [e]; exact hv
  · exact hl q (List.mem_filter.mp e).1
theorem mr_up {lo : mzL} (hl : mr_lo a b lo) {v : Value} (hv : mr_v a b v) (i : Nat) : mr_lo a b (mz_up lo i v) := fun q hq => by
  unfold mz_up at hq
  obtain ⟨p, hp, e⟩ := List.mem_map.mp hq
  split at e
  · rw [← e]; exact hv
  · rw [← e]; exact hl p hp
theorem mr_one {ri : mzI} {i nL : Nat} {lo : mzL} {st : List Value} {q : Nat × mzL × List Value} (h : mz_one ri i nL lo st = some q) (hl : mr_lo a b lo) (hs : mr_st a b st) : mr_lo a b q.2.1 ∧ mr_st a b q.2.2 := by
  unfold mz_one at h
  split at h
  · cases h; exact ⟨hl, mr_cons (mr_int _) hs⟩
  · cases h; exact ⟨hl, mr_cons (mr_long _) hs⟩
  · unfold mz_o2 at h
    split at h
    · rename_i v hv
      split at h
      · cases h; exact ⟨hl, mr_cons (mr_ld hl hv) hs⟩
      · cases h
    · cases h
  · unfold mz_o3 at h
    split at h
    · split at h
      · cases h; exact ⟨mr_st1 hl (mr_hd hs) _, mr_tl hs⟩
      · cases h
    · cases h
  · unfold mz_o4 at h
    split at h
    · split at h
      · cases h; exact ⟨mr_st2 hl (mr_long _) _, mr_tl hs⟩
      · cases h
    · cases h
  · unfold mz_o5 at h
    split at h
    · split at h
      · cases h; exact ⟨mr_up hl (mr_int _) _, hs⟩
      · cases h
    · cases h
  · unfold mz_o6 at h
    split at h
    · split at h
      · cases h; exact ⟨hl, mr_cons (mr_int _) (mr_tl (mr_tl hs))⟩
      · cases h
    · cases h
  · unfold mz_o7 at h
    split at h
    · split at h
      · cases h; exact ⟨hl, mr_cons (mr_int _) (mr_tl hs)⟩
      · cases h
    · cases h
  · unfold mz_o8 at h
    split at h
    · cases h; exact ⟨hl, mr_cons (mr_long _) (mr_tl hs)⟩
    · cases h
  · unfold mz_o9 at h
    split at h
    · split at h
      · cases h; exact ⟨hl, mr_cons (mr_long _) (mr_tl (mr_tl hs))⟩
      · cases h; exact ⟨hl, mr_cons (mr_long _) (mr_tl (mr_tl hs))⟩
    · cases h
  · unfold mz_o10 at h
    split at h
    · cases h; exact ⟨hl, mr_cons (mr_long _) (mr_tl (mr_tl hs))⟩
    · cases h
  · unfold mz_o11 at h
    split at h
    · cases h; exact ⟨hl, mr_cons (mr_int _) (mr_tl (mr_tl hs))⟩
    · cases h
  · unfold mz_o12 at h
    split at h
    · split at h
      · cases h; exact ⟨hl, mr_cons (mr_hd hs) hs⟩
      · cases h
    · cases h
  · unfold mz_o13 at h
    split at h
    · split at h
      · cases h; exact ⟨hl, mr_cons (mr_hd hs) (mr_cons (mr_hd (mr_tl hs)) hs)⟩
      · cases h
    · cases h
  · unfold mz_o14 at h
    split at h
    · split at h
      · cases h; exact ⟨hl, mr_tl hs⟩
      · cases h
    · cases h
  · unfold mz_o15 at h
    split at h
    · split at h
      · cases h; exact ⟨hl, mr_cons (mr_hd hs) (mr_cons (mr_hd (mr_tl hs)) (mr_cons (mr_hd hs) (mr_tl (mr_tl hs))))⟩
      · cases h
    · cases h
  · unfold mz_o16 at h
    split at h
    · split at h
      · cases h; exact ⟨hl, mr_tl hs⟩
      · cases h; exact ⟨hl, mr_tl hs⟩
      · cases h
    · cases h
  · unfold mz_o17 at h
    split at h
    · split at h
      · cases h; exact ⟨hl, mr_tl (mr_tl hs)⟩
      · cases h; exact ⟨hl, mr_tl (mr_tl hs)⟩
      · cases h
    · cases h
  · cases h; exact ⟨hl, hs⟩
  · unfold mz_o19 at h
    split at h
    · split at h
      · cases h; exact ⟨hl, mr_tl hs⟩
      · cases h
    · cases h
  · unfold mz_o39 at h
    split at h
    · cases h; exact ⟨hl, mr_tl hs⟩
    · cases h
  · cases h
theorem mr_args : ∀ (k : Nat) {as : List Value}, mr_st a b as → mr_lo a b (lv_args k as)
  | _, [], _ => fun q hq => by cases hq
  | k, v :: as, h => fun q hq => by
    unfold lv_args at hq
    rcases List.mem_cons.mp hq with e | e
    · rw [e]; exact mr_hd h
    · exact mr_args _ (mr_tl h) q e
/-- instructions of such a run: fs the fields that are read, S the methods -/
def mr_i (fs S : List Nat) (ri : mzI) : Bool := (Nat.blt ri.1 20 || Nat.beq ri.1 39) || ((Nat.beq ri.1 20 && fs.any (fun k => Nat.beq k ri.2.1)) || (((Nat.beq ri.1 22 || Nat.beq ri.1 41) || Nat.beq ri.1 42) || (Nat.beq ri.1 40 && S.any (fun k => Nat.beq k ri.2.1))))
variable {h h' : List mzC} {ca cb : mzC} {fs S : List Nat}
theorem mr_get (ha4 : 4 ≤ a) (hb4 : 4 ≤ b) (hA : h[a - 4]? = some ca) (hA' : h'[a - 4]? = some ca) (hB : h[b - 4]? = some cb) (hB' : h'[b - 4]? = some cb) {r : Nat} (hr : r = a ∨ r = b) (s2 s2' : Nat × Nat) : ∃ c, mz_get (h, s2) r = some c ∧ mz_get (h', s2') r = some c ∧ ¬ r < 4 ∧ (c = ca ∨ c = cb) := by
  rcases hr with e | e
  · subst e
    exact ⟨ca, by unfold mz_get; rw [if_neg (by omega)]; exact hA, by unfold mz_get; rw [if_neg (by omega)]; exact hA', by omega, Or.inl rfl⟩
  · subst e
    exact ⟨cb, by unfold mz_get; rw [if_neg (by omega)]; exact hB, by unfold mz_get; rw [if_neg (by omega)]; exact hB', by omega, Or.inr rfl⟩
theorem mr_any {l : List Nat} {x : Nat} (h : l.any (fun k => Nat.beq k x) = true) : x ∈ l := by
  obtain ⟨k, hk, e⟩ := List.any_eq_true.mp h
  rw [← Nat.eq_of_beq_eq_true e]
  exact hk
theorem mr_heap (ha4 : 4 ≤ a) (hb4 : 4 ≤ b) (hA : h[a - 4]? = some ca) (hA' : h'[a - 4]? = some ca) (hB : h[b - 4]? = some cb) (hB' : h'[b - 4]? = some cb) (hct : ca.1 = 22) (hcf : ∀ k ∈ fs, ∀ v, ca.2[k]? = some v → mr_v a b v) (hbv : ∀ v ∈ cb.2, mr_v a b v) {X : List (List Value)} {ri : mzI} {st : List Value} {s2 s2' : Nat × Nat} {q : List Value × mzS} (hi : mr_i fs S ri = true) (hs : mr_st a b st) (h1 : mz_heap X ri st (h, s2) = some q) : q.2 = (h, s2) ∧ mr_st a b q.1 ∧ mz_heap X ri st (h', s2') = some (q.1, (h', s2')) := by
  have hop := (mz_heap_op h1)
  have hcase : (ri.1 = 20 ∧ ri.2.1 ∈ fs) ∨ ri.1 = 22 := by
    unfold mr_i at hi
    simp only [Bool.or_eq_true, Bool.and_eq_true] at hi
    rcases hi with (e | e) | ⟨e, e2⟩ | (((e | e) | e) | ⟨e, e2⟩)
    · have : ri.1 < 20 := Nat.le_of_ble_eq_true e
      omega
    · have := Nat.eq_of_beq_eq_true e; omega
    · exact Or.inl ⟨Nat.eq_of_beq_eq_true e, mr_any e2⟩
    · exact Or.inr (Nat.eq_of_beq_eq_true e)
    · have := Nat.eq_of_beq_eq_true e; omega
    · have := Nat.eq_of_beq_eq_true e; omega
    · have := Nat.eq_of_beq_eq_true e; omega
  rcases hcase with ⟨ho, hfs⟩ | ho
  · have e1 : ∀ s, mz_heap X ri st s = mz_h20 ri.2.1 ri.2.2.1 st s := fun s => by unfold mz_heap; rw [ho]; rfl
    rw [e1] at h1 ⊢
    unfold mz_h20 at h1 ⊢
    split at h1
    · rename_i r rest
      obtain ⟨c, g1, g2, _, hc⟩ := mr_get ha4 hb4 hA hA' hB hB' (mr_hd hs r rfl) s2 s2'
      rw [g1] at h1
      dsimp only at h1 ⊢
      rw [g2]
      dsimp only
      split at h1
      · rename_i ht
        rw [if_pos ht]
        split at h1
        · rename_i v hv
          cases h1
          refine ⟨rfl, mr_cons ?_ (mr_tl hs), ?_⟩
          · rcases hc with e | e
            · subst e; exact hcf _ hfs v hv
            · subst e; exact hbv v (List.mem_of_getElem? hv)
          · rfl
        · cases h1
      · cases h1
    · cases h1
  · have e1 : ∀ s, mz_heap X ri st s = mz_h22 X ri.2.1 st s := fun s => by unfold mz_heap; rw [ho]; rfl
    rw [e1] at h1 ⊢
    unfold mz_h22 at h1 ⊢
    split at h1
    · rename_i i r rest
      obtain ⟨c, g1, g2, g3, hc⟩ := mr_get ha4 hb4 hA hA' hB hB' (mr_hd (mr_tl hs) r rfl) s2 s2'
      rw [if_neg g3, g1] at h1
      dsimp only at h1 ⊢
      rw [if_neg g3, g2]
      dsimp only
      split at h1
      · rename_i hk
        rw [if_pos hk]
        split at h1
        · rename_i v hv
          cases h1
          refine ⟨rfl, mr_cons ?_ (mr_tl (mr_tl hs)), ?_⟩
          · rcases hc with e | e
            · subst e
              rw [hct] at hk
              simp [mz_akind] at hk
            · subst e
              unfold mz_in at hv
              split at hv
              · cases hv
              · exact hbv v (List.mem_of_getElem? hv)
          · rfl
        · cases h1
      · cases h1
    · cases h1
theorem mr_recv (ha4 : 4 ≤ a) (hb4 : 4 ≤ b) (hA : h[a - 4]? = some ca) (hA' : h'[a - 4]? = some ca) (hB : h[b - 4]? = some cb) (hB' : h'[b - 4]? = some cb) {k : Nat} {as : List Value} {s2 s2' : Nat × Nat} (hs : mr_st a b as) (h1 : mz_recv k as (h, s2) = true) : mz_recv k as (h', s2') = true := by
  cases k with
  | zero => rfl
  | succ c =>
    cases as with
    | nil => cases h1
    | cons v rest =>
      cases v with
      | ref r =>
        obtain ⟨t, g1, g2, _, _⟩ := mr_get ha4 hb4 hA hA' hB hB' (mr_hd hs r rfl) s2 s2'
        have h1 : (match mz_get (h, s2) r with
          | some t => t.1 == 2 * c
          | none => false) = true := h1
        rw [g1] at h1
        show (match mz_get (h', s2') r with
          | some t => t.1 == 2 * c
          | none => false) = true
        rw [g2]
        exact h1
      | _ => cases h1
theorem mr_run (ha4 : 4 ≤ a) (hb4 : 4 ≤ b) (hA : h[a - 4]? = some ca) (hA' : h'[a - 4]? = some ca) (hB : h[b - 4]? = some cb) (hB' : h'[b - 4]? = some cb) (hct : ca.1 = 22) (hcf : ∀ k ∈ fs, ∀ v, ca.2[k]? = some v → mr_v a b v) (hbv : ∀ v ∈ cb.2, mr_v a b v) {P : List mzM} {X : List (List Value)} (hS : ∀ j ∈ S, ∀ M, P[j]? = some M → ∀ ri ∈ M.2.2.2, mr_i fs S ri = true) {s2 s2' : Nat × Nat} : ∀ (n d d' j i : Nat) (lo : mzL) (st : List Value) (o : Option (Option Value)) (s' : mzS), d ≤ d' → j ∈ S → mr_lo a b lo → mr_st a b st → mz_run P X n d j i lo st (h, s2) = some (o, s') →
    s' = (h, s2) ∧ (∃ w, o = some w ∧ ∀ v, w = some v → mr_v a b v) ∧ mz_run P X n d' j i lo st (h', s2') = some (o, (h', s2'))
  | 0, _, _, _, _, _, _, _, _, _, _, _, _, hr => by simp [mz_run] at hr
  | n + 1, d, d', j, i, lo, st, o, s', hd, hj, hl, hs, hr => by
    obtain ⟨M, ri, hM, hri, hc⟩ := mz_run_cases hr
    have hi := hS j hj M hM ri (List.mem_of_getElem? hri)
    rcases hc with ⟨h40, d0, as, rest, M', o1, s1, q, ed, htk, hM', k1, k2, k3, hcal, hq, hg⟩ | hf | ⟨ho, q, hq, hg⟩ | ⟨n40, n41, n42, n43, q, hq, hg⟩
    · have hcj : ri.2.1 ∈ S := by
        unfold mr_i at hi
        simp only [Bool.or_eq_true, Bool.and_eq_true] at hi
        rcases hi with (e | e) | ⟨e, e2⟩ | (((e | e) | e) | ⟨e, e2⟩)
        · have : ri.1 < 20 := Nat.le_of_ble_eq_true e
          omega
        · have := Nat.eq_of_beq_eq_true e; omega
        · have := Nat.eq_of_beq_eq_true e; omega
        · have := Nat.eq_of_beq_eq_true e; omega
        · have := Nat.eq_of_beq_eq_true e; omega
        · have := Nat.eq_of_beq_eq_true e; omega
        · exact mr_any e2
      have htk' := htk
      unfold mz_take at htk
      split at htk
      · cases htk
        have has : mr_st a b (st.take ri.2.2.1).reverse := fun v hv => hs v (List.mem_of_mem_take (List.mem_reverse.mp hv))
        have hrs : mr_st a b (st.drop ri.2.2.1) := fun v hv => hs v (List.mem_of_mem_drop hv)
        obtain ⟨d1, rfl⟩ : ∃ d1, d' = d1 + 1 := ⟨d' - 1, by omega⟩
        obtain ⟨e1, ⟨w, ew, hw⟩, r1⟩ := mr_run (s2' := s2') ha4 hb4 hA hA' hB hB' hct hcf hbv hS n d0 d1 ri.2.1 0 _ [] o1 s1 (by omega) hcj (mr_args 0 has) (fun v hv => by cases hv) hcal
        subst e1
        subst ew
        have hq2 : mr_st a b q.2 := by
          match w, hq, hw with
          | none, hq, _ => cases hq; exact hrs
          | some v, hq, hw => cases hq; exact mr_cons (hw v rfl) hrs
        obtain ⟨e2, e3, r2⟩ := mr_run (s2' := s2') ha4 hb4 hA hA' hB hB' hct hcf hbv hS n d (d1 + 1) j q.1 lo q.2 o s' (by omega) hj hl hq2 hg
        exact ⟨e2, e3, mz_run_call hM hri h40 htk' hM' k1 k2 (mr_recv ha4 hb4 hA hA' hB hB' has k3) r1 hq r2⟩
      · cases htk
    · have hf' := hf
      unfold mz_fin at hf
      split at hf
      · rename_i e41
        split at hf
        · rename_i est
          cases hf
          refine ⟨rfl, ⟨none, rfl, fun v e => by cases e⟩, mz_run_fin hM hri ?_⟩
          unfold mz_fin
          rw [if_pos e41, if_pos est]
        · cases hf
      · rename_i n41
        split at hf
        · rename_i e42
          split at hf
          · rename_i v
            split at hf
            · rename_i hc
              cases hf
              refine ⟨rfl, ⟨some v, rfl, fun w e => by cases e; exact mr_hd hs⟩, mz_run_fin hM hri ?_⟩
              unfold mz_fin
              rw [if_neg n41, if_pos e42]
              dsimp only
              rw [if_pos hc]
            · cases hf
          · cases hf
        · split at hf
          · rename_i e43
            unfold mr_i at hi
            rw [e43] at hi
            simp at hi
          · cases hf
    · obtain ⟨l1, l2⟩ := mr_one hq hl hs
      obtain ⟨e2, e3, r2⟩ := mr_run (s2' := s2') ha4 hb4 hA hA' hB hB' hct hcf hbv hS n d d' j q.1 q.2.1 q.2.2 o s' hd hj l1 l2 hg
      exact ⟨e2, e3, mz_run_one hM hri ho hq r2⟩
    · obtain ⟨a1, a2, a3⟩ := mr_heap (s2' := s2') ha4 hb4 hA hA' hB hB' hct hcf hbv hi hs hq
      rw [a1] at hg
      obtain ⟨e2, e3, r2⟩ := mr_run (s2' := s2') ha4 hb4 hA hA' hB hB' hct hcf hbv hS n d d' j (i + 1) lo q.1 o s' hd hj hl a2 hg
      exact ⟨e2, e3, mz_run_heap hM hri a3 r2⟩
end
