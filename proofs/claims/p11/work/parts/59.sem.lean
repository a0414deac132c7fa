/-! slots as numbers, assignments by lists, runs of what reads the numbers of the reference alone -/
def hv (h : List mzC) (c k : Nat) : Int := match az_slot h c k with
  | some (.int x) => x.toInt
  | _ => 0
/-- an int -/
def iv (x : Int) : Value := .int (Int32.ofInt x)
theorem hv_at {h : List mzC} {c k : Nat} {x : Int32} (e : az_slot h c k = some (.int x)) : hv h c k = x.toInt := by
  unfold hv
  rw [e]
theorem hv_iv {h : List mzC} {c k : Nat} {x : Int32} (e : az_slot h c k = some (.int x)) : az_slot h c k = some (iv (hv h c k)) := by
  rw [hv_at e, e]
  unfold iv
  rw [Int32.ofInt_toInt]
theorem hv_eq {h h' : List mzC} {c k : Nat} (e : az_slot h' c k = az_slot h c k) : hv h' c k = hv h c k := by
  unfold hv
  rw [e]
theorem hv_val {h : List mzC} {c k : Nat} {x : Int} (e : az_slot h c k = some (iv x)) (h1 : -2147483648 ≤ x) (h2 : x ≤ 2147483647) : hv h c k = x := by
  rw [hv_at e, sz_toInt]
  exact sz_w_id h1 h2
theorem hv_slot {h : List mzC} (hT : az_HT h) {c k : Nat} {C : azC} {l u : Int} (hC : azL[c]? = some C) (ht : az_ty C k = some (0, 0, [(l, u)])) : az_slot h c k = some (iv (hv h c k)) ∧ l ≤ hv h c k ∧ hv h c k ≤ u := by
  obtain ⟨v, v1, v2⟩ := az_slot_of (hT c _ hC) ht
  obtain ⟨x, e, p, hp, p1, p2⟩ := v2
  rw [List.mem_singleton] at hp
  subst hp
  subst e
  refine ⟨hv_iv v1, ?_, ?_⟩
  · rw [hv_at v1]; exact p1
  · rw [hv_at v1]; exact p2
theorem hv_arr {h : List mzC} (hT : az_HT h) {c t n g : Nat} {l u : Int} (hC : azL[c]? = some (t, n, g + 1, [])) (hg : azTs[g]? = some (0, 0, [(l, u)])) {k : Nat} (hk : k < n) : az_slot h c k = some (iv (hv h c k)) ∧ l ≤ hv h c k ∧ hv h c k ≤ u := by
  refine hv_slot hT hC ?_
  unfold az_ty
  have : Nat.blt k n = true := Nat.ble_eq_true_of_le hk
  dsimp only
  rw [this]
  show sz_nth azTs g = _
  rw [sz_nth_eq]
  exact hg
def rho (L : List Int) (z : Int) : Nat → Int := fun k => if k = 1000000 then z else L.getD k 0
def rin : szR → List Int → Prop
  | [], [] => True
  | p :: R, x :: L => (p.1 ≤ x ∧ x ≤ p.2) ∧ rin R L
  | _, _ => False
def rsin (ρ : Nat → Int) : azS → Prop
  | [] => True
  | f :: Cs => 0 ≤ f.1 + sz_sum ρ f.2 ∧ rsin ρ Cs
theorem rin_len : ∀ {R : szR} {L : List Int}, rin R L → R.length = L.length
  | [], [], _ => rfl
  | _ :: R, _ :: L, h => by rw [List.length_cons, List.length_cons, rin_len h.2]
  | [], _ :: _, h => by cases h
  | _ :: _, [], h => by cases h
theorem rin_at : ∀ {R : szR} {L : List Int}, rin R L → ∀ k, (sz_at R k).1 ≤ L.getD k 0 ∧ L.getD k 0 ≤ (sz_at R k).2
  | [], [], _, k => by simp [sz_at]
  | p :: R, x :: L, h, 0 => h.1
  | p :: R, x :: L, h, k + 1 => by
    have := rin_at h.2 k
    simpa [sz_at] using this
  | [], _ :: _, h, _ => by cases h
  | _ :: _, [], h, _ => by cases h
theorem rsin_S {ρ : Nat → Int} : ∀ {Cs : azS}, rsin ρ Cs → az_S Cs ρ
  | [], _ => fun f hf => by cases hf
  | g :: Cs, h => fun f hf => by
    rcases List.mem_cons.mp hf with e | e
    · rw [e]; exact h.1
    · exact rsin_S h.2 f e
theorem rho_V {D : szD} {R : szR} {Cs : azS} {L : List Int} {z : Int} (hD : sz_D D (rho L z) ∧ az_T D (rho L z)) (hr : rin R L) (hi : R.all (fun p => decide (-2147483648 ≤ p.1) && decide (p.2 ≤ 2147483647)) = true) (hz : 0 ≤ z ∧ z ≤ 2147483647) (hl : R.length ≤ 1000000) (hs : rsin (rho L z) Cs) : az_V D R Cs (rho L z) := by
  have hat : ∀ k, -2147483648 ≤ (sz_at R k).1 ∧ (sz_at R k).2 ≤ 2147483647 := by
    intro k
    unfold sz_at
    rw [List.getD_eq_getElem?_getD]
    cases hk : R[k]? with
    | none => exact ⟨Int.le_refl _, Int.le_refl _⟩
    | some p =>
      have := List.all_eq_true.mp hi p (List.mem_of_getElem? hk)
      simp only [Bool.and_eq_true, decide_eq_true_eq] at this
      exact this
  have hR : sz_R R (rho L z) := by
    intro k
    unfold rho
    by_cases hk : k = 1000000
    · rw [if_pos hk]
      have : sz_at R k = (-2147483648, 2147483647) := by
        unfold sz_at
        rw [List.getD_eq_getElem?_getD, List.getElem?_eq_none (by omega)]
        rfl
      rw [this]
      dsimp only
      omega
    · rw [if_neg hk]
      exact rin_at hr k
  exact ⟨hD.1, hR, rsin_S hs, hD.2, fun k => ⟨Int.le_trans (hat k).1 (hR k).1, Int.le_trans (hR k).2 (hat k).2⟩⟩
theorem rho_free {D : szD} (h : D.all (fun d => Nat.beq d.1 0 && Nat.beq d.2.1.1 0) = true) (ρ : Nat → Int) : sz_D D ρ ∧ az_T D ρ := by
  refine ⟨fun k o x y hk ho => ?_, fun k x y hk hx => ?_⟩
  · have := List.all_eq_true.mp h _ (List.mem_of_getElem? hk)
    rw [Bool.and_eq_true] at this
    exact absurd (Nat.eq_of_beq_eq_true this.1) ho
  · have := List.all_eq_true.mp h _ (List.mem_of_getElem? hk)
    rw [Bool.and_eq_true] at this
    exact absurd (Nat.eq_of_beq_eq_true this.2) hx
theorem sz_v_iv (ρ : Nat → Int) (c : Int) (t : szT) : sz_v ρ (0, c, t) = iv (c + sz_sum ρ t) := sz_vi rfl
theorem sz_v_ref (ρ : Nat → Int) {c : Int} (h : c < 1000000) (t : szT) : sz_v ρ (1, c, t) = .ref c.toNat := by
  rw [sz_v1 rfl, if_pos h]
theorem iv_toInt {x : Int} (h1 : -2147483648 ≤ x) (h2 : x ≤ 2147483647) : (Int32.ofInt x).toInt = x := by
  rw [sz_toInt]
  exact sz_w_id h1 h2
theorem iv_inj {x y : Int} (h : iv x = iv y) (h1 : -2147483648 ≤ x) (h2 : x ≤ 2147483647) (h3 : -2147483648 ≤ y) (h4 : y ≤ 2147483647) : x = y := by
  have e : Int32.ofInt x = Int32.ofInt y := by
    unfold iv at h
    exact Value.int.inj h
  rw [← iv_toInt h1 h2, ← iv_toInt h3 h4, e]
/-- a cell with no slot that may change is the same -/
theorem HM_cell {mods : List (Nat × Nat)} {h h' : List mzC} (hT : az_HT h) (hT' : az_HT h') (hM : az_HM mods h h') {c : Nat} {C : azC} (hC : azL[c]? = some C) (hm : mods.all (fun m => !(Nat.beq m.1 c)) = true) : h'[c]? = h[c]? := by
  obtain ⟨fs, f1, f2, _⟩ := hT c C hC
  obtain ⟨fs', g1, g2, _⟩ := hT' c C hC
  have hc : c < azL.length := (List.getElem?_eq_some_iff.mp hC).1
  have hmd : ∀ k, az_md mods c k = false := by
    intro k
    unfold az_md
    rw [List.any_eq_false]
    intro m hm'
    have := List.all_eq_true.mp hm m hm'
    rw [Bool.not_eq_true'] at this
    rw [this]
    simp
  have : fs' = fs := by
    apply List.ext_getElem?
    intro k
    have := hM c k hc (hmd k)
    unfold az_slot at this
    rw [f1, g1] at this
    exact this
  rw [f1, g1, this]
/-- methods of the reference that read its field 'now' and that array alone -/
def mrS : List Nat := [122, 75, 76, 77, 119, 78, 288, 74, 73, 79, 120, 121, 81, 80]
theorem mrS_ok : mrS.all (fun j => match mzP[j]? with
  | some M => M.2.2.2.all (mr_i [0] mrS)
  | none => true) = true := by decide +kernel
theorem mr_S : ∀ j ∈ mrS, ∀ M, mzP[j]? = some M → ∀ ri ∈ M.2.2.2, mr_i [0] mrS ri = true := by
  intro j hj M hM ri hri
  have := List.all_eq_true.mp mrS_ok j hj
  rw [hM] at this
  exact List.all_eq_true.mp this ri hri
def azC142 : azC := (1, 82, 0, [11, 9, 10, 3, 4, 9, 10, 3, 4, 9, 10, 3, 4, 9, 10, 3, 4, 9, 10, 3, 4, 9, 10, 3, 4, 9, 10, 3, 4, 9, 10, 3, 4, 9, 10, 3, 4, 9, 10, 3, 4, 0, 0, 0, 0, 0, 0, 0, 0, 0, 0, 0, 0, 0, 0, 0, 0, 0, 0, 0, 0, 0, 0, 0, 0, 0, 0, 0, 0, 0, 0, 0, 0, 6, 7, 5, 5, 2, 2, 8, 6, 7])
theorem azL_142 : azL[142]? = some azC142 := by decide +kernel
theorem azC142_int : (List.range 82).all (fun k => match az_ty azC142 k with
  | some τ => Nat.beq τ.1 0
  | none => false) = true := by decide +kernel
def azC141 : azC := (22, 32, 0, [178, 179, 15, 180, 23, 2, 15, 16, 24, 181, 17, 182, 183, 22, 184, 185, 186, 187, 188, 189, 25, 190, 191, 192, 11, 26, 193, 194, 195, 0, 196, 197])
theorem azL_141 : azL[141]? = some azC141 := by decide +kernel
theorem azC141_0 : az_ty azC141 0 = some (2, 146, []) := by decide +kernel
theorem mr_cells {h : List mzC} (hT : az_HT h) : ∃ ca cb, h[141]? = some ca ∧ ca.1 = 22 ∧ (∀ k ∈ ([0] : List Nat), ∀ v, ca.2[k]? = some v → mr_v 145 146 v) ∧ h[142]? = some cb ∧ ∀ v ∈ cb.2, mr_v 145 146 v := by
  obtain ⟨fs, f1, f2, f3⟩ := hT 141 _ azL_141
  obtain ⟨gs, g1, g2, g3⟩ := hT 142 _ azL_142
  refine ⟨_, _, f1, rfl, ?_, g1, ?_⟩
  · intro k hk v hv
    rw [List.mem_singleton] at hk
    subst hk
    obtain ⟨w, w1, w2⟩ := f3 0 _ azC141_0
    have hv : fs[0]? = some v := hv
    rw [hv] at w1
    cases w1
    have w2 : v = .ref 146 := w2
    rw [w2]
    intro r e
    cases e
    exact Or.inr rfl
  · intro v hv
    have hv : v ∈ gs := hv
    obtain ⟨k, hk, e⟩ := List.getElem_of_mem hv
    have hk2 : k < 82 := by
      have : gs.length = 82 := g2
      omega
    have hc := List.all_eq_true.mp azC142_int k (List.mem_range.mpr hk2)
    cases ht : az_ty azC142 k with
    | none => rw [ht] at hc; cases hc
    | some τ =>
      rw [ht] at hc
      have h0 : τ.1 = 0 := Nat.eq_of_beq_eq_true hc
      obtain ⟨w, w1, w2⟩ := g3 k τ ht
      rw [List.getElem?_eq_getElem hk, e] at w1
      cases w1
      unfold az_in at w2
      rw [h0] at w2
      obtain ⟨x, ex, _⟩ := w2
      rw [ex]
      exact mr_int x
/-- such a run, and the same in another heap -/
theorem mr_ok {X : List (List Value)} {h h' : List mzC} (hT : az_HT h) (e1 : h'[141]? = h[141]?) (e2 : h'[142]? = h[142]?) {n d d' j : Nat} {args : List Value} {o : Option (Option Value)} {s' : mzS} {s2 : Nat × Nat} (s2' : Nat × Nat) (hd : d ≤ d') (hj : j ∈ mrS) (ha : mr_st 145 146 args) (hr : mz_run mzP X n d j 0 (lv_args 0 args) [] (h, s2) = some (o, s')) : s' = (h, s2) ∧ mz_run mzP X n d' j 0 (lv_args 0 args) [] (h', s2') = some (o, (h', s2')) := by
  obtain ⟨ca, cb, f1, f2, f3, g1, g2⟩ := mr_cells hT
  obtain ⟨a1, _, a3⟩ := mr_run (a := 145) (b := 146) (s2' := s2') (by decide) (by decide) f1 (e1.trans f1) g1 (e2.trans g1) f2 f3 g2 mr_S n d d' j 0 _ [] o s' hd hj (mr_args 0 ha) (fun v hv => by cases hv) hr
  exact ⟨a1, a3⟩
