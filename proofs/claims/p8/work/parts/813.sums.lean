/-! a rule for the law's sheet: a sum, or a product by a number, that may leave the ints is an atom, told by its parts -/
/-- the parts of an atom that is a sum -/
noncomputable def az_xp (D : szD) (v : szV) : szV := match v.2.2 with
  | [p] => bif decide (v.2.1 = 0) && decide (p.2 = 1) then (match sz_nth D p.1 with
    | some q => bif Nat.beq q.1 12 && decide (q.2.2.2 = (1, [])) then q.2.1 else v
    | none => v) else v
  | _ => v
theorem az_xp_i {D : szD} {ρ : Nat → Int} (hD : sz_D D ρ) (v : szV) : sz_i ρ (az_xp D v) = sz_i ρ v := by
  unfold az_xp
  split
  · rename_i p hp
    cases hc : (decide (v.2.1 = 0) && decide (p.2 = 1)) with
    | false => rw [cond_false]
    | true =>
      rw [cond_true]
      simp only [Bool.and_eq_true, decide_eq_true_eq] at hc
      split
      · rename_i q hq
        cases hd : (Nat.beq q.1 12 && decide (q.2.2.2 = (1, []))) with
        | false => rw [cond_false]
        | true =>
          rw [cond_true]
          rw [Bool.and_eq_true, decide_eq_true_eq] at hd
          obtain ⟨h12, h1⟩ := hd
          have h12 := Nat.eq_of_beq_eq_true h12
          obtain ⟨o, x, y⟩ := q
          dsimp only at h12 h1 ⊢
          subst h12
          rw [sz_nth_eq] at hq
          have e := hD p.1 12 x y hq (by decide)
          have hy : sz_i ρ y = 1 := by
            unfold sz_i
            rw [h1]
            show Int32.ofInt ((1 : Int) + 0) = 1
            decide
          have hv : sz_i ρ v = Int32.ofInt (ρ p.1) := by
            unfold sz_i
            rw [hp, hc.1]
            show Int32.ofInt ((0 : Int) + (p.2 * ρ p.1 + 0)) = _
            rw [hc.2]
            congr 1
            omega
          rw [hv, e, Int32.ofInt_toInt, hy]
          show sz_i ρ x = sz_i ρ x * 1
          rw [Int32.mul_one]
      · rfl
  · rfl
/-- a sum, or a product by a number -/
noncomputable def az_ws (D : szD) (a : Nat) (x y : szV) : Option szV :=
  if a = 0 then some (0, (az_xp D x).2.1 + (az_xp D y).2.1, sz_add (az_xp D x).2.2 (az_xp D y).2.2)
  else if a = 2 ∧ x.2.2 = [] then some (0, x.2.1 * (az_xp D y).2.1, sz_sc x.2.1 (az_xp D y).2.2)
  else if a = 2 ∧ y.2.2 = [] then some (0, y.2.1 * (az_xp D x).2.1, sz_sc y.2.1 (az_xp D x).2.2)
  else none
theorem az_i_sc (ρ : Nat → Int) (g n : Int) (v : szV) : Int32.ofInt n * sz_i ρ v = sz_i ρ (0, n * v.2.1, sz_sc n v.2.2) := by
  unfold sz_i
  dsimp only
  rw [sz_sum_sc, ← Int32.ofInt_mul, Int.mul_add]
theorem az_ws_ok {D : szD} {ρ : Nat → Int} (hD : sz_D D ρ) {a : Nat} {x y s : szV} (h : az_ws D a x y = some s) : mz_bin a (sz_i ρ x) (sz_i ρ y) = some (sz_i ρ s) := by
  have ex := az_xp_i hD x
  have ey := az_xp_i hD y
  unfold az_ws at h
  split at h
  · rename_i ha
    subst ha
    cases h
    show some (sz_i ρ x + sz_i ρ y) = _
    rw [← ex, ← ey]
    unfold sz_i
    dsimp only
    rw [sz_sum_add, ← Int32.ofInt_add]
    congr 2
    omega
  · split at h
    · rename_i ha
      obtain ⟨ha, hx⟩ := ha
      subst ha
      cases h
      have e : sz_i ρ x = Int32.ofInt x.2.1 := by
        unfold sz_i
        rw [hx]
        show Int32.ofInt (x.2.1 + 0) = _
        rw [Int.add_zero]
      show some (sz_i ρ x * sz_i ρ y) = _
      rw [← ey, e, az_i_sc ρ 0]
    · split at h
      · rename_i ha
        obtain ⟨ha, hy⟩ := ha
        subst ha
        cases h
        have e : sz_i ρ y = Int32.ofInt y.2.1 := by
          unfold sz_i
          rw [hy]
          show Int32.ofInt (y.2.1 + 0) = _
          rw [Int.add_zero]
        show some (sz_i ρ x * sz_i ρ y) = _
        rw [← ex, e, Int32.mul_comm, az_i_sc ρ 0]
      · cases h
theorem az_rw0_ok {X : List (List Value)} {Kb : Option (Option Value) → mzS → Prop} {mods : List (Nat × Nat)} {h0 : List mzC} {bs : Nat × Nat} {ee : Nat} {ρ : Nat → Int} {j : Nat} {m : Nat × Nat × Nat × Nat} {code i : Nat} {lo : szLo} {x y z : szV} {rest : List szV} {ws : List szF} {F : azF} {dirty : List Nat} {new : Bool} {uw : Nat × Nat} {d q : Nat} (hq : sz_sl 80 code i = q) (hq0 : q ≠ 0) (ho : Nat.mod q 256 = 6) (hx : x.1 = 0) (hy : y.1 = 0) (hz : z.1 = 0) (hb : mz_bin (sz_fa q) (sz_i ρ x) (sz_i ρ y) = some (sz_i ρ z)) (hg : az_GG X Kb mods h0 bs ee ρ ((j, m, code, i + 1, lo, z :: rest), ws, F, dirty, new, uw, d)) : az_GG X Kb mods h0 bs ee ρ ((j, m, code, i, lo, y :: x :: rest), ws, F, dirty, new, uw, d) := by
  intro wsM w hh s2 hF hW' hH b1 b2
  obtain ⟨j', M, i', m', stM⟩ := w
  obtain ⟨F1, F2, F3, F4, F5, F6, F7⟩ := hF
  dsimp only at F1 F2 F3 F4 F5 F6 F7 hW' hH b1 b2 ⊢
  subst F1; subst F5; subst F7
  obtain ⟨ri, g1, g2, g3, g4, g5⟩ := sz_pk_ok F4 (i := i) (by rw [hq]; exact hq0)
  rw [hq] at g2 g3
  rw [ho] at g2
  refine mz_gg_one (q := (i + 1, m', .int (sz_i ρ z) :: rest.map (sz_v ρ))) F2 g1 (Or.inl (by omega)) ?_ ?_
  · obtain ⟨o1, a1, c1, k1, sw1⟩ := ri
    dsimp only at g2 g3
    subst g2
    rw [List.map_cons, List.map_cons, sz_vi hy, sz_vi hx]
    show mz_o6 a1 i m' (.int (sz_i ρ y) :: .int (sz_i ρ x) :: rest.map (sz_v ρ)) = _
    rw [g3]
    unfold mz_o6
    dsimp only
    rw [hb]
  · have hfin := hg wsM (j, M, i + 1, m', .int (sz_i ρ z) :: rest.map (sz_v ρ)) hh s2 ⟨rfl, F2, F3, F4, rfl, F6, ?_⟩ hW' hH b1 b2
    · exact hfin
    · show Value.int (sz_i ρ z) :: rest.map (sz_v ρ) = sz_v ρ z :: rest.map (sz_v ρ)
      rw [sz_vi hz]
noncomputable def az_rwr (D : szD) (R : szR) (Cs : azS) (C : azQ) (f : szD → szR → azS → azQ → Bool) : Bool := match C with
  | ((j, m, code, i, lo, st), ws, F, dirty, new, uw, d) => (match st with
    | y :: x :: rest => sz_fo (sz_sl 80 code i) (fun q => (!(Nat.beq q 0) && (Nat.beq (Nat.mod q 256) 6 && (Nat.beq x.1 0 && Nat.beq y.1 0))) && (match az_ws D (sz_fa q) x y with
      | some s => az_fv s (fun s => !(az_nw R Cs s) && (match sz_mk D 12 s (0, 1, []) with
        | some z => az_fv z (fun z => sz_fo (i + 1) (fun i => f D R Cs ((j, m, code, i, lo, z :: rest), ws, F, dirty, new, uw, d)))
        | none => (((az_lo R.length x.2.2 && az_lo R.length y.2.2) && (az_lo R.length s.2.2 && az_loC R.length ((j, m, code, i, lo, y :: x :: rest), ws, F, dirty, new, uw, d))) && Nat.blt (R.length + 1) 1000000) && sz_fo R.length (fun n => az_snk D (12, s, (0, 1, [])) (fun D => az_snk R (-2147483648, 2147483647) (fun R => sz_fo (i + 1) (fun i => f D R Cs ((j, m, code, i, lo, (0, 0, [(n, 1)]) :: rest), ws, F, dirty, new, uw, d)))))))
      | none => false))
    | _ => false)
theorem az_op12 (ρ : Nat → Int) (s : szV) : sz_op 12 (sz_i ρ s) (sz_i ρ (0, 1, [])) = sz_i ρ s := by
  have e : sz_i ρ (0, 1, []) = 1 := by
    rw [sz_i_const]
    decide
  rw [e]
  show sz_i ρ s * 1 = sz_i ρ s
  rw [Int32.mul_one]
theorem az_rwr_ok {X : List (List Value)} {Kb : Option (Option Value) → mzS → Prop} {mods : List (Nat × Nat)} {h0 : List mzC} {bs : Nat × Nat} {ee : Nat} {D : szD} {R : szR} {Cs : azS} {ρ : Nat → Int} (hV : az_V D R Cs ρ) (hW : az_wf D R Cs) {C : azQ} {f : szD → szR → azS → azQ → Bool} (h : az_rwr D R Cs C f = true)
    (hf : ∀ D' R' Cs' C' ρ', f D' R' Cs' C' = true → az_V D' R' Cs' ρ' → az_wf D' R' Cs' → az_ag R.length ρ ρ' → R.length ≤ R'.length → az_GG X Kb mods h0 bs ee ρ' C') : az_GG X Kb mods h0 bs ee ρ C := by
  obtain ⟨⟨j, m, code, i, lo, st⟩, ws, F, dirty, new, uw, d⟩ := C
  unfold az_rwr at h
  dsimp only at h
  split at h
  · rename_i y x rest
    rw [sz_fo_eq] at h
    generalize hq : sz_sl 80 code i = q at h
    rw [Bool.and_eq_true] at h
    obtain ⟨h1, h⟩ := h
    simp only [Bool.and_eq_true] at h1
    obtain ⟨hq0, ho, hx, hy⟩ := h1
    have hq0 : q ≠ 0 := fun e => by rw [e] at hq0; cases hq0
    have ho := Nat.eq_of_beq_eq_true ho
    have hx := Nat.eq_of_beq_eq_true hx
    have hy := Nat.eq_of_beq_eq_true hy
    split at h
    · rename_i s hs
      have hb := az_ws_ok hV.1 hs
      rw [az_fv_eq, Bool.and_eq_true] at h
      obtain ⟨_, h⟩ := h
      split at h
      · rename_i z hz
        rw [az_fv_eq, sz_fo_eq] at h
        obtain ⟨z1, z2⟩ := sz_mk_ok hV.1 (by decide) hz
        rw [az_op12] at z2
        exact az_rw0_ok hq hq0 ho hx hy z1 (by rw [z2]; exact hb) (hf D R Cs _ ρ h hV hW (az_ag_refl _ _) (Nat.le_refl _))
      · rw [Bool.and_eq_true, sz_fo_eq, az_snk_eq, az_snk_eq, sz_fo_eq] at h
        obtain ⟨h1, h2⟩ := h
        simp only [Bool.and_eq_true] at h1
        obtain ⟨⟨⟨lx, ly⟩, ls, lC⟩, l3⟩ := h1
        have l3 : R.length + 1 < 1000000 := Nat.le_of_ble_eq_true l3
        obtain ⟨a1, a2, a3⟩ := az_fresh hV hW (d := (12, s, (0, 1, []))) (p := (-2147483648, 2147483647)) (x := (sz_op 12 (sz_i ρ s) (sz_i ρ (0, 1, []))).toInt) l3 (sz_bd _) (sz_bd _) ls rfl (fun _ => rfl) (fun e => absurd (show (12 : Nat) = 0 from e) (by decide))
        have hself : az_up ρ R.length (sz_op 12 (sz_i ρ s) (sz_i ρ (0, 1, []))).toInt R.length = (sz_op 12 (sz_i ρ s) (sz_i ρ (0, 1, []))).toInt := if_pos rfl
        generalize hρ : az_up ρ R.length (sz_op 12 (sz_i ρ s) (sz_i ρ (0, 1, []))).toInt = ρ' at a1 a3 hself
        refine az_GG_ag a3 lC (az_rw0_ok (z := (0, 0, [(R.length, 1)])) hq hq0 ho hx hy rfl ?_ (hf _ _ _ _ ρ' h2 a1 a2 a3 ?_))
        · rw [az_i_ag a3 lx, az_i_ag a3 ly, hb]
          congr 1
          have e : sz_i ρ' (0, 0, [(R.length, 1)]) = Int32.ofInt (ρ' R.length) := by
            unfold sz_i
            show Int32.ofInt ((0 : Int) + (1 * ρ' R.length + 0)) = _
            congr 1
            omega
          rw [e, hself, az_op12, Int32.ofInt_toInt]
        · rw [List.length_append]
          exact Nat.le_add_right _ _
    · cases h
  · cases h
