/-! longs that nothing is known of -/
def az_L (v : szV) : Bool := Nat.beq v.1 2 || Nat.beq v.1 5
theorem az_L_ok {ρ : Nat → Int} {v : szV} (h : az_L v = true) : ∃ z : Int64, sz_v ρ v = .long z := by
  unfold az_L at h
  rw [Bool.or_eq_true] at h
  rcases h with h | h
  · exact ⟨_, sz_vl (Nat.eq_of_beq_eq_true h)⟩
  · exact ⟨_, sz_v5 (Nat.eq_of_beq_eq_true h)⟩
/-- what such an instruction takes: 0 where it gives a long, 1 where it gives -1, 0 or 1; the rest of the stack -/
noncomputable def az_lx (R : szR) (Cs : azS) (new : Bool) (op a : Nat) (st : List szV) : Option (Nat × List szV) := match st with
  | y :: x :: rest => bif Nat.beq op 9 then (bif az_L y && az_L x then some (0, rest) else none)
    else bif Nat.beq op 10 then (bif Nat.beq y.1 0 && az_L x then some (0, rest) else none)
    else bif Nat.beq op 11 then (bif az_L y && az_L x then some (1, rest) else none)
    else bif Nat.beq op 22 && Nat.beq a 1 then (bif Nat.beq y.1 0 then az_at new x (fun _ C => bif Nat.beq C.1 3 then az_ix R Cs y (fun ix => match az_mty R Cs C ix with
        | some τ => bif Nat.beq τ.1 1 then some (0, rest) else none
        | none => none) else none) else none)
    else none
  | _ => none
theorem az_lx_ok {X : List (List Value)} {R : szR} {Cs : azS} {ρ : Nat → Int} (hR : sz_R R ρ) (hC : az_S Cs ρ) {mods : List (Nat × Nat)} {h0 h : List mzC} {F : azF} {dirty : List Nat} {new : Bool} {u : Nat} (H : az_HR mods h0 ρ F dirty new u h) {s2 : Nat × Nat} {op a b i nL k : Nat} {c : Int} {sw : List (Int × Nat)} {m : mzL} {st rest : List szV} (e : az_lx R Cs new op a st = some (k, rest)) :
    ∃ v, ((k = 0 ∧ ∃ z : Int64, v = .long z) ∨ (k = 1 ∧ ∃ z : Int32, v = .int z ∧ -1 ≤ z.toInt ∧ z.toInt ≤ 1)) ∧ ((op < 20 ∧ mz_one (op, a, b, c, sw) i nL m (st.map (sz_v ρ)) = some (i + 1, m, v :: rest.map (sz_v ρ))) ∨ (20 ≤ op ∧ mz_heap X (op, a, b, c, sw) (st.map (sz_v ρ)) (h, s2) = some (v :: rest.map (sz_v ρ), (h, s2)))) := by
  unfold az_lx at e
  split at e
  · rename_i y x rest'
    cases h_ : Nat.beq op 9 with
    | true =>
      rw [h_] at e; have h_ := Nat.eq_of_beq_eq_true h_; subst h_
      dsimp only [cond] at e
      cases hb : (az_L y && az_L x) with
      | false => rw [hb] at e; cases e
      | true =>
        rw [hb] at e
        cases e
        rw [Bool.and_eq_true] at hb
        obtain ⟨zy, hy⟩ := az_L_ok (ρ := ρ) hb.1
        obtain ⟨zx, hx⟩ := az_L_ok (ρ := ρ) hb.2
        have hs : mz_one (9, a, b, c, sw) i nL m ((y :: x :: rest).map (sz_v ρ)) = mz_o9 a i m (.long zy :: .long zx :: rest.map (sz_v ρ)) := by
          show mz_o9 a i m (sz_v ρ y :: sz_v ρ x :: rest.map (sz_v ρ)) = _
          rw [hy, hx]
        by_cases ha : a = 0
        · refine ⟨.long (zx &&& zy), Or.inl ⟨rfl, _, rfl⟩, Or.inl ⟨by omega, ?_⟩⟩
          rw [hs]
          unfold mz_o9
          dsimp only
          rw [if_pos ha]
        · refine ⟨.long (zx ||| zy), Or.inl ⟨rfl, _, rfl⟩, Or.inl ⟨by omega, ?_⟩⟩
          rw [hs]
          unfold mz_o9
          dsimp only
          rw [if_neg ha]
    | false =>
    rw [h_] at e; clear h_
    cases h_ : Nat.beq op 10 with
    | true =>
      rw [h_] at e; have h_ := Nat.eq_of_beq_eq_true h_; subst h_
      dsimp only [cond] at e
      cases hb : (Nat.beq y.1 0 && az_L x) with
      | false => rw [hb] at e; cases e
      | true =>
        rw [hb] at e
        cases e
        rw [Bool.and_eq_true] at hb
        have hy := sz_vi (ρ := ρ) (Nat.eq_of_beq_eq_true hb.1)
        obtain ⟨zx, hx⟩ := az_L_ok (ρ := ρ) hb.2
        refine ⟨.long (zx <<< ((sz_i ρ y).toInt64 &&& 63)), Or.inl ⟨rfl, _, rfl⟩, Or.inl ⟨by omega, ?_⟩⟩
        show mz_o10 i m (sz_v ρ y :: sz_v ρ x :: rest.map (sz_v ρ)) = _
        rw [hy, hx]
        rfl
    | false =>
    rw [h_] at e; clear h_
    cases h_ : Nat.beq op 11 with
    | true =>
      rw [h_] at e; have h_ := Nat.eq_of_beq_eq_true h_; subst h_
      dsimp only [cond] at e
      cases hb : (az_L y && az_L x) with
      | false => rw [hb] at e; cases e
      | true =>
        rw [hb] at e
        cases e
        rw [Bool.and_eq_true] at hb
        obtain ⟨zy, hy⟩ := az_L_ok (ρ := ρ) hb.1
        obtain ⟨zx, hx⟩ := az_L_ok (ρ := ρ) hb.2
        refine ⟨.int (lg_cmp zx zy), Or.inr ⟨rfl, _, rfl, ?_⟩, Or.inl ⟨by omega, ?_⟩⟩
        · unfold lg_cmp
          split
          · decide
          · split <;> decide
        · show mz_o11 i m (sz_v ρ y :: sz_v ρ x :: rest.map (sz_v ρ)) = _
          rw [hy, hx]
          rfl
    | false =>
    rw [h_] at e; clear h_
    cases h_ : (Nat.beq op 22 && Nat.beq a 1) with
    | true =>
      rw [h_] at e
      rw [Bool.and_eq_true] at h_
      have ho := Nat.eq_of_beq_eq_true h_.1
      have ha := Nat.eq_of_beq_eq_true h_.2
      subst ho
      subst ha
      dsimp only [cond] at e
      cases hy : Nat.beq y.1 0 with
      | false => rw [hy] at e; cases e
      | true =>
        rw [hy] at e
        dsimp only at e
        have hy := sz_vi (ρ := ρ) (Nat.eq_of_beq_eq_true hy)
        obtain ⟨cc, C, e1, e2, e3, e4⟩ := az_at_ok e
        cases hb : Nat.beq C.1 3 with
        | false => rw [hb] at e4; cases e4
        | true =>
          rw [hb] at e4
          dsimp only at e4
          have hb := Nat.eq_of_beq_eq_true hb
          obtain ⟨ix, i1, i2⟩ := az_ix_ok hR hC y
          rw [i1] at e4
          split at e4
          · rename_i τ hτ
            cases ht : Nat.beq τ.1 1 with
            | false => rw [ht] at e4; cases e4
            | true =>
              rw [ht] at e4
              cases e4
              have ht := Nat.eq_of_beq_eq_true ht
              obtain ⟨n, fs, n1, n2, n3, n4, n5, n6, n7⟩ := az_cr_ok H e1 e2 e3 s2
              obtain ⟨m1, m2⟩ := az_mty_ok hR hC hτ
              obtain ⟨v, v1, v2⟩ := n7 _ _ m2
              rw [i2] at m1 v1
              unfold az_in at v2
              rw [ht] at v2
              obtain ⟨z, hz⟩ := v2
              refine ⟨v, Or.inl ⟨rfl, z, hz⟩, Or.inr ⟨by omega, ?_⟩⟩
              show mz_h22 X 1 (sz_v ρ y :: sz_v ρ x :: rest.map (sz_v ρ)) (h, s2) = _
              rw [hy, n1]
              unfold mz_h22
              dsimp only
              rw [if_neg n2, n4]
              dsimp only
              rw [if_pos (by rw [hb]; rfl)]
              have hin : mz_in (sz_i ρ y) fs = some v := by
                unfold mz_in
                rw [if_neg (fun hh => by
                  have := Int32.lt_iff_toInt_lt.mp hh
                  have z : (0 : Int32).toInt = 0 := rfl
                  omega)]
                exact v1
              rw [hin]
          · cases e4
    | false => rw [h_] at e; cases e
  · cases e
/-- one atom that is free -/
theorem az_free {D : szD} {R : szR} {Cs : azS} {ρ : Nat → Int} (hV : az_V D R Cs ρ) (hW : az_wf D R Cs) (hn : R.length + 1 < 1000000) {x : Int} {p : Int × Int} (hb : -2147483648 ≤ x ∧ x ≤ 2147483647) (hp : p.1 ≤ x ∧ x ≤ p.2) : az_V (D ++ [(0, (0, 0, []), (0, 0, []))]) (R ++ [p]) Cs (az_up ρ R.length x) ∧ az_wf (D ++ [(0, (0, 0, []), (0, 0, []))]) (R ++ [p]) Cs ∧ az_ag R.length ρ (az_up ρ R.length x) := az_fresh hV hW hn hb hp rfl rfl (fun h => absurd rfl h) (fun _ h => absurd rfl h)
noncomputable def az_rlng (D : szD) (R : szR) (Cs : azS) (C : azQ) (f : szD → szR → azS → azQ → Bool) : Bool := match C with
  | ((j, m, code, i, lo, st), ws, F, dirty, new, uw, d) => (az_loC R.length C && Nat.blt (R.length + 3) 1000000) && sz_fo (sz_sl 80 code i) (fun q => !(Nat.beq q 0) && (match az_lx R Cs new (Nat.mod q 256) (sz_fa q) st with
    | some (k, rest) => sz_fo R.length (fun n => sz_fo (n + 1) (fun n1 => sz_fo (n + 2) (fun n2 => sz_fo (i + 1) (fun i => bif Nat.beq k 0 then
        az_snk D (0, (0, 0, []), (0, 0, [])) (fun D => az_snk D (0, (0, 0, []), (0, 0, [])) (fun D => az_snk D (0, (0, 0, []), (0, 0, [])) (fun D => az_snk R (-2147483648, 2147483647) (fun R => az_snk R (-2147483648, 2147483647) (fun R => az_snk R (-2147483648, 2147483647) (fun R => f D R Cs ((j, m, code, i, lo, (5, 0, [(n, 4294967296), (n1, 65536), (n2, 1)]) :: rest), ws, F, dirty, new, uw, d)))))))
      else az_snk D (0, (0, 0, []), (0, 0, [])) (fun D => az_snk R (-1, 1) (fun R => f D R Cs ((j, m, code, i, lo, (0, 0, [(n, 1)]) :: rest), ws, F, dirty, new, uw, d)))))))
    | none => false))
theorem az_lx_lo {R : szR} {Cs : azS} {new : Bool} {op a k n : Nat} {st rest : List szV} (e : az_lx R Cs new op a st = some (k, rest)) (h : st.all (fun v => az_lo n v.2.2) = true) : rest.all (fun v => az_lo n v.2.2) = true := by
  unfold az_lx at e
  split at e
  · rename_i y x rest'
    simp only [List.all_cons, Bool.and_eq_true] at h
    have key : rest' = rest := by
      cases h_ : Nat.beq op 9 with
      | true =>
        rw [h_] at e
        dsimp only [cond] at e
        cases hb : (az_L y && az_L x) with
        | false => rw [hb] at e; cases e
        | true => rw [hb] at e; cases e; rfl
      | false =>
      rw [h_] at e; clear h_
      cases h_ : Nat.beq op 10 with
      | true =>
        rw [h_] at e
        dsimp only [cond] at e
        cases hb : (Nat.beq y.1 0 && az_L x) with
        | false => rw [hb] at e; cases e
        | true => rw [hb] at e; cases e; rfl
      | false =>
      rw [h_] at e; clear h_
      cases h_ : Nat.beq op 11 with
      | true =>
        rw [h_] at e
        dsimp only [cond] at e
        cases hb : (az_L y && az_L x) with
        | false => rw [hb] at e; cases e
        | true => rw [hb] at e; cases e; rfl
      | false =>
      rw [h_] at e; clear h_
      cases h_ : (Nat.beq op 22 && Nat.beq a 1) with
      | true =>
        rw [h_] at e
        dsimp only [cond] at e
        cases hy : Nat.beq y.1 0 with
        | false => rw [hy] at e; cases e
        | true =>
          rw [hy] at e
          dsimp only at e
          obtain ⟨cc, C, _, _, _, e4⟩ := az_at_ok e
          cases hb : Nat.beq C.1 3 with
          | false => rw [hb] at e4; cases e4
          | true =>
            rw [hb] at e4
            dsimp only at e4
            unfold az_ix at e4
            split at e4
            · rw [sz_fi_eq] at e4
              dsimp only at e4
              split at e4
              · rename_i τ hτ
                cases ht : Nat.beq τ.1 1 with
                | false => rw [ht] at e4; cases e4
                | true => rw [ht] at e4; cases e4; rfl
              · cases e4
            · dsimp only at e4
              split at e4
              · rename_i τ hτ
                cases ht : Nat.beq τ.1 1 with
                | false => rw [ht] at e4; cases e4
                | true => rw [ht] at e4; cases e4; rfl
              · cases e4
      | false => rw [h_] at e; cases e
    rw [← key]
    exact h.2.2
  · cases e
theorem az_rlng_ok {X : List (List Value)} {Kb : Option (Option Value) → mzS → Prop} {mods : List (Nat × Nat)} {h0 : List mzC} {bs : Nat × Nat} {ee : Nat} {D : szD} {R : szR} {Cs : azS} {ρ : Nat → Int} (hV : az_V D R Cs ρ) (hW : az_wf D R Cs) {C : azQ} {f : szD → szR → azS → azQ → Bool} (h : az_rlng D R Cs C f = true)
    (hf : ∀ D' R' Cs' C' ρ', f D' R' Cs' C' = true → az_V D' R' Cs' ρ' → az_wf D' R' Cs' → az_ag R.length ρ ρ' → R.length ≤ R'.length → az_GG X Kb mods h0 bs ee ρ' C') : az_GG X Kb mods h0 bs ee ρ C := by
  obtain ⟨⟨j, m, code, i, lo, st⟩, ws, F, dirty, new, uw, d⟩ := C
  intro wsM w hh s2 hF hW' hH b1 b2
  have hF0 := hF
  obtain ⟨j', M, i', m', stM⟩ := w
  obtain ⟨F1, F2, F3, F4, F5, F6, F7⟩ := hF
  dsimp only at F1 F2 F3 F4 F5 F6 F7 hW' hH b1 b2 ⊢
  subst F1; subst F5; subst F7
  unfold az_rlng at h
  dsimp only at h
  rw [sz_fo_eq] at h
  generalize hq : sz_sl 80 code i = q at h
  simp only [Bool.and_eq_true] at h
  obtain ⟨⟨lo3, c4⟩, hq0, h⟩ := h
  have c4 : R.length + 3 < 1000000 := Nat.le_of_ble_eq_true c4
  have hq0 : q ≠ 0 := fun e => by rw [e] at hq0; cases hq0
  obtain ⟨ri, g1, g2, g3, g4, g5⟩ := sz_pk_ok F4 (i := i) (by rw [hq]; exact hq0)
  rw [hq] at g2 g3 g4 g5
  have hri : ri = (Nat.mod q 256, sz_fa q, sz_fb q, sz_fc q, ri.2.2.2.2) := by rw [← g2, ← g3, ← g4, ← g5]
  unfold az_loC az_loFr at lo3
  simp only [Bool.and_eq_true] at lo3
  obtain ⟨⟨lo1, lo2⟩, lo4, lo5⟩ := lo3
  split at h
  · rename_i k rest he
    rw [sz_fo_eq, sz_fo_eq, sz_fo_eq, sz_fo_eq] at h
    obtain ⟨v, v1, v2⟩ := az_lx_ok (X := X) (b := sz_fb q) (i := i) (nL := M.1) (c := sz_fc q) (sw := ri.2.2.2.2) (m := m') (s2 := s2) hV.2.1 hV.2.2.1 hH he
    have hrest := az_lx_lo (n := R.length) he lo2
    have hgo : mz_gg X (az_KK X Kb wsM (d + ee)) (d + ee) j (i + 1) m' (v :: rest.map (sz_v ρ)) (hh, s2) → mz_gg X (az_KK X Kb wsM (d + ee)) (d + ee) j i m' (st.map (sz_v ρ)) (hh, s2) := by
      intro hg
      rcases v2 with ⟨o1, o2⟩ | ⟨o1, o2⟩
      · rw [← hri] at o2
        exact mz_gg_one F2 g1 (Or.inl (by rw [g2]; exact o1)) o2 hg
      · rw [← hri] at o2
        exact mz_gg_heap F2 g1 o2 hg
    refine hgo ?_
    have fin : ∀ (ρ' : Nat → Int) (w : szV) (D' : szD) (R' : szR), az_ag R.length ρ ρ' → sz_v ρ' w = v → az_V D' R' Cs ρ' → az_wf D' R' Cs → R.length ≤ R'.length → f D' R' Cs ((j, m, code, i + 1, lo, w :: rest), ws, F, dirty, new, uw, d) = true → mz_gg X (az_KK X Kb wsM (d + ee)) (d + ee) j (i + 1) m' (v :: rest.map (sz_v ρ)) (hh, s2) := by
      intro ρ' w D' R' hag hw hV' hW'' hR' hfe
      have := hf D' R' Cs _ ρ' hfe hV' hW'' hag hR' wsM (j, M, i + 1, m', v :: rest.map (sz_v ρ)) hh s2 ⟨rfl, F2, F3, F4, rfl, ?_, ?_⟩ (az_WR_ag hag lo4 hW') (az_HR_ag hag lo5 hH) b1 b2
      · exact this
      · intro k' v' hv' h9
        rw [F6 k' v' hv' h9, az_v_ag hag (List.all_eq_true.mp lo1 v' (List.mem_of_getElem? hv'))]
      · show v :: rest.map (sz_v ρ) = sz_v ρ' w :: rest.map (sz_v ρ')
        rw [hw]
        congr 1
        exact List.map_congr_left (fun v' hv' => (az_v_ag hag (List.all_eq_true.mp hrest v' hv')).symm)
    rcases v1 with ⟨k0, z, hz⟩ | ⟨k0, z, hz, hz1, hz2⟩
    · subst k0
      dsimp only [Nat.beq, cond] at h
      rw [az_snk_eq, az_snk_eq, az_snk_eq, az_snk_eq, az_snk_eq, az_snk_eq] at h
      have zb1 := z.le_toInt
      have zb2 := z.toInt_lt
      have e0 : z.toInt = 4294967296 * (z.toInt / 4294967296) + (65536 * (z.toInt % 4294967296 / 65536) + z.toInt % 4294967296 % 65536) := by omega
      obtain ⟨a1, a2, a3⟩ := az_free hV hW (by omega) (x := z.toInt / 4294967296) (p := (-2147483648, 2147483647)) ⟨by omega, by omega⟩ ⟨by dsimp only; omega, by dsimp only; omega⟩
      have l1 : (R ++ [((-2147483648 : Int), (2147483647 : Int))]).length = R.length + 1 := by rw [List.length_append]; rfl
      obtain ⟨b1', b2', b3'⟩ := az_free a1 a2 (by omega) (x := z.toInt % 4294967296 / 65536) (p := (-2147483648, 2147483647)) ⟨by omega, by omega⟩ ⟨by dsimp only; omega, by dsimp only; omega⟩
      have l2 : (R ++ [((-2147483648 : Int), (2147483647 : Int))] ++ [((-2147483648 : Int), (2147483647 : Int))]).length = R.length + 2 := by rw [List.length_append, l1]; rfl
      obtain ⟨c1', c2', c3'⟩ := az_free b1' b2' (by omega) (x := z.toInt % 4294967296 % 65536) (p := (-2147483648, 2147483647)) ⟨by omega, by omega⟩ ⟨by dsimp only; omega, by dsimp only; omega⟩
      rw [l1] at b3' c1' c3'
      rw [l2] at c1' c3'
      refine fin _ _ _ _ (az_ag_trans (by omega) (az_ag_trans (by omega) a3 b3') c3') ?_ c1' c2' (by simp only [List.length_append]; omega) h
      rw [sz_v5 rfl, hz]
      congr 1
      simp only [sz_sum, az_up]
      rw [if_neg (by omega), if_neg (by omega), if_pos trivial, if_neg (by omega), if_pos trivial, if_pos trivial]
      rw [show (0 : Int) + (4294967296 * (z.toInt / 4294967296) + (65536 * (z.toInt % 4294967296 / 65536) + (1 * (z.toInt % 4294967296 % 65536) + 0))) = z.toInt by omega]
      exact Int64.ofInt_toInt z
    · subst k0
      dsimp only [Nat.beq, cond] at h
      rw [az_snk_eq, az_snk_eq] at h
      obtain ⟨a1, a2, a3⟩ := az_free hV hW (by omega) (x := z.toInt) (p := (-1, 1)) (sz_bd z) ⟨hz1, hz2⟩
      refine fin _ _ _ _ a3 ?_ a1 a2 (by rw [List.length_append]; omega) h
      rw [sz_vi rfl, hz]
      congr 1
      unfold sz_i
      simp only [sz_sum, az_up, if_pos, Int.zero_add, Int.one_mul, Int.add_zero, Int32.ofInt_toInt]
  · cases h
