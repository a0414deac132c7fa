/-! putOne: from the begin -/
set_option maxRecDepth 20000 in
theorem po_room {X : List (List Value)} (hX : az_X X) (hB : az_Valid X bhB) (hR : az_Valid X hrB) {h0 h : List mzC} {s0 s2 : Nat × Nat} (hT : az_Tp h) (hM0 : az_HM [] h0 h) (hl : h.length = h0.length) (hs1 : s2.1 ≤ s0.1) (hs2 : s2.2 ≤ s0.2) (hlen : h0.length + 6000 < 2147483648) {k : Nat} (hk : k < 10) {g : Int} (hg : 1 ≤ g ∧ g ≤ 200) {i : Nat} (hi : i < 10) (hpb : ∀ o, o < 10 → bt (hv h0 141 20) o → hv h0 153 o ≤ poB i) {d : Nat} (hd : 4 ≤ d) {lo : mzL} {t : Int} (ht : 0 ≤ t ∧ t ≤ poB i + 40) (hlo : az_ml lo [.ref 145, iv k, iv g, iv t, iv (hv h 142 0)]) : mz_gg X (poK h0 s0 k i) d 142 7 lo [] (h, s2) := by
  obtain ⟨en, en1, en2⟩ := hv_slot hT.1 azL_142 many_ty
  have hmi := List.mem_range.mpr hi
  unfold poB at ht
  refine az_goH (c := poC2 i) (hds := [poH2 i]) (ends := [poE2 i]) (i0 := 7) (ρ := rho [k, g, t, hv h 142 0] ((h.length : Int) + 4)) sz_pkall_szP hX (tb := [hrB]) (List.forall_mem_cons.mpr ⟨hR, fun _ h => by cases h⟩) poQ_ok (az_wfc_ok rfl) (List.forall_mem_cons.mpr ⟨List.all_eq_true.mp poH2_ok i hmi, fun _ h => by cases h⟩) (List.all_eq_true.mp poR2a i hmi) (List.forall_mem_cons.mpr ⟨List.all_eq_true.mp poR2b i hmi, fun _ h => by cases h⟩) rfl rfl rfl (by show h.length + 1000 * (4 + 2) < 2147483648; omega) rfl hd ?_ hT ?_ ?_ ?_ ?_
  · refine rho_V (rho_free rfl _) (show rin [(0, 9), (1, 200), (0, 1060 + 2100 * (i : Int) + 40), (0, 10)] [(k : Int), g, t, hv h 142 0] from by simp only [rin, and_true]; omega) ?_ (by omega) (by show 4 ≤ 1000000; decide) trivial
    show List.all [((0 : Int), (9 : Int)), (1, 200), (0, 1060 + 2100 * (i : Int) + 40), (0, 10)] _ = true
    simp only [List.all_cons, List.all_nil, Bool.and_eq_true, decide_eq_true_eq, Bool.and_true]
    omega
  · exact HF_cons 0 (hv h 142 0) (by decide) (show (0 : Int) + 0 = ((0 : Nat) : Int) by omega) (by omega) (sz_v_eq (show (0 : Int) + (1 * hv h 142 0 + 0) = _ by omega)) en (HF_nil _ _)
  · exact (ml5r hlo (show (0 : Int) + (1 * (k : Int) + 0) = k by omega) (show (0 : Int) + (1 * g + 0) = g by omega) (show (0 : Int) + (1 * t + 0) = t by omega) (show (0 : Int) + (1 * hv h 142 0 + 0) = hv h 142 0 by omega))
  · intro p hp ρ' h' s3 w1 ag hT' hM' hF' hl' b1 b2
    have hp := List.mem_singleton.mp hp
    subst hp
    refine ⟨hT', fun c j hc hm => by rw [hM' c j hc rfl, hM0 c j hc rfl], by show h'.length = _; omega, by show s3.1 ≤ _; omega, by show s3.2 ≤ _; omega, Or.inl ?_⟩
    show some (some (sz_v ρ' (0, 0, []))) = _
    rw [sz_v_eq (show (0 : Int) + 0 = 0 by omega)]
  · intro E hE ρ' h' s3 lo' w1 ag hT' hM' hF' hl' b1 b2 hml
    have ee := List.mem_singleton.mp hE
    subst ee
    have a0 : ρ' 0 = k := ag 0 (by show 0 < 4; decide)
    have a1 : ρ' 1 = g := ag 1 (by show 1 < 4; decide)
    have r4 : (0 : Int) ≤ ρ' 4 ∧ ρ' 4 ≤ poB i + 50 := w1.2.1 4
    have r5 : (0 : Int) ≤ ρ' 5 ∧ ρ' 5 ≤ 106 + 210 * (i : Int) + 5 := w1.2.1 5
    have r6 : (0 : Int) ≤ ρ' 6 ∧ ρ' 6 ≤ 199 := w1.2.1 6
    exact po_put hX hB hT' (fun c j hc hm => by rw [hM' c j hc rfl, hM0 c j hc rfl]) (by omega) (by omega) (by omega) hlen hk hg hi hpb hd r4 r5 r6 ((ml6b hml (show (0 : Int) + (1 * ρ' 0 + 0) = (k : Int) by omega) (show (0 : Int) + (1 * ρ' 1 + 0) = g by omega) (show (0 : Int) + (1 * ρ' 4 + 0) = ρ' 4 by omega) (show (0 : Int) + (1 * ρ' 5 + 0) = ρ' 5 by omega) (show (0 : Int) + (1 * ρ' 6 + 0) = ρ' 6 by omega)))
set_option maxRecDepth 20000 in
theorem po_loop {X : List (List Value)} (hX : az_X X) (hB : az_Valid X bhB) (hR : az_Valid X hrB) {h0 : List mzC} {s0 : Nat × Nat} (hlen : h0.length + 6000 < 2147483648) {k : Nat} (hk : k < 10) {g : Int} (hg : 1 ≤ g ∧ g ≤ 200) {i : Nat} (hi : i < 10) (hpb : ∀ o, o < 10 → bt (hv h0 141 20) o → hv h0 153 o ≤ poB i) {d : Nat} (hd : 4 ≤ d) : ∀ (r o : Nat) (h : List mzC) (s2 : Nat × Nat) (lo : mzL) (t : Int), az_Tp h → az_HM [] h0 h → h.length = h0.length → s2.1 ≤ s0.1 → s2.2 ≤ s0.2 → (o : Int) + r = hv h 142 0 → (0 ≤ t ∧ t ≤ poB i + 40) → az_ml lo [.ref 145, iv k, iv g, iv t, iv o] → mz_gg X (poK h0 s0 k i) d 142 7 lo [] (h, s2) := by
  intro r
  induction r with
  | zero =>
    intro o h s2 lo t hT hM0 hl hs1 hs2 ho ht hlo
    have e : hv h 142 0 = (o : Int) := by omega
    refine po_room hX hB hR hT hM0 hl hs1 hs2 hlen hk hg hi hpb hd ht ?_
    rw [e]
    exact hlo
  | succ r ih =>
    intro o h s2 lo t hT hM0 hl hs1 hs2 ho ht hlo
    obtain ⟨en, en1, en2⟩ := hv_slot hT.1 azL_142 many_ty
    obtain ⟨es, es1, es2⟩ := hv_slot hT.1 azL_141 put_ty
    have ho10 : o < 10 := by omega
    obtain ⟨ep, ep1, ep2⟩ := hv_put hT.1 ho10
    have ea : 0 ≤ hv h 141 20 / 2 ^ o ∧ hv h 141 20 / 2 ^ o ≤ 1023 := by
      have hp : (0 : Int) < 2 ^ o := Int.pow_pos (by decide)
      refine ⟨Int.ediv_nonneg es1 (by omega), ?_⟩
      exact Int.le_trans (Int.ediv_le_self _ es1) es2
    have e0 : ∀ c j, c < 163 → hv h c j = hv h0 c j := fun c j hc => HM_hv hM0 hc rfl
    have hbnd : bt (hv h 141 20) o → hv h 153 o ≤ poB i := fun hb => by
      rw [e0 141 20 (by decide)] at hb
      rw [e0 153 o (by decide)]
      exact hpb o ho10 hb
    have fin : ∀ b : Bool, hv h 141 20 / 2 ^ o % 2 = (bif b then 1 else 0) → (b = true → hv h 153 o ≤ poB i) → mz_gg X (poK h0 s0 k i) d 142 7 lo [] (h, s2) := by
      intro b hb1 hb2
      have hrun := List.all_eq_true.mp (List.all_eq_true.mp (List.all_eq_true.mp poR1s i (List.mem_range.mpr hi)) o (List.mem_range.mpr ho10)) b (by cases b <;> decide)
      have hrs : rin (poR1 i o b) [(k : Int), g, t, hv h 142 0, hv h 141 20, hv h 141 20 / 2 ^ o, hv h 141 20 / 2 ^ o % 2, hv h 153 o] := by
        unfold poR1
        generalize hv h 141 20 / 2 ^ o = A at *
        cases b
        · simp only [rin, and_true, cond_true, cond_false] at *
          omega
        · have := hb2 rfl
          simp only [rin, and_true, cond_true, cond_false] at *
          omega
      refine az_go (c := poC1 i o b) (ends := [poE1 i o b]) (i0 := 7) (ρ := rho [(k : Int), g, t, hv h 142 0, hv h 141 20, hv h 141 20 / 2 ^ o, hv h 141 20 / 2 ^ o % 2, hv h 153 o] ((h.length : Int) + 4)) sz_pkall_szP hX (tb := [bhB]) (List.forall_mem_cons.mpr ⟨hB, fun _ h => by cases h⟩) poQ_ok (az_wfc_ok rfl) hrun rfl rfl rfl (by show h.length + 1000 * (4 + 2) < 2147483648; omega) rfl hd ?_ hT ?_ ?_ (fun k hk => by cases hk) (fun p hp => by cases hp) ?_
      · refine rho_V ⟨?_, ?_⟩ hrs ?_ (by omega) (by show 8 ≤ 1000000; decide) trivial
        · intro j op x y hj hop
          match j, hj with
          | 5, hj =>
            cases hj
            show hv h 141 20 / 2 ^ o = (sz_op 17 (Int32.ofInt ((0 : Int) + (1 * hv h 141 20 + 0))) (Int32.ofInt ((o : Int) + 0))).toInt
            rw [show (0 : Int) + (1 * hv h 141 20 + 0) = hv h 141 20 by omega, Int.add_zero, op17 es1 es2 ho10]
          | 6, hj =>
            cases hj
            show hv h 141 20 / 2 ^ o % 2 = (sz_op 13 (Int32.ofInt ((0 : Int) + (1 * (hv h 141 20 / 2 ^ o) + 0))) (Int32.ofInt ((1 : Int) + 0))).toInt
            rw [show (0 : Int) + (1 * (hv h 141 20 / 2 ^ o) + 0) = hv h 141 20 / 2 ^ o by omega, Int.add_zero, op13 ea.1 ea.2]
          | 0, hj => cases hj; exact absurd rfl hop
          | 1, hj => cases hj; exact absurd rfl hop
          | 2, hj => cases hj; exact absurd rfl hop
          | 3, hj => cases hj; exact absurd rfl hop
          | 4, hj => cases hj; exact absurd rfl hop
          | 7, hj => cases hj; exact absurd rfl hop
          | j + 8, hj => simp [poC1] at hj
        · intro j x y hj hx
          match j, hj with
          | 5, hj => cases hj
          | 6, hj => cases hj
          | 0, hj => cases hj; exact absurd rfl hx
          | 1, hj => cases hj; exact absurd rfl hx
          | 2, hj => cases hj; exact absurd rfl hx
          | 3, hj => cases hj; exact absurd rfl hx
          | 4, hj => cases hj; exact absurd rfl hx
          | 7, hj => cases hj; exact absurd rfl hx
          | j + 8, hj => simp [poC1] at hj
        · show (poR1 i o b).all _ = true
          unfold poR1 poB
          cases b
          · simp only [List.all_cons, List.all_nil, Bool.and_eq_true, decide_eq_true_eq, Bool.and_true, cond_true, cond_false]
            omega
          · simp only [List.all_cons, List.all_nil, Bool.and_eq_true, decide_eq_true_eq, Bool.and_true, cond_true, cond_false]
            omega
      · exact HF_cons 0 (hv h 142 0) (by decide) (show (0 : Int) + 0 = ((0 : Nat) : Int) by omega) (by omega) (sz_v_eq (show (0 : Int) + (1 * hv h 142 0 + 0) = _ by omega)) en (HF_cons 20 (hv h 141 20) (by decide) (show (20 : Int) + 0 = ((20 : Nat) : Int) by omega) (by omega) (sz_v_eq (show (0 : Int) + (1 * hv h 141 20 + 0) = _ by omega)) es (HF_cons o (hv h 153 o) (by decide) (show (o : Int) + 0 = (o : Int) by omega) (by omega) (sz_v_eq (show (0 : Int) + (1 * hv h 153 o + 0) = _ by omega)) ep (HF_nil _ _)))
      · exact (ml5r hlo (show (0 : Int) + (1 * (k : Int) + 0) = k by omega) (show (0 : Int) + (1 * g + 0) = g by omega) (show (0 : Int) + (1 * t + 0) = t by omega) (show (o : Int) + 0 = o by omega))
      · intro E hE ρ' h' s3 lo' w1 ag hT' hM' hF' hl' b1 b2 hml
        have ee := List.mem_singleton.mp hE
        subst ee
        have a0 : ρ' 0 = k := ag 0 (by show 0 < 8; decide)
        have a1 : ρ' 1 = g := ag 1 (by show 1 < 8; decide)
        have r8 : (0 : Int) ≤ ρ' 8 ∧ ρ' 8 ≤ poB i + 40 := w1.2.1 8
        have e1 : hv h' 142 0 = hv h 142 0 := HM_hv hM' (by decide) rfl
        exact ih (o + 1) h' s3 lo' (ρ' 8) hT' (fun c j hc hm => by rw [hM' c j hc rfl, hM0 c j hc rfl]) (by omega) (by omega) (by omega) (by rw [e1]; omega) r8 ((ml5 hml (show (0 : Int) + (1 * ρ' 0 + 0) = (k : Int) by omega) (show (0 : Int) + (1 * ρ' 1 + 0) = g by omega) (show (0 : Int) + (1 * ρ' 8 + 0) = ρ' 8 by omega) (show ((o : Int) + 1) + 0 = ((o + 1 : Nat) : Int) by omega)))
    have hm2 : hv h 141 20 / 2 ^ o % 2 = 0 ∨ hv h 141 20 / 2 ^ o % 2 = 1 := by
      generalize hv h 141 20 / 2 ^ o = A
      omega
    rcases hm2 with e | e
    · exact fin false e (fun hh => by cases hh)
    · exact fin true e (fun _ => hbnd e)
set_option maxRecDepth 20000 in
/-- putOne -/
theorem po_all {X : List (List Value)} (hX : az_X X) (hB : az_Valid X bhB) (hR : az_Valid X hrB) {h : List mzC} (hT : az_Tp h) (hlen : h.length + 6000 < 2147483648) {k : Nat} (hk : k < 10) {g : Int} (hg : 1 ≤ g ∧ g ≤ 200) {i : Nat} (hi : i < 10) (hpb : ∀ o, o < 10 → bt (hv h 141 20) o → hv h 153 o ≤ poB i) {d : Nat} (hd : 4 ≤ d) {s2 : Nat × Nat} {lo : mzL} (hlo : az_ml lo [.ref 145, iv k, iv g]) : mz_gg X (poK h s2 k i) d 142 0 lo [] (h, s2) := by
  refine az_go (c := poC0) (ends := [poE0]) (i0 := 0) (ρ := rho [k, g] ((h.length : Int) + 4)) sz_pkall_szP hX (tb := []) (fun c hc => by cases hc) poQ_ok (az_wfc_ok rfl) poR0 rfl rfl rfl (by show h.length + 1000 * (4 + 2) < 2147483648; omega) rfl hd ?_ hT (HF_nil _ _) ?_ (fun k hk => by cases hk) (fun p hp => by cases hp) ?_
  · exact rho_V (rho_free rfl _) (show rin [(0, 9), (1, 200)] [(k : Int), g] from by simp only [rin, and_true]; omega) rfl (by omega) (by decide) trivial
  · exact (ml3r hlo (show (0 : Int) + (1 * (k : Int) + 0) = k by omega) (show (0 : Int) + (1 * g + 0) = g by omega))
  · intro E hE ρ' h' s3 lo' w1 ag hT' hM' hF' hl' b1 b2 hml
    have ee := List.mem_singleton.mp hE
    subst ee
    have a0 : ρ' 0 = k := ag 0 (by decide)
    have a1 : ρ' 1 = g := ag 1 (by decide)
    have r2 : (0 : Int) ≤ ρ' 2 ∧ ρ' 2 ≤ 1060 := w1.2.1 2
    obtain ⟨en, en1, en2⟩ := hv_slot hT'.1 azL_142 many_ty
    refine po_loop hX hB hR hlen hk hg hi hpb hd (hv h' 142 0).toNat 0 h' s3 lo' (ρ' 2) hT' hM' hl' b1 b2 (by omega) ?_ ((ml5 hml (show (0 : Int) + (1 * ρ' 0 + 0) = (k : Int) by omega) (show (0 : Int) + (1 * ρ' 1 + 0) = g by omega) (show (0 : Int) + (1 * ρ' 2 + 0) = ρ' 2 by omega) (show (0 : Int) + 0 = ((0 : Nat) : Int) by omega)))
    unfold poB
    omega
