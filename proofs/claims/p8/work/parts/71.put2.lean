/-! putOne: whole -/
theorem put_ty : az_ty azC141 20 = some (0, 0, [(0, 1023)]) := by decide +kernel
theorem hv_put {h : List mzC} (hT : az_HT h) {k : Nat} (hk : k < 10) : az_slot h 153 k = some (iv (hv h 153 k)) ∧ 0 ≤ hv h 153 k ∧ hv h 153 k ≤ 60000 := hv_arr hT (c := 153) (t := 1) (n := 10) (g := 35) (by decide +kernel) (by decide +kernel) hk
set_option maxRecDepth 20000 in
theorem ml3e {ρ : Nat → Int} {c1 c2 x1 x2 : Int} {t1 t2 : szT} (e1 : c1 + sz_sum ρ t1 = x1) (e2 : c2 + sz_sum ρ t2 = x2) : ([(1, 145, []), (0, c1, t1), (0, c2, t2)] : szLo).map (sz_v ρ) = [.ref 145, iv x1, iv x2] := by
  simp only [List.map]
  rw [sz_v_ref _ (by decide), sz_v_eq e1, sz_v_eq e2]
  rfl
set_option maxRecDepth 20000 in
theorem ml5e {ρ : Nat → Int} {c1 c2 c3 c4 x1 x2 x3 x4 : Int} {t1 t2 t3 t4 : szT} (e1 : c1 + sz_sum ρ t1 = x1) (e2 : c2 + sz_sum ρ t2 = x2) (e3 : c3 + sz_sum ρ t3 = x3) (e4 : c4 + sz_sum ρ t4 = x4) : ([(1, 145, []), (0, c1, t1), (0, c2, t2), (0, c3, t3), (0, c4, t4)] : szLo).map (sz_v ρ) = [.ref 145, iv x1, iv x2, iv x3, iv x4] := by
  simp only [List.map]
  rw [sz_v_ref _ (by decide), sz_v_eq e1, sz_v_eq e2, sz_v_eq e3, sz_v_eq e4]
  rfl
set_option maxRecDepth 20000 in
theorem ml6e {ρ : Nat → Int} {c1 c2 c3 c4 c5 x1 x2 x3 x4 x5 : Int} {t1 t2 t3 t4 t5 : szT} (e1 : c1 + sz_sum ρ t1 = x1) (e2 : c2 + sz_sum ρ t2 = x2) (e3 : c3 + sz_sum ρ t3 = x3) (e4 : c4 + sz_sum ρ t4 = x4) (e5 : c5 + sz_sum ρ t5 = x5) : ([(1, 145, []), (0, c1, t1), (0, c2, t2), (0, c3, t3), (0, c4, t4), (0, c5, t5)] : szLo).map (sz_v ρ) = [.ref 145, iv x1, iv x2, iv x3, iv x4, iv x5] := by
  simp only [List.map]
  rw [sz_v_ref _ (by decide), sz_v_eq e1, sz_v_eq e2, sz_v_eq e3, sz_v_eq e4, sz_v_eq e5]
  rfl
set_option maxRecDepth 20000 in
theorem ml3 {lo : mzL} {ρ : Nat → Int} {c1 c2 x1 x2 : Int} {t1 t2 : szT} (h : az_ml lo (([(1, 145, []), (0, c1, t1), (0, c2, t2)] : szLo).map (sz_v ρ))) (e1 : c1 + sz_sum ρ t1 = x1) (e2 : c2 + sz_sum ρ t2 = x2) : az_ml lo [.ref 145, iv x1, iv x2] := by
  rw [ml3e e1 e2] at h
  exact h
set_option maxRecDepth 20000 in
theorem ml3r {lo : mzL} {ρ : Nat → Int} {c1 c2 x1 x2 : Int} {t1 t2 : szT} (h : az_ml lo [.ref 145, iv x1, iv x2]) (e1 : c1 + sz_sum ρ t1 = x1) (e2 : c2 + sz_sum ρ t2 = x2) : az_ml lo (([(1, 145, []), (0, c1, t1), (0, c2, t2)] : szLo).map (sz_v ρ)) := by
  rw [ml3e e1 e2]
  exact h
set_option maxRecDepth 20000 in
theorem ml5 {lo : mzL} {ρ : Nat → Int} {c1 c2 c3 c4 x1 x2 x3 x4 : Int} {t1 t2 t3 t4 : szT} (h : az_ml lo (([(1, 145, []), (0, c1, t1), (0, c2, t2), (0, c3, t3), (0, c4, t4)] : szLo).map (sz_v ρ))) (e1 : c1 + sz_sum ρ t1 = x1) (e2 : c2 + sz_sum ρ t2 = x2) (e3 : c3 + sz_sum ρ t3 = x3) (e4 : c4 + sz_sum ρ t4 = x4) : az_ml lo [.ref 145, iv x1, iv x2, iv x3, iv x4] := by
  rw [ml5e e1 e2 e3 e4] at h
  exact h
set_option maxRecDepth 20000 in
theorem ml5r {lo : mzL} {ρ : Nat → Int} {c1 c2 c3 c4 x1 x2 x3 x4 : Int} {t1 t2 t3 t4 : szT} (h : az_ml lo [.ref 145, iv x1, iv x2, iv x3, iv x4]) (e1 : c1 + sz_sum ρ t1 = x1) (e2 : c2 + sz_sum ρ t2 = x2) (e3 : c3 + sz_sum ρ t3 = x3) (e4 : c4 + sz_sum ρ t4 = x4) : az_ml lo (([(1, 145, []), (0, c1, t1), (0, c2, t2), (0, c3, t3), (0, c4, t4)] : szLo).map (sz_v ρ)) := by
  rw [ml5e e1 e2 e3 e4]
  exact h
set_option maxRecDepth 20000 in
theorem ml6b {lo : mzL} {ρ : Nat → Int} {c1 c2 c3 c4 c5 x1 x2 x3 x4 x5 : Int} {t1 t2 t3 t4 t5 : szT} (h : az_ml lo (([(1, 145, []), (0, c1, t1), (0, c2, t2), (0, c3, t3), (0, c4, t4), (0, c5, t5)] : szLo).map (sz_v ρ))) (e1 : c1 + sz_sum ρ t1 = x1) (e2 : c2 + sz_sum ρ t2 = x2) (e3 : c3 + sz_sum ρ t3 = x3) (e4 : c4 + sz_sum ρ t4 = x4) (e5 : c5 + sz_sum ρ t5 = x5) : az_ml lo [.ref 145, iv x1, iv x2, iv x3, iv x4, iv x5] := by
  rw [ml6e e1 e2 e3 e4 e5] at h
  exact h
set_option maxRecDepth 20000 in
theorem ml6rb {lo : mzL} {ρ : Nat → Int} {c1 c2 c3 c4 c5 x1 x2 x3 x4 x5 : Int} {t1 t2 t3 t4 t5 : szT} (h : az_ml lo [.ref 145, iv x1, iv x2, iv x3, iv x4, iv x5]) (e1 : c1 + sz_sum ρ t1 = x1) (e2 : c2 + sz_sum ρ t2 = x2) (e3 : c3 + sz_sum ρ t3 = x3) (e4 : c4 + sz_sum ρ t4 = x4) (e5 : c5 + sz_sum ρ t5 = x5) : az_ml lo (([(1, 145, []), (0, c1, t1), (0, c2, t2), (0, c3, t3), (0, c4, t4), (0, c5, t5)] : szLo).map (sz_v ρ)) := by
  rw [ml6e e1 e2 e3 e4 e5]
  exact h
def poMd : List (Nat × Nat) := [(153, 0), (141, 21)]
set_option maxRecDepth 20000 in
theorem md_two {a b c d c' k : Nat} : az_md [(a, b), (c, d)] c' k = (az_md [(a, b)] c' k || az_md [(c, d)] c' k) := by
  unfold az_md
  simp [List.any_cons]
def poK (h : List mzC) (s2 : Nat × Nat) (k i : Nat) (o : Option (Option Value)) (s' : mzS) : Prop := az_Tp s'.1 ∧ az_HM poMd h s'.1 ∧ s'.1.length = h.length ∧ s'.2.1 ≤ s2.1 ∧ s'.2.2 ≤ s2.2 ∧ (o = some (some (iv 0)) ∨ (o = some (some (iv 1)) ∧ (∀ j, j < 10 → (bt (hv s'.1 141 20) j ↔ (bt (hv h 141 20) j ∨ j = k))) ∧ ∀ j, j < 10 → bt (hv s'.1 141 20) j → hv s'.1 153 j ≤ poB (i + 1)))
theorem poH4_ok : az_hok poC4 poH4 = true := by decide +kernel
set_option maxRecDepth 20000 in
theorem po_last {X : List (List Value)} (hX : az_X X) (hB : az_Valid X bhB) {Kb : Option (Option Value) → mzS → Prop} {h : List mzC} (hT : az_Tp h) (hlen : h.length + 6000 < 2147483648) {k : Nat} (hk : k < 10) {g : Int} (hg : 1 ≤ g ∧ g ≤ 200) {d : Nat} (hd : 4 ≤ d) {s2 : Nat × Nat} {lo : mzL} (hlo : az_ml lo [.ref 145, iv k, iv g]) (hK : ∀ h' s3, az_Tp h' → az_HM [] h h' → h'.length = h.length → s3.1 ≤ s2.1 → s3.2 ≤ s2.2 → Kb (some (some (iv 0))) (h', s3) ∧ Kb (some (some (iv 1))) (h', s3)) : mz_gg X Kb d 142 76 lo [] (h, s2) := by
  refine az_goH (c := poC4) (hds := [poH4]) (ends := []) (i0 := 76) (ρ := rho [k, g] ((h.length : Int) + 4)) sz_pkall_szP hX (tb := [bhB]) (List.forall_mem_cons.mpr ⟨hB, fun _ h => by cases h⟩) poQ_ok (az_wfc_ok rfl) (List.forall_mem_cons.mpr ⟨poH4_ok, fun _ h => by cases h⟩) poR4a (List.forall_mem_cons.mpr ⟨poR4b, fun _ h => by cases h⟩) rfl rfl rfl (by show h.length + 1000 * (4 + 2) < 2147483648; omega) rfl hd ?_ hT (HF_nil _ _) ?_ ?_ (fun E hE => by cases hE)
  · exact rho_V (rho_free rfl _) (show rin [(0, 9), (1, 200)] [(k : Int), g] from by simp only [rin, and_true]; omega) rfl (by omega) (by decide) trivial
  · exact (ml3r hlo (show (0 : Int) + (1 * (k : Int) + 0) = k by omega) (show (0 : Int) + (1 * g + 0) = g by omega))
  · intro p hp ρ' h' s3 w1 ag hT' hM' hF' hl' b1 b2
    have hk := hK h' s3 hT' hM' hl' b1 b2
    rcases List.mem_cons.mp hp with e | hp
    · subst e
      have e : (some (some (0, 0, [])) : Option (Option szV)).map (fun v => v.map (sz_v ρ')) = some (some (iv 0)) := by
        show some (some (sz_v ρ' (0, 0, []))) = _
        rw [sz_v_eq (show (0 : Int) + 0 = 0 by omega)]
      show Kb ((some (some (0, 0, [])) : Option (Option szV)).map (fun v => v.map (sz_v ρ'))) (h', s3)
      rw [e]
      exact hk.1
    · have e := List.mem_singleton.mp hp
      subst e
      have e : (some (some (0, 1, [])) : Option (Option szV)).map (fun v => v.map (sz_v ρ')) = some (some (iv 1)) := by
        show some (some (sz_v ρ' (0, 1, []))) = _
        rw [sz_v_eq (show (1 : Int) + 0 = 1 by omega)]
      show Kb ((some (some (0, 1, [])) : Option (Option szV)).map (fun v => v.map (sz_v ρ'))) (h', s3)
      rw [e]
      exact hk.2
set_option maxRecDepth 20000 in
theorem po_put {X : List (List Value)} (hX : az_X X) (hB : az_Valid X bhB) {h0 h : List mzC} {s0 s2 : Nat × Nat} (hT : az_Tp h) (hM0 : az_HM [] h0 h) (hl : h.length = h0.length) (hs1 : s2.1 ≤ s0.1) (hs2 : s2.2 ≤ s0.2) (hlen : h0.length + 6000 < 2147483648) {k : Nat} (hk : k < 10) {g : Int} (hg : 1 ≤ g ∧ g ≤ 200) {i : Nat} (hi : i < 10) (hpb : ∀ o, o < 10 → bt (hv h0 141 20) o → hv h0 153 o ≤ poB i) {d : Nat} (hd : 4 ≤ d) {lo : mzL} {t tick m : Int} (ht : 0 ≤ t ∧ t ≤ poB i + 50) (htk : 0 ≤ tick ∧ tick ≤ 106 + 210 * (i : Int) + 5) (hm : 0 ≤ m ∧ m ≤ 199) (hlo : az_ml lo [.ref 145, iv k, iv g, iv t, iv tick, iv m]) : mz_gg X (poK h0 s0 k i) d 142 55 lo [] (h, s2) := by
  obtain ⟨es, es1, es2⟩ := hv_slot hT.1 azL_141 put_ty
  obtain ⟨u1, u2, u3⟩ := op14 es1 es2 hk
  have hrun := List.all_eq_true.mp (List.all_eq_true.mp poR3s i (List.mem_range.mpr hi)) k (List.mem_range.mpr hk)
  have e0 : ∀ c j, c < 163 → hv h c j = hv h0 c j := fun c j hc => HM_hv hM0 hc rfl
  unfold poB at ht
  refine az_go (c := poC3 i k) (ends := [poE3 i k]) (i0 := 55) (ρ := rho [g, t, tick, m, hv h 141 20, (sz_op 14 (Int32.ofInt (hv h 141 20)) (Int32.ofInt ((2 ^ k : Nat) : Int))).toInt] ((h.length : Int) + 4)) sz_pkall_szP hX (tb := []) (fun c hc => by cases hc) poQ_ok (az_wfc_ok rfl) hrun rfl rfl rfl (by show h.length + 1000 * (4 + 2) < 2147483648; omega) rfl hd ?_ hT ?_ ?_ (fun k hk => by cases hk) (fun p hp => by cases hp) ?_
  · refine rho_V ⟨?_, ?_⟩ (show rin [(1, 200), (0, 1060 + 2100 * (i : Int) + 50), (0, 106 + 210 * (i : Int) + 5), (0, 199), (0, 1023), (0, 1023)] [g, t, tick, m, hv h 141 20, (sz_op 14 (Int32.ofInt (hv h 141 20)) (Int32.ofInt ((2 ^ k : Nat) : Int))).toInt] from by simp only [rin, and_true]; omega) ?_ (by omega) (by show 6 ≤ 1000000; decide) trivial
    · intro j op x y hj hop
      match j, hj with
      | 5, hj =>
        cases hj
        show (sz_op 14 (Int32.ofInt (hv h 141 20)) (Int32.ofInt ((2 ^ k : Nat) : Int))).toInt = (sz_op 14 (Int32.ofInt ((0 : Int) + (1 * hv h 141 20 + 0))) (Int32.ofInt (((2 ^ k : Nat) : Int) + 0))).toInt
        rw [show (0 : Int) + (1 * hv h 141 20 + 0) = hv h 141 20 by omega, Int.add_zero]
      | 0, hj => cases hj; exact absurd rfl hop
      | 1, hj => cases hj; exact absurd rfl hop
      | 2, hj => cases hj; exact absurd rfl hop
      | 3, hj => cases hj; exact absurd rfl hop
      | 4, hj => cases hj; exact absurd rfl hop
      | j + 6, hj => simp [poC3] at hj
    · intro j x y hj hx
      match j, hj with
      | 5, hj => cases hj
      | 0, hj => cases hj; exact absurd rfl hx
      | 1, hj => cases hj; exact absurd rfl hx
      | 2, hj => cases hj; exact absurd rfl hx
      | 3, hj => cases hj; exact absurd rfl hx
      | 4, hj => cases hj; exact absurd rfl hx
      | j + 6, hj => simp [poC3] at hj
    · show (poR3 i).all _ = true
      unfold poR3 poB
      simp only [List.all_cons, List.all_nil, Bool.and_eq_true, decide_eq_true_eq, Bool.and_true]
      omega
  · exact HF_cons 20 (hv h 141 20) (by decide) (show (20 : Int) + 0 = ((20 : Nat) : Int) by omega) (by omega) (sz_v_eq (show (0 : Int) + (1 * hv h 141 20 + 0) = _ by omega)) es (HF_nil _ _)
  · exact (ml6rb hlo (show (k : Int) + 0 = k by omega) (show (0 : Int) + (1 * g + 0) = g by omega) (show (0 : Int) + (1 * t + 0) = t by omega) (show (0 : Int) + (1 * tick + 0) = tick by omega) (show (0 : Int) + (1 * m + 0) = m by omega))
  · intro E hE ρ' h' s3 lo' w1 ag hT' hM' hF' hl' b1 b2 hml
    have ee := List.mem_singleton.mp hE
    subst ee
    have a0 : ρ' 0 = g := ag 0 (by show 0 < 6; decide)
    have a5 : ρ' 5 = (sz_op 14 (Int32.ofInt (hv h 141 20)) (Int32.ofInt ((2 ^ k : Nat) : Int))).toInt := ag 5 (by show 5 < 6; decide)
    have r6 : (0 : Int) ≤ ρ' 6 ∧ ρ' 6 ≤ poB (i + 1) := by
      have := w1.2.1 6
      exact this
    have f1 := HF_get hF' (c := 141) (k := 20) (v := (0, 0, [(5, 1)])) (by decide) (by omega) (List.Mem.head _)
    have f2 := HF_get hF' (c := 153) (k := k) (v := (0, 0, [(6, 1)])) (by decide) (by omega) (List.Mem.tail _ (List.Mem.head _))
    rw [sz_v_eq (show (0 : Int) + (1 * ρ' 5 + 0) = ρ' 5 by omega)] at f1
    rw [sz_v_eq (show (0 : Int) + (1 * ρ' 6 + 0) = ρ' 6 by omega)] at f2
    have hb6 : poB (i + 1) ≤ 60000 := by unfold poB; omega
    have g1 : hv h' 141 20 = ρ' 5 := hv_val f1 (by omega) (by omega)
    have g2 : hv h' 153 k = ρ' 6 := hv_val f2 (by omega) (by omega)
    have g3 : ∀ j, j ≠ k → hv h' 153 j = hv h 153 j := fun j hj => HM_hv hM' (by decide) (by
      show az_md [(153, k + 1), (141, 21)] 153 j = false
      rw [md_two, md_one hj, md_other (by decide)]
      rfl)
    have hbit : ∀ j, j < 10 → (bt (hv h' 141 20) j ↔ (bt (hv h0 141 20) j ∨ j = k)) := by
      intro j hj
      rw [g1, a5, u3 j hj, e0 141 20 (by decide)]
    have hsm : ∀ j, j < 10 → bt (hv h' 141 20) j → hv h' 153 j ≤ poB (i + 1) := by
      intro j hj hb
      by_cases hjk : j = k
      · subst hjk; rw [g2]; exact r6.2
      · rw [g3 j hjk, e0 153 j (by decide)]
        rcases (hbit j hj).mp hb with hb | hb
        · have := hpb j hj hb
          unfold poB at this ⊢
          omega
        · exact absurd hb hjk
    have hM2 : az_HM poMd h0 h' := fun c j hc hm => by
      have m1 : az_md [(153, k + 1), (141, 21)] c j = false := by
        have hm : az_md [(153, 0), (141, 21)] c j = false := hm
        rw [md_two, Bool.or_eq_false_iff] at hm
        rw [md_two, md_sub c j hm.1, hm.2]
        rfl
      rw [hM' c j hc m1, hM0 c j hc rfl]
    refine po_last hX hB hT' (by omega) hk hg hd ((ml3 hml (show (k : Int) + 0 = (k : Int) by omega) (show (0 : Int) + (1 * ρ' 0 + 0) = g by omega))) ?_
    intro h2 s4 hT2 hM3 hl2 d1 d2
    have e2 : ∀ c j, c < 163 → hv h2 c j = hv h' c j := fun c j hc => HM_hv hM3 hc rfl
    have hM4 : az_HM poMd h0 h2 := HM_trans hM2 hM3 (fun _ _ _ => rfl)
    have base : ∀ o : Option (Option Value), (o = some (some (iv 0)) ∨ (o = some (some (iv 1)) ∧ (∀ j, j < 10 → (bt (hv h2 141 20) j ↔ (bt (hv h0 141 20) j ∨ j = k))) ∧ ∀ j, j < 10 → bt (hv h2 141 20) j → hv h2 153 j ≤ poB (i + 1))) → poK h0 s0 k i o (h2, s4) := fun o ho => ⟨hT2, hM4, by show h2.length = _; omega, by show s4.1 ≤ _; omega, by show s4.2 ≤ _; omega, ho⟩
    refine ⟨base _ (Or.inl rfl), base _ (Or.inr ⟨rfl, ?_, ?_⟩)⟩
    · intro j hj
      rw [e2 141 20 (by decide)]
      exact hbit j hj
    · intro j hj hb
      rw [e2 141 20 (by decide)] at hb
      rw [e2 153 j (by decide)]
      exact hsm j hj hb
