/-! sooner: the last time on or ahead of one at which an act may begin -/
def snQ : szM := (5, 12, (0, 0, 0), szc_121)
set_option maxRecDepth 20000 in
theorem snQ_ok : szP[121]? = some snQ := rfl
def snB : azCon := (121, 3, ([azf, azf], [(0, 9), ((-100), 2100)], [], [(1, 145, []), (0, 0, [(0, 1)]), (0, 0, [(1, 1)])], [], [], false), [(some (some (0, 0, [(2, 1)])), [azf, azf, azf], [(0, 9), ((-100), 2100), ((-10000), 10000)], [], [])], [], (0, 0))
theorem snB_e : az_ex szP az_inl snB.2.1 [] snB.2.2.2.2.1 (fun _ => az_pre 121 []) (az_hint []) (az_leaf snB [] none (az_hb 2) (az_rb 2)) 20000 snB.2.2.1.1 snB.2.2.1.2.1 snB.2.2.1.2.2.1 (az_hc snB snQ (0, snB.2.2.1, (0, []), (0, 0))) = true := by decide +kernel
theorem snB_v {X : List (List Value)} (hX : az_X X) : az_Valid X snB := az_valid sz_pkall_szP (q := snQ) hX (tb := []) (fun _ h => by cases h) rfl (hds := []) (by decide +kernel) (fun _ h => by cases h) snB_e (fun _ h => by cases h)
/-- atoms: 0 act's sort, 1 q, 2 s, 3 the rest by the machine, 4 the quotient, 5 what is asked at least, 6 the delay; neg: the rest is below 0; sum: the act is a sum -/
def snR (neg sum : Bool) : szR := [bif sum then (0, 2) else (3, 5), ((-10000), 10000), (0, 9), bif neg then ((-9), (-1)) else (0, 9), ((-10000), 10000), bif sum then (0, 9) else (0, 0), (1, 10)]
def snC (neg sum : Bool) (k : Nat) : azCon := (121, 3, ([azf, azf, azf, (20, (0, 0, [(1, 10), (2, 1)]), (0, 10, [])), (19, (0, bif neg then (-10) else 0, [(1, 10), (2, 1), (3, (-1))]), (0, 10, [])), azf, azf], snR neg sum, [(0, [(1, (-10)), (4, 10)]), (0, [(1, 10), (4, (-10))]), (0, [(2, 1), (5, (-1))]), (10, [(5, (-1)), (6, (-1))]), (10, [(1, (-10)), (4, 10), (5, (-1)), (6, (-1))])], [(1, 145, []), (0, (k : Int), []), (0, 0, [(1, 10), (2, 1)])], [(142, (((1 + 4 * k : Nat) : Int), []), (0, 0, [(0, 1)])), (142, (79, []), (0, 0, [(6, 1)]))], [], false), [(some (some (0, 0, [(7, 1)])), [azf, azf, azf, azf, azf, azf, azf, azf], snR neg sum ++ [((-1000000), 1000000)], [(0, [(1, (-10)), (5, (-1)), (7, 1)]), (0, [(1, 10), (2, 1), (7, (-1))])], [])], [], (0, 0))
theorem snRs : (List.range 10).all (fun k => [(true, true), (true, false), (false, true), (false, false)].all (fun b => az_ex szP az_inl (snC b.1 b.2 k).2.1 [] (snC b.1 b.2 k).2.2.2.2.1 (fun _ => az_pre 121 []) (az_hint []) (az_sleaf szP az_inl [] (fun _ => az_pre 121 []) (az_hint []) (snC b.1 b.2 k) [] (az_hb 7) (az_rb 7) none 0) 1000 (snC b.1 b.2 k).2.2.1.1 (snC b.1 b.2 k).2.2.1.2.1 (snC b.1 b.2 k).2.2.1.2.2.1 (az_hc (snC b.1 b.2 k) snQ (0, (snC b.1 b.2 k).2.2.1, (0, []), (0, 0))))) = true := by decide +kernel
set_option maxRecDepth 20000 in
theorem op20t {t : Int} (h1 : -2147483648 ≤ t) (h2 : t ≤ 2147483647) : (sz_op 20 (Int32.ofInt t) (Int32.ofInt 10)).toInt = t.tmod 10 := by
  have e10 : (Int32.ofInt 10).toInt = 10 := iv_toInt (by decide) (by decide)
  obtain ⟨r1, r2, r3⟩ := az_rem (x := Int32.ofInt t) (y := Int32.ofInt 10) (by rw [e10]; decide)
  have e : sz_op 20 (Int32.ofInt t) (Int32.ofInt 10) = Int32.ofInt t - Int32.ofInt t / Int32.ofInt 10 * Int32.ofInt 10 := by
    show (mz_bin 10 (Int32.ofInt t) (Int32.ofInt 10)).getD 0 = _
    simp only [mz_bin]
    rw [if_neg r3]
    rfl
  rw [e, r1, e10, iv_toInt h1 h2]
set_option maxRecDepth 20000 in
theorem op19t {t : Int} (h1 : -2147483648 ≤ t) (h2 : t ≤ 2147483647) : (sz_op 19 (Int32.ofInt t) (Int32.ofInt 10)).toInt = t.tdiv 10 := by
  have e10 : (Int32.ofInt 10).toInt = 10 := iv_toInt (by decide) (by decide)
  obtain ⟨r1, r2, r3⟩ := az_rem (x := Int32.ofInt t) (y := Int32.ofInt 10) (by rw [e10]; decide)
  have e : sz_op 19 (Int32.ofInt t) (Int32.ofInt 10) = Int32.ofInt t / Int32.ofInt 10 := by
    show (mz_bin 9 (Int32.ofInt t) (Int32.ofInt 10)).getD 0 = _
    simp only [mz_bin]
    rw [if_neg r3]
    rfl
  rw [e, r2, e10, iv_toInt h1 h2]
set_option maxRecDepth 20000 in
theorem tmod_cases (x : Int) : (x.tmod 10 = x % 10 ∧ 0 ≤ x.tmod 10 ∧ x.tmod 10 ≤ 9) ∨ (x.tmod 10 = x % 10 - 10 ∧ -9 ≤ x.tmod 10 ∧ x.tmod 10 ≤ -1) := by
  rcases Int.le_total 0 x with h | h
  · rw [Int.tmod_eq_emod_of_nonneg h]
    omega
  · have e := Int.tmod_eq_emod_of_nonneg (b := 10) (show 0 ≤ -x by omega)
    rw [Int.neg_tmod] at e
    omega
def sn (X : List (List Value)) (h : List mzC) (k x y : Int) : Prop := ∃ n, mz_run mzP X n 3 121 0 (lv_args 0 [.ref 145, iv k, iv x]) [] (h, (0, 0)) = some (some (some (iv y)), (h, (0, 0)))
set_option maxRecDepth 20000 in
theorem sn_args (k x : Int) : mr_st 145 146 [.ref 145, iv k, iv x] := mr_cons (fun r e => by cases e; exact Or.inl rfl) (mr_cons (mr_int _) (mr_cons (mr_int _) (fun v hv => by cases hv)))
set_option maxRecDepth 20000 in
theorem sn_ex {X : List (List Value)} (hX : az_X X) {h : List mzC} (hT : az_Tp h) (hlen : h.length + 5000 < 2147483648) {k : Nat} (hk : k < 10) {x e : Int} (hx1 : -90000 ≤ x) (hx2 : x ≤ 90000) (he : e ≤ x) (he2 : -90000 ≤ e) (ha : alw h k e) : ∃ y, e ≤ y ∧ y ≤ x ∧ sn X h k x y := by
  obtain ⟨es, es1, es2⟩ := hv_slot hT.1 azL_142 (sort_ty hk)
  obtain ⟨ed, ed1, ed2⟩ := hv_slot hT.1 azL_142 delay_ty
  have key : mz_gg X (fun o _ => ∃ y, e ≤ y ∧ y ≤ x ∧ o = some (some (iv y))) 3 121 0 (lv_args 0 [.ref 145, iv k, iv x]) [] (h, (0, 0)) := by
    have hrun : ∀ neg sum : Bool, az_ex szP az_inl (snC neg sum k).2.1 [] (snC neg sum k).2.2.2.2.1 (fun _ => az_pre 121 []) (az_hint []) (az_sleaf szP az_inl [] (fun _ => az_pre 121 []) (az_hint []) (snC neg sum k) [] (az_hb 7) (az_rb 7) none 0) 1000 (snC neg sum k).2.2.1.1 (snC neg sum k).2.2.1.2.1 (snC neg sum k).2.2.1.2.2.1 (az_hc (snC neg sum k) snQ (0, (snC neg sum k).2.2.1, (0, []), (0, 0))) = true := by
      intro neg sum
      have := List.all_eq_true.mp snRs k (List.mem_range.mpr hk)
      exact List.all_eq_true.mp this (neg, sum) (by cases neg <;> cases sum <;> decide)
    have fin : ∀ (neg sum : Bool) (r0 : Int), (sum = true ↔ hv h 142 (1 + 4 * k) ≤ 2) → (neg = true ↔ x.tmod 10 < 0) → 0 ≤ r0 → r0 ≤ x % 10 → r0 + hv h 142 79 ≤ 10 → (sum = false → r0 = 0) → e ≤ 10 * (x / 10) + r0 → mz_gg X (fun o _ => ∃ y, e ≤ y ∧ y ≤ x ∧ o = some (some (iv y))) 3 121 0 (lv_args 0 [.ref 145, iv k, iv x]) [] (h, (0, 0)) := by
      intro neg sum r0 hsum hneg p1 p2 p3 p4 p5
      have hm := tmod_cases x
      have p4' : sum = true ∨ r0 = 0 := by
        cases sum
        · exact Or.inr (p4 rfl)
        · exact Or.inl rfl
      have hrs : rin (snR neg sum) [hv h 142 (1 + 4 * k), x / 10, x % 10, x.tmod 10, x / 10, r0, hv h 142 79] := by
        unfold snR
        cases neg <;> cases sum <;> simp only [rin, and_true, cond_true, cond_false, true_iff, false_iff, Bool.false_eq_true, reduceCtorEq, false_or, true_or] at * <;> omega
      refine az_go (c := snC neg sum k) (ends := []) (i0 := 0) (ρ := rho [hv h 142 (1 + 4 * k), x / 10, x % 10, x.tmod 10, x / 10, r0, hv h 142 79] ((h.length : Int) + 4)) sz_pkall_szP hX (tb := []) (fun c hc => by cases hc) snQ_ok (az_wfc_ok ?_) (hrun neg sum) rfl rfl rfl (by show h.length + 1000 * (3 + 2) < 2147483648; omega) rfl (Nat.le_refl 3) ?_ hT ?_ ?_ (fun k hk => by cases hk) ?_ (fun E hE => by cases hE)
      · cases neg <;> cases sum <;> rfl
      · refine rho_V ⟨?_, ?_⟩ hrs ?_ (by omega) (by show (snR neg sum).length ≤ 1000000; exact (show 7 ≤ 1000000 by decide)) (show 0 ≤ (0 : Int) + ((-10) * (x / 10) + (10 * (x / 10) + 0)) ∧ 0 ≤ (0 : Int) + (10 * (x / 10) + ((-10) * (x / 10) + 0)) ∧ 0 ≤ (0 : Int) + (1 * (x % 10) + ((-1) * r0 + 0)) ∧ 0 ≤ (10 : Int) + ((-1) * r0 + ((-1) * hv h 142 79 + 0)) ∧ 0 ≤ (10 : Int) + ((-10) * (x / 10) + (10 * (x / 10) + ((-1) * r0 + ((-1) * hv h 142 79 + 0)))) ∧ True from ⟨by omega, by omega, by omega, by omega, by omega, trivial⟩)
        · intro i op u y hi hop
          match i, hi with
          | 3, hi =>
            cases hi
            show x.tmod 10 = (sz_op 20 (Int32.ofInt ((0 : Int) + (10 * (x / 10) + (1 * (x % 10) + 0)))) (Int32.ofInt ((10 : Int) + 0))).toInt
            rw [show (0 : Int) + (10 * (x / 10) + (1 * (x % 10) + 0)) = x by omega, show (10 : Int) + 0 = 10 by omega, op20t (by omega) (by omega)]
          | 4, hi =>
            cases hi
            have e1 : (bif neg then (-10 : Int) else 0) + (10 * (x / 10) + (1 * (x % 10) + ((-1) * x.tmod 10 + 0))) = 10 * (x / 10) := by
              cases neg
              · simp only [Bool.false_eq_true, false_iff] at hneg
                simp only [cond_false]
                omega
              · simp only [true_iff] at hneg
                simp only [cond_true]
                omega
            show x / 10 = (sz_op 19 (Int32.ofInt ((bif neg then (-10 : Int) else 0) + (10 * (x / 10) + (1 * (x % 10) + ((-1) * x.tmod 10 + 0))))) (Int32.ofInt ((10 : Int) + 0))).toInt
            rw [e1, show (10 : Int) + 0 = 10 by omega, op19t (by omega) (by omega), Int.mul_tdiv_cancel_left _ (by decide)]
          | 0, hi => cases hi; exact absurd rfl hop
          | 1, hi => cases hi; exact absurd rfl hop
          | 2, hi => cases hi; exact absurd rfl hop
          | 5, hi => cases hi; exact absurd rfl hop
          | 6, hi => cases hi; exact absurd rfl hop
          | i + 7, hi => simp [snC] at hi
        · intro i u y hi hx
          match i, hi with
          | 3, hi => cases hi
          | 4, hi => cases hi
          | 0, hi => cases hi; exact absurd rfl hx
          | 1, hi => cases hi; exact absurd rfl hx
          | 2, hi => cases hi; exact absurd rfl hx
          | 5, hi => cases hi; exact absurd rfl hx
          | 6, hi => cases hi; exact absurd rfl hx
          | i + 7, hi => simp [snC] at hi
        · show (snR neg sum).all _ = true
          cases neg <;> cases sum <;> rfl
      · exact HF_cons (1 + 4 * k) (hv h 142 (1 + 4 * k)) (by decide) (show ((1 + 4 * k : Nat) : Int) + 0 = ((1 + 4 * k : Nat) : Int) by omega) (by omega) (by rw [sz_v_iv]; show iv ((0 : Int) + (1 * hv h 142 (1 + 4 * k) + 0)) = _; congr 1; omega) es (HF_cons 79 (hv h 142 79) (by decide) (show (79 : Int) + 0 = ((79 : Nat) : Int) by omega) (by omega) (by rw [sz_v_iv]; show iv ((0 : Int) + (1 * hv h 142 79 + 0)) = _; congr 1; omega) ed (HF_nil _ _))
      · have e0 : (snC neg sum k).2.2.1.2.2.2.1.map (sz_v (rho [hv h 142 (1 + 4 * k), x / 10, x % 10, x.tmod 10, x / 10, r0, hv h 142 79] ((h.length : Int) + 4))) = [.ref 145, iv k, iv x] := by
          show [sz_v _ (1, 145, []), sz_v _ (0, (k : Int), []), sz_v _ (0, 0, [(1, 10), (2, 1)])] = _
          rw [sz_v_ref _ (by decide), sz_v_iv, sz_v_iv]
          show [Value.ref 145, iv ((k : Int) + 0), iv ((0 : Int) + (10 * (x / 10) + (1 * (x % 10) + 0)))] = _
          rw [show (k : Int) + 0 = k by omega, show (0 : Int) + (10 * (x / 10) + (1 * (x % 10) + 0)) = x by omega]
        rw [e0]
        intro i v hi
        match i, hi with
        | 0, hi => cases hi; rfl
        | 1, hi => cases hi; rfl
        | 2, hi => cases hi; rfl
        | i + 3, hi => simp at hi
      · intro p hp ρ' h' s3 w1 ag hT' hM' hF' hl' b1 b2
        have hp := List.mem_singleton.mp hp
        subst hp
        have a1 : ρ' 1 = x / 10 := ag 1 (by show 1 < 7; decide)
        have a2 : ρ' 2 = x % 10 := ag 2 (by show 2 < 7; decide)
        have a5 : ρ' 5 = r0 := ag 5 (by show 5 < 7; decide)
        have c1 : 0 ≤ (0 : Int) + ((-10) * ρ' 1 + ((-1) * ρ' 5 + (1 * ρ' 7 + 0))) := w1.2.2.1 _ (List.Mem.head _)
        have c2 : 0 ≤ (0 : Int) + (10 * ρ' 1 + (1 * ρ' 2 + ((-1) * ρ' 7 + 0))) := w1.2.2.1 _ (List.Mem.tail _ (List.Mem.head _))
        refine ⟨ρ' 7, by omega, by omega, ?_⟩
        show some (some (sz_v ρ' (0, 0, [(7, 1)]))) = _
        rw [sz_v_iv]
        show some (some (iv ((0 : Int) + (1 * ρ' 7 + 0)))) = _
        rw [show (0 : Int) + (1 * ρ' 7 + 0) = ρ' 7 by omega]
    have hsum : (decide (hv h 142 (1 + 4 * k) ≤ 2) = true ↔ hv h 142 (1 + 4 * k) ≤ 2) := decide_eq_true_iff
    have hneg : (decide (x.tmod 10 < 0) = true ↔ x.tmod 10 < 0) := decide_eq_true_iff
    by_cases hq : x / 10 = e / 10
    · refine fin _ _ (e % 10) hsum hneg (by omega) (by omega) ?_ ?_ (by omega)
      · rcases ha with ha | ha
        · omega
        · omega
      · intro hs
        rcases ha with ha | ha
        · exact ha
        · rw [decide_eq_false_iff_not] at hs
          exact absurd ha.1 hs
    · exact fin _ _ 0 hsum hneg (by omega) (by omega) (by omega) (fun _ => rfl) (by omega)
  obtain ⟨n, o', s', hr, y, y1, y2, ho⟩ := key
  subst ho
  obtain ⟨a1, _⟩ := mr_ok hT.1 rfl rfl (0, 0) (Nat.le_refl 3) (by decide) (sn_args k x) hr
  subst a1
  exact ⟨y, y1, y2, n, hr⟩
