/-! layEarly: whole -/
set_option maxRecDepth 20000 in
theorem sort_ty {k : Nat} (hk : k < 10) : az_ty azC142 (1 + 4 * k) = some (0, 0, [(0, 5)]) := by
  match k, hk with
  | 0, _ => decide +kernel
  | 1, _ => decide +kernel
  | 2, _ => decide +kernel
  | 3, _ => decide +kernel
  | 4, _ => decide +kernel
  | 5, _ => decide +kernel
  | 6, _ => decide +kernel
  | 7, _ => decide +kernel
  | 8, _ => decide +kernel
  | 9, _ => decide +kernel
  | k + 10, h => omega
set_option maxRecDepth 20000 in
theorem delay_ty : az_ty azC142 79 = some (0, 0, [(1, 10)]) := by decide +kernel
set_option maxRecDepth 20000 in
theorem many_ty : az_ty azC142 0 = some (0, 0, [(0, 10)]) := by decide +kernel
set_option maxRecDepth 20000 in
theorem le_loop {X : List (List Value)} (hX : az_X X) (hB : az_Valid X bhB) {h0 : List mzC} {s0 : Nat × Nat} {g : Int} (hg : 1 ≤ g ∧ g ≤ 200) {n : Nat} (hn : 1 ≤ n ∧ n ≤ 10) {d : Nat} (hd : 4 ≤ d) (hlen : h0.length + 6000 < 2147483648) : ∀ (N : Nat) (h : List mzC) (s2 : Nat × Nat) (lo : mzL) (more : Int) (k o : Nat), leS X h0 s0 g n h s2 more k o → leM h n more k o < (N : Int) → az_ml lo [.ref 145, iv g, iv n, iv more, iv k, iv o] → mz_gg X (leK X h0 s0 g n) d 123 37 lo [] (h, s2) := by
  intro N
  induction N with
  | zero =>
    intro h s2 lo more k o hS hN hlo
    obtain ⟨hT, hM0, hl, hs1, hs2, hm, hk, ho, hbd, hal, hsat⟩ := hS
    have := mu_le hbd
    unfold leM at hN
    omega
  | succ N ih =>
    intro h s2 lo more k o hS hN hlo
    obtain ⟨hT, hM0, hl, hs1, hs2, hm, hk, ho, hbd, hal, hsat⟩ := hS
    obtain ⟨v, v1, v2, hb⟩ := bh_ex hB hT (by omega) (k := k) (o := o) (by omega) (by omega) hg
    obtain ⟨eo, eo1, eo2⟩ := hv_early hT.1 (k := o) (by omega)
    obtain ⟨ek, ek1, ek2⟩ := hv_early hT.1 (k := k) (by omega)
    have bo := hbd o ho
    have bk := hbd k hk
    by_cases hc : hv h 151 o + v ≤ hv h 151 k
    · refine az_go (c := leCF) (ends := [leEF]) (i0 := 37) (kn := some leKF) (ρ := rho [g, n, more, k, o, hv h 151 o, hv h 151 k, v] ((h.length : Int) + 4)) sz_pkall_szP hX (tb := []) (fun c hc => by cases hc) leQ_ok (az_wfc_ok rfl) leRF rfl rfl rfl (by show h.length + 1000 * (4 + 2) < 2147483648; omega) rfl hd ?_ hT ?_ ?_ ?_ (fun p hp => by cases hp) ?_
      · exact rho_V (rho_free rfl _) (show rin [(1, 200), (1, 10), (0, 1), (0, 9), (0, 9), (0, 999), (0, 999), ((-1000000), 40)] [g, n, more, k, o, hv h 151 o, hv h 151 k, v] from by simp only [rin, and_true]; omega) rfl (by omega) (by decide) (show 0 ≤ (-1 : Int) + (1 * (n : Int) + ((-1) * (k : Int) + 0)) ∧ 0 ≤ (-1 : Int) + (1 * (n : Int) + ((-1) * (o : Int) + 0)) ∧ 0 ≤ (0 : Int) + ((-1) * hv h 151 o + (1 * hv h 151 k + ((-1) * v + 0))) ∧ True from ⟨by omega, by omega, by omega, trivial⟩)
      · exact HF_cons o (hv h 151 o) (by decide) (show (0 : Int) + (1 * (o : Int) + 0) = o by omega) (by omega) (by rw [sz_v_iv]; show iv ((0 : Int) + (1 * hv h 151 o + 0)) = _; congr 1; omega) eo (HF_cons k (hv h 151 k) (by decide) (show (0 : Int) + (1 * (k : Int) + 0) = k by omega) (by omega) (by rw [sz_v_iv]; show iv ((0 : Int) + (1 * hv h 151 k + 0)) = _; congr 1; omega) ek (HF_nil _ _))
      · exact ml6r hlo (show (0 : Int) + (1 * g + 0) = g by omega) (show (0 : Int) + (1 * (n : Int) + 0) = n by omega) (show (0 : Int) + (1 * more + 0) = more by omega) (show (0 : Int) + (1 * (k : Int) + 0) = k by omega) (show (0 : Int) + (1 * (o : Int) + 0) = o by omega)
      · intro kk hkk ρ2 ag ρ1 hh args s3 d' hal' hbd' hMM hV1 hL1 hH1 hln hd1
        cases hkk
        have q0 : ρ1 0 = (0 : Int) + (1 * ρ2 3 + 0) := hbd' 0 _ rfl
        have q1 : ρ1 1 = (0 : Int) + (1 * ρ2 4 + 0) := hbd' 1 _ rfl
        have q2 : ρ1 2 = (0 : Int) + (1 * ρ2 0 + 0) := hbd' 2 _ rfl
        have q3 : ρ1 3 = (0 : Int) + (1 * ρ2 7 + 0) := hbd' 3 _ rfl
        have g0 : ρ2 0 = g := ag.1 0 (by decide)
        have g3 : ρ2 3 = k := ag.1 3 (by decide)
        have g4 : ρ2 4 = o := ag.1 4 (by decide)
        have g7 : ρ2 7 = v := ag.1 7 (by decide)
        exact bh_kn hT.1 hb (by omega) (by omega) (by omega) (by omega) hal' (HM_cell hT.1 hH1.1 hMM azL_141 rfl) (HM_cell hT.1 hH1.1 hMM azL_142 rfl) hV1 hL1 hH1 hd1
      · intro E hE ρ' h' s3 lo' w1 ag hT' hM' hF' hl' b1 b2 hml
        have e := List.mem_singleton.mp hE
        subst e
        have a0 : ρ' 0 = g := ag 0 (by decide)
        have a1 : ρ' 1 = n := ag 1 (by decide)
        have a2 : ρ' 2 = more := ag 2 (by decide)
        have a3 : ρ' 3 = k := ag 3 (by decide)
        have a4 : ρ' 4 = o := ag 4 (by decide)
        have e : ∀ c i, c < 163 → hv h' c i = hv h c i := fun c i hc => HM_hv hM' hc rfl
        have hmu : mu h' n = mu h n := mu_eq (fun i _ => e 151 i (by decide))
        refine le_next hX hg hn hd hlen (more := more) (k := k) (o := o) hT' (HM_trans hM0 hM' (fun _ _ _ => rfl)) (by omega) (Nat.le_trans b1 hs1) (Nat.le_trans b2 hs2) hm hk ho (fun i hi => by rw [e 151 i (by decide)]; exact hbd i hi) (fun i hi => by rw [e 151 i (by decide)]; exact alw_tr (fun j => e 142 j (by decide)) (hal i hi)) ?_ ?_ ?_
        · intro hm0 k' o' hk' ho' hlt
          by_cases hkk : k' = k ∧ o' = o
          · obtain ⟨rfl, rfl⟩ := hkk
            exact sat1_tr hT.1 hT'.1 hM' rfl ⟨v, v1, v2, hb, hc⟩
          · exact sat1_tr hT.1 hT'.1 hM' rfl (hsat hm0 k' o' hk' ho' (by omega))
        · exact ml6 hml (show (0 : Int) + (1 * ρ' 0 + 0) = g by omega) (show (0 : Int) + (1 * ρ' 1 + 0) = n by omega) (show (0 : Int) + (1 * ρ' 2 + 0) = more by omega) (show (0 : Int) + (1 * ρ' 3 + 0) = (k : Nat) by omega) (show (0 : Int) + (1 * ρ' 4 + 0) = (o : Nat) by omega)
        · intro h2 s4 lo2 more2 k2 o2 hS2 hlt hml2
          refine ih h2 s4 lo2 more2 k2 o2 hS2 ?_ hml2
          unfold leM at hlt hN ⊢
          rw [hmu] at hlt
          omega
    · have hk10 : k < 10 := by omega
      obtain ⟨es, es1, es2⟩ := hv_slot hT.1 azL_142 (sort_ty hk10)
      obtain ⟨ed, ed1, ed2⟩ := hv_slot hT.1 azL_142 delay_ty
      have hrun := List.all_eq_true.mp leRGs k (List.mem_range.mpr hk10)
      have ht0 : 0 ≤ hv h 151 o + v := by omega
      refine az_go (c := leCG k) (ends := leEGs k) (i0 := 37) (kn := some (leKG k)) (ρ := rho [g, n, more, k, o, hv h 151 o, hv h 151 k, hv h 151 o + v, (hv h 151 o + v) % 10, hv h 142 (1 + 4 * k), hv h 142 79] ((h.length : Int) + 4)) sz_pkall_szP hX (tb := []) (fun c hc => by cases hc) leQ_ok (az_wfc_ok rfl) hrun rfl rfl rfl (by show h.length + 1000 * (4 + 2) < 2147483648; omega) rfl hd ?_ hT ?_ ?_ ?_ ?_ ?_
      · refine rho_V ⟨?_, ?_⟩ (show rin [(1, 200), (1, 10), (0, 1), ((k : Int), (k : Int)), (0, 9), (0, 999), (0, 999), (1, 1039), (0, 9), (0, 5), (1, 10)] [g, n, more, k, o, hv h 151 o, hv h 151 k, hv h 151 o + v, (hv h 151 o + v) % 10, hv h 142 (1 + 4 * k), hv h 142 79] from by simp only [rin, and_true]; omega) ?_ (by omega) (by show 11 ≤ 1000000; decide) (show 0 ≤ (-1 : Int) + (1 * (n : Int) + ((-1) * (k : Int) + 0)) ∧ 0 ≤ (-1 : Int) + (1 * (n : Int) + ((-1) * (o : Int) + 0)) ∧ 0 ≤ (-1 : Int) + ((-1) * hv h 151 k + (1 * (hv h 151 o + v) + 0)) ∧ 0 ≤ (40 : Int) + (1 * hv h 151 o + ((-1) * (hv h 151 o + v) + 0)) ∧ True from ⟨by omega, by omega, by omega, by omega, trivial⟩)
        · intro i op x y hi hop
          match i, hi with
          | 8, hi =>
            cases hi
            show (hv h 151 o + v) % 10 = (sz_op 20 (Int32.ofInt ((0 : Int) + (1 * (hv h 151 o + v) + 0))) (Int32.ofInt ((10 : Int) + 0))).toInt
            rw [show (0 : Int) + (1 * (hv h 151 o + v) + 0) = hv h 151 o + v by omega, show (10 : Int) + 0 = 10 by omega, op20 ht0 (by omega)]
          | 0, hi => cases hi; exact absurd rfl hop
          | 1, hi => cases hi; exact absurd rfl hop
          | 2, hi => cases hi; exact absurd rfl hop
          | 3, hi => cases hi; exact absurd rfl hop
          | 4, hi => cases hi; exact absurd rfl hop
          | 5, hi => cases hi; exact absurd rfl hop
          | 6, hi => cases hi; exact absurd rfl hop
          | 7, hi => cases hi; exact absurd rfl hop
          | 9, hi => cases hi; exact absurd rfl hop
          | 10, hi => cases hi; exact absurd rfl hop
          | i + 11, hi => simp [leCG] at hi
        · intro i x y hi hx
          match i, hi with
          | 8, hi => cases hi
          | 0, hi => cases hi; exact absurd rfl hx
          | 1, hi => cases hi; exact absurd rfl hx
          | 2, hi => cases hi; exact absurd rfl hx
          | 3, hi => cases hi; exact absurd rfl hx
          | 4, hi => cases hi; exact absurd rfl hx
          | 5, hi => cases hi; exact absurd rfl hx
          | 6, hi => cases hi; exact absurd rfl hx
          | 7, hi => cases hi; exact absurd rfl hx
          | 9, hi => cases hi; exact absurd rfl hx
          | 10, hi => cases hi; exact absurd rfl hx
          | i + 11, hi => simp [leCG] at hi
        · show (leRs k).all _ = true
          unfold leRs
          simp only [List.all_cons, List.all_nil, Bool.and_eq_true, decide_eq_true_eq, Bool.and_true]
          omega
      · exact HF_cons o (hv h 151 o) (by decide) (show (0 : Int) + (1 * (o : Int) + 0) = o by omega) (by omega) (by rw [sz_v_iv]; show iv ((0 : Int) + (1 * hv h 151 o + 0)) = _; congr 1; omega) eo (HF_cons k (hv h 151 k) (by decide) (show (k : Int) + 0 = k by omega) (by omega) (by rw [sz_v_iv]; show iv ((0 : Int) + (1 * hv h 151 k + 0)) = _; congr 1; omega) ek (HF_cons (1 + 4 * k) (hv h 142 (1 + 4 * k)) (by decide) (show ((1 + 4 * k : Nat) : Int) + 0 = ((1 + 4 * k : Nat) : Int) by omega) (by omega) (by rw [sz_v_iv]; show iv ((0 : Int) + (1 * hv h 142 (1 + 4 * k) + 0)) = _; congr 1; omega) es (HF_cons 79 (hv h 142 79) (by decide) (show (79 : Int) + 0 = ((79 : Nat) : Int) by omega) (by omega) (by rw [sz_v_iv]; show iv ((0 : Int) + (1 * hv h 142 79 + 0)) = _; congr 1; omega) ed (HF_nil _ _))))
      · exact ml6r hlo (show (0 : Int) + (1 * g + 0) = g by omega) (show (0 : Int) + (1 * (n : Int) + 0) = n by omega) (show (0 : Int) + (1 * more + 0) = more by omega) (show (k : Int) + 0 = k by omega) (show (0 : Int) + (1 * (o : Int) + 0) = o by omega)
      · intro kk hkk ρ2 ag ρ1 hh args s3 d' hal' hbd' hMM hV1 hL1 hH1 hln hd1
        cases hkk
        have q0 : ρ1 0 = (k : Int) + 0 := hbd' 0 _ rfl
        have q1 : ρ1 1 = (0 : Int) + (1 * ρ2 4 + 0) := hbd' 1 _ rfl
        have q2 : ρ1 2 = (0 : Int) + (1 * ρ2 0 + 0) := hbd' 2 _ rfl
        have q3 : ρ1 3 = (0 : Int) + ((-1) * ρ2 5 + (1 * ρ2 7 + 0)) := hbd' 3 _ rfl
        have g0 : ρ2 0 = g := ag.1 0 (by show 0 < 11; decide)
        have g4 : ρ2 4 = o := ag.1 4 (by show 4 < 11; decide)
        have g5 : ρ2 5 = hv h 151 o := ag.1 5 (by show 5 < 11; decide)
        have g7 : ρ2 7 = hv h 151 o + v := ag.1 7 (by show 7 < 11; decide)
        refine bh_kn hT.1 hb (by omega) (by omega) (by omega) (by omega) hal' (HM_cell hT.1 hH1.1 hMM azL_141 ?_) (HM_cell hT.1 hH1.1 hMM azL_142 ?_) hV1 hL1 hH1 hd1 <;> rfl
      · intro p hp ρ' h' s3 w1 ag hT' hM' hF' hl' b1 b2
        have hp := List.mem_singleton.mp hp
        subst hp
        refine ⟨hT', HM_trans hM0 hM' md_sub, by show h'.length = _; omega, Nat.le_trans b1 hs1, Nat.le_trans b2 hs2, Or.inl ?_⟩
        show some (some (sz_v ρ' (0, 0, []))) = _
        rw [sz_v_iv]
        rfl
      · intro E hE ρ' h' s3 lo' w1 ag hT' hM' hF' hl' b1 b2 hml
        have a0 : ρ' 0 = g := ag 0 (by show 0 < 11; decide)
        have a1 : ρ' 1 = n := ag 1 (by show 1 < 11; decide)
        have a4 : ρ' 4 = o := ag 4 (by show 4 < 11; decide)
        have a7 : ρ' 7 = hv h 151 o + v := ag 7 (by show 7 < 11; decide)
        have a8 : ρ' 8 = (hv h 151 o + v) % 10 := ag 8 (by show 8 < 11; decide)
        have a9 : ρ' 9 = hv h 142 (1 + 4 * k) := ag 9 (by show 9 < 11; decide)
        have a10 : ρ' 10 = hv h 142 79 := ag 10 (by show 10 < 11; decide)
        have e142 : ∀ i, hv h' 142 i = hv h 142 i := fun i => HM_hv hM' (by decide) (md_other (by decide))
        have e151 : ∀ i, i ≠ k → hv h' 151 i = hv h 151 i := fun i hi => HM_hv hM' (by decide) (md_one hi)
        have fin : ∀ (Cs : azS) (fv : szV), E = leEG k Cs fv → ∀ (x : Int), sz_v ρ' fv = iv x → hv h 151 k + 1 ≤ x → x ≤ 999 → alw h k x → mz_gg X (leK X h0 s0 g n) d (leCG k).1 E.1 lo' [] (h', s3) := by
          intro Cs fv hEe x hx hx1 hx2 hx3
          subst hEe
          have hsl := HF_get hF' (c := 151) (k := k) (v := fv) (by decide) (by omega) (List.Mem.head _)
          rw [hx] at hsl
          have hkx : hv h' 151 k = x := hv_val hsl (by omega) (by omega)
          have hmu := mu_up (h := h) (h' := h') hk (fun i _ hik => e151 i hik)
          refine le_next hX hg hn hd hlen (more := 1) (k := k) (o := o) hT' (HM_trans hM0 hM' md_sub) (by omega) (Nat.le_trans b1 hs1) (Nat.le_trans b2 hs2) (Or.inr rfl) hk ho ?_ ?_ (fun hm0 => absurd hm0 (by decide)) ?_ ?_
          · intro i hi
            by_cases hik : i = k
            · subst hik; rw [hkx]; exact hx2
            · rw [e151 i hik]; exact hbd i hi
          · intro i hi
            by_cases hik : i = k
            · subst hik; rw [hkx]; exact alw_tr e142 hx3
            · rw [e151 i hik]; exact alw_tr e142 (hal i hi)
          · exact ml6 hml (show (0 : Int) + (1 * ρ' 0 + 0) = g by omega) (show (0 : Int) + (1 * ρ' 1 + 0) = n by omega) (show (1 : Int) + 0 = 1 by omega) (show (k : Int) + 0 = (k : Nat) by omega) (show (0 : Int) + (1 * ρ' 4 + 0) = (o : Nat) by omega)
          · intro h2 s4 lo2 more2 k2 o2 hS2 hlt hml2
            refine ih h2 s4 lo2 more2 k2 o2 hS2 ?_ hml2
            unfold leM at hlt hN ⊢
            rw [hmu, hkx] at hlt
            omega
        rcases List.mem_cons.mp hE with e | hE
        · have z := w1
          rw [e] at z
          have c1 : 0 ≤ (2 : Int) + ((-1) * ρ' 9 + 0) := z.2.2.1 _ (List.Mem.head _)
          have c2 : 0 ≤ (10 : Int) + ((-1) * ρ' 8 + ((-1) * ρ' 10 + 0)) := z.2.2.1 _ (List.Mem.tail _ (List.Mem.head _))
          have c3 : 0 ≤ (999 : Int) + ((-1) * ρ' 7 + 0) := z.2.2.1 _ (List.Mem.tail _ (List.Mem.tail _ (List.Mem.head _)))
          exact fin _ _ e (hv h 151 o + v) (by rw [sz_v_iv]; show iv ((0 : Int) + (1 * ρ' 7 + 0)) = _; congr 1; omega) (by omega) (by omega) (Or.inr ⟨by omega, by omega⟩)
        rcases List.mem_cons.mp hE with e | hE
        · have z := w1
          rw [e] at z
          have c2 : 0 ≤ (0 : Int) + ((-1) * ρ' 8 + 0) := z.2.2.1 _ (List.Mem.tail _ (List.Mem.head _))
          have c3 : 0 ≤ (999 : Int) + ((-1) * ρ' 7 + 0) := z.2.2.1 _ (List.Mem.tail _ (List.Mem.tail _ (List.Mem.head _)))
          exact fin _ _ e (hv h 151 o + v) (by rw [sz_v_iv]; show iv ((0 : Int) + (1 * ρ' 7 + 0)) = _; congr 1; omega) (by omega) (by omega) (Or.inl (by omega))
        · have e := List.mem_singleton.mp hE
          have z := w1
          rw [e] at z
          have c1 : 0 ≤ (989 : Int) + ((-1) * ρ' 7 + (1 * ρ' 8 + 0)) := z.2.2.1 _ (List.Mem.head _)
          exact fin _ _ e (hv h 151 o + v - (hv h 151 o + v) % 10 + 10) (by rw [sz_v_iv]; show iv ((10 : Int) + (1 * ρ' 7 + ((-1) * ρ' 8 + 0))) = _; congr 1; omega) (by omega) (by omega) (Or.inl (by omega))
set_option maxRecDepth 20000 in
/-- layEarly -/
theorem le_all {X : List (List Value)} (hX : az_X X) (hB : az_Valid X bhB) {h : List mzC} (hT : az_Tp h) (hlen : h.length + 6000 < 2147483648) {g : Int} (hg : 1 ≤ g ∧ g ≤ 200) {d : Nat} (hd : 4 ≤ d) {s2 : Nat × Nat} {lo : mzL} (hlo : az_ml lo [.ref 145, iv g]) : mz_gg X (leK X h s2 g (hv h 142 0).toNat) d 123 0 lo [] (h, s2) := by
  obtain ⟨en, en1, en2⟩ := hv_slot hT.1 azL_142 many_ty
  refine az_go (c := leCI) (ends := leEIs) (i0 := 0) (ρ := rho [g, hv h 142 0] ((h.length : Int) + 4)) sz_pkall_szP hX (tb := []) (fun c hc => by cases hc) leQ_ok (az_wfc_ok rfl) leRI rfl rfl rfl (by show h.length + 1000 * (4 + 2) < 2147483648; omega) rfl hd ?_ hT ?_ ?_ (fun k hk => by cases hk) ?_ ?_
  · exact rho_V (rho_free rfl _) (show rin [(1, 200), (0, 10)] [g, hv h 142 0] from by simp only [rin, and_true]; omega) rfl (by omega) (by decide) trivial
  · exact HF_cons 0 (hv h 142 0) (by decide) (show (0 : Int) + 0 = ((0 : Nat) : Int) by omega) (by omega) (by rw [sz_v_iv]; show iv ((0 : Int) + (1 * hv h 142 0 + 0)) = _; congr 1; omega) en (HF_nil _ _)
  · have e : leCI.2.2.1.2.2.2.1.map (sz_v (rho [g, hv h 142 0] ((h.length : Int) + 4))) = [.ref 145, iv g] := by
      show [sz_v _ (1, 145, []), sz_v _ (0, 0, [(0, 1)])] = _
      rw [sz_v_ref _ (by decide), sz_v_iv]
      show [Value.ref 145, iv ((0 : Int) + (1 * g + 0))] = _
      rw [show (0 : Int) + (1 * g + 0) = g by omega]
    rw [e]
    exact hlo
  · intro p hp ρ' h' s3 w1 ag hT' hM' hF' hl' b1 b2
    have hp := List.mem_singleton.mp hp
    subst hp
    have a1 : ρ' 1 = hv h 142 0 := ag 1 (by decide)
    have r1 : (0 : Int) ≤ ρ' 1 ∧ ρ' 1 ≤ 0 := w1.2.1 1
    have hz : (hv h 142 0).toNat = 0 := by omega
    refine ⟨hT', hM', hl', b1, b2, Or.inr ⟨?_, fun i hi => by omega, fun k o hk => by omega⟩⟩
    show some (some (sz_v ρ' (0, 1, []))) = _
    rw [sz_v_iv]
    rfl
  · intro E hE ρ' h' s3 lo' w1 ag hT' hM' hF' hl' b1 b2 hml
    obtain ⟨i, hi, e⟩ := List.mem_map.mp hE
    have hi := List.mem_range.mp hi
    subst e
    have a0 : ρ' 0 = g := ag 0 (by decide)
    have a1 : ρ' 1 = hv h 142 0 := ag 1 (by decide)
    have r1 : ((i + 1 : Nat) : Int) ≤ ρ' 1 ∧ ρ' 1 ≤ ((i + 1 : Nat) : Int) := w1.2.1 1
    have hz : (hv h 142 0).toNat = i + 1 := by omega
    have e0 : ∀ k, k < i + 1 → hv h' 151 k = 0 := by
      intro k hk
      have := HF_get hF' (c := 151) (k := k) (v := (0, 0, [])) (by decide) (by omega) (List.mem_map.mpr ⟨k, List.mem_range.mpr hk, rfl⟩)
      rw [sz_v_iv] at this
      exact hv_val this (by decide) (by decide)
    rw [hz]
    refine le_loop hX hB hg (by omega) hd hlen ((leM h' (i + 1) 0 0 0).toNat + 1) h' s3 lo' 0 0 0 ⟨hT', hM', hl', b1, b2, Or.inl rfl, by omega, by omega, fun k hk => by rw [e0 k hk]; decide, fun k hk => by rw [e0 k hk]; exact Or.inl rfl, fun _ k' o' _ _ hlt => absurd hlt (by omega)⟩ (by omega) ?_
    exact ml6 hml (show (0 : Int) + (1 * ρ' 0 + 0) = g by omega) (show (0 : Int) + (1 * ρ' 1 + 0) = ((i + 1 : Nat) : Int) by omega) (show (0 : Int) + 0 = 0 by omega) (show (0 : Int) + 0 = ((0 : Nat) : Int) by omega) (show (0 : Int) + 0 = ((0 : Nat) : Int) by omega)
