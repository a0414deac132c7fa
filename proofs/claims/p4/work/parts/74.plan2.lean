/-! planOf: whole -/
def plK (h0 : List mzC) (s0 : Nat × Nat) (o : Option (Option Value)) (s' : mzS) : Prop := az_Tp s'.1 ∧ az_HM poMd h0 s'.1 ∧ s'.1.length = h0.length ∧ s'.2.1 ≤ s0.1 ∧ s'.2.2 ≤ s0.2 ∧ (o = some (some (iv 0)) ∨ o = some (some (iv 1)))
/-- what holds at each round of planOf -/
def plS (h0 : List mzC) (s0 : Nat × Nat) (N : Nat) (h : List mzC) (s2 : Nat × Nat) (i : Nat) : Prop := az_Tp h ∧ az_HM poMd h0 h ∧ h.length = h0.length ∧ s2.1 ≤ s0.1 ∧ s2.2 ≤ s0.2 ∧ hv h 142 0 = (N : Int) ∧ i < N ∧ cnt (hv h 141 20) N = i ∧ (∀ o, o < 10 → bt (hv h 141 20) o → hv h 153 o ≤ poB i)
set_option maxRecDepth 20000 in
theorem plS_tr {h0 : List mzC} {s0 : Nat × Nat} {N : Nat} {h h' : List mzC} {s2 s3 : Nat × Nat} {i : Nat} (hS : plS h0 s0 N h s2 i) (hT' : az_Tp h') (hM' : az_HM [] h h') (hl' : h'.length = h.length) (b1 : s3.1 ≤ s2.1) (b2 : s3.2 ≤ s2.2) : plS h0 s0 N h' s3 i ∧ hv h' 141 20 = hv h 141 20 := by
  obtain ⟨hT, hM0, hl, hs1, hs2, hN, hi, hc, hb⟩ := hS
  have e : ∀ c j, c < 163 → hv h' c j = hv h c j := fun c j hc => HM_hv hM' hc rfl
  refine ⟨⟨hT', HM_trans hM0 hM' (fun _ _ _ => rfl), by omega, by omega, by omega, by rw [e 142 0 (by decide)]; exact hN, hi, by rw [e 141 20 (by decide)]; exact hc, fun o ho hbt => ?_⟩, e 141 20 (by decide)⟩
  rw [e 141 20 (by decide)] at hbt
  rw [e 153 o (by decide)]
  exact hb o ho hbt
set_option maxRecDepth 20000 in
theorem pl_next {X : List (List Value)} (hX : az_X X) (hB : az_Valid X bhB) (hR : az_Valid X hrB) {h0 : List mzC} {s0 : Nat × Nat} (hlen : h0.length + 7000 < 2147483648) {N : Nat} (hN : 1 ≤ N ∧ N ≤ 10) {g : Int} (hg : 1 ≤ g ∧ g ≤ 200) {d : Nat} (hd : 5 ≤ d) {h : List mzC} {s2 : Nat × Nat} {i : Nat} (hS : plS h0 s0 N h s2 i) {nx : Nat} (hnx : nx < N) (hnb : ¬ bt (hv h 141 20) nx) {lo : mzL} (hlo : az_ml lo [.ref 145, iv g, iv i, iv nx])
    (hgo : ∀ h' s3 lo', plS h0 s0 N h' s3 (i + 1) → az_ml lo' [.ref 145, iv g, iv ((i + 1 : Nat) : Int), iv (-1), iv ((0 : Nat) : Int)] → mz_gg X (plK h0 s0) d 143 15 lo' [] (h', s3)) : mz_gg X (plK h0 s0) d 143 41 lo [] (h, s2) := by
  obtain ⟨hT, hM0, hl, hs1, hs2, hNv, hi, hc, hb⟩ := hS
  obtain ⟨d1, rfl⟩ : ∃ d1, d = d1 + 1 := ⟨d - 1, by omega⟩
  refine g_ld plM_ok (a := 0) (b := 1) rfl (hlo 0 _ rfl) rfl (by decide) ?_
  refine g_ld plM_ok (a := 3) (b := 0) rfl (hlo 3 _ rfl) rfl (by decide) ?_
  refine g_ld plM_ok (a := 1) (b := 0) rfl (hlo 1 _ rfl) rfl (by decide) ?_
  refine az_gg_by plM_ok (ri := (40, 142, 3, 0, [])) rfl rfl (as := [.ref 145, iv nx, iv g]) (rest := []) rfl poM_ok (by decide) (by show (3 : Nat) ≤ 7; decide) (recv_m hT.1 _ _) (K' := poK h s2 nx i) ?_ ?_
  · refine po_all hX hB hR hT (by omega) (by omega) hg (by omega) hb (by omega) ?_
    intro j v hj
    match j, hj with
    | 0, hj => cases hj; rfl
    | 1, hj => cases hj; rfl
    | 2, hj => cases hj; rfl
    | j + 3, hj => simp at hj
  · intro o s' hk
    obtain ⟨kT, kM, kl, k1, k2, ko⟩ := hk
    obtain ⟨h', s3⟩ := s'
    dsimp only at kT kM kl k1 k2 ko
    have hM1 : az_HM poMd h0 h' := HM_trans hM0 kM (fun _ _ hh => hh)
    have eN : hv h' 142 0 = (N : Int) := by
      rw [HM_hv kM (by decide) (by show az_md [(153, 0), (141, 21)] 142 0 = false; decide)]
      exact hNv
    obtain ⟨en, en1, en2⟩ := hv_slot kT.1 azL_142 many_ty
    rcases ko with ko | ⟨ko, kb, ks⟩
    · subst ko
      refine ⟨_, rfl, ?_⟩
      refine mz_gg_one plM_ok (ri := (16, 1, 48, 0, [])) rfl (Or.inl (by decide)) (q := (46, lo, [])) rfl ?_
      refine az_go (c := plC3) (ends := []) (i0 := 46) (ρ := rho [] ((h'.length : Int) + 4)) sz_pkall_szP hX (tb := []) (fun c hc => by cases hc) plQ_ok (az_wfc_ok rfl) plR3 rfl rfl rfl (by show h'.length + 1000 * (5 + 2) < 2147483648; omega) rfl hd ?_ kT (HF_nil _ _) ?_ (fun k hk => by cases hk) ?_ (fun E hE => by cases hE)
      · exact rho_V (rho_free rfl _) trivial rfl (by omega) (by decide) trivial
      · intro j v hj
        match j, hj with
        | 0, hj =>
          have e : sz_v (rho [] ((h'.length : Int) + 4)) (1, 145, []) = .ref 145 := sz_v_ref _ (by decide) _
          have hj : some (sz_v (rho [] ((h'.length : Int) + 4)) (1, 145, [])) = some v := hj
          rw [e] at hj
          cases hj
          exact hlo 0 _ rfl
        | j + 1, hj => simp [plC3] at hj
      · intro p hp ρ' h2 s4 w1 ag hT' hM' hF' hl' b1 b2
        have hp := List.mem_singleton.mp hp
        subst hp
        refine ⟨hT', HM_trans hM1 hM' (fun _ _ _ => rfl), by show h2.length = _; omega, by show s4.1 ≤ _; omega, by show s4.2 ≤ _; omega, Or.inl ?_⟩
        show some (some (sz_v ρ' (0, 0, []))) = _
        rw [sz_v_eq (show (0 : Int) + 0 = 0 by omega)]
    · subst ko
      refine ⟨_, rfl, ?_⟩
      refine mz_gg_one plM_ok (ri := (16, 1, 48, 0, [])) rfl (Or.inl (by decide)) (q := (48, lo, [])) rfl ?_
      have hcn : cnt (hv h' 141 20) N = i + 1 := by
        rw [cnt_add hnb hnx (fun j hj => kb j (by omega)), hc]
      refine az_go (c := plC4) (ends := [plE4]) (i0 := 48) (ρ := rho [g, N, i] ((h'.length : Int) + 4)) sz_pkall_szP hX (tb := []) (fun c hc => by cases hc) plQ_ok (az_wfc_ok rfl) plR4 rfl rfl rfl (by show h'.length + 1000 * (5 + 2) < 2147483648; omega) rfl hd ?_ kT ?_ ?_ (fun k hk => by cases hk) ?_ ?_
      · exact rho_V (rho_free rfl _) (show rin [(1, 200), (1, 10), (0, 9)] [g, (N : Int), (i : Int)] from by simp only [rin, and_true]; omega) rfl (by omega) (by decide) trivial
      · exact HF_cons 0 (N : Int) (by decide) (show (0 : Int) + 0 = ((0 : Nat) : Int) by omega) (by omega) (sz_v_eq (show (0 : Int) + (1 * (N : Int) + 0) = _ by omega)) (by rw [en, eN]) (HF_nil _ _)
      · exact ml3r (fun j v hj => hlo j v (by
          match j, hj with
          | 0, hj => exact hj
          | 1, hj => exact hj
          | 2, hj => exact hj
          | j + 3, hj => simp at hj)) (show (0 : Int) + (1 * g + 0) = g by omega) (show (0 : Int) + (1 * (i : Int) + 0) = (i : Int) by omega)
      · intro p hp ρ' h2 s4 w1 ag hT' hM' hF' hl' b1 b2
        have hp := List.mem_singleton.mp hp
        subst hp
        refine ⟨hT', HM_trans hM1 hM' (fun _ _ _ => rfl), by show h2.length = _; omega, by show s4.1 ≤ _; omega, by show s4.2 ≤ _; omega, Or.inr ?_⟩
        show some (some (sz_v ρ' (0, 1, []))) = _
        rw [sz_v_eq (show (1 : Int) + 0 = 1 by omega)]
      · intro E hE ρ' h2 s4 lo2 w1 ag hT' hM' hF' hl' b1 b2 hml
        have ee := List.mem_singleton.mp hE
        subst ee
        have a0 : ρ' 0 = g := ag 0 (by decide)
        have a1 : ρ' 1 = N := ag 1 (by decide)
        have a2 : ρ' 2 = i := ag 2 (by decide)
        have c1 : 0 ≤ (-2 : Int) + (1 * ρ' 1 + ((-1) * ρ' 2 + 0)) := w1.2.2.1 _ (List.Mem.head _)
        have hS1 : plS h0 s0 N h' s3 (i + 1) := ⟨kT, hM1, by omega, by omega, by omega, eN, by omega, hcn, ks⟩
        exact hgo h2 s4 lo2 (plS_tr hS1 hT' hM' hl' b1 b2).1 (ml5 hml (show (0 : Int) + (1 * ρ' 0 + 0) = g by omega) (show (1 : Int) + (1 * ρ' 2 + 0) = ((i + 1 : Nat) : Int) by omega) (show (-1 : Int) + 0 = -1 by omega) (show (0 : Int) + 0 = ((0 : Nat) : Int) by omega))
set_option maxRecDepth 20000 in
theorem pl_choose {X : List (List Value)} (hX : az_X X) {h0 : List mzC} {s0 : Nat × Nat} (hlen : h0.length + 7000 < 2147483648) {N : Nat} (hN : 1 ≤ N ∧ N ≤ 10) {g : Int} (hg : 1 ≤ g ∧ g ≤ 200) {d : Nat} (hd : 5 ≤ d) {i : Nat}
    (hgo : ∀ h s2 nx lo, plS h0 s0 N h s2 i → nx < N → ¬ bt (hv h 141 20) nx → az_ml lo [.ref 145, iv g, iv i, iv (nx : Nat)] → mz_gg X (plK h0 s0) d 143 41 lo [] (h, s2)) : ∀ (r k : Nat) (h : List mzC) (s2 : Nat × Nat) (lo : mzL) (nx : Int), plS h0 s0 N h s2 i → k + r = N → ((nx = -1 ∧ ∀ j, j < k → bt (hv h 141 20) j) ∨ (0 ≤ nx ∧ nx < N ∧ ¬ bt (hv h 141 20) nx.toNat)) → az_ml lo [.ref 145, iv g, iv i, iv nx, iv k] → mz_gg X (plK h0 s0) d 143 15 lo [] (h, s2) := by
  intro r
  induction r with
  | zero =>
    intro k h s2 lo nx hS hk hx hlo
    have hS0 := hS
    obtain ⟨hT, hM0, hl, hs1, hs2, hNv, hi, hc, hb⟩ := hS0
    have hkN : k = N := by omega
    subst hkN
    obtain ⟨en, en1, en2⟩ := hv_slot hT.1 azL_142 many_ty
    have hx2 : 0 ≤ nx ∧ nx < k ∧ ¬ bt (hv h 141 20) nx.toNat := by
      rcases hx with ⟨_, hx⟩ | hx
      · have := cnt_all hx
        omega
      · exact hx
    refine az_go (c := plC2) (ends := [plE2]) (i0 := 15) (ρ := rho [g, k, i, nx] ((h.length : Int) + 4)) sz_pkall_szP hX (tb := []) (fun c hc => by cases hc) plQ_ok (az_wfc_ok rfl) plR2 rfl rfl rfl (by show h.length + 1000 * (5 + 2) < 2147483648; omega) rfl hd ?_ hT ?_ ?_ (fun k hk => by cases hk) (fun p hp => by cases hp) ?_
    · exact rho_V (rho_free rfl _) (show rin [(1, 200), (1, 10), (0, 9), ((-1), 9)] [g, (k : Int), (i : Int), nx] from by simp only [rin, and_true]; omega) rfl (by omega) (by decide) trivial
    · exact HF_cons 0 (k : Int) (by decide) (show (0 : Int) + 0 = ((0 : Nat) : Int) by omega) (by omega) (sz_v_eq (show (0 : Int) + (1 * (k : Int) + 0) = _ by omega)) (by rw [en, hNv]) (HF_nil _ _)
    · exact ml5r hlo (show (0 : Int) + (1 * g + 0) = g by omega) (show (0 : Int) + (1 * (i : Int) + 0) = i by omega) (show (0 : Int) + (1 * nx + 0) = nx by omega) (show (0 : Int) + (1 * (k : Int) + 0) = k by omega)
    · intro E hE ρ' h2 s4 lo2 w1 ag hT' hM' hF' hl' b1 b2 hml
      have ee := List.mem_singleton.mp hE
      subst ee
      have a0 : ρ' 0 = g := ag 0 (by decide)
      have a2 : ρ' 2 = i := ag 2 (by decide)
      have a3 : ρ' 3 = nx := ag 3 (by decide)
      obtain ⟨hS2, e20⟩ := plS_tr hS hT' hM' hl' b1 b2
      have e : ([(1, 145, []), (0, 0, [(0, 1)]), (0, 0, [(2, 1)]), (0, 0, [(3, 1)])] : szLo).map (sz_v ρ') = [.ref 145, iv g, iv i, iv (nx.toNat : Nat)] := by
        simp only [List.map]
        rw [sz_v_ref _ (by decide), sz_v_eq (show (0 : Int) + (1 * ρ' 0 + 0) = g by omega), sz_v_eq (show (0 : Int) + (1 * ρ' 2 + 0) = i by omega), sz_v_eq (show (0 : Int) + (1 * ρ' 3 + 0) = ((nx.toNat : Nat) : Int) by omega)]
        rfl
      have hml : az_ml lo2 (([(1, 145, []), (0, 0, [(0, 1)]), (0, 0, [(2, 1)]), (0, 0, [(3, 1)])] : szLo).map (sz_v ρ')) := hml
      rw [e] at hml
      exact hgo h2 s4 nx.toNat lo2 hS2 (by omega) (by rw [e20]; exact hx2.2.2) hml
  | succ r ih =>
    intro k h s2 lo nx hS hk hx hlo
    have hS0 := hS
    obtain ⟨hT, hM0, hl, hs1, hs2, hNv, hi, hc, hb⟩ := hS0
    have hk10 : k < 10 := by omega
    obtain ⟨en, en1, en2⟩ := hv_slot hT.1 azL_142 many_ty
    obtain ⟨es, es1, es2⟩ := hv_slot hT.1 azL_141 put_ty
    have ea : 0 ≤ hv h 141 20 / 2 ^ k ∧ hv h 141 20 / 2 ^ k ≤ 1023 := by
      have hp : (0 : Int) < 2 ^ k := Int.pow_pos (by decide)
      exact ⟨Int.ediv_nonneg es1 (by omega), Int.le_trans (Int.ediv_le_self _ es1) es2⟩
    have hnx : -1 ≤ nx ∧ nx ≤ 9 := by
      rcases hx with hx | hx <;> omega
    have fin : ∀ b : Bool, hv h 141 20 / 2 ^ k % 2 = (bif b then 1 else 0) → mz_gg X (plK h0 s0) d 143 15 lo [] (h, s2) := by
      intro b hb1
      have hrun := List.all_eq_true.mp (List.all_eq_true.mp plR1s k (List.mem_range.mpr hk10)) b (by cases b <;> decide)
      have hrs : rin (plR1 k b) [g, (N : Int), (i : Int), nx, hv h 141 20, hv h 141 20 / 2 ^ k, hv h 141 20 / 2 ^ k % 2] := by
        unfold plR1
        generalize hv h 141 20 / 2 ^ k = A at *
        cases b
        · simp only [rin, and_true, cond_true, cond_false] at *
          omega
        · simp only [rin, and_true, cond_true, cond_false] at *
          omega
      refine az_go (c := plC1 k b) (ends := plE1s k b) (i0 := 15) (ρ := rho [g, (N : Int), (i : Int), nx, hv h 141 20, hv h 141 20 / 2 ^ k, hv h 141 20 / 2 ^ k % 2] ((h.length : Int) + 4)) sz_pkall_szP hX (tb := []) (fun c hc => by cases hc) plQ_ok (az_wfc_ok rfl) hrun rfl rfl (by cases b <;> rfl) (by show h.length + 1000 * (5 + 2) < 2147483648; omega) rfl hd ?_ hT ?_ ?_ (fun k hk => by cases hk) (fun p hp => by cases hp) ?_
      · refine rho_V ⟨?_, ?_⟩ hrs ?_ (by omega) (by show 7 ≤ 1000000; decide) trivial
        · intro j op x y hj hop
          match j, hj with
          | 5, hj =>
            cases hj
            show hv h 141 20 / 2 ^ k = (sz_op 17 (Int32.ofInt ((0 : Int) + (1 * hv h 141 20 + 0))) (Int32.ofInt ((k : Int) + 0))).toInt
            rw [show (0 : Int) + (1 * hv h 141 20 + 0) = hv h 141 20 by omega, Int.add_zero, op17 es1 es2 hk10]
          | 6, hj =>
            cases hj
            show hv h 141 20 / 2 ^ k % 2 = (sz_op 13 (Int32.ofInt ((0 : Int) + (1 * (hv h 141 20 / 2 ^ k) + 0))) (Int32.ofInt ((1 : Int) + 0))).toInt
            rw [show (0 : Int) + (1 * (hv h 141 20 / 2 ^ k) + 0) = hv h 141 20 / 2 ^ k by omega, Int.add_zero, op13 ea.1 ea.2]
          | 0, hj => cases hj; exact absurd rfl hop
          | 1, hj => cases hj; exact absurd rfl hop
          | 2, hj => cases hj; exact absurd rfl hop
          | 3, hj => cases hj; exact absurd rfl hop
          | 4, hj => cases hj; exact absurd rfl hop
          | j + 7, hj => simp [plC1] at hj
        · intro j x y hj hx
          match j, hj with
          | 5, hj => cases hj
          | 6, hj => cases hj
          | 0, hj => cases hj; exact absurd rfl hx
          | 1, hj => cases hj; exact absurd rfl hx
          | 2, hj => cases hj; exact absurd rfl hx
          | 3, hj => cases hj; exact absurd rfl hx
          | 4, hj => cases hj; exact absurd rfl hx
          | j + 7, hj => simp [plC1] at hj
        · show (plR1 k b).all _ = true
          unfold plR1
          cases b
          · simp only [List.all_cons, List.all_nil, Bool.and_eq_true, decide_eq_true_eq, Bool.and_true, cond_true, cond_false]
            omega
          · simp only [List.all_cons, List.all_nil, Bool.and_eq_true, decide_eq_true_eq, Bool.and_true, cond_true, cond_false]
            omega
      · exact HF_cons 0 (N : Int) (by decide) (show (0 : Int) + 0 = ((0 : Nat) : Int) by omega) (by omega) (sz_v_eq (show (0 : Int) + (1 * (N : Int) + 0) = _ by omega)) (by rw [en, hNv]) (HF_cons 20 (hv h 141 20) (by decide) (show (20 : Int) + 0 = ((20 : Nat) : Int) by omega) (by omega) (sz_v_eq (show (0 : Int) + (1 * hv h 141 20 + 0) = _ by omega)) es (HF_nil _ _))
      · exact ml5r hlo (show (0 : Int) + (1 * g + 0) = g by omega) (show (0 : Int) + (1 * (i : Int) + 0) = i by omega) (show (0 : Int) + (1 * nx + 0) = nx by omega) (show (k : Int) + 0 = k by omega)
      · intro E hE ρ' h2 s4 lo2 w1 ag hT' hM' hF' hl' b1 b2 hml
        have a0 : ρ' 0 = g := ag 0 (by show 0 < 7; decide)
        have a2 : ρ' 2 = i := ag 2 (by show 2 < 7; decide)
        have a3 : ρ' 3 = nx := ag 3 (by show 3 < 7; decide)
        obtain ⟨hS2, e20⟩ := plS_tr hS hT' hM' hl' b1 b2
        cases b with
        | true =>
          have ee := List.mem_singleton.mp hE
          subst ee
          refine ih (k + 1) h2 s4 lo2 nx hS2 (by omega) ?_ (ml5 hml (show (0 : Int) + (1 * ρ' 0 + 0) = g by omega) (show (0 : Int) + (1 * ρ' 2 + 0) = i by omega) (show (0 : Int) + (1 * ρ' 3 + 0) = nx by omega) (show ((k : Int) + 1) + 0 = ((k + 1 : Nat) : Int) by omega))
          rw [e20]
          rcases hx with ⟨x1, x2⟩ | hx
          · left
            refine ⟨x1, fun j hj => ?_⟩
            by_cases hjk : j = k
            · subst hjk; exact hb1
            · exact x2 j (by omega)
          · exact Or.inr hx
        | false =>
          rcases List.mem_cons.mp hE with ee | hE
          · subst ee
            have c1 : 0 ≤ (0 : Int) + (1 * ρ' 3 + 0) := w1.2.2.1 _ (List.Mem.head _)
            refine ih (k + 1) h2 s4 lo2 nx hS2 (by omega) ?_ (ml5 hml (show (0 : Int) + (1 * ρ' 0 + 0) = g by omega) (show (0 : Int) + (1 * ρ' 2 + 0) = i by omega) (show (0 : Int) + (1 * ρ' 3 + 0) = nx by omega) (show ((k : Int) + 1) + 0 = ((k + 1 : Nat) : Int) by omega))
            rw [e20]
            rcases hx with hx | hx
            · omega
            · exact Or.inr hx
          · have ee := List.mem_singleton.mp hE
            subst ee
            refine ih (k + 1) h2 s4 lo2 k hS2 (by omega) ?_ (ml5 hml (show (0 : Int) + (1 * ρ' 0 + 0) = g by omega) (show (0 : Int) + (1 * ρ' 2 + 0) = i by omega) (show (k : Int) + 0 = (k : Int) by omega) (show ((k : Int) + 1) + 0 = ((k + 1 : Nat) : Int) by omega))
            rw [e20]
            refine Or.inr ⟨by omega, by omega, ?_⟩
            rw [Int.toNat_natCast]
            unfold bt
            rw [hb1]
            decide
    have hm2 : hv h 141 20 / 2 ^ k % 2 = 0 ∨ hv h 141 20 / 2 ^ k % 2 = 1 := by
      generalize hv h 141 20 / 2 ^ k = A
      omega
    rcases hm2 with e | e
    · exact fin false e
    · exact fin true e
set_option maxRecDepth 20000 in
theorem pl_loop {X : List (List Value)} (hX : az_X X) (hB : az_Valid X bhB) (hR : az_Valid X hrB) {h0 : List mzC} {s0 : Nat × Nat} (hlen : h0.length + 7000 < 2147483648) {N : Nat} (hN : 1 ≤ N ∧ N ≤ 10) {g : Int} (hg : 1 ≤ g ∧ g ≤ 200) {d : Nat} (hd : 5 ≤ d) : ∀ (r i : Nat) (h : List mzC) (s2 : Nat × Nat) (lo : mzL), plS h0 s0 N h s2 i → i + r = N → az_ml lo [.ref 145, iv g, iv i, iv (-1), iv ((0 : Nat) : Int)] → mz_gg X (plK h0 s0) d 143 15 lo [] (h, s2) := by
  intro r
  induction r with
  | zero =>
    intro i h s2 lo hS hi hlo
    obtain ⟨_, _, _, _, _, _, h1, _⟩ := hS
    omega
  | succ r ih =>
    intro i h s2 lo hS hi hlo
    refine pl_choose hX hlen hN hg hd (i := i) ?_ N 0 h s2 lo (-1) hS (by omega) (Or.inl ⟨rfl, fun j hj => by omega⟩) hlo
    intro h' s3 nx lo' hS' hnx hnb hml
    refine pl_next hX hB hR hlen hN hg hd hS' hnx hnb hml ?_
    intro h2 s4 lo2 hS2 hml2
    exact ih (i + 1) h2 s4 lo2 hS2 (by omega) hml2
set_option maxRecDepth 20000 in
theorem HM_sub {h h' : List mzC} (hM : az_HM [(141, 21)] h h') : az_HM poMd h h' := fun c j hc hm => hM c j hc (by
  have hm : az_md [(153, 0), (141, 21)] c j = false := hm
  rw [md_two, Bool.or_eq_false_iff] at hm
  exact hm.2)
set_option maxRecDepth 20000 in
/-- planOf -/
theorem pl_all {X : List (List Value)} (hX : az_X X) (hB : az_Valid X bhB) (hR : az_Valid X hrB) {h : List mzC} (hT : az_Tp h) (hlen : h.length + 7000 < 2147483648) {g : Int} (hg : 1 ≤ g ∧ g ≤ 200) {d : Nat} (hd : 5 ≤ d) {s2 : Nat × Nat} {lo : mzL} (hlo : az_ml lo [.ref 145, iv g]) : mz_gg X (plK h s2) d 143 0 lo [] (h, s2) := by
  obtain ⟨en, en1, en2⟩ := hv_slot hT.1 azL_142 many_ty
  refine az_go (c := plC0) (ends := [plE0]) (i0 := 0) (ρ := rho [g, hv h 142 0] ((h.length : Int) + 4)) sz_pkall_szP hX (tb := []) (fun c hc => by cases hc) plQ_ok (az_wfc_ok rfl) plR0 rfl rfl rfl (by show h.length + 1000 * (5 + 2) < 2147483648; omega) rfl hd ?_ hT ?_ ?_ (fun k hk => by cases hk) ?_ ?_
  · exact rho_V (rho_free rfl _) (show rin [(1, 200), (0, 10)] [g, hv h 142 0] from by simp only [rin, and_true]; omega) rfl (by omega) (by decide) trivial
  · exact HF_cons 0 (hv h 142 0) (by decide) (show (0 : Int) + 0 = ((0 : Nat) : Int) by omega) (by omega) (sz_v_eq (show (0 : Int) + (1 * hv h 142 0 + 0) = _ by omega)) en (HF_nil _ _)
  · have e : plC0.2.2.1.2.2.2.1.map (sz_v (rho [g, hv h 142 0] ((h.length : Int) + 4))) = [.ref 145, iv g] := by
      show [sz_v _ (1, 145, []), sz_v _ (0, 0, [(0, 1)])] = _
      rw [sz_v_ref _ (by decide), sz_v_eq (show (0 : Int) + (1 * g + 0) = g by omega)]
      rfl
    rw [e]
    exact hlo
  · intro p hp ρ' h' s3 w1 ag hT' hM' hF' hl' b1 b2
    have hp := List.mem_singleton.mp hp
    subst hp
    refine ⟨hT', HM_sub hM', hl', b1, b2, Or.inr ?_⟩
    show some (some (sz_v ρ' (0, 1, []))) = _
    rw [sz_v_eq (show (1 : Int) + 0 = 1 by omega)]
  · intro E hE ρ' h' s3 lo' w1 ag hT' hM' hF' hl' b1 b2 hml
    have ee := List.mem_singleton.mp hE
    subst ee
    have a0 : ρ' 0 = g := ag 0 (by decide)
    have a1 : ρ' 1 = hv h 142 0 := ag 1 (by decide)
    have r1 : (1 : Int) ≤ ρ' 1 ∧ ρ' 1 ≤ 10 := w1.2.1 1
    have f1 := HF_get hF' (c := 141) (k := 20) (v := (0, 0, [])) (by decide) (by omega) (List.Mem.head _)
    rw [sz_v_eq (show (0 : Int) + 0 = 0 by omega)] at f1
    have g1 : hv h' 141 20 = 0 := hv_val f1 (by decide) (by decide)
    have e142 : hv h' 142 0 = hv h 142 0 := HM_hv hM' (by decide) (md_other (by decide))
    refine pl_loop hX hB hR (N := (hv h 142 0).toNat) (by omega) (by omega) hg hd (hv h 142 0).toNat 0 h' s3 lo' ⟨hT', HM_sub hM', hl', b1, b2, by rw [e142]; omega, by omega, by rw [g1]; exact cnt_zero, fun o ho hb => by
      rw [g1] at hb
      unfold bt at hb
      rw [Int.zero_ediv] at hb
      exact absurd hb (by decide)⟩ (by omega) ?_
    exact ml5 hml (show (0 : Int) + (1 * ρ' 0 + 0) = g by omega) (show (0 : Int) + 0 = ((0 : Nat) : Int) by omega) (show (-1 : Int) + 0 = -1 by omega) (show (0 : Int) + 0 = ((0 : Nat) : Int) by omega)
