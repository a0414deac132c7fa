/-! layEarly: the loop -/
set_option maxRecDepth 20000 in
theorem ml6 {lo : mzL} {ρ : Nat → Int} {c1 c2 c3 c4 c5 x1 x2 x3 x4 x5 : Int} {t1 t2 t3 t4 t5 : szT} (h : az_ml lo ([(1, 145, []), (0, c1, t1), (0, c2, t2), (0, c3, t3), (0, c4, t4), (0, c5, t5)].map (sz_v ρ))) (e1 : c1 + sz_sum ρ t1 = x1) (e2 : c2 + sz_sum ρ t2 = x2) (e3 : c3 + sz_sum ρ t3 = x3) (e4 : c4 + sz_sum ρ t4 = x4) (e5 : c5 + sz_sum ρ t5 = x5) : az_ml lo [.ref 145, iv x1, iv x2, iv x3, iv x4, iv x5] := by
  subst e1; subst e2; subst e3; subst e4; subst e5
  have e : ([(1, 145, []), (0, c1, t1), (0, c2, t2), (0, c3, t3), (0, c4, t4), (0, c5, t5)] : szLo).map (sz_v ρ) = [.ref 145, iv (c1 + sz_sum ρ t1), iv (c2 + sz_sum ρ t2), iv (c3 + sz_sum ρ t3), iv (c4 + sz_sum ρ t4), iv (c5 + sz_sum ρ t5)] := by
    simp only [List.map]
    rw [sz_v_ref _ (by decide), sz_v_iv, sz_v_iv, sz_v_iv, sz_v_iv, sz_v_iv]
    rfl
  rw [e] at h
  exact h
set_option maxRecDepth 20000 in
theorem ml6r {lo : mzL} {ρ : Nat → Int} {c1 c2 c3 c4 c5 x1 x2 x3 x4 x5 : Int} {t1 t2 t3 t4 t5 : szT} (h : az_ml lo [.ref 145, iv x1, iv x2, iv x3, iv x4, iv x5]) (e1 : c1 + sz_sum ρ t1 = x1) (e2 : c2 + sz_sum ρ t2 = x2) (e3 : c3 + sz_sum ρ t3 = x3) (e4 : c4 + sz_sum ρ t4 = x4) (e5 : c5 + sz_sum ρ t5 = x5) : az_ml lo ([(1, 145, []), (0, c1, t1), (0, c2, t2), (0, c3, t3), (0, c4, t4), (0, c5, t5)].map (sz_v ρ)) := by
  subst e1; subst e2; subst e3; subst e4; subst e5
  have e : ([(1, 145, []), (0, c1, t1), (0, c2, t2), (0, c3, t3), (0, c4, t4), (0, c5, t5)] : szLo).map (sz_v ρ) = [.ref 145, iv (c1 + sz_sum ρ t1), iv (c2 + sz_sum ρ t2), iv (c3 + sz_sum ρ t3), iv (c4 + sz_sum ρ t4), iv (c5 + sz_sum ρ t5)] := by
    simp only [List.map]
    rw [sz_v_ref _ (by decide), sz_v_iv, sz_v_iv, sz_v_iv, sz_v_iv, sz_v_iv]
    rfl
  rw [e]
  exact h
set_option maxRecDepth 20000 in
theorem op20 {t : Int} (h1 : 0 ≤ t) (h2 : t ≤ 2147483647) : (sz_op 20 (Int32.ofInt t) (Int32.ofInt 10)).toInt = t % 10 := by
  have e10 : (Int32.ofInt 10).toInt = 10 := iv_toInt (by decide) (by decide)
  obtain ⟨r1, r2, r3⟩ := az_rem (x := Int32.ofInt t) (y := Int32.ofInt 10) (by rw [e10]; decide)
  have e : sz_op 20 (Int32.ofInt t) (Int32.ofInt 10) = Int32.ofInt t - Int32.ofInt t / Int32.ofInt 10 * Int32.ofInt 10 := by
    show (mz_bin 10 (Int32.ofInt t) (Int32.ofInt 10)).getD 0 = _
    simp only [mz_bin]
    rw [if_neg r3]
    rfl
  rw [e, r1, e10, iv_toInt (by omega) h2, Int.tmod_eq_emod_of_nonneg h1]
set_option maxRecDepth 20000 in
theorem beq_ne {a b : Nat} (h : a ≠ b) : Nat.beq a b = false := by
  cases hb : Nat.beq a b with
  | true => exact absurd (Nat.eq_of_beq_eq_true hb) h
  | false => rfl
set_option maxRecDepth 20000 in
theorem md_one {c k i : Nat} (h : i ≠ k) : az_md [(c, k + 1)] c i = false := by
  unfold az_md
  rw [List.any_eq_false]
  intro m hm
  rw [List.mem_singleton] at hm
  subst hm
  dsimp only
  rw [beq_ne (show k + 1 ≠ 0 by omega), beq_ne (show k + 1 ≠ i + 1 by omega)]
  simp
set_option maxRecDepth 20000 in
theorem md_other {c c' k i : Nat} (h : c' ≠ c) : az_md [(c, k)] c' i = false := by
  unfold az_md
  rw [List.any_eq_false]
  intro m hm
  rw [List.mem_singleton] at hm
  subst hm
  dsimp only
  rw [beq_ne (show c ≠ c' from fun e => h e.symm)]
  simp
set_option maxRecDepth 20000 in
theorem md_all {c k : Nat} : az_md [(c, 0)] c k = true := by
  unfold az_md
  simp
set_option maxRecDepth 20000 in
theorem md_sub {c k : Nat} : ∀ c' k', az_md [(c, 0)] c' k' = false → az_md [(c, k)] c' k' = false := by
  intro c' k' h
  by_cases e : c' = c
  · subst e
    rw [md_all] at h
    cases h
  · exact md_other e
def leK (X : List (List Value)) (h0 : List mzC) (s0 : Nat × Nat) (g : Int) (n : Nat) (o : Option (Option Value)) (s' : mzS) : Prop := az_Tp s'.1 ∧ az_HM [(151, 0)] h0 s'.1 ∧ s'.1.length = h0.length ∧ s'.2.1 ≤ s0.1 ∧ s'.2.2 ≤ s0.2 ∧ (o = some (some (iv 0)) ∨ (o = some (some (iv 1)) ∧ (∀ i, i < n → alw s'.1 i (hv s'.1 151 i)) ∧ ∀ k o, k < n → o < n → sat1 X s'.1 g k o))
def leS (X : List (List Value)) (h0 : List mzC) (s0 : Nat × Nat) (g : Int) (n : Nat) (h : List mzC) (s2 : Nat × Nat) (more : Int) (k o : Nat) : Prop := az_Tp h ∧ az_HM [(151, 0)] h0 h ∧ h.length = h0.length ∧ s2.1 ≤ s0.1 ∧ s2.2 ≤ s0.2 ∧ (more = 0 ∨ more = 1) ∧ k < n ∧ o < n ∧ (∀ i, i < n → hv h 151 i ≤ 999) ∧ (∀ i, i < n → alw h i (hv h 151 i)) ∧ (more = 0 → ∀ k' o', k' < n → o' < n → (k' < k ∨ (k' = k ∧ o' < o)) → sat1 X h g k' o')
def leM (h : List mzC) (n : Nat) (more : Int) (k o : Nat) : Int := 400 * (9990 - mu h n) + 200 * more + (99 - 10 * (k : Int) - (o : Int))
set_option maxRecDepth 20000 in
theorem le_next {X : List (List Value)} (hX : az_X X) {h0 : List mzC} {s0 : Nat × Nat} {g : Int} (hg : 1 ≤ g ∧ g ≤ 200) {n : Nat} (hn : 1 ≤ n ∧ n ≤ 10) {d : Nat} (hd : 4 ≤ d) (hlen : h0.length + 6000 < 2147483648) {h : List mzC} {s2 : Nat × Nat} {lo : mzL} {more : Int} {k o : Nat} (hT : az_Tp h) (hM0 : az_HM [(151, 0)] h0 h) (hl : h.length = h0.length) (hs1 : s2.1 ≤ s0.1) (hs2 : s2.2 ≤ s0.2) (hm : more = 0 ∨ more = 1) (hk : k < n) (ho : o < n) (hbd : ∀ i, i < n → hv h 151 i ≤ 999) (hal : ∀ i, i < n → alw h i (hv h 151 i)) (hsat : more = 0 → ∀ k' o', k' < n → o' < n → (k' < k ∨ (k' = k ∧ o' ≤ o)) → sat1 X h g k' o') (hlo : az_ml lo [.ref 145, iv g, iv n, iv more, iv k, iv o])
    (hgo : ∀ h' s3 lo' more' k' o', leS X h0 s0 g n h' s3 more' k' o' → leM h' n more' k' o' < leM h n more k o → az_ml lo' [.ref 145, iv g, iv n, iv more', iv (k' : Nat), iv (o' : Nat)] → mz_gg X (leK X h0 s0 g n) d 123 37 lo' [] (h', s3)) : mz_gg X (leK X h0 s0 g n) d 123 73 lo [] (h, s2) := by
  have tr : ∀ (h' : List mzC), az_Tp h' → az_HM [] h h' → (∀ c i, c < 163 → hv h' c i = hv h c i) ∧ mu h' n = mu h n ∧ (∀ i, i < n → hv h' 151 i ≤ 999) ∧ (∀ i, i < n → alw h' i (hv h' 151 i)) ∧ (∀ k' o', sat1 X h g k' o' → sat1 X h' g k' o') := by
    intro h' hT' hM'
    have e : ∀ c i, c < 163 → hv h' c i = hv h c i := fun c i hc => HM_hv hM' hc rfl
    refine ⟨e, mu_eq (fun i _ => e 151 i (by decide)), fun i hi => by rw [e 151 i (by decide)]; exact hbd i hi, fun i hi => by rw [e 151 i (by decide)]; exact alw_tr (fun j => e 142 j (by decide)) (hal i hi), fun k' o' hs => sat1_tr hT.1 hT'.1 hM' rfl hs⟩
  refine az_go (c := leCN) (ends := [leEN1, leEN2, leEN3]) (i0 := 73) (ρ := rho [g, n, more, k, o] ((h.length : Int) + 4)) sz_pkall_szP hX (tb := []) (fun c hc => by cases hc) leQ_ok (az_wfc_ok rfl) leRN rfl rfl rfl (by show h.length + 1000 * (4 + 2) < 2147483648; omega) rfl hd ?_ hT (HF_nil _ _) ?_ (fun k hk => by cases hk) ?_ ?_
  · exact rho_V (rho_free rfl _) (show rin [(1, 200), (1, 10), (0, 1), (0, 9), (0, 9)] [g, n, more, k, o] from by simp only [rin, and_true]; omega) rfl (by omega) (by decide) (show 0 ≤ (-1 : Int) + (1 * (n : Int) + ((-1) * (k : Int) + 0)) ∧ 0 ≤ (-1 : Int) + (1 * (n : Int) + ((-1) * (o : Int) + 0)) ∧ True from ⟨by omega, by omega, trivial⟩)
  · exact ml6r hlo (show (0 : Int) + (1 * g + 0) = g by omega) (show (0 : Int) + (1 * (n : Int) + 0) = n by omega) (show (0 : Int) + (1 * more + 0) = more by omega) (show (0 : Int) + (1 * (k : Int) + 0) = k by omega) (show (0 : Int) + (1 * (o : Int) + 0) = o by omega)
  · intro p hp ρ' h' s3 v1 ag hT' hM' hF' hl' b1 b2
    have hp := List.mem_singleton.mp hp
    subst hp
    have a1 : ρ' 1 = n := ag 1 (by decide)
    have a2 : ρ' 2 = more := ag 2 (by decide)
    have a3 : ρ' 3 = k := ag 3 (by decide)
    have a4 : ρ' 4 = o := ag 4 (by decide)
    have c1 : 0 ≤ (0 : Int) + ((-1) * ρ' 2 + 0) := v1.2.2.1 _ (List.Mem.head _)
    have c2 : 0 ≤ (1 : Int) + ((-1) * ρ' 1 + (1 * ρ' 4 + 0)) := v1.2.2.1 _ (List.Mem.tail _ (List.Mem.head _))
    have c3 : 0 ≤ (1 : Int) + ((-1) * ρ' 1 + (1 * ρ' 3 + 0)) := v1.2.2.1 _ (List.Mem.tail _ (List.Mem.tail _ (List.Mem.head _)))
    obtain ⟨t1, t2, t3, t4, t5⟩ := tr h' hT' hM'
    refine ⟨hT', HM_trans hM0 hM' (fun _ _ _ => rfl), by show h'.length = _; omega, Nat.le_trans b1 hs1, Nat.le_trans b2 hs2, Or.inr ⟨?_, t4, fun k' o' hk' ho' => t5 k' o' (hsat (by omega) k' o' hk' ho' (by omega))⟩⟩
    show some (some (sz_v ρ' (0, 1, []))) = _
    rw [sz_v_iv]
    rfl
  · intro E hE ρ' h' s3 lo' v1 ag hT' hM' hF' hl' b1 b2 hml
    have a0 : ρ' 0 = g := ag 0 (by decide)
    have a1 : ρ' 1 = n := ag 1 (by decide)
    have a2 : ρ' 2 = more := ag 2 (by decide)
    have a3 : ρ' 3 = k := ag 3 (by decide)
    have a4 : ρ' 4 = o := ag 4 (by decide)
    obtain ⟨t1, t2, t3, t4, t5⟩ := tr h' hT' hM'
    have hM2 := HM_trans hM0 hM' (fun _ _ _ => rfl)
    rcases List.mem_cons.mp hE with e | hE
    · subst e
      have c1 : 0 ≤ (-2 : Int) + (1 * ρ' 1 + ((-1) * ρ' 4 + 0)) := v1.2.2.1 _ (List.Mem.head _)
      refine hgo h' s3 lo' more k (o + 1) ⟨hT', hM2, by omega, Nat.le_trans b1 hs1, Nat.le_trans b2 hs2, hm, hk, by omega, t3, t4, fun hm0 k' o' hk' ho' hlt => t5 k' o' (hsat hm0 k' o' hk' ho' (by omega))⟩ ?_ ?_
      · unfold leM
        rw [t2]
        omega
      · exact ml6 hml (show (0 : Int) + (1 * ρ' 0 + 0) = g by omega) (show (0 : Int) + (1 * ρ' 1 + 0) = n by omega) (show (0 : Int) + (1 * ρ' 2 + 0) = more by omega) (show (0 : Int) + (1 * ρ' 3 + 0) = (k : Nat) by omega) (show (1 : Int) + (1 * ρ' 4 + 0) = ((o + 1 : Nat) : Int) by omega)
    rcases List.mem_cons.mp hE with e | hE
    · subst e
      have c1 : 0 ≤ (1 : Int) + ((-1) * ρ' 1 + (1 * ρ' 4 + 0)) := v1.2.2.1 _ (List.Mem.head _)
      have c2 : 0 ≤ (-2 : Int) + (1 * ρ' 1 + ((-1) * ρ' 3 + 0)) := v1.2.2.1 _ (List.Mem.tail _ (List.Mem.head _))
      refine hgo h' s3 lo' more (k + 1) 0 ⟨hT', hM2, by omega, Nat.le_trans b1 hs1, Nat.le_trans b2 hs2, hm, by omega, by omega, t3, t4, fun hm0 k' o' hk' ho' hlt => t5 k' o' (hsat hm0 k' o' hk' ho' (by omega))⟩ ?_ ?_
      · unfold leM
        rw [t2]
        omega
      · exact ml6 hml (show (0 : Int) + (1 * ρ' 0 + 0) = g by omega) (show (0 : Int) + (1 * ρ' 1 + 0) = n by omega) (show (0 : Int) + (1 * ρ' 2 + 0) = more by omega) (show (1 : Int) + (1 * ρ' 3 + 0) = ((k + 1 : Nat) : Int) by omega) (show (0 : Int) + 0 = ((0 : Nat) : Int) by omega)
    · have e := List.mem_singleton.mp hE
      subst e
      have c0 : 0 ≤ (-1 : Int) + (1 * ρ' 2 + 0) := v1.2.2.1 _ (List.Mem.head _)
      refine hgo h' s3 lo' 0 0 0 ⟨hT', hM2, by omega, Nat.le_trans b1 hs1, Nat.le_trans b2 hs2, Or.inl rfl, by omega, by omega, t3, t4, fun hm0 k' o' hk' ho' hlt => absurd hlt (by omega)⟩ ?_ ?_
      · unfold leM
        rw [t2]
        omega
      · exact ml6 hml (show (0 : Int) + (1 * ρ' 0 + 0) = g by omega) (show (0 : Int) + (1 * ρ' 1 + 0) = n by omega) (show (0 : Int) + 0 = 0 by omega) (show (0 : Int) + 0 = ((0 : Nat) : Int) by omega) (show (0 : Int) + 0 = ((0 : Nat) : Int) by omega)
