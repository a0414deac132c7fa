/-! layLate: the loop -/
set_option maxRecDepth 20000 in
theorem sz_v_eq {ρ : Nat → Int} {c x : Int} {t : szT} (e : c + sz_sum ρ t = x) : sz_v ρ (0, c, t) = iv x := by rw [sz_v_iv, e]
set_option maxRecDepth 20000 in
theorem ml7e {ρ : Nat → Int} {c1 c2 c3 c4 c5 c6 x1 x2 x3 x4 x5 x6 : Int} {t1 t2 t3 t4 t5 t6 : szT} (e1 : c1 + sz_sum ρ t1 = x1) (e2 : c2 + sz_sum ρ t2 = x2) (e3 : c3 + sz_sum ρ t3 = x3) (e4 : c4 + sz_sum ρ t4 = x4) (e5 : c5 + sz_sum ρ t5 = x5) (e6 : c6 + sz_sum ρ t6 = x6) : ([(1, 145, []), (0, c1, t1), (0, c2, t2), (0, c3, t3), (0, c4, t4), (0, c5, t5), (0, c6, t6)] : szLo).map (sz_v ρ) = [.ref 145, iv x1, iv x2, iv x3, iv x4, iv x5, iv x6] := by
  simp only [List.map]
  rw [sz_v_ref _ (by decide), sz_v_eq e1, sz_v_eq e2, sz_v_eq e3, sz_v_eq e4, sz_v_eq e5, sz_v_eq e6]
  rfl
set_option maxRecDepth 20000 in
theorem ml8e {ρ : Nat → Int} {c1 c2 c3 c4 c5 c6 c7 x1 x2 x3 x4 x5 x6 x7 : Int} {t1 t2 t3 t4 t5 t6 t7 : szT} (e1 : c1 + sz_sum ρ t1 = x1) (e2 : c2 + sz_sum ρ t2 = x2) (e3 : c3 + sz_sum ρ t3 = x3) (e4 : c4 + sz_sum ρ t4 = x4) (e5 : c5 + sz_sum ρ t5 = x5) (e6 : c6 + sz_sum ρ t6 = x6) (e7 : c7 + sz_sum ρ t7 = x7) : ([(1, 145, []), (0, c1, t1), (0, c2, t2), (0, c3, t3), (0, c4, t4), (0, c5, t5), (0, c6, t6), (0, c7, t7)] : szLo).map (sz_v ρ) = [.ref 145, iv x1, iv x2, iv x3, iv x4, iv x5, iv x6, iv x7] := by
  simp only [List.map]
  rw [sz_v_ref _ (by decide), sz_v_eq e1, sz_v_eq e2, sz_v_eq e3, sz_v_eq e4, sz_v_eq e5, sz_v_eq e6, sz_v_eq e7]
  rfl
set_option maxRecDepth 20000 in
theorem ml7 {lo : mzL} {ρ : Nat → Int} {c1 c2 c3 c4 c5 c6 x1 x2 x3 x4 x5 x6 : Int} {t1 t2 t3 t4 t5 t6 : szT} (h : az_ml lo (([(1, 145, []), (0, c1, t1), (0, c2, t2), (0, c3, t3), (0, c4, t4), (0, c5, t5), (0, c6, t6)] : szLo).map (sz_v ρ))) (e1 : c1 + sz_sum ρ t1 = x1) (e2 : c2 + sz_sum ρ t2 = x2) (e3 : c3 + sz_sum ρ t3 = x3) (e4 : c4 + sz_sum ρ t4 = x4) (e5 : c5 + sz_sum ρ t5 = x5) (e6 : c6 + sz_sum ρ t6 = x6) : az_ml lo [.ref 145, iv x1, iv x2, iv x3, iv x4, iv x5, iv x6] := by
  rw [ml7e e1 e2 e3 e4 e5 e6] at h
  exact h
set_option maxRecDepth 20000 in
theorem ml7r {lo : mzL} {ρ : Nat → Int} {c1 c2 c3 c4 c5 c6 x1 x2 x3 x4 x5 x6 : Int} {t1 t2 t3 t4 t5 t6 : szT} (h : az_ml lo [.ref 145, iv x1, iv x2, iv x3, iv x4, iv x5, iv x6]) (e1 : c1 + sz_sum ρ t1 = x1) (e2 : c2 + sz_sum ρ t2 = x2) (e3 : c3 + sz_sum ρ t3 = x3) (e4 : c4 + sz_sum ρ t4 = x4) (e5 : c5 + sz_sum ρ t5 = x5) (e6 : c6 + sz_sum ρ t6 = x6) : az_ml lo (([(1, 145, []), (0, c1, t1), (0, c2, t2), (0, c3, t3), (0, c4, t4), (0, c5, t5), (0, c6, t6)] : szLo).map (sz_v ρ)) := by
  rw [ml7e e1 e2 e3 e4 e5 e6]
  exact h
set_option maxRecDepth 20000 in
theorem ml8 {lo : mzL} {ρ : Nat → Int} {c1 c2 c3 c4 c5 c6 c7 x1 x2 x3 x4 x5 x6 x7 : Int} {t1 t2 t3 t4 t5 t6 t7 : szT} (h : az_ml lo (([(1, 145, []), (0, c1, t1), (0, c2, t2), (0, c3, t3), (0, c4, t4), (0, c5, t5), (0, c6, t6), (0, c7, t7)] : szLo).map (sz_v ρ))) (e1 : c1 + sz_sum ρ t1 = x1) (e2 : c2 + sz_sum ρ t2 = x2) (e3 : c3 + sz_sum ρ t3 = x3) (e4 : c4 + sz_sum ρ t4 = x4) (e5 : c5 + sz_sum ρ t5 = x5) (e6 : c6 + sz_sum ρ t6 = x6) (e7 : c7 + sz_sum ρ t7 = x7) : az_ml lo [.ref 145, iv x1, iv x2, iv x3, iv x4, iv x5, iv x6, iv x7] := by
  rw [ml8e e1 e2 e3 e4 e5 e6 e7] at h
  exact h
set_option maxRecDepth 20000 in
theorem ml8r {lo : mzL} {ρ : Nat → Int} {c1 c2 c3 c4 c5 c6 c7 x1 x2 x3 x4 x5 x6 x7 : Int} {t1 t2 t3 t4 t5 t6 t7 : szT} (h : az_ml lo [.ref 145, iv x1, iv x2, iv x3, iv x4, iv x5, iv x6, iv x7]) (e1 : c1 + sz_sum ρ t1 = x1) (e2 : c2 + sz_sum ρ t2 = x2) (e3 : c3 + sz_sum ρ t3 = x3) (e4 : c4 + sz_sum ρ t4 = x4) (e5 : c5 + sz_sum ρ t5 = x5) (e6 : c6 + sz_sum ρ t6 = x6) (e7 : c7 + sz_sum ρ t7 = x7) : az_ml lo (([(1, 145, []), (0, c1, t1), (0, c2, t2), (0, c3, t3), (0, c4, t4), (0, c5, t5), (0, c6, t6), (0, c7, t7)] : szLo).map (sz_v ρ)) := by
  rw [ml8e e1 e2 e3 e4 e5 e6 e7]
  exact h
def nu (h : List mzC) : Nat → Int
  | 0 => 0
  | i + 1 => nu h i + hv h 152 i
set_option maxRecDepth 20000 in
theorem nu_eq {h h' : List mzC} : ∀ {n : Nat}, (∀ i, i < n → hv h' 152 i = hv h 152 i) → nu h' n = nu h n
  | 0, _ => rfl
  | n + 1, e => by
    show nu h' n + hv h' 152 n = nu h n + hv h 152 n
    rw [nu_eq (fun i hi => e i (by omega)), e n (by omega)]
set_option maxRecDepth 20000 in
theorem nu_up {h h' : List mzC} {k : Nat} : ∀ {n : Nat}, k < n → (∀ i, i < n → i ≠ k → hv h' 152 i = hv h 152 i) → nu h' n = nu h n + (hv h' 152 k - hv h 152 k)
  | 0, hk, _ => by omega
  | n + 1, hk, e => by
    show nu h' n + hv h' 152 n = nu h n + hv h 152 n + _
    by_cases hn : k = n
    · subst hn
      rw [nu_eq (fun i hi => e i (by omega) (by omega))]
      omega
    · rw [nu_up (by omega) (fun i hi hik => e i (by omega) hik), e n (by omega) (fun h => hn h.symm)]
      omega
set_option maxRecDepth 20000 in
theorem nu_ge {h : List mzC} : ∀ {n : Nat}, (∀ i, i < n → -20000 ≤ hv h 152 i) → -20000 * (n : Int) ≤ nu h n
  | 0, _ => by simp [nu]
  | n + 1, e => by
    show _ ≤ nu h n + hv h 152 n
    have := nu_ge (n := n) (fun i hi => e i (by omega))
    have := e n (by omega)
    omega
theorem hv_late {h : List mzC} (hT : az_HT h) {k : Nat} (hk : k < 10) : az_slot h 152 k = some (iv (hv h 152 k)) := (hv_arr hT (c := 152) (t := 1) (n := 10) (g := 0) (l := -2147483648) (u := 2147483647) (by decide +kernel) (by decide +kernel) hk).1
def llK (h0 : List mzC) (s0 : Nat × Nat) (o : Option (Option Value)) (s' : mzS) : Prop := az_Tp s'.1 ∧ az_HM [(152, 0)] h0 s'.1 ∧ s'.1.length = h0.length ∧ s'.2.1 ≤ s0.1 ∧ s'.2.2 ≤ s0.2 ∧ o = some none
def llS (h0 : List mzC) (s0 : Nat × Nat) (n : Nat) (h : List mzC) (s2 : Nat × Nat) (e more : Int) (k o : Nat) : Prop := az_Tp h ∧ az_HM [(152, 0)] h0 h ∧ h.length = h0.length ∧ s2.1 ≤ s0.1 ∧ s2.2 ≤ s0.2 ∧ (0 ≤ e ∧ e ≤ 2050) ∧ (more = 0 ∨ more = 1) ∧ k < n ∧ o < n ∧ (∀ i, i < n → hv h0 151 i - 20000 ≤ hv h 152 i ∧ hv h 152 i ≤ 10000)
def llM (h : List mzC) (n : Nat) (more : Int) (k o : Nat) : Int := 400 * (nu h n + 200000) + 200 * more + (99 - 10 * (k : Int) - (o : Int))
set_option maxRecDepth 20000 in
theorem llS_tr {h0 : List mzC} {s0 : Nat × Nat} {n : Nat} {h h' : List mzC} {s2 s3 : Nat × Nat} {e more : Int} {k o : Nat} (hS : llS h0 s0 n h s2 e more k o) (hT' : az_Tp h') (hM' : az_HM [] h h') (hl' : h'.length = h.length) (b1 : s3.1 ≤ s2.1) (b2 : s3.2 ≤ s2.2) : llS h0 s0 n h' s3 e more k o ∧ nu h' n = nu h n ∧ ∀ c i, c < 163 → hv h' c i = hv h c i := by
  obtain ⟨hT, hM0, hl, hs1, hs2, he, hm, hk, ho, hbd⟩ := hS
  have e1 : ∀ c i, c < 163 → hv h' c i = hv h c i := fun c i hc => HM_hv hM' hc rfl
  exact ⟨⟨hT', HM_trans hM0 hM' (fun _ _ _ => rfl), by omega, Nat.le_trans b1 hs1, Nat.le_trans b2 hs2, he, hm, hk, ho, fun i hi => by rw [e1 152 i (by decide)]; exact hbd i hi⟩, nu_eq (fun i _ => e1 152 i (by decide)), e1⟩
set_option maxRecDepth 20000 in
theorem ll_next {X : List (List Value)} (hX : az_X X) {h0 : List mzC} {s0 : Nat × Nat} {g : Int} (hg : 1 ≤ g ∧ g ≤ 200) {n : Nat} (hn : 1 ≤ n ∧ n ≤ 10) {d : Nat} (hd : 4 ≤ d) (hlen : h0.length + 6000 < 2147483648) {h : List mzC} {s2 : Nat × Nat} {lo : mzL} {e more : Int} {k o : Nat} (hS : llS h0 s0 n h s2 e more k o) (hlo : az_ml lo [.ref 145, iv g, iv n, iv e, iv more, iv k, iv o])
    (hgo : ∀ h' s3 lo' more' k' o', llS h0 s0 n h' s3 e more' k' o' → llM h' n more' k' o' < llM h n more k o → az_ml lo' [.ref 145, iv g, iv n, iv e, iv more', iv (k' : Nat), iv (o' : Nat)] → mz_gg X (llK h0 s0) d 125 51 lo' [] (h', s3)) : mz_gg X (llK h0 s0) d 125 87 lo [] (h, s2) := by
  have hS0 := hS
  obtain ⟨hT, hM0, hl, hs1, hs2, he, hm, hk, ho, hbd⟩ := hS0
  refine az_go (c := llCN) (ends := [llEN1, llEN2, llEN3]) (i0 := 87) (ρ := rho [g, n, e, more, k, o] ((h.length : Int) + 4)) sz_pkall_szP hX (tb := []) (fun c hc => by cases hc) llQ_ok (az_wfc_ok rfl) llRN rfl rfl rfl (by show h.length + 1000 * (4 + 2) < 2147483648; omega) rfl hd ?_ hT (HF_nil _ _) ?_ (fun k hk => by cases hk) ?_ ?_
  · exact rho_V (rho_free rfl _) (show rin [(1, 200), (1, 10), (0, 2050), (0, 1), (0, 9), (0, 9)] [g, n, e, more, k, o] from by simp only [rin, and_true]; omega) rfl (by omega) (by decide) (show 0 ≤ (-1 : Int) + (1 * (n : Int) + ((-1) * (k : Int) + 0)) ∧ 0 ≤ (-1 : Int) + (1 * (n : Int) + ((-1) * (o : Int) + 0)) ∧ True from ⟨by omega, by omega, trivial⟩)
  · refine (ml7r hlo (show (0 : Int) + (1 * g + 0) = g by omega) (show (0 : Int) + (1 * (n : Int) + 0) = n by omega) (show (0 : Int) + (1 * e + 0) = e by omega) (show (0 : Int) + (1 * more + 0) = more by omega) (show (0 : Int) + (1 * (k : Int) + 0) = k by omega) (show (0 : Int) + (1 * (o : Int) + 0) = o by omega))
  · intro p hp ρ' h' s3 v1 ag hT' hM' hF' hl' b1 b2
    have hp := List.mem_singleton.mp hp
    subst hp
    exact ⟨hT', HM_trans hM0 hM' (fun _ _ _ => rfl), by show h'.length = _; omega, Nat.le_trans b1 hs1, Nat.le_trans b2 hs2, rfl⟩
  · intro E hE ρ' h' s3 lo' v1 ag hT' hM' hF' hl' b1 b2 hml
    have a0 : ρ' 0 = g := ag 0 (by decide)
    have a1 : ρ' 1 = n := ag 1 (by decide)
    have a2 : ρ' 2 = e := ag 2 (by decide)
    have a3 : ρ' 3 = more := ag 3 (by decide)
    have a4 : ρ' 4 = k := ag 4 (by decide)
    have a5 : ρ' 5 = o := ag 5 (by decide)
    obtain ⟨⟨t1, t2, t3, t4, t5, t6, t7, t8, t9, t10⟩, tn, te⟩ := llS_tr hS hT' hM' hl' b1 b2
    rcases List.mem_cons.mp hE with e1 | hE
    · subst e1
      have c1 : 0 ≤ (-2 : Int) + (1 * ρ' 1 + ((-1) * ρ' 5 + 0)) := v1.2.2.1 _ (List.Mem.head _)
      refine hgo h' s3 lo' more k (o + 1) ⟨t1, t2, t3, t4, t5, t6, t7, t8, by omega, t10⟩ ?_ ?_
      · unfold llM
        rw [tn]
        omega
      · exact (ml7 hml (show (0 : Int) + (1 * ρ' 0 + 0) = g by omega) (show (0 : Int) + (1 * ρ' 1 + 0) = n by omega) (show (0 : Int) + (1 * ρ' 2 + 0) = e by omega) (show (0 : Int) + (1 * ρ' 3 + 0) = more by omega) (show (0 : Int) + (1 * ρ' 4 + 0) = ((k : Nat) : Int) by omega) (show (1 : Int) + (1 * ρ' 5 + 0) = ((o + 1 : Nat) : Int) by omega))
    rcases List.mem_cons.mp hE with e1 | hE
    · subst e1
      have c1 : 0 ≤ (1 : Int) + ((-1) * ρ' 1 + (1 * ρ' 5 + 0)) := v1.2.2.1 _ (List.Mem.head _)
      have c2 : 0 ≤ (-2 : Int) + (1 * ρ' 1 + ((-1) * ρ' 4 + 0)) := v1.2.2.1 _ (List.Mem.tail _ (List.Mem.head _))
      refine hgo h' s3 lo' more (k + 1) 0 ⟨t1, t2, t3, t4, t5, t6, t7, by omega, by omega, t10⟩ ?_ ?_
      · unfold llM
        rw [tn]
        omega
      · exact (ml7 hml (show (0 : Int) + (1 * ρ' 0 + 0) = g by omega) (show (0 : Int) + (1 * ρ' 1 + 0) = n by omega) (show (0 : Int) + (1 * ρ' 2 + 0) = e by omega) (show (0 : Int) + (1 * ρ' 3 + 0) = more by omega) (show (1 : Int) + (1 * ρ' 4 + 0) = ((k + 1 : Nat) : Int) by omega) (show (0 : Int) + 0 = ((0 : Nat) : Int) by omega))
    · have e1 := List.mem_singleton.mp hE
      subst e1
      have c0 : 0 ≤ (-1 : Int) + (1 * ρ' 3 + 0) := v1.2.2.1 _ (List.Mem.head _)
      refine hgo h' s3 lo' 0 0 0 ⟨t1, t2, t3, t4, t5, t6, Or.inl rfl, by omega, by omega, t10⟩ ?_ ?_
      · unfold llM
        rw [tn]
        omega
      · exact (ml7 hml (show (0 : Int) + (1 * ρ' 0 + 0) = g by omega) (show (0 : Int) + (1 * ρ' 1 + 0) = n by omega) (show (0 : Int) + (1 * ρ' 2 + 0) = e by omega) (show (0 : Int) + 0 = (0 : Int) by omega) (show (0 : Int) + 0 = ((0 : Nat) : Int) by omega) (show (0 : Int) + 0 = ((0 : Nat) : Int) by omega))
set_option maxRecDepth 20000 in
theorem args3 {args : List Value} (hl : args.length = 3) {a b c : Value} (ha : a.category = 1) (hb : b.category = 1) (h : az_ml (lv_args 0 args) [a, b, c]) : args = [a, b, c] := by
  match args, hl with
  | [w, x, y], _ =>
  have e0 : w = a := Option.some.inj (h 0 a rfl)
  subst e0
  have e1 := h 1 b rfl
  simp only [lv_args, ha] at e1
  have e1 : x = b := Option.some.inj e1
  subst e1
  have e2 := h 2 c rfl
  simp only [lv_args, ha, hb] at e2
  have e2 : y = c := Option.some.inj e2
  rw [e2]
set_option maxRecDepth 20000 in
theorem sn_kn {X : List (List Value)} {h : List mzC} (hT : az_HT h) {k x y : Int} (hb : sn X h k x y) {ρ1 : Nat → Int} {hh : List mzC} {args : List Value} {s2 : Nat × Nat} {d : Nat} (r0 : ρ1 0 = k) (r1 : ρ1 1 = x) (r2 : ρ1 2 = y) (hl : args.length = 3) (e1 : hh[141]? = h[141]?) (e2 : hh[142]? = h[142]?) (hV : az_V snK.2.2.1.1 snK.2.2.1.2.1 snK.2.2.1.2.2.1 ρ1) (hL : sz_LR ρ1 snK.2.2.1.2.2.2.1 (lv_args 0 args)) (hH : az_HR [] hh ρ1 snK.2.2.1.2.2.2.2.1 snK.2.2.1.2.2.2.2.2.1 snK.2.2.1.2.2.2.2.2.2 0 hh) (hd : 3 ≤ d) : mz_gg X (az_PostH snK ρ1 hh s2) d 121 0 (lv_args 0 args) [] (hh, s2) := by
  have hm := az_LR_ml (pat := snK.2.2.1.2.2.2.1) rfl hL
  have e : snK.2.2.1.2.2.2.1.map (sz_v ρ1) = [.ref 145, iv k, iv x] := by
    show [sz_v ρ1 (1, 145, []), sz_v ρ1 (0, 0, [(0, 1)]), sz_v ρ1 (0, 0, [(1, 1)])] = _
    rw [sz_v_ref _ (by decide), sz_v_iv, sz_v_iv, ← r0, ← r1]
    simp [sz_sum]
  rw [e] at hm
  have ha := args3 hl rfl rfl hm
  subst ha
  obtain ⟨n, hr⟩ := hb
  have := (mr_ok hT e1 e2 s2 hd (by decide) (sn_args k x) hr).2
  refine ⟨n, _, _, this, _, List.mem_singleton.mpr rfl, ρ1, hV, ⟨fun _ _ => rfl, fun _ => rfl⟩, ?_, hH, Nat.le_refl _, Nat.le_refl _⟩
  show some (some (iv y)) = some (some (sz_v ρ1 (0, 0, [(2, 1)])))
  rw [sz_v_iv, ← r2]
  simp [sz_sum]
set_option maxRecDepth 20000 in
theorem alw_sh {h : List mzC} {k : Nat} {t : Int} (ha : alw h k t) : alw h k (t - 20000) := by
  unfold alw at ha ⊢
  omega
