/-! layLate: whole -/
set_option maxRecDepth 20000 in
theorem ll_loop {X : List (List Value)} (hX : az_X X) {h0 : List mzC} (hT0 : az_Tp h0) {s0 : Nat × Nat} {g : Int} (hg : 1 ≤ g ∧ g ≤ 200) {n : Nat} (hn : 1 ≤ n ∧ n ≤ 10) {d : Nat} (hd : 4 ≤ d) (hlen : h0.length + 6000 < 2147483648) (hal : ∀ i, i < n → alw h0 i (hv h0 151 i)) (hsat : ∀ k o, k < n → o < n → sat1 X h0 g k o) : ∀ (N : Nat) (h : List mzC) (s2 : Nat × Nat) (lo : mzL) (e more : Int) (k o : Nat), llS h0 s0 n h s2 e more k o → llM h n more k o < (N : Int) → az_ml lo [.ref 145, iv g, iv n, iv e, iv more, iv k, iv o] → mz_gg X (llK h0 s0) d 125 51 lo [] (h, s2) := by
  intro N
  induction N with
  | zero =>
    intro h s2 lo e more k o hS hN hlo
    obtain ⟨hT, hM0, hl, hs1, hs2, he, hm, hk, ho, hbd⟩ := hS
    have : ∀ i, i < n → -20000 ≤ hv h 152 i := fun i hi => by
      have b1 := (hbd i hi).1
      have b2 := (hv_early hT0.1 (k := i) (by omega)).2.1
      omega
    have := nu_ge this
    unfold llM at hN
    omega
  | succ N ih =>
    intro h s2 lo e more k o hS hN hlo
    have hS0 := hS
    obtain ⟨hT, hM0, hl, hs1, hs2, he, hm, hk, ho, hbd⟩ := hS0
    obtain ⟨v, v1, v2, hb, hle⟩ := sat1_tr hT0.1 hT.1 hM0 rfl (hsat k o hk ho)
    have e151 : ∀ i, hv h 151 i = hv h0 151 i := fun i => HM_hv hM0 (by decide) (md_other (by decide))
    have e142 : ∀ i, hv h 142 i = hv h0 142 i := fun i => HM_hv hM0 (by decide) (md_other (by decide))
    refine az_go (c := llC1) (ends := [llE1]) (i0 := 51) (kn := some llK1) (ρ := rho [g, n, e, more, k, o, v] ((h.length : Int) + 4)) sz_pkall_szP hX (tb := []) (fun c hc => by cases hc) llQ_ok (az_wfc_ok rfl) llR1 rfl rfl rfl (by show h.length + 1000 * (4 + 2) < 2147483648; omega) rfl hd ?_ hT (HF_nil _ _) ?_ ?_ (fun p hp => by cases hp) ?_
    · exact rho_V (rho_free rfl _) (show rin [(1, 200), (1, 10), (0, 2050), (0, 1), (0, 9), (0, 9), ((-1000000), 40)] [g, n, e, more, k, o, v] from by simp only [rin, and_true]; omega) rfl (by omega) (by decide) (show 0 ≤ (-1 : Int) + (1 * (n : Int) + ((-1) * (k : Int) + 0)) ∧ 0 ≤ (-1 : Int) + (1 * (n : Int) + ((-1) * (o : Int) + 0)) ∧ True from ⟨by omega, by omega, trivial⟩)
    · refine (ml7r hlo (show (0 : Int) + (1 * g + 0) = g by omega) (show (0 : Int) + (1 * (n : Int) + 0) = n by omega) (show (0 : Int) + (1 * e + 0) = e by omega) (show (0 : Int) + (1 * more + 0) = more by omega) (show (0 : Int) + (1 * (k : Int) + 0) = k by omega) (show (0 : Int) + (1 * (o : Int) + 0) = o by omega))
    · intro kk hkk ρ2 ag ρ1 hh args s3 d' hal' hbd' hMM hV1 hL1 hH1 hln hd1
      cases hkk
      have q0 : ρ1 0 = (0 : Int) + (1 * ρ2 4 + 0) := hbd' 0 _ rfl
      have q1 : ρ1 1 = (0 : Int) + (1 * ρ2 5 + 0) := hbd' 1 _ rfl
      have q2 : ρ1 2 = (0 : Int) + (1 * ρ2 0 + 0) := hbd' 2 _ rfl
      have q3 : ρ1 3 = (0 : Int) + (1 * ρ2 6 + 0) := hbd' 3 _ rfl
      have g0 : ρ2 0 = g := ag.1 0 (by decide)
      have g4 : ρ2 4 = k := ag.1 4 (by decide)
      have g5 : ρ2 5 = o := ag.1 5 (by decide)
      have g6 : ρ2 6 = v := ag.1 6 (by decide)
      exact bh_kn hT.1 hb (by omega) (by omega) (by omega) (by omega) hal' (HM_cell hT.1 hH1.1 hMM azL_141 rfl) (HM_cell hT.1 hH1.1 hMM azL_142 rfl) hV1 hL1 hH1 hd1
    · intro E hE ρ' h' s3 lo' w1 ag hT' hM' hF' hl' b1 b2 hml
      have ee := List.mem_singleton.mp hE
      subst ee
      have a0 : ρ' 0 = g := ag 0 (by decide)
      have a1 : ρ' 1 = n := ag 1 (by decide)
      have a2 : ρ' 2 = e := ag 2 (by decide)
      have a3 : ρ' 3 = more := ag 3 (by decide)
      have a4 : ρ' 4 = k := ag 4 (by decide)
      have a5 : ρ' 5 = o := ag 5 (by decide)
      have a6 : ρ' 6 = v := ag 6 (by decide)
      have hml : az_ml lo' [.ref 145, iv g, iv n, iv e, iv more, iv k, iv o, iv v] := (ml8 hml (show (0 : Int) + (1 * ρ' 0 + 0) = g by omega) (show (0 : Int) + (1 * ρ' 1 + 0) = n by omega) (show (0 : Int) + (1 * ρ' 2 + 0) = e by omega) (show (0 : Int) + (1 * ρ' 3 + 0) = more by omega) (show (0 : Int) + (1 * ρ' 4 + 0) = (k : Int) by omega) (show (0 : Int) + (1 * ρ' 5 + 0) = (o : Int) by omega) (show (0 : Int) + (1 * ρ' 6 + 0) = v by omega))
      obtain ⟨hS', tn, te⟩ := llS_tr hS hT' hM' hl' b1 b2
      have hS0 := hS'
      obtain ⟨_, hM0', hlx, hs1', hs2', _, _, _, _, hbd'⟩ := hS0
      have bo := hbd' o ho
      have bk := hbd' k hk
      have eo := hv_late hT'.1 (k := o) (by omega)
      have ek := hv_late hT'.1 (k := k) (by omega)
      have E1 := (hv_early hT0.1 (k := o) (by omega)).2
      have E2 := (hv_early hT0.1 (k := k) (by omega)).2
      have go : ∀ (h2 : List mzC) (s4 : Nat × Nat) (lo2 : mzL) (m2 : Int), llS h0 s0 n h2 s4 e m2 k o → llM h2 n m2 k o ≤ llM h n more k o → az_ml lo2 [.ref 145, iv g, iv n, iv e, iv m2, iv k, iv o] → mz_gg X (llK h0 s0) d 125 87 lo2 [] (h2, s4) := by
        intro h2 s4 lo2 m2 hS2 hle2 hml2
        refine ll_next hX hg hn hd hlen hS2 hml2 ?_
        intro h3 s5 lo3 m3 k3 o3 hS3 hlt hml3
        exact ih h3 s5 lo3 e m3 k3 o3 hS3 (by omega) hml3
      by_cases hv0 : v = -1000000
      · subst hv0
        refine az_go (c := llC2) (ends := [llE2]) (i0 := 57) (ρ := rho [g, n, e, more, k, o] ((h'.length : Int) + 4)) sz_pkall_szP hX (tb := []) (fun c hc => by cases hc) llQ_ok (az_wfc_ok rfl) llR2 rfl rfl rfl (by show h'.length + 1000 * (4 + 2) < 2147483648; omega) rfl hd ?_ hT' (HF_nil _ _) ?_ (fun k hk => by cases hk) (fun p hp => by cases hp) ?_
        · exact rho_V (rho_free rfl _) (show rin [(1, 200), (1, 10), (0, 2050), (0, 1), (0, 9), (0, 9)] [g, n, e, more, k, o] from by simp only [rin, and_true]; omega) rfl (by omega) (by decide) trivial
        · refine (ml8r hml (show (0 : Int) + (1 * g + 0) = g by omega) (show (0 : Int) + (1 * (n : Int) + 0) = n by omega) (show (0 : Int) + (1 * e + 0) = e by omega) (show (0 : Int) + (1 * more + 0) = more by omega) (show (0 : Int) + (1 * (k : Int) + 0) = k by omega) (show (0 : Int) + (1 * (o : Int) + 0) = o by omega) (show (-1000000 : Int) + 0 = -1000000 by omega))
        · intro E hE ρ3 h2 s4 lo2 w2 ag2 hT2 hM2 hF2 hl2 d1 d2 hml2
          have ee := List.mem_singleton.mp hE
          subst ee
          have a0 : ρ3 0 = g := ag2 0 (by decide)
          have a1 : ρ3 1 = n := ag2 1 (by decide)
          have a2 : ρ3 2 = e := ag2 2 (by decide)
          have a3 : ρ3 3 = more := ag2 3 (by decide)
          have a4 : ρ3 4 = k := ag2 4 (by decide)
          have a5 : ρ3 5 = o := ag2 5 (by decide)
          obtain ⟨hS2, tn2, _⟩ := llS_tr hS' hT2 hM2 hl2 d1 d2
          refine go h2 s4 lo2 more hS2 (by unfold llM; rw [tn2, tn]; exact Int.le_refl _) ?_
          exact (ml7 hml2 (show (0 : Int) + (1 * ρ3 0 + 0) = g by omega) (show (0 : Int) + (1 * ρ3 1 + 0) = n by omega) (show (0 : Int) + (1 * ρ3 2 + 0) = e by omega) (show (0 : Int) + (1 * ρ3 3 + 0) = more by omega) (show (0 : Int) + (1 * ρ3 4 + 0) = (k : Int) by omega) (show (0 : Int) + (1 * ρ3 5 + 0) = (o : Int) by omega))
      · by_cases hc : hv h' 152 o ≤ hv h' 152 k - v
        · refine az_go (c := llC3) (ends := [llE3]) (i0 := 57) (ρ := rho [g, n, e, more, k, o, v, hv h' 152 o, hv h' 152 k] ((h'.length : Int) + 4)) sz_pkall_szP hX (tb := []) (fun c hc => by cases hc) llQ_ok (az_wfc_ok rfl) llR3 rfl rfl rfl (by show h'.length + 1000 * (4 + 2) < 2147483648; omega) rfl hd ?_ hT' ?_ ?_ (fun k hk => by cases hk) (fun p hp => by cases hp) ?_
          · exact rho_V (rho_free rfl _) (show rin [(1, 200), (1, 10), (0, 2050), (0, 1), (0, 9), (0, 9), ((-999999), 40), ((-30000), 10000), ((-30000), 10000)] [g, n, e, more, k, o, v, hv h' 152 o, hv h' 152 k] from by simp only [rin, and_true]; omega) rfl (by omega) (by decide) (show 0 ≤ (0 : Int) + ((-1) * v + ((-1) * hv h' 152 o + (1 * hv h' 152 k + 0))) ∧ True from ⟨by omega, trivial⟩)
          · exact HF_cons o (hv h' 152 o) (by decide) (show (0 : Int) + (1 * (o : Int) + 0) = o by omega) (by omega) (sz_v_eq (show (0 : Int) + (1 * hv h' 152 o + 0) = _ by omega)) eo (HF_cons k (hv h' 152 k) (by decide) (show (0 : Int) + (1 * (k : Int) + 0) = k by omega) (by omega) (sz_v_eq (show (0 : Int) + (1 * hv h' 152 k + 0) = _ by omega)) ek (HF_nil _ _))
          · refine (ml8r hml (show (0 : Int) + (1 * g + 0) = g by omega) (show (0 : Int) + (1 * (n : Int) + 0) = n by omega) (show (0 : Int) + (1 * e + 0) = e by omega) (show (0 : Int) + (1 * more + 0) = more by omega) (show (0 : Int) + (1 * (k : Int) + 0) = k by omega) (show (0 : Int) + (1 * (o : Int) + 0) = o by omega) (show (0 : Int) + (1 * v + 0) = v by omega))
          · intro E hE ρ3 h2 s4 lo2 w2 ag2 hT2 hM2 hF2 hl2 d1 d2 hml2
            have ee := List.mem_singleton.mp hE
            subst ee
            have a0 : ρ3 0 = g := ag2 0 (by decide)
            have a1 : ρ3 1 = n := ag2 1 (by decide)
            have a2 : ρ3 2 = e := ag2 2 (by decide)
            have a3 : ρ3 3 = more := ag2 3 (by decide)
            have a4 : ρ3 4 = k := ag2 4 (by decide)
            have a5 : ρ3 5 = o := ag2 5 (by decide)
            obtain ⟨hS2, tn2, _⟩ := llS_tr hS' hT2 hM2 hl2 d1 d2
            refine go h2 s4 lo2 more hS2 (by unfold llM; rw [tn2, tn]; exact Int.le_refl _) ?_
            exact (ml7 hml2 (show (0 : Int) + (1 * ρ3 0 + 0) = g by omega) (show (0 : Int) + (1 * ρ3 1 + 0) = n by omega) (show (0 : Int) + (1 * ρ3 2 + 0) = e by omega) (show (0 : Int) + (1 * ρ3 3 + 0) = more by omega) (show (0 : Int) + (1 * ρ3 4 + 0) = (k : Int) by omega) (show (0 : Int) + (1 * ρ3 5 + 0) = (o : Int) by omega))
        · have ho10 : o < 10 := by omega
          have hrun := List.all_eq_true.mp llR4s o (List.mem_range.mpr ho10)
          have f151 : ∀ i, hv h' 151 i = hv h0 151 i := fun i => by rw [te 151 i (by decide), e151 i]
          have f142 : ∀ i, hv h' 142 i = hv h0 142 i := fun i => by rw [te 142 i (by decide), e142 i]
          have hle' : hv h0 151 o + v ≤ hv h0 151 k := by rw [← e151, ← e151]; exact hle
          obtain ⟨y, y1, y2, hy⟩ := sn_ex hX hT' (by omega) (k := o) ho10 (x := hv h' 152 k - v) (e := hv h0 151 o - 20000) (by omega) (by omega) (by omega) (by omega) (alw_tr f142 (alw_sh (hal o ho)))
          refine az_go (c := llC4 o) (ends := [llE4 o]) (i0 := 57) (kn := some (llK4 o)) (ρ := rho [g, n, e, more, k, o, v, hv h' 152 o, hv h' 152 k, y] ((h'.length : Int) + 4)) sz_pkall_szP hX (tb := []) (fun c hc => by cases hc) llQ_ok (az_wfc_ok rfl) hrun rfl rfl rfl (by show h'.length + 1000 * (4 + 2) < 2147483648; omega) rfl hd ?_ hT' ?_ ?_ ?_ (fun p hp => by cases hp) ?_
          · exact rho_V (rho_free rfl _) (show rin [(1, 200), (1, 10), (0, 2050), (0, 1), (0, 9), (0, 9), ((-50000), 40), ((-30000), 10000), ((-30000), 10000), ((-90000), 90000)] [g, n, e, more, k, o, v, hv h' 152 o, hv h' 152 k, y] from by simp only [rin, and_true]; omega) rfl (by omega) (by show 10 ≤ 1000000; decide) (show 0 ≤ (-1 : Int) + (1 * v + (1 * hv h' 152 o + ((-1) * hv h' 152 k + 0))) ∧ True from ⟨by omega, trivial⟩)
          · exact HF_cons o (hv h' 152 o) (by decide) (show (o : Int) + 0 = o by omega) (by omega) (sz_v_eq (show (0 : Int) + (1 * hv h' 152 o + 0) = _ by omega)) eo (HF_cons k (hv h' 152 k) (by decide) (show (0 : Int) + (1 * (k : Int) + 0) = k by omega) (by omega) (sz_v_eq (show (0 : Int) + (1 * hv h' 152 k + 0) = _ by omega)) ek (HF_nil _ _))
          · refine (ml8r hml (show (0 : Int) + (1 * g + 0) = g by omega) (show (0 : Int) + (1 * (n : Int) + 0) = n by omega) (show (0 : Int) + (1 * e + 0) = e by omega) (show (0 : Int) + (1 * more + 0) = more by omega) (show (0 : Int) + (1 * (k : Int) + 0) = k by omega) (show (o : Int) + 0 = o by omega) (show (0 : Int) + (1 * v + 0) = v by omega))
          · intro kk hkk ρ2 ag2 ρ1 hh args s5 d' hal' hbd2 hMM hV1 hL1 hH1 hln hd1
            cases hkk
            have q0 : ρ1 0 = (o : Int) + 0 := hbd2 0 _ rfl
            have q1 : ρ1 1 = (0 : Int) + ((-1) * ρ2 6 + (1 * ρ2 8 + 0)) := hbd2 1 _ rfl
            have q2 : ρ1 2 = (0 : Int) + (1 * ρ2 9 + 0) := hbd2 2 _ rfl
            have g6 : ρ2 6 = v := ag2.1 6 (by show 6 < 10; decide)
            have g8 : ρ2 8 = hv h' 152 k := ag2.1 8 (by show 8 < 10; decide)
            have g9 : ρ2 9 = y := ag2.1 9 (by show 9 < 10; decide)
            refine sn_kn hT'.1 hy (by omega) (by omega) (by omega) hal' (HM_cell hT'.1 hH1.1 hMM azL_141 ?_) (HM_cell hT'.1 hH1.1 hMM azL_142 ?_) hV1 hL1 hH1 hd1 <;> rfl
          · intro E hE ρ3 h2 s4 lo2 w2 ag2 hT2 hM2 hF2 hl2 d1 d2 hml2
            have ee := List.mem_singleton.mp hE
            subst ee
            have a0 : ρ3 0 = g := ag2 0 (by show 0 < 10; decide)
            have a1 : ρ3 1 = n := ag2 1 (by show 1 < 10; decide)
            have a2 : ρ3 2 = e := ag2 2 (by show 2 < 10; decide)
            have a4 : ρ3 4 = k := ag2 4 (by show 4 < 10; decide)
            have a9 : ρ3 9 = y := ag2 9 (by show 9 < 10; decide)
            have hsl := HF_get hF2 (c := 152) (k := o) (v := (0, 0, [(9, 1)])) (by decide) (by omega) (List.Mem.head _)
            rw [sz_v_eq (show (0 : Int) + (1 * ρ3 9 + 0) = y by omega)] at hsl
            have hoy : hv h2 152 o = y := hv_val hsl (by omega) (by omega)
            have eoth : ∀ i, i ≠ o → hv h2 152 i = hv h' 152 i := fun i hi => HM_hv hM2 (by decide) (md_one hi)
            have hnu := nu_up (h := h') (h' := h2) ho (fun i _ hio => eoth i hio)
            refine go h2 s4 lo2 1 ⟨hT2, HM_trans hM0' hM2 md_sub, by omega, Nat.le_trans d1 hs1', Nat.le_trans d2 hs2', he, Or.inr rfl, hk, ho, ?_⟩ ?_ ?_
            · intro i hi
              by_cases hio : i = o
              · subst hio
                rw [hoy]
                omega
              · rw [eoth i hio]
                exact hbd' i hi
            · unfold llM
              rw [hnu, hoy, ← tn]
              omega
            · exact (ml7 hml2 (show (0 : Int) + (1 * ρ3 0 + 0) = g by omega) (show (0 : Int) + (1 * ρ3 1 + 0) = n by omega) (show (0 : Int) + (1 * ρ3 2 + 0) = e by omega) (show (1 : Int) + 0 = (1 : Int) by omega) (show (0 : Int) + (1 * ρ3 4 + 0) = (k : Int) by omega) (show (o : Int) + 0 = (o : Int) by omega))
set_option maxRecDepth 20000 in
/-- layLate -/
theorem ll_all {X : List (List Value)} (hX : az_X X) (h1 : az_Valid X lbB) (h2 : az_Valid X lsB) {h : List mzC} (hT : az_Tp h) (hlen : h.length + 6000 < 2147483648) {g : Int} (hg : 1 ≤ g ∧ g ≤ 200) {d : Nat} (hd : 4 ≤ d) {s2 : Nat × Nat} {lo : mzL} (hlo : az_ml lo [.ref 145, iv g]) (hal : ∀ i, i < (hv h 142 0).toNat → alw h i (hv h 151 i)) (hsat : ∀ k o, k < (hv h 142 0).toNat → o < (hv h 142 0).toNat → sat1 X h g k o) : mz_gg X (llK h s2) d 125 0 lo [] (h, s2) := by
  obtain ⟨en, en1, en2⟩ := hv_slot hT.1 azL_142 many_ty
  refine az_go (c := llCI) (ends := llEIs) (i0 := 0) (ρ := rho [g, hv h 142 0] ((h.length : Int) + 4)) sz_pkall_szP hX (tb := llT) ?_ llQ_ok (az_wfc_ok rfl) llRI rfl rfl rfl (by show h.length + 1000 * (4 + 2) < 2147483648; omega) rfl hd ?_ hT ?_ ?_ (fun k hk => by cases hk) ?_ ?_
  · exact List.forall_mem_cons.mpr ⟨h1, List.forall_mem_cons.mpr ⟨h2, List.forall_mem_cons.mpr ⟨snB_v hX, fun _ h => by cases h⟩⟩⟩
  · exact rho_V (rho_free rfl _) (show rin [(1, 200), (0, 10)] [g, hv h 142 0] from by simp only [rin, and_true]; omega) rfl (by omega) (by decide) trivial
  · exact HF_cons 0 (hv h 142 0) (by decide) (show (0 : Int) + 0 = ((0 : Nat) : Int) by omega) (by omega) (sz_v_eq (show (0 : Int) + (1 * hv h 142 0 + 0) = _ by omega)) en (HF_nil _ _)
  · have e : llCI.2.2.1.2.2.2.1.map (sz_v (rho [g, hv h 142 0] ((h.length : Int) + 4))) = [.ref 145, iv g] := by
      show [sz_v _ (1, 145, []), sz_v _ (0, 0, [(0, 1)])] = _
      rw [sz_v_ref _ (by decide), sz_v_eq (show (0 : Int) + (1 * g + 0) = g by omega)]
      rfl
    rw [e]
    exact hlo
  · intro p hp ρ' h' s3 w1 ag hT' hM' hF' hl' b1 b2
    have hp := List.mem_singleton.mp hp
    subst hp
    exact ⟨hT', hM', hl', b1, b2, rfl⟩
  · intro E hE ρ' h' s3 lo' w1 ag hT' hM' hF' hl' b1 b2 hml
    obtain ⟨i, hi, e⟩ := List.mem_map.mp hE
    have hi := List.mem_range.mp hi
    subst e
    have a0 : ρ' 0 = g := ag 0 (by decide)
    have a1 : ρ' 1 = hv h 142 0 := ag 1 (by decide)
    have r1 : ((i + 1 : Nat) : Int) ≤ ρ' 1 ∧ ρ' 1 ≤ ((i + 1 : Nat) : Int) := w1.2.1 1
    have r2 : (0 : Int) ≤ ρ' 2 ∧ ρ' 2 ≤ 2050 := w1.2.1 2
    have hz : (hv h 142 0).toNat = i + 1 := by omega
    have rl : ∀ k, k < i + 1 → -10000 ≤ ρ' (3 + k) ∧ ρ' (3 + k) ≤ 10000 := by
      intro k hk
      have := w1.2.1 (3 + k)
      have e3 : sz_at ([(1, 200), (((i + 1 : Nat) : Int), ((i + 1 : Nat) : Int)), (0, 2050)] ++ List.replicate (i + 1) ((-10000 : Int), (10000 : Int))) (3 + k) = ((-10000), 10000) := by
        unfold sz_at
        rw [List.getD_eq_getElem?_getD, List.getElem?_append_right (by simp), show 3 + k - ([(1, 200), (((i + 1 : Nat) : Int), ((i + 1 : Nat) : Int)), (0, 2050)] : szR).length = k by simp, List.getElem?_replicate, if_pos hk]
        rfl
      have this : (sz_at ([(1, 200), (((i + 1 : Nat) : Int), ((i + 1 : Nat) : Int)), (0, 2050)] ++ List.replicate (i + 1) ((-10000 : Int), (10000 : Int))) (3 + k)).1 ≤ ρ' (3 + k) ∧ ρ' (3 + k) ≤ (sz_at ([(1, 200), (((i + 1 : Nat) : Int), ((i + 1 : Nat) : Int)), (0, 2050)] ++ List.replicate (i + 1) ((-10000 : Int), (10000 : Int))) (3 + k)).2 := this
      rw [e3] at this
      exact this
    have e0 : ∀ k, k < i + 1 → hv h' 152 k = ρ' (3 + k) := by
      intro k hk
      have hk2 := rl k hk
      have := HF_get hF' (c := 152) (k := k) (v := (0, 0, [(3 + k, 1)])) (by decide) (by omega) (List.mem_map.mpr ⟨k, List.mem_range.mpr hk, rfl⟩)
      rw [sz_v_eq (show (0 : Int) + (1 * ρ' (3 + k) + 0) = ρ' (3 + k) by omega)] at this
      exact hv_val this (by omega) (by omega)
    rw [hz] at hal hsat
    refine ll_loop hX hT hg (by omega) hd hlen hal hsat ((llM h' (i + 1) 0 0 0).toNat + 1) h' s3 lo' (ρ' 2) 0 0 0 ⟨hT', hM', hl', b1, b2, r2, Or.inl rfl, by omega, by omega, fun k hk => by
      have k1 := rl k hk
      have k2 := (hv_early hT.1 (k := k) (by omega)).2
      rw [e0 k hk]
      omega⟩ (by omega) ?_
    exact (ml7 hml (show (0 : Int) + (1 * ρ' 0 + 0) = g by omega) (show (0 : Int) + (1 * ρ' 1 + 0) = ((i + 1 : Nat) : Int) by omega) (show (0 : Int) + (1 * ρ' 2 + 0) = ρ' 2 by omega) (show (0 : Int) + 0 = (0 : Int) by omega) (show (0 : Int) + 0 = ((0 : Nat) : Int) by omega) (show (0 : Int) + 0 = ((0 : Nat) : Int) by omega))
