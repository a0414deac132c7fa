/-! a call -/
theorem mz_take_eq {n : Nat} {st as rest : List Value} (h : mz_take n st = some (as, rest)) : n ≤ st.length ∧ as = (st.take n).reverse ∧ rest = st.drop n ∧ st = as.reverse ++ rest ∧ as.length = n := by
  unfold mz_take at h
  by_cases hn : n ≤ st.length
  · rw [if_pos hn] at h
    cases h
    exact ⟨hn, rfl, rfl, by rw [List.reverse_reverse, List.take_append_drop], by simp; omega⟩
  · rw [if_neg hn] at h; cases h
theorem mz_wsy_good {M : mzM} {t : mzT} (hY : mz_okY M t = true) : ∀ w ∈ mz_wsy M t, w ∈ mz_WS := by
  obtain ⟨y, bytes, ret, pcs, wl, mws, hh⟩ := t
  unfold mz_okY at hY
  simp only [Bool.and_eq_true] at hY
  intro w hw
  rcases List.mem_cons.mp hw with rfl | hw
  · have h1 := hY.1.1.1.1
    dsimp only
    by_cases hhe : hh = []
    · rw [if_pos hhe] at h1 ⊢; exact mz_wok_mem h1
    · rw [if_neg hhe] at h1 ⊢; exact mz_wok_mem h1
  · exact hw
set_option maxHeartbeats 4000000 in
theorem mz_callcase {l : Launch} {s0 : State} {D : va_G} {cA : Nat → ClassId} {xt : List Nat} {X : List (List Value)} {args0 : Array Value} {n : Nat} (hT0 : ∀ w ∈ lw_tbl, w.before args0 s0 = true) (hC0 : mz_CT D (fun q => s0.heap.size ≤ q) cA xt X s0) (hTHR : mz_THR l s0) (IH : mz_GO l s0 D cA xt X n)
    {d' j i : Nat} {lo : mzL} {st : List Value} {σ σ' : mzS} {out : Option (Option Value)} {M : mzM} {t : mzT} {p : Program} {e : Env} {R : Room} {s : State} {m : MethodId} {args : Array Value} {below : List Frame} {meth : Method} {c : Code} {H : Heap} {locs : List Loc} {cells slots : Nat} {Q : State → Prop} {ws : va_W} {ls : Array Slot} {rlo : mzL} {rst : List Value} {c0 n0 : Nat} {adsE : List Nat}
    (hM : mzP[j]? = some M) (ht : mzQ[j]? = some t) (hoki : mz_okAt M t i = true) (hFX : mz_FX s0 p s m args meth c M t) (hRf : d' + 1 + 10 ≤ R.frames) (hRl : 200 + 40 * (d' + 1) ≤ R.locals) (hRc : σ'.2.1 ≤ c0 + R.cells) (hRs : σ'.2.2 ≤ n0 + R.slots)
    (hl : lv_has ls M.1 rlo) (hlo : mz_LR (mz_ads xt ws) lo rlo) (hst : mz_FR (mz_ads xt ws) st rst) (hP : mz_HP D (fun q => s0.heap.size ≤ q) cA xt s.heap σ.1 ws H locs) (hext : ∃ q, mz_ads xt ws = adsE ++ q) (hcn : σ.2.1 = c0 + cells) (hsn : σ.2.2 = n0 + slots) (hend : mz_END s0 D cA xt p l e R s m args below meth c Q M t adsE c0 n0 out σ')
    {ri : mzI} (hri : M.2.2.2[i]? = some ri) (h40 : ri.1 = 40) {as rest : List Value} {M' : mzM} {o : Option (Option Value)} {s' : mzS} {q : Nat × List Value} (htk : mz_take ri.2.2.1 st = some (as, rest)) (hM' : mzP[ri.2.1]? = some M') (hs8 : mz_sum rest ≤ 8) (hsa : mz_sum as ≤ M'.1) (hrecv : mz_recv M'.2.1 as σ = true) (hrun : mz_run mzP X n d' ri.2.1 0 (lv_args 0 as) [] σ = some (o, s')) (hres : mz_res M i rest o = some q) (hgo : mz_run mzP X n (d' + 1) j q.1 lo q.2 s' = some (out, σ')) :
    W p l e R s m args below meth c H locs cells slots Q (F0 m (mz_pc t.2.2.2.1 i) ls rst) := by
  obtain ⟨t', ht', hok'⟩ := mz_F2.get mz_okall hM'
  have hY' := mz_okY_at (mz_nolaw_at hM hri h40) hM' hok'
  obtain ⟨hx, hb, hml, hown, hts, hnm, hlk, hret, htab, hW0, hz0, hk0⟩ := id hFX
  have hCT : mz_CT D (fun q => s0.heap.size ≤ q) cA xt X s := mz_CT_moved hC0 hW0 hz0 hk0
  obtain ⟨hn, hasd, hrestd, -, haslen⟩ := mz_take_eq htk
  obtain ⟨ras, hrasd⟩ : ∃ z, z = (rst.take ri.2.2.1).reverse := ⟨_, rfl⟩
  obtain ⟨rrest, hrrd⟩ : ∃ z, z = rst.drop ri.2.2.1 := ⟨_, rfl⟩
  have hras : mz_FR (mz_ads xt ws) as ras := by rw [hasd, hrasd]; exact mz_F2.rev (mz_F2.take hst _)
  have hrr : mz_FR (mz_ads xt ws) rest rrest := by rw [hrestd, hrrd]; exact mz_F2.drop hst _
  have hrst : rst = ras.reverse ++ rrest := by rw [hrasd, hrrd, List.reverse_reverse, List.take_append_drop]
  have hraslen : ras.length = ri.2.2.1 := by rw [← mz_F2.len hras]; exact haslen
  have hMet := mz_contract hTHR IH hrun hM' ht' hY' hok'.1 hok'.2.1 hras hsa
  have hm1 := mz_mono hrun
  have hm2 := mz_mono hgo
  dsimp only at hm1 hm2
  have hmax := mz_maxL_at hM'
  have hws := mz_wsy_good hY'
  have hpre : ∀ U : State, U.heap = H → s.WarmedH U.vm → mz_Pc s0 D cA xt σ.1 ws ras ras.toArray U := by
    intro U hU hWU
    refine ⟨rfl, State.WarmedH.trans hW0 hWU, ?_, ?_, ?_, hP.2.1, hP.2.2.2⟩
    · rw [hU]; exact Nat.le_trans hz0 hP.2.2.1.1
    · intro z hz
      rw [hU, hP.2.2.1.2.1 z (Nat.lt_of_lt_of_le hz hz0) (by show ¬ s0.heap.size ≤ z; omega)]
      exact hk0 z hz
    · rw [hU]; exact hP.1
  have h8 : (rrest.map fun v => v.category).sum ≤ 8 := by rw [mz_FR.sum hrr]; exact hs8
  have hroom : 2 * (F0 m (mz_pc t.2.2.2.1 i) ls rst).monitorRoom + (rrest.map fun v => v.category).sum ≤ 8 := lv_room h8
  have hcc : cells + (s'.2.1 - σ.2.1) ≤ R.cells ∧ slots + (s'.2.2 - σ.2.2) ≤ R.slots := by omega
  have hRR : (mz_rm d' (s'.2.1 - σ.2.1) (s'.2.2 - σ.2.2)).frames + 1 ≤ R.frames ∧ 8 + (M'.1 + 11) + (mz_rm d' (s'.2.1 - σ.2.1) (s'.2.2 - σ.2.2)).locals ≤ R.locals := by
    show d' + 10 + 1 ≤ R.frames ∧ 8 + (M'.1 + 11) + (200 + 40 * d') ≤ R.locals
    omega
  have hFixed : CallFix p m c t.2.1 M.1 s args mz_WS t.1.cls := ⟨hx, hb, hml, hown, hts⟩
  obtain ⟨z0, hzz0⟩ := id hext
  unfold mz_okAt at hoki
  rw [hri] at hoki
  dsimp only at hoki
  split at hoki
  · rename_i ins len hdec
    rw [if_pos h40, hM', ht'] at hoki
    dsimp only at hoki
    obtain ⟨y', bytes', ret', pcs', wl', mws', hh'⟩ := t'
    dsimp only at hoki hMet
    unfold mz_k40 at hoki
    simp only [Bool.and_eq_true, decide_eq_true_eq] at hoki
    obtain ⟨⟨rfl, hnx⟩, hk⟩ := hoki
    have hnx := mz_nx_eq hnx
    have hY2 := hY'
    unfold mz_okY at hY2
    simp only [Bool.and_eq_true] at hY2
    obtain ⟨⟨⟨⟨hY1, hYi⟩, hYp⟩, hYd⟩, hYk⟩ := hY2
    have hYd := of_decide_eq_true hYd
    have kont : ∀ (v : Option Value) (t2 : State) (H1 : Heap) (locs1 : List Loc), t2.heap = H1 → (∃ ws', mz_ov (mz_ads xt ws') o v ∧ mz_B s0 D cA xt s'.1 (mz_ads xt ws) ws' t2.heap) → va_S (fun q => s0.heap.size ≤ q) s.heap H1 locs1 → W p l e R s m args below meth c H1 locs1 (cells + (s'.2.1 - σ.2.1)) (slots + (s'.2.2 - σ.2.2)) Q (F0 m (mz_pc t.2.2.2.1 i + 3) ls (v.toList ++ rrest)) := by
      rintro v t2 H1 locs1 rfl ⟨ws', hov, hB1, hB2, hB3, z, hz⟩ hS1
      have hq : ∃ st2, q = (i + 1, st2) ∧ mz_FR (mz_ads xt ws') st2 (v.toList ++ rrest) := by
        match o, hov, hres with
        | some none, hov, hres => cases hres; cases hov; exact ⟨rest, rfl, by rw [hz]; exact mz_FR.app hrr z⟩
        | some (some x), hov, hres =>
          cases hres
          obtain ⟨w, rfl, hw⟩ := hov
          exact ⟨x :: rest, rfl, hw, by rw [hz]; exact mz_FR.app hrr z⟩
        | none, hov, _ => exact hov.elim
      obtain ⟨st2, rfl, hst2⟩ := hq
      rw [← hnx]
      exact IH (d' + 1) j (i + 1) lo st2 s' out σ' M t hgo hM ht p e R s m args below meth c _ locs1 _ _ Q ws' ls rlo _ c0 n0 adsE hFX hRf hRl hRc hRs hl (by rw [hz]; exact mz_LR.app hlo z) hst2 ⟨hB1, hB2, hS1, hB3⟩ ⟨z0 ++ z, by rw [hz, hzz0, List.append_assoc]⟩ (by omega) (by omega) hend
    have hthrow : o = none → 0 < M'.2.1 ∧ y'.name ≠ "<init>" := by
      rintro rfl
      simp only [mz_res] at hres
      by_cases hcov : M.2.2.1.1 ≤ i ∧ i < M.2.2.1.2.1
      · have hhk := mz_hok_at hM ht
        unfold mz_hokB at hhk
        rw [Bool.or_eq_true] at hhk
        rcases hhk with hhk | hhk
        · have := of_decide_eq_true hhk; omega
        · split at hhk
          · rename_i xa xb xh xc hxt
            rw [Bool.and_eq_true, Bool.and_eq_true, Bool.and_eq_true] at hhk
            obtain ⟨⟨⟨g1, -⟩, -⟩, -⟩ := hhk
            have g5 := List.all_eq_true.mp g1 i (List.mem_range.mpr (List.getElem?_eq_some_iff.mp hri).1)
            rw [Bool.or_eq_true] at g5
            rcases g5 with g5 | g5
            · rw [decide_eq_true hcov] at g5; cases g5
            · rw [Bool.and_eq_true, hri] at g5
              have g7 := g5.2
              dsimp only at g7
              rw [h40, hM', ht'] at g7
              simpa using g7
          · cases hhk
      · rw [if_neg hcov] at hres; cases hres
    split at hk
    · rename_i ix
      simp only [Bool.and_eq_true, decide_eq_true_eq] at hk
      obtain ⟨⟨⟨hk1, hk2⟩, hk3⟩, hk4⟩ := hk
      obtain ⟨ci, hci⟩ : ∃ ci, M'.2.1 = ci + 1 := ⟨M'.2.1 - 1, by omega⟩
      rw [hci] at hYk hrecv
      dsimp only at hYk
      simp only [Bool.and_eq_true, Bool.or_eq_true, decide_eq_true_eq] at hYk
      obtain ⟨⟨⟨hv1, hv2⟩, hv3⟩, hv4⟩ := hYk
      have hv3 : mz_wok (mws'.getD 3 0) (.selects y'.cls y' y') = true := by
        rcases hv3 with ⟨h9, -⟩ | ⟨-, h9⟩
        · exact absurd h9 hk3
        · exact h9
      subst hv2
      unfold mz_recv at hrecv
      dsimp only at hrecv
      match as, hrecv, hras, haslen with
      | .ref r0 :: as', hrecv, hras, haslen =>
      match ras, hras, hraslen, hrst, hpre, hMet with
      | w0 :: ras', ⟨hw0, hras'⟩, hraslen, hrst, hpre, hMet =>
      dsimp only at hrecv
      cases hg0 : mz_get σ r0 with
      | none => rw [hg0] at hrecv; cases hrecv
      | some cell0 =>
      rw [hg0] at hrecv
      have hrecv : cell0.1 = 2 * ci := by simpa using hrecv
      obtain ⟨a0, ev, rfl, hwe, hcr, -⟩ := mz_gw hCT.1 hP.2.2.2 hg0 hw0
      have hev : ∃ fs, ev = .inr (ci, fs) := by
        rcases ev with ⟨cl, n', f | f | f | f | f⟩ | ⟨cj, fs⟩
        · rcases hcr.1 with q9 | q9 | q9 <;> omega
        · have := hcr.1; omega
        · exact hcr.elim
        · exact hcr.elim
        · have := hcr.1; omega
        · have h9 := hcr.1
          have : cj = ci := by omega
          subst this
          exact ⟨fs, rfl⟩
      obtain ⟨fs, rfl⟩ := hev
      cases hvc : vwCl[ci]? with
      | none => rw [hvc] at hv4; cases hv4
      | some rr =>
      rw [hvc] at hv4
      have hv4 : rr.1 = y'.cls := by simpa using hv4
      have hrec := va_recv hCT.2.1 hP.1 hvc hwe
      rw [hv4] at hrec
      have hstack : rst = ras'.reverse ++ .ref a0 :: rrest := by rw [hrst, List.reverse_cons, List.append_assoc]; rfl
      have hlen : ras'.length = mws'.getD 4 0 := by
        rw [List.length_cons] at hraslen
        omega
      have hgd : GoodIn mz_WS (wsV t.1.cls ix y'.cls y' (mz_wsy M' (y', bytes', ret', pcs', wl', mws', []))) := mz_good (by
        intro w hw
        unfold wsV at hw
        rcases List.mem_append.mp hw with h9 | h9
        · simp only [List.mem_cons, List.not_mem_nil, or_false] at h9
          rcases h9 with rfl | rfl | rfl | rfl
          · exact mz_wok_mem hk4
          · exact mz_wok_mem hv1
          · exact mz_wok_mem hv3
          · exact mz_wok_mem hYi
        · exact hws w h9)
      have hcw := cwV (R := R) (s := s) (args := args) (mws'.getD 4 0) hts hgd (y := y') (bytes := bytes') (maxL := M'.1) (ret := ret') (ws' := mz_WS) rfl (rm := mz_rm d' (s'.2.1 - σ.2.1) (s'.2.2 - σ.2.2)) (mc := s'.2.1 - σ.2.1) (ms := s'.2.2 - σ.2.2) rfl rfl ⟨rfl, hYd⟩ hRR
      cases o with
      | some rv =>
        have hM0 := mz_met hMet (fun _ _ _ h9 => by cases h9.1)
        have hr : va_Run p l e R s m args below meth c H locs cells slots (s'.2.1 - σ.2.1) (s'.2.2 - σ.2.2) (F0 m (mz_pc t.2.2.2.1 i) ls rst) rrest (mz_Qc s0 D cA xt s'.1 (mz_ads xt ws) (some rv) (Value.ref a0 :: ras').toArray) (fun q => s0.heap.size ≤ q) :=
          va_runV (As := ras') (rest := rrest) hFixed hM0 hcw ⟨mz_blind _ _ _ _ _ _ _, hrec, hpre⟩ rfl hlen hl.1 hstack hroom hdec hcc
        exact mz_callg hr hP.2.2.1 kont
      | none =>
        have hr : vx_Run p l e R s m args below meth c H locs cells slots (s'.2.1 - σ.2.1) (s'.2.2 - σ.2.2) (F0 m (mz_pc t.2.2.2.1 i) ls rst) rrest (mz_Qc s0 D cA xt s'.1 (mz_ads xt ws) none (Value.ref a0 :: ras').toArray) (mz_XC s0 D cA xt s'.1 (mz_ads xt ws) none) (fun q => s0.heap.size ≤ q) :=
          vx_runV (As := ras') (rest := rrest) hFixed hMet hcw ⟨mz_blind _ _ _ _ _ _ _, hrec, hpre⟩ rfl hlen hl.1 hstack hroom hdec hcc
        refine mz_callx (Bx := fun t2 => ∃ ws', mz_B s0 D cA xt s'.1 (mz_ads xt ws) ws' t2.heap) (E0 := "java/util/NoSuchElementException") hr (fun _ _ _ h9 => by obtain ⟨⟨v, -, ws', h8, -⟩, -⟩ := h9; exact h8) (fun E st9 t9 h9 => ⟨h9.2.1, h9.2.2.1, h9.2.2.2⟩) hP.2.2.1 ?_
        rintro qa ce t2 H1 locs1 rfl ⟨ws', hB1, hB2, hB3, z, hz⟩ hS1 hce hcv hcl
        simp only [mz_res] at hres
        by_cases hcov : M.2.2.1.1 ≤ i ∧ i < M.2.2.1.2.1
        · rw [if_pos hcov] at hres
          cases hres
          have hhk := mz_hok_at hM ht
          unfold mz_hokB at hhk
          rw [Bool.or_eq_true] at hhk
          rcases hhk with hhk | hhk
          · have := of_decide_eq_true hhk; omega
          · split at hhk
            · rename_i xa xb xh xc hxt
              rw [Bool.and_eq_true, Bool.and_eq_true, Bool.and_eq_true] at hhk
              obtain ⟨⟨⟨g1, g2⟩, g3⟩, g4⟩ := hhk
              have g2 := of_decide_eq_true g2
              have g3 := of_decide_eq_true g3
              have g4 := of_decide_eq_true g4
              have g5 := List.all_eq_true.mp g1 i (List.mem_range.mpr (List.getElem?_eq_some_iff.mp hri).1)
              rw [Bool.or_eq_true] at g5
              have g6 : xa ≤ mz_pc t.2.2.2.1 i ∧ mz_pc t.2.2.2.1 i < xb := by
                rcases g5 with g5 | g5
                · rw [decide_eq_true hcov] at g5; cases g5
                · rw [Bool.and_eq_true] at g5
                  exact of_decide_eq_true g5.1
              have htab : c.exceptionTable.toList = tableOf t.2.2.2.2.2.2 := by
                rcases htab with ⟨h9, -⟩ | h9
                · rw [hxt] at h9; cases h9
                · exact h9
              rw [hxt] at htab
              refine mz_catch (own := t.1.cls) (name := "java/util/NoSuchElementException") (E := "java/util/NoSuchElementException") hown ⟨xa, xb, xh, xc⟩ htab (by simp [covers, g6.1, g6.2]) g3 (hts _ g4) (va_Nw.use rfl (va_Nw.warmC hW0 (va_Nw.of rfl (hT0 _ mz_castw)))) hce hcv hcl ?_
              show W p l e R s m args below meth c t2.heap locs1 _ _ Q (F0 m xh ls [.ref qa])
              rw [g2]
              exact IH (d' + 1) j _ lo _ s' out σ' M t hgo hM ht p e R s m args below meth c _ locs1 _ _ Q ws' ls rlo [.ref qa] c0 n0 adsE hFX hRf hRl hRc hRs hl (by rw [hz]; exact mz_LR.app hlo z) ⟨⟨qa, rfl⟩, trivial⟩ ⟨hB1, hB2, hS1, hB3⟩ ⟨z0 ++ z, by rw [hz, hzz0, List.append_assoc]⟩ (by omega) (by omega) hend
            · cases hhk
        · rw [if_neg hcov] at hres; cases hres
    · rename_i ix
      simp only [Bool.and_eq_true, Bool.or_eq_true, decide_eq_true_eq] at hk
      obtain ⟨⟨hk1, hk2⟩, hk3⟩ := hk
      rw [hk2] at hYk
      dsimp only at hYk
      cases o with
      | none => exact absurd (hthrow rfl).1 (by omega)
      | some rv =>
      have hM0 := mz_met hMet (fun _ _ _ h9 => by cases h9.1)
      have hlen : ras.length = mws'.getD 4 0 := by rw [hraslen]; exact hk1
      have good : ∀ (lk : Cond), lk ∈ mz_WS → GoodIn mz_WS (([lk, .static y', .initialized y'.cls] : List Cond) ++ mz_wsy M' (y', bytes', ret', pcs', wl', mws', hh')) := fun lk hlk => mz_good (by
        intro w hw
        rcases List.mem_append.mp hw with h9 | h9
        · simp only [List.mem_cons, List.not_mem_nil, or_false] at h9
          rcases h9 with rfl | rfl | rfl
          · exact hlk
          · exact mz_wok_mem hYk
          · exact mz_wok_mem hYi
        · exact hws w h9)
      have hr : va_Run p l e R s m args below meth c H locs cells slots (s'.2.1 - σ.2.1) (s'.2.2 - σ.2.2) (F0 m (mz_pc t.2.2.2.1 i) ls rst) rrest (mz_Qc s0 D cA xt s'.1 (mz_ads xt ws) (some rv) ras.toArray) (fun q => s0.heap.size ≤ q) := by
        rcases hk3 with hk3 | ⟨hk3, hk4⟩
        · by_cases hhe : hh' = []
          · subst hhe
            exact va_runS (As := ras) (rest := rrest) hFixed hM0 (va_cwS (R := R) (s := s) (args := args) (mws'.getD 4 0) hts (good _ (mz_wok_mem hk3)) (y := y') (bytes := bytes') (maxL := M'.1) (ret := ret') (ws' := mz_WS) rfl rfl rfl hYd hRR) ⟨mz_blind _ _ _ _ _ _ _, hpre⟩ rfl hlen hl.1 hrst hroom hdec hcc
          · exact vx_runSW (As := ras) (rest := rrest) hFixed hM0 (vx_cwSW (R := R) (s := s) (args := args) (mws'.getD 4 0) hts (good _ (mz_wok_mem hk3)) (y := y') (bytes := bytes') (maxL := M'.1) (ret := ret') (hh := hh') (ws' := mz_WS) (by unfold mz_wsy; rw [if_neg hhe]) rfl rfl hYd hRR) ⟨mz_blind _ _ _ _ _ _ _, hpre⟩ rfl hlen hl.1 hrst hroom hdec hcc
        · subst hk3
          exact va_runSN (As := ras) (rest := rrest) hFixed hM0 ⟨va_cnB (R := R) (s := s) (args := args) (mws'.getD 4 0) hts (mz_good hws) (y := y') (bytes := bytes') (maxL := M'.1) (ret := ret') (ws' := mz_WS) rfl rfl rfl (va_Nw.warmM hW0 (va_Nw.of rfl (hT0 _ (mz_wq_mem hk4)))) (hts _ (mz_wok_mem hYi)) hYd hRR, hts _ (mz_wok_mem hYk), trivial⟩ ⟨mz_blind _ _ _ _ _ _ _, hpre⟩ rfl hlen hl.1 hrst hroom hdec hcc
      exact mz_callg hr hP.2.2.1 kont
    · rename_i ix
      simp only [Bool.and_eq_true, Bool.or_eq_true, decide_eq_true_eq] at hk
      obtain ⟨⟨⟨hk1, hk2⟩, hk3⟩, hk4⟩ := hk
      obtain ⟨ci, hci⟩ : ∃ ci, M'.2.1 = ci + 1 := ⟨M'.2.1 - 1, by omega⟩
      rw [hci] at hYk hrecv
      dsimp only at hYk
      simp only [Bool.and_eq_true, Bool.or_eq_true, decide_eq_true_eq] at hYk
      obtain ⟨⟨⟨hv1, hv2⟩, hv3⟩, hv4⟩ := hYk
      have hv3 : ret' = none := by
        rcases hv3 with ⟨-, h9⟩ | ⟨h9, -⟩
        · exact h9
        · exact absurd hk3 h9
      subst hv2
      subst hv3
      cases o with
      | none => exact absurd hk3 (hthrow rfl).2
      | some rv =>
      have hM0 := mz_met hMet (fun _ _ _ h9 => by cases h9.1)
      unfold mz_recv at hrecv
      dsimp only at hrecv
      match as, hrecv, hras, haslen with
      | .ref r0 :: as', hrecv, hras, haslen =>
      match ras, hras, hraslen, hrst, hpre, hM0 with
      | w0 :: ras', ⟨hw0, hras'⟩, hraslen, hrst, hpre, hM0 =>
      obtain ⟨a0, -, rfl⟩ := hw0
      have hstack : rst = ras'.reverse ++ .ref a0 :: rrest := by rw [hrst, List.reverse_cons, List.append_assoc]; rfl
      have hlen : ras'.length = mws'.getD 4 0 := by
        rw [List.length_cons] at hraslen
        omega
      have hr : va_Run p l e R s m args below meth c H locs cells slots (s'.2.1 - σ.2.1) (s'.2.2 - σ.2.2) (F0 m (mz_pc t.2.2.2.1 i) ls rst) rrest (mz_Qc s0 D cA xt s'.1 (mz_ads xt ws) (some rv) (Value.ref a0 :: ras').toArray) (fun q => s0.heap.size ≤ q) := by
        rcases hk4 with hk4 | hk4
        · exact va_runI (As := ras') (rest := rrest) hFixed hM0 (cwI (R := R) (s := s) (args := args) (mws'.getD 4 0) hts (mz_good hws) (y := y') (bytes := bytes') (maxL := M'.1) (ws' := mz_WS) rfl rfl rfl (hts _ (mz_wok_mem hYi)) (hts _ (mz_wok_mem hk4)) (hts _ (mz_wok_mem hv1)) hk3 hYd hRR) ⟨mz_blind _ _ _ _ _ _ _, hpre⟩ rfl hlen hl.1 hstack hroom hdec hcc
        · exact va_runIN (As := ras') (rest := rrest) hFixed hM0 ⟨va_cnB (R := R) (s := s) (args := args) (mws'.getD 4 0) hts (mz_good hws) (y := y') (bytes := bytes') (maxL := M'.1) (ret := none) (ws' := mz_WS) rfl rfl rfl (va_Nw.warmM hW0 (va_Nw.of rfl (hT0 _ (mz_wq_mem hk4)))) (hts _ (mz_wok_mem hYi)) hYd hRR, hk3, hts _ (mz_wok_mem hv1)⟩ ⟨mz_blind _ _ _ _ _ _ _, hpre⟩ rfl hlen hl.1 hstack hroom hdec hcc
      exact mz_callg hr hP.2.2.1 kont
    · cases hk
  · cases hoki
