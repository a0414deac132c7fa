/-! all together -/
theorem sz_and63 (x : Int32) : 0 ≤ (x &&& 63).toInt ∧ (x &&& 63).toInt ≤ 63 := by
  have h : (x &&& 63).toBitVec.toNat ≤ 63 := by
    rw [Int32.toBitVec_and, BitVec.toNat_and]
    exact Nat.and_le_right
  have e : (x &&& 63).toInt = ((x &&& 63).toBitVec.toNat : Int) := by
    show (x &&& 63).toBitVec.toInt = _
    rw [BitVec.toInt_eq_toNat_of_lt (by omega)]
  omega
theorem sz_good2 {T : List (Int × szT)} {ρ : Nat → Int} {L : Nat} {xs : Nat → Int32} (hpk : sz_pk szc_0 mzc_0 = true) (hx : ∀ k, k < L → ρ k = (xs k).toInt) (hG : sz_GG T ρ (sz_X L) sz_0) : mz_Good L xs := by
  have hX : (sz_X L).map (fun l => l.map (sz_v ρ)) = mz_X L xs := by
    unfold sz_X mz_X
    have hc : ∀ l : List Int, (l.map (fun c => ((0, c, []) : szV))).map (sz_v ρ) = l.map (fun c => Value.int (Int32.ofInt c)) := by
      intro l
      rw [List.map_map]
      refine List.map_congr_left (fun c _ => ?_)
      show Value.int (sz_i ρ (0, c, [])) = _
      rw [sz_i_const]
    simp only [List.map_cons, List.map_nil]
    rw [List.map_map]
    refine congr (congrArg List.cons ?_) ?_
    · refine List.map_congr_left (fun k hk => ?_)
      show Value.int (sz_i ρ (0, 0, [(k, 1)])) = _
      unfold sz_i
      simp only [sz_sum, Int.zero_add, Int.one_mul, Int.add_zero, hx k (List.mem_range.mp hk), Int32.ofInt_toInt]
    · simp only [sz_v, sz_i_const]
      rfl
  have hG := hG [] (0, (8, 0, (0, 0, 0), mzc_0), 0, [(0, .ref 0)], []) [] ⟨rfl, mz_P0, rfl, hpk, rfl, ?_, rfl⟩ trivial (sz_HR_0 T ρ)
  · obtain ⟨n', o, s', h1, h2, h3, h4⟩ := hG
    rw [hX] at h1
    refine ⟨n', 100, s', ?_, by decide, h3, h4⟩
    rw [← h2]
    exact h1
  · intro k v hv h9
    match k, hv with
    | 0, hv => cases hv; rfl
    | k + 1, hv => simp [sz_0] at hv
/-- years -/
theorem sz_32 {xs : Nat → Int32} (h : (xs 0 &&& 63).toInt = 32) : mz_Good 5 xs := by
  obtain ⟨ρ, hD, hB, hf⟩ := sz_rho xs (D := sz_yD) sz_yD_acy
  have h0 : ρ 0 = (xs 0).toInt := hf 0 _ _ rfl
  have h5 : ρ 5 = (xs 0 &&& 63).toInt := by
    rw [hD 5 13 _ _ rfl (by decide)]
    have e1 : sz_i ρ (0, 0, [(0, 1)]) = xs 0 := by
      unfold sz_i
      simp only [sz_sum, Int.zero_add, Int.one_mul, Int.add_zero, h0, Int32.ofInt_toInt]
    rw [e1, sz_i_const]
    rfl
  refine sz_good2 (T := sz_yT) (ρ := ρ) sz_pk_0 ?_ (sz_exh_ok sz_pkall_szP hD hB (fun R C hh hR => sz_yhC sz_yC_0 hh hB hR) _ _ _ sz_y_run ?_)
  · intro k hk
    match k, hk with
    | 0, _ => exact h0
    | 1, _ => exact hf 1 _ _ rfl
    | 2, _ => exact hf 2 _ _ rfl
    | 3, _ => exact hf 3 _ _ rfl
    | 4, _ => exact hf 4 _ _ rfl
  · intro k
    match k with
    | 0 => exact hB 0
    | 1 => exact hB 1
    | 2 => exact hB 2
    | 3 => exact hB 3
    | 4 => exact hB 4
    | 5 =>
      show 32 ≤ ρ 5 ∧ ρ 5 ≤ 32
      rw [h5]
      omega
    | k + 6 => exact hB (k + 6)
theorem sz_all5 (xs : Nat → Int32) : mz_Good 5 xs := by
  have h := sz_and63 (xs 0)
  have b1 := sz_bd (xs 1)
  have b2 := sz_bd (xs 2)
  have hc : (xs 0 &&& 63).toInt = 0 ∨ (xs 0 &&& 63).toInt = 1 ∨ (xs 0 &&& 63).toInt = 2 ∨ (xs 0 &&& 63).toInt = 3 ∨ (xs 0 &&& 63).toInt = 4 ∨ (xs 0 &&& 63).toInt = 5 ∨ (xs 0 &&& 63).toInt = 6 ∨ (xs 0 &&& 63).toInt = 7 ∨ (xs 0 &&& 63).toInt = 8 ∨ (xs 0 &&& 63).toInt = 9 ∨ (xs 0 &&& 63).toInt = 10 ∨ (xs 0 &&& 63).toInt = 11 ∨ (xs 0 &&& 63).toInt = 12 ∨ (xs 0 &&& 63).toInt = 13 ∨ (xs 0 &&& 63).toInt = 14 ∨ (xs 0 &&& 63).toInt = 15 ∨ (xs 0 &&& 63).toInt = 16 ∨ (xs 0 &&& 63).toInt = 17 ∨ (xs 0 &&& 63).toInt = 18 ∨ (xs 0 &&& 63).toInt = 19 ∨ (xs 0 &&& 63).toInt = 20 ∨ (xs 0 &&& 63).toInt = 21 ∨ (xs 0 &&& 63).toInt = 22 ∨ (xs 0 &&& 63).toInt = 23 ∨ (xs 0 &&& 63).toInt = 24 ∨ (xs 0 &&& 63).toInt = 25 ∨ (xs 0 &&& 63).toInt = 26 ∨ (xs 0 &&& 63).toInt = 27 ∨ (xs 0 &&& 63).toInt = 28 ∨ (xs 0 &&& 63).toInt = 29 ∨ (xs 0 &&& 63).toInt = 30 ∨ (xs 0 &&& 63).toInt = 31 ∨ (xs 0 &&& 63).toInt = 32 ∨ (xs 0 &&& 63).toInt = 33 ∨ (xs 0 &&& 63).toInt = 34 ∨ (xs 0 &&& 63).toInt = 35 ∨ (xs 0 &&& 63).toInt = 36 ∨ (xs 0 &&& 63).toInt = 37 ∨ 38 ≤ (xs 0 &&& 63).toInt := by omega
  rcases hc with hc | hc | hc | hc | hc | hc | hc | hc | hc | hc | hc | hc | hc | hc | hc | hc | hc | hc | hc | hc | hc | hc | hc | hc | hc | hc | hc | hc | hc | hc | hc | hc | hc | hc | hc | hc | hc | hc | hc
  · exact sz_case3 (a := 0) (b := 0) (by omega) (by omega) sz_E0_acy sz_E0_sts sz_run_0
  · exact sz_case (a := 1) (b := 1) (by omega) (by omega) sz_run_1
  · exact sz_case (a := 2) (b := 2) (by omega) (by omega) sz_run_2
  · exact sz_case (a := 3) (b := 3) (by omega) (by omega) sz_run_3
  · exact sz_case (a := 4) (b := 4) (by omega) (by omega) sz_run_4
  · exact sz_case (a := 5) (b := 5) (by omega) (by omega) sz_run_5
  · have hr : ((-2147483648) ≤ (xs 1).toInt ∧ (xs 1).toInt ≤ 0) ∨ (1 ≤ (xs 1).toInt ∧ (xs 1).toInt ≤ 1) ∨ (2 ≤ (xs 1).toInt ∧ (xs 1).toInt ≤ 2) ∨ (3 ≤ (xs 1).toInt ∧ (xs 1).toInt ≤ 2147483647) := by omega
    rcases hr with hr | hr | hr | hr
    · exact sz_case4 (a := 6) (b := 6) (by omega) (by omega) hr b2 sz_E6_acy sz_E6_sts sz_run_6_0
    · exact sz_case4 (a := 6) (b := 6) (by omega) (by omega) hr b2 sz_E6_acy sz_E6_sts sz_run_6_1
    · exact sz_case4 (a := 6) (b := 6) (by omega) (by omega) hr b2 sz_E6_acy sz_E6_sts sz_run_6_2
    · exact sz_case4 (a := 6) (b := 6) (by omega) (by omega) hr b2 sz_E6_acy sz_E6_sts sz_run_6_3
  · exact sz_case (a := 7) (b := 7) (by omega) (by omega) sz_run_7
  · have hr : ((-2147483648) ≤ (xs 1).toInt ∧ (xs 1).toInt ≤ 0) ∨ (1 ≤ (xs 1).toInt ∧ (xs 1).toInt ≤ 2147483647) := by omega
    have hs : ((-2147483648) ≤ (xs 2).toInt ∧ (xs 2).toInt ≤ 7) ∨ (8 ≤ (xs 2).toInt ∧ (xs 2).toInt ≤ 2147483647) := by omega
    rcases hr with hr | hr
    · rcases hs with hs | hs
      · exact sz_case2 (a := 8) (b := 8) (by omega) (by omega) hr hs sz_run_8_0
      · exact sz_case2 (a := 8) (b := 8) (by omega) (by omega) hr hs sz_run_8_1
    · rcases hs with hs | hs
      · exact sz_case2 (a := 8) (b := 8) (by omega) (by omega) hr hs sz_run_8_2
      · exact sz_case2 (a := 8) (b := 8) (by omega) (by omega) hr hs sz_run_8_3
  · have hr : ((-2147483648) ≤ (xs 1).toInt ∧ (xs 1).toInt ≤ 10) ∨ (11 ≤ (xs 1).toInt ∧ (xs 1).toInt ≤ 20) ∨ (21 ≤ (xs 1).toInt ∧ (xs 1).toInt ≤ 30) ∨ (31 ≤ (xs 1).toInt ∧ (xs 1).toInt ≤ 2147483647) := by omega
    rcases hr with hr | hr | hr | hr
    · exact sz_case2 (a := 9) (b := 9) (by omega) (by omega) hr b2 sz_run_9_0
    · exact sz_case2 (a := 9) (b := 9) (by omega) (by omega) hr b2 sz_run_9_1
    · exact sz_case2 (a := 9) (b := 9) (by omega) (by omega) hr b2 sz_run_9_2
    · exact sz_case2 (a := 9) (b := 9) (by omega) (by omega) hr b2 sz_run_9_3
  · exact sz_case (a := 10) (b := 10) (by omega) (by omega) sz_run_10
  · exact sz_case (a := 11) (b := 11) (by omega) (by omega) sz_run_11
  · exact sz_case (a := 12) (b := 12) (by omega) (by omega) sz_run_12
  · exact sz_case (a := 13) (b := 13) (by omega) (by omega) sz_run_13
  · exact sz_case (a := 14) (b := 14) (by omega) (by omega) sz_run_14
  · exact sz_case (a := 15) (b := 15) (by omega) (by omega) sz_run_15
  · exact sz_case (a := 16) (b := 16) (by omega) (by omega) sz_run_16
  · exact sz_case (a := 17) (b := 17) (by omega) (by omega) sz_run_17
  · exact sz_case (a := 18) (b := 18) (by omega) (by omega) sz_run_18
  · exact sz_case (a := 19) (b := 19) (by omega) (by omega) sz_run_19
  · exact sz_case (a := 20) (b := 20) (by omega) (by omega) sz_run_20
  · exact sz_case (a := 21) (b := 21) (by omega) (by omega) sz_run_21
  · exact sz_case (a := 22) (b := 22) (by omega) (by omega) sz_run_22
  · exact sz_case (a := 23) (b := 23) (by omega) (by omega) sz_run_23
  · exact sz_case (a := 24) (b := 24) (by omega) (by omega) sz_run_24
  · exact sz_case (a := 25) (b := 25) (by omega) (by omega) sz_run_25
  · exact sz_case (a := 26) (b := 26) (by omega) (by omega) sz_run_26
  · have hr : ((-2147483648) ≤ (xs 1).toInt ∧ (xs 1).toInt ≤ 10) ∨ (11 ≤ (xs 1).toInt ∧ (xs 1).toInt ≤ 20) ∨ (21 ≤ (xs 1).toInt ∧ (xs 1).toInt ≤ 30) ∨ (31 ≤ (xs 1).toInt ∧ (xs 1).toInt ≤ 2147483647) := by omega
    rcases hr with hr | hr | hr | hr
    · exact sz_case2 (a := 27) (b := 27) (by omega) (by omega) hr b2 sz_run_27_0
    · exact sz_case2 (a := 27) (b := 27) (by omega) (by omega) hr b2 sz_run_27_1
    · exact sz_case2 (a := 27) (b := 27) (by omega) (by omega) hr b2 sz_run_27_2
    · exact sz_case2 (a := 27) (b := 27) (by omega) (by omega) hr b2 sz_run_27_3
  · exact sz_case (a := 28) (b := 28) (by omega) (by omega) sz_run_28
  · exact sz_case (a := 29) (b := 29) (by omega) (by omega) sz_run_29
  · exact sz_case (a := 30) (b := 30) (by omega) (by omega) sz_run_30
  · exact sz_case (a := 31) (b := 31) (by omega) (by omega) sz_run_31
  · exact sz_32 hc
  · exact sz_case (a := 33) (b := 33) (by omega) (by omega) sz_run_33
  · exact sz_case (a := 34) (b := 34) (by omega) (by omega) sz_run_34
  · exact sz_case (a := 35) (b := 35) (by omega) (by omega) sz_run_35
  · exact sz_case (a := 36) (b := 36) (by omega) (by omega) sz_run_36
  · exact sz_case (a := 37) (b := 37) (by omega) (by omega) sz_run_37
  · exact sz_case (a := 38) (b := 63) (by omega) (by omega) sz_run_38
theorem sz_all {L : Nat} (hL : L ≤ 5) (xs : Nat → Int32) : mz_Good L xs := by
  match L, hL with
  | 0, _ => exact sz_short sz_s0
  | 1, _ => exact sz_short sz_s1
  | 2, _ => exact sz_short sz_s2
  | 3, _ => exact sz_short sz_s3
  | 4, _ => exact sz_short sz_s4
  | 5, _ => exact sz_all5 xs
theorem whole_start {p : Program} {e : Env} {s : State} {m : MethodId} {below : List Frame} {meth : Method} {c : Code} (l : Launch) (hflags : l.flags = flags0) {b L : Nat} {xs : Nat → Int32} (hL : L ≤ 5) (C0 : lw_At p s m meth c b L xs) : W p l e room_1 s m #[Value.ref b] below meth c s.heap [] 0 0 (lw_Z below #[Value.ref b] s) (entryFrame m ([Value.ref b] : List Value).toArray 8) := mz_whole l hflags (sz_all hL xs) C0
set_option maxHeartbeats 4000000 in
theorem lw_walk (l : Launch) (hflags : l.flags = flags0) (b : Addr) (xs : List Int32) : MetFree l x (headSpec (Jvm.Cond.code x code maxLocals ret :: tables_1) room_1) (lw_P b xs) (fun _ _ _ _ _ => True) lw_Q := by
  refine MetFree.of_bodyS (code := code) (maxLocals := maxLocals) (ret := ret) (by decide) ?_ ?_
  · intro args s m h hn
    obtain ⟨meth, c, h1, h2, h3, h4, h5, h6, -, -⟩ := Cond.code_spec hn (atoms_spec (ws := Jvm.Cond.code x code maxLocals ret :: tables_1) h _ List.mem_cons_self)
    exact ⟨meth, c, h1, h2, h3, h4, h5, h6⟩
  · intro p e s m args below meth c s₁ B hml0 hP _
    obtain ⟨rfl, hx, hbd, hgv⟩ := hP
    obtain ⟨scr, harrAt, hlist, hof, hsmall⟩ := hx
    obtain ⟨hcb, hkn, -, -⟩ := State.arrayAt?_spec harrAt
    have hown : s.vm.findClass R_law = some m.cls := findClass_of_methodNamed B.named
    have hts0 : ∀ c ∈ (Jvm.Cond.code x code maxLocals ret :: tables_1), c.before #[Value.ref b] s = true := atoms_spec (ws := Jvm.Cond.code x code maxLocals ret :: tables_1) B.pre
    have hts : ∀ w ∈ lw_tbl, w.before #[Value.ref b] s = true := k2_hts_sels lw_privs (fun w hw => hts0 w (List.mem_cons_of_mem _ hw)) lw_privs_ok
    have hml : c.maxLocals = 8 := B.maxLocals_eq (hts0 _ List.mem_cons_self)
    have X₀ : Stand p l e room_1 s m #[Value.ref b] below meth c s₁ [] 0 0 := Stand.of_body B
    have hh0 : s₁.heap = s.heap := by rw [B.state]; rfl
    have hsz : scr.slots.size = xs.length := by rw [← Array.length_toList, hlist, List.length_map]
    have hval : ∀ j : Nat, j < xs.length → scr.slots[j]? = some (.int (xs.getD j 0)) := fun j hj => by
      rw [← Array.getElem?_toList, hlist]
      simp [hj]
    have hbl : b < s.heap.size := (Array.getElem?_eq_some_iff.mp hcb).1
    have hX : va_X b xs.length (fun j => xs.getD j 0) s s.heap := ⟨scr, hcb, hof, hkn, hsz, hval⟩
    have K : W p l e room_1 s m #[Value.ref b] below meth c s₁.heap [] 0 0 (lw_Z below #[Value.ref b] s) (entryFrame m ([Value.ref b] : List Value).toArray 8) := by
      rw [hh0]
      exact whole_start l hflags hbd ⟨B.exec, B.bytes, B.returns, hml, hown, hts, hX, hbl, B.notSynchronized, hgv⟩
    obtain ⟨t, a1, o, b1, b2, b3⟩ := K s₁ rfl X₀
    exact ⟨t, o, a1, b1, b2, b3⟩
theorem lw_pre_spec {args : Array Value} {s : State} (h : (Jvm.Cond.and given_1 narrow_1).before args s = true) (hr : rest_1_c.before args s = true) : ∃ (b : Addr) (xs : List Int32), lw_P b xs args s := by
  have hs := flat_of_before _ h
  have hq := flat_of_before _ hr
  have hc : (Cond.count 1).before args s = true := hs _ (by decide +kernel)
  have harr : (Cond.arrayOf (.arg 0) .int).before args s = true := hs _ (by decide +kernel)
  have hle : (Cond.le (.length (.arg 0)) (.int 5)).before args s = true := hs _ (by decide +kernel)
  have hlen : (Cond.isInt (.length (.arg 0))).before args s = true := hq _ (by decide +kernel)
  have hall : (Cond.all (.arg 0) (.isInt (.elem (.arg 0) (.index 0)))).before args s = true := hq _ (by decide +kernel)
  obtain ⟨b, xs, hb, hx⟩ := State.ints_of_pre rfl harr hlen hall
  have hsm : xs.length < 2 ^ 31 := hx.choose_spec.2.2.2
  have hev : (Term.length (.arg 0)).eval args s none [] s = some (.int xs.length.toInt32) := hx.length_eval hb
  have hv := Cond.le_ints hev (show (Term.int 5).eval args s none [] s = some (.int 5) from rfl)
  have hd : xs.length.toInt32 ≤ 5 := by
    simpa [Cond.before, Cond.holds, hv] using hle
  have hN : xs.length ≤ 5 := (Int32.ofNat_le_ofNat hsm (by decide)).mp (show Int32.ofNat xs.length ≤ Int32.ofNat 5 from hd)
  exact ⟨b, xs, Cond.one_arg hc (show args[0]? = some (.ref b) from hb), hx, hN, h⟩
theorem lw_comes (l : Launch) (hflags : l.flags = flags0) : Comes l x (Jvm.Cond.code x code maxLocals ret :: tables_1) room_1 (fun tb e args s => Calls_1 tb e args s ∧ rest_1 tb e args s ∧ Pre_1 tb e args s)
    (fun _ _ args s o t => lw_Q args s o t) := by
  intro p e ha hc hk s m args below hf hfit hheap happ hpre
  obtain ⟨b, xs, hP⟩ := lw_pre_spec hpre.2.2 hpre.2.1
  obtain ⟨k, o, h1, h2, h3, hQ⟩ := lw_walk l hflags b xs p e ha hc hk s m args below hf ((Spec.applies_iff_loose hf).mp happ).1 hP trivial
  exact ⟨k, o, h1, h2, h3, hQ⟩
theorem lw_frame {s t : State} {o : Outcome} {args : Array Value} (h : Framed s o t [] 600002 7302232) :
    Framed s o t (fieldLocs frame_1_writes args s ++ arrayLocs frame_1_arrays args s ++ staticLocs frame_1_statics s) 600002 7302232 := h
theorem lw_limb (L : Cond) (hL : ∀ (args : Array Value) (s t : State), L.after args s (.returned (some (.int 1))) t = true) :
    ArmFor flags0 classFile x code maxLocals ret World_1 tables_1 room_1 Calls_1 rest_1 Pre_1
      (fun tb e a s o t => postC L tb e a s o t ∧ Framed s o t (fieldLocs frame_1_writes a s ++ arrayLocs frame_1_arrays a s ++ staticLocs frame_1_statics s) 600002 7302232) := by
  intro l hflags _ _ p e ha hc hk s m args below hf hfit hheap happ hpre
  obtain ⟨k, o, h1, h2, h3, rfl, hF⟩ := lw_comes l hflags p e ha hc hk s m args below hf hfit hheap happ hpre
  exact ⟨k, _, h1, h2, h3, hL args s _, lw_frame hF⟩
theorem i_vc : Claimed_1_1 ∧ Claimed_1_2 := ⟨lw_limb limb_1_1 (fun args s t => by simp [limb_1_1, Cond.after, Cond.holds, Cond.value]), lw_limb limb_1_2 (fun args s t => Cond.after_iff.mpr (by
  first | (rw [show limb_1_2 = Cond.eq .result (.int 1) from rfl, Cond.eq_ints (x := 1) (y := 1) rfl rfl]; simp; done) | (simp [limb_1_2, Cond.value, Term.eval]; done)))⟩
