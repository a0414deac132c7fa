/-! the reference's memory -/
def chgB : azCon := (103, 1, ([], [], [], [(1, 145, [])], [], [], false), [(some none, [], [], [], [])], [(141, 14), (147, 0), (148, 0)], (0, 0))
def mmMd : List (Nat × Nat) := [(141, 14), (141, 3), (141, 6), (141, 7), (141, 8), (141, 9), (142, 0), (146, 0), (147, 0), (148, 0)]
def mmQ : szM := (5, 12, (0, 0, 0), szc_99)
theorem mm_typ {h : List mzC} (hT : az_Tp h) : (az_slot h 141 2 = some (iv (hv h 141 2)) ∧ 0 ≤ hv h 141 2 ∧ hv h 141 2 ≤ 80) ∧ (az_slot h 141 6 = some (iv (hv h 141 6)) ∧ 0 ≤ hv h 141 6 ∧ hv h 141 6 ≤ 80) ∧ (az_slot h 141 7 = some (iv (hv h 141 7)) ∧ 0 ≤ hv h 141 7 ∧ hv h 141 7 ≤ 90) := ⟨hv_slot hT.1 azL_141 (by decide +kernel), hv_slot hT.1 azL_141 (by decide +kernel), hv_slot hT.1 azL_141 (by decide +kernel)⟩
def mmK (h0 : List mzC) (s0 : Nat × Nat) (v : Int) (o : Option (Option Value)) (s' : mzS) : Prop := o = some (some (iv v)) ∧ az_Tp s'.1 ∧ az_HM mmMd h0 s'.1 ∧ az_slot s'.1 141 2 = some (iv 0) ∧ s'.1.length = h0.length ∧ s'.2.1 ≤ s0.1 ∧ s'.2.2 ≤ s0.2
theorem md_all2 {m1 m2 : List (Nat × Nat)} (h : m1.all (fun m => m2.any (fun m' => Nat.beq m'.1 m.1 && (Nat.beq m'.2 0 || Nat.beq m'.2 m.2))) = true) : ∀ c k, az_md m2 c k = false → az_md m1 c k = false := by
  intro c k hk
  unfold az_md at hk ⊢
  rw [List.any_eq_false] at hk ⊢
  intro m hm
  have a := List.all_eq_true.mp h m hm
  obtain ⟨m', a1, a2⟩ := List.any_eq_true.mp a
  have b := hk m' a1
  rw [Bool.and_eq_true, Bool.or_eq_true] at a2
  obtain ⟨a2, a3⟩ := a2
  have a2 := Nat.eq_of_beq_eq_true a2
  intro hc
  apply b
  rw [Bool.and_eq_true, Bool.or_eq_true] at hc ⊢
  refine ⟨by rw [a2]; exact hc.1, ?_⟩
  rcases a3 with a3 | a3
  · exact Or.inl a3
  · have a3 := Nat.eq_of_beq_eq_true a3
    rw [a3]
    exact hc.2
/-- its end: so many numbers are told; atom 0 which MEMORY -/
def mtC (n : Nat) : azCon := (99, 6, ([azf], [(0, 1)], [], [(1, 145, []), (0, 0, [(0, 1)]), (0, (n : Int), [])], [(141, (2, []), (0, 0, []))], [], false), [(some (some (0, (n : Int), [])), [azf], [(0, 1)], [], [(141, (2, []), (0, 0, []))])], [(141, 14), (142, 0), (147, 0), (148, 0)], (0, 0))
theorem mtR_0 : az_ex szP az_inl (mtC 0).2.1 [chgB] (mtC 0).2.2.2.2.1 (fun _ => az_pre 99 []) (az_hint [chgB]) (az_sleaf szP az_inl [chgB] (fun _ => az_pre 99 []) (az_hint [chgB]) (mtC 0) [] (az_hb 1) (az_rb 1) none 0) 4000 (mtC 0).2.2.1.1 (mtC 0).2.2.1.2.1 (mtC 0).2.2.1.2.2.1 (az_hc (mtC 0) mmQ (67, (mtC 0).2.2.1, (0, []), (0, 0))) = true := by decide +kernel
theorem mtR_1 : az_ex szP az_inl (mtC 1).2.1 [chgB] (mtC 1).2.2.2.2.1 (fun _ => az_pre 99 []) (az_hint [chgB]) (az_sleaf szP az_inl [chgB] (fun _ => az_pre 99 []) (az_hint [chgB]) (mtC 1) [] (az_hb 1) (az_rb 1) none 0) 4000 (mtC 1).2.2.1.1 (mtC 1).2.2.1.2.1 (mtC 1).2.2.1.2.2.1 (az_hc (mtC 1) mmQ (67, (mtC 1).2.2.1, (0, []), (0, 0))) = true := by decide +kernel
theorem mtR_2 : az_ex szP az_inl (mtC 2).2.1 [chgB] (mtC 2).2.2.2.2.1 (fun _ => az_pre 99 []) (az_hint [chgB]) (az_sleaf szP az_inl [chgB] (fun _ => az_pre 99 []) (az_hint [chgB]) (mtC 2) [] (az_hb 1) (az_rb 1) none 0) 4000 (mtC 2).2.2.1.1 (mtC 2).2.2.1.2.1 (mtC 2).2.2.1.2.2.1 (az_hc (mtC 2) mmQ (67, (mtC 2).2.2.1, (0, []), (0, 0))) = true := by decide +kernel
theorem mtR_3 : az_ex szP az_inl (mtC 3).2.1 [chgB] (mtC 3).2.2.2.2.1 (fun _ => az_pre 99 []) (az_hint [chgB]) (az_sleaf szP az_inl [chgB] (fun _ => az_pre 99 []) (az_hint [chgB]) (mtC 3) [] (az_hb 1) (az_rb 1) none 0) 4000 (mtC 3).2.2.1.1 (mtC 3).2.2.1.2.1 (mtC 3).2.2.1.2.2.1 (az_hc (mtC 3) mmQ (67, (mtC 3).2.2.1, (0, []), (0, 0))) = true := by decide +kernel
theorem mtR_4 : az_ex szP az_inl (mtC 4).2.1 [chgB] (mtC 4).2.2.2.2.1 (fun _ => az_pre 99 []) (az_hint [chgB]) (az_sleaf szP az_inl [chgB] (fun _ => az_pre 99 []) (az_hint [chgB]) (mtC 4) [] (az_hb 1) (az_rb 1) none 0) 4000 (mtC 4).2.2.1.1 (mtC 4).2.2.1.2.1 (mtC 4).2.2.1.2.2.1 (az_hc (mtC 4) mmQ (67, (mtC 4).2.2.1, (0, []), (0, 0))) = true := by decide +kernel
theorem mtR_5 : az_ex szP az_inl (mtC 5).2.1 [chgB] (mtC 5).2.2.2.2.1 (fun _ => az_pre 99 []) (az_hint [chgB]) (az_sleaf szP az_inl [chgB] (fun _ => az_pre 99 []) (az_hint [chgB]) (mtC 5) [] (az_hb 1) (az_rb 1) none 0) 4000 (mtC 5).2.2.1.1 (mtC 5).2.2.1.2.1 (mtC 5).2.2.1.2.2.1 (az_hc (mtC 5) mmQ (67, (mtC 5).2.2.1, (0, []), (0, 0))) = true := by decide +kernel
theorem mtR_6 : az_ex szP az_inl (mtC 6).2.1 [chgB] (mtC 6).2.2.2.2.1 (fun _ => az_pre 99 []) (az_hint [chgB]) (az_sleaf szP az_inl [chgB] (fun _ => az_pre 99 []) (az_hint [chgB]) (mtC 6) [] (az_hb 1) (az_rb 1) none 0) 4000 (mtC 6).2.2.1.1 (mtC 6).2.2.1.2.1 (mtC 6).2.2.1.2.2.1 (az_hc (mtC 6) mmQ (67, (mtC 6).2.2.1, (0, []), (0, 0))) = true := by decide +kernel
theorem mtR_7 : az_ex szP az_inl (mtC 7).2.1 [chgB] (mtC 7).2.2.2.2.1 (fun _ => az_pre 99 []) (az_hint [chgB]) (az_sleaf szP az_inl [chgB] (fun _ => az_pre 99 []) (az_hint [chgB]) (mtC 7) [] (az_hb 1) (az_rb 1) none 0) 4000 (mtC 7).2.2.1.1 (mtC 7).2.2.1.2.1 (mtC 7).2.2.1.2.2.1 (az_hc (mtC 7) mmQ (67, (mtC 7).2.2.1, (0, []), (0, 0))) = true := by decide +kernel
theorem mtR_8 : az_ex szP az_inl (mtC 8).2.1 [chgB] (mtC 8).2.2.2.2.1 (fun _ => az_pre 99 []) (az_hint [chgB]) (az_sleaf szP az_inl [chgB] (fun _ => az_pre 99 []) (az_hint [chgB]) (mtC 8) [] (az_hb 1) (az_rb 1) none 0) 4000 (mtC 8).2.2.1.1 (mtC 8).2.2.1.2.1 (mtC 8).2.2.1.2.2.1 (az_hc (mtC 8) mmQ (67, (mtC 8).2.2.1, (0, []), (0, 0))) = true := by decide +kernel
theorem mtR_9 : az_ex szP az_inl (mtC 9).2.1 [chgB] (mtC 9).2.2.2.2.1 (fun _ => az_pre 99 []) (az_hint [chgB]) (az_sleaf szP az_inl [chgB] (fun _ => az_pre 99 []) (az_hint [chgB]) (mtC 9) [] (az_hb 1) (az_rb 1) none 0) 4000 (mtC 9).2.2.1.1 (mtC 9).2.2.1.2.1 (mtC 9).2.2.1.2.2.1 (az_hc (mtC 9) mmQ (67, (mtC 9).2.2.1, (0, []), (0, 0))) = true := by decide +kernel
theorem mtR_10 : az_ex szP az_inl (mtC 10).2.1 [chgB] (mtC 10).2.2.2.2.1 (fun _ => az_pre 99 []) (az_hint [chgB]) (az_sleaf szP az_inl [chgB] (fun _ => az_pre 99 []) (az_hint [chgB]) (mtC 10) [] (az_hb 1) (az_rb 1) none 0) 4000 (mtC 10).2.2.1.1 (mtC 10).2.2.1.2.1 (mtC 10).2.2.1.2.2.1 (az_hc (mtC 10) mmQ (67, (mtC 10).2.2.1, (0, []), (0, 0))) = true := by decide +kernel
theorem mtR_11 : az_ex szP az_inl (mtC 11).2.1 [chgB] (mtC 11).2.2.2.2.1 (fun _ => az_pre 99 []) (az_hint [chgB]) (az_sleaf szP az_inl [chgB] (fun _ => az_pre 99 []) (az_hint [chgB]) (mtC 11) [] (az_hb 1) (az_rb 1) none 0) 4000 (mtC 11).2.2.1.1 (mtC 11).2.2.1.2.1 (mtC 11).2.2.1.2.2.1 (az_hc (mtC 11) mmQ (67, (mtC 11).2.2.1, (0, []), (0, 0))) = true := by decide +kernel
theorem mtR_12 : az_ex szP az_inl (mtC 12).2.1 [chgB] (mtC 12).2.2.2.2.1 (fun _ => az_pre 99 []) (az_hint [chgB]) (az_sleaf szP az_inl [chgB] (fun _ => az_pre 99 []) (az_hint [chgB]) (mtC 12) [] (az_hb 1) (az_rb 1) none 0) 4000 (mtC 12).2.2.1.1 (mtC 12).2.2.1.2.1 (mtC 12).2.2.1.2.2.1 (az_hc (mtC 12) mmQ (67, (mtC 12).2.2.1, (0, []), (0, 0))) = true := by decide +kernel
theorem mtR_13 : az_ex szP az_inl (mtC 13).2.1 [chgB] (mtC 13).2.2.2.2.1 (fun _ => az_pre 99 []) (az_hint [chgB]) (az_sleaf szP az_inl [chgB] (fun _ => az_pre 99 []) (az_hint [chgB]) (mtC 13) [] (az_hb 1) (az_rb 1) none 0) 4000 (mtC 13).2.2.1.1 (mtC 13).2.2.1.2.1 (mtC 13).2.2.1.2.2.1 (az_hc (mtC 13) mmQ (67, (mtC 13).2.2.1, (0, []), (0, 0))) = true := by decide +kernel
theorem mtR_14 : az_ex szP az_inl (mtC 14).2.1 [chgB] (mtC 14).2.2.2.2.1 (fun _ => az_pre 99 []) (az_hint [chgB]) (az_sleaf szP az_inl [chgB] (fun _ => az_pre 99 []) (az_hint [chgB]) (mtC 14) [] (az_hb 1) (az_rb 1) none 0) 4000 (mtC 14).2.2.1.1 (mtC 14).2.2.1.2.1 (mtC 14).2.2.1.2.2.1 (az_hc (mtC 14) mmQ (67, (mtC 14).2.2.1, (0, []), (0, 0))) = true := by decide +kernel
theorem mtR_15 : az_ex szP az_inl (mtC 15).2.1 [chgB] (mtC 15).2.2.2.2.1 (fun _ => az_pre 99 []) (az_hint [chgB]) (az_sleaf szP az_inl [chgB] (fun _ => az_pre 99 []) (az_hint [chgB]) (mtC 15) [] (az_hb 1) (az_rb 1) none 0) 4000 (mtC 15).2.2.1.1 (mtC 15).2.2.1.2.1 (mtC 15).2.2.1.2.2.1 (az_hc (mtC 15) mmQ (67, (mtC 15).2.2.1, (0, []), (0, 0))) = true := by decide +kernel
theorem mtR_16 : az_ex szP az_inl (mtC 16).2.1 [chgB] (mtC 16).2.2.2.2.1 (fun _ => az_pre 99 []) (az_hint [chgB]) (az_sleaf szP az_inl [chgB] (fun _ => az_pre 99 []) (az_hint [chgB]) (mtC 16) [] (az_hb 1) (az_rb 1) none 0) 4000 (mtC 16).2.2.1.1 (mtC 16).2.2.1.2.1 (mtC 16).2.2.1.2.2.1 (az_hc (mtC 16) mmQ (67, (mtC 16).2.2.1, (0, []), (0, 0))) = true := by decide +kernel
theorem mtR (n : Nat) (hn : n ≤ 16) : az_ex szP az_inl (mtC n).2.1 [chgB] (mtC n).2.2.2.2.1 (fun _ => az_pre 99 []) (az_hint [chgB]) (az_sleaf szP az_inl [chgB] (fun _ => az_pre 99 []) (az_hint [chgB]) (mtC n) [] (az_hb 1) (az_rb 1) none 0) 4000 (mtC n).2.2.1.1 (mtC n).2.2.1.2.1 (mtC n).2.2.1.2.2.1 (az_hc (mtC n) mmQ (67, (mtC n).2.2.1, (0, []), (0, 0))) = true := by
  match n, hn with
  | 0, _ => exact mtR_0
  | 1, _ => exact mtR_1
  | 2, _ => exact mtR_2
  | 3, _ => exact mtR_3
  | 4, _ => exact mtR_4
  | 5, _ => exact mtR_5
  | 6, _ => exact mtR_6
  | 7, _ => exact mtR_7
  | 8, _ => exact mtR_8
  | 9, _ => exact mtR_9
  | 10, _ => exact mtR_10
  | 11, _ => exact mtR_11
  | 12, _ => exact mtR_12
  | 13, _ => exact mtR_13
  | 14, _ => exact mtR_14
  | 15, _ => exact mtR_15
  | 16, _ => exact mtR_16
  | n + 17, h => omega
set_option maxRecDepth 20000 in
theorem mt_all {X : List (List Value)} (hX : az_X X) (hC : az_Valid X chgB) {h0 : List mzC} {s0 : Nat × Nat} {h : List mzC} {s2 : Nat × Nat} (hlen : h.length + 8000 < 2147483648) {d : Nat} (hd : 6 ≤ d) (hT : az_Tp h) (hM0 : az_HM mmMd h0 h) (hl : h.length = h0.length) (b1 : s2.1 ≤ s0.1) (b2 : s2.2 ≤ s0.2) (h2 : az_slot h 141 2 = some (iv 0)) {m : Int} (hm : 0 ≤ m ∧ m ≤ 1) {n : Nat} (hn : n ≤ 16) {lo : mzL} (hlo : az_ml lo [.ref 145, iv m, iv n]) : mz_gg X (mmK h0 s0 (n : Int)) d 99 67 lo [] (h, s2) := by
  refine az_go (c := mtC n) (ends := []) (i0 := 67) (ρ := rho [m] ((h.length : Int) + 4)) sz_pkall_szP hX (tb := [chgB]) (List.forall_mem_cons.mpr ⟨hC, fun _ hc => by cases hc⟩) (q := mmQ) rfl (az_wfb_ok rfl) (mtR n hn) rfl rfl rfl (by show h.length + 1000 * (6 + 2) < 2147483648; omega) (rho_z _ _) hd ?_ hT ?_ ?_ (fun k hk => by cases hk) ?_ (fun E hE => by cases hE)
  · exact rho_V (rho_free rfl _) (show rin [(0, 1)] [m] from ⟨hm, trivial⟩) rfl (by omega) (by show 1 ≤ 1000000; decide) trivial
  · exact HF_cons 2 0 (by decide) (show (2 : Int) + 0 = ((2 : Nat) : Int) by omega) (by decide) (y_c0 _ _) h2 (HF_nil _ _)
  · show az_ml lo (([(1, 145, []), (0, 0, [(0, 1)]), (0, (n : Int), [])] : szLo).map (sz_v _))
    rw [List.map_cons, List.map_cons, List.map_cons, List.map_nil, sz_v_ref _ (show (145 : Int) < 1000000 by decide), lw_sv (rho_0 _ _ _), y_c0]
    exact hlo
  · intro p hp ρ' h' s3 w1 ag hT' hM' hF' hl' c1 c2
    have hp := List.mem_singleton.mp hp
    subst hp
    have e2 := HF_get hF' (c := 141) (k := 2) (v := (0, 0, [])) (by decide) (by decide) (List.Mem.head _)
    refine ⟨?_, hT', HM_trans hM0 hM' (md_all2 rfl), e2.trans (congrArg some (y_c0 _ _)), by show h'.length = _; omega, by show s3.1 ≤ _; omega, by show s3.2 ≤ _; omega⟩
    show some (some (sz_v ρ' (0, (n : Int), []))) = _
    rw [y_c0]
/-- a number of the text: atoms 0 how many signs, 1 where it stands, 2 how many ahead of it, 3 which MEMORY -/
def mnMd : List (Nat × Nat) := [(141, 8), (141, 9), (146, 0)]
def mnR (b : Bool) : szR := [(0, 80), (0, 90), bif b then (15, 15) else (0, 14), ((-2147483648), 2147483647)]
def mnC (b : Bool) : azCon := (99, 6, ([azf, azf, azf, azf], mnR b, [], [(1, 145, []), (0, 0, [(3, 1)]), (0, 0, [(2, 1)]), (0, 1, [])], [(141, (6, []), (0, 0, [(0, 1)])), (141, (7, []), (0, 0, [(1, 1)])), (141, (8, []), (0, (-1), []))], [], false), [], mnMd, (0, 0))
noncomputable def mnF (R : szR) (Cs : azS) (lo : szLo) (a : Int × szT) : Bool := match sz_nth lo 2 with
  | some w => (Nat.beq w.1 0 && y_eq R Cs w.2 a) && (y_le R Cs (0, []) a && (y_le R Cs (0, []) (0, [(3, 1)]) && y_le R Cs (0, [(3, 1)]) (1, [])))
  | none => false
noncomputable def mnH (b : Bool) (_ : szD) (R : szR) (Cs : azS) (F : azF) (i : Nat) (lo : szLo) : Bool :=
  ((Nat.beq i 19 && !b) && ((y_lo R Cs [(1, 145, []), (0, 0, [(3, 1)]), (0, 1, [(2, 1)]), (0, 1, [])] lo && y_fs R Cs F [(141, 8, (0, (-1), []))]) && (match az_fget 141 (((7 : Nat) : Int), []) F with
    | some u => (Nat.beq u.1 0 && az_nw R Cs u) && yMe R Cs F 143 b (1, [(2, 1)]) (0, [(1, 1)]) (fun _ => false) (fun q => y_eq R Cs u.2 q)
    | none => false)))
  || (Nat.beq i 67 && (y_lo R Cs [(1, 145, []), (0, 0, [(3, 1)])] lo && yMe R Cs F 143 b (1, [(2, 1)]) (0, [(1, 1)]) (mnF R Cs lo) (fun _ => false)))
noncomputable def mnE (b : Bool) (_ : szD) (R : szR) (Cs : azS) (F : azF) (o : Option szV) : Bool := match o with
  | some v => Nat.beq v.1 0 && yMe R Cs F 143 b (1, [(2, 1)]) (0, [(1, 1)]) (fun a => yFin R Cs a (0, [(3, 1)]) (fun z => y_eq R Cs v.2 z)) (fun _ => false)
  | none => false
theorem mnR0 : yRun yInl (mnC false) [chgB] mmQ 19 6000 0 (az_yl 99 6 (mnH false) (mnE false)) yNo = true := by decide +kernel
theorem mnR1 : yRun yInl (mnC true) [chgB] mmQ 19 6000 0 (az_yl 99 6 (mnH true) (mnE true)) yNo = true := by decide +kernel
theorem ml_4 {lo : mzL} {r : Int} {x y z : Int} (hr : 0 ≤ r ∧ r < 1000000) {ρ : Nat → Int} {c1 c2 c3 : Int} {t1 t2 t3 : szT} (e1 : c1 + sz_sum ρ t1 = x) (e2 : c2 + sz_sum ρ t2 = y) (e3 : c3 + sz_sum ρ t3 = z) : az_ml lo (([(1, r, []), (0, c1, t1), (0, c2, t2), (0, c3, t3)] : szLo).map (sz_v ρ)) ↔ az_ml lo [.ref r.toNat, iv x, iv y, iv z] := by
  rw [List.map_cons, List.map_cons, List.map_cons, List.map_cons, List.map_nil, sz_v_ref ρ hr.2, sz_v_iv, sz_v_iv, sz_v_iv, e1, e2, e3]
theorem ml_pre {lo : mzL} {l1 l2 : List Value} (h : az_ml lo (l1 ++ l2)) : az_ml lo l1 := fun k v hk => h k v (by rw [List.getElem?_append_left ((List.getElem?_eq_some_iff.mp hk).1)]; exact hk)
theorem mnF_ok {D : szD} {R : szR} {Cs : azS} {ρ : Nat → Int} (hV : az_V D R Cs ρ) {lo : szLo} {a : Int × szT} (h : mnF R Cs lo a = true) : (∃ w, lo[2]? = some w ∧ w.1 < 9 ∧ sz_v ρ w = iv (y_n ρ a)) ∧ 0 ≤ y_n ρ a ∧ 0 ≤ ρ 3 ∧ ρ 3 ≤ 1 := by
  unfold mnF at h
  split at h
  · rename_i w hw
    rw [sz_nth_eq] at hw
    simp only [Bool.and_eq_true] at h
    obtain ⟨⟨h1, h2⟩, h3, h4, h5⟩ := h
    have h1 := Nat.eq_of_beq_eq_true h1
    have h2 := y_eq_ok hV h2
    have h3 := y_le_ok hV h3
    have h4 := y_le_ok hV h4
    have h5 := y_le_ok hV h5
    have n0 : ∀ z : Int, y_n ρ (z, []) = z := fun z => Int.add_zero z
    have n3 : y_n ρ ((0 : Int), [(3, 1)]) = ρ 3 := by
      show (0 : Int) + (1 * ρ 3 + 0) = _
      omega
    rw [n0] at h3
    rw [n0, n3] at h4
    rw [n0, n3] at h5
    exact ⟨⟨w, hw, by omega, by rw [y_iv h1, h2]⟩, h3, h4, h5⟩
  · cases h
set_option maxRecDepth 20000 in
theorem mn_step {X : List (List Value)} (hX : az_X X) (hC : az_Valid X chgB) {h0 : List mzC} {s0 : Nat × Nat} (hlen : h0.length + 8000 < 2147483648) {L m : Int} (hL : 0 ≤ L ∧ L ≤ 80) (hm : -2147483648 ≤ m ∧ m ≤ 2147483647) {d : Nat} (hd : 6 ≤ d) {n : Nat} {p x : Int} {h : List mzC} {s2 : Nat × Nat} {lo : mzL} (hn : n ≤ 15) (hx : x = 15 - (n : Int)) (hT : az_Tp h) (hM : az_HM mmMd h0 h) (hl : h.length = h0.length) (b1 : s2.1 ≤ s0.1) (b2 : s2.2 ≤ s0.2) (eL : hv h 141 6 = L) (ep : hv h 141 7 = p) (ew : az_slot h 141 8 = some (iv (-1))) (e20 : az_slot h 141 2 = some (iv 0)) (hlo : az_ml lo [.ref 145, iv m, iv x, iv 1]) (hrun : yRun yInl (mnC (Nat.beq n 0)) [chgB] mmQ 19 6000 0 (az_yl 99 6 (mnH (Nat.beq n 0)) (mnE (Nat.beq n 0))) yNo = true)
    (ih : Nat.beq n 0 = false → ∀ (p' : Int) (h' : List mzC) (s3 : Nat × Nat) (lo' : mzL), az_Tp h' → az_HM mmMd h0 h' → h'.length = h0.length → s3.1 ≤ s0.1 → s3.2 ≤ s0.2 → hv h' 141 6 = L → hv h' 141 7 = p' → az_slot h' 141 8 = some (iv (-1)) → az_slot h' 141 2 = some (iv 0) → az_ml lo' [.ref 145, iv m, iv (x + 1), iv 1] → mz_gg X (mmK h0 s0 (y_fin (y_f (y_t h0 143) L n p') m)) d 99 19 lo' [] (h', s3)) : mz_gg X (mmK h0 s0 (y_fin (y_f (y_t h0 143) L (n + 1) p) m)) d 99 19 lo [] (h, s2) := by
  obtain ⟨_, t1, t2⟩ := mm_typ hT
  rw [eL] at t1
  rw [ep] at t2
  have ht : y_t h 143 = y_t h0 143 := y_t_eq hM (by decide) (by decide)
  have hxr : (bif Nat.beq n 0 then ((15, 15) : Int × Int) else (0, 14)).1 ≤ x ∧ x ≤ (bif Nat.beq n 0 then ((15, 15) : Int × Int) else (0, 14)).2 := by
    cases hz : Nat.beq n 0 with
    | true =>
      have := Nat.eq_of_beq_eq_true hz
      rw [cond_true]
      dsimp only
      omega
    | false =>
      have : n ≠ 0 := fun e => by rw [e] at hz; cases hz
      rw [cond_false]
      dsimp only
      omega
  refine az_goX (c := mnC (Nat.beq n 0)) (i0 := 19) (ρ := rho [L, p, x, m] ((h.length : Int) + 4)) sz_pkall_szP hX (tb := [chgB]) (List.forall_mem_cons.mpr ⟨hC, fun _ hc => by cases hc⟩) (q := mmQ) rfl (az_wfb_ok (by cases Nat.beq n 0 <;> decide +kernel)) hrun rfl (by show h.length + 1000 * (6 + 2) < 2147483648; omega) (rho_z _ _) hd ?_ hT ?_ ?_ (fun D R Cs C ρ1 f hr => by cases hr) ?_
  · exact rho_V (rho_free rfl _) (show rin [(0, 80), (0, 90), bif Nat.beq n 0 then (15, 15) else (0, 14), ((-2147483648), 2147483647)] [L, p, x, m] from ⟨hL, t2.2, hxr, hm, trivial⟩) (by cases Nat.beq n 0 <;> rfl) (by omega) (by show 4 ≤ 1000000; decide) trivial
  · exact HF_cons 6 L (by decide) (show (6 : Int) + 0 = ((6 : Nat) : Int) by omega) (by decide) (lw_sv (rho_0 _ _ _)) t1.1 (HF_cons 7 p (by decide) (show (7 : Int) + 0 = ((7 : Nat) : Int) by omega) (by decide) (lw_sv (rho_1 _ _ _ _)) t2.1 (HF_cons 8 (-1) (by decide) (show (8 : Int) + 0 = ((8 : Nat) : Int) by omega) (by decide) (y_c0 _ _) ew (HF_nil _ _)))
  · refine (ml_4 (r := 145) (by decide) ?_ ?_ ?_).mpr hlo
    · show (0 : Int) + (1 * rho [L, p, x, m] _ 3 + 0) = m
      rw [rho_3]
      omega
    · show (0 : Int) + (1 * rho [L, p, x, m] _ 2 + 0) = x
      rw [rho_2]
      omega
    · exact Int.add_zero 1
  · intro D R Cs C ρ2 hl2 hV2 hW2 hag hn2
    have a0 : ρ2 0 = L := (hag.1 0 (by show 0 < 4; decide)).trans (rho_0 _ _ _)
    have a1 : ρ2 1 = p := (hag.1 1 (by show 1 < 4; decide)).trans (rho_1 _ _ _ _)
    have a2 : ρ2 2 = x := (hag.1 2 (by show 2 < 4; decide)).trans (rho_2 _ _ _ _ _)
    have a3 : ρ2 3 = m := (hag.1 3 (by show 3 < 4; decide)).trans (rho_3 _ _ _ _ _ _)
    have x1 : y_n ρ2 ((1 : Int), [(2, 1)]) = 16 - (n : Int) := by
      show (1 : Int) + (1 * ρ2 2 + 0) = _
      rw [a2, hx]
      omega
    have xp : y_n ρ2 ((0 : Int), [(1, 1)]) = p := by
      show (0 : Int) + (1 * ρ2 1 + 0) = _
      rw [a1]
      omega
    have xm : y_n ρ2 ((0 : Int), [(3, 1)]) = m := by
      show (0 : Int) + (1 * ρ2 3 + 0) = _
      rw [a3]
      omega
    have hdd : (6 : Nat) + (d - 6) = d := by omega
    have hsb : ∀ c k, az_md mmMd c k = false → az_md mnMd c k = false := md_all2 rfl
    refine az_yl_ok hV2 hl2 ?_ ?_
    · intro F i lo' mm h' s3 hk hLR hT' hM' hF' hl' c1 c2
      have hM2 := HM_trans hM hM' hsb
      have e2' : az_slot h' 141 2 = some (iv 0) := (hM' 141 2 (by rw [azL_len]; decide) rfl).trans e20
      unfold mnH at hk
      rw [Bool.or_eq_true] at hk
      rcases hk with hk | hk
      · rw [Bool.and_eq_true, Bool.and_eq_true, Bool.and_eq_true, Bool.and_eq_true] at hk
        obtain ⟨⟨hi, hb⟩, ⟨hlo2, hw2⟩, hk⟩ := hk
        have hb : Nat.beq n 0 = false := by simpa using hb
        have hi := Nat.eq_of_beq_eq_true hi
        subst hi
        have ew' := (y_fs_ok hV2 hF' hw2 _ (List.Mem.head _)).trans (congrArg some (y_c0 _ _))
        split at hk
        · rename_i u hg
          simp only [Bool.and_eq_true] at hk
          obtain ⟨⟨u0, un⟩, hk⟩ := hk
          have u0 := Nat.eq_of_beq_eq_true u0
          have eu := y_hv hV2 hF' (c := 141) (k := 7) (by decide) (by decide) hg u0 un
          rcases yMe_ok hV2 hF' (by decide) (n := n) x1 hk with ⟨a, g1, _⟩ | ⟨q, g1, g2⟩
          · cases g1
          · have g1 := y_eq_ok hV2 g1
            rw [xp, a0, y_t_eq hM' (by decide) rfl, ht] at g2
            rw [g2, ← g1, ← eu]
            have G := ih hb (hv h' 141 7) h' s3 mm hT' hM2 (by omega) (by omega) (by omega) (by rw [HM_hv hM' (by decide) rfl, eL]) rfl ew' e2' ((ml_4 (r := 145) (by decide) (show (0 : Int) + (1 * ρ2 3 + 0) = m by rw [a3]; omega) (show (1 : Int) + (1 * ρ2 2 + 0) = x + 1 by rw [a2]; omega) (Int.add_zero 1)).mp (y_lo_ok hV2 hlo2 hLR))
            show mz_gg X _ (6 + (d - 6)) 99 19 mm [] (h', s3)
            rw [hdd]
            exact G
        · cases hk
      · rw [Bool.and_eq_true, Bool.and_eq_true] at hk
        obtain ⟨hi, hlo2, hk⟩ := hk
        have hi := Nat.eq_of_beq_eq_true hi
        subst hi
        rcases yMe_ok hV2 hF' (by decide) (n := n) x1 hk with ⟨a, g1, g2⟩ | ⟨q, g1, _⟩
        · obtain ⟨⟨w, w1, w2, w3⟩, g3, g4, g5⟩ := mnF_ok hV2 g1
          rw [a3] at g4 g5
          rw [xp, a0, y_t_eq hM' (by decide) rfl, ht] at g2
          rw [g2] at w3 g3
          have hbd : y_f (y_t h0 143) L (n + 1) p ≤ 16 := by
            rcases Int.lt_or_le L p with hpl | hpl
            rotate_left
            · exact (y_f_bd hL.2 (n + 1) p (by omega) t2.2.1 hpl).2
            · exfalso
              have hq : y_q (y_t h0 143) L p = p := by
                unfold y_q
                cases e : y_tb (y_t h0 143) L p 45 45 with
                | true => have := y_tb_lt e; omega
                | false => rfl
              have ho : y_ok (y_t h0 143) L p = false := by
                cases e : y_ok (y_t h0 143) L p with
                | true => have := y_tb_lt e; omega
                | false => rfl
              rw [y_f_succ, hq, ho, cond_false] at g3
              have := t2.2.1
              omega
          have efin : y_fin (y_f (y_t h0 143) L (n + 1) p) m = ((y_f (y_t h0 143) L (n + 1) p).toNat : Int) := by
            unfold y_fin
            rw [if_neg (by omega), if_pos ⟨g4, g5⟩]
            omega
          rw [efin]
          have G := mt_all hX hC (h0 := h0) (s0 := s0) (h := h') (s2 := s3) (by omega) hd hT' hM2 (by omega) (by omega) (by omega) e2' ⟨g4, g5⟩ (n := (y_f (y_t h0 143) L (n + 1) p).toNat) (by omega) (lo := mm) (by
            have q1 := ml_one' (r := 145) (by decide) (y_lo_ok hV2 hlo2 hLR) (show (0 : Int) + (1 * ρ2 3 + 0) = m by rw [a3]; omega)
            intro k v hk2
            match k, hk2 with
            | 0, hk2 => exact q1 0 v hk2
            | 1, hk2 => exact q1 1 v hk2
            | 2, hk2 =>
              have hk2 : some (iv ((y_f (y_t h0 143) L (n + 1) p).toNat : Int)) = some v := hk2
              have q2 := hLR 2 w w1 w2
              rw [q2, w3, ← hk2, show ((y_f (y_t h0 143) L (n + 1) p).toNat : Int) = y_f (y_t h0 143) L (n + 1) p by omega]
            | k + 3, hk2 => simp at hk2)
          show mz_gg X _ (6 + (d - 6)) 99 67 mm [] (h', s3)
          rw [hdd]
          exact G
        · cases g1
    · intro F o h' s3 hk hT' hM' hF' hl' c1 c2
      have hM2 := HM_trans hM hM' hsb
      have e2' : az_slot h' 141 2 = some (iv 0) := (hM' 141 2 (by rw [azL_len]; decide) rfl).trans e20
      unfold mnE at hk
      split at hk
      · rename_i v
        rw [Bool.and_eq_true] at hk
        have v0 := Nat.eq_of_beq_eq_true hk.1
        rcases yMe_ok hV2 hF' (by decide) (n := n) x1 hk.2 with ⟨a, g1, g2⟩ | ⟨q, g1, _⟩
        · obtain ⟨z, k1, k2⟩ := yFin_ok hV2 g1
          have k1 := y_eq_ok hV2 k1
          refine ⟨?_, hT', hM2, e2', by show h'.length = _; omega, by show s3.1 ≤ _; omega, by show s3.2 ≤ _; omega⟩
          show some (some (sz_v ρ2 v)) = _
          rw [y_iv v0, k1, k2, g2, xp, xm, a0, y_t_eq hM' (by decide) rfl, ht]
        · cases g1
      · cases hk
theorem mn_loop {X : List (List Value)} (hX : az_X X) (hC : az_Valid X chgB) {h0 : List mzC} {s0 : Nat × Nat} (hlen : h0.length + 8000 < 2147483648) {L m : Int} (hL : 0 ≤ L ∧ L ≤ 80) (hm : -2147483648 ≤ m ∧ m ≤ 2147483647) {d : Nat} (hd : 6 ≤ d) : ∀ (n : Nat) (p x : Int) (h : List mzC) (s2 : Nat × Nat) (lo : mzL), n ≤ 15 → x = 15 - (n : Int) → az_Tp h → az_HM mmMd h0 h → h.length = h0.length → s2.1 ≤ s0.1 → s2.2 ≤ s0.2 → hv h 141 6 = L → hv h 141 7 = p → az_slot h 141 8 = some (iv (-1)) → az_slot h 141 2 = some (iv 0) → az_ml lo [.ref 145, iv m, iv x, iv 1] → mz_gg X (mmK h0 s0 (y_fin (y_f (y_t h0 143) L (n + 1) p) m)) d 99 19 lo [] (h, s2)
  | 0, p, x, h, s2, lo, hn, hx, hT, hM, hl, b1, b2, eL, ep, ew, e20, hlo => mn_step hX hC hlen hL hm hd hn hx hT hM hl b1 b2 eL ep ew e20 hlo mnR1 (fun e => by cases e)
  | n + 1, p, x, h, s2, lo, hn, hx, hT, hM, hl, b1, b2, eL, ep, ew, e20, hlo => mn_step hX hC hlen hL hm hd hn hx hT hM hl b1 b2 eL ep ew e20 hlo mnR0 (fun _ p' h' s3 lo' q1 q2 q3 q4 q5 q6 q7 q8 q9 q10 => mn_loop hX hC hlen hL hm hd n p' (x + 1) h' s3 lo' (by omega) (by omega) q1 q2 q3 q4 q5 q6 q7 q8 q9 q10)
/-- its begin: atoms 0 how many signs, 1 which MEMORY -/
def msMd : List (Nat × Nat) := [(141, 3), (141, 6), (141, 7), (141, 8), (141, 9)]
def msC : azCon := (99, 6, ([azf, azf], [(0, 80), ((-2147483648), 2147483647)], [], [(1, 145, []), (0, 0, [(1, 1)])], [(141, (2, []), (0, 0, [(0, 1)]))], [], false), [], msMd, (0, 0))
noncomputable def msH (_ : szD) (R : szR) (Cs : azS) (F : azF) (i : Nat) (lo : szLo) : Bool :=
  (Nat.beq i 19 && (y_lo R Cs [(1, 145, []), (0, 0, [(1, 1)]), (0, 0, []), (0, 1, [])] lo && (y_fs R Cs F [(141, 6, (0, 0, [(0, 1)])), (141, 7, (0, 0, [])), (141, 8, (0, (-1), [])), (141, 2, (0, 0, []))] && y_le R Cs (1, []) y_L)))
  || (Nat.beq i 67 && (y_lo R Cs [(1, 145, []), (0, 0, [(1, 1)]), (0, 0, [])] lo && (y_fs R Cs F [(141, 2, (0, 0, []))] && (y_le R Cs y_L (0, []) && (y_le R Cs (0, []) (0, [(1, 1)]) && y_le R Cs (0, [(1, 1)]) (1, []))))))
noncomputable def msE (_ : szD) (R : szR) (Cs : azS) (F : azF) (o : Option szV) : Bool := match o with
  | some v => Nat.beq v.1 0 && (y_fs R Cs F [(141, 2, (0, 0, []))] && (y_le R Cs y_L (0, []) && yFin R Cs (0, []) (0, [(1, 1)]) (fun z => y_eq R Cs v.2 z)))
  | none => false
theorem msR : yRun yInl msC [chgB] mmQ 0 3000 0 (az_yl 99 6 msH msE) yNo = true := by decide +kernel
set_option maxRecDepth 20000 in
theorem ms_all {X : List (List Value)} (hX : az_X X) (hC : az_Valid X chgB) {h : List mzC} {s2 : Nat × Nat} (hlen : h.length + 8000 < 2147483648) {d : Nat} (hd : 6 ≤ d) (hT : az_Tp h) {m : Int} (hm : -2147483648 ≤ m ∧ m ≤ 2147483647) {lo : mzL} (hlo : az_ml lo [.ref 145, iv m]) : mz_gg X (mmK h s2 (y_fin (y_rd (y_t h 143) (hv h 141 2)) m)) d 99 0 lo [] (h, s2) := by
  obtain ⟨t1, _⟩ := mm_typ hT
  refine az_goX (c := msC) (i0 := 0) (ρ := rho [hv h 141 2, m] ((h.length : Int) + 4)) sz_pkall_szP hX (tb := [chgB]) (List.forall_mem_cons.mpr ⟨hC, fun _ hc => by cases hc⟩) (q := mmQ) rfl (az_wfb_ok (by decide +kernel)) msR rfl (by show h.length + 1000 * (6 + 2) < 2147483648; omega) (rho_z _ _) hd ?_ hT ?_ ?_ (fun D R Cs C ρ1 f hr => by cases hr) ?_
  · exact rho_V (rho_free rfl _) (show rin [(0, 80), ((-2147483648), 2147483647)] [hv h 141 2, m] from ⟨t1.2, hm, trivial⟩) rfl (by omega) (by decide) trivial
  · exact HF_cons 2 (hv h 141 2) (by decide) (show (2 : Int) + 0 = ((2 : Nat) : Int) by omega) (by decide) (lw_sv (rho_0 _ _ _)) t1.1 (HF_nil _ _)
  · exact ml_one (r := 145) (by decide) hlo (show (0 : Int) + (1 * rho [hv h 141 2, m] _ 1 + 0) = m by rw [rho_1]; omega)
  · intro D R Cs C ρ2 hl2 hV2 hW2 hag hn2
    have a0 : ρ2 0 = hv h 141 2 := (hag.1 0 (by show 0 < 2; decide)).trans (rho_0 _ _ _)
    have a1 : ρ2 1 = m := (hag.1 1 (by show 1 < 2; decide)).trans (rho_1 _ _ _ _)
    have n0 : ∀ z : Int, y_n ρ2 (z, []) = z := fun z => Int.add_zero z
    have xm : y_n ρ2 ((0 : Int), [(1, 1)]) = m := by
      show (0 : Int) + (1 * ρ2 1 + 0) = _
      rw [a1]
      omega
    have hdd : (6 : Nat) + (d - 6) = d := by omega
    have hsb : ∀ c k, az_md mmMd c k = false → az_md msMd c k = false := md_all2 rfl
    have hsb2 : ∀ {h' : List mzC}, az_HM msMd h h' → az_HM mmMd h h' := fun hM' c k hc hm => hM' c k hc (hsb c k hm)
    refine az_yl_ok hV2 hl2 ?_ ?_
    · intro F i lo' mm h' s3 hk hLR hT' hM' hF' hl' c1 c2
      unfold msH at hk
      rw [Bool.or_eq_true] at hk
      rcases hk with hk | hk
      · rw [Bool.and_eq_true, Bool.and_eq_true, Bool.and_eq_true] at hk
        obtain ⟨hi, hlo2, hk, hL1⟩ := hk
        have hi := Nat.eq_of_beq_eq_true hi
        subst hi
        have hL1 := y_le_ok hV2 hL1
        rw [n0, y_L_n, a0] at hL1
        have f6 := y_fs_ok hV2 hF' hk _ (List.Mem.head _)
        have f7 := y_fs_ok hV2 hF' hk _ (List.Mem.tail _ (List.Mem.head _))
        have f8 := y_fs_ok hV2 hF' hk _ (List.Mem.tail _ (List.Mem.tail _ (List.Mem.head _)))
        have f2 := y_fs_ok hV2 hF' hk _ (List.Mem.tail _ (List.Mem.tail _ (List.Mem.tail _ (List.Mem.head _))))
        have f6 : az_slot h' 141 6 = some (iv (hv h 141 2)) := (show az_slot h' 141 6 = some (sz_v ρ2 (0, 0, [(0, 1)])) from f6).trans (congrArg some (lw_sv a0))
        have f7 : az_slot h' 141 7 = some (iv 0) := (show az_slot h' 141 7 = some (sz_v ρ2 (0, 0, [])) from f7).trans (congrArg some (y_c0 _ _))
        have f8 : az_slot h' 141 8 = some (iv (-1)) := (show az_slot h' 141 8 = some (sz_v ρ2 (0, (-1), [])) from f8).trans (congrArg some (y_c0 _ _))
        have f2 : az_slot h' 141 2 = some (iv 0) := (show az_slot h' 141 2 = some (sz_v ρ2 (0, 0, [])) from f2).trans (congrArg some (y_c0 _ _))
        have G := mn_loop hX hC (h0 := h) (s0 := s2) hlen t1.2 hm hd 15 0 0 h' s3 mm (by decide) (by decide) hT' (hsb2 hM') hl' c1 c2 (hv_val f6 (by omega) (by omega)) (hv_val f7 (by decide) (by decide)) f8 f2 ((ml_4 (r := 145) (by decide) (show (0 : Int) + (1 * ρ2 1 + 0) = m by rw [a1]; omega) (Int.add_zero 0) (Int.add_zero 1)).mp (y_lo_ok hV2 hlo2 hLR))
        have e : y_rd (y_t h 143) (hv h 141 2) = y_f (y_t h 143) (hv h 141 2) (15 + 1) 0 := by
          unfold y_rd
          rw [if_neg (by omega)]
        rw [e]
        show mz_gg X _ (6 + (d - 6)) 99 19 mm [] (h', s3)
        rw [hdd]
        exact G
      · simp only [Bool.and_eq_true] at hk
        obtain ⟨hi, hlo2, hf2, hL0, g4, g5⟩ := hk
        have hi := Nat.eq_of_beq_eq_true hi
        subst hi
        have hL0 := y_le_ok hV2 hL0
        have g4 := y_le_ok hV2 g4
        have g5 := y_le_ok hV2 g5
        rw [n0, y_L_n, a0] at hL0
        rw [n0, xm] at g4
        rw [n0, xm] at g5
        have f2 := y_fs_ok hV2 hF' hf2 _ (List.Mem.head _)
        have f2 : az_slot h' 141 2 = some (iv 0) := (show az_slot h' 141 2 = some (sz_v ρ2 (0, 0, [])) from f2).trans (congrArg some (y_c0 _ _))
        have e : y_fin (y_rd (y_t h 143) (hv h 141 2)) m = ((0 : Nat) : Int) := by
          unfold y_rd y_fin
          rw [if_pos hL0, if_neg (by decide), if_pos ⟨g4, g5⟩]
          rfl
        rw [e]
        have G := mt_all hX hC (h0 := h) (s0 := s2) (h := h') (s2 := s3) (by omega) hd hT' (hsb2 hM') hl' c1 c2 f2 ⟨g4, g5⟩ (n := 0) (by decide) (lo := mm) (by
          have q1 := y_lo_ok hV2 hlo2 hLR
          rw [List.map_cons, List.map_cons, List.map_cons, List.map_nil, sz_v_ref _ (show (145 : Int) < 1000000 by decide), lw_sv a1, y_c0] at q1
          exact q1)
        show mz_gg X _ (6 + (d - 6)) 99 67 mm [] (h', s3)
        rw [hdd]
        exact G
    · intro F o h' s3 hk hT' hM' hF' hl' c1 c2
      unfold msE at hk
      split at hk
      · rename_i v
        simp only [Bool.and_eq_true] at hk
        obtain ⟨v0, hf2, hL0, hfin⟩ := hk
        have v0 := Nat.eq_of_beq_eq_true v0
        have hL0 := y_le_ok hV2 hL0
        rw [n0, y_L_n, a0] at hL0
        have f2 := y_fs_ok hV2 hF' hf2 _ (List.Mem.head _)
        have f2 : az_slot h' 141 2 = some (iv 0) := (show az_slot h' 141 2 = some (sz_v ρ2 (0, 0, [])) from f2).trans (congrArg some (y_c0 _ _))
        obtain ⟨z, k1, k2⟩ := yFin_ok hV2 hfin
        have k1 := y_eq_ok hV2 k1
        refine ⟨?_, hT', hsb2 hM', f2, hl', c1, c2⟩
        show some (some (sz_v ρ2 v)) = _
        rw [y_iv v0, k1, k2, n0, xm]
        unfold y_rd
        rw [if_pos hL0]
      · cases hk
/-- the same as a contract: atoms 0 how many signs, 1 which MEMORY, 2 the answer -/
def mmB : azCon := (99, 6, ([azf, azf, azf], [(0, 80), ((-2147483648), 2147483647), ((-91), 16)], [], [(1, 145, []), (0, 0, [(1, 1)])], [(141, (2, []), (0, 0, [(0, 1)]))], [], false), [(some (some (0, 0, [(2, 1)])), [azf, azf, azf], [(0, 80), ((-2147483648), 2147483647), ((-91), 16)], [], [(141, (2, []), (0, 0, []))])], mmMd, (0, 0))
set_option maxRecDepth 20000 in
theorem mm_hc {X : List (List Value)} (hX : az_X X) (hC : az_Valid X chgB) {ρ1 : Nat → Int} {hh : List mzC} {args : List Value} {s2 : Nat × Nat} {d : Nat} (hv1 : ρ1 2 = y_fin (y_rd (y_t hh 143) (ρ1 0)) (ρ1 1)) (hl : args.length = 2) (hV : az_V mmB.2.2.1.1 mmB.2.2.1.2.1 mmB.2.2.1.2.2.1 ρ1) (hLR : sz_LR ρ1 mmB.2.2.1.2.2.2.1 (lv_args 0 args)) (H : az_HR [] hh ρ1 mmB.2.2.1.2.2.2.2.1 mmB.2.2.1.2.2.2.2.2.1 mmB.2.2.1.2.2.2.2.2.2 0 hh) (hlen : hh.length + 8000 < 2147483648) (hd : mmB.2.1 ≤ d) : mz_gg X (az_PostH mmB ρ1 hh s2) d mmB.1 0 (lv_args 0 args) [] (hh, s2) := by
  have e1 := HF_get H.2.2.1 (c := 141) (k := 2) (v := (0, 0, [(0, 1)])) (by decide) (by decide) (List.Mem.head _)
  have r0 : (0 : Int) ≤ ρ1 0 ∧ ρ1 0 ≤ 80 := hV.2.1 0
  have e1 : az_slot hh 141 2 = some (iv (ρ1 0)) := by
    rw [e1]
    exact congrArg some (lw_sv rfl)
  have e1 := hv_val e1 (by omega) (by omega)
  refine mz_gg_mono ?_ (ms_all hX hC (by omega) hd ⟨H.1, H.2.2.2.1⟩ (hV.2.2.2.2 1) (args_2 (by decide) hl hLR))
  intro o s' hk
  obtain ⟨k1, k2, k3, k7, k4, k5, k6⟩ := hk
  refine y_post (c := mmB) (v := (0, 0, [(2, 1)])) (FP := [(141, (2, []), (0, 0, []))]) (List.Mem.head _) rfl rfl hV (H.2.1.2 rfl rfl) k2 k3 (HF_cons 2 0 (by decide) (show (2 : Int) + 0 = ((2 : Nat) : Int) by omega) (by decide) (y_c0 _ _) k7 (HF_nil _ _)) k4 k5 k6 ?_
  rw [k1, e1, ← hv1, lw_sv rfl]
