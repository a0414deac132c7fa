/-! the class's readCells and memory: the contracts that they use -/
def fillB : azCon := (290, 0, ([(0, (0, 0, []), (0, 0, []))], [(0, 0)], [], [(1, 20, []), (0, 0, [(0, 1)])], [], [], false), [(some none, [(0, (0, 0, []), (0, 0, []))], [(0, 0)], [], [])], [(16, 0)], (0, 0))
def markB : azCon := (224, 2, ([], [], [], [(1, 57, [])], [], [], false), [(some none, [], [], [], [])], [(100, 0), (101, 0), (102, 0), (103, 0), (104, 0), (105, 0), (106, 1), (107, 0), (108, 0), (109, 0), (110, 0), (111, 0), (112, 0), (113, 1), (114, 0), (115, 0), (116, 0), (117, 0), (118, 0), (119, 0), (120, 1), (121, 0), (122, 0), (123, 0), (124, 0), (125, 0), (126, 0), (57, 1), (58, 0), (59, 0), (60, 0), (61, 0), (62, 0), (63, 0), (64, 1), (65, 0), (66, 0), (67, 0), (68, 0), (69, 0), (70, 0), (71, 1), (72, 0), (73, 0), (74, 0), (75, 0), (76, 0), (77, 0), (78, 1), (79, 0), (80, 0), (81, 0), (82, 0), (83, 0), (84, 0), (85, 1), (86, 0), (87, 0), (88, 0), (89, 0), (90, 0), (91, 0), (92, 1), (93, 0), (94, 0), (95, 0), (96, 0), (97, 0), (98, 0), (99, 1)], (0, 0))
def keepB : azCon := (225, 1, ([], [], [], [(1, 57, [])], [], [], false), [(some none, [], [], [], [])], [(53, 3), (53, 4)], (0, 0))
def meMd : List (Nat × Nat) := [(100, 0), (101, 0), (102, 0), (103, 0), (104, 0), (105, 0), (106, 1), (107, 0), (108, 0), (109, 0), (110, 0), (111, 0), (112, 0), (113, 1), (114, 0), (115, 0), (116, 0), (117, 0), (118, 0), (119, 0), (120, 1), (121, 0), (122, 0), (123, 0), (124, 0), (125, 0), (126, 0), (16, 0), (53, 3), (53, 4), (57, 1), (58, 0), (59, 0), (6, 0), (60, 0), (61, 0), (62, 0), (63, 0), (64, 1), (65, 0), (66, 0), (67, 0), (68, 0), (69, 0), (70, 0), (71, 1), (72, 0), (73, 0), (74, 0), (75, 0), (76, 0), (77, 0), (78, 1), (79, 0), (8, 2), (8, 3), (80, 0), (81, 0), (82, 0), (83, 0), (84, 0), (85, 1), (86, 0), (87, 0), (88, 0), (89, 0), (90, 0), (91, 0), (92, 1), (93, 0), (94, 0), (95, 0), (96, 0), (97, 0), (98, 0), (99, 1)]
/-- a number of the text: atoms 0 how many signs, 1 where it stands, 2 its CELL -/
def rcQ : szM := (2, 8, (0, 0, 0), szc_267)
def rcMd : List (Nat × Nat) := [(8, 3), (16, 0)]
def rcR (b : Bool) : szR := [(0, 80), (0, 90), bif b then (15, 15) else (0, 14)]
def rcC (b : Bool) : azCon := (267, 6, ([azf, azf, azf], rcR b, [], [(1, 14, []), (0, 0, [(2, 1)])], [(8, (1, []), (0, 0, [(0, 1)])), (8, (2, []), (0, 0, [(1, 1)]))], [], false), [], rcMd, (0, 0))
noncomputable def rcH (b : Bool) (_ : szD) (R : szR) (Cs : azS) (F : azF) (i : Nat) (lo : szLo) : Bool := (Nat.beq i 17 && !b) && (y_lo R Cs [(1, 14, []), (0, 1, [(2, 1)])] lo && (match az_fget 8 (((2 : Nat) : Int), []) F with
  | some u => (Nat.beq u.1 0 && az_nw R Cs u) && yMe R Cs F 9 b (1, [(2, 1)]) (0, [(1, 1)]) (fun _ => false) (fun q => y_eq R Cs u.2 q)
  | none => false))
noncomputable def rcE (b : Bool) (_ : szD) (R : szR) (Cs : azS) (F : azF) (o : Option szV) : Bool := match o with
  | some v => Nat.beq v.1 0 && yMe R Cs F 9 b (1, [(2, 1)]) (0, [(1, 1)]) (fun a => y_eq R Cs v.2 a) (fun _ => false)
  | none => false
theorem rcR0 : yRun yInl (rcC false) [] rcQ 17 4000 0 (az_yl 267 6 (rcH false) (rcE false)) yNo = true := by decide +kernel
theorem rcR1 : yRun yInl (rcC true) [] rcQ 17 4000 0 (az_yl 267 6 (rcH true) (rcE true)) yNo = true := by decide +kernel
def rcK (h0 : List mzC) (s0 : Nat × Nat) (v : Int) (o : Option (Option Value)) (s' : mzS) : Prop := o = some (some (iv v)) ∧ az_Tp s'.1 ∧ az_HM rcMd h0 s'.1 ∧ s'.1.length = h0.length ∧ s'.2.1 ≤ s0.1 ∧ s'.2.2 ≤ s0.2
theorem rc_typ {h : List mzC} (hT : az_Tp h) : (az_slot h 8 1 = some (iv (hv h 8 1)) ∧ 0 ≤ hv h 8 1 ∧ hv h 8 1 ≤ 80) ∧ (az_slot h 8 2 = some (iv (hv h 8 2)) ∧ 0 ≤ hv h 8 2 ∧ hv h 8 2 ≤ 90) := ⟨hv_slot hT.1 (c := 8) (k := 1) (C := (18, 3, 0, [53, 15, 16])) (by decide +kernel) (by decide +kernel), hv_slot hT.1 (c := 8) (k := 2) (C := (18, 3, 0, [53, 15, 16])) (by decide +kernel) (by decide +kernel)⟩
theorem y_c0 (ρ : Nat → Int) (z : Int) : sz_v ρ (0, z, []) = iv z := by
  rw [sz_v_iv]
  show iv (z + 0) = iv z
  rw [Int.add_zero]
theorem ml_one {lo : mzL} {r : Int} {x : Int} (hr : 0 ≤ r ∧ r < 1000000) {ρ : Nat → Int} {c : Int} {t : szT} (h : az_ml lo [.ref r.toNat, iv x]) (e : c + sz_sum ρ t = x) : az_ml lo (([(1, r, []), (0, c, t)] : szLo).map (sz_v ρ)) := by
  rw [List.map_cons, List.map_cons, List.map_nil, sz_v_ref ρ hr.2, sz_v_iv, e]
  exact h
theorem ml_one' {lo : mzL} {r : Int} {x : Int} (hr : 0 ≤ r ∧ r < 1000000) {ρ : Nat → Int} {c : Int} {t : szT} (h : az_ml lo (([(1, r, []), (0, c, t)] : szLo).map (sz_v ρ))) (e : c + sz_sum ρ t = x) : az_ml lo [.ref r.toNat, iv x] := by
  rw [List.map_cons, List.map_cons, List.map_nil, sz_v_ref ρ hr.2, sz_v_iv, e] at h
  exact h
set_option maxRecDepth 20000 in
theorem rc_loop {X : List (List Value)} (hX : az_X X) {h0 : List mzC} {s0 : Nat × Nat} (hlen : h0.length + 8000 < 2147483648) {L : Int} (hL : 0 ≤ L ∧ L ≤ 80) {d : Nat} (hd : 6 ≤ d) : ∀ (n : Nat) (p x : Int) (h : List mzC) (s2 : Nat × Nat) (lo : mzL), n ≤ 15 → x = 15 - (n : Int) → az_Tp h → az_HM rcMd h0 h → h.length = h0.length → s2.1 ≤ s0.1 → s2.2 ≤ s0.2 → hv h 8 1 = L → hv h 8 2 = p → az_ml lo [.ref 14, iv x] → mz_gg X (rcK h0 s0 (y_f (y_t h0 9) L (n + 1) p)) d 267 17 lo [] (h, s2) := by
  intro n
  induction n with
  | zero =>
    intro p x h s2 lo hn hx hT hM hl b1 b2 eL ep hlo
    obtain ⟨t1, t2⟩ := rc_typ hT
    rw [eL] at t1
    rw [ep] at t2
    have ht : y_t h 9 = y_t h0 9 := y_t_eq hM (by decide) (by decide)
    refine az_goX (c := rcC true) (i0 := 17) (ρ := rho [L, p, x] ((h.length : Int) + 4)) sz_pkall_szP hX (tb := []) (fun _ hc => by cases hc) (q := rcQ) rfl (az_wfb_ok (by decide +kernel)) rcR1 rfl (by show h.length + 1000 * (6 + 2) < 2147483648; omega) (rho_z _ _) hd ?_ hT ?_ ?_ (fun D R Cs C ρ1 f hr => by cases hr) ?_
    · exact rho_V (rho_free rfl _) (show rin [(0, 80), (0, 90), (15, 15)] [L, p, x] from ⟨hL, t2.2, ⟨by omega, by omega⟩, trivial⟩) rfl (by omega) (by decide) trivial
    · exact HF_cons 1 L (by decide) (show (1 : Int) + 0 = ((1 : Nat) : Int) by omega) (by decide) (lw_sv (rho_0 _ _ _)) t1.1 (HF_cons 2 p (by decide) (show (2 : Int) + 0 = ((2 : Nat) : Int) by omega) (by decide) (lw_sv (rho_1 _ _ _ _)) t2.1 (HF_nil _ _))
    · exact ml_one (r := 14) (by decide) hlo (show (0 : Int) + (1 * rho [L, p, x] _ 2 + 0) = x by rw [rho_2]; omega)
    · intro D R Cs C ρ2 hl2 hV2 hW2 hag hn2
      have a0 : ρ2 0 = L := (hag.1 0 (by show 0 < 3; decide)).trans (rho_0 _ _ _)
      have a1 : ρ2 1 = p := (hag.1 1 (by show 1 < 3; decide)).trans (rho_1 _ _ _ _)
      have a2 : ρ2 2 = x := (hag.1 2 (by show 2 < 3; decide)).trans (rho_2 _ _ _ _ _)
      have x1 : y_n ρ2 ((1 : Int), [(2, 1)]) = 16 - ((0 : Nat) : Int) := by
        show (1 : Int) + (1 * ρ2 2 + 0) = _
        rw [a2, hx]
        omega
      have xp : y_n ρ2 ((0 : Int), [(1, 1)]) = p := by
        show (0 : Int) + (1 * ρ2 1 + 0) = _
        rw [a1]
        omega
      refine az_yl_ok hV2 hl2 ?_ ?_
      · intro F i lo' m h' s3 hk
        unfold rcH at hk
        rw [Bool.and_eq_true, Bool.and_eq_true] at hk
        cases hk.1.2
      · intro F o h' s3 hk hT' hM' hF' hl' c1 c2
        unfold rcE at hk
        split at hk
        · rename_i v
          rw [Bool.and_eq_true] at hk
          have v0 := Nat.eq_of_beq_eq_true hk.1
          rcases yMe_ok hV2 hF' (by decide) (n := 0) x1 hk.2 with ⟨a, e1, e2⟩ | ⟨q, e1, _⟩
          · have e1 := y_eq_ok hV2 e1
            refine ⟨?_, hT', HM_trans hM hM' (fun _ _ z => z), by show h'.length = _; omega, by show s3.1 ≤ _; omega, by show s3.2 ≤ _; omega⟩
            show some (some (sz_v ρ2 v)) = _
            rw [y_iv v0, e1, e2, xp, a0, y_t_eq hM' (by decide) rfl, ht]
          · cases e1
        · cases hk
  | succ n ih =>
    intro p x h s2 lo hn hx hT hM hl b1 b2 eL ep hlo
    obtain ⟨t1, t2⟩ := rc_typ hT
    rw [eL] at t1
    rw [ep] at t2
    have ht : y_t h 9 = y_t h0 9 := y_t_eq hM (by decide) (by decide)
    refine az_goX (c := rcC false) (i0 := 17) (ρ := rho [L, p, x] ((h.length : Int) + 4)) sz_pkall_szP hX (tb := []) (fun _ hc => by cases hc) (q := rcQ) rfl (az_wfb_ok (by decide +kernel)) rcR0 rfl (by show h.length + 1000 * (6 + 2) < 2147483648; omega) (rho_z _ _) hd ?_ hT ?_ ?_ (fun D R Cs C ρ1 f hr => by cases hr) ?_
    · exact rho_V (rho_free rfl _) (show rin [(0, 80), (0, 90), (0, 14)] [L, p, x] from ⟨hL, t2.2, ⟨by omega, by omega⟩, trivial⟩) rfl (by omega) (by decide) trivial
    · exact HF_cons 1 L (by decide) (show (1 : Int) + 0 = ((1 : Nat) : Int) by omega) (by decide) (lw_sv (rho_0 _ _ _)) t1.1 (HF_cons 2 p (by decide) (show (2 : Int) + 0 = ((2 : Nat) : Int) by omega) (by decide) (lw_sv (rho_1 _ _ _ _)) t2.1 (HF_nil _ _))
    · exact ml_one (r := 14) (by decide) hlo (show (0 : Int) + (1 * rho [L, p, x] _ 2 + 0) = x by rw [rho_2]; omega)
    · intro D R Cs C ρ2 hl2 hV2 hW2 hag hn2
      have a0 : ρ2 0 = L := (hag.1 0 (by show 0 < 3; decide)).trans (rho_0 _ _ _)
      have a1 : ρ2 1 = p := (hag.1 1 (by show 1 < 3; decide)).trans (rho_1 _ _ _ _)
      have a2 : ρ2 2 = x := (hag.1 2 (by show 2 < 3; decide)).trans (rho_2 _ _ _ _ _)
      have x1 : y_n ρ2 ((1 : Int), [(2, 1)]) = 16 - ((n + 1 : Nat) : Int) := by
        show (1 : Int) + (1 * ρ2 2 + 0) = _
        rw [a2, hx]
        omega
      have xp : y_n ρ2 ((0 : Int), [(1, 1)]) = p := by
        show (0 : Int) + (1 * ρ2 1 + 0) = _
        rw [a1]
        omega
      have hdd : (6 : Nat) + (d - 6) = d := by omega
      refine az_yl_ok hV2 hl2 ?_ ?_
      · intro F i lo' m h' s3 hk hLR hT' hM' hF' hl' c1 c2
        unfold rcH at hk
        rw [Bool.and_eq_true, Bool.and_eq_true, Bool.and_eq_true] at hk
        obtain ⟨⟨hi, _⟩, hlo2, hk⟩ := hk
        have hi := Nat.eq_of_beq_eq_true hi
        subst hi
        split at hk
        · rename_i u hg
          simp only [Bool.and_eq_true] at hk
          obtain ⟨⟨u0, un⟩, hk⟩ := hk
          have u0 := Nat.eq_of_beq_eq_true u0
          have eu := y_hv hV2 hF' (c := 8) (k := 2) (by decide) (by decide) hg u0 un
          rcases yMe_ok hV2 hF' (by decide) (n := n + 1) x1 hk with ⟨a, e1, _⟩ | ⟨q, e1, e2⟩
          · cases e1
          · have e1 := y_eq_ok hV2 e1
            rw [xp, a0, y_t_eq hM' (by decide) rfl, ht] at e2
            rw [e2, ← e1, ← eu]
            have G := ih (hv h' 8 2) (x + 1) h' s3 m (by omega) (by omega) hT' (HM_trans hM hM' (fun _ _ z => z)) (by omega) (by omega) (by omega) (by rw [HM_hv hM' (by decide) (by decide), eL]) rfl (ml_one' (r := 14) (by decide) (y_lo_ok hV2 hlo2 hLR) (show (1 : Int) + (1 * ρ2 2 + 0) = x + 1 by rw [a2]; omega))
            show mz_gg X _ (6 + (d - 6)) 267 17 m [] (h', s3)
            rw [hdd]
            exact G
        · cases hk
      · intro F o h' s3 hk hT' hM' hF' hl' c1 c2
        unfold rcE at hk
        split at hk
        · rename_i v
          rw [Bool.and_eq_true] at hk
          have v0 := Nat.eq_of_beq_eq_true hk.1
          rcases yMe_ok hV2 hF' (by decide) (n := n + 1) x1 hk.2 with ⟨a, e1, e2⟩ | ⟨q, e1, _⟩
          · have e1 := y_eq_ok hV2 e1
            refine ⟨?_, hT', HM_trans hM hM' (fun _ _ z => z), by show h'.length = _; omega, by show s3.1 ≤ _; omega, by show s3.2 ≤ _; omega⟩
            show some (some (sz_v ρ2 v)) = _
            rw [y_iv v0, e1, e2, xp, a0, y_t_eq hM' (by decide) rfl, ht]
          · cases e1
        · cases hk
/-- readCells: atom 0 how many signs -/
def raC : azCon := (267, 6, ([azf], [(0, 80)], [], [(1, 14, [])], [(8, (1, []), (0, 0, [(0, 1)]))], [], false), [], rcMd, (0, 0))
noncomputable def raH (_ : szD) (R : szR) (Cs : azS) (F : azF) (i : Nat) (lo : szLo) : Bool := Nat.beq i 17 && (y_lo R Cs [(1, 14, []), (0, 0, [])] lo && (y_fs R Cs F [(8, 2, (0, 0, []))] && y_le R Cs (1, []) y_L))
noncomputable def raE (_ : szD) (R : szR) (Cs : azS) (_ : azF) (o : Option szV) : Bool := match o with
  | some v => Nat.beq v.1 0 && (y_eq R Cs v.2 (0, []) && y_le R Cs y_L (0, []))
  | none => false
theorem raR : yRun yInl raC [fillB] rcQ 0 2000 0 (az_yl 267 6 raH raE) yNo = true := by decide +kernel
set_option maxRecDepth 20000 in
theorem ra_all {X : List (List Value)} (hX : az_X X) (hB : az_Valid X fillB) {h : List mzC} {s2 : Nat × Nat} (hlen : h.length + 8000 < 2147483648) {d : Nat} (hd : 6 ≤ d) (hT : az_Tp h) {lo : mzL} (hlo : az_ml lo [.ref 14]) : mz_gg X (rcK h s2 (y_rd (y_t h 9) (hv h 8 1))) d 267 0 lo [] (h, s2) := by
  obtain ⟨t1, _⟩ := rc_typ hT
  refine az_goX (c := raC) (i0 := 0) (ρ := rho [hv h 8 1] ((h.length : Int) + 4)) sz_pkall_szP hX (tb := [fillB]) (List.forall_mem_cons.mpr ⟨hB, fun _ hc => by cases hc⟩) (q := rcQ) rfl (az_wfb_ok (by decide +kernel)) raR rfl (by show h.length + 1000 * (6 + 2) < 2147483648; omega) (rho_z _ _) hd ?_ hT ?_ ?_ (fun D R Cs C ρ1 f hr => by cases hr) ?_
  · exact rho_V (rho_free rfl _) (show rin [(0, 80)] [hv h 8 1] from ⟨t1.2, trivial⟩) rfl (by omega) (by decide) trivial
  · exact HF_cons 1 (hv h 8 1) (by decide) (show (1 : Int) + 0 = ((1 : Nat) : Int) by omega) (by decide) (lw_sv (rho_0 _ _ _)) t1.1 (HF_nil _ _)
  · show az_ml lo (([(1, 14, [])] : szLo).map (sz_v _))
    rw [List.map_cons, List.map_nil, sz_v_ref _ (show (14 : Int) < 1000000 by decide)]
    exact hlo
  · intro D R Cs C ρ2 hl2 hV2 hW2 hag hn2
    have a0 : ρ2 0 = hv h 8 1 := (hag.1 0 (by show 0 < 1; decide)).trans (rho_0 _ _ _)
    have n0 : ∀ z : Int, y_n ρ2 (z, []) = z := fun z => Int.add_zero z
    have hdd : (6 : Nat) + (d - 6) = d := by omega
    refine az_yl_ok hV2 hl2 ?_ ?_
    · intro F i lo' m h' s3 hk hLR hT' hM' hF' hl' c1 c2
      unfold raH at hk
      rw [Bool.and_eq_true, Bool.and_eq_true, Bool.and_eq_true] at hk
      obtain ⟨hi, hlo2, hk, hL1⟩ := hk
      have hi := Nat.eq_of_beq_eq_true hi
      subst hi
      have hL1 := y_le_ok hV2 hL1
      rw [n0, y_L_n, a0] at hL1
      have e2 := y_fs_ok hV2 hF' hk _ (List.Mem.head _)
      have e2 : az_slot h' 8 2 = some (iv 0) := (show az_slot h' 8 2 = some (sz_v ρ2 (0, 0, [])) from e2).trans (congrArg some (y_c0 _ _))
      have G := rc_loop hX (h0 := h) (s0 := s2) hlen t1.2 hd 15 0 0 h' s3 m (by decide) (by decide) hT' hM' hl' c1 c2 (HM_hv hM' (by decide) (by decide)) (hv_val e2 (by decide) (by decide)) (ml_one' (r := 14) (by decide) (y_lo_ok hV2 hlo2 hLR) (show (0 : Int) + 0 = 0 by decide))
      have e : y_rd (y_t h 9) (hv h 8 1) = y_f (y_t h 9) (hv h 8 1) (15 + 1) 0 := by
        unfold y_rd
        rw [if_neg (by omega)]
      rw [e]
      show mz_gg X _ (6 + (d - 6)) 267 17 m [] (h', s3)
      rw [hdd]
      exact G
    · intro F o h' s3 hk hT' hM' hF' hl' c1 c2
      unfold raE at hk
      split at hk
      · rename_i v
        simp only [Bool.and_eq_true] at hk
        obtain ⟨v0, hv0, hL0⟩ := hk
        have v0 := Nat.eq_of_beq_eq_true v0
        have hv0 := y_eq_ok hV2 hv0
        have hL0 := y_le_ok hV2 hL0
        rw [n0, y_L_n, a0] at hL0
        rw [n0] at hv0
        refine ⟨?_, hT', hM', hl', c1, c2⟩
        show some (some (sz_v ρ2 v)) = _
        rw [y_iv v0, hv0]
        unfold y_rd
        rw [if_pos hL0]
      · cases hk
/-- the same as a contract: atom 1 the answer -/
def raB : azCon := (267, 6, ([azf, azf], [(0, 80), ((-91), 16)], [], [(1, 14, [])], [(8, (1, []), (0, 0, [(0, 1)]))], [], false), [(some (some (0, 0, [(1, 1)])), [azf, azf], [(0, 80), ((-91), 16)], [], [])], rcMd, (0, 0))
theorem args_1 {r : Int} (hr : 0 ≤ r ∧ r < 1000000) {ρ : Nat → Int} {args : List Value} (hl : args.length = 1) (h : sz_LR ρ [(1, r, [])] (lv_args 0 args)) : az_ml (lv_args 0 args) [.ref r.toNat] := by
  have e := az_LR_ml (by rfl) h
  rw [List.map_cons, List.map_nil, sz_v_ref ρ hr.2] at e
  exact e
set_option maxRecDepth 20000 in
theorem ra_hc {X : List (List Value)} (hX : az_X X) (hB : az_Valid X fillB) {ρ1 : Nat → Int} {hh : List mzC} {args : List Value} {s2 : Nat × Nat} {d : Nat} (hv1 : ρ1 1 = y_rd (y_t hh 9) (ρ1 0)) (hl : args.length = 1) (hV : az_V raB.2.2.1.1 raB.2.2.1.2.1 raB.2.2.1.2.2.1 ρ1) (hLR : sz_LR ρ1 raB.2.2.1.2.2.2.1 (lv_args 0 args)) (H : az_HR [] hh ρ1 raB.2.2.1.2.2.2.2.1 raB.2.2.1.2.2.2.2.2.1 raB.2.2.1.2.2.2.2.2.2 0 hh) (hlen : hh.length + 1000 * (raB.2.1 + 2) < 2147483648) (hlen2 : hh.length + 8000 < 2147483648) (hd : raB.2.1 ≤ d) : mz_gg X (az_PostH raB ρ1 hh s2) d raB.1 0 (lv_args 0 args) [] (hh, s2) := by
  have e1 := HF_get H.2.2.1 (c := 8) (k := 1) (v := (0, 0, [(0, 1)])) (by decide) (by decide) (List.Mem.head _)
  have r0 : (0 : Int) ≤ ρ1 0 ∧ ρ1 0 ≤ 80 := hV.2.1 0
  have e1 : az_slot hh 8 1 = some (iv (ρ1 0)) := by
    rw [e1]
    exact congrArg some (lw_sv rfl)
  have e1 := hv_val e1 (by omega) (by omega)
  refine mz_gg_mono ?_ (ra_all hX hB hlen2 hd ⟨H.1, H.2.2.2.1⟩ (args_1 (by decide) hl hLR))
  intro o s' hk
  obtain ⟨k1, k2, k3, k4, k5, k6⟩ := hk
  refine y_post (c := raB) (v := (0, 0, [(1, 1)])) (FP := []) (List.Mem.head _) rfl rfl hV (H.2.1.2 rfl rfl) k2 k3 (HF_nil _ _) k4 k5 k6 ?_
  rw [k1, e1, ← hv1, lw_sv rfl]
/-- memory: atoms 0 how many signs, 1 which MEMORY, 2 what its text tells -/
def maQ : szM := (3, 11, (0, 0, 0), szc_9)
def maC : azCon := (9, 8, ([azf, azf, azf], [(0, 80), ((-2147483648), 2147483647), ((-91), 16)], [], [(1, 4, []), (0, 0, [(1, 1)])], [(8, (1, []), (0, 0, [(0, 1)]))], [], false), [], meMd, (0, 0))
noncomputable def maD (D : szD) (R : szR) (Cs : azS) (C : azQ) (f : szD → szR → azS → azQ → Bool) : Bool := az_knr szP 8 meMd 3 9 2 raB [(0, 0, [(0, 1)]), (0, 0, [(2, 1)])] D R Cs C f
noncomputable def maE (_ : szD) (R : szR) (Cs : azS) (F : azF) (o : Option szV) : Bool := match o with
  | some v => Nat.beq v.1 0 && (y_fs R Cs F [(8, 1, (0, 0, []))] && yFin R Cs (0, [(2, 1)]) (0, [(1, 1)]) (fun a => y_eq R Cs v.2 a))
  | none => false
theorem maR : yRun az_inl maC [markB, keepB] maQ 0 2000 1 (az_yl 9 8 (fun _ _ _ _ _ _ => false) maE) maD = true := by decide +kernel
def maK (h0 : List mzC) (s0 : Nat × Nat) (v : Int) (o : Option (Option Value)) (s' : mzS) : Prop := o = some (some (iv v)) ∧ az_Tp s'.1 ∧ az_HM meMd h0 s'.1 ∧ az_slot s'.1 8 1 = some (iv 0) ∧ s'.1.length = h0.length ∧ s'.2.1 ≤ s0.1 ∧ s'.2.2 ≤ s0.2
set_option maxRecDepth 20000 in
theorem ma_all {X : List (List Value)} (hX : az_X X) (hB : az_Valid X fillB) (hB1 : az_Valid X markB) (hB2 : az_Valid X keepB) {h : List mzC} {s2 : Nat × Nat} (hlen : h.length + 10000 < 2147483648) {d : Nat} (hd : 8 ≤ d) (hT : az_Tp h) {m : Int} (hm : -2147483648 ≤ m ∧ m ≤ 2147483647) {lo : mzL} (hlo : az_ml lo [.ref 4, iv m]) : mz_gg X (maK h s2 (y_fin (y_rd (y_t h 9) (hv h 8 1)) m)) d 9 0 lo [] (h, s2) := by
  obtain ⟨t1, _⟩ := rc_typ hT
  have tb := y_rd_bd (t := y_t h 9) t1.2.1 t1.2.2
  refine az_goX (c := maC) (i0 := 0) (ρ := rho [hv h 8 1, m, y_rd (y_t h 9) (hv h 8 1)] ((h.length : Int) + 4)) sz_pkall_szP hX (tb := [markB, keepB]) (List.forall_mem_cons.mpr ⟨hB1, List.forall_mem_cons.mpr ⟨hB2, fun _ hc => by cases hc⟩⟩) (q := maQ) rfl (az_wfb_ok (by decide +kernel)) maR rfl (by show h.length + 1000 * (8 + 2) < 2147483648; omega) (rho_z _ _) hd ?_ hT ?_ ?_ ?_ ?_
  · exact rho_V (rho_free rfl _) (show rin [(0, 80), ((-2147483648), 2147483647), ((-91), 16)] [hv h 8 1, m, y_rd (y_t h 9) (hv h 8 1)] from ⟨t1.2, hm, ⟨by omega, by omega⟩, trivial⟩) rfl (by omega) (by decide) trivial
  · exact HF_cons 1 (hv h 8 1) (by decide) (show (1 : Int) + 0 = ((1 : Nat) : Int) by omega) (by decide) (lw_sv (rho_0 _ _ _)) t1.1 (HF_nil _ _)
  · exact ml_one (r := 4) (by decide) hlo (show (0 : Int) + (1 * rho [hv h 8 1, m, y_rd (y_t h 9) (hv h 8 1)] _ 1 + 0) = m by rw [rho_1]; omega)
  · intro D R Cs C ρ1 f hr hV1 hW1 hag hn hf
    unfold maD at hr
    refine az_knr_ok sz_pkall_szP (by show h.length + 1000 * (8 + 2) < 2147483648; omega) hV1 hW1 ?_ hr hf
    intro ρ3 hh args s4 d4 hl hb hM hV3 hLR H hlen3 hd4
    have a0 : ρ1 0 = hv h 8 1 := (hag.1 0 (by show 0 < 3; decide)).trans (rho_0 _ _ _)
    have a2 : ρ1 2 = y_rd (y_t h 9) (hv h 8 1) := (hag.1 2 (by show 2 < 3; decide)).trans (rho_2 _ _ _ _ _)
    have b0 : ρ3 0 = (0 : Int) + (1 * ρ1 0 + 0) := hb 0 _ rfl
    have b1 : ρ3 1 = (0 : Int) + (1 * ρ1 2 + 0) := hb 1 _ rfl
    refine ra_hc hX hB ?_ hl hV3 hLR H hlen3 ?_ hd4
    · rw [b1, a2, y_t_eq hM (by decide) (by decide), show ρ3 0 = hv h 8 1 by omega]
      omega
    · have hlen3 : hh.length + 1000 * (6 + 2) < 2147483648 := hlen3
      omega
  · intro D R Cs C ρ2 hl2 hV2 hW2 hag hn2
    have a1 : ρ2 1 = m := (hag.1 1 (by show 1 < 3; decide)).trans (rho_1 _ _ _ _)
    have a2 : ρ2 2 = y_rd (y_t h 9) (hv h 8 1) := (hag.1 2 (by show 2 < 3; decide)).trans (rho_2 _ _ _ _ _)
    refine az_yl_ok hV2 hl2 (fun F i lo' m' h' s3 hk => by cases hk) ?_
    intro F o h' s3 hk hT' hM' hF' hl' c1 c2
    unfold maE at hk
    split at hk
    · rename_i v
      simp only [Bool.and_eq_true] at hk
      obtain ⟨v0, hf0, hfin⟩ := hk
      have v0 := Nat.eq_of_beq_eq_true v0
      have e2 := y_fs_ok hV2 hF' hf0 _ (List.Mem.head _)
      have e2 : az_slot h' 8 1 = some (iv 0) := (show az_slot h' 8 1 = some (sz_v ρ2 (0, 0, [])) from e2).trans (congrArg some (y_c0 _ _))
      obtain ⟨a, g1, g2⟩ := yFin_ok hV2 hfin
      have g1 := y_eq_ok hV2 g1
      refine ⟨?_, hT', hM', e2, hl', c1, c2⟩
      show some (some (sz_v ρ2 v)) = _
      rw [y_iv v0, g1, g2, show y_n ρ2 ((0 : Int), [(2, 1)]) = y_rd (y_t h 9) (hv h 8 1) by show (0 : Int) + (1 * ρ2 2 + 0) = _; rw [a2]; omega, show y_n ρ2 ((0 : Int), [(1, 1)]) = m by show (0 : Int) + (1 * ρ2 1 + 0) = _; rw [a1]; omega]
    · cases hk
/-- the same as a contract: atoms 0 how many signs, 1 which MEMORY, 2 the answer -/
def maB : azCon := (9, 8, ([azf, azf, azf], [(0, 80), ((-2147483648), 2147483647), ((-91), 16)], [], [(1, 4, []), (0, 0, [(1, 1)])], [(8, (1, []), (0, 0, [(0, 1)]))], [], false), [(some (some (0, 0, [(2, 1)])), [azf, azf, azf], [(0, 80), ((-2147483648), 2147483647), ((-91), 16)], [], [(8, (1, []), (0, 0, []))])], meMd, (0, 0))
theorem args_2 {r : Int} (hr : 0 ≤ r ∧ r < 1000000) {ρ : Nat → Int} {k : Nat} {args : List Value} (hl : args.length = 2) (h : sz_LR ρ [(1, r, []), (0, 0, [(k, 1)])] (lv_args 0 args)) : az_ml (lv_args 0 args) [.ref r.toNat, iv (ρ k)] := by
  have e := az_LR_ml (by rfl) h
  rw [List.map_cons, List.map_cons, List.map_nil, sz_v_ref ρ hr.2, lw_sv rfl] at e
  exact e
set_option maxRecDepth 20000 in
theorem ma_hc {X : List (List Value)} (hX : az_X X) (hB : az_Valid X fillB) (hB1 : az_Valid X markB) (hB2 : az_Valid X keepB) {ρ1 : Nat → Int} {hh : List mzC} {args : List Value} {s2 : Nat × Nat} {d : Nat} (hv1 : ρ1 2 = y_fin (y_rd (y_t hh 9) (ρ1 0)) (ρ1 1)) (hl : args.length = 2) (hV : az_V maB.2.2.1.1 maB.2.2.1.2.1 maB.2.2.1.2.2.1 ρ1) (hLR : sz_LR ρ1 maB.2.2.1.2.2.2.1 (lv_args 0 args)) (H : az_HR [] hh ρ1 maB.2.2.1.2.2.2.2.1 maB.2.2.1.2.2.2.2.2.1 maB.2.2.1.2.2.2.2.2.2 0 hh) (hlen : hh.length + 10000 < 2147483648) (hd : maB.2.1 ≤ d) : mz_gg X (az_PostH maB ρ1 hh s2) d maB.1 0 (lv_args 0 args) [] (hh, s2) := by
  have e1 := HF_get H.2.2.1 (c := 8) (k := 1) (v := (0, 0, [(0, 1)])) (by decide) (by decide) (List.Mem.head _)
  have r0 : (0 : Int) ≤ ρ1 0 ∧ ρ1 0 ≤ 80 := hV.2.1 0
  have e1 : az_slot hh 8 1 = some (iv (ρ1 0)) := by
    rw [e1]
    exact congrArg some (lw_sv rfl)
  have e1 := hv_val e1 (by omega) (by omega)
  refine mz_gg_mono ?_ (ma_all hX hB hB1 hB2 hlen hd ⟨H.1, H.2.2.2.1⟩ (hV.2.2.2.2 1) (args_2 (by decide) hl hLR))
  intro o s' hk
  obtain ⟨k1, k2, k3, k7, k4, k5, k6⟩ := hk
  refine y_post (c := maB) (v := (0, 0, [(2, 1)])) (FP := [(8, (1, []), (0, 0, []))]) (List.Mem.head _) rfl rfl hV (H.2.1.2 rfl rfl) k2 k3 (HF_cons 1 0 (by decide) (show (1 : Int) + 0 = ((1 : Nat) : Int) by omega) (by decide) (y_c0 _ _) k7 (HF_nil _ _)) k4 k5 k6 ?_
  rw [k1, e1, ← hv1, lw_sv rfl]
