/-! the law's pieces: sign, and the compared call -/
theorem lsR (n : Nat) (hn : n ≤ 80) : yRun a3Inl (lsC n) [] lsQ 25 3000 3 (az_yl 0 40 (lsH n) (fun _ _ _ _ _ => false)) az_rkn = true := by
  match n, hn with
  | 0, _ => exact lsR_0
  | 1, _ => exact lsR_1
  | 2, _ => exact lsR_2
  | 3, _ => exact lsR_3
  | 4, _ => exact lsR_4
  | 5, _ => exact lsR_5
  | 6, _ => exact lsR_6
  | 7, _ => exact lsR_7
  | 8, _ => exact lsR_8
  | 9, _ => exact lsR_9
  | 10, _ => exact lsR_10
  | 11, _ => exact lsR_11
  | 12, _ => exact lsR_12
  | 13, _ => exact lsR_13
  | 14, _ => exact lsR_14
  | 15, _ => exact lsR_15
  | 16, _ => exact lsR_16
  | 17, _ => exact lsR_17
  | 18, _ => exact lsR_18
  | 19, _ => exact lsR_19
  | 20, _ => exact lsR_20
  | 21, _ => exact lsR_21
  | 22, _ => exact lsR_22
  | 23, _ => exact lsR_23
  | 24, _ => exact lsR_24
  | 25, _ => exact lsR_25
  | 26, _ => exact lsR_26
  | 27, _ => exact lsR_27
  | 28, _ => exact lsR_28
  | 29, _ => exact lsR_29
  | 30, _ => exact lsR_30
  | 31, _ => exact lsR_31
  | 32, _ => exact lsR_32
  | 33, _ => exact lsR_33
  | 34, _ => exact lsR_34
  | 35, _ => exact lsR_35
  | 36, _ => exact lsR_36
  | 37, _ => exact lsR_37
  | 38, _ => exact lsR_38
  | 39, _ => exact lsR_39
  | 40, _ => exact lsR_40
  | 41, _ => exact lsR_41
  | 42, _ => exact lsR_42
  | 43, _ => exact lsR_43
  | 44, _ => exact lsR_44
  | 45, _ => exact lsR_45
  | 46, _ => exact lsR_46
  | 47, _ => exact lsR_47
  | 48, _ => exact lsR_48
  | 49, _ => exact lsR_49
  | 50, _ => exact lsR_50
  | 51, _ => exact lsR_51
  | 52, _ => exact lsR_52
  | 53, _ => exact lsR_53
  | 54, _ => exact lsR_54
  | 55, _ => exact lsR_55
  | 56, _ => exact lsR_56
  | 57, _ => exact lsR_57
  | 58, _ => exact lsR_58
  | 59, _ => exact lsR_59
  | 60, _ => exact lsR_60
  | 61, _ => exact lsR_61
  | 62, _ => exact lsR_62
  | 63, _ => exact lsR_63
  | 64, _ => exact lsR_64
  | 65, _ => exact lsR_65
  | 66, _ => exact lsR_66
  | 67, _ => exact lsR_67
  | 68, _ => exact lsR_68
  | 69, _ => exact lsR_69
  | 70, _ => exact lsR_70
  | 71, _ => exact lsR_71
  | 72, _ => exact lsR_72
  | 73, _ => exact lsR_73
  | 74, _ => exact lsR_74
  | 75, _ => exact lsR_75
  | 76, _ => exact lsR_76
  | 77, _ => exact lsR_77
  | 78, _ => exact lsR_78
  | 79, _ => exact lsR_79
  | 80, _ => exact lsR_80
  | n + 81, h => omega
theorem md_ls {n c k : Nat} (hc : c = 9 ∨ c = 143) (hk : 77 ≤ n ∨ k < n ∨ n + 4 ≤ k) : az_md (lsM n) c k = false := by
  have e0 : az_md lwM c k = false := by
    rcases hc with e | e
    · subst e; exact md_no lwM_9
    · subst e; exact md_no lwM_143
  unfold az_md at e0
  unfold az_md lsM
  rw [List.any_append, e0, Bool.or_false]
  cases hz : Nat.ble n 76 with
  | false =>
    rw [cond_false]
    rfl
  | true =>
  have h76 : n ≤ 76 := Nat.le_of_ble_eq_true hz
  rw [cond_true]
  have b : ∀ j, j = n + 1 ∨ j = n + 2 ∨ j = n + 3 ∨ j = n + 4 → (Nat.beq j (k + 1)) = false := by
    intro j hj
    cases hz : Nat.beq j (k + 1) with
    | false => rfl
    | true =>
      have := Nat.eq_of_beq_eq_true hz
      omega
  have z : ∀ j, j = n + 1 ∨ j = n + 2 ∨ j = n + 3 ∨ j = n + 4 → (Nat.beq j 0) = false := by
    intro j hj
    cases hz : Nat.beq j 0 with
    | false => rfl
    | true =>
      have := Nat.eq_of_beq_eq_true hz
      omega
  simp only [List.any_cons, List.any_nil, b (n + 1) (by omega), b (n + 2) (by omega), b (n + 3) (by omega), b (n + 4) (by omega), z (n + 1) (by omega), z (n + 2) (by omega), z (n + 3) (by omega), z (n + 4) (by omega), Bool.or_false, Bool.and_false]
set_option maxRecDepth 20000 in
theorem lw_s0 {X : List (List Value)} (hX : az_X X) {L : Int} (hS : az_scr X L) {Kb : Option (Option Value) → mzS → Prop} {d : Nat} (hd : 40 ≤ d) {i : Int} {h : List mzC} {s2 : Nat × Nat} {lo : mzL} (hi0 : 0 ≤ i) (hiL : i + 5 ≤ L) (hL : L ≤ 2560) (hT : az_Tp h) (hI : lwI h) (hlen : h.length ≤ 100000) (hlo : az_ml lo [.ref 0, .ref 4, .ref 145, .ref 166, iv i]) (hN : lwNx X Kb d i h s2) : mz_gg X Kb d 0 25 lo [] (h, s2) := by
  obtain ⟨fs, x0, xl, xi⟩ := id hS
  have hlt : (i + 1).toNat < fs.length := by omega
  obtain ⟨x, hx⟩ := xi _ (List.getElem_mem hlt)
  have hx2 : ∀ gs, X[0]? = some gs → gs[(i + 1).toNat]? = some (.int x) := by
    intro gs hg
    rw [x0] at hg
    cases hg
    rw [List.getElem?_eq_getElem hlt, hx]
  have hb := sz_bd x
  obtain ⟨n, hn⟩ : ∃ n : Nat, hv h 8 1 = (n : Int) := ⟨(hv h 8 1).toNat, by have := (lwS_0_0 hT).2.1; omega⟩
  have hn8 : n ≤ 80 := by have := (lwS_0_0 hT).2.2; omega
  have hn2 : hv h 141 2 = (n : Int) := by rw [← hn]; exact hI.1.symm
  have s1 := (lwS_0_0 hT).1
  have s2' := (lwS_0_1 hT).1
  rw [hn] at s1
  rw [hn2] at s2'
  refine az_goX (c := lsC n) (i0 := 25) (ρ := rho [L, i, x.toInt] ((h.length : Int) + 4)) sz_pkall_szP hX (tb := []) (fun _ hc => by cases hc) (q := lsQ) rfl (az_wfb_ok rfl) (lsR n hn8) rfl (by show h.length + 1000 * (40 + 2) < 2147483648; omega) (rho_z _ _) hd ?_ hT ?_ ?_ ?_ ?_
  · refine rho_V (rho_free rfl _) (show rin [(5, 2560), (0, 2555), ((-2147483648), 2147483647)] [L, i, x.toInt] from ⟨⟨by omega, by omega⟩, ⟨by omega, by omega⟩, hb, trivial⟩) rfl (by omega) (by show 3 ≤ 1000000; decide) ⟨?_, trivial⟩
    show (0 : Int) ≤ (-5) + (1 * rho [L, i, x.toInt] _ 0 + ((-1) * rho [L, i, x.toInt] _ 1 + 0))
    rw [rho_0, rho_1]
    omega
  · exact HF_cons 1 n (by decide) (show (1 : Int) + 0 = ((1 : Nat) : Int) by omega) (by decide) (y_c0 _ _) s1 (HF_cons 2 n (by decide) (show (2 : Int) + 0 = ((2 : Nat) : Int) by omega) (by decide) (y_c0 _ _) s2' (HF_nil _ _))
  · have e := lw_loc (rho [L, i, x.toInt] ((h.length : Int) + 4)) 1
    rw [rho_1] at e
    show az_ml lo (([(1, 0, []), (1, 4, []), (1, 145, []), (1, 166, []), (0, 0, [(1, 1)])] : szLo).map (sz_v (rho [L, i, x.toInt] ((h.length : Int) + 4))))
    rw [e]
    exact hlo
  · intro D R Cs C ρ1 f hr hV1 hW1 hag hn hf
    have h1 : ρ1 1 = i := (hag.1 1 (by show 1 < 3; decide)).trans (rho_1 _ _ _ _)
    have h2 : ρ1 2 = x.toInt := (hag.1 2 (by show 2 < 3; decide)).trans (rho_2 _ _ _ _ _)
    exact az_rkn_ok hS (x := x) (by omega) (by omega) (by omega) h2 (by rw [h1]; exact hx2) hV1 hW1 hr hf
  · intro D R Cs C ρ2 hl2 hV2 hW2 hag hn3
    have a1 : ρ2 1 = i := (hag.1 1 (by show 1 < 3; decide)).trans (rho_1 _ _ _ _)
    have hdd : (40 : Nat) + (d - 40) = d := by omega
    refine az_yl_ok hV2 hl2 ?_ (fun F o h' s3 hk => by cases hk)
    intro F ii lo' mm h' s3 hk hLR hT' hM' hF' hl' c1 c2
    unfold lsH at hk
    rw [Bool.and_eq_true, Bool.and_eq_true] at hk
    obtain ⟨hi, hlo2, hk⟩ := hk
    have hi := Nat.eq_of_beq_eq_true hi
    subst hi
    have hl5 : az_ml mm [.ref 0, .ref 4, .ref 145, .ref 166, iv (i + 5)] := by
      have e := y_lo_ok hV2 hlo2 hLR
      rw [List.map_cons, List.map_cons, List.map_cons, List.map_cons, List.map_cons, List.map_nil, sz_v_ref ρ2 (show (0 : Int) < 1000000 by decide), sz_v_ref ρ2 (show (4 : Int) < 1000000 by decide), sz_v_ref ρ2 (show (145 : Int) < 1000000 by decide), sz_v_ref ρ2 (show (166 : Int) < 1000000 by decide), sz_v_iv, show (5 : Int) + sz_sum ρ2 [(1, 1)] = i + 5 by show (5 : Int) + (1 * ρ2 1 + 0) = _; rw [a1]; omega] at e
      exact e
    have hkeep : ∀ q, (77 ≤ n ∨ q < n ∨ n + 4 ≤ q) → hv h' 9 q % 256 = hv h' 143 q % 256 ∨ 80 ≤ q := by
      intro q hq
      by_cases h80 : q < 80
      · left
        rw [HM_hv hM' (by decide) (md_ls (Or.inl rfl) hq), HM_hv hM' (by decide) (md_ls (Or.inr rfl) hq)]
        exact hI.2 q h80
      · right
        omega
    have fin : lwI h' → mz_gg X Kb (40 + (d - 40)) 0 13 mm [] (h', s3) := by
      intro hI'
      rw [hdd]
      exact hN (i + 5) h' s3 mm (by omega) (by omega) hT' hI' (by omega) (by omega) (by omega) hl5
    cases hz : Nat.ble n 76 with
    | true =>
      have h76 : n ≤ 76 := Nat.le_of_ble_eq_true hz
      rw [hz, cond_true] at hk
      simp only [Bool.and_eq_true] at hk
      obtain ⟨hf, ⟨y0, y1⟩, y2, y3⟩ := hk
      have g1 := y_fs_ok hV2 hF' hf _ (List.Mem.head _)
      have g2 := y_fs_ok hV2 hF' hf _ (List.Mem.tail _ (List.Mem.head _))
      have g1 : az_slot h' 8 1 = some (iv ((n : Int) + 4)) := (show az_slot h' 8 1 = some (sz_v ρ2 (0, (n : Int) + 4, [])) from g1).trans (congrArg some (y_c0 _ _))
      have g2 : az_slot h' 141 2 = some (iv ((n : Int) + 4)) := (show az_slot h' 141 2 = some (sz_v ρ2 (0, (n : Int) + 4, [])) from g2).trans (congrArg some (y_c0 _ _))
      refine fin ⟨by show hv h' 8 1 = hv h' 141 2; rw [hv_val g1 (by omega) (by omega), hv_val g2 (by omega) (by omega)], ?_⟩
      intro q hq
      by_cases q0 : q = n
      · subst q0
        exact y_by_ok hV2 hF' (by omega) (by omega) y0
      · by_cases q1 : q = n + 1
        · subst q1
          exact y_by_ok hV2 hF' (by omega) (by omega) y1
        · by_cases q2 : q = n + 2
          · subst q2
            exact y_by_ok hV2 hF' (by omega) (by omega) y2
          · by_cases q3 : q = n + 3
            · subst q3
              exact y_by_ok hV2 hF' (by omega) (by omega) y3
            · rcases hkeep q (by omega) with e | e
              · exact e
              · omega
    | false =>
      have h76 : 77 ≤ n := by
        rcases Nat.lt_or_ge 76 n with e | e
        · omega
        · rw [Nat.ble_eq_true_of_le e] at hz
          cases hz
      rw [hz, cond_false] at hk
      have g1 := y_fs_ok hV2 hF' hk _ (List.Mem.head _)
      have g2 := y_fs_ok hV2 hF' hk _ (List.Mem.tail _ (List.Mem.head _))
      have g1 : az_slot h' 8 1 = some (iv (n : Int)) := (show az_slot h' 8 1 = some (sz_v ρ2 (0, (n : Int), [])) from g1).trans (congrArg some (y_c0 _ _))
      have g2 : az_slot h' 141 2 = some (iv (n : Int)) := (show az_slot h' 141 2 = some (sz_v ρ2 (0, (n : Int), [])) from g2).trans (congrArg some (y_c0 _ _))
      refine fin ⟨by show hv h' 8 1 = hv h' 141 2; rw [hv_val g1 (by omega) (by omega), hv_val g2 (by omega) (by omega)], ?_⟩
      intro q hq
      rcases hkeep q (Or.inl h76) with e | e
      · exact e
      · omega
theorem lwJ_t {h : List mzC} (hT : az_Tp h) (hJ : lwJ h) : y_t h 143 = y_t h 9 := by
  funext p
  unfold y_t
  by_cases hp : p.toNat < 80
  · exact (hJ _ hp).symm
  · have z : ∀ c C, azL[c]? = some C → C.2.1 = 80 → hv h c p.toNat = 0 := by
      intro c C hC h80
      obtain ⟨fs, f1, f2, _⟩ := hT.1 c C hC
      unfold hv az_slot
      rw [f1]
      dsimp only
      rw [List.getElem?_eq_none (by omega)]
    rw [z 143 (5, 80, 33, []) (by decide +kernel) rfl, z 9 (1, 80, 28, []) (by decide +kernel) rfl]
/-- the law's loop(): atoms 2 how many signs, 3 the answer -/
def lmC : azCon := (0, 40, ([azf, azf, azf, azf], [(5, 2560), (0, 2555), (0, 80), ((-200), 10)], [((-5), [(0, 1), (1, (-1))])], [(1, 0, []), (1, 4, []), (1, 145, []), (1, 166, []), (0, 0, [(1, 1)])], [(8, (1, []), (0, 0, [(2, 1)])), (141, (2, []), (0, 0, [(2, 1)]))], [], false), [], lwM, (0, 0))
noncomputable def lmD (D : szD) (R : szR) (Cs : azS) (C : azQ) (f : szD → szR → azS → azQ → Bool) : Bool := az_knr szP 40 lwM 4 0 60 cpB [(0, 0, [(2, 1)]), (0, 0, [(3, 1)])] D R Cs C f || az_knr szP 40 lwM 4 0 62 nlB [(0, 0, [(2, 1)]), (0, 0, [(3, 1)])] D R Cs C f
noncomputable def lmH (_ : szD) (R : szR) (Cs : azS) (F : azF) (i : Nat) (lo : szLo) : Bool := Nat.beq i 13 && (y_lo R Cs [(1, 0, []), (1, 4, []), (1, 145, []), (1, 166, []), (0, 5, [(1, 1)])] lo && y_fs R Cs F [(8, 1, (0, 0, [])), (141, 2, (0, 0, []))])
theorem lmR : yRun a3Inl lmC [] lsQ 59 2000 6 (az_yl 0 40 lmH (fun _ _ _ _ _ => false)) lmD = true := by decide +kernel
set_option maxRecDepth 20000 in
theorem lw_s2' {X : List (List Value)} (hB : az_Valid X markB ∧ az_Valid X takeB ∧ az_Valid X keepB ∧ az_Valid X chgB) (hX : az_X X) {L : Int} (hS : az_scr X L) {Kb : Option (Option Value) → mzS → Prop} {d : Nat} (hd : 40 ≤ d) {i : Int} {h : List mzC} {s2 : Nat × Nat} {lo : mzL} (hi0 : 0 ≤ i) (hiL : i + 5 ≤ L) (hL : L ≤ 2560) (hT : az_Tp h) (hI : lwI h) (hlen : h.length ≤ 100000) (hlo : az_ml lo [.ref 0, .ref 4, .ref 145, .ref 166, iv i]) (hN : lwNx X Kb d i h s2) : mz_gg X Kb d 0 59 lo [] (h, s2) := by
  have s1 := lwS_0_0 hT
  have s2' := (lwS_0_1 hT).1
  have e21 : hv h 141 2 = hv h 8 1 := hI.1.symm
  rw [e21] at s2'
  have tt := lwJ_t hT hI.2
  have vb := l_rd_bd (t := y_t h 9) s1.2.1 s1.2.2
  refine az_goX (c := lmC) (i0 := 59) (ρ := rho [L, i, hv h 8 1, l_rd (y_t h 9) (hv h 8 1)] ((h.length : Int) + 4)) sz_pkall_szP hX (tb := []) (fun _ hc => by cases hc) (q := lsQ) rfl (az_wfb_ok rfl) lmR rfl (by show h.length + 1000 * (40 + 2) < 2147483648; omega) (rho_z _ _) hd ?_ hT ?_ ?_ ?_ ?_
  · refine rho_V (rho_free rfl _) (show rin [(5, 2560), (0, 2555), (0, 80), ((-200), 10)] [L, i, hv h 8 1, l_rd (y_t h 9) (hv h 8 1)] from ⟨⟨by omega, by omega⟩, ⟨by omega, by omega⟩, s1.2, vb, trivial⟩) rfl (by omega) (by show 4 ≤ 1000000; decide) ⟨?_, trivial⟩
    show (0 : Int) ≤ (-5) + (1 * rho [L, i, hv h 8 1, _] _ 0 + ((-1) * rho [L, i, hv h 8 1, _] _ 1 + 0))
    rw [rho_0, rho_1]
    omega
  · exact HF_cons 1 (hv h 8 1) (by decide) (show (1 : Int) + 0 = ((1 : Nat) : Int) by omega) (by decide) (lw_sv (rho_2 _ _ _ _ _)) s1.1 (HF_cons 2 (hv h 8 1) (by decide) (show (2 : Int) + 0 = ((2 : Nat) : Int) by omega) (by decide) (lw_sv (rho_2 _ _ _ _ _)) s2' (HF_nil _ _))
  · have e := lw_loc (rho [L, i, hv h 8 1, l_rd (y_t h 9) (hv h 8 1)] ((h.length : Int) + 4)) 1
    rw [rho_1] at e
    show az_ml lo (([(1, 0, []), (1, 4, []), (1, 145, []), (1, 166, []), (0, 0, [(1, 1)])] : szLo).map (sz_v (rho [L, i, hv h 8 1, l_rd (y_t h 9) (hv h 8 1)] ((h.length : Int) + 4))))
    rw [e]
    exact hlo
  · intro D R Cs C ρ1 f hr hV1 hW1 hag hn hf
    have h2 := (hag.1 2 (by show 2 < 4; decide)).trans (rho_2 _ _ _ _ _)
    have h3 := (hag.1 3 (by show 3 < 4; decide)).trans (rho_3 _ _ _ _ _ _)
    unfold lmD at hr
    rw [Bool.or_eq_true] at hr
    rcases hr with hr | hr
    · refine az_knr_ok sz_pkall_szP (by show h.length + 1000 * (40 + 2) < 2147483648; omega) hV1 hW1 ?_ hr hf
      intro ρ3 hh args s4 d4 hl hbd hM hV3 hLR H hlen3 hd4
      have b0 : ρ3 0 = (0 : Int) + (1 * ρ1 2 + 0) := hbd 0 _ rfl
      have b1 : ρ3 1 = (0 : Int) + (1 * ρ1 3 + 0) := hbd 1 _ rfl
      refine cpB_hc hX hB.1 hB.2.1 hB.2.2.1 ?_ hl hV3 hLR H hlen3 hd4
      rw [y_t_eq hM (by decide) lwM_9, show ρ3 0 = hv h 8 1 by omega, b1, h3]
      omega
    · refine az_knr_ok sz_pkall_szP (by show h.length + 1000 * (40 + 2) < 2147483648; omega) hV1 hW1 ?_ hr hf
      intro ρ3 hh args s4 d4 hl hbd hM hV3 hLR H hlen3 hd4
      have b0 : ρ3 0 = (0 : Int) + (1 * ρ1 2 + 0) := hbd 0 _ rfl
      have b1 : ρ3 1 = (0 : Int) + (1 * ρ1 3 + 0) := hbd 1 _ rfl
      refine nlB_hc hX hB.2.2.2 ?_ hl hV3 hLR H hlen3 hd4
      rw [y_t_eq hM (by decide) lwM_143, tt, show ρ3 0 = hv h 8 1 by omega, b1, h3]
      omega
  · intro D R Cs C ρ2 hl2 hV2 hW2 hag hn3
    have a1 : ρ2 1 = i := (hag.1 1 (by show 1 < 4; decide)).trans (rho_1 _ _ _ _)
    have hdd : (40 : Nat) + (d - 40) = d := by omega
    refine az_yl_ok hV2 hl2 ?_ (fun F o h' s3 hk => by cases hk)
    intro F ii lo' mm h' s3 hk hLR hT' hM' hF' hl' c1 c2
    unfold lmH at hk
    rw [Bool.and_eq_true, Bool.and_eq_true] at hk
    obtain ⟨hi, hlo2, hk⟩ := hk
    have hi := Nat.eq_of_beq_eq_true hi
    subst hi
    have hl5 : az_ml mm [.ref 0, .ref 4, .ref 145, .ref 166, iv (i + 5)] := by
      have e := y_lo_ok hV2 hlo2 hLR
      rw [List.map_cons, List.map_cons, List.map_cons, List.map_cons, List.map_cons, List.map_nil, sz_v_ref ρ2 (show (0 : Int) < 1000000 by decide), sz_v_ref ρ2 (show (4 : Int) < 1000000 by decide), sz_v_ref ρ2 (show (145 : Int) < 1000000 by decide), sz_v_ref ρ2 (show (166 : Int) < 1000000 by decide), sz_v_iv, show (5 : Int) + sz_sum ρ2 [(1, 1)] = i + 5 by show (5 : Int) + (1 * ρ2 1 + 0) = _; rw [a1]; omega] at e
      exact e
    have g1 := y_fs_ok hV2 hF' hk _ (List.Mem.head _)
    have g2 := y_fs_ok hV2 hF' hk _ (List.Mem.tail _ (List.Mem.head _))
    have g1 : az_slot h' 8 1 = some (iv 0) := (show az_slot h' 8 1 = some (sz_v ρ2 (0, 0, [])) from g1).trans (congrArg some (y_c0 _ _))
    have g2 : az_slot h' 141 2 = some (iv 0) := (show az_slot h' 141 2 = some (sz_v ρ2 (0, 0, [])) from g2).trans (congrArg some (y_c0 _ _))
    show mz_gg X Kb (40 + (d - 40)) 0 13 mm [] (h', s3)
    rw [hdd]
    exact hN (i + 5) h' s3 mm (by omega) (by omega) hT' ⟨by show hv h' 8 1 = hv h' 141 2; rw [hv_val g1 (by decide) (by decide), hv_val g2 (by decide) (by decide)], lwJ_HM hI.2 hM'⟩ (by omega) (by omega) (by omega) hl5
