/-! an ACT: the reference's readAct, all together -/
set_option maxRecDepth 20000 in
theorem naD_ok {X : List (List Value)} (hX : az_X X) {Kb : Option (Option Value) → mzS → Prop} {h : List mzC} (hlen : h.length + 11000 < 2147483648) {s2 : Nat × Nat} {ee : Nat} {sc f : Nat} {D : szD} {R : szR} {Cs : azS} {ρ : Nat → Int} (hV : az_V D R Cs ρ) (hW : az_wf D R Cs) (hfl : fl (y_t h 143) (ρ 0) (ρ 2) (ρ 1 + (bif y_acc sc then 2 else 0)) (bif y_acc sc then 2 else 1) (ρ 3) f (ρ 4) (ρ 5) (ρ 6) (ρ 7)) {C : azQ} {fn : szD → szR → azS → azQ → Bool} (hr : naD sc f D R Cs C fn = true) (hf : ∀ D' R' Cs' C' ρ', fn D' R' Cs' C' = true → az_V D' R' Cs' ρ' → az_wf D' R' Cs' → az_ag R.length ρ ρ' → R.length ≤ R'.length → az_GG X Kb naMd h s2 ee ρ' C') : az_GG X Kb naMd h s2 ee ρ C := by
  have hl9 : h.length + 1000 * (9 + 2) < 2147483648 := by omega
  have tt : ∀ {hh : List mzC}, az_HM naMd h hh → y_t hh 143 = y_t h 143 := fun hM => y_t_eq hM (by decide) rfl
  unfold naD at hr
  rw [Bool.or_eq_true] at hr
  rcases hr with hr | hr
  · cases hz : Nat.beq f 0 with
    | true =>
      rw [hz, cond_true] at hr
      have f0 := Nat.eq_of_beq_eq_true hz
      subst f0
      rcases hfl with ⟨_, o0⟩ | ⟨_, ⟨h1, _⟩ | ⟨h1, _⟩⟩
      · refine az_knr_ok sz_pkall_szP hl9 hV hW ?_ hr hf
        intro ρ3 hh args s4 d4 hl hbd hM hV3 hLR H hlen3 hd4
        have b0 : ρ3 0 = (0 : Int) + (1 * ρ 0 + 0) := hbd 0 _ rfl
        have b1 : ρ3 1 = (bif y_acc sc then 2 else 0) + (1 * ρ 1 + 0) := hbd 1 _ rfl
        have b2 : ρ3 2 = (0 : Int) + (1 * ρ 2 + 0) := hbd 2 _ rfl
        refine moN_hc hX ?_ hl hV3 hLR H hlen3 hd4
        rw [tt hM, show ρ3 0 = ρ 0 by omega, show ρ3 2 = ρ 2 by omega, show ρ3 1 = ρ 1 + (bif y_acc sc then 2 else 0) by omega]
        exact o0
      · cases h1
      · cases h1
    | false =>
      rw [hz, cond_false] at hr
      rcases hfl with ⟨h1, _⟩ | ⟨⟨o1, q1, q2⟩, _⟩
      · subst h1
        cases hz
      · refine az_knr_ok sz_pkall_szP hl9 hV hW ?_ hr hf
        intro ρ3 hh args s4 d4 hl hbd hM hV3 hLR H hlen3 hd4
        have b0 : ρ3 0 = (0 : Int) + (1 * ρ 0 + 0) := hbd 0 _ rfl
        have b1 : ρ3 1 = (bif y_acc sc then 2 else 0) + (1 * ρ 1 + 0) := hbd 1 _ rfl
        have b2 : ρ3 2 = (0 : Int) + (1 * ρ 2 + 0) := hbd 2 _ rfl
        have b3 : ρ3 3 = (0 : Int) + (1 * ρ 3 + 0) := hbd 3 _ rfl
        have b4 : ρ3 4 = (0 : Int) + (1 * ρ 4 + 0) := hbd 4 _ rfl
        have b5 : ρ3 5 = (0 : Int) + (1 * ρ 5 + 0) := hbd 5 _ rfl
        have e0 : ρ3 0 = ρ 0 := by omega
        have e1 : ρ3 1 = ρ 1 + (bif y_acc sc then 2 else 0) := by omega
        have e2 : ρ3 2 = ρ 2 := by omega
        have e3 : ρ3 3 = ρ 3 := by omega
        have e4 : ρ3 4 = ρ 4 := by omega
        have e5 : ρ3 5 = ρ 5 := by omega
        refine moA_hc hX ?_ ?_ ?_ hl hV3 hLR H hlen3 hd4
        · rw [tt hM, e0, e1, e2]
          exact o1
        · rw [tt hM, e0, e1, e4]
          exact q1
        · rw [tt hM, e0, e1, e3, e5]
          exact q2
  · cases hz : Nat.beq f 0 with
    | true =>
      rw [hz, cond_true] at hr
      cases hr
    | false =>
      rw [hz, cond_false] at hr
      rcases hfl with ⟨h1, _⟩ | ⟨⟨o1, q1, q2⟩, ⟨f1, o2⟩ | ⟨f2, o2, q3, q4⟩⟩
      · subst h1
        cases hz
      · subst f1
        refine az_knr_ok sz_pkall_szP hl9 hV hW ?_ (show az_knr szP 9 naMd 9 95 (bif y_acc sc then 81 else 132) moN [(0, 0, [(0, 1)]), (0, (bif y_acc sc then 2 else 1), [(4, 1)]), (0, 0, [(2, 1)]), (0, 0, [(5, 1)])] D R Cs C fn = true from hr) hf
        intro ρ3 hh args s4 d4 hl hbd hM hV3 hLR H hlen3 hd4
        have b0 : ρ3 0 = (0 : Int) + (1 * ρ 0 + 0) := hbd 0 _ rfl
        have b1 : ρ3 1 = (bif y_acc sc then 2 else 1) + (1 * ρ 4 + 0) := hbd 1 _ rfl
        have b2 : ρ3 2 = (0 : Int) + (1 * ρ 2 + 0) := hbd 2 _ rfl
        refine moN_hc hX ?_ hl hV3 hLR H hlen3 hd4
        rw [tt hM, show ρ3 0 = ρ 0 by omega, show ρ3 2 = ρ 2 by omega, show ρ3 1 = ρ 4 + (bif y_acc sc then 2 else 1) by omega]
        exact o2
      · subst f2
        refine az_knr_ok sz_pkall_szP hl9 hV hW ?_ (show az_knr szP 9 naMd 9 95 (bif y_acc sc then 81 else 132) moA [(0, 0, [(0, 1)]), (0, (bif y_acc sc then 2 else 1), [(4, 1)]), (0, 0, [(2, 1)]), (0, 0, [(5, 1)]), (0, 0, [(6, 1)]), (0, 0, [(7, 1)])] D R Cs C fn = true from hr) hf
        intro ρ3 hh args s4 d4 hl hbd hM hV3 hLR H hlen3 hd4
        have b0 : ρ3 0 = (0 : Int) + (1 * ρ 0 + 0) := hbd 0 _ rfl
        have b1 : ρ3 1 = (bif y_acc sc then 2 else 1) + (1 * ρ 4 + 0) := hbd 1 _ rfl
        have b2 : ρ3 2 = (0 : Int) + (1 * ρ 2 + 0) := hbd 2 _ rfl
        have b3 : ρ3 3 = (0 : Int) + (1 * ρ 5 + 0) := hbd 3 _ rfl
        have b4 : ρ3 4 = (0 : Int) + (1 * ρ 6 + 0) := hbd 4 _ rfl
        have b5 : ρ3 5 = (0 : Int) + (1 * ρ 7 + 0) := hbd 5 _ rfl
        have e0 : ρ3 0 = ρ 0 := by omega
        have e1 : ρ3 1 = ρ 4 + (bif y_acc sc then 2 else 1) := by omega
        have e2 : ρ3 2 = ρ 2 := by omega
        have e3 : ρ3 3 = ρ 5 := by omega
        have e4 : ρ3 4 = ρ 6 := by omega
        have e5 : ρ3 5 = ρ 7 := by omega
        refine moA_hc hX ?_ ?_ ?_ hl hV3 hLR H hlen3 hd4
        · rw [tt hM, e0, e1, e2]
          exact o2
        · rw [tt hM, e0, e1, e4]
          exact q3
        · rw [tt hM, e0, e1, e3, e5]
          exact q4
theorem naS_ok {D : szD} {R : szR} {Cs : azS} {ρ : Nat → Int} (hV : az_V D R Cs ρ) {h : List mzC} {F : azF} (hF : az_HF ρ h false F) {sc f : Nat} (hacc : y_tb (y_t h 143) (ρ 0) (ρ 1) 65 66 = y_acc sc) (hfl : fl (y_t h 143) (ρ 0) (ρ 2) (ρ 1 + (bif y_acc sc then 2 else 0)) (bif y_acc sc then 2 else 1) (ρ 3) f (ρ 4) (ρ 5) (ρ 6) (ρ 7)) {kok : Int × szT → Int × szT → Bool} {kf : Int × szT → Bool} (e : naS sc f R Cs F kok kf = true) : (∃ p' g', kok p' g' = true ∧ a_act (y_t h 143) (ρ 0) (ρ 2) (ρ 1) (ρ 3) = (true, y_n ρ p', y_n ρ g')) ∨ (∃ z, kf z = true ∧ (a_act (y_t h 143) (ρ 0) (ρ 2) (ρ 1) (ρ 3)).1 = false ∧ (a_act (y_t h 143) (ρ 0) (ρ 2) (ρ 1) (ρ 3)).2.1 = y_n ρ z) := by
  unfold naS at e
  unfold a_act
  rw [hacc]
  cases ha : y_acc sc with
  | true =>
    rw [ha, cond_true] at e
    rw [ha, cond_true, cond_true] at hfl
    rw [cond_true]
    have := yAc_ok hV hF (by decide) (k := ρ 2) (g := ρ 3) (by rw [y_a, y_a, y_a, y_a, y_a]; exact hfl) e
    rw [y_a] at this
    exact this
  | false =>
    rw [ha, cond_false] at e
    rw [ha, cond_false, cond_false] at hfl
    rw [cond_false]
    have := yAs_ok hV hF (by decide) (k := ρ 2) (g := ρ 3) (g1 := (0, [(5, 1)])) (by rw [y_a, y_a, y_a, y_a, y_a]; rw [Int.add_zero] at hfl; exact hfl) e
    rw [y_a] at this
    exact this
theorem naR (sc f kk : Nat) (hsc : sc ≤ 4) (hf : f ≤ 2) (h3 : 3 ≤ sc → f = 0) (hk : kk ≤ 9) : yRun naI (naC sc kk) [] naQ 0 8000 2 (az_yl 95 9 (fun _ _ _ _ _ _ => false) (naE sc f)) (naD sc f) = true := by
  match sc, f, hsc, hf, h3, kk, hk with
  | 0, 0, _, _, _, 0, _ => exact naR_0_0_0
  | 0, 0, _, _, _, 1, _ => exact naR_0_0_1
  | 0, 0, _, _, _, 2, _ => exact naR_0_0_2
  | 0, 0, _, _, _, 3, _ => exact naR_0_0_3
  | 0, 0, _, _, _, 4, _ => exact naR_0_0_4
  | 0, 0, _, _, _, 5, _ => exact naR_0_0_5
  | 0, 0, _, _, _, 6, _ => exact naR_0_0_6
  | 0, 0, _, _, _, 7, _ => exact naR_0_0_7
  | 0, 0, _, _, _, 8, _ => exact naR_0_0_8
  | 0, 0, _, _, _, 9, _ => exact naR_0_0_9
  | 0, 1, _, _, _, 0, _ => exact naR_0_1_0
  | 0, 1, _, _, _, 1, _ => exact naR_0_1_1
  | 0, 1, _, _, _, 2, _ => exact naR_0_1_2
  | 0, 1, _, _, _, 3, _ => exact naR_0_1_3
  | 0, 1, _, _, _, 4, _ => exact naR_0_1_4
  | 0, 1, _, _, _, 5, _ => exact naR_0_1_5
  | 0, 1, _, _, _, 6, _ => exact naR_0_1_6
  | 0, 1, _, _, _, 7, _ => exact naR_0_1_7
  | 0, 1, _, _, _, 8, _ => exact naR_0_1_8
  | 0, 1, _, _, _, 9, _ => exact naR_0_1_9
  | 0, 2, _, _, _, 0, _ => exact naR_0_2_0
  | 0, 2, _, _, _, 1, _ => exact naR_0_2_1
  | 0, 2, _, _, _, 2, _ => exact naR_0_2_2
  | 0, 2, _, _, _, 3, _ => exact naR_0_2_3
  | 0, 2, _, _, _, 4, _ => exact naR_0_2_4
  | 0, 2, _, _, _, 5, _ => exact naR_0_2_5
  | 0, 2, _, _, _, 6, _ => exact naR_0_2_6
  | 0, 2, _, _, _, 7, _ => exact naR_0_2_7
  | 0, 2, _, _, _, 8, _ => exact naR_0_2_8
  | 0, 2, _, _, _, 9, _ => exact naR_0_2_9
  | 1, 0, _, _, _, 0, _ => exact naR_1_0_0
  | 1, 0, _, _, _, 1, _ => exact naR_1_0_1
  | 1, 0, _, _, _, 2, _ => exact naR_1_0_2
  | 1, 0, _, _, _, 3, _ => exact naR_1_0_3
  | 1, 0, _, _, _, 4, _ => exact naR_1_0_4
  | 1, 0, _, _, _, 5, _ => exact naR_1_0_5
  | 1, 0, _, _, _, 6, _ => exact naR_1_0_6
  | 1, 0, _, _, _, 7, _ => exact naR_1_0_7
  | 1, 0, _, _, _, 8, _ => exact naR_1_0_8
  | 1, 0, _, _, _, 9, _ => exact naR_1_0_9
  | 1, 1, _, _, _, 0, _ => exact naR_1_1_0
  | 1, 1, _, _, _, 1, _ => exact naR_1_1_1
  | 1, 1, _, _, _, 2, _ => exact naR_1_1_2
  | 1, 1, _, _, _, 3, _ => exact naR_1_1_3
  | 1, 1, _, _, _, 4, _ => exact naR_1_1_4
  | 1, 1, _, _, _, 5, _ => exact naR_1_1_5
  | 1, 1, _, _, _, 6, _ => exact naR_1_1_6
  | 1, 1, _, _, _, 7, _ => exact naR_1_1_7
  | 1, 1, _, _, _, 8, _ => exact naR_1_1_8
  | 1, 1, _, _, _, 9, _ => exact naR_1_1_9
  | 1, 2, _, _, _, 0, _ => exact naR_1_2_0
  | 1, 2, _, _, _, 1, _ => exact naR_1_2_1
  | 1, 2, _, _, _, 2, _ => exact naR_1_2_2
  | 1, 2, _, _, _, 3, _ => exact naR_1_2_3
  | 1, 2, _, _, _, 4, _ => exact naR_1_2_4
  | 1, 2, _, _, _, 5, _ => exact naR_1_2_5
  | 1, 2, _, _, _, 6, _ => exact naR_1_2_6
  | 1, 2, _, _, _, 7, _ => exact naR_1_2_7
  | 1, 2, _, _, _, 8, _ => exact naR_1_2_8
  | 1, 2, _, _, _, 9, _ => exact naR_1_2_9
  | 2, 0, _, _, _, 0, _ => exact naR_2_0_0
  | 2, 0, _, _, _, 1, _ => exact naR_2_0_1
  | 2, 0, _, _, _, 2, _ => exact naR_2_0_2
  | 2, 0, _, _, _, 3, _ => exact naR_2_0_3
  | 2, 0, _, _, _, 4, _ => exact naR_2_0_4
  | 2, 0, _, _, _, 5, _ => exact naR_2_0_5
  | 2, 0, _, _, _, 6, _ => exact naR_2_0_6
  | 2, 0, _, _, _, 7, _ => exact naR_2_0_7
  | 2, 0, _, _, _, 8, _ => exact naR_2_0_8
  | 2, 0, _, _, _, 9, _ => exact naR_2_0_9
  | 2, 1, _, _, _, 0, _ => exact naR_2_1_0
  | 2, 1, _, _, _, 1, _ => exact naR_2_1_1
  | 2, 1, _, _, _, 2, _ => exact naR_2_1_2
  | 2, 1, _, _, _, 3, _ => exact naR_2_1_3
  | 2, 1, _, _, _, 4, _ => exact naR_2_1_4
  | 2, 1, _, _, _, 5, _ => exact naR_2_1_5
  | 2, 1, _, _, _, 6, _ => exact naR_2_1_6
  | 2, 1, _, _, _, 7, _ => exact naR_2_1_7
  | 2, 1, _, _, _, 8, _ => exact naR_2_1_8
  | 2, 1, _, _, _, 9, _ => exact naR_2_1_9
  | 2, 2, _, _, _, 0, _ => exact naR_2_2_0
  | 2, 2, _, _, _, 1, _ => exact naR_2_2_1
  | 2, 2, _, _, _, 2, _ => exact naR_2_2_2
  | 2, 2, _, _, _, 3, _ => exact naR_2_2_3
  | 2, 2, _, _, _, 4, _ => exact naR_2_2_4
  | 2, 2, _, _, _, 5, _ => exact naR_2_2_5
  | 2, 2, _, _, _, 6, _ => exact naR_2_2_6
  | 2, 2, _, _, _, 7, _ => exact naR_2_2_7
  | 2, 2, _, _, _, 8, _ => exact naR_2_2_8
  | 2, 2, _, _, _, 9, _ => exact naR_2_2_9
  | 3, 0, _, _, _, 0, _ => exact naR_3_0_0
  | 3, 0, _, _, _, 1, _ => exact naR_3_0_1
  | 3, 0, _, _, _, 2, _ => exact naR_3_0_2
  | 3, 0, _, _, _, 3, _ => exact naR_3_0_3
  | 3, 0, _, _, _, 4, _ => exact naR_3_0_4
  | 3, 0, _, _, _, 5, _ => exact naR_3_0_5
  | 3, 0, _, _, _, 6, _ => exact naR_3_0_6
  | 3, 0, _, _, _, 7, _ => exact naR_3_0_7
  | 3, 0, _, _, _, 8, _ => exact naR_3_0_8
  | 3, 0, _, _, _, 9, _ => exact naR_3_0_9
  | 4, 0, _, _, _, 0, _ => exact naR_4_0_0
  | 4, 0, _, _, _, 1, _ => exact naR_4_0_1
  | 4, 0, _, _, _, 2, _ => exact naR_4_0_2
  | 4, 0, _, _, _, 3, _ => exact naR_4_0_3
  | 4, 0, _, _, _, 4, _ => exact naR_4_0_4
  | 4, 0, _, _, _, 5, _ => exact naR_4_0_5
  | 4, 0, _, _, _, 6, _ => exact naR_4_0_6
  | 4, 0, _, _, _, 7, _ => exact naR_4_0_7
  | 4, 0, _, _, _, 8, _ => exact naR_4_0_8
  | 4, 0, _, _, _, 9, _ => exact naR_4_0_9
  | _, _, _, _, _, kk + 10, h => omega
  | 3, f + 1, _, _, h3, _, _ => exact absurd (h3 (by decide)) (by omega)
  | 4, f + 1, _, _, h3, _, _ => exact absurd (h3 (by decide)) (by omega)
  | sc + 5, _, h, _, _, _, _ => omega
  | _, f + 3, _, h, _, _, _ => omega
theorem naRg (sc kk : Nat) (hk : kk ≤ 9) : (coRk kk ++ [(0, 90), ((-1), 9), (0, 90), ((-1), 9), naSR sc]).all (fun p => decide (-2147483648 ≤ p.1) && decide (p.2 ≤ 2147483647)) = true := by
  unfold naSR
  match kk, hk with
  | 0, _ => cases Nat.beq sc 0 <;> cases Nat.beq sc 1 <;> cases Nat.beq sc 2 <;> cases Nat.beq sc 3 <;> rfl
  | 1, _ => cases Nat.beq sc 0 <;> cases Nat.beq sc 1 <;> cases Nat.beq sc 2 <;> cases Nat.beq sc 3 <;> rfl
  | 2, _ => cases Nat.beq sc 0 <;> cases Nat.beq sc 1 <;> cases Nat.beq sc 2 <;> cases Nat.beq sc 3 <;> rfl
  | 3, _ => cases Nat.beq sc 0 <;> cases Nat.beq sc 1 <;> cases Nat.beq sc 2 <;> cases Nat.beq sc 3 <;> rfl
  | 4, _ => cases Nat.beq sc 0 <;> cases Nat.beq sc 1 <;> cases Nat.beq sc 2 <;> cases Nat.beq sc 3 <;> rfl
  | 5, _ => cases Nat.beq sc 0 <;> cases Nat.beq sc 1 <;> cases Nat.beq sc 2 <;> cases Nat.beq sc 3 <;> rfl
  | 6, _ => cases Nat.beq sc 0 <;> cases Nat.beq sc 1 <;> cases Nat.beq sc 2 <;> cases Nat.beq sc 3 <;> rfl
  | 7, _ => cases Nat.beq sc 0 <;> cases Nat.beq sc 1 <;> cases Nat.beq sc 2 <;> cases Nat.beq sc 3 <;> rfl
  | 8, _ => cases Nat.beq sc 0 <;> cases Nat.beq sc 1 <;> cases Nat.beq sc 2 <;> cases Nat.beq sc 3 <;> rfl
  | 9, _ => cases Nat.beq sc 0 <;> cases Nat.beq sc 1 <;> cases Nat.beq sc 2 <;> cases Nat.beq sc 3 <;> rfl
  | kk + 10, h => omega
/-- its outcome: wrong, at, highest -/
def naP (a : Bool × Int × Int) (w p' g' : Int) : Prop := (a.1 = true ∧ w = -1 ∧ p' = a.2.1 ∧ g' = a.2.2) ∨ (a.1 = false ∧ w = a.2.1)
def naK (h0 : List mzC) (s0 : Nat × Nat) (k : Int) (o : Option (Option Value)) (s' : mzS) : Prop := o = some none ∧ naP (a_act (y_t h0 143) (hv h0 141 6) k (hv h0 141 7) (hv h0 141 10)) (hv s'.1 141 8) (hv s'.1 141 7) (hv s'.1 141 10) ∧ az_Tp s'.1 ∧ az_HM naMd h0 s'.1 ∧ s'.1.length = h0.length ∧ s'.2.1 ≤ s0.1 ∧ s'.2.2 ≤ s0.2
theorem tx_typ {h : List mzC} (hT : az_HT h) {k : Nat} (hk : k < 80) : az_slot h 143 k = some (iv (hv h 143 k)) ∧ -128 ≤ hv h 143 k ∧ hv h 143 k ≤ 127 := hv_arr hT (c := 143) (t := 5) (n := 80) (g := 32) (by decide +kernel) (by decide +kernel) hk
set_option maxRecDepth 20000 in
theorem na_all {X : List (List Value)} (hX : az_X X) {h : List mzC} {s2 : Nat × Nat} (hlen : h.length + 11000 < 2147483648) {d : Nat} (hd : 9 ≤ d) (hT : az_Tp h) (hw : az_slot h 141 8 = some (iv (-1))) {k : Int} (hk : 0 ≤ k ∧ k ≤ 9) {lo : mzL} (hlo : az_ml lo [.ref 145, iv k]) : mz_gg X (naK h s2 k) d 95 0 lo [] (h, s2) := by
  obtain ⟨_, t1, t2, _, t3⟩ := mr_typ hT.1
  -- the sign
  obtain ⟨sc, x, hsc, hx, hac, h3, hxs, h128⟩ : ∃ (sc : Nat) (x : Int), sc ≤ 4 ∧ ((naSR sc).1 ≤ x ∧ x ≤ (naSR sc).2) ∧ y_tb (y_t h 143) (hv h 141 6) (hv h 141 7) 65 66 = y_acc sc ∧ (sc = 4 → hv h 141 6 ≤ hv h 141 7) ∧ (sc ≠ 4 → hv h 141 7 < hv h 141 6 ∧ az_slot h 143 (hv h 141 7).toNat = some (iv x)) ∧ (sc = 3 → 128 ≤ y_t h 143 (hv h 141 7)) := by
    rcases Int.lt_or_le (hv h 141 7) (hv h 141 6) with hp | hp
    · have e := tx_typ hT.1 (k := (hv h 141 7).toNat) (by omega)
      have et : y_t h 143 (hv h 141 7) = hv h 143 (hv h 141 7).toNat % 256 := rfl
      have tb : ∀ b : Bool, (b = true ↔ 65 ≤ hv h 143 (hv h 141 7).toNat % 256 ∧ hv h 143 (hv h 141 7).toNat % 256 ≤ 66) → y_tb (y_t h 143) (hv h 141 6) (hv h 141 7) 65 66 = b := by
        intro b hb
        unfold y_tb
        rw [et, decide_eq_true hp, Bool.true_and]
        cases b with
        | true =>
          have := hb.mp rfl
          rw [decide_eq_true this.1, decide_eq_true this.2]
          rfl
        | false =>
          have : ¬ (65 ≤ hv h 143 (hv h 141 7).toNat % 256 ∧ hv h 143 (hv h 141 7).toNat % 256 ≤ 66) := fun q => by cases hb.mpr q
          by_cases q : 65 ≤ hv h 143 (hv h 141 7).toNat % 256
          · rw [decide_eq_false (show ¬ hv h 143 (hv h 141 7).toNat % 256 ≤ 66 from fun q2 => this ⟨q, q2⟩), Bool.and_false]
          · rw [decide_eq_false q, Bool.false_and]
      by_cases h0 : hv h 143 (hv h 141 7).toNat ≤ -1
      · exact ⟨3, _, by decide, ⟨e.2.1, h0⟩, tb false ⟨fun q => (by cases q), fun q => by omega⟩, fun q => (by cases q), fun _ => ⟨hp, e.1⟩, fun _ => by rw [et]; omega⟩
      · by_cases h1 : hv h 143 (hv h 141 7).toNat ≤ 64
        · exact ⟨1, _, by decide, ⟨by show 0 ≤ hv h 143 (hv h 141 7).toNat; omega, h1⟩, tb false ⟨fun q => (by cases q), fun q => by omega⟩, fun q => (by cases q), fun _ => ⟨hp, e.1⟩, fun q => (by cases q)⟩
        · by_cases h2 : hv h 143 (hv h 141 7).toNat ≤ 66
          · exact ⟨0, _, by decide, ⟨by show 65 ≤ hv h 143 (hv h 141 7).toNat; omega, h2⟩, tb true ⟨fun _ => ⟨by omega, by omega⟩, fun _ => rfl⟩, fun q => (by cases q), fun _ => ⟨hp, e.1⟩, fun q => (by cases q)⟩
          · exact ⟨2, _, by decide, ⟨by show 67 ≤ hv h 143 (hv h 141 7).toNat; omega, e.2.2⟩, tb false ⟨fun q => (by cases q), fun q => by omega⟩, fun q => (by cases q), fun _ => ⟨hp, e.1⟩, fun q => (by cases q)⟩
    · refine ⟨4, 0, by decide, ⟨Int.le_refl _, Int.le_refl _⟩, ?_, fun _ => hp, fun q => absurd rfl q, fun q => (by cases q)⟩
      unfold y_tb
      rw [decide_eq_false (by omega)]
      rfl
  obtain ⟨f, e1, g1, e2, g2, hfl, hf2, r1, r2, r3, r4, hf0⟩ := fl_ex (t := y_t h 143) (L := hv h 141 6) (k := k) (q := hv h 141 7 + (bif y_acc sc then 2 else 0)) (off := (bif y_acc sc then 2 else 1)) (g := hv h 141 10) t1.2.2 (by cases y_acc sc <;> simp only [cond_true, cond_false] <;> omega) (by cases y_acc sc <;> simp) t3.2
  have h3f : 3 ≤ sc → f = 0 := by
    intro h33
    rcases Nat.eq_zero_or_pos f with hz | hz
    · exact hz
    · have hq := hf0 (by omega)
      have hq2 := o_e_bd hq
      rcases Nat.lt_or_ge sc 4 with h4 | h4
      · have e3 : sc = 3 := by omega
        have := h128 e3
        subst e3
        have e : (bif y_acc 3 then (2 : Int) else 0) = 0 := rfl
        rw [e, Int.add_zero] at hq
        unfold o_ok o_dn y_tb at hq
        rw [decide_eq_false (show ¬ y_t h 143 (hv h 141 7) ≤ 57 by omega), decide_eq_false (show ¬ y_t h 143 (hv h 141 7) ≤ 110 by omega), decide_eq_false (show ¬ y_t h 143 (hv h 141 7) ≤ 106 by omega)] at hq
        simp only [Bool.and_false, Bool.or_false, Bool.false_and] at hq
        cases hq
      · have e4 : sc = 4 := by omega
        have := h3 e4
        subst e4
        have e : (bif y_acc 4 then (2 : Int) else 0) = 0 := rfl
        rw [e] at hq2
        omega
  obtain ⟨kk, hkk⟩ : ∃ kk : Nat, k = (kk : Int) := ⟨k.toNat, by omega⟩
  refine az_goX (c := naC sc kk) (i0 := 0) (ρ := rho [hv h 141 6, hv h 141 7, k, hv h 141 10, e1, g1, e2, g2, x] ((h.length : Int) + 4)) sz_pkall_szP hX (tb := []) (fun _ hc => by cases hc) (q := naQ) rfl (az_wfb_ok (by unfold naC naSC; cases Nat.beq sc 4 <;> rfl)) (naR sc f kk hsc hf2 h3f (by omega)) rfl (by show h.length + 1000 * (9 + 2) < 2147483648; omega) (rho_z _ _) hd ?_ hT ?_ ?_ ?_ ?_
  · refine rho_V (rho_free rfl _) (show rin (coRk kk ++ [(0, 90), ((-1), 9), (0, 90), ((-1), 9), naSR sc]) [hv h 141 6, hv h 141 7, k, hv h 141 10, e1, g1, e2, g2, x] from ⟨t1.2, t2.2, ⟨by show (kk : Int) ≤ k; omega, by show k ≤ (kk : Int); omega⟩, t3.2, r1, r2, r3, r4, hx, trivial⟩) (naRg sc kk (by omega)) (by omega) (by show 9 ≤ 1000000; decide) ?_
    show rsin _ (naSC sc)
    unfold naSC
    cases h33 : Nat.beq sc 4 with
    | true =>
      have := h3 (Nat.eq_of_beq_eq_true h33)
      rw [cond_true]
      refine ⟨?_, trivial⟩
      show (0 : Int) ≤ 0 + ((-1) * rho [hv h 141 6, hv h 141 7, k, hv h 141 10, e1, g1, e2, g2, x] _ 0 + (1 * rho [hv h 141 6, hv h 141 7, k, hv h 141 10, e1, g1, e2, g2, x] _ 1 + 0))
      rw [rho_0, rho_1]
      omega
    | false =>
      have := (hxs (fun q => by rw [q] at h33; cases h33)).1
      rw [cond_false]
      refine ⟨?_, trivial⟩
      show (0 : Int) ≤ (-1) + (1 * rho [hv h 141 6, hv h 141 7, k, hv h 141 10, e1, g1, e2, g2, x] _ 0 + ((-1) * rho [hv h 141 6, hv h 141 7, k, hv h 141 10, e1, g1, e2, g2, x] _ 1 + 0))
      rw [rho_0, rho_1]
      omega
  · show az_HF _ h false (moF ++ naSF sc)
    have hS : az_HF (rho [hv h 141 6, hv h 141 7, k, hv h 141 10, e1, g1, e2, g2, x] ((h.length : Int) + 4)) h false (naSF sc) := by
      unfold naSF
      cases h33 : Nat.beq sc 4 with
      | true =>
        rw [cond_true]
        exact HF_nil _ _
      | false =>
        have := hxs (fun q => by rw [q] at h33; cases h33)
        rw [cond_false]
        refine HF_cons (hv h 141 7).toNat x (by decide) ?_ (by omega) (lw_sv (rho_8 _ _ _ _ _ _ _ _ _ _ _)) this.2 (HF_nil _ _)
        show (0 : Int) + (1 * rho [hv h 141 6, hv h 141 7, k, hv h 141 10, e1, g1, e2, g2, x] _ 1 + 0) = _
        rw [rho_1]
        omega
    exact HF_cons 6 (hv h 141 6) (by decide) (show (6 : Int) + 0 = ((6 : Nat) : Int) by omega) (by decide) (lw_sv (rho_0 _ _ _)) t1.1 (HF_cons 7 (hv h 141 7) (by decide) (show (7 : Int) + 0 = ((7 : Nat) : Int) by omega) (by decide) (lw_sv (rho_1 _ _ _ _)) t2.1 (HF_cons 8 (-1) (by decide) (show (8 : Int) + 0 = ((8 : Nat) : Int) by omega) (by decide) (y_c0 _ _) hw (HF_cons 10 (hv h 141 10) (by decide) (show (10 : Int) + 0 = ((10 : Nat) : Int) by omega) (by decide) (lw_sv (rho_3 _ _ _ _ _ _)) t3.1 hS)))
  · exact ml_one (r := 145) (by decide) hlo (show (0 : Int) + (1 * rho [hv h 141 6, hv h 141 7, k, hv h 141 10, e1, g1, e2, g2, x] _ 2 + 0) = k by rw [rho_2]; omega)
  · intro D R Cs C ρ1 fn hr hV1 hW1 hag hn hf
    refine naD_ok hX hlen hV1 hW1 ?_ hr hf
    rw [(hag.1 0 (by show 0 < 9; decide)).trans (rho_0 _ _ _), (hag.1 1 (by show 1 < 9; decide)).trans (rho_1 _ _ _ _), (hag.1 2 (by show 2 < 9; decide)).trans (rho_2 _ _ _ _ _), (hag.1 3 (by show 3 < 9; decide)).trans (rho_3 _ _ _ _ _ _), (hag.1 4 (by show 4 < 9; decide)).trans (rho_4 _ _ _ _ _ _ _), (hag.1 5 (by show 5 < 9; decide)).trans (rho_5 _ _ _ _ _ _ _ _), (hag.1 6 (by show 6 < 9; decide)).trans (rho_6 _ _ _ _ _ _ _ _ _), (hag.1 7 (by show 7 < 9; decide)).trans (rho_7 _ _ _ _ _ _ _ _ _ _)]
    exact hfl
  · intro D R Cs C ρ2 hl2 hV2 hW2 hag hn2
    have a0 := (hag.1 0 (by show 0 < 9; decide)).trans (rho_0 _ _ _)
    have a1 := (hag.1 1 (by show 1 < 9; decide)).trans (rho_1 _ _ _ _)
    have a2 := (hag.1 2 (by show 2 < 9; decide)).trans (rho_2 _ _ _ _ _)
    have a3 := (hag.1 3 (by show 3 < 9; decide)).trans (rho_3 _ _ _ _ _ _)
    have a4 := (hag.1 4 (by show 4 < 9; decide)).trans (rho_4 _ _ _ _ _ _ _)
    have a5 := (hag.1 5 (by show 5 < 9; decide)).trans (rho_5 _ _ _ _ _ _ _ _)
    have a6 := (hag.1 6 (by show 6 < 9; decide)).trans (rho_6 _ _ _ _ _ _ _ _ _)
    have a7 := (hag.1 7 (by show 7 < 9; decide)).trans (rho_7 _ _ _ _ _ _ _ _ _ _)
    refine az_yl_ok hV2 hl2 (fun F i lo' m h' s3 hk => by cases hk) ?_
    intro F o h' s3 hk hT' hM' hF' hl' c1 c2
    have tt : y_t h' 143 = y_t h 143 := y_t_eq hM' (by decide) rfl
    unfold naE at hk
    split at hk
    · cases hk
    · obtain ⟨w, _, e, ew, _⟩ := y_2_ok hV2 hF' (by decide) (by decide) (by decide) (by decide) hk
      refine ⟨rfl, ?_, hT', hM', hl', c1, c2⟩
      have q := naS_ok hV2 hF' (by rw [tt, a0, a1]; exact hac) (by rw [tt, a0, a1, a2, a3, a4, a5, a6, a7]; exact hfl) e
      rw [tt, a0, a1, a2, a3] at q
      show naP (a_act (y_t h 143) (hv h 141 6) k (hv h 141 7) (hv h 141 10)) (hv h' 141 8) (hv h' 141 7) (hv h' 141 10)
      rcases q with ⟨p', g', q1, q2⟩ | ⟨z, q1, q2, q3⟩
      · rw [Bool.and_eq_true] at q1
        have z1 := y_eq_ok hV2 q1.1
        obtain ⟨u, xx, e2, eu, ex⟩ := y_2_ok hV2 hF' (by decide) (by decide) (by decide) (by decide) q1.2
        rw [Bool.and_eq_true] at e2
        have z2 := y_eq_ok hV2 e2.1
        have z3 := y_eq_ok hV2 e2.2
        rw [q2]
        exact Or.inl ⟨rfl, by rw [ew, z1]; rfl, by rw [eu, z2], by rw [ex, z3]⟩
      · have z1 := y_eq_ok hV2 q1
        exact Or.inr ⟨q2, by rw [ew, z1, q3]⟩
