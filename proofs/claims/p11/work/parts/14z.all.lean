/-! all of the checks together: written by program (wip/p1/gen149.py) -/
theorem mz_okR_at {M : mzM} {t : mzT} {a n i : Nat} (h : mz_okR M t a n = true) (h1 : a ≤ i) (h2 : i < a + n) : mz_okAt M t i = true := List.all_eq_true.mp h i (List.mem_range'_1.mpr ⟨h1, h2⟩)
theorem mz_okAt_out {M : mzM} {t : mzT} {i : Nat} (h : M.2.2.2.length ≤ i) : mz_okAt M t i = true := by unfold mz_okAt; rw [List.getElem?_eq_none h]
def mz_okQ (M : mzM) (t : mzT) : Prop := (∀ i, mz_okAt M t i = true) ∧ mz_pc t.2.2.2.1 0 = 0 ∧ (M.1 = 8 ∧ M.2.2.2.length = 682 ∨ mz_okY M t = true)
theorem mz_oka_0 : mz_okQ (8, 0, (0, 0, 0), mzc_0) mzt_0 := by
  refine ⟨fun i => ?_, rfl, Or.inl ⟨rfl, by decide +kernel⟩⟩
  rcases Nat.lt_or_ge i 30 with h0 | h0
  · exact mz_okR_at mz_okr_0_0 (Nat.zero_le i) h0
  rcases Nat.lt_or_ge i 60 with h1 | h1
  · exact mz_okR_at mz_okr_0_1 h0 h1
  rcases Nat.lt_or_ge i 90 with h2 | h2
  · exact mz_okR_at mz_okr_0_2 h1 h2
  rcases Nat.lt_or_ge i 120 with h3 | h3
  · exact mz_okR_at mz_okr_0_3 h2 h3
  rcases Nat.lt_or_ge i 150 with h4 | h4
  · exact mz_okR_at mz_okr_0_4 h3 h4
  rcases Nat.lt_or_ge i 180 with h5 | h5
  · exact mz_okR_at mz_okr_0_5 h4 h5
  rcases Nat.lt_or_ge i 210 with h6 | h6
  · exact mz_okR_at mz_okr_0_6 h5 h6
  rcases Nat.lt_or_ge i 240 with h7 | h7
  · exact mz_okR_at mz_okr_0_7 h6 h7
  rcases Nat.lt_or_ge i 270 with h8 | h8
  · exact mz_okR_at mz_okr_0_8 h7 h8
  rcases Nat.lt_or_ge i 300 with h9 | h9
  · exact mz_okR_at mz_okr_0_9 h8 h9
  rcases Nat.lt_or_ge i 330 with h10 | h10
  · exact mz_okR_at mz_okr_0_10 h9 h10
  rcases Nat.lt_or_ge i 360 with h11 | h11
  · exact mz_okR_at mz_okr_0_11 h10 h11
  rcases Nat.lt_or_ge i 390 with h12 | h12
  · exact mz_okR_at mz_okr_0_12 h11 h12
  rcases Nat.lt_or_ge i 420 with h13 | h13
  · exact mz_okR_at mz_okr_0_13 h12 h13
  rcases Nat.lt_or_ge i 450 with h14 | h14
  · exact mz_okR_at mz_okr_0_14 h13 h14
  rcases Nat.lt_or_ge i 480 with h15 | h15
  · exact mz_okR_at mz_okr_0_15 h14 h15
  rcases Nat.lt_or_ge i 510 with h16 | h16
  · exact mz_okR_at mz_okr_0_16 h15 h16
  rcases Nat.lt_or_ge i 540 with h17 | h17
  · exact mz_okR_at mz_okr_0_17 h16 h17
  rcases Nat.lt_or_ge i 570 with h18 | h18
  · exact mz_okR_at mz_okr_0_18 h17 h18
  rcases Nat.lt_or_ge i 600 with h19 | h19
  · exact mz_okR_at mz_okr_0_19 h18 h19
  rcases Nat.lt_or_ge i 630 with h20 | h20
  · exact mz_okR_at mz_okr_0_20 h19 h20
  rcases Nat.lt_or_ge i 660 with h21 | h21
  · exact mz_okR_at mz_okr_0_21 h20 h21
  rcases Nat.lt_or_ge i 682 with h22 | h22
  · exact mz_okR_at mz_okr_0_22 h21 h22
  exact mz_okAt_out (M := (8, 0, (0, 0, 0), mzc_0)) (Nat.le_trans (show mzc_0.length ≤ 682 by decide +kernel) h22)
theorem mz_oka_1 : mz_okQ (5, 0, (0, 8, 9), mzc_1) mzt_1 := by
  refine ⟨fun i => ?_, rfl, Or.inr mz_oky_1⟩
  rcases Nat.lt_or_ge i 14 with h0 | h0
  · exact mz_okR_at mz_okr_1_0 (Nat.zero_le i) h0
  exact mz_okAt_out (M := (5, 0, (0, 8, 9), mzc_1)) (Nat.le_trans (show mzc_1.length ≤ 14 by decide +kernel) h0)
theorem mz_oka_2 : mz_okQ (5, 0, (0, 8, 9), mzc_2) mzt_2 := by
  refine ⟨fun i => ?_, rfl, Or.inr mz_oky_2⟩
  rcases Nat.lt_or_ge i 14 with h0 | h0
  · exact mz_okR_at mz_okr_2_0 (Nat.zero_le i) h0
  exact mz_okAt_out (M := (5, 0, (0, 8, 9), mzc_2)) (Nat.le_trans (show mzc_2.length ≤ 14 by decide +kernel) h0)
theorem mz_oka_3 : mz_okQ (4, 0, (0, 7, 8), mzc_3) mzt_3 := by
  refine ⟨fun i => ?_, rfl, Or.inr mz_oky_3⟩
  rcases Nat.lt_or_ge i 13 with h0 | h0
  · exact mz_okR_at mz_okr_3_0 (Nat.zero_le i) h0
  exact mz_okAt_out (M := (4, 0, (0, 7, 8), mzc_3)) (Nat.le_trans (show mzc_3.length ≤ 13 by decide +kernel) h0)
theorem mz_oka_4 : mz_okQ (4, 0, (0, 6, 7), mzc_4) mzt_4 := by
  refine ⟨fun i => ?_, rfl, Or.inr mz_oky_4⟩
  rcases Nat.lt_or_ge i 12 with h0 | h0
  · exact mz_okR_at mz_okr_4_0 (Nat.zero_le i) h0
  exact mz_okAt_out (M := (4, 0, (0, 6, 7), mzc_4)) (Nat.le_trans (show mzc_4.length ≤ 12 by decide +kernel) h0)
theorem mz_oka_5 : mz_okQ (1, 11, (0, 0, 0), mzc_5) mzt_5 := by
  refine ⟨fun i => ?_, rfl, Or.inr mz_oky_5⟩
  rcases Nat.lt_or_ge i 60 with h0 | h0
  · exact mz_okR_at mz_okr_5_0 (Nat.zero_le i) h0
  rcases Nat.lt_or_ge i 66 with h1 | h1
  · exact mz_okR_at mz_okr_5_1 h0 h1
  exact mz_okAt_out (M := (1, 11, (0, 0, 0), mzc_5)) (Nat.le_trans (show mzc_5.length ≤ 66 by decide +kernel) h1)
theorem mz_oka_6 : mz_okQ (3, 11, (0, 0, 0), mzc_6) mzt_6 := by
  refine ⟨fun i => ?_, rfl, Or.inr mz_oky_6⟩
  rcases Nat.lt_or_ge i 27 with h0 | h0
  · exact mz_okR_at mz_okr_6_0 (Nat.zero_le i) h0
  exact mz_okAt_out (M := (3, 11, (0, 0, 0), mzc_6)) (Nat.le_trans (show mzc_6.length ≤ 27 by decide +kernel) h0)
theorem mz_oka_7 : mz_okQ (2, 11, (0, 0, 0), mzc_7) mzt_7 := by
  refine ⟨fun i => ?_, rfl, Or.inr mz_oky_7⟩
  rcases Nat.lt_or_ge i 15 with h0 | h0
  · exact mz_okR_at mz_okr_7_0 (Nat.zero_le i) h0
  exact mz_okAt_out (M := (2, 11, (0, 0, 0), mzc_7)) (Nat.le_trans (show mzc_7.length ≤ 15 by decide +kernel) h0)
theorem mz_oka_8 : mz_okQ (2, 11, (0, 0, 0), mzc_8) mzt_8 := by
  refine ⟨fun i => ?_, rfl, Or.inr mz_oky_8⟩
  rcases Nat.lt_or_ge i 28 with h0 | h0
  · exact mz_okR_at mz_okr_8_0 (Nat.zero_le i) h0
  exact mz_okAt_out (M := (2, 11, (0, 0, 0), mzc_8)) (Nat.le_trans (show mzc_8.length ≤ 28 by decide +kernel) h0)
theorem mz_oka_9 : mz_okQ (3, 11, (0, 0, 0), mzc_9) mzt_9 := by
  refine ⟨fun i => ?_, rfl, Or.inr mz_oky_9⟩
  rcases Nat.lt_or_ge i 38 with h0 | h0
  · exact mz_okR_at mz_okr_9_0 (Nat.zero_le i) h0
  exact mz_okAt_out (M := (3, 11, (0, 0, 0), mzc_9)) (Nat.le_trans (show mzc_9.length ≤ 38 by decide +kernel) h0)
theorem mz_oka_10 : mz_okQ (3, 11, (0, 0, 0), mzc_10) mzt_10 := by
  refine ⟨fun i => ?_, rfl, Or.inr mz_oky_10⟩
  rcases Nat.lt_or_ge i 21 with h0 | h0
  · exact mz_okR_at mz_okr_10_0 (Nat.zero_le i) h0
  exact mz_okAt_out (M := (3, 11, (0, 0, 0), mzc_10)) (Nat.le_trans (show mzc_10.length ≤ 21 by decide +kernel) h0)
theorem mz_oka_11 : mz_okQ (3, 11, (0, 0, 0), mzc_11) mzt_11 := by
  refine ⟨fun i => ?_, rfl, Or.inr mz_oky_11⟩
  rcases Nat.lt_or_ge i 40 with h0 | h0
  · exact mz_okR_at mz_okr_11_0 (Nat.zero_le i) h0
  exact mz_okAt_out (M := (3, 11, (0, 0, 0), mzc_11)) (Nat.le_trans (show mzc_11.length ≤ 40 by decide +kernel) h0)
theorem mz_oka_12 : mz_okQ (5, 11, (0, 0, 0), mzc_12) mzt_12 := by
  refine ⟨fun i => ?_, rfl, Or.inr mz_oky_12⟩
  rcases Nat.lt_or_ge i 33 with h0 | h0
  · exact mz_okR_at mz_okr_12_0 (Nat.zero_le i) h0
  exact mz_okAt_out (M := (5, 11, (0, 0, 0), mzc_12)) (Nat.le_trans (show mzc_12.length ≤ 33 by decide +kernel) h0)
theorem mz_oka_13 : mz_okQ (4, 11, (0, 0, 0), mzc_13) mzt_13 := by
  refine ⟨fun i => ?_, rfl, Or.inr mz_oky_13⟩
  rcases Nat.lt_or_ge i 15 with h0 | h0
  · exact mz_okR_at mz_okr_13_0 (Nat.zero_le i) h0
  exact mz_okAt_out (M := (4, 11, (0, 0, 0), mzc_13)) (Nat.le_trans (show mzc_13.length ≤ 15 by decide +kernel) h0)
theorem mz_oka_14 : mz_okQ (5, 11, (0, 0, 0), mzc_14) mzt_14 := by
  refine ⟨fun i => ?_, rfl, Or.inr mz_oky_14⟩
  rcases Nat.lt_or_ge i 16 with h0 | h0
  · exact mz_okR_at mz_okr_14_0 (Nat.zero_le i) h0
  exact mz_okAt_out (M := (5, 11, (0, 0, 0), mzc_14)) (Nat.le_trans (show mzc_14.length ≤ 16 by decide +kernel) h0)
theorem mz_oka_15 : mz_okQ (2, 11, (0, 0, 0), mzc_15) mzt_15 := by
  refine ⟨fun i => ?_, rfl, Or.inr mz_oky_15⟩
  rcases Nat.lt_or_ge i 23 with h0 | h0
  · exact mz_okR_at mz_okr_15_0 (Nat.zero_le i) h0
  exact mz_okAt_out (M := (2, 11, (0, 0, 0), mzc_15)) (Nat.le_trans (show mzc_15.length ≤ 23 by decide +kernel) h0)
theorem mz_oka_16 : mz_okQ (4, 11, (0, 0, 0), mzc_16) mzt_16 := by
  refine ⟨fun i => ?_, rfl, Or.inr mz_oky_16⟩
  rcases Nat.lt_or_ge i 44 with h0 | h0
  · exact mz_okR_at mz_okr_16_0 (Nat.zero_le i) h0
  exact mz_okAt_out (M := (4, 11, (0, 0, 0), mzc_16)) (Nat.le_trans (show mzc_16.length ≤ 44 by decide +kernel) h0)
theorem mz_oka_17 : mz_okQ (1, 11, (0, 0, 0), mzc_17) mzt_17 := by
  refine ⟨fun i => ?_, rfl, Or.inr mz_oky_17⟩
  rcases Nat.lt_or_ge i 15 with h0 | h0
  · exact mz_okR_at mz_okr_17_0 (Nat.zero_le i) h0
  exact mz_okAt_out (M := (1, 11, (0, 0, 0), mzc_17)) (Nat.le_trans (show mzc_17.length ≤ 15 by decide +kernel) h0)
theorem mz_oka_18 : mz_okQ (2, 11, (0, 0, 0), mzc_18) mzt_18 := by
  refine ⟨fun i => ?_, rfl, Or.inr mz_oky_18⟩
  rcases Nat.lt_or_ge i 32 with h0 | h0
  · exact mz_okR_at mz_okr_18_0 (Nat.zero_le i) h0
  exact mz_okAt_out (M := (2, 11, (0, 0, 0), mzc_18)) (Nat.le_trans (show mzc_18.length ≤ 32 by decide +kernel) h0)
theorem mz_oka_19 : mz_okQ (2, 11, (0, 0, 0), mzc_19) mzt_19 := by
  refine ⟨fun i => ?_, rfl, Or.inr mz_oky_19⟩
  rcases Nat.lt_or_ge i 28 with h0 | h0
  · exact mz_okR_at mz_okr_19_0 (Nat.zero_le i) h0
  exact mz_okAt_out (M := (2, 11, (0, 0, 0), mzc_19)) (Nat.le_trans (show mzc_19.length ≤ 28 by decide +kernel) h0)
theorem mz_oka_20 : mz_okQ (2, 11, (0, 0, 0), mzc_20) mzt_20 := by
  refine ⟨fun i => ?_, rfl, Or.inr mz_oky_20⟩
  rcases Nat.lt_or_ge i 28 with h0 | h0
  · exact mz_okR_at mz_okr_20_0 (Nat.zero_le i) h0
  exact mz_okAt_out (M := (2, 11, (0, 0, 0), mzc_20)) (Nat.le_trans (show mzc_20.length ≤ 28 by decide +kernel) h0)
theorem mz_oka_21 : mz_okQ (2, 11, (0, 0, 0), mzc_21) mzt_21 := by
  refine ⟨fun i => ?_, rfl, Or.inr mz_oky_21⟩
  rcases Nat.lt_or_ge i 18 with h0 | h0
  · exact mz_okR_at mz_okr_21_0 (Nat.zero_le i) h0
  exact mz_okAt_out (M := (2, 11, (0, 0, 0), mzc_21)) (Nat.le_trans (show mzc_21.length ≤ 18 by decide +kernel) h0)
theorem mz_oka_22 : mz_okQ (2, 11, (0, 0, 0), mzc_22) mzt_22 := by
  refine ⟨fun i => ?_, rfl, Or.inr mz_oky_22⟩
  rcases Nat.lt_or_ge i 33 with h0 | h0
  · exact mz_okR_at mz_okr_22_0 (Nat.zero_le i) h0
  exact mz_okAt_out (M := (2, 11, (0, 0, 0), mzc_22)) (Nat.le_trans (show mzc_22.length ≤ 33 by decide +kernel) h0)
theorem mz_oka_23 : mz_okQ (2, 11, (0, 0, 0), mzc_23) mzt_23 := by
  refine ⟨fun i => ?_, rfl, Or.inr mz_oky_23⟩
  rcases Nat.lt_or_ge i 7 with h0 | h0
  · exact mz_okR_at mz_okr_23_0 (Nat.zero_le i) h0
  exact mz_okAt_out (M := (2, 11, (0, 0, 0), mzc_23)) (Nat.le_trans (show mzc_23.length ≤ 7 by decide +kernel) h0)
theorem mz_oka_24 : mz_okQ (2, 11, (0, 0, 0), mzc_24) mzt_24 := by
  refine ⟨fun i => ?_, rfl, Or.inr mz_oky_24⟩
  rcases Nat.lt_or_ge i 18 with h0 | h0
  · exact mz_okR_at mz_okr_24_0 (Nat.zero_le i) h0
  exact mz_okAt_out (M := (2, 11, (0, 0, 0), mzc_24)) (Nat.le_trans (show mzc_24.length ≤ 18 by decide +kernel) h0)
theorem mz_oka_25 : mz_okQ (4, 11, (0, 0, 0), mzc_25) mzt_25 := by
  refine ⟨fun i => ?_, rfl, Or.inr mz_oky_25⟩
  rcases Nat.lt_or_ge i 47 with h0 | h0
  · exact mz_okR_at mz_okr_25_0 (Nat.zero_le i) h0
  exact mz_okAt_out (M := (4, 11, (0, 0, 0), mzc_25)) (Nat.le_trans (show mzc_25.length ≤ 47 by decide +kernel) h0)
theorem mz_oka_26 : mz_okQ (2, 11, (0, 0, 0), mzc_26) mzt_26 := by
  refine ⟨fun i => ?_, rfl, Or.inr mz_oky_26⟩
  rcases Nat.lt_or_ge i 22 with h0 | h0
  · exact mz_okR_at mz_okr_26_0 (Nat.zero_le i) h0
  exact mz_okAt_out (M := (2, 11, (0, 0, 0), mzc_26)) (Nat.le_trans (show mzc_26.length ≤ 22 by decide +kernel) h0)
theorem mz_oka_27 : mz_okQ (3, 11, (0, 0, 0), mzc_27) mzt_27 := by
  refine ⟨fun i => ?_, rfl, Or.inr mz_oky_27⟩
  rcases Nat.lt_or_ge i 19 with h0 | h0
  · exact mz_okR_at mz_okr_27_0 (Nat.zero_le i) h0
  exact mz_okAt_out (M := (3, 11, (0, 0, 0), mzc_27)) (Nat.le_trans (show mzc_27.length ≤ 19 by decide +kernel) h0)
theorem mz_oka_28 : mz_okQ (5, 11, (0, 0, 0), mzc_28) mzt_28 := by
  refine ⟨fun i => ?_, rfl, Or.inr mz_oky_28⟩
  rcases Nat.lt_or_ge i 35 with h0 | h0
  · exact mz_okR_at mz_okr_28_0 (Nat.zero_le i) h0
  exact mz_okAt_out (M := (5, 11, (0, 0, 0), mzc_28)) (Nat.le_trans (show mzc_28.length ≤ 35 by decide +kernel) h0)
theorem mz_oka_29 : mz_okQ (6, 11, (0, 0, 0), mzc_29) mzt_29 := by
  refine ⟨fun i => ?_, rfl, Or.inr mz_oky_29⟩
  rcases Nat.lt_or_ge i 47 with h0 | h0
  · exact mz_okR_at mz_okr_29_0 (Nat.zero_le i) h0
  exact mz_okAt_out (M := (6, 11, (0, 0, 0), mzc_29)) (Nat.le_trans (show mzc_29.length ≤ 47 by decide +kernel) h0)
theorem mz_oka_30 : mz_okQ (6, 11, (0, 0, 0), mzc_30) mzt_30 := by
  refine ⟨fun i => ?_, rfl, Or.inr mz_oky_30⟩
  rcases Nat.lt_or_ge i 41 with h0 | h0
  · exact mz_okR_at mz_okr_30_0 (Nat.zero_le i) h0
  exact mz_okAt_out (M := (6, 11, (0, 0, 0), mzc_30)) (Nat.le_trans (show mzc_30.length ≤ 41 by decide +kernel) h0)
theorem mz_oka_31 : mz_okQ (4, 11, (0, 0, 0), mzc_31) mzt_31 := by
  refine ⟨fun i => ?_, rfl, Or.inr mz_oky_31⟩
  rcases Nat.lt_or_ge i 38 with h0 | h0
  · exact mz_okR_at mz_okr_31_0 (Nat.zero_le i) h0
  exact mz_okAt_out (M := (4, 11, (0, 0, 0), mzc_31)) (Nat.le_trans (show mzc_31.length ≤ 38 by decide +kernel) h0)
theorem mz_oka_32 : mz_okQ (5, 11, (0, 0, 0), mzc_32) mzt_32 := by
  refine ⟨fun i => ?_, rfl, Or.inr mz_oky_32⟩
  rcases Nat.lt_or_ge i 60 with h0 | h0
  · exact mz_okR_at mz_okr_32_0 (Nat.zero_le i) h0
  rcases Nat.lt_or_ge i 71 with h1 | h1
  · exact mz_okR_at mz_okr_32_1 h0 h1
  exact mz_okAt_out (M := (5, 11, (0, 0, 0), mzc_32)) (Nat.le_trans (show mzc_32.length ≤ 71 by decide +kernel) h1)
theorem mz_oka_33 : mz_okQ (2, 11, (0, 0, 0), mzc_33) mzt_33 := by
  refine ⟨fun i => ?_, rfl, Or.inr mz_oky_33⟩
  rcases Nat.lt_or_ge i 22 with h0 | h0
  · exact mz_okR_at mz_okr_33_0 (Nat.zero_le i) h0
  exact mz_okAt_out (M := (2, 11, (0, 0, 0), mzc_33)) (Nat.le_trans (show mzc_33.length ≤ 22 by decide +kernel) h0)
theorem mz_oka_34 : mz_okQ (2, 11, (0, 0, 0), mzc_34) mzt_34 := by
  refine ⟨fun i => ?_, rfl, Or.inr mz_oky_34⟩
  rcases Nat.lt_or_ge i 32 with h0 | h0
  · exact mz_okR_at mz_okr_34_0 (Nat.zero_le i) h0
  exact mz_okAt_out (M := (2, 11, (0, 0, 0), mzc_34)) (Nat.le_trans (show mzc_34.length ≤ 32 by decide +kernel) h0)
theorem mz_oka_35 : mz_okQ (2, 11, (0, 0, 0), mzc_35) mzt_35 := by
  refine ⟨fun i => ?_, rfl, Or.inr mz_oky_35⟩
  rcases Nat.lt_or_ge i 20 with h0 | h0
  · exact mz_okR_at mz_okr_35_0 (Nat.zero_le i) h0
  exact mz_okAt_out (M := (2, 11, (0, 0, 0), mzc_35)) (Nat.le_trans (show mzc_35.length ≤ 20 by decide +kernel) h0)
theorem mz_oka_36 : mz_okQ (7, 11, (0, 0, 0), mzc_36) mzt_36 := by
  refine ⟨fun i => ?_, rfl, Or.inr mz_oky_36⟩
  rcases Nat.lt_or_ge i 60 with h0 | h0
  · exact mz_okR_at mz_okr_36_0 (Nat.zero_le i) h0
  rcases Nat.lt_or_ge i 65 with h1 | h1
  · exact mz_okR_at mz_okr_36_1 h0 h1
  exact mz_okAt_out (M := (7, 11, (0, 0, 0), mzc_36)) (Nat.le_trans (show mzc_36.length ≤ 65 by decide +kernel) h1)
theorem mz_oka_37 : mz_okQ (6, 11, (0, 0, 0), mzc_37) mzt_37 := by
  refine ⟨fun i => ?_, rfl, Or.inr mz_oky_37⟩
  rcases Nat.lt_or_ge i 43 with h0 | h0
  · exact mz_okR_at mz_okr_37_0 (Nat.zero_le i) h0
  exact mz_okAt_out (M := (6, 11, (0, 0, 0), mzc_37)) (Nat.le_trans (show mzc_37.length ≤ 43 by decide +kernel) h0)
theorem mz_oka_38 : mz_okQ (5, 11, (0, 0, 0), mzc_38) mzt_38 := by
  refine ⟨fun i => ?_, rfl, Or.inr mz_oky_38⟩
  rcases Nat.lt_or_ge i 45 with h0 | h0
  · exact mz_okR_at mz_okr_38_0 (Nat.zero_le i) h0
  exact mz_okAt_out (M := (5, 11, (0, 0, 0), mzc_38)) (Nat.le_trans (show mzc_38.length ≤ 45 by decide +kernel) h0)
theorem mz_oka_39 : mz_okQ (2, 11, (0, 0, 0), mzc_39) mzt_39 := by
  refine ⟨fun i => ?_, rfl, Or.inr mz_oky_39⟩
  rcases Nat.lt_or_ge i 5 with h0 | h0
  · exact mz_okR_at mz_okr_39_0 (Nat.zero_le i) h0
  exact mz_okAt_out (M := (2, 11, (0, 0, 0), mzc_39)) (Nat.le_trans (show mzc_39.length ≤ 5 by decide +kernel) h0)
theorem mz_oka_40 : mz_okQ (2, 11, (0, 0, 0), mzc_40) mzt_40 := by
  refine ⟨fun i => ?_, rfl, Or.inr mz_oky_40⟩
  rcases Nat.lt_or_ge i 11 with h0 | h0
  · exact mz_okR_at mz_okr_40_0 (Nat.zero_le i) h0
  exact mz_okAt_out (M := (2, 11, (0, 0, 0), mzc_40)) (Nat.le_trans (show mzc_40.length ≤ 11 by decide +kernel) h0)
theorem mz_oka_41 : mz_okQ (2, 11, (0, 0, 0), mzc_41) mzt_41 := by
  refine ⟨fun i => ?_, rfl, Or.inr mz_oky_41⟩
  rcases Nat.lt_or_ge i 58 with h0 | h0
  · exact mz_okR_at mz_okr_41_0 (Nat.zero_le i) h0
  exact mz_okAt_out (M := (2, 11, (0, 0, 0), mzc_41)) (Nat.le_trans (show mzc_41.length ≤ 58 by decide +kernel) h0)
theorem mz_oka_42 : mz_okQ (2, 11, (0, 0, 0), mzc_42) mzt_42 := by
  refine ⟨fun i => ?_, rfl, Or.inr mz_oky_42⟩
  rcases Nat.lt_or_ge i 18 with h0 | h0
  · exact mz_okR_at mz_okr_42_0 (Nat.zero_le i) h0
  exact mz_okAt_out (M := (2, 11, (0, 0, 0), mzc_42)) (Nat.le_trans (show mzc_42.length ≤ 18 by decide +kernel) h0)
theorem mz_oka_43 : mz_okQ (1, 0, (0, 0, 0), mzc_43) mzt_43 := by
  refine ⟨fun i => ?_, rfl, Or.inr mz_oky_43⟩
  rcases Nat.lt_or_ge i 9 with h0 | h0
  · exact mz_okR_at mz_okr_43_0 (Nat.zero_le i) h0
  exact mz_okAt_out (M := (1, 0, (0, 0, 0), mzc_43)) (Nat.le_trans (show mzc_43.length ≤ 9 by decide +kernel) h0)
theorem mz_oka_44 : mz_okQ (1, 0, (0, 0, 0), mzc_44) mzt_44 := by
  refine ⟨fun i => ?_, rfl, Or.inr mz_oky_44⟩
  rcases Nat.lt_or_ge i 9 with h0 | h0
  · exact mz_okR_at mz_okr_44_0 (Nat.zero_le i) h0
  exact mz_okAt_out (M := (1, 0, (0, 0, 0), mzc_44)) (Nat.le_trans (show mzc_44.length ≤ 9 by decide +kernel) h0)
theorem mz_oka_45 : mz_okQ (1, 0, (0, 0, 0), mzc_45) mzt_45 := by
  refine ⟨fun i => ?_, rfl, Or.inr mz_oky_45⟩
  rcases Nat.lt_or_ge i 9 with h0 | h0
  · exact mz_okR_at mz_okr_45_0 (Nat.zero_le i) h0
  exact mz_okAt_out (M := (1, 0, (0, 0, 0), mzc_45)) (Nat.le_trans (show mzc_45.length ≤ 9 by decide +kernel) h0)
theorem mz_oka_46 : mz_okQ (1, 0, (0, 0, 0), mzc_46) mzt_46 := by
  refine ⟨fun i => ?_, rfl, Or.inr mz_oky_46⟩
  rcases Nat.lt_or_ge i 10 with h0 | h0
  · exact mz_okR_at mz_okr_46_0 (Nat.zero_le i) h0
  exact mz_okAt_out (M := (1, 0, (0, 0, 0), mzc_46)) (Nat.le_trans (show mzc_46.length ≤ 10 by decide +kernel) h0)
theorem mz_oka_47 : mz_okQ (1, 0, (0, 0, 0), mzc_47) mzt_47 := by
  refine ⟨fun i => ?_, rfl, Or.inr mz_oky_47⟩
  rcases Nat.lt_or_ge i 13 with h0 | h0
  · exact mz_okR_at mz_okr_47_0 (Nat.zero_le i) h0
  exact mz_okAt_out (M := (1, 0, (0, 0, 0), mzc_47)) (Nat.le_trans (show mzc_47.length ≤ 13 by decide +kernel) h0)
theorem mz_oka_48 : mz_okQ (2, 0, (0, 0, 0), mzc_48) mzt_48 := by
  refine ⟨fun i => ?_, rfl, Or.inr mz_oky_48⟩
  rcases Nat.lt_or_ge i 46 with h0 | h0
  · exact mz_okR_at mz_okr_48_0 (Nat.zero_le i) h0
  exact mz_okAt_out (M := (2, 0, (0, 0, 0), mzc_48)) (Nat.le_trans (show mzc_48.length ≤ 46 by decide +kernel) h0)
theorem mz_oka_49 : mz_okQ (2, 0, (0, 0, 0), mzc_49) mzt_49 := by
  refine ⟨fun i => ?_, rfl, Or.inr mz_oky_49⟩
  rcases Nat.lt_or_ge i 13 with h0 | h0
  · exact mz_okR_at mz_okr_49_0 (Nat.zero_le i) h0
  exact mz_okAt_out (M := (2, 0, (0, 0, 0), mzc_49)) (Nat.le_trans (show mzc_49.length ≤ 13 by decide +kernel) h0)
theorem mz_oka_50 : mz_okQ (2, 11, (0, 0, 0), mzc_50) mzt_50 := by
  refine ⟨fun i => ?_, rfl, Or.inr mz_oky_50⟩
  rcases Nat.lt_or_ge i 11 with h0 | h0
  · exact mz_okR_at mz_okr_50_0 (Nat.zero_le i) h0
  exact mz_okAt_out (M := (2, 11, (0, 0, 0), mzc_50)) (Nat.le_trans (show mzc_50.length ≤ 11 by decide +kernel) h0)
theorem mz_oka_51 : mz_okQ (1, 11, (0, 0, 0), mzc_51) mzt_51 := by
  refine ⟨fun i => ?_, rfl, Or.inr mz_oky_51⟩
  rcases Nat.lt_or_ge i 7 with h0 | h0
  · exact mz_okR_at mz_okr_51_0 (Nat.zero_le i) h0
  exact mz_okAt_out (M := (1, 11, (0, 0, 0), mzc_51)) (Nat.le_trans (show mzc_51.length ≤ 7 by decide +kernel) h0)
theorem mz_oka_52 : mz_okQ (8, 11, (0, 0, 0), mzc_52) mzt_52 := by
  refine ⟨fun i => ?_, rfl, Or.inr mz_oky_52⟩
  rcases Nat.lt_or_ge i 43 with h0 | h0
  · exact mz_okR_at mz_okr_52_0 (Nat.zero_le i) h0
  exact mz_okAt_out (M := (8, 11, (0, 0, 0), mzc_52)) (Nat.le_trans (show mzc_52.length ≤ 43 by decide +kernel) h0)
theorem mz_oka_53 : mz_okQ (4, 11, (0, 0, 0), mzc_53) mzt_53 := by
  refine ⟨fun i => ?_, rfl, Or.inr mz_oky_53⟩
  rcases Nat.lt_or_ge i 23 with h0 | h0
  · exact mz_okR_at mz_okr_53_0 (Nat.zero_le i) h0
  exact mz_okAt_out (M := (4, 11, (0, 0, 0), mzc_53)) (Nat.le_trans (show mzc_53.length ≤ 23 by decide +kernel) h0)
theorem mz_oka_54 : mz_okQ (3, 11, (0, 0, 0), mzc_54) mzt_54 := by
  refine ⟨fun i => ?_, rfl, Or.inr mz_oky_54⟩
  rcases Nat.lt_or_ge i 16 with h0 | h0
  · exact mz_okR_at mz_okr_54_0 (Nat.zero_le i) h0
  exact mz_okAt_out (M := (3, 11, (0, 0, 0), mzc_54)) (Nat.le_trans (show mzc_54.length ≤ 16 by decide +kernel) h0)
theorem mz_oka_55 : mz_okQ (5, 11, (0, 0, 0), mzc_55) mzt_55 := by
  refine ⟨fun i => ?_, rfl, Or.inr mz_oky_55⟩
  rcases Nat.lt_or_ge i 25 with h0 | h0
  · exact mz_okR_at mz_okr_55_0 (Nat.zero_le i) h0
  exact mz_okAt_out (M := (5, 11, (0, 0, 0), mzc_55)) (Nat.le_trans (show mzc_55.length ≤ 25 by decide +kernel) h0)
theorem mz_oka_56 : mz_okQ (4, 11, (0, 0, 0), mzc_56) mzt_56 := by
  refine ⟨fun i => ?_, rfl, Or.inr mz_oky_56⟩
  rcases Nat.lt_or_ge i 33 with h0 | h0
  · exact mz_okR_at mz_okr_56_0 (Nat.zero_le i) h0
  exact mz_okAt_out (M := (4, 11, (0, 0, 0), mzc_56)) (Nat.le_trans (show mzc_56.length ≤ 33 by decide +kernel) h0)
theorem mz_oka_57 : mz_okQ (3, 11, (0, 0, 0), mzc_57) mzt_57 := by
  refine ⟨fun i => ?_, rfl, Or.inr mz_oky_57⟩
  rcases Nat.lt_or_ge i 38 with h0 | h0
  · exact mz_okR_at mz_okr_57_0 (Nat.zero_le i) h0
  exact mz_okAt_out (M := (3, 11, (0, 0, 0), mzc_57)) (Nat.le_trans (show mzc_57.length ≤ 38 by decide +kernel) h0)
theorem mz_oka_58 : mz_okQ (2, 11, (0, 0, 0), mzc_58) mzt_58 := by
  refine ⟨fun i => ?_, rfl, Or.inr mz_oky_58⟩
  rcases Nat.lt_or_ge i 60 with h0 | h0
  · exact mz_okR_at mz_okr_58_0 (Nat.zero_le i) h0
  rcases Nat.lt_or_ge i 66 with h1 | h1
  · exact mz_okR_at mz_okr_58_1 h0 h1
  exact mz_okAt_out (M := (2, 11, (0, 0, 0), mzc_58)) (Nat.le_trans (show mzc_58.length ≤ 66 by decide +kernel) h1)
theorem mz_oka_59 : mz_okQ (3, 11, (0, 0, 0), mzc_59) mzt_59 := by
  refine ⟨fun i => ?_, rfl, Or.inr mz_oky_59⟩
  rcases Nat.lt_or_ge i 24 with h0 | h0
  · exact mz_okR_at mz_okr_59_0 (Nat.zero_le i) h0
  exact mz_okAt_out (M := (3, 11, (0, 0, 0), mzc_59)) (Nat.le_trans (show mzc_59.length ≤ 24 by decide +kernel) h0)
theorem mz_oka_60 : mz_okQ (2, 11, (0, 0, 0), mzc_60) mzt_60 := by
  refine ⟨fun i => ?_, rfl, Or.inr mz_oky_60⟩
  rcases Nat.lt_or_ge i 20 with h0 | h0
  · exact mz_okR_at mz_okr_60_0 (Nat.zero_le i) h0
  exact mz_okAt_out (M := (2, 11, (0, 0, 0), mzc_60)) (Nat.le_trans (show mzc_60.length ≤ 20 by decide +kernel) h0)
theorem mz_oka_61 : mz_okQ (4, 11, (0, 0, 0), mzc_61) mzt_61 := by
  refine ⟨fun i => ?_, rfl, Or.inr mz_oky_61⟩
  rcases Nat.lt_or_ge i 22 with h0 | h0
  · exact mz_okR_at mz_okr_61_0 (Nat.zero_le i) h0
  exact mz_okAt_out (M := (4, 11, (0, 0, 0), mzc_61)) (Nat.le_trans (show mzc_61.length ≤ 22 by decide +kernel) h0)
theorem mz_oka_62 : mz_okQ (2, 11, (0, 0, 0), mzc_62) mzt_62 := by
  refine ⟨fun i => ?_, rfl, Or.inr mz_oky_62⟩
  rcases Nat.lt_or_ge i 21 with h0 | h0
  · exact mz_okR_at mz_okr_62_0 (Nat.zero_le i) h0
  exact mz_okAt_out (M := (2, 11, (0, 0, 0), mzc_62)) (Nat.le_trans (show mzc_62.length ≤ 21 by decide +kernel) h0)
theorem mz_oka_63 : mz_okQ (2, 11, (0, 0, 0), mzc_63) mzt_63 := by
  refine ⟨fun i => ?_, rfl, Or.inr mz_oky_63⟩
  rcases Nat.lt_or_ge i 16 with h0 | h0
  · exact mz_okR_at mz_okr_63_0 (Nat.zero_le i) h0
  exact mz_okAt_out (M := (2, 11, (0, 0, 0), mzc_63)) (Nat.le_trans (show mzc_63.length ≤ 16 by decide +kernel) h0)
theorem mz_oka_64 : mz_okQ (1, 11, (0, 0, 0), mzc_64) mzt_64 := by
  refine ⟨fun i => ?_, rfl, Or.inr mz_oky_64⟩
  rcases Nat.lt_or_ge i 24 with h0 | h0
  · exact mz_okR_at mz_okr_64_0 (Nat.zero_le i) h0
  exact mz_okAt_out (M := (1, 11, (0, 0, 0), mzc_64)) (Nat.le_trans (show mzc_64.length ≤ 24 by decide +kernel) h0)
theorem mz_oka_65 : mz_okQ (7, 11, (0, 0, 0), mzc_65) mzt_65 := by
  refine ⟨fun i => ?_, rfl, Or.inr mz_oky_65⟩
  rcases Nat.lt_or_ge i 53 with h0 | h0
  · exact mz_okR_at mz_okr_65_0 (Nat.zero_le i) h0
  exact mz_okAt_out (M := (7, 11, (0, 0, 0), mzc_65)) (Nat.le_trans (show mzc_65.length ≤ 53 by decide +kernel) h0)
theorem mz_oka_66 : mz_okQ (3, 11, (0, 0, 0), mzc_66) mzt_66 := by
  refine ⟨fun i => ?_, rfl, Or.inr mz_oky_66⟩
  rcases Nat.lt_or_ge i 51 with h0 | h0
  · exact mz_okR_at mz_okr_66_0 (Nat.zero_le i) h0
  exact mz_okAt_out (M := (3, 11, (0, 0, 0), mzc_66)) (Nat.le_trans (show mzc_66.length ≤ 51 by decide +kernel) h0)
theorem mz_oka_67 : mz_okQ (2, 12, (0, 0, 0), mzc_67) mzt_67 := by
  refine ⟨fun i => ?_, rfl, Or.inr mz_oky_67⟩
  rcases Nat.lt_or_ge i 60 with h0 | h0
  · exact mz_okR_at mz_okr_67_0 (Nat.zero_le i) h0
  rcases Nat.lt_or_ge i 99 with h1 | h1
  · exact mz_okR_at mz_okr_67_1 h0 h1
  exact mz_okAt_out (M := (2, 12, (0, 0, 0), mzc_67)) (Nat.le_trans (show mzc_67.length ≤ 99 by decide +kernel) h1)
theorem mz_oka_68 : mz_okQ (3, 0, (0, 0, 0), mzc_68) mzt_68 := by
  refine ⟨fun i => ?_, rfl, Or.inr mz_oky_68⟩
  rcases Nat.lt_or_ge i 10 with h0 | h0
  · exact mz_okR_at mz_okr_68_0 (Nat.zero_le i) h0
  exact mz_okAt_out (M := (3, 0, (0, 0, 0), mzc_68)) (Nat.le_trans (show mzc_68.length ≤ 10 by decide +kernel) h0)
theorem mz_oka_69 : mz_okQ (1, 12, (0, 0, 0), mzc_69) mzt_69 := by
  refine ⟨fun i => ?_, rfl, Or.inr mz_oky_69⟩
  rcases Nat.lt_or_ge i 5 with h0 | h0
  · exact mz_okR_at mz_okr_69_0 (Nat.zero_le i) h0
  exact mz_okAt_out (M := (1, 12, (0, 0, 0), mzc_69)) (Nat.le_trans (show mzc_69.length ≤ 5 by decide +kernel) h0)
theorem mz_oka_70 : mz_okQ (3, 12, (0, 0, 0), mzc_70) mzt_70 := by
  refine ⟨fun i => ?_, rfl, Or.inr mz_oky_70⟩
  rcases Nat.lt_or_ge i 13 with h0 | h0
  · exact mz_okR_at mz_okr_70_0 (Nat.zero_le i) h0
  exact mz_okAt_out (M := (3, 12, (0, 0, 0), mzc_70)) (Nat.le_trans (show mzc_70.length ≤ 13 by decide +kernel) h0)
theorem mz_oka_71 : mz_okQ (3, 12, (0, 0, 0), mzc_71) mzt_71 := by
  refine ⟨fun i => ?_, rfl, Or.inr mz_oky_71⟩
  rcases Nat.lt_or_ge i 20 with h0 | h0
  · exact mz_okR_at mz_okr_71_0 (Nat.zero_le i) h0
  exact mz_okAt_out (M := (3, 12, (0, 0, 0), mzc_71)) (Nat.le_trans (show mzc_71.length ≤ 20 by decide +kernel) h0)
theorem mz_oka_72 : mz_okQ (2, 12, (0, 0, 0), mzc_72) mzt_72 := by
  refine ⟨fun i => ?_, rfl, Or.inr mz_oky_72⟩
  rcases Nat.lt_or_ge i 10 with h0 | h0
  · exact mz_okR_at mz_okr_72_0 (Nat.zero_le i) h0
  exact mz_okAt_out (M := (2, 12, (0, 0, 0), mzc_72)) (Nat.le_trans (show mzc_72.length ≤ 10 by decide +kernel) h0)
theorem mz_oka_73 : mz_okQ (2, 12, (0, 0, 0), mzc_73) mzt_73 := by
  refine ⟨fun i => ?_, rfl, Or.inr mz_oky_73⟩
  rcases Nat.lt_or_ge i 9 with h0 | h0
  · exact mz_okR_at mz_okr_73_0 (Nat.zero_le i) h0
  exact mz_okAt_out (M := (2, 12, (0, 0, 0), mzc_73)) (Nat.le_trans (show mzc_73.length ≤ 9 by decide +kernel) h0)
theorem mz_oka_74 : mz_okQ (2, 12, (0, 0, 0), mzc_74) mzt_74 := by
  refine ⟨fun i => ?_, rfl, Or.inr mz_oky_74⟩
  rcases Nat.lt_or_ge i 11 with h0 | h0
  · exact mz_okR_at mz_okr_74_0 (Nat.zero_le i) h0
  exact mz_okAt_out (M := (2, 12, (0, 0, 0), mzc_74)) (Nat.le_trans (show mzc_74.length ≤ 11 by decide +kernel) h0)
theorem mz_oka_75 : mz_okQ (3, 12, (0, 0, 0), mzc_75) mzt_75 := by
  refine ⟨fun i => ?_, rfl, Or.inr mz_oky_75⟩
  rcases Nat.lt_or_ge i 13 with h0 | h0
  · exact mz_okR_at mz_okr_75_0 (Nat.zero_le i) h0
  exact mz_okAt_out (M := (3, 12, (0, 0, 0), mzc_75)) (Nat.le_trans (show mzc_75.length ≤ 13 by decide +kernel) h0)
theorem mz_oka_76 : mz_okQ (1, 0, (0, 0, 0), mzc_76) mzt_76 := by
  refine ⟨fun i => ?_, rfl, Or.inr mz_oky_76⟩
  rcases Nat.lt_or_ge i 7 with h0 | h0
  · exact mz_okR_at mz_okr_76_0 (Nat.zero_le i) h0
  exact mz_okAt_out (M := (1, 0, (0, 0, 0), mzc_76)) (Nat.le_trans (show mzc_76.length ≤ 7 by decide +kernel) h0)
theorem mz_oka_77 : mz_okQ (1, 0, (0, 0, 0), mzc_77) mzt_77 := by
  refine ⟨fun i => ?_, rfl, Or.inr mz_oky_77⟩
  rcases Nat.lt_or_ge i 6 with h0 | h0
  · exact mz_okR_at mz_okr_77_0 (Nat.zero_le i) h0
  exact mz_okAt_out (M := (1, 0, (0, 0, 0), mzc_77)) (Nat.le_trans (show mzc_77.length ≤ 6 by decide +kernel) h0)
theorem mz_oka_78 : mz_okQ (1, 0, (0, 0, 0), mzc_78) mzt_78 := by
  refine ⟨fun i => ?_, rfl, Or.inr mz_oky_78⟩
  rcases Nat.lt_or_ge i 6 with h0 | h0
  · exact mz_okR_at mz_okr_78_0 (Nat.zero_le i) h0
  exact mz_okAt_out (M := (1, 0, (0, 0, 0), mzc_78)) (Nat.le_trans (show mzc_78.length ≤ 6 by decide +kernel) h0)
theorem mz_oka_79 : mz_okQ (2, 12, (0, 0, 0), mzc_79) mzt_79 := by
  refine ⟨fun i => ?_, rfl, Or.inr mz_oky_79⟩
  rcases Nat.lt_or_ge i 9 with h0 | h0
  · exact mz_okR_at mz_okr_79_0 (Nat.zero_le i) h0
  exact mz_okAt_out (M := (2, 12, (0, 0, 0), mzc_79)) (Nat.le_trans (show mzc_79.length ≤ 9 by decide +kernel) h0)
theorem mz_oka_80 : mz_okQ (3, 0, (0, 0, 0), mzc_80) mzt_80 := by
  refine ⟨fun i => ?_, rfl, Or.inr mz_oky_80⟩
  rcases Nat.lt_or_ge i 16 with h0 | h0
  · exact mz_okR_at mz_okr_80_0 (Nat.zero_le i) h0
  exact mz_okAt_out (M := (3, 0, (0, 0, 0), mzc_80)) (Nat.le_trans (show mzc_80.length ≤ 16 by decide +kernel) h0)
theorem mz_oka_81 : mz_okQ (2, 0, (0, 0, 0), mzc_81) mzt_81 := by
  refine ⟨fun i => ?_, rfl, Or.inr mz_oky_81⟩
  rcases Nat.lt_or_ge i 8 with h0 | h0
  · exact mz_okR_at mz_okr_81_0 (Nat.zero_le i) h0
  exact mz_okAt_out (M := (2, 0, (0, 0, 0), mzc_81)) (Nat.le_trans (show mzc_81.length ≤ 8 by decide +kernel) h0)
theorem mz_oka_82 : mz_okQ (2, 0, (0, 0, 0), mzc_82) mzt_82 := by
  refine ⟨fun i => ?_, rfl, Or.inr mz_oky_82⟩
  rcases Nat.lt_or_ge i 8 with h0 | h0
  · exact mz_okR_at mz_okr_82_0 (Nat.zero_le i) h0
  exact mz_okAt_out (M := (2, 0, (0, 0, 0), mzc_82)) (Nat.le_trans (show mzc_82.length ≤ 8 by decide +kernel) h0)
theorem mz_oka_83 : mz_okQ (3, 12, (0, 0, 0), mzc_83) mzt_83 := by
  refine ⟨fun i => ?_, rfl, Or.inr mz_oky_83⟩
  rcases Nat.lt_or_ge i 36 with h0 | h0
  · exact mz_okR_at mz_okr_83_0 (Nat.zero_le i) h0
  exact mz_okAt_out (M := (3, 12, (0, 0, 0), mzc_83)) (Nat.le_trans (show mzc_83.length ≤ 36 by decide +kernel) h0)
theorem mz_oka_84 : mz_okQ (2, 12, (0, 0, 0), mzc_84) mzt_84 := by
  refine ⟨fun i => ?_, rfl, Or.inr mz_oky_84⟩
  rcases Nat.lt_or_ge i 16 with h0 | h0
  · exact mz_okR_at mz_okr_84_0 (Nat.zero_le i) h0
  exact mz_okAt_out (M := (2, 12, (0, 0, 0), mzc_84)) (Nat.le_trans (show mzc_84.length ≤ 16 by decide +kernel) h0)
theorem mz_oka_85 : mz_okQ (1, 12, (0, 0, 0), mzc_85) mzt_85 := by
  refine ⟨fun i => ?_, rfl, Or.inr mz_oky_85⟩
  rcases Nat.lt_or_ge i 14 with h0 | h0
  · exact mz_okR_at mz_okr_85_0 (Nat.zero_le i) h0
  exact mz_okAt_out (M := (1, 12, (0, 0, 0), mzc_85)) (Nat.le_trans (show mzc_85.length ≤ 14 by decide +kernel) h0)
theorem mz_oka_86 : mz_okQ (1, 12, (0, 0, 0), mzc_86) mzt_86 := by
  refine ⟨fun i => ?_, rfl, Or.inr mz_oky_86⟩
  rcases Nat.lt_or_ge i 15 with h0 | h0
  · exact mz_okR_at mz_okr_86_0 (Nat.zero_le i) h0
  exact mz_okAt_out (M := (1, 12, (0, 0, 0), mzc_86)) (Nat.le_trans (show mzc_86.length ≤ 15 by decide +kernel) h0)
theorem mz_oka_87 : mz_okQ (1, 12, (0, 0, 0), mzc_87) mzt_87 := by
  refine ⟨fun i => ?_, rfl, Or.inr mz_oky_87⟩
  rcases Nat.lt_or_ge i 8 with h0 | h0
  · exact mz_okR_at mz_okr_87_0 (Nat.zero_le i) h0
  exact mz_okAt_out (M := (1, 12, (0, 0, 0), mzc_87)) (Nat.le_trans (show mzc_87.length ≤ 8 by decide +kernel) h0)
theorem mz_oka_88 : mz_okQ (2, 12, (0, 0, 0), mzc_88) mzt_88 := by
  refine ⟨fun i => ?_, rfl, Or.inr mz_oky_88⟩
  rcases Nat.lt_or_ge i 7 with h0 | h0
  · exact mz_okR_at mz_okr_88_0 (Nat.zero_le i) h0
  exact mz_okAt_out (M := (2, 12, (0, 0, 0), mzc_88)) (Nat.le_trans (show mzc_88.length ≤ 7 by decide +kernel) h0)
theorem mz_oka_89 : mz_okQ (2, 12, (0, 0, 0), mzc_89) mzt_89 := by
  refine ⟨fun i => ?_, rfl, Or.inr mz_oky_89⟩
  rcases Nat.lt_or_ge i 17 with h0 | h0
  · exact mz_okR_at mz_okr_89_0 (Nat.zero_le i) h0
  exact mz_okAt_out (M := (2, 12, (0, 0, 0), mzc_89)) (Nat.le_trans (show mzc_89.length ≤ 17 by decide +kernel) h0)
theorem mz_oka_90 : mz_okQ (2, 12, (0, 0, 0), mzc_90) mzt_90 := by
  refine ⟨fun i => ?_, rfl, Or.inr mz_oky_90⟩
  rcases Nat.lt_or_ge i 9 with h0 | h0
  · exact mz_okR_at mz_okr_90_0 (Nat.zero_le i) h0
  exact mz_okAt_out (M := (2, 12, (0, 0, 0), mzc_90)) (Nat.le_trans (show mzc_90.length ≤ 9 by decide +kernel) h0)
theorem mz_oka_91 : mz_okQ (3, 12, (0, 0, 0), mzc_91) mzt_91 := by
  refine ⟨fun i => ?_, rfl, Or.inr mz_oky_91⟩
  rcases Nat.lt_or_ge i 37 with h0 | h0
  · exact mz_okR_at mz_okr_91_0 (Nat.zero_le i) h0
  exact mz_okAt_out (M := (3, 12, (0, 0, 0), mzc_91)) (Nat.le_trans (show mzc_91.length ≤ 37 by decide +kernel) h0)
theorem mz_oka_92 : mz_okQ (2, 12, (0, 0, 0), mzc_92) mzt_92 := by
  refine ⟨fun i => ?_, rfl, Or.inr mz_oky_92⟩
  rcases Nat.lt_or_ge i 14 with h0 | h0
  · exact mz_okR_at mz_okr_92_0 (Nat.zero_le i) h0
  exact mz_okAt_out (M := (2, 12, (0, 0, 0), mzc_92)) (Nat.le_trans (show mzc_92.length ≤ 14 by decide +kernel) h0)
theorem mz_oka_93 : mz_okQ (1, 12, (0, 0, 0), mzc_93) mzt_93 := by
  refine ⟨fun i => ?_, rfl, Or.inr mz_oky_93⟩
  rcases Nat.lt_or_ge i 12 with h0 | h0
  · exact mz_okR_at mz_okr_93_0 (Nat.zero_le i) h0
  exact mz_okAt_out (M := (1, 12, (0, 0, 0), mzc_93)) (Nat.le_trans (show mzc_93.length ≤ 12 by decide +kernel) h0)
theorem mz_oka_94 : mz_okQ (5, 12, (0, 0, 0), mzc_94) mzt_94 := by
  refine ⟨fun i => ?_, rfl, Or.inr mz_oky_94⟩
  rcases Nat.lt_or_ge i 60 with h0 | h0
  · exact mz_okR_at mz_okr_94_0 (Nat.zero_le i) h0
  rcases Nat.lt_or_ge i 71 with h1 | h1
  · exact mz_okR_at mz_okr_94_1 h0 h1
  exact mz_okAt_out (M := (5, 12, (0, 0, 0), mzc_94)) (Nat.le_trans (show mzc_94.length ≤ 71 by decide +kernel) h1)
theorem mz_oka_95 : mz_okQ (3, 12, (0, 0, 0), mzc_95) mzt_95 := by
  refine ⟨fun i => ?_, rfl, Or.inr mz_oky_95⟩
  rcases Nat.lt_or_ge i 60 with h0 | h0
  · exact mz_okR_at mz_okr_95_0 (Nat.zero_le i) h0
  rcases Nat.lt_or_ge i 120 with h1 | h1
  · exact mz_okR_at mz_okr_95_1 h0 h1
  rcases Nat.lt_or_ge i 135 with h2 | h2
  · exact mz_okR_at mz_okr_95_2 h1 h2
  exact mz_okAt_out (M := (3, 12, (0, 0, 0), mzc_95)) (Nat.le_trans (show mzc_95.length ≤ 135 by decide +kernel) h2)
theorem mz_oka_96 : mz_okQ (4, 12, (0, 0, 0), mzc_96) mzt_96 := by
  refine ⟨fun i => ?_, rfl, Or.inr mz_oky_96⟩
  rcases Nat.lt_or_ge i 60 with h0 | h0
  · exact mz_okR_at mz_okr_96_0 (Nat.zero_le i) h0
  rcases Nat.lt_or_ge i 101 with h1 | h1
  · exact mz_okR_at mz_okr_96_1 h0 h1
  exact mz_okAt_out (M := (4, 12, (0, 0, 0), mzc_96)) (Nat.le_trans (show mzc_96.length ≤ 101 by decide +kernel) h1)
theorem mz_oka_97 : mz_okQ (4, 12, (0, 0, 0), mzc_97) mzt_97 := by
  refine ⟨fun i => ?_, rfl, Or.inr mz_oky_97⟩
  rcases Nat.lt_or_ge i 41 with h0 | h0
  · exact mz_okR_at mz_okr_97_0 (Nat.zero_le i) h0
  exact mz_okAt_out (M := (4, 12, (0, 0, 0), mzc_97)) (Nat.le_trans (show mzc_97.length ≤ 41 by decide +kernel) h0)
theorem mz_oka_98 : mz_okQ (1, 0, (0, 0, 0), mzc_98) mzt_98 := by
  refine ⟨fun i => ?_, rfl, Or.inr mz_oky_98⟩
  rcases Nat.lt_or_ge i 5 with h0 | h0
  · exact mz_okR_at mz_okr_98_0 (Nat.zero_le i) h0
  exact mz_okAt_out (M := (1, 0, (0, 0, 0), mzc_98)) (Nat.le_trans (show mzc_98.length ≤ 5 by decide +kernel) h0)
theorem mz_oka_99 : mz_okQ (5, 12, (0, 0, 0), mzc_99) mzt_99 := by
  refine ⟨fun i => ?_, rfl, Or.inr mz_oky_99⟩
  rcases Nat.lt_or_ge i 60 with h0 | h0
  · exact mz_okR_at mz_okr_99_0 (Nat.zero_le i) h0
  rcases Nat.lt_or_ge i 97 with h1 | h1
  · exact mz_okR_at mz_okr_99_1 h0 h1
  exact mz_okAt_out (M := (5, 12, (0, 0, 0), mzc_99)) (Nat.le_trans (show mzc_99.length ≤ 97 by decide +kernel) h1)
theorem mz_oka_100 : mz_okQ (3, 12, (0, 0, 0), mzc_100) mzt_100 := by
  refine ⟨fun i => ?_, rfl, Or.inr mz_oky_100⟩
  rcases Nat.lt_or_ge i 25 with h0 | h0
  · exact mz_okR_at mz_okr_100_0 (Nat.zero_le i) h0
  exact mz_okAt_out (M := (3, 12, (0, 0, 0), mzc_100)) (Nat.le_trans (show mzc_100.length ≤ 25 by decide +kernel) h0)
theorem mz_oka_101 : mz_okQ (3, 12, (0, 0, 0), mzc_101) mzt_101 := by
  refine ⟨fun i => ?_, rfl, Or.inr mz_oky_101⟩
  rcases Nat.lt_or_ge i 26 with h0 | h0
  · exact mz_okR_at mz_okr_101_0 (Nat.zero_le i) h0
  exact mz_okAt_out (M := (3, 12, (0, 0, 0), mzc_101)) (Nat.le_trans (show mzc_101.length ≤ 26 by decide +kernel) h0)
theorem mz_oka_102 : mz_okQ (9, 12, (0, 0, 0), mzc_102) mzt_102 := by
  refine ⟨fun i => ?_, rfl, Or.inr mz_oky_102⟩
  rcases Nat.lt_or_ge i 60 with h0 | h0
  · exact mz_okR_at mz_okr_102_0 (Nat.zero_le i) h0
  rcases Nat.lt_or_ge i 83 with h1 | h1
  · exact mz_okR_at mz_okr_102_1 h0 h1
  exact mz_okAt_out (M := (9, 12, (0, 0, 0), mzc_102)) (Nat.le_trans (show mzc_102.length ≤ 83 by decide +kernel) h1)
theorem mz_oka_103 : mz_okQ (2, 12, (0, 0, 0), mzc_103) mzt_103 := by
  refine ⟨fun i => ?_, rfl, Or.inr mz_oky_103⟩
  rcases Nat.lt_or_ge i 18 with h0 | h0
  · exact mz_okR_at mz_okr_103_0 (Nat.zero_le i) h0
  exact mz_okAt_out (M := (2, 12, (0, 0, 0), mzc_103)) (Nat.le_trans (show mzc_103.length ≤ 18 by decide +kernel) h0)
theorem mz_oka_104 : mz_okQ (2, 12, (0, 0, 0), mzc_104) mzt_104 := by
  refine ⟨fun i => ?_, rfl, Or.inr mz_oky_104⟩
  rcases Nat.lt_or_ge i 54 with h0 | h0
  · exact mz_okR_at mz_okr_104_0 (Nat.zero_le i) h0
  exact mz_okAt_out (M := (2, 12, (0, 0, 0), mzc_104)) (Nat.le_trans (show mzc_104.length ≤ 54 by decide +kernel) h0)
theorem mz_oka_105 : mz_okQ (3, 12, (0, 0, 0), mzc_105) mzt_105 := by
  refine ⟨fun i => ?_, rfl, Or.inr mz_oky_105⟩
  rcases Nat.lt_or_ge i 39 with h0 | h0
  · exact mz_okR_at mz_okr_105_0 (Nat.zero_le i) h0
  exact mz_okAt_out (M := (3, 12, (0, 0, 0), mzc_105)) (Nat.le_trans (show mzc_105.length ≤ 39 by decide +kernel) h0)
theorem mz_oka_106 : mz_okQ (5, 12, (0, 0, 0), mzc_106) mzt_106 := by
  refine ⟨fun i => ?_, rfl, Or.inr mz_oky_106⟩
  rcases Nat.lt_or_ge i 30 with h0 | h0
  · exact mz_okR_at mz_okr_106_0 (Nat.zero_le i) h0
  exact mz_okAt_out (M := (5, 12, (0, 0, 0), mzc_106)) (Nat.le_trans (show mzc_106.length ≤ 30 by decide +kernel) h0)
theorem mz_oka_107 : mz_okQ (4, 12, (0, 0, 0), mzc_107) mzt_107 := by
  refine ⟨fun i => ?_, rfl, Or.inr mz_oky_107⟩
  rcases Nat.lt_or_ge i 26 with h0 | h0
  · exact mz_okR_at mz_okr_107_0 (Nat.zero_le i) h0
  exact mz_okAt_out (M := (4, 12, (0, 0, 0), mzc_107)) (Nat.le_trans (show mzc_107.length ≤ 26 by decide +kernel) h0)
theorem mz_oka_108 : mz_okQ (5, 12, (0, 0, 0), mzc_108) mzt_108 := by
  refine ⟨fun i => ?_, rfl, Or.inr mz_oky_108⟩
  rcases Nat.lt_or_ge i 28 with h0 | h0
  · exact mz_okR_at mz_okr_108_0 (Nat.zero_le i) h0
  exact mz_okAt_out (M := (5, 12, (0, 0, 0), mzc_108)) (Nat.le_trans (show mzc_108.length ≤ 28 by decide +kernel) h0)
theorem mz_oka_109 : mz_okQ (4, 12, (0, 0, 0), mzc_109) mzt_109 := by
  refine ⟨fun i => ?_, rfl, Or.inr mz_oky_109⟩
  rcases Nat.lt_or_ge i 29 with h0 | h0
  · exact mz_okR_at mz_okr_109_0 (Nat.zero_le i) h0
  exact mz_okAt_out (M := (4, 12, (0, 0, 0), mzc_109)) (Nat.le_trans (show mzc_109.length ≤ 29 by decide +kernel) h0)
theorem mz_oka_110 : mz_okQ (3, 12, (0, 0, 0), mzc_110) mzt_110 := by
  refine ⟨fun i => ?_, rfl, Or.inr mz_oky_110⟩
  rcases Nat.lt_or_ge i 18 with h0 | h0
  · exact mz_okR_at mz_okr_110_0 (Nat.zero_le i) h0
  exact mz_okAt_out (M := (3, 12, (0, 0, 0), mzc_110)) (Nat.le_trans (show mzc_110.length ≤ 18 by decide +kernel) h0)
theorem mz_oka_111 : mz_okQ (5, 12, (0, 0, 0), mzc_111) mzt_111 := by
  refine ⟨fun i => ?_, rfl, Or.inr mz_oky_111⟩
  rcases Nat.lt_or_ge i 39 with h0 | h0
  · exact mz_okR_at mz_okr_111_0 (Nat.zero_le i) h0
  exact mz_okAt_out (M := (5, 12, (0, 0, 0), mzc_111)) (Nat.le_trans (show mzc_111.length ≤ 39 by decide +kernel) h0)
theorem mz_oka_112 : mz_okQ (5, 12, (0, 0, 0), mzc_112) mzt_112 := by
  refine ⟨fun i => ?_, rfl, Or.inr mz_oky_112⟩
  rcases Nat.lt_or_ge i 60 with h0 | h0
  · exact mz_okR_at mz_okr_112_0 (Nat.zero_le i) h0
  rcases Nat.lt_or_ge i 68 with h1 | h1
  · exact mz_okR_at mz_okr_112_1 h0 h1
  exact mz_okAt_out (M := (5, 12, (0, 0, 0), mzc_112)) (Nat.le_trans (show mzc_112.length ≤ 68 by decide +kernel) h1)
theorem mz_oka_113 : mz_okQ (3, 12, (0, 0, 0), mzc_113) mzt_113 := by
  refine ⟨fun i => ?_, rfl, Or.inr mz_oky_113⟩
  rcases Nat.lt_or_ge i 31 with h0 | h0
  · exact mz_okR_at mz_okr_113_0 (Nat.zero_le i) h0
  exact mz_okAt_out (M := (3, 12, (0, 0, 0), mzc_113)) (Nat.le_trans (show mzc_113.length ≤ 31 by decide +kernel) h0)
theorem mz_oka_114 : mz_okQ (2, 12, (0, 0, 0), mzc_114) mzt_114 := by
  refine ⟨fun i => ?_, rfl, Or.inr mz_oky_114⟩
  rcases Nat.lt_or_ge i 20 with h0 | h0
  · exact mz_okR_at mz_okr_114_0 (Nat.zero_le i) h0
  exact mz_okAt_out (M := (2, 12, (0, 0, 0), mzc_114)) (Nat.le_trans (show mzc_114.length ≤ 20 by decide +kernel) h0)
theorem mz_oka_115 : mz_okQ (3, 12, (0, 0, 0), mzc_115) mzt_115 := by
  refine ⟨fun i => ?_, rfl, Or.inr mz_oky_115⟩
  rcases Nat.lt_or_ge i 60 with h0 | h0
  · exact mz_okR_at mz_okr_115_0 (Nat.zero_le i) h0
  rcases Nat.lt_or_ge i 80 with h1 | h1
  · exact mz_okR_at mz_okr_115_1 h0 h1
  exact mz_okAt_out (M := (3, 12, (0, 0, 0), mzc_115)) (Nat.le_trans (show mzc_115.length ≤ 80 by decide +kernel) h1)
theorem mz_oka_116 : mz_okQ (5, 12, (0, 0, 0), mzc_116) mzt_116 := by
  refine ⟨fun i => ?_, rfl, Or.inr mz_oky_116⟩
  rcases Nat.lt_or_ge i 60 with h0 | h0
  · exact mz_okR_at mz_okr_116_0 (Nat.zero_le i) h0
  rcases Nat.lt_or_ge i 73 with h1 | h1
  · exact mz_okR_at mz_okr_116_1 h0 h1
  exact mz_okAt_out (M := (5, 12, (0, 0, 0), mzc_116)) (Nat.le_trans (show mzc_116.length ≤ 73 by decide +kernel) h1)
theorem mz_oka_117 : mz_okQ (3, 12, (0, 0, 0), mzc_117) mzt_117 := by
  refine ⟨fun i => ?_, rfl, Or.inr mz_oky_117⟩
  rcases Nat.lt_or_ge i 60 with h0 | h0
  · exact mz_okR_at mz_okr_117_0 (Nat.zero_le i) h0
  rcases Nat.lt_or_ge i 75 with h1 | h1
  · exact mz_okR_at mz_okr_117_1 h0 h1
  exact mz_okAt_out (M := (3, 12, (0, 0, 0), mzc_117)) (Nat.le_trans (show mzc_117.length ≤ 75 by decide +kernel) h1)
theorem mz_oka_118 : mz_okQ (2, 12, (0, 0, 0), mzc_118) mzt_118 := by
  refine ⟨fun i => ?_, rfl, Or.inr mz_oky_118⟩
  rcases Nat.lt_or_ge i 37 with h0 | h0
  · exact mz_okR_at mz_okr_118_0 (Nat.zero_le i) h0
  exact mz_okAt_out (M := (2, 12, (0, 0, 0), mzc_118)) (Nat.le_trans (show mzc_118.length ≤ 37 by decide +kernel) h0)
theorem mz_oka_119 : mz_okQ (2, 12, (0, 0, 0), mzc_119) mzt_119 := by
  refine ⟨fun i => ?_, rfl, Or.inr mz_oky_119⟩
  rcases Nat.lt_or_ge i 35 with h0 | h0
  · exact mz_okR_at mz_okr_119_0 (Nat.zero_le i) h0
  exact mz_okAt_out (M := (2, 12, (0, 0, 0), mzc_119)) (Nat.le_trans (show mzc_119.length ≤ 35 by decide +kernel) h0)
theorem mz_oka_120 : mz_okQ (5, 12, (0, 0, 0), mzc_120) mzt_120 := by
  refine ⟨fun i => ?_, rfl, Or.inr mz_oky_120⟩
  rcases Nat.lt_or_ge i 36 with h0 | h0
  · exact mz_okR_at mz_okr_120_0 (Nat.zero_le i) h0
  exact mz_okAt_out (M := (5, 12, (0, 0, 0), mzc_120)) (Nat.le_trans (show mzc_120.length ≤ 36 by decide +kernel) h0)
theorem mz_oka_121 : mz_okQ (5, 12, (0, 0, 0), mzc_121) mzt_121 := by
  refine ⟨fun i => ?_, rfl, Or.inr mz_oky_121⟩
  rcases Nat.lt_or_ge i 28 with h0 | h0
  · exact mz_okR_at mz_okr_121_0 (Nat.zero_le i) h0
  exact mz_okAt_out (M := (5, 12, (0, 0, 0), mzc_121)) (Nat.le_trans (show mzc_121.length ≤ 28 by decide +kernel) h0)
theorem mz_oka_122 : mz_okQ (7, 12, (0, 0, 0), mzc_122) mzt_122 := by
  refine ⟨fun i => ?_, rfl, Or.inr mz_oky_122⟩
  rcases Nat.lt_or_ge i 60 with h0 | h0
  · exact mz_okR_at mz_okr_122_0 (Nat.zero_le i) h0
  rcases Nat.lt_or_ge i 80 with h1 | h1
  · exact mz_okR_at mz_okr_122_1 h0 h1
  exact mz_okAt_out (M := (7, 12, (0, 0, 0), mzc_122)) (Nat.le_trans (show mzc_122.length ≤ 80 by decide +kernel) h1)
theorem mz_oka_123 : mz_okQ (7, 12, (0, 0, 0), mzc_123) mzt_123 := by
  refine ⟨fun i => ?_, rfl, Or.inr mz_oky_123⟩
  rcases Nat.lt_or_ge i 60 with h0 | h0
  · exact mz_okR_at mz_okr_123_0 (Nat.zero_le i) h0
  rcases Nat.lt_or_ge i 80 with h1 | h1
  · exact mz_okR_at mz_okr_123_1 h0 h1
  exact mz_okAt_out (M := (7, 12, (0, 0, 0), mzc_123)) (Nat.le_trans (show mzc_123.length ≤ 80 by decide +kernel) h1)
theorem mz_oka_124 : mz_okQ (4, 12, (0, 0, 0), mzc_124) mzt_124 := by
  refine ⟨fun i => ?_, rfl, Or.inr mz_oky_124⟩
  rcases Nat.lt_or_ge i 26 with h0 | h0
  · exact mz_okR_at mz_okr_124_0 (Nat.zero_le i) h0
  exact mz_okAt_out (M := (4, 12, (0, 0, 0), mzc_124)) (Nat.le_trans (show mzc_124.length ≤ 26 by decide +kernel) h0)
theorem mz_oka_125 : mz_okQ (8, 12, (0, 0, 0), mzc_125) mzt_125 := by
  refine ⟨fun i => ?_, rfl, Or.inr mz_oky_125⟩
  rcases Nat.lt_or_ge i 60 with h0 | h0
  · exact mz_okR_at mz_okr_125_0 (Nat.zero_le i) h0
  rcases Nat.lt_or_ge i 93 with h1 | h1
  · exact mz_okR_at mz_okr_125_1 h0 h1
  exact mz_okAt_out (M := (8, 12, (0, 0, 0), mzc_125)) (Nat.le_trans (show mzc_125.length ≤ 93 by decide +kernel) h1)
theorem mz_oka_126 : mz_okQ (2, 12, (0, 0, 0), mzc_126) mzt_126 := by
  refine ⟨fun i => ?_, rfl, Or.inr mz_oky_126⟩
  rcases Nat.lt_or_ge i 20 with h0 | h0
  · exact mz_okR_at mz_okr_126_0 (Nat.zero_le i) h0
  exact mz_okAt_out (M := (2, 12, (0, 0, 0), mzc_126)) (Nat.le_trans (show mzc_126.length ≤ 20 by decide +kernel) h0)
theorem mz_oka_127 : mz_okQ (5, 12, (0, 0, 0), mzc_127) mzt_127 := by
  refine ⟨fun i => ?_, rfl, Or.inr mz_oky_127⟩
  rcases Nat.lt_or_ge i 51 with h0 | h0
  · exact mz_okR_at mz_okr_127_0 (Nat.zero_le i) h0
  exact mz_okAt_out (M := (5, 12, (0, 0, 0), mzc_127)) (Nat.le_trans (show mzc_127.length ≤ 51 by decide +kernel) h0)
theorem mz_oka_128 : mz_okQ (2, 12, (0, 0, 0), mzc_128) mzt_128 := by
  refine ⟨fun i => ?_, rfl, Or.inr mz_oky_128⟩
  rcases Nat.lt_or_ge i 11 with h0 | h0
  · exact mz_okR_at mz_okr_128_0 (Nat.zero_le i) h0
  exact mz_okAt_out (M := (2, 12, (0, 0, 0), mzc_128)) (Nat.le_trans (show mzc_128.length ≤ 11 by decide +kernel) h0)
theorem mz_oka_129 : mz_okQ (3, 12, (0, 0, 0), mzc_129) mzt_129 := by
  refine ⟨fun i => ?_, rfl, Or.inr mz_oky_129⟩
  rcases Nat.lt_or_ge i 18 with h0 | h0
  · exact mz_okR_at mz_okr_129_0 (Nat.zero_le i) h0
  exact mz_okAt_out (M := (3, 12, (0, 0, 0), mzc_129)) (Nat.le_trans (show mzc_129.length ≤ 18 by decide +kernel) h0)
theorem mz_oka_130 : mz_okQ (3, 12, (0, 0, 0), mzc_130) mzt_130 := by
  refine ⟨fun i => ?_, rfl, Or.inr mz_oky_130⟩
  rcases Nat.lt_or_ge i 29 with h0 | h0
  · exact mz_okR_at mz_okr_130_0 (Nat.zero_le i) h0
  exact mz_okAt_out (M := (3, 12, (0, 0, 0), mzc_130)) (Nat.le_trans (show mzc_130.length ≤ 29 by decide +kernel) h0)
theorem mz_oka_131 : mz_okQ (2, 12, (0, 0, 0), mzc_131) mzt_131 := by
  refine ⟨fun i => ?_, rfl, Or.inr mz_oky_131⟩
  rcases Nat.lt_or_ge i 25 with h0 | h0
  · exact mz_okR_at mz_okr_131_0 (Nat.zero_le i) h0
  exact mz_okAt_out (M := (2, 12, (0, 0, 0), mzc_131)) (Nat.le_trans (show mzc_131.length ≤ 25 by decide +kernel) h0)
theorem mz_oka_132 : mz_okQ (4, 12, (0, 0, 0), mzc_132) mzt_132 := by
  refine ⟨fun i => ?_, rfl, Or.inr mz_oky_132⟩
  rcases Nat.lt_or_ge i 52 with h0 | h0
  · exact mz_okR_at mz_okr_132_0 (Nat.zero_le i) h0
  exact mz_okAt_out (M := (4, 12, (0, 0, 0), mzc_132)) (Nat.le_trans (show mzc_132.length ≤ 52 by decide +kernel) h0)
theorem mz_oka_133 : mz_okQ (6, 12, (0, 0, 0), mzc_133) mzt_133 := by
  refine ⟨fun i => ?_, rfl, Or.inr mz_oky_133⟩
  rcases Nat.lt_or_ge i 55 with h0 | h0
  · exact mz_okR_at mz_okr_133_0 (Nat.zero_le i) h0
  exact mz_okAt_out (M := (6, 12, (0, 0, 0), mzc_133)) (Nat.le_trans (show mzc_133.length ≤ 55 by decide +kernel) h0)
theorem mz_oka_134 : mz_okQ (3, 12, (0, 0, 0), mzc_134) mzt_134 := by
  refine ⟨fun i => ?_, rfl, Or.inr mz_oky_134⟩
  rcases Nat.lt_or_ge i 40 with h0 | h0
  · exact mz_okR_at mz_okr_134_0 (Nat.zero_le i) h0
  exact mz_okAt_out (M := (3, 12, (0, 0, 0), mzc_134)) (Nat.le_trans (show mzc_134.length ≤ 40 by decide +kernel) h0)
theorem mz_oka_135 : mz_okQ (7, 12, (0, 0, 0), mzc_135) mzt_135 := by
  refine ⟨fun i => ?_, rfl, Or.inr mz_oky_135⟩
  rcases Nat.lt_or_ge i 60 with h0 | h0
  · exact mz_okR_at mz_okr_135_0 (Nat.zero_le i) h0
  rcases Nat.lt_or_ge i 77 with h1 | h1
  · exact mz_okR_at mz_okr_135_1 h0 h1
  exact mz_okAt_out (M := (7, 12, (0, 0, 0), mzc_135)) (Nat.le_trans (show mzc_135.length ≤ 77 by decide +kernel) h1)
theorem mz_oka_136 : mz_okQ (7, 12, (0, 0, 0), mzc_136) mzt_136 := by
  refine ⟨fun i => ?_, rfl, Or.inr mz_oky_136⟩
  rcases Nat.lt_or_ge i 48 with h0 | h0
  · exact mz_okR_at mz_okr_136_0 (Nat.zero_le i) h0
  exact mz_okAt_out (M := (7, 12, (0, 0, 0), mzc_136)) (Nat.le_trans (show mzc_136.length ≤ 48 by decide +kernel) h0)
theorem mz_oka_137 : mz_okQ (3, 12, (0, 0, 0), mzc_137) mzt_137 := by
  refine ⟨fun i => ?_, rfl, Or.inr mz_oky_137⟩
  rcases Nat.lt_or_ge i 27 with h0 | h0
  · exact mz_okR_at mz_okr_137_0 (Nat.zero_le i) h0
  exact mz_okAt_out (M := (3, 12, (0, 0, 0), mzc_137)) (Nat.le_trans (show mzc_137.length ≤ 27 by decide +kernel) h0)
theorem mz_oka_138 : mz_okQ (5, 12, (0, 0, 0), mzc_138) mzt_138 := by
  refine ⟨fun i => ?_, rfl, Or.inr mz_oky_138⟩
  rcases Nat.lt_or_ge i 28 with h0 | h0
  · exact mz_okR_at mz_okr_138_0 (Nat.zero_le i) h0
  exact mz_okAt_out (M := (5, 12, (0, 0, 0), mzc_138)) (Nat.le_trans (show mzc_138.length ≤ 28 by decide +kernel) h0)
theorem mz_oka_139 : mz_okQ (5, 12, (0, 0, 0), mzc_139) mzt_139 := by
  refine ⟨fun i => ?_, rfl, Or.inr mz_oky_139⟩
  rcases Nat.lt_or_ge i 42 with h0 | h0
  · exact mz_okR_at mz_okr_139_0 (Nat.zero_le i) h0
  exact mz_okAt_out (M := (5, 12, (0, 0, 0), mzc_139)) (Nat.le_trans (show mzc_139.length ≤ 42 by decide +kernel) h0)
theorem mz_oka_140 : mz_okQ (2, 12, (0, 0, 0), mzc_140) mzt_140 := by
  refine ⟨fun i => ?_, rfl, Or.inr mz_oky_140⟩
  rcases Nat.lt_or_ge i 12 with h0 | h0
  · exact mz_okR_at mz_okr_140_0 (Nat.zero_le i) h0
  exact mz_okAt_out (M := (2, 12, (0, 0, 0), mzc_140)) (Nat.le_trans (show mzc_140.length ≤ 12 by decide +kernel) h0)
theorem mz_oka_141 : mz_okQ (6, 12, (0, 0, 0), mzc_141) mzt_141 := by
  refine ⟨fun i => ?_, rfl, Or.inr mz_oky_141⟩
  rcases Nat.lt_or_ge i 60 with h0 | h0
  · exact mz_okR_at mz_okr_141_0 (Nat.zero_le i) h0
  rcases Nat.lt_or_ge i 91 with h1 | h1
  · exact mz_okR_at mz_okr_141_1 h0 h1
  exact mz_okAt_out (M := (6, 12, (0, 0, 0), mzc_141)) (Nat.le_trans (show mzc_141.length ≤ 91 by decide +kernel) h1)
theorem mz_oka_142 : mz_okQ (7, 12, (0, 0, 0), mzc_142) mzt_142 := by
  refine ⟨fun i => ?_, rfl, Or.inr mz_oky_142⟩
  rcases Nat.lt_or_ge i 60 with h0 | h0
  · exact mz_okR_at mz_okr_142_0 (Nat.zero_le i) h0
  rcases Nat.lt_or_ge i 113 with h1 | h1
  · exact mz_okR_at mz_okr_142_1 h0 h1
  exact mz_okAt_out (M := (7, 12, (0, 0, 0), mzc_142)) (Nat.le_trans (show mzc_142.length ≤ 113 by decide +kernel) h1)
theorem mz_oka_143 : mz_okQ (5, 12, (0, 0, 0), mzc_143) mzt_143 := by
  refine ⟨fun i => ?_, rfl, Or.inr mz_oky_143⟩
  rcases Nat.lt_or_ge i 52 with h0 | h0
  · exact mz_okR_at mz_okr_143_0 (Nat.zero_le i) h0
  exact mz_okAt_out (M := (5, 12, (0, 0, 0), mzc_143)) (Nat.le_trans (show mzc_143.length ≤ 52 by decide +kernel) h0)
theorem mz_oka_144 : mz_okQ (2, 12, (0, 0, 0), mzc_144) mzt_144 := by
  refine ⟨fun i => ?_, rfl, Or.inr mz_oky_144⟩
  rcases Nat.lt_or_ge i 13 with h0 | h0
  · exact mz_okR_at mz_okr_144_0 (Nat.zero_le i) h0
  exact mz_okAt_out (M := (2, 12, (0, 0, 0), mzc_144)) (Nat.le_trans (show mzc_144.length ≤ 13 by decide +kernel) h0)
theorem mz_oka_145 : mz_okQ (2, 12, (0, 0, 0), mzc_145) mzt_145 := by
  refine ⟨fun i => ?_, rfl, Or.inr mz_oky_145⟩
  rcases Nat.lt_or_ge i 21 with h0 | h0
  · exact mz_okR_at mz_okr_145_0 (Nat.zero_le i) h0
  exact mz_okAt_out (M := (2, 12, (0, 0, 0), mzc_145)) (Nat.le_trans (show mzc_145.length ≤ 21 by decide +kernel) h0)
theorem mz_oka_146 : mz_okQ (2, 12, (0, 0, 0), mzc_146) mzt_146 := by
  refine ⟨fun i => ?_, rfl, Or.inr mz_oky_146⟩
  rcases Nat.lt_or_ge i 23 with h0 | h0
  · exact mz_okR_at mz_okr_146_0 (Nat.zero_le i) h0
  exact mz_okAt_out (M := (2, 12, (0, 0, 0), mzc_146)) (Nat.le_trans (show mzc_146.length ≤ 23 by decide +kernel) h0)
theorem mz_oka_147 : mz_okQ (2, 12, (0, 0, 0), mzc_147) mzt_147 := by
  refine ⟨fun i => ?_, rfl, Or.inr mz_oky_147⟩
  rcases Nat.lt_or_ge i 10 with h0 | h0
  · exact mz_okR_at mz_okr_147_0 (Nat.zero_le i) h0
  exact mz_okAt_out (M := (2, 12, (0, 0, 0), mzc_147)) (Nat.le_trans (show mzc_147.length ≤ 10 by decide +kernel) h0)
theorem mz_oka_148 : mz_okQ (2, 12, (0, 0, 0), mzc_148) mzt_148 := by
  refine ⟨fun i => ?_, rfl, Or.inr mz_oky_148⟩
  rcases Nat.lt_or_ge i 20 with h0 | h0
  · exact mz_okR_at mz_okr_148_0 (Nat.zero_le i) h0
  exact mz_okAt_out (M := (2, 12, (0, 0, 0), mzc_148)) (Nat.le_trans (show mzc_148.length ≤ 20 by decide +kernel) h0)
theorem mz_oka_149 : mz_okQ (4, 12, (0, 0, 0), mzc_149) mzt_149 := by
  refine ⟨fun i => ?_, rfl, Or.inr mz_oky_149⟩
  rcases Nat.lt_or_ge i 46 with h0 | h0
  · exact mz_okR_at mz_okr_149_0 (Nat.zero_le i) h0
  exact mz_okAt_out (M := (4, 12, (0, 0, 0), mzc_149)) (Nat.le_trans (show mzc_149.length ≤ 46 by decide +kernel) h0)
theorem mz_oka_150 : mz_okQ (3, 12, (0, 0, 0), mzc_150) mzt_150 := by
  refine ⟨fun i => ?_, rfl, Or.inr mz_oky_150⟩
  rcases Nat.lt_or_ge i 24 with h0 | h0
  · exact mz_okR_at mz_okr_150_0 (Nat.zero_le i) h0
  exact mz_okAt_out (M := (3, 12, (0, 0, 0), mzc_150)) (Nat.le_trans (show mzc_150.length ≤ 24 by decide +kernel) h0)
theorem mz_oka_151 : mz_okQ (3, 12, (0, 0, 0), mzc_151) mzt_151 := by
  refine ⟨fun i => ?_, rfl, Or.inr mz_oky_151⟩
  rcases Nat.lt_or_ge i 36 with h0 | h0
  · exact mz_okR_at mz_okr_151_0 (Nat.zero_le i) h0
  exact mz_okAt_out (M := (3, 12, (0, 0, 0), mzc_151)) (Nat.le_trans (show mzc_151.length ≤ 36 by decide +kernel) h0)
theorem mz_oka_152 : mz_okQ (5, 12, (0, 0, 0), mzc_152) mzt_152 := by
  refine ⟨fun i => ?_, rfl, Or.inr mz_oky_152⟩
  rcases Nat.lt_or_ge i 47 with h0 | h0
  · exact mz_okR_at mz_okr_152_0 (Nat.zero_le i) h0
  exact mz_okAt_out (M := (5, 12, (0, 0, 0), mzc_152)) (Nat.le_trans (show mzc_152.length ≤ 47 by decide +kernel) h0)
theorem mz_oka_153 : mz_okQ (6, 12, (0, 0, 0), mzc_153) mzt_153 := by
  refine ⟨fun i => ?_, rfl, Or.inr mz_oky_153⟩
  rcases Nat.lt_or_ge i 26 with h0 | h0
  · exact mz_okR_at mz_okr_153_0 (Nat.zero_le i) h0
  exact mz_okAt_out (M := (6, 12, (0, 0, 0), mzc_153)) (Nat.le_trans (show mzc_153.length ≤ 26 by decide +kernel) h0)
theorem mz_oka_154 : mz_okQ (7, 12, (0, 0, 0), mzc_154) mzt_154 := by
  refine ⟨fun i => ?_, rfl, Or.inr mz_oky_154⟩
  rcases Nat.lt_or_ge i 54 with h0 | h0
  · exact mz_okR_at mz_okr_154_0 (Nat.zero_le i) h0
  exact mz_okAt_out (M := (7, 12, (0, 0, 0), mzc_154)) (Nat.le_trans (show mzc_154.length ≤ 54 by decide +kernel) h0)
theorem mz_oka_155 : mz_okQ (7, 12, (0, 0, 0), mzc_155) mzt_155 := by
  refine ⟨fun i => ?_, rfl, Or.inr mz_oky_155⟩
  rcases Nat.lt_or_ge i 47 with h0 | h0
  · exact mz_okR_at mz_okr_155_0 (Nat.zero_le i) h0
  exact mz_okAt_out (M := (7, 12, (0, 0, 0), mzc_155)) (Nat.le_trans (show mzc_155.length ≤ 47 by decide +kernel) h0)
theorem mz_oka_156 : mz_okQ (9, 12, (0, 0, 0), mzc_156) mzt_156 := by
  refine ⟨fun i => ?_, rfl, Or.inr mz_oky_156⟩
  rcases Nat.lt_or_ge i 60 with h0 | h0
  · exact mz_okR_at mz_okr_156_0 (Nat.zero_le i) h0
  rcases Nat.lt_or_ge i 85 with h1 | h1
  · exact mz_okR_at mz_okr_156_1 h0 h1
  exact mz_okAt_out (M := (9, 12, (0, 0, 0), mzc_156)) (Nat.le_trans (show mzc_156.length ≤ 85 by decide +kernel) h1)
theorem mz_oka_157 : mz_okQ (5, 12, (0, 0, 0), mzc_157) mzt_157 := by
  refine ⟨fun i => ?_, rfl, Or.inr mz_oky_157⟩
  rcases Nat.lt_or_ge i 44 with h0 | h0
  · exact mz_okR_at mz_okr_157_0 (Nat.zero_le i) h0
  exact mz_okAt_out (M := (5, 12, (0, 0, 0), mzc_157)) (Nat.le_trans (show mzc_157.length ≤ 44 by decide +kernel) h0)
theorem mz_oka_158 : mz_okQ (4, 12, (0, 0, 0), mzc_158) mzt_158 := by
  refine ⟨fun i => ?_, rfl, Or.inr mz_oky_158⟩
  rcases Nat.lt_or_ge i 42 with h0 | h0
  · exact mz_okR_at mz_okr_158_0 (Nat.zero_le i) h0
  exact mz_okAt_out (M := (4, 12, (0, 0, 0), mzc_158)) (Nat.le_trans (show mzc_158.length ≤ 42 by decide +kernel) h0)
theorem mz_oka_159 : mz_okQ (6, 12, (0, 0, 0), mzc_159) mzt_159 := by
  refine ⟨fun i => ?_, rfl, Or.inr mz_oky_159⟩
  rcases Nat.lt_or_ge i 60 with h0 | h0
  · exact mz_okR_at mz_okr_159_0 (Nat.zero_le i) h0
  rcases Nat.lt_or_ge i 64 with h1 | h1
  · exact mz_okR_at mz_okr_159_1 h0 h1
  exact mz_okAt_out (M := (6, 12, (0, 0, 0), mzc_159)) (Nat.le_trans (show mzc_159.length ≤ 64 by decide +kernel) h1)
theorem mz_oka_160 : mz_okQ (4, 12, (0, 0, 0), mzc_160) mzt_160 := by
  refine ⟨fun i => ?_, rfl, Or.inr mz_oky_160⟩
  rcases Nat.lt_or_ge i 60 with h0 | h0
  · exact mz_okR_at mz_okr_160_0 (Nat.zero_le i) h0
  rcases Nat.lt_or_ge i 86 with h1 | h1
  · exact mz_okR_at mz_okr_160_1 h0 h1
  exact mz_okAt_out (M := (4, 12, (0, 0, 0), mzc_160)) (Nat.le_trans (show mzc_160.length ≤ 86 by decide +kernel) h1)
theorem mz_oka_161 : mz_okQ (6, 12, (0, 0, 0), mzc_161) mzt_161 := by
  refine ⟨fun i => ?_, rfl, Or.inr mz_oky_161⟩
  rcases Nat.lt_or_ge i 60 with h0 | h0
  · exact mz_okR_at mz_okr_161_0 (Nat.zero_le i) h0
  rcases Nat.lt_or_ge i 78 with h1 | h1
  · exact mz_okR_at mz_okr_161_1 h0 h1
  exact mz_okAt_out (M := (6, 12, (0, 0, 0), mzc_161)) (Nat.le_trans (show mzc_161.length ≤ 78 by decide +kernel) h1)
theorem mz_oka_162 : mz_okQ (3, 12, (0, 0, 0), mzc_162) mzt_162 := by
  refine ⟨fun i => ?_, rfl, Or.inr mz_oky_162⟩
  rcases Nat.lt_or_ge i 20 with h0 | h0
  · exact mz_okR_at mz_okr_162_0 (Nat.zero_le i) h0
  exact mz_okAt_out (M := (3, 12, (0, 0, 0), mzc_162)) (Nat.le_trans (show mzc_162.length ≤ 20 by decide +kernel) h0)
theorem mz_oka_163 : mz_okQ (2, 12, (0, 0, 0), mzc_163) mzt_163 := by
  refine ⟨fun i => ?_, rfl, Or.inr mz_oky_163⟩
  rcases Nat.lt_or_ge i 16 with h0 | h0
  · exact mz_okR_at mz_okr_163_0 (Nat.zero_le i) h0
  exact mz_okAt_out (M := (2, 12, (0, 0, 0), mzc_163)) (Nat.le_trans (show mzc_163.length ≤ 16 by decide +kernel) h0)
theorem mz_oka_164 : mz_okQ (2, 12, (0, 0, 0), mzc_164) mzt_164 := by
  refine ⟨fun i => ?_, rfl, Or.inr mz_oky_164⟩
  rcases Nat.lt_or_ge i 16 with h0 | h0
  · exact mz_okR_at mz_okr_164_0 (Nat.zero_le i) h0
  exact mz_okAt_out (M := (2, 12, (0, 0, 0), mzc_164)) (Nat.le_trans (show mzc_164.length ≤ 16 by decide +kernel) h0)
theorem mz_oka_165 : mz_okQ (3, 12, (0, 0, 0), mzc_165) mzt_165 := by
  refine ⟨fun i => ?_, rfl, Or.inr mz_oky_165⟩
  rcases Nat.lt_or_ge i 25 with h0 | h0
  · exact mz_okR_at mz_okr_165_0 (Nat.zero_le i) h0
  exact mz_okAt_out (M := (3, 12, (0, 0, 0), mzc_165)) (Nat.le_trans (show mzc_165.length ≤ 25 by decide +kernel) h0)
theorem mz_oka_166 : mz_okQ (9, 12, (0, 0, 0), mzc_166) mzt_166 := by
  refine ⟨fun i => ?_, rfl, Or.inr mz_oky_166⟩
  rcases Nat.lt_or_ge i 60 with h0 | h0
  · exact mz_okR_at mz_okr_166_0 (Nat.zero_le i) h0
  rcases Nat.lt_or_ge i 113 with h1 | h1
  · exact mz_okR_at mz_okr_166_1 h0 h1
  exact mz_okAt_out (M := (9, 12, (0, 0, 0), mzc_166)) (Nat.le_trans (show mzc_166.length ≤ 113 by decide +kernel) h1)
theorem mz_oka_167 : mz_okQ (3, 12, (0, 0, 0), mzc_167) mzt_167 := by
  refine ⟨fun i => ?_, rfl, Or.inr mz_oky_167⟩
  rcases Nat.lt_or_ge i 20 with h0 | h0
  · exact mz_okR_at mz_okr_167_0 (Nat.zero_le i) h0
  exact mz_okAt_out (M := (3, 12, (0, 0, 0), mzc_167)) (Nat.le_trans (show mzc_167.length ≤ 20 by decide +kernel) h0)
theorem mz_oka_168 : mz_okQ (5, 12, (0, 0, 0), mzc_168) mzt_168 := by
  refine ⟨fun i => ?_, rfl, Or.inr mz_oky_168⟩
  rcases Nat.lt_or_ge i 46 with h0 | h0
  · exact mz_okR_at mz_okr_168_0 (Nat.zero_le i) h0
  exact mz_okAt_out (M := (5, 12, (0, 0, 0), mzc_168)) (Nat.le_trans (show mzc_168.length ≤ 46 by decide +kernel) h0)
theorem mz_oka_169 : mz_okQ (4, 12, (0, 0, 0), mzc_169) mzt_169 := by
  refine ⟨fun i => ?_, rfl, Or.inr mz_oky_169⟩
  rcases Nat.lt_or_ge i 36 with h0 | h0
  · exact mz_okR_at mz_okr_169_0 (Nat.zero_le i) h0
  exact mz_okAt_out (M := (4, 12, (0, 0, 0), mzc_169)) (Nat.le_trans (show mzc_169.length ≤ 36 by decide +kernel) h0)
theorem mz_oka_170 : mz_okQ (2, 12, (0, 0, 0), mzc_170) mzt_170 := by
  refine ⟨fun i => ?_, rfl, Or.inr mz_oky_170⟩
  rcases Nat.lt_or_ge i 8 with h0 | h0
  · exact mz_okR_at mz_okr_170_0 (Nat.zero_le i) h0
  exact mz_okAt_out (M := (2, 12, (0, 0, 0), mzc_170)) (Nat.le_trans (show mzc_170.length ≤ 8 by decide +kernel) h0)
theorem mz_oka_171 : mz_okQ (1, 12, (0, 0, 0), mzc_171) mzt_171 := by
  refine ⟨fun i => ?_, rfl, Or.inr mz_oky_171⟩
  rcases Nat.lt_or_ge i 22 with h0 | h0
  · exact mz_okR_at mz_okr_171_0 (Nat.zero_le i) h0
  exact mz_okAt_out (M := (1, 12, (0, 0, 0), mzc_171)) (Nat.le_trans (show mzc_171.length ≤ 22 by decide +kernel) h0)
theorem mz_oka_172 : mz_okQ (8, 12, (0, 0, 0), mzc_172) mzt_172 := by
  refine ⟨fun i => ?_, rfl, Or.inr mz_oky_172⟩
  rcases Nat.lt_or_ge i 60 with h0 | h0
  · exact mz_okR_at mz_okr_172_0 (Nat.zero_le i) h0
  rcases Nat.lt_or_ge i 120 with h1 | h1
  · exact mz_okR_at mz_okr_172_1 h0 h1
  rcases Nat.lt_or_ge i 125 with h2 | h2
  · exact mz_okR_at mz_okr_172_2 h1 h2
  exact mz_okAt_out (M := (8, 12, (0, 0, 0), mzc_172)) (Nat.le_trans (show mzc_172.length ≤ 125 by decide +kernel) h2)
theorem mz_oka_173 : mz_okQ (7, 12, (0, 0, 0), mzc_173) mzt_173 := by
  refine ⟨fun i => ?_, rfl, Or.inr mz_oky_173⟩
  rcases Nat.lt_or_ge i 50 with h0 | h0
  · exact mz_okR_at mz_okr_173_0 (Nat.zero_le i) h0
  exact mz_okAt_out (M := (7, 12, (0, 0, 0), mzc_173)) (Nat.le_trans (show mzc_173.length ≤ 50 by decide +kernel) h0)
theorem mz_oka_174 : mz_okQ (2, 12, (0, 0, 0), mzc_174) mzt_174 := by
  refine ⟨fun i => ?_, rfl, Or.inr mz_oky_174⟩
  rcases Nat.lt_or_ge i 15 with h0 | h0
  · exact mz_okR_at mz_okr_174_0 (Nat.zero_le i) h0
  exact mz_okAt_out (M := (2, 12, (0, 0, 0), mzc_174)) (Nat.le_trans (show mzc_174.length ≤ 15 by decide +kernel) h0)
theorem mz_oka_175 : mz_okQ (1, 12, (0, 0, 0), mzc_175) mzt_175 := by
  refine ⟨fun i => ?_, rfl, Or.inr mz_oky_175⟩
  rcases Nat.lt_or_ge i 60 with h0 | h0
  · exact mz_okR_at mz_okr_175_0 (Nat.zero_le i) h0
  rcases Nat.lt_or_ge i 64 with h1 | h1
  · exact mz_okR_at mz_okr_175_1 h0 h1
  exact mz_okAt_out (M := (1, 12, (0, 0, 0), mzc_175)) (Nat.le_trans (show mzc_175.length ≤ 64 by decide +kernel) h1)
theorem mz_oka_176 : mz_okQ (4, 12, (0, 0, 0), mzc_176) mzt_176 := by
  refine ⟨fun i => ?_, rfl, Or.inr mz_oky_176⟩
  rcases Nat.lt_or_ge i 53 with h0 | h0
  · exact mz_okR_at mz_okr_176_0 (Nat.zero_le i) h0
  exact mz_okAt_out (M := (4, 12, (0, 0, 0), mzc_176)) (Nat.le_trans (show mzc_176.length ≤ 53 by decide +kernel) h0)
theorem mz_oka_177 : mz_okQ (3, 12, (0, 0, 0), mzc_177) mzt_177 := by
  refine ⟨fun i => ?_, rfl, Or.inr mz_oky_177⟩
  rcases Nat.lt_or_ge i 36 with h0 | h0
  · exact mz_okR_at mz_okr_177_0 (Nat.zero_le i) h0
  exact mz_okAt_out (M := (3, 12, (0, 0, 0), mzc_177)) (Nat.le_trans (show mzc_177.length ≤ 36 by decide +kernel) h0)
theorem mz_oka_178 : mz_okQ (3, 12, (0, 0, 0), mzc_178) mzt_178 := by
  refine ⟨fun i => ?_, rfl, Or.inr mz_oky_178⟩
  rcases Nat.lt_or_ge i 39 with h0 | h0
  · exact mz_okR_at mz_okr_178_0 (Nat.zero_le i) h0
  exact mz_okAt_out (M := (3, 12, (0, 0, 0), mzc_178)) (Nat.le_trans (show mzc_178.length ≤ 39 by decide +kernel) h0)
theorem mz_oka_179 : mz_okQ (4, 12, (0, 0, 0), mzc_179) mzt_179 := by
  refine ⟨fun i => ?_, rfl, Or.inr mz_oky_179⟩
  rcases Nat.lt_or_ge i 25 with h0 | h0
  · exact mz_okR_at mz_okr_179_0 (Nat.zero_le i) h0
  exact mz_okAt_out (M := (4, 12, (0, 0, 0), mzc_179)) (Nat.le_trans (show mzc_179.length ≤ 25 by decide +kernel) h0)
theorem mz_oka_180 : mz_okQ (2, 12, (0, 0, 0), mzc_180) mzt_180 := by
  refine ⟨fun i => ?_, rfl, Or.inr mz_oky_180⟩
  rcases Nat.lt_or_ge i 51 with h0 | h0
  · exact mz_okR_at mz_okr_180_0 (Nat.zero_le i) h0
  exact mz_okAt_out (M := (2, 12, (0, 0, 0), mzc_180)) (Nat.le_trans (show mzc_180.length ≤ 51 by decide +kernel) h0)
theorem mz_oka_181 : mz_okQ (2, 12, (0, 0, 0), mzc_181) mzt_181 := by
  refine ⟨fun i => ?_, rfl, Or.inr mz_oky_181⟩
  rcases Nat.lt_or_ge i 20 with h0 | h0
  · exact mz_okR_at mz_okr_181_0 (Nat.zero_le i) h0
  exact mz_okAt_out (M := (2, 12, (0, 0, 0), mzc_181)) (Nat.le_trans (show mzc_181.length ≤ 20 by decide +kernel) h0)
theorem mz_oka_182 : mz_okQ (3, 1, (0, 0, 0), mzc_182) mzt_182 := by
  refine ⟨fun i => ?_, rfl, Or.inr mz_oky_182⟩
  rcases Nat.lt_or_ge i 50 with h0 | h0
  · exact mz_okR_at mz_okr_182_0 (Nat.zero_le i) h0
  exact mz_okAt_out (M := (3, 1, (0, 0, 0), mzc_182)) (Nat.le_trans (show mzc_182.length ≤ 50 by decide +kernel) h0)
theorem mz_oka_183 : mz_okQ (3, 1, (0, 0, 0), mzc_183) mzt_183 := by
  refine ⟨fun i => ?_, rfl, Or.inr mz_oky_183⟩
  rcases Nat.lt_or_ge i 60 with h0 | h0
  · exact mz_okR_at mz_okr_183_0 (Nat.zero_le i) h0
  rcases Nat.lt_or_ge i 102 with h1 | h1
  · exact mz_okR_at mz_okr_183_1 h0 h1
  exact mz_okAt_out (M := (3, 1, (0, 0, 0), mzc_183)) (Nat.le_trans (show mzc_183.length ≤ 102 by decide +kernel) h1)
theorem mz_oka_184 : mz_okQ (1, 0, (0, 0, 0), mzc_184) mzt_184 := by
  refine ⟨fun i => ?_, rfl, Or.inr mz_oky_184⟩
  rcases Nat.lt_or_ge i 15 with h0 | h0
  · exact mz_okR_at mz_okr_184_0 (Nat.zero_le i) h0
  exact mz_okAt_out (M := (1, 0, (0, 0, 0), mzc_184)) (Nat.le_trans (show mzc_184.length ≤ 15 by decide +kernel) h0)
theorem mz_oka_185 : mz_okQ (5, 1, (0, 0, 0), mzc_185) mzt_185 := by
  refine ⟨fun i => ?_, rfl, Or.inr mz_oky_185⟩
  rcases Nat.lt_or_ge i 52 with h0 | h0
  · exact mz_okR_at mz_okr_185_0 (Nat.zero_le i) h0
  exact mz_okAt_out (M := (5, 1, (0, 0, 0), mzc_185)) (Nat.le_trans (show mzc_185.length ≤ 52 by decide +kernel) h0)
theorem mz_oka_186 : mz_okQ (12, 1, (0, 0, 0), mzc_186) mzt_186 := by
  refine ⟨fun i => ?_, rfl, Or.inr mz_oky_186⟩
  rcases Nat.lt_or_ge i 60 with h0 | h0
  · exact mz_okR_at mz_okr_186_0 (Nat.zero_le i) h0
  rcases Nat.lt_or_ge i 96 with h1 | h1
  · exact mz_okR_at mz_okr_186_1 h0 h1
  exact mz_okAt_out (M := (12, 1, (0, 0, 0), mzc_186)) (Nat.le_trans (show mzc_186.length ≤ 96 by decide +kernel) h1)
theorem mz_oka_187 : mz_okQ (4, 0, (0, 0, 0), mzc_187) mzt_187 := by
  refine ⟨fun i => ?_, rfl, Or.inr mz_oky_187⟩
  rcases Nat.lt_or_ge i 14 with h0 | h0
  · exact mz_okR_at mz_okr_187_0 (Nat.zero_le i) h0
  exact mz_okAt_out (M := (4, 0, (0, 0, 0), mzc_187)) (Nat.le_trans (show mzc_187.length ≤ 14 by decide +kernel) h0)
theorem mz_oka_188 : mz_okQ (2, 2, (0, 0, 0), mzc_188) mzt_188 := by
  refine ⟨fun i => ?_, rfl, Or.inr mz_oky_188⟩
  rcases Nat.lt_or_ge i 60 with h0 | h0
  · exact mz_okR_at mz_okr_188_0 (Nat.zero_le i) h0
  rcases Nat.lt_or_ge i 71 with h1 | h1
  · exact mz_okR_at mz_okr_188_1 h0 h1
  exact mz_okAt_out (M := (2, 2, (0, 0, 0), mzc_188)) (Nat.le_trans (show mzc_188.length ≤ 71 by decide +kernel) h1)
theorem mz_oka_189 : mz_okQ (1, 2, (0, 0, 0), mzc_189) mzt_189 := by
  refine ⟨fun i => ?_, rfl, Or.inr mz_oky_189⟩
  rcases Nat.lt_or_ge i 4 with h0 | h0
  · exact mz_okR_at mz_okr_189_0 (Nat.zero_le i) h0
  exact mz_okAt_out (M := (1, 2, (0, 0, 0), mzc_189)) (Nat.le_trans (show mzc_189.length ≤ 4 by decide +kernel) h0)
theorem mz_oka_190 : mz_okQ (3, 2, (0, 0, 0), mzc_190) mzt_190 := by
  refine ⟨fun i => ?_, rfl, Or.inr mz_oky_190⟩
  rcases Nat.lt_or_ge i 60 with h0 | h0
  · exact mz_okR_at mz_okr_190_0 (Nat.zero_le i) h0
  rcases Nat.lt_or_ge i 68 with h1 | h1
  · exact mz_okR_at mz_okr_190_1 h0 h1
  exact mz_okAt_out (M := (3, 2, (0, 0, 0), mzc_190)) (Nat.le_trans (show mzc_190.length ≤ 68 by decide +kernel) h1)
theorem mz_oka_191 : mz_okQ (2, 2, (0, 0, 0), mzc_191) mzt_191 := by
  refine ⟨fun i => ?_, rfl, Or.inr mz_oky_191⟩
  rcases Nat.lt_or_ge i 60 with h0 | h0
  · exact mz_okR_at mz_okr_191_0 (Nat.zero_le i) h0
  rcases Nat.lt_or_ge i 92 with h1 | h1
  · exact mz_okR_at mz_okr_191_1 h0 h1
  exact mz_okAt_out (M := (2, 2, (0, 0, 0), mzc_191)) (Nat.le_trans (show mzc_191.length ≤ 92 by decide +kernel) h1)
theorem mz_oka_192 : mz_okQ (3, 2, (0, 0, 0), mzc_192) mzt_192 := by
  refine ⟨fun i => ?_, rfl, Or.inr mz_oky_192⟩
  rcases Nat.lt_or_ge i 56 with h0 | h0
  · exact mz_okR_at mz_okr_192_0 (Nat.zero_le i) h0
  exact mz_okAt_out (M := (3, 2, (0, 0, 0), mzc_192)) (Nat.le_trans (show mzc_192.length ≤ 56 by decide +kernel) h0)
theorem mz_oka_193 : mz_okQ (6, 2, (0, 0, 0), mzc_193) mzt_193 := by
  refine ⟨fun i => ?_, rfl, Or.inr mz_oky_193⟩
  rcases Nat.lt_or_ge i 60 with h0 | h0
  · exact mz_okR_at mz_okr_193_0 (Nat.zero_le i) h0
  rcases Nat.lt_or_ge i 64 with h1 | h1
  · exact mz_okR_at mz_okr_193_1 h0 h1
  exact mz_okAt_out (M := (6, 2, (0, 0, 0), mzc_193)) (Nat.le_trans (show mzc_193.length ≤ 64 by decide +kernel) h1)
theorem mz_oka_194 : mz_okQ (4, 2, (0, 0, 0), mzc_194) mzt_194 := by
  refine ⟨fun i => ?_, rfl, Or.inr mz_oky_194⟩
  rcases Nat.lt_or_ge i 17 with h0 | h0
  · exact mz_okR_at mz_okr_194_0 (Nat.zero_le i) h0
  exact mz_okAt_out (M := (4, 2, (0, 0, 0), mzc_194)) (Nat.le_trans (show mzc_194.length ≤ 17 by decide +kernel) h0)
theorem mz_oka_195 : mz_okQ (4, 2, (0, 0, 0), mzc_195) mzt_195 := by
  refine ⟨fun i => ?_, rfl, Or.inr mz_oky_195⟩
  rcases Nat.lt_or_ge i 51 with h0 | h0
  · exact mz_okR_at mz_okr_195_0 (Nat.zero_le i) h0
  exact mz_okAt_out (M := (4, 2, (0, 0, 0), mzc_195)) (Nat.le_trans (show mzc_195.length ≤ 51 by decide +kernel) h0)
theorem mz_oka_196 : mz_okQ (5, 2, (0, 0, 0), mzc_196) mzt_196 := by
  refine ⟨fun i => ?_, rfl, Or.inr mz_oky_196⟩
  rcases Nat.lt_or_ge i 35 with h0 | h0
  · exact mz_okR_at mz_okr_196_0 (Nat.zero_le i) h0
  exact mz_okAt_out (M := (5, 2, (0, 0, 0), mzc_196)) (Nat.le_trans (show mzc_196.length ≤ 35 by decide +kernel) h0)
theorem mz_oka_197 : mz_okQ (3, 2, (0, 0, 0), mzc_197) mzt_197 := by
  refine ⟨fun i => ?_, rfl, Or.inr mz_oky_197⟩
  rcases Nat.lt_or_ge i 14 with h0 | h0
  · exact mz_okR_at mz_okr_197_0 (Nat.zero_le i) h0
  exact mz_okAt_out (M := (3, 2, (0, 0, 0), mzc_197)) (Nat.le_trans (show mzc_197.length ≤ 14 by decide +kernel) h0)
theorem mz_oka_198 : mz_okQ (1, 2, (0, 0, 0), mzc_198) mzt_198 := by
  refine ⟨fun i => ?_, rfl, Or.inr mz_oky_198⟩
  rcases Nat.lt_or_ge i 29 with h0 | h0
  · exact mz_okR_at mz_okr_198_0 (Nat.zero_le i) h0
  exact mz_okAt_out (M := (1, 2, (0, 0, 0), mzc_198)) (Nat.le_trans (show mzc_198.length ≤ 29 by decide +kernel) h0)
theorem mz_oka_199 : mz_okQ (4, 2, (0, 0, 0), mzc_199) mzt_199 := by
  refine ⟨fun i => ?_, rfl, Or.inr mz_oky_199⟩
  rcases Nat.lt_or_ge i 26 with h0 | h0
  · exact mz_okR_at mz_okr_199_0 (Nat.zero_le i) h0
  exact mz_okAt_out (M := (4, 2, (0, 0, 0), mzc_199)) (Nat.le_trans (show mzc_199.length ≤ 26 by decide +kernel) h0)
theorem mz_oka_200 : mz_okQ (3, 2, (0, 0, 0), mzc_200) mzt_200 := by
  refine ⟨fun i => ?_, rfl, Or.inr mz_oky_200⟩
  rcases Nat.lt_or_ge i 18 with h0 | h0
  · exact mz_okR_at mz_okr_200_0 (Nat.zero_le i) h0
  exact mz_okAt_out (M := (3, 2, (0, 0, 0), mzc_200)) (Nat.le_trans (show mzc_200.length ≤ 18 by decide +kernel) h0)
theorem mz_oka_201 : mz_okQ (2, 2, (0, 0, 0), mzc_201) mzt_201 := by
  refine ⟨fun i => ?_, rfl, Or.inr mz_oky_201⟩
  rcases Nat.lt_or_ge i 46 with h0 | h0
  · exact mz_okR_at mz_okr_201_0 (Nat.zero_le i) h0
  exact mz_okAt_out (M := (2, 2, (0, 0, 0), mzc_201)) (Nat.le_trans (show mzc_201.length ≤ 46 by decide +kernel) h0)
theorem mz_oka_202 : mz_okQ (6, 2, (0, 0, 0), mzc_202) mzt_202 := by
  refine ⟨fun i => ?_, rfl, Or.inr mz_oky_202⟩
  rcases Nat.lt_or_ge i 54 with h0 | h0
  · exact mz_okR_at mz_okr_202_0 (Nat.zero_le i) h0
  exact mz_okAt_out (M := (6, 2, (0, 0, 0), mzc_202)) (Nat.le_trans (show mzc_202.length ≤ 54 by decide +kernel) h0)
theorem mz_oka_203 : mz_okQ (6, 2, (0, 0, 0), mzc_203) mzt_203 := by
  refine ⟨fun i => ?_, rfl, Or.inr mz_oky_203⟩
  rcases Nat.lt_or_ge i 56 with h0 | h0
  · exact mz_okR_at mz_okr_203_0 (Nat.zero_le i) h0
  exact mz_okAt_out (M := (6, 2, (0, 0, 0), mzc_203)) (Nat.le_trans (show mzc_203.length ≤ 56 by decide +kernel) h0)
theorem mz_oka_204 : mz_okQ (6, 2, (0, 0, 0), mzc_204) mzt_204 := by
  refine ⟨fun i => ?_, rfl, Or.inr mz_oky_204⟩
  rcases Nat.lt_or_ge i 51 with h0 | h0
  · exact mz_okR_at mz_okr_204_0 (Nat.zero_le i) h0
  exact mz_okAt_out (M := (6, 2, (0, 0, 0), mzc_204)) (Nat.le_trans (show mzc_204.length ≤ 51 by decide +kernel) h0)
theorem mz_oka_205 : mz_okQ (6, 2, (0, 0, 0), mzc_205) mzt_205 := by
  refine ⟨fun i => ?_, rfl, Or.inr mz_oky_205⟩
  rcases Nat.lt_or_ge i 56 with h0 | h0
  · exact mz_okR_at mz_okr_205_0 (Nat.zero_le i) h0
  exact mz_okAt_out (M := (6, 2, (0, 0, 0), mzc_205)) (Nat.le_trans (show mzc_205.length ≤ 56 by decide +kernel) h0)
theorem mz_oka_206 : mz_okQ (5, 2, (0, 0, 0), mzc_206) mzt_206 := by
  refine ⟨fun i => ?_, rfl, Or.inr mz_oky_206⟩
  rcases Nat.lt_or_ge i 60 with h0 | h0
  · exact mz_okR_at mz_okr_206_0 (Nat.zero_le i) h0
  rcases Nat.lt_or_ge i 61 with h1 | h1
  · exact mz_okR_at mz_okr_206_1 h0 h1
  exact mz_okAt_out (M := (5, 2, (0, 0, 0), mzc_206)) (Nat.le_trans (show mzc_206.length ≤ 61 by decide +kernel) h1)
theorem mz_oka_207 : mz_okQ (4, 2, (0, 0, 0), mzc_207) mzt_207 := by
  refine ⟨fun i => ?_, rfl, Or.inr mz_oky_207⟩
  rcases Nat.lt_or_ge i 22 with h0 | h0
  · exact mz_okR_at mz_okr_207_0 (Nat.zero_le i) h0
  exact mz_okAt_out (M := (4, 2, (0, 0, 0), mzc_207)) (Nat.le_trans (show mzc_207.length ≤ 22 by decide +kernel) h0)
theorem mz_oka_208 : mz_okQ (4, 2, (0, 0, 0), mzc_208) mzt_208 := by
  refine ⟨fun i => ?_, rfl, Or.inr mz_oky_208⟩
  rcases Nat.lt_or_ge i 21 with h0 | h0
  · exact mz_okR_at mz_okr_208_0 (Nat.zero_le i) h0
  exact mz_okAt_out (M := (4, 2, (0, 0, 0), mzc_208)) (Nat.le_trans (show mzc_208.length ≤ 21 by decide +kernel) h0)
theorem mz_oka_209 : mz_okQ (4, 2, (0, 0, 0), mzc_209) mzt_209 := by
  refine ⟨fun i => ?_, rfl, Or.inr mz_oky_209⟩
  rcases Nat.lt_or_ge i 31 with h0 | h0
  · exact mz_okR_at mz_okr_209_0 (Nat.zero_le i) h0
  exact mz_okAt_out (M := (4, 2, (0, 0, 0), mzc_209)) (Nat.le_trans (show mzc_209.length ≤ 31 by decide +kernel) h0)
theorem mz_oka_210 : mz_okQ (4, 2, (0, 0, 0), mzc_210) mzt_210 := by
  refine ⟨fun i => ?_, rfl, Or.inr mz_oky_210⟩
  rcases Nat.lt_or_ge i 31 with h0 | h0
  · exact mz_okR_at mz_okr_210_0 (Nat.zero_le i) h0
  exact mz_okAt_out (M := (4, 2, (0, 0, 0), mzc_210)) (Nat.le_trans (show mzc_210.length ≤ 31 by decide +kernel) h0)
theorem mz_oka_211 : mz_okQ (3, 2, (0, 0, 0), mzc_211) mzt_211 := by
  refine ⟨fun i => ?_, rfl, Or.inr mz_oky_211⟩
  rcases Nat.lt_or_ge i 60 with h0 | h0
  · exact mz_okR_at mz_okr_211_0 (Nat.zero_le i) h0
  rcases Nat.lt_or_ge i 90 with h1 | h1
  · exact mz_okR_at mz_okr_211_1 h0 h1
  exact mz_okAt_out (M := (3, 2, (0, 0, 0), mzc_211)) (Nat.le_trans (show mzc_211.length ≤ 90 by decide +kernel) h1)
theorem mz_oka_212 : mz_okQ (2, 3, (0, 0, 0), mzc_212) mzt_212 := by
  refine ⟨fun i => ?_, rfl, Or.inr mz_oky_212⟩
  rcases Nat.lt_or_ge i 6 with h0 | h0
  · exact mz_okR_at mz_okr_212_0 (Nat.zero_le i) h0
  exact mz_okAt_out (M := (2, 3, (0, 0, 0), mzc_212)) (Nat.le_trans (show mzc_212.length ≤ 6 by decide +kernel) h0)
theorem mz_oka_213 : mz_okQ (2, 3, (0, 0, 0), mzc_213) mzt_213 := by
  refine ⟨fun i => ?_, rfl, Or.inr mz_oky_213⟩
  rcases Nat.lt_or_ge i 20 with h0 | h0
  · exact mz_okR_at mz_okr_213_0 (Nat.zero_le i) h0
  exact mz_okAt_out (M := (2, 3, (0, 0, 0), mzc_213)) (Nat.le_trans (show mzc_213.length ≤ 20 by decide +kernel) h0)
theorem mz_oka_214 : mz_okQ (1, 4, (0, 0, 0), mzc_214) mzt_214 := by
  refine ⟨fun i => ?_, rfl, Or.inr mz_oky_214⟩
  rcases Nat.lt_or_ge i 60 with h0 | h0
  · exact mz_okR_at mz_okr_214_0 (Nat.zero_le i) h0
  rcases Nat.lt_or_ge i 66 with h1 | h1
  · exact mz_okR_at mz_okr_214_1 h0 h1
  exact mz_okAt_out (M := (1, 4, (0, 0, 0), mzc_214)) (Nat.le_trans (show mzc_214.length ≤ 66 by decide +kernel) h1)
theorem mz_oka_215 : mz_okQ (2, 4, (0, 0, 0), mzc_215) mzt_215 := by
  refine ⟨fun i => ?_, rfl, Or.inr mz_oky_215⟩
  rcases Nat.lt_or_ge i 24 with h0 | h0
  · exact mz_okR_at mz_okr_215_0 (Nat.zero_le i) h0
  exact mz_okAt_out (M := (2, 4, (0, 0, 0), mzc_215)) (Nat.le_trans (show mzc_215.length ≤ 24 by decide +kernel) h0)
theorem mz_oka_216 : mz_okQ (2, 4, (0, 0, 0), mzc_216) mzt_216 := by
  refine ⟨fun i => ?_, rfl, Or.inr mz_oky_216⟩
  rcases Nat.lt_or_ge i 37 with h0 | h0
  · exact mz_okR_at mz_okr_216_0 (Nat.zero_le i) h0
  exact mz_okAt_out (M := (2, 4, (0, 0, 0), mzc_216)) (Nat.le_trans (show mzc_216.length ≤ 37 by decide +kernel) h0)
theorem mz_oka_217 : mz_okQ (6, 4, (0, 0, 0), mzc_217) mzt_217 := by
  refine ⟨fun i => ?_, rfl, Or.inr mz_oky_217⟩
  rcases Nat.lt_or_ge i 21 with h0 | h0
  · exact mz_okR_at mz_okr_217_0 (Nat.zero_le i) h0
  exact mz_okAt_out (M := (6, 4, (0, 0, 0), mzc_217)) (Nat.le_trans (show mzc_217.length ≤ 21 by decide +kernel) h0)
theorem mz_oka_218 : mz_okQ (2, 4, (0, 0, 0), mzc_218) mzt_218 := by
  refine ⟨fun i => ?_, rfl, Or.inr mz_oky_218⟩
  rcases Nat.lt_or_ge i 10 with h0 | h0
  · exact mz_okR_at mz_okr_218_0 (Nat.zero_le i) h0
  exact mz_okAt_out (M := (2, 4, (0, 0, 0), mzc_218)) (Nat.le_trans (show mzc_218.length ≤ 10 by decide +kernel) h0)
theorem mz_oka_219 : mz_okQ (5, 4, (0, 0, 0), mzc_219) mzt_219 := by
  refine ⟨fun i => ?_, rfl, Or.inr mz_oky_219⟩
  rcases Nat.lt_or_ge i 25 with h0 | h0
  · exact mz_okR_at mz_okr_219_0 (Nat.zero_le i) h0
  exact mz_okAt_out (M := (5, 4, (0, 0, 0), mzc_219)) (Nat.le_trans (show mzc_219.length ≤ 25 by decide +kernel) h0)
theorem mz_oka_220 : mz_okQ (1, 4, (0, 0, 0), mzc_220) mzt_220 := by
  refine ⟨fun i => ?_, rfl, Or.inr mz_oky_220⟩
  rcases Nat.lt_or_ge i 22 with h0 | h0
  · exact mz_okR_at mz_okr_220_0 (Nat.zero_le i) h0
  exact mz_okAt_out (M := (1, 4, (0, 0, 0), mzc_220)) (Nat.le_trans (show mzc_220.length ≤ 22 by decide +kernel) h0)
theorem mz_oka_221 : mz_okQ (1, 0, (0, 0, 0), mzc_221) mzt_221 := by
  refine ⟨fun i => ?_, rfl, Or.inr mz_oky_221⟩
  rcases Nat.lt_or_ge i 6 with h0 | h0
  · exact mz_okR_at mz_okr_221_0 (Nat.zero_le i) h0
  exact mz_okAt_out (M := (1, 0, (0, 0, 0), mzc_221)) (Nat.le_trans (show mzc_221.length ≤ 6 by decide +kernel) h0)
theorem mz_oka_222 : mz_okQ (1, 0, (0, 0, 0), mzc_222) mzt_222 := by
  refine ⟨fun i => ?_, rfl, Or.inr mz_oky_222⟩
  rcases Nat.lt_or_ge i 6 with h0 | h0
  · exact mz_okR_at mz_okr_222_0 (Nat.zero_le i) h0
  exact mz_okAt_out (M := (1, 0, (0, 0, 0), mzc_222)) (Nat.le_trans (show mzc_222.length ≤ 6 by decide +kernel) h0)
theorem mz_oka_223 : mz_okQ (3, 5, (0, 0, 0), mzc_223) mzt_223 := by
  refine ⟨fun i => ?_, rfl, Or.inr mz_oky_223⟩
  rcases Nat.lt_or_ge i 56 with h0 | h0
  · exact mz_okR_at mz_okr_223_0 (Nat.zero_le i) h0
  exact mz_okAt_out (M := (3, 5, (0, 0, 0), mzc_223)) (Nat.le_trans (show mzc_223.length ≤ 56 by decide +kernel) h0)
theorem mz_oka_224 : mz_okQ (1, 5, (0, 0, 0), mzc_224) mzt_224 := by
  refine ⟨fun i => ?_, rfl, Or.inr mz_oky_224⟩
  rcases Nat.lt_or_ge i 9 with h0 | h0
  · exact mz_okR_at mz_okr_224_0 (Nat.zero_le i) h0
  exact mz_okAt_out (M := (1, 5, (0, 0, 0), mzc_224)) (Nat.le_trans (show mzc_224.length ≤ 9 by decide +kernel) h0)
theorem mz_oka_225 : mz_okQ (1, 5, (0, 0, 0), mzc_225) mzt_225 := by
  refine ⟨fun i => ?_, rfl, Or.inr mz_oky_225⟩
  rcases Nat.lt_or_ge i 19 with h0 | h0
  · exact mz_okR_at mz_okr_225_0 (Nat.zero_le i) h0
  exact mz_okAt_out (M := (1, 5, (0, 0, 0), mzc_225)) (Nat.le_trans (show mzc_225.length ≤ 19 by decide +kernel) h0)
theorem mz_oka_226 : mz_okQ (1, 5, (0, 0, 0), mzc_226) mzt_226 := by
  refine ⟨fun i => ?_, rfl, Or.inr mz_oky_226⟩
  rcases Nat.lt_or_ge i 32 with h0 | h0
  · exact mz_okR_at mz_okr_226_0 (Nat.zero_le i) h0
  exact mz_okAt_out (M := (1, 5, (0, 0, 0), mzc_226)) (Nat.le_trans (show mzc_226.length ≤ 32 by decide +kernel) h0)
theorem mz_oka_227 : mz_okQ (2, 5, (0, 0, 0), mzc_227) mzt_227 := by
  refine ⟨fun i => ?_, rfl, Or.inr mz_oky_227⟩
  rcases Nat.lt_or_ge i 21 with h0 | h0
  · exact mz_okR_at mz_okr_227_0 (Nat.zero_le i) h0
  exact mz_okAt_out (M := (2, 5, (0, 0, 0), mzc_227)) (Nat.le_trans (show mzc_227.length ≤ 21 by decide +kernel) h0)
theorem mz_oka_228 : mz_okQ (2, 5, (0, 0, 0), mzc_228) mzt_228 := by
  refine ⟨fun i => ?_, rfl, Or.inr mz_oky_228⟩
  rcases Nat.lt_or_ge i 24 with h0 | h0
  · exact mz_okR_at mz_okr_228_0 (Nat.zero_le i) h0
  exact mz_okAt_out (M := (2, 5, (0, 0, 0), mzc_228)) (Nat.le_trans (show mzc_228.length ≤ 24 by decide +kernel) h0)
theorem mz_oka_229 : mz_okQ (3, 6, (0, 0, 0), mzc_229) mzt_229 := by
  refine ⟨fun i => ?_, rfl, Or.inr mz_oky_229⟩
  rcases Nat.lt_or_ge i 23 with h0 | h0
  · exact mz_okR_at mz_okr_229_0 (Nat.zero_le i) h0
  exact mz_okAt_out (M := (3, 6, (0, 0, 0), mzc_229)) (Nat.le_trans (show mzc_229.length ≤ 23 by decide +kernel) h0)
theorem mz_oka_230 : mz_okQ (1, 6, (0, 0, 0), mzc_230) mzt_230 := by
  refine ⟨fun i => ?_, rfl, Or.inr mz_oky_230⟩
  rcases Nat.lt_or_ge i 4 with h0 | h0
  · exact mz_okR_at mz_okr_230_0 (Nat.zero_le i) h0
  exact mz_okAt_out (M := (1, 6, (0, 0, 0), mzc_230)) (Nat.le_trans (show mzc_230.length ≤ 4 by decide +kernel) h0)
theorem mz_oka_231 : mz_okQ (3, 6, (0, 0, 0), mzc_231) mzt_231 := by
  refine ⟨fun i => ?_, rfl, Or.inr mz_oky_231⟩
  rcases Nat.lt_or_ge i 26 with h0 | h0
  · exact mz_okR_at mz_okr_231_0 (Nat.zero_le i) h0
  exact mz_okAt_out (M := (3, 6, (0, 0, 0), mzc_231)) (Nat.le_trans (show mzc_231.length ≤ 26 by decide +kernel) h0)
theorem mz_oka_232 : mz_okQ (5, 6, (0, 0, 0), mzc_232) mzt_232 := by
  refine ⟨fun i => ?_, rfl, Or.inr mz_oky_232⟩
  rcases Nat.lt_or_ge i 60 with h0 | h0
  · exact mz_okR_at mz_okr_232_0 (Nat.zero_le i) h0
  rcases Nat.lt_or_ge i 69 with h1 | h1
  · exact mz_okR_at mz_okr_232_1 h0 h1
  exact mz_okAt_out (M := (5, 6, (0, 0, 0), mzc_232)) (Nat.le_trans (show mzc_232.length ≤ 69 by decide +kernel) h1)
theorem mz_oka_233 : mz_okQ (6, 6, (0, 0, 0), mzc_233) mzt_233 := by
  refine ⟨fun i => ?_, rfl, Or.inr mz_oky_233⟩
  rcases Nat.lt_or_ge i 40 with h0 | h0
  · exact mz_okR_at mz_okr_233_0 (Nat.zero_le i) h0
  exact mz_okAt_out (M := (6, 6, (0, 0, 0), mzc_233)) (Nat.le_trans (show mzc_233.length ≤ 40 by decide +kernel) h0)
theorem mz_oka_234 : mz_okQ (5, 6, (0, 0, 0), mzc_234) mzt_234 := by
  refine ⟨fun i => ?_, rfl, Or.inr mz_oky_234⟩
  rcases Nat.lt_or_ge i 58 with h0 | h0
  · exact mz_okR_at mz_okr_234_0 (Nat.zero_le i) h0
  exact mz_okAt_out (M := (5, 6, (0, 0, 0), mzc_234)) (Nat.le_trans (show mzc_234.length ≤ 58 by decide +kernel) h0)
theorem mz_oka_235 : mz_okQ (5, 6, (0, 0, 0), mzc_235) mzt_235 := by
  refine ⟨fun i => ?_, rfl, Or.inr mz_oky_235⟩
  rcases Nat.lt_or_ge i 46 with h0 | h0
  · exact mz_okR_at mz_okr_235_0 (Nat.zero_le i) h0
  exact mz_okAt_out (M := (5, 6, (0, 0, 0), mzc_235)) (Nat.le_trans (show mzc_235.length ≤ 46 by decide +kernel) h0)
theorem mz_oka_236 : mz_okQ (8, 6, (0, 0, 0), mzc_236) mzt_236 := by
  refine ⟨fun i => ?_, rfl, Or.inr mz_oky_236⟩
  rcases Nat.lt_or_ge i 60 with h0 | h0
  · exact mz_okR_at mz_okr_236_0 (Nat.zero_le i) h0
  rcases Nat.lt_or_ge i 75 with h1 | h1
  · exact mz_okR_at mz_okr_236_1 h0 h1
  exact mz_okAt_out (M := (8, 6, (0, 0, 0), mzc_236)) (Nat.le_trans (show mzc_236.length ≤ 75 by decide +kernel) h1)
theorem mz_oka_237 : mz_okQ (5, 6, (0, 0, 0), mzc_237) mzt_237 := by
  refine ⟨fun i => ?_, rfl, Or.inr mz_oky_237⟩
  rcases Nat.lt_or_ge i 36 with h0 | h0
  · exact mz_okR_at mz_okr_237_0 (Nat.zero_le i) h0
  exact mz_okAt_out (M := (5, 6, (0, 0, 0), mzc_237)) (Nat.le_trans (show mzc_237.length ≤ 36 by decide +kernel) h0)
theorem mz_oka_238 : mz_okQ (6, 6, (0, 0, 0), mzc_238) mzt_238 := by
  refine ⟨fun i => ?_, rfl, Or.inr mz_oky_238⟩
  rcases Nat.lt_or_ge i 60 with h0 | h0
  · exact mz_okR_at mz_okr_238_0 (Nat.zero_le i) h0
  rcases Nat.lt_or_ge i 61 with h1 | h1
  · exact mz_okR_at mz_okr_238_1 h0 h1
  exact mz_okAt_out (M := (6, 6, (0, 0, 0), mzc_238)) (Nat.le_trans (show mzc_238.length ≤ 61 by decide +kernel) h1)
theorem mz_oka_239 : mz_okQ (2, 6, (0, 0, 0), mzc_239) mzt_239 := by
  refine ⟨fun i => ?_, rfl, Or.inr mz_oky_239⟩
  rcases Nat.lt_or_ge i 7 with h0 | h0
  · exact mz_okR_at mz_okr_239_0 (Nat.zero_le i) h0
  exact mz_okAt_out (M := (2, 6, (0, 0, 0), mzc_239)) (Nat.le_trans (show mzc_239.length ≤ 7 by decide +kernel) h0)
theorem mz_oka_240 : mz_okQ (2, 6, (0, 0, 0), mzc_240) mzt_240 := by
  refine ⟨fun i => ?_, rfl, Or.inr mz_oky_240⟩
  rcases Nat.lt_or_ge i 13 with h0 | h0
  · exact mz_okR_at mz_okr_240_0 (Nat.zero_le i) h0
  exact mz_okAt_out (M := (2, 6, (0, 0, 0), mzc_240)) (Nat.le_trans (show mzc_240.length ≤ 13 by decide +kernel) h0)
theorem mz_oka_241 : mz_okQ (6, 6, (0, 0, 0), mzc_241) mzt_241 := by
  refine ⟨fun i => ?_, rfl, Or.inr mz_oky_241⟩
  rcases Nat.lt_or_ge i 31 with h0 | h0
  · exact mz_okR_at mz_okr_241_0 (Nat.zero_le i) h0
  exact mz_okAt_out (M := (6, 6, (0, 0, 0), mzc_241)) (Nat.le_trans (show mzc_241.length ≤ 31 by decide +kernel) h0)
theorem mz_oka_242 : mz_okQ (2, 6, (0, 0, 0), mzc_242) mzt_242 := by
  refine ⟨fun i => ?_, rfl, Or.inr mz_oky_242⟩
  rcases Nat.lt_or_ge i 11 with h0 | h0
  · exact mz_okR_at mz_okr_242_0 (Nat.zero_le i) h0
  exact mz_okAt_out (M := (2, 6, (0, 0, 0), mzc_242)) (Nat.le_trans (show mzc_242.length ≤ 11 by decide +kernel) h0)
theorem mz_oka_243 : mz_okQ (3, 6, (0, 0, 0), mzc_243) mzt_243 := by
  refine ⟨fun i => ?_, rfl, Or.inr mz_oky_243⟩
  rcases Nat.lt_or_ge i 21 with h0 | h0
  · exact mz_okR_at mz_okr_243_0 (Nat.zero_le i) h0
  exact mz_okAt_out (M := (3, 6, (0, 0, 0), mzc_243)) (Nat.le_trans (show mzc_243.length ≤ 21 by decide +kernel) h0)
theorem mz_oka_244 : mz_okQ (3, 6, (0, 0, 0), mzc_244) mzt_244 := by
  refine ⟨fun i => ?_, rfl, Or.inr mz_oky_244⟩
  rcases Nat.lt_or_ge i 19 with h0 | h0
  · exact mz_okR_at mz_okr_244_0 (Nat.zero_le i) h0
  exact mz_okAt_out (M := (3, 6, (0, 0, 0), mzc_244)) (Nat.le_trans (show mzc_244.length ≤ 19 by decide +kernel) h0)
theorem mz_oka_245 : mz_okQ (6, 6, (0, 0, 0), mzc_245) mzt_245 := by
  refine ⟨fun i => ?_, rfl, Or.inr mz_oky_245⟩
  rcases Nat.lt_or_ge i 52 with h0 | h0
  · exact mz_okR_at mz_okr_245_0 (Nat.zero_le i) h0
  exact mz_okAt_out (M := (6, 6, (0, 0, 0), mzc_245)) (Nat.le_trans (show mzc_245.length ≤ 52 by decide +kernel) h0)
theorem mz_oka_246 : mz_okQ (4, 6, (0, 0, 0), mzc_246) mzt_246 := by
  refine ⟨fun i => ?_, rfl, Or.inr mz_oky_246⟩
  rcases Nat.lt_or_ge i 37 with h0 | h0
  · exact mz_okR_at mz_okr_246_0 (Nat.zero_le i) h0
  exact mz_okAt_out (M := (4, 6, (0, 0, 0), mzc_246)) (Nat.le_trans (show mzc_246.length ≤ 37 by decide +kernel) h0)
theorem mz_oka_247 : mz_okQ (4, 6, (0, 0, 0), mzc_247) mzt_247 := by
  refine ⟨fun i => ?_, rfl, Or.inr mz_oky_247⟩
  rcases Nat.lt_or_ge i 22 with h0 | h0
  · exact mz_okR_at mz_okr_247_0 (Nat.zero_le i) h0
  exact mz_okAt_out (M := (4, 6, (0, 0, 0), mzc_247)) (Nat.le_trans (show mzc_247.length ≤ 22 by decide +kernel) h0)
theorem mz_oka_248 : mz_okQ (3, 7, (0, 0, 0), mzc_248) mzt_248 := by
  refine ⟨fun i => ?_, rfl, Or.inr mz_oky_248⟩
  rcases Nat.lt_or_ge i 29 with h0 | h0
  · exact mz_okR_at mz_okr_248_0 (Nat.zero_le i) h0
  exact mz_okAt_out (M := (3, 7, (0, 0, 0), mzc_248)) (Nat.le_trans (show mzc_248.length ≤ 29 by decide +kernel) h0)
theorem mz_oka_249 : mz_okQ (1, 7, (0, 0, 0), mzc_249) mzt_249 := by
  refine ⟨fun i => ?_, rfl, Or.inr mz_oky_249⟩
  rcases Nat.lt_or_ge i 12 with h0 | h0
  · exact mz_okR_at mz_okr_249_0 (Nat.zero_le i) h0
  exact mz_okAt_out (M := (1, 7, (0, 0, 0), mzc_249)) (Nat.le_trans (show mzc_249.length ≤ 12 by decide +kernel) h0)
theorem mz_oka_250 : mz_okQ (6, 7, (0, 0, 0), mzc_250) mzt_250 := by
  refine ⟨fun i => ?_, rfl, Or.inr mz_oky_250⟩
  rcases Nat.lt_or_ge i 25 with h0 | h0
  · exact mz_okR_at mz_okr_250_0 (Nat.zero_le i) h0
  exact mz_okAt_out (M := (6, 7, (0, 0, 0), mzc_250)) (Nat.le_trans (show mzc_250.length ≤ 25 by decide +kernel) h0)
theorem mz_oka_251 : mz_okQ (3, 7, (0, 0, 0), mzc_251) mzt_251 := by
  refine ⟨fun i => ?_, rfl, Or.inr mz_oky_251⟩
  rcases Nat.lt_or_ge i 16 with h0 | h0
  · exact mz_okR_at mz_okr_251_0 (Nat.zero_le i) h0
  exact mz_okAt_out (M := (3, 7, (0, 0, 0), mzc_251)) (Nat.le_trans (show mzc_251.length ≤ 16 by decide +kernel) h0)
theorem mz_oka_252 : mz_okQ (6, 7, (0, 0, 0), mzc_252) mzt_252 := by
  refine ⟨fun i => ?_, rfl, Or.inr mz_oky_252⟩
  rcases Nat.lt_or_ge i 49 with h0 | h0
  · exact mz_okR_at mz_okr_252_0 (Nat.zero_le i) h0
  exact mz_okAt_out (M := (6, 7, (0, 0, 0), mzc_252)) (Nat.le_trans (show mzc_252.length ≤ 49 by decide +kernel) h0)
theorem mz_oka_253 : mz_okQ (6, 7, (0, 0, 0), mzc_253) mzt_253 := by
  refine ⟨fun i => ?_, rfl, Or.inr mz_oky_253⟩
  rcases Nat.lt_or_ge i 52 with h0 | h0
  · exact mz_okR_at mz_okr_253_0 (Nat.zero_le i) h0
  exact mz_okAt_out (M := (6, 7, (0, 0, 0), mzc_253)) (Nat.le_trans (show mzc_253.length ≤ 52 by decide +kernel) h0)
theorem mz_oka_254 : mz_okQ (3, 7, (0, 0, 0), mzc_254) mzt_254 := by
  refine ⟨fun i => ?_, rfl, Or.inr mz_oky_254⟩
  rcases Nat.lt_or_ge i 19 with h0 | h0
  · exact mz_okR_at mz_okr_254_0 (Nat.zero_le i) h0
  exact mz_okAt_out (M := (3, 7, (0, 0, 0), mzc_254)) (Nat.le_trans (show mzc_254.length ≤ 19 by decide +kernel) h0)
theorem mz_oka_255 : mz_okQ (3, 7, (0, 0, 0), mzc_255) mzt_255 := by
  refine ⟨fun i => ?_, rfl, Or.inr mz_oky_255⟩
  rcases Nat.lt_or_ge i 19 with h0 | h0
  · exact mz_okR_at mz_okr_255_0 (Nat.zero_le i) h0
  exact mz_okAt_out (M := (3, 7, (0, 0, 0), mzc_255)) (Nat.le_trans (show mzc_255.length ≤ 19 by decide +kernel) h0)
theorem mz_oka_256 : mz_okQ (5, 7, (0, 0, 0), mzc_256) mzt_256 := by
  refine ⟨fun i => ?_, rfl, Or.inr mz_oky_256⟩
  rcases Nat.lt_or_ge i 27 with h0 | h0
  · exact mz_okR_at mz_okr_256_0 (Nat.zero_le i) h0
  exact mz_okAt_out (M := (5, 7, (0, 0, 0), mzc_256)) (Nat.le_trans (show mzc_256.length ≤ 27 by decide +kernel) h0)
theorem mz_oka_257 : mz_okQ (3, 7, (0, 0, 0), mzc_257) mzt_257 := by
  refine ⟨fun i => ?_, rfl, Or.inr mz_oky_257⟩
  rcases Nat.lt_or_ge i 51 with h0 | h0
  · exact mz_okR_at mz_okr_257_0 (Nat.zero_le i) h0
  exact mz_okAt_out (M := (3, 7, (0, 0, 0), mzc_257)) (Nat.le_trans (show mzc_257.length ≤ 51 by decide +kernel) h0)
theorem mz_oka_258 : mz_okQ (9, 7, (0, 0, 0), mzc_258) mzt_258 := by
  refine ⟨fun i => ?_, rfl, Or.inr mz_oky_258⟩
  rcases Nat.lt_or_ge i 60 with h0 | h0
  · exact mz_okR_at mz_okr_258_0 (Nat.zero_le i) h0
  rcases Nat.lt_or_ge i 80 with h1 | h1
  · exact mz_okR_at mz_okr_258_1 h0 h1
  exact mz_okAt_out (M := (9, 7, (0, 0, 0), mzc_258)) (Nat.le_trans (show mzc_258.length ≤ 80 by decide +kernel) h1)
theorem mz_oka_259 : mz_okQ (2, 8, (0, 0, 0), mzc_259) mzt_259 := by
  refine ⟨fun i => ?_, rfl, Or.inr mz_oky_259⟩
  rcases Nat.lt_or_ge i 14 with h0 | h0
  · exact mz_okR_at mz_okr_259_0 (Nat.zero_le i) h0
  exact mz_okAt_out (M := (2, 8, (0, 0, 0), mzc_259)) (Nat.le_trans (show mzc_259.length ≤ 14 by decide +kernel) h0)
theorem mz_oka_260 : mz_okQ (1, 8, (0, 0, 0), mzc_260) mzt_260 := by
  refine ⟨fun i => ?_, rfl, Or.inr mz_oky_260⟩
  rcases Nat.lt_or_ge i 34 with h0 | h0
  · exact mz_okR_at mz_okr_260_0 (Nat.zero_le i) h0
  exact mz_okAt_out (M := (1, 8, (0, 0, 0), mzc_260)) (Nat.le_trans (show mzc_260.length ≤ 34 by decide +kernel) h0)
theorem mz_oka_261 : mz_okQ (2, 8, (0, 0, 0), mzc_261) mzt_261 := by
  refine ⟨fun i => ?_, rfl, Or.inr mz_oky_261⟩
  rcases Nat.lt_or_ge i 37 with h0 | h0
  · exact mz_okR_at mz_okr_261_0 (Nat.zero_le i) h0
  exact mz_okAt_out (M := (2, 8, (0, 0, 0), mzc_261)) (Nat.le_trans (show mzc_261.length ≤ 37 by decide +kernel) h0)
theorem mz_oka_262 : mz_okQ (6, 8, (0, 0, 0), mzc_262) mzt_262 := by
  refine ⟨fun i => ?_, rfl, Or.inr mz_oky_262⟩
  rcases Nat.lt_or_ge i 60 with h0 | h0
  · exact mz_okR_at mz_okr_262_0 (Nat.zero_le i) h0
  exact mz_okAt_out (M := (6, 8, (0, 0, 0), mzc_262)) (Nat.le_trans (show mzc_262.length ≤ 60 by decide +kernel) h0)
theorem mz_oka_263 : mz_okQ (5, 8, (0, 0, 0), mzc_263) mzt_263 := by
  refine ⟨fun i => ?_, rfl, Or.inr mz_oky_263⟩
  rcases Nat.lt_or_ge i 55 with h0 | h0
  · exact mz_okR_at mz_okr_263_0 (Nat.zero_le i) h0
  exact mz_okAt_out (M := (5, 8, (0, 0, 0), mzc_263)) (Nat.le_trans (show mzc_263.length ≤ 55 by decide +kernel) h0)
theorem mz_oka_264 : mz_okQ (1, 0, (0, 0, 0), mzc_264) mzt_264 := by
  refine ⟨fun i => ?_, rfl, Or.inr mz_oky_264⟩
  rcases Nat.lt_or_ge i 12 with h0 | h0
  · exact mz_okR_at mz_okr_264_0 (Nat.zero_le i) h0
  exact mz_okAt_out (M := (1, 0, (0, 0, 0), mzc_264)) (Nat.le_trans (show mzc_264.length ≤ 12 by decide +kernel) h0)
theorem mz_oka_265 : mz_okQ (5, 8, (0, 0, 0), mzc_265) mzt_265 := by
  refine ⟨fun i => ?_, rfl, Or.inr mz_oky_265⟩
  rcases Nat.lt_or_ge i 60 with h0 | h0
  · exact mz_okR_at mz_okr_265_0 (Nat.zero_le i) h0
  rcases Nat.lt_or_ge i 66 with h1 | h1
  · exact mz_okR_at mz_okr_265_1 h0 h1
  exact mz_okAt_out (M := (5, 8, (0, 0, 0), mzc_265)) (Nat.le_trans (show mzc_265.length ≤ 66 by decide +kernel) h1)
theorem mz_oka_266 : mz_okQ (1, 8, (0, 0, 0), mzc_266) mzt_266 := by
  refine ⟨fun i => ?_, rfl, Or.inr mz_oky_266⟩
  rcases Nat.lt_or_ge i 26 with h0 | h0
  · exact mz_okR_at mz_okr_266_0 (Nat.zero_le i) h0
  exact mz_okAt_out (M := (1, 8, (0, 0, 0), mzc_266)) (Nat.le_trans (show mzc_266.length ≤ 26 by decide +kernel) h0)
theorem mz_oka_267 : mz_okQ (2, 8, (0, 0, 0), mzc_267) mzt_267 := by
  refine ⟨fun i => ?_, rfl, Or.inr mz_oky_267⟩
  rcases Nat.lt_or_ge i 54 with h0 | h0
  · exact mz_okR_at mz_okr_267_0 (Nat.zero_le i) h0
  exact mz_okAt_out (M := (2, 8, (0, 0, 0), mzc_267)) (Nat.le_trans (show mzc_267.length ≤ 54 by decide +kernel) h0)
theorem mz_oka_268 : mz_okQ (7, 8, (0, 0, 0), mzc_268) mzt_268 := by
  refine ⟨fun i => ?_, rfl, Or.inr mz_oky_268⟩
  rcases Nat.lt_or_ge i 55 with h0 | h0
  · exact mz_okR_at mz_okr_268_0 (Nat.zero_le i) h0
  exact mz_okAt_out (M := (7, 8, (0, 0, 0), mzc_268)) (Nat.le_trans (show mzc_268.length ≤ 55 by decide +kernel) h0)
theorem mz_oka_269 : mz_okQ (2, 8, (0, 0, 0), mzc_269) mzt_269 := by
  refine ⟨fun i => ?_, rfl, Or.inr mz_oky_269⟩
  rcases Nat.lt_or_ge i 24 with h0 | h0
  · exact mz_okR_at mz_okr_269_0 (Nat.zero_le i) h0
  exact mz_okAt_out (M := (2, 8, (0, 0, 0), mzc_269)) (Nat.le_trans (show mzc_269.length ≤ 24 by decide +kernel) h0)
theorem mz_oka_270 : mz_okQ (1, 8, (0, 0, 0), mzc_270) mzt_270 := by
  refine ⟨fun i => ?_, rfl, Or.inr mz_oky_270⟩
  rcases Nat.lt_or_ge i 55 with h0 | h0
  · exact mz_okR_at mz_okr_270_0 (Nat.zero_le i) h0
  exact mz_okAt_out (M := (1, 8, (0, 0, 0), mzc_270)) (Nat.le_trans (show mzc_270.length ≤ 55 by decide +kernel) h0)
theorem mz_oka_271 : mz_okQ (1, 0, (0, 0, 0), mzc_271) mzt_271 := by
  refine ⟨fun i => ?_, rfl, Or.inr mz_oky_271⟩
  rcases Nat.lt_or_ge i 12 with h0 | h0
  · exact mz_okR_at mz_okr_271_0 (Nat.zero_le i) h0
  exact mz_okAt_out (M := (1, 0, (0, 0, 0), mzc_271)) (Nat.le_trans (show mzc_271.length ≤ 12 by decide +kernel) h0)
theorem mz_oka_272 : mz_okQ (1, 9, (0, 0, 0), mzc_272) mzt_272 := by
  refine ⟨fun i => ?_, rfl, Or.inr mz_oky_272⟩
  rcases Nat.lt_or_ge i 10 with h0 | h0
  · exact mz_okR_at mz_okr_272_0 (Nat.zero_le i) h0
  exact mz_okAt_out (M := (1, 9, (0, 0, 0), mzc_272)) (Nat.le_trans (show mzc_272.length ≤ 10 by decide +kernel) h0)
theorem mz_oka_273 : mz_okQ (1, 9, (0, 0, 0), mzc_273) mzt_273 := by
  refine ⟨fun i => ?_, rfl, Or.inr mz_oky_273⟩
  rcases Nat.lt_or_ge i 4 with h0 | h0
  · exact mz_okR_at mz_okr_273_0 (Nat.zero_le i) h0
  exact mz_okAt_out (M := (1, 9, (0, 0, 0), mzc_273)) (Nat.le_trans (show mzc_273.length ≤ 4 by decide +kernel) h0)
theorem mz_oka_274 : mz_okQ (3, 9, (0, 0, 0), mzc_274) mzt_274 := by
  refine ⟨fun i => ?_, rfl, Or.inr mz_oky_274⟩
  rcases Nat.lt_or_ge i 19 with h0 | h0
  · exact mz_okR_at mz_okr_274_0 (Nat.zero_le i) h0
  exact mz_okAt_out (M := (3, 9, (0, 0, 0), mzc_274)) (Nat.le_trans (show mzc_274.length ≤ 19 by decide +kernel) h0)
theorem mz_oka_275 : mz_okQ (1, 10, (0, 0, 0), mzc_275) mzt_275 := by
  refine ⟨fun i => ?_, rfl, Or.inr mz_oky_275⟩
  rcases Nat.lt_or_ge i 13 with h0 | h0
  · exact mz_okR_at mz_okr_275_0 (Nat.zero_le i) h0
  exact mz_okAt_out (M := (1, 10, (0, 0, 0), mzc_275)) (Nat.le_trans (show mzc_275.length ≤ 13 by decide +kernel) h0)
theorem mz_oka_276 : mz_okQ (2, 10, (0, 0, 0), mzc_276) mzt_276 := by
  refine ⟨fun i => ?_, rfl, Or.inr mz_oky_276⟩
  rcases Nat.lt_or_ge i 17 with h0 | h0
  · exact mz_okR_at mz_okr_276_0 (Nat.zero_le i) h0
  exact mz_okAt_out (M := (2, 10, (0, 0, 0), mzc_276)) (Nat.le_trans (show mzc_276.length ≤ 17 by decide +kernel) h0)
theorem mz_oka_277 : mz_okQ (2, 10, (0, 0, 0), mzc_277) mzt_277 := by
  refine ⟨fun i => ?_, rfl, Or.inr mz_oky_277⟩
  rcases Nat.lt_or_ge i 13 with h0 | h0
  · exact mz_okR_at mz_okr_277_0 (Nat.zero_le i) h0
  exact mz_okAt_out (M := (2, 10, (0, 0, 0), mzc_277)) (Nat.le_trans (show mzc_277.length ≤ 13 by decide +kernel) h0)
theorem mz_oka_278 : mz_okQ (1, 10, (0, 0, 0), mzc_278) mzt_278 := by
  refine ⟨fun i => ?_, rfl, Or.inr mz_oky_278⟩
  rcases Nat.lt_or_ge i 5 with h0 | h0
  · exact mz_okR_at mz_okr_278_0 (Nat.zero_le i) h0
  exact mz_okAt_out (M := (1, 10, (0, 0, 0), mzc_278)) (Nat.le_trans (show mzc_278.length ≤ 5 by decide +kernel) h0)
theorem mz_oka_279 : mz_okQ (1, 10, (0, 0, 0), mzc_279) mzt_279 := by
  refine ⟨fun i => ?_, rfl, Or.inr mz_oky_279⟩
  rcases Nat.lt_or_ge i 9 with h0 | h0
  · exact mz_okR_at mz_okr_279_0 (Nat.zero_le i) h0
  exact mz_okAt_out (M := (1, 10, (0, 0, 0), mzc_279)) (Nat.le_trans (show mzc_279.length ≤ 9 by decide +kernel) h0)
theorem mz_oka_280 : mz_okQ (2, 10, (0, 0, 0), mzc_280) mzt_280 := by
  refine ⟨fun i => ?_, rfl, Or.inr mz_oky_280⟩
  rcases Nat.lt_or_ge i 22 with h0 | h0
  · exact mz_okR_at mz_okr_280_0 (Nat.zero_le i) h0
  exact mz_okAt_out (M := (2, 10, (0, 0, 0), mzc_280)) (Nat.le_trans (show mzc_280.length ≤ 22 by decide +kernel) h0)
theorem mz_oka_281 : mz_okQ (1, 10, (0, 0, 0), mzc_281) mzt_281 := by
  refine ⟨fun i => ?_, rfl, Or.inr mz_oky_281⟩
  rcases Nat.lt_or_ge i 29 with h0 | h0
  · exact mz_okR_at mz_okr_281_0 (Nat.zero_le i) h0
  exact mz_okAt_out (M := (1, 10, (0, 0, 0), mzc_281)) (Nat.le_trans (show mzc_281.length ≤ 29 by decide +kernel) h0)
theorem mz_oka_282 : mz_okQ (1, 10, (0, 0, 0), mzc_282) mzt_282 := by
  refine ⟨fun i => ?_, rfl, Or.inr mz_oky_282⟩
  rcases Nat.lt_or_ge i 12 with h0 | h0
  · exact mz_okR_at mz_okr_282_0 (Nat.zero_le i) h0
  exact mz_okAt_out (M := (1, 10, (0, 0, 0), mzc_282)) (Nat.le_trans (show mzc_282.length ≤ 12 by decide +kernel) h0)
theorem mz_oka_283 : mz_okQ (3, 10, (0, 0, 0), mzc_283) mzt_283 := by
  refine ⟨fun i => ?_, rfl, Or.inr mz_oky_283⟩
  rcases Nat.lt_or_ge i 16 with h0 | h0
  · exact mz_okR_at mz_okr_283_0 (Nat.zero_le i) h0
  exact mz_okAt_out (M := (3, 10, (0, 0, 0), mzc_283)) (Nat.le_trans (show mzc_283.length ≤ 16 by decide +kernel) h0)
theorem mz_oka_284 : mz_okQ (1, 10, (0, 0, 0), mzc_284) mzt_284 := by
  refine ⟨fun i => ?_, rfl, Or.inr mz_oky_284⟩
  rcases Nat.lt_or_ge i 5 with h0 | h0
  · exact mz_okR_at mz_okr_284_0 (Nat.zero_le i) h0
  exact mz_okAt_out (M := (1, 10, (0, 0, 0), mzc_284)) (Nat.le_trans (show mzc_284.length ≤ 5 by decide +kernel) h0)
theorem mz_oka_285 : mz_okQ (1, 0, (0, 0, 0), mzc_285) mzt_285 := by
  refine ⟨fun i => ?_, rfl, Or.inr mz_oky_285⟩
  rcases Nat.lt_or_ge i 42 with h0 | h0
  · exact mz_okR_at mz_okr_285_0 (Nat.zero_le i) h0
  exact mz_okAt_out (M := (1, 0, (0, 0, 0), mzc_285)) (Nat.le_trans (show mzc_285.length ≤ 42 by decide +kernel) h0)
theorem mz_oka_286 : mz_okQ (3, 0, (0, 0, 0), mzc_286) mzt_286 := by
  refine ⟨fun i => ?_, rfl, Or.inr mz_oky_286⟩
  rcases Nat.lt_or_ge i 19 with h0 | h0
  · exact mz_okR_at mz_okr_286_0 (Nat.zero_le i) h0
  exact mz_okAt_out (M := (3, 0, (0, 0, 0), mzc_286)) (Nat.le_trans (show mzc_286.length ≤ 19 by decide +kernel) h0)
theorem mz_oka_287 : mz_okQ (3, 0, (0, 0, 0), mzc_287) mzt_287 := by
  refine ⟨fun i => ?_, rfl, Or.inr mz_oky_287⟩
  rcases Nat.lt_or_ge i 16 with h0 | h0
  · exact mz_okR_at mz_okr_287_0 (Nat.zero_le i) h0
  exact mz_okAt_out (M := (3, 0, (0, 0, 0), mzc_287)) (Nat.le_trans (show mzc_287.length ≤ 16 by decide +kernel) h0)
theorem mz_oka_288 : mz_okQ (2, 0, (0, 0, 0), mzc_288) mzt_288 := by
  refine ⟨fun i => ?_, rfl, Or.inr mz_oky_288⟩
  rcases Nat.lt_or_ge i 7 with h0 | h0
  · exact mz_okR_at mz_okr_288_0 (Nat.zero_le i) h0
  exact mz_okAt_out (M := (2, 0, (0, 0, 0), mzc_288)) (Nat.le_trans (show mzc_288.length ≤ 7 by decide +kernel) h0)
theorem mz_oka_289 : mz_okQ (2, 0, (0, 0, 0), mzc_289) mzt_289 := by
  refine ⟨fun i => ?_, rfl, Or.inr mz_oky_289⟩
  rcases Nat.lt_or_ge i 7 with h0 | h0
  · exact mz_okR_at mz_okr_289_0 (Nat.zero_le i) h0
  exact mz_okAt_out (M := (2, 0, (0, 0, 0), mzc_289)) (Nat.le_trans (show mzc_289.length ≤ 7 by decide +kernel) h0)
theorem mz_oka_290 : mz_okQ (4, 0, (0, 0, 0), mzc_290) mzt_290 := by
  refine ⟨fun i => ?_, rfl, Or.inr mz_oky_290⟩
  rcases Nat.lt_or_ge i 15 with h0 | h0
  · exact mz_okR_at mz_okr_290_0 (Nat.zero_le i) h0
  exact mz_okAt_out (M := (4, 0, (0, 0, 0), mzc_290)) (Nat.le_trans (show mzc_290.length ≤ 15 by decide +kernel) h0)
theorem mz_oka_291 : mz_okQ (5, 0, (0, 0, 0), mzc_291) mzt_291 := by
  refine ⟨fun i => ?_, rfl, Or.inr mz_oky_291⟩
  rcases Nat.lt_or_ge i 15 with h0 | h0
  · exact mz_okR_at mz_okr_291_0 (Nat.zero_le i) h0
  exact mz_okAt_out (M := (5, 0, (0, 0, 0), mzc_291)) (Nat.le_trans (show mzc_291.length ≤ 15 by decide +kernel) h0)
theorem mz_okg_0 : mz_F2 mz_okQ mzP_0 mzQ_0 := ⟨mz_oka_0, mz_oka_1, mz_oka_2, mz_oka_3, mz_oka_4, mz_oka_5, mz_oka_6, mz_oka_7, mz_oka_8, mz_oka_9, mz_oka_10, mz_oka_11, mz_oka_12, mz_oka_13, mz_oka_14, mz_oka_15, mz_oka_16, mz_oka_17, mz_oka_18, mz_oka_19, mz_oka_20, mz_oka_21, mz_oka_22, mz_oka_23, mz_oka_24, mz_oka_25, mz_oka_26, mz_oka_27, mz_oka_28, mz_oka_29, mz_oka_30, mz_oka_31, mz_oka_32, mz_oka_33, mz_oka_34, mz_oka_35, mz_oka_36, mz_oka_37, mz_oka_38, mz_oka_39, mz_oka_40, mz_oka_41, mz_oka_42, mz_oka_43, mz_oka_44, mz_oka_45, mz_oka_46, mz_oka_47, mz_oka_48, mz_oka_49, trivial⟩
theorem mz_okg_1 : mz_F2 mz_okQ mzP_1 mzQ_1 := ⟨mz_oka_50, mz_oka_51, mz_oka_52, mz_oka_53, mz_oka_54, mz_oka_55, mz_oka_56, mz_oka_57, mz_oka_58, mz_oka_59, mz_oka_60, mz_oka_61, mz_oka_62, mz_oka_63, mz_oka_64, mz_oka_65, mz_oka_66, mz_oka_67, mz_oka_68, mz_oka_69, mz_oka_70, mz_oka_71, mz_oka_72, mz_oka_73, mz_oka_74, mz_oka_75, mz_oka_76, mz_oka_77, mz_oka_78, mz_oka_79, mz_oka_80, mz_oka_81, mz_oka_82, mz_oka_83, mz_oka_84, mz_oka_85, mz_oka_86, mz_oka_87, mz_oka_88, mz_oka_89, mz_oka_90, mz_oka_91, mz_oka_92, mz_oka_93, mz_oka_94, mz_oka_95, mz_oka_96, mz_oka_97, mz_oka_98, mz_oka_99, trivial⟩
theorem mz_okg_2 : mz_F2 mz_okQ mzP_2 mzQ_2 := ⟨mz_oka_100, mz_oka_101, mz_oka_102, mz_oka_103, mz_oka_104, mz_oka_105, mz_oka_106, mz_oka_107, mz_oka_108, mz_oka_109, mz_oka_110, mz_oka_111, mz_oka_112, mz_oka_113, mz_oka_114, mz_oka_115, mz_oka_116, mz_oka_117, mz_oka_118, mz_oka_119, mz_oka_120, mz_oka_121, mz_oka_122, mz_oka_123, mz_oka_124, mz_oka_125, mz_oka_126, mz_oka_127, mz_oka_128, mz_oka_129, mz_oka_130, mz_oka_131, mz_oka_132, mz_oka_133, mz_oka_134, mz_oka_135, mz_oka_136, mz_oka_137, mz_oka_138, mz_oka_139, mz_oka_140, mz_oka_141, mz_oka_142, mz_oka_143, mz_oka_144, mz_oka_145, mz_oka_146, mz_oka_147, mz_oka_148, mz_oka_149, trivial⟩
theorem mz_okg_3 : mz_F2 mz_okQ mzP_3 mzQ_3 := ⟨mz_oka_150, mz_oka_151, mz_oka_152, mz_oka_153, mz_oka_154, mz_oka_155, mz_oka_156, mz_oka_157, mz_oka_158, mz_oka_159, mz_oka_160, mz_oka_161, mz_oka_162, mz_oka_163, mz_oka_164, mz_oka_165, mz_oka_166, mz_oka_167, mz_oka_168, mz_oka_169, mz_oka_170, mz_oka_171, mz_oka_172, mz_oka_173, mz_oka_174, mz_oka_175, mz_oka_176, mz_oka_177, mz_oka_178, mz_oka_179, mz_oka_180, mz_oka_181, mz_oka_182, mz_oka_183, mz_oka_184, mz_oka_185, mz_oka_186, mz_oka_187, mz_oka_188, mz_oka_189, mz_oka_190, mz_oka_191, mz_oka_192, mz_oka_193, mz_oka_194, mz_oka_195, mz_oka_196, mz_oka_197, mz_oka_198, mz_oka_199, trivial⟩
theorem mz_okg_4 : mz_F2 mz_okQ mzP_4 mzQ_4 := ⟨mz_oka_200, mz_oka_201, mz_oka_202, mz_oka_203, mz_oka_204, mz_oka_205, mz_oka_206, mz_oka_207, mz_oka_208, mz_oka_209, mz_oka_210, mz_oka_211, mz_oka_212, mz_oka_213, mz_oka_214, mz_oka_215, mz_oka_216, mz_oka_217, mz_oka_218, mz_oka_219, mz_oka_220, mz_oka_221, mz_oka_222, mz_oka_223, mz_oka_224, mz_oka_225, mz_oka_226, mz_oka_227, mz_oka_228, mz_oka_229, mz_oka_230, mz_oka_231, mz_oka_232, mz_oka_233, mz_oka_234, mz_oka_235, mz_oka_236, mz_oka_237, mz_oka_238, mz_oka_239, mz_oka_240, mz_oka_241, mz_oka_242, mz_oka_243, mz_oka_244, mz_oka_245, mz_oka_246, mz_oka_247, mz_oka_248, mz_oka_249, trivial⟩
theorem mz_okg_5 : mz_F2 mz_okQ mzP_5 mzQ_5 := ⟨mz_oka_250, mz_oka_251, mz_oka_252, mz_oka_253, mz_oka_254, mz_oka_255, mz_oka_256, mz_oka_257, mz_oka_258, mz_oka_259, mz_oka_260, mz_oka_261, mz_oka_262, mz_oka_263, mz_oka_264, mz_oka_265, mz_oka_266, mz_oka_267, mz_oka_268, mz_oka_269, mz_oka_270, mz_oka_271, mz_oka_272, mz_oka_273, mz_oka_274, mz_oka_275, mz_oka_276, mz_oka_277, mz_oka_278, mz_oka_279, mz_oka_280, mz_oka_281, mz_oka_282, mz_oka_283, mz_oka_284, mz_oka_285, mz_oka_286, mz_oka_287, mz_oka_288, mz_oka_289, mz_oka_290, mz_oka_291, trivial⟩
theorem mz_okall : mz_F2 mz_okQ mzP mzQ := mz_F2.app (mz_F2.app (mz_F2.app (mz_F2.app (mz_F2.app (mz_okg_5) mz_okg_4) mz_okg_3) mz_okg_2) mz_okg_1) mz_okg_0
set_option maxRecDepth 100000 in
theorem mz_nolaw : mzP.all (fun M => M.2.2.2.all (fun ri => !(ri.1 == 40) || decide (0 < ri.2.1))) = true := by decide +kernel
theorem mz_nolaw_at {j i : Nat} {M : mzM} {ri : mzI} (hM : mzP[j]? = some M) (hr : M.2.2.2[i]? = some ri) (h : ri.1 = 40) : 0 < ri.2.1 := by
  have h1 := List.all_eq_true.mp (List.all_eq_true.mp mz_nolaw M (List.mem_of_getElem? hM)) ri (List.mem_of_getElem? hr)
  rw [h] at h1
  simpa using h1
set_option maxRecDepth 100000 in
theorem mz_only0 : (mzP.drop 1).all (fun M => !(M.2.2.2.length == 682)) = true := by decide +kernel
theorem mz_okY_at {j : Nat} {M : mzM} {t : mzT} (hj : 0 < j) (hM : mzP[j]? = some M) (h : mz_okQ M t) : mz_okY M t = true := by
  rcases h.2.2 with ⟨-, h1⟩ | h1
  · exfalso
    have h2 := List.all_eq_true.mp mz_only0 M (List.mem_of_getElem? (i := j - 1) (by rw [List.getElem?_drop]; rw [show 1 + (j - 1) = j by omega]; exact hM))
    rw [h1] at h2
    cases h2
  · exact h1
