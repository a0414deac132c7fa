/-! the law, case by case: written by wip/B/genlaw.py -/
theorem lw_s33 {X : List (List Value)} (hX : az_X X) {L : Int} (hS : az_scr X L) {Kb : Option (Option Value) → mzS → Prop} {d : Nat} (hd : 40 ≤ d) {i : Int} {h : List mzC} {s2 : Nat × Nat} {lo : mzL} (hi0 : 0 ≤ i) (hiL : i + 5 ≤ L) (hL : L ≤ 2560) (hT : az_Tp h) (hI : lwI h) (hlen : h.length ≤ 100000) (hlo : az_ml lo [.ref 0, .ref 4, .ref 145, .ref 166, iv i]) (hN : lwNx X Kb d i h s2) : mz_gg X Kb d 0 609 lo [] (h, s2) := by
  obtain ⟨fs, x0, xl, xi⟩ := id hS
  have hlt : (i + 1).toNat < fs.length := by omega
  obtain ⟨x, hx⟩ := xi _ (List.getElem_mem hlt)
  have hx2 : ∀ gs, X[0]? = some gs → gs[(i + 1).toNat]? = some (.int x) := by
    intro gs hg
    rw [x0] at hg
    cases hg
    rw [List.getElem?_eq_getElem hlt, hx]
  have hb := sz_bd x
  by_cases c0 : x.toInt ≤ (-1)
  · exact lw_kone hX hS (lwv33_0 hX) lwk_33_0 (by decide +kernel) hd hi0 hiL hL hT hI hlen hlo hN hx2 ⟨hb.1, by show x.toInt ≤ (-1); omega⟩
  · skip
    by_cases c1 : x.toInt ≤ 0
    · exact lw_kone hX hS (lwv33_1 hX) lwk_33_1 (by decide +kernel) hd hi0 hiL hL hT hI hlen hlo hN hx2 ⟨by show 0 ≤ x.toInt; omega, by show x.toInt ≤ 0; omega⟩
    · skip
      by_cases c2 : x.toInt ≤ 1
      · exact lw_kone hX hS (lwv33_2 hX) lwk_33_2 (by decide +kernel) hd hi0 hiL hL hT hI hlen hlo hN hx2 ⟨by show 1 ≤ x.toInt; omega, by show x.toInt ≤ 1; omega⟩
      · skip
        exact lw_kone hX hS (lwv33_3 hX) lwk_33_3 (by decide +kernel) hd hi0 hiL hL hT hI hlen hlo hN hx2 ⟨by show 2 ≤ x.toInt; omega, hb.2⟩
theorem lw_s34 {X : List (List Value)} (hX : az_X X) {L : Int} (hS : az_scr X L) {Kb : Option (Option Value) → mzS → Prop} {d : Nat} (hd : 40 ≤ d) {i : Int} {h : List mzC} {s2 : Nat × Nat} {lo : mzL} (hi0 : 0 ≤ i) (hiL : i + 5 ≤ L) (hL : L ≤ 2560) (hT : az_Tp h) (hI : lwI h) (hlen : h.length ≤ 100000) (hlo : az_ml lo [.ref 0, .ref 4, .ref 145, .ref 166, iv i]) (hN : lwNx X Kb d i h s2) : mz_gg X Kb d 0 626 lo [] (h, s2) := by
  obtain ⟨fs, x0, xl, xi⟩ := id hS
  have hlt : (i + 1).toNat < fs.length := by omega
  obtain ⟨x, hx⟩ := xi _ (List.getElem_mem hlt)
  have hx2 : ∀ gs, X[0]? = some gs → gs[(i + 1).toNat]? = some (.int x) := by
    intro gs hg
    rw [x0] at hg
    cases hg
    rw [List.getElem?_eq_getElem hlt, hx]
  have hb := sz_bd x
  by_cases c0 : x.toInt ≤ (-1)
  · exact lw_kone hX hS (lwv34_0 hX) lwk_34_0 (by decide +kernel) hd hi0 hiL hL hT hI hlen hlo hN hx2 ⟨hb.1, by show x.toInt ≤ (-1); omega⟩
  · skip
    by_cases c1 : x.toInt ≤ 0
    · exact lw_kone hX hS (lwv34_1 hX) lwk_34_1 (by decide +kernel) hd hi0 hiL hL hT hI hlen hlo hN hx2 ⟨by show 0 ≤ x.toInt; omega, by show x.toInt ≤ 0; omega⟩
    · skip
      by_cases c2 : x.toInt ≤ 1
      · exact lw_kone hX hS (lwv34_2 hX) lwk_34_2 (by decide +kernel) hd hi0 hiL hL hT hI hlen hlo hN hx2 ⟨by show 1 ≤ x.toInt; omega, by show x.toInt ≤ 1; omega⟩
      · skip
        exact lw_kone hX hS (lwv34_3 hX) lwk_34_3 (by decide +kernel) hd hi0 hiL hL hT hI hlen hlo hN hx2 ⟨by show 2 ≤ x.toInt; omega, hb.2⟩
theorem lw_cases {X : List (List Value)} (hX : az_X X) {L : Int} (hS : az_scr X L) {Kb : Option (Option Value) → mzS → Prop} {d : Nat} (hd : 40 ≤ d) {i : Int} {h : List mzC} {s2 : Nat × Nat} {lo : mzL} (hi0 : 0 ≤ i) (hiL : i + 5 ≤ L) (hL : L ≤ 2560) (hT : az_Tp h) (hI : lwI h) (hlen : h.length ≤ 100000) (hlo : az_ml lo [.ref 0, .ref 4, .ref 145, .ref 166, iv i]) (hN : lwNx X Kb d i h s2) : ∀ pc ∈ lwPcs, mz_gg X Kb d 0 pc lo [] (h, s2) := List.forall_mem_cons.mpr ⟨lw_one hX hS (lwv0 hX) lw_0 hd hi0 hiL hL hT hI hlen hlo hN, List.forall_mem_cons.mpr ⟨lw_one hX hS (lwv1 hX) lw_1 hd hi0 hiL hL hT hI hlen hlo hN, List.forall_mem_cons.mpr ⟨lw_one hX hS (lwv2 hX) lw_2 hd hi0 hiL hL hT hI hlen hlo hN, List.forall_mem_cons.mpr ⟨lw_one hX hS (lwv3 hX) lw_3 hd hi0 hiL hL hT hI hlen hlo hN, List.forall_mem_cons.mpr ⟨lw_one hX hS (lwv4 hX) lw_4 hd hi0 hiL hL hT hI hlen hlo hN, List.forall_mem_cons.mpr ⟨lw_one hX hS (lwv5 hX) lw_5 hd hi0 hiL hL hT hI hlen hlo hN, List.forall_mem_cons.mpr ⟨lw_one hX hS (lwv6 hX) lw_6 hd hi0 hiL hL hT hI hlen hlo hN, List.forall_mem_cons.mpr ⟨lw_one hX hS (lwv7 hX) lw_7 hd hi0 hiL hL hT hI hlen hlo hN, List.forall_mem_cons.mpr ⟨lw_one hX hS (lwv8 hX) lw_8 hd hi0 hiL hL hT hI hlen hlo hN, List.forall_mem_cons.mpr ⟨lw_one hX hS (lwv9 hX) lw_9 hd hi0 hiL hL hT hI hlen hlo hN, List.forall_mem_cons.mpr ⟨lw_one hX hS (lwv10 hX) lw_10 hd hi0 hiL hL hT hI hlen hlo hN, List.forall_mem_cons.mpr ⟨lw_one hX hS (lwv11 hX) lw_11 hd hi0 hiL hL hT hI hlen hlo hN, List.forall_mem_cons.mpr ⟨lw_one hX hS (lwv12 hX) lw_12 hd hi0 hiL hL hT hI hlen hlo hN, List.forall_mem_cons.mpr ⟨lw_one hX hS (lwv13 hX) lw_13 hd hi0 hiL hL hT hI hlen hlo hN, List.forall_mem_cons.mpr ⟨lw_one hX hS (lwv14 hX) lw_14 hd hi0 hiL hL hT hI hlen hlo hN, List.forall_mem_cons.mpr ⟨lw_one hX hS (lwv15 hX) lw_15 hd hi0 hiL hL hT hI hlen hlo hN, List.forall_mem_cons.mpr ⟨lw_one hX hS (lwv16 hX) lw_16 hd hi0 hiL hL hT hI hlen hlo hN, List.forall_mem_cons.mpr ⟨lw_one hX hS (lwv17 hX) lw_17 hd hi0 hiL hL hT hI hlen hlo hN, List.forall_mem_cons.mpr ⟨lw_one hX hS (lwv18 hX) lw_18 hd hi0 hiL hL hT hI hlen hlo hN, List.forall_mem_cons.mpr ⟨lw_one hX hS (lwv19 hX) lw_19 hd hi0 hiL hL hT hI hlen hlo hN, List.forall_mem_cons.mpr ⟨lw_one hX hS (lwv20 hX) lw_20 hd hi0 hiL hL hT hI hlen hlo hN, List.forall_mem_cons.mpr ⟨lw_one hX hS (lwv21 hX) lw_21 hd hi0 hiL hL hT hI hlen hlo hN, List.forall_mem_cons.mpr ⟨lw_one hX hS (lwv22 hX) lw_22 hd hi0 hiL hL hT hI hlen hlo hN, List.forall_mem_cons.mpr ⟨lw_one hX hS (lwv23 hX) lw_23 hd hi0 hiL hL hT hI hlen hlo hN, List.forall_mem_cons.mpr ⟨lw_one hX hS (lwv24 hX) lw_24 hd hi0 hiL hL hT hI hlen hlo hN, List.forall_mem_cons.mpr ⟨lw_one hX hS (lwv25 hX) lw_25 hd hi0 hiL hL hT hI hlen hlo hN, List.forall_mem_cons.mpr ⟨lw_one hX hS (lwv26 hX) lw_26 hd hi0 hiL hL hT hI hlen hlo hN, List.forall_mem_cons.mpr ⟨lw_one hX hS (lwv27 hX) lw_27 hd hi0 hiL hL hT hI hlen hlo hN, List.forall_mem_cons.mpr ⟨lw_one hX hS (lwv28 hX) lw_28 hd hi0 hiL hL hT hI hlen hlo hN, List.forall_mem_cons.mpr ⟨lw_one hX hS (lwv29 hX) lw_29 hd hi0 hiL hL hT hI hlen hlo hN, List.forall_mem_cons.mpr ⟨lw_one hX hS (lwv30 hX) lw_30 hd hi0 hiL hL hT hI hlen hlo hN, List.forall_mem_cons.mpr ⟨lw_one hX hS (lwv31 hX) lw_31 hd hi0 hiL hL hT hI hlen hlo hN, List.forall_mem_cons.mpr ⟨lw_one hX hS (lwv32 hX) lw_32 hd hi0 hiL hL hT hI hlen hlo hN, List.forall_mem_cons.mpr ⟨lw_s33 hX hS hd hi0 hiL hL hT hI hlen hlo hN, List.forall_mem_cons.mpr ⟨lw_s34 hX hS hd hi0 hiL hL hT hI hlen hlo hN, List.forall_mem_cons.mpr ⟨lw_one hX hS (lwv35 hX) lw_35 hd hi0 hiL hL hT hI hlen hlo hN, List.forall_mem_cons.mpr ⟨lw_one hX hS (lwv36 hX) lw_36 hd hi0 hiL hL hT hI hlen hlo hN, fun _ h => by cases h⟩⟩⟩⟩⟩⟩⟩⟩⟩⟩⟩⟩⟩⟩⟩⟩⟩⟩⟩⟩⟩⟩⟩⟩⟩⟩⟩⟩⟩⟩⟩⟩⟩⟩⟩⟩⟩
