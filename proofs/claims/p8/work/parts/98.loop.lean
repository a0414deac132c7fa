/-! the law, case by case: written by wip/B/genlaw.py -/
theorem lw_s6 {X : List (List Value)} (hX : az_X X) {L : Int} (hS : az_scr X L) {Kb : Option (Option Value) → mzS → Prop} {d : Nat} (hd : 40 ≤ d) {i : Int} {h : List mzC} {s2 : Nat × Nat} {lo : mzL} (hi0 : 0 ≤ i) (hiL : i + 5 ≤ L) (hL : L ≤ 2560) (hT : az_Tp h) (hI : lwI h) (hlen : h.length ≤ 100000) (hlo : az_ml lo [.ref 0, .ref 4, .ref 145, .ref 166, iv i]) (hN : lwNx X Kb d i h s2) : mz_gg X Kb d 0 139 lo [] (h, s2) := by
  obtain ⟨fs, x0, xl, xi⟩ := id hS
  have hxs : ∀ c : Nat, c ≤ 4 → ∃ x : Int32, ∀ gs, X[0]? = some gs → gs[(i + c).toNat]? = some (.int x) := by
    intro c hc
    have hlt : (i + c).toNat < fs.length := by omega
    obtain ⟨x, hx⟩ := xi _ (List.getElem_mem hlt)
    refine ⟨x, ?_⟩
    intro gs hg
    rw [x0] at hg
    cases hg
    rw [List.getElem?_eq_getElem hlt, hx]
  obtain ⟨x1, hx1⟩ := hxs 1 (by omega)
  obtain ⟨x2, hx2⟩ := hxs 2 (by omega)
  obtain ⟨x3, hx3⟩ := hxs 3 (by omega)
  obtain ⟨x4, hx4⟩ := hxs 4 (by omega)
  have hb1 := sz_bd x1
  have hb2 := sz_bd x2
  by_cases c0 : x1.toInt ≤ (-1)
  · exact lw_k8 hX hS (lwv6 hX) lwk8_0 (by decide +kernel) hd hi0 hiL hL hT hI hlen hlo hN hx1 hx2 hx3 hx4 ⟨hb1.1, by show x1.toInt ≤ (-1); omega⟩ ⟨hb2.1, hb2.2⟩
  by_cases c1 : 4 ≤ x1.toInt
  · exact lw_k8 hX hS (lwv6 hX) lwk8_2 (by decide +kernel) hd hi0 hiL hL hT hI hlen hlo hN hx1 hx2 hx3 hx4 ⟨by show 4 ≤ x1.toInt; omega, hb1.2⟩ ⟨hb2.1, hb2.2⟩
  by_cases c2 : 3 ≤ x1.toInt
  · exact lw_k8 hX hS (lwv6 hX) lwk8_1 (by decide +kernel) hd hi0 hiL hL hT hI hlen hlo hN hx1 hx2 hx3 hx4 ⟨by show 3 ≤ x1.toInt; omega, by show x1.toInt ≤ 3; omega⟩ ⟨hb2.1, hb2.2⟩
  by_cases k2 : 2 ≤ x1.toInt
  · by_cases d0 : x2.toInt ≤ (-1)
    · exact lw_k8 hX hS (lwv6 hX) lwk8_17 (by decide +kernel) hd hi0 hiL hL hT hI hlen hlo hN hx1 hx2 hx3 hx4 ⟨by show 2 ≤ x1.toInt; omega, by show x1.toInt ≤ 2; omega⟩ ⟨hb2.1, by show x2.toInt ≤ (-1); omega⟩
    by_cases d1 : x2.toInt ≤ 4
    · exact lw_k8 hX hS (lwv6 hX) lwk8_18 (by decide +kernel) hd hi0 hiL hL hT hI hlen hlo hN hx1 hx2 hx3 hx4 ⟨by show 2 ≤ x1.toInt; omega, by show x1.toInt ≤ 2; omega⟩ ⟨by show 0 ≤ x2.toInt; omega, by show x2.toInt ≤ 4; omega⟩
    by_cases d2 : x2.toInt ≤ 8
    · exact lw_k8 hX hS (lwv6 hX) lwk8_19 (by decide +kernel) hd hi0 hiL hL hT hI hlen hlo hN hx1 hx2 hx3 hx4 ⟨by show 2 ≤ x1.toInt; omega, by show x1.toInt ≤ 2; omega⟩ ⟨by show 5 ≤ x2.toInt; omega, by show x2.toInt ≤ 8; omega⟩
    by_cases d3 : x2.toInt ≤ 11
    · exact lw_k8 hX hS (lwv6 hX) lwk8_20 (by decide +kernel) hd hi0 hiL hL hT hI hlen hlo hN hx1 hx2 hx3 hx4 ⟨by show 2 ≤ x1.toInt; omega, by show x1.toInt ≤ 2; omega⟩ ⟨by show 9 ≤ x2.toInt; omega, by show x2.toInt ≤ 11; omega⟩
    by_cases d4 : x2.toInt ≤ 14
    · exact lw_k8 hX hS (lwv6 hX) lwk8_21 (by decide +kernel) hd hi0 hiL hL hT hI hlen hlo hN hx1 hx2 hx3 hx4 ⟨by show 2 ≤ x1.toInt; omega, by show x1.toInt ≤ 2; omega⟩ ⟨by show 12 ≤ x2.toInt; omega, by show x2.toInt ≤ 14; omega⟩
    by_cases d5 : x2.toInt ≤ 16
    · exact lw_k8 hX hS (lwv6 hX) lwk8_22 (by decide +kernel) hd hi0 hiL hL hT hI hlen hlo hN hx1 hx2 hx3 hx4 ⟨by show 2 ≤ x1.toInt; omega, by show x1.toInt ≤ 2; omega⟩ ⟨by show 15 ≤ x2.toInt; omega, by show x2.toInt ≤ 16; omega⟩
    exact lw_k8 hX hS (lwv6 hX) lwk8_23 (by decide +kernel) hd hi0 hiL hL hT hI hlen hlo hN hx1 hx2 hx3 hx4 ⟨by show 2 ≤ x1.toInt; omega, by show x1.toInt ≤ 2; omega⟩ ⟨by show 17 ≤ x2.toInt; omega, hb2.2⟩
  by_cases k1 : 1 ≤ x1.toInt
  · by_cases d0 : x2.toInt ≤ (-1)
    · exact lw_k8 hX hS (lwv6 hX) lwk8_10 (by decide +kernel) hd hi0 hiL hL hT hI hlen hlo hN hx1 hx2 hx3 hx4 ⟨by show 1 ≤ x1.toInt; omega, by show x1.toInt ≤ 1; omega⟩ ⟨hb2.1, by show x2.toInt ≤ (-1); omega⟩
    by_cases d1 : x2.toInt ≤ 4
    · exact lw_k8 hX hS (lwv6 hX) lwk8_11 (by decide +kernel) hd hi0 hiL hL hT hI hlen hlo hN hx1 hx2 hx3 hx4 ⟨by show 1 ≤ x1.toInt; omega, by show x1.toInt ≤ 1; omega⟩ ⟨by show 0 ≤ x2.toInt; omega, by show x2.toInt ≤ 4; omega⟩
    by_cases d2 : x2.toInt ≤ 8
    · exact lw_k8 hX hS (lwv6 hX) lwk8_12 (by decide +kernel) hd hi0 hiL hL hT hI hlen hlo hN hx1 hx2 hx3 hx4 ⟨by show 1 ≤ x1.toInt; omega, by show x1.toInt ≤ 1; omega⟩ ⟨by show 5 ≤ x2.toInt; omega, by show x2.toInt ≤ 8; omega⟩
    by_cases d3 : x2.toInt ≤ 11
    · exact lw_k8 hX hS (lwv6 hX) lwk8_13 (by decide +kernel) hd hi0 hiL hL hT hI hlen hlo hN hx1 hx2 hx3 hx4 ⟨by show 1 ≤ x1.toInt; omega, by show x1.toInt ≤ 1; omega⟩ ⟨by show 9 ≤ x2.toInt; omega, by show x2.toInt ≤ 11; omega⟩
    by_cases d4 : x2.toInt ≤ 14
    · exact lw_k8 hX hS (lwv6 hX) lwk8_14 (by decide +kernel) hd hi0 hiL hL hT hI hlen hlo hN hx1 hx2 hx3 hx4 ⟨by show 1 ≤ x1.toInt; omega, by show x1.toInt ≤ 1; omega⟩ ⟨by show 12 ≤ x2.toInt; omega, by show x2.toInt ≤ 14; omega⟩
    by_cases d5 : x2.toInt ≤ 16
    · exact lw_k8 hX hS (lwv6 hX) lwk8_15 (by decide +kernel) hd hi0 hiL hL hT hI hlen hlo hN hx1 hx2 hx3 hx4 ⟨by show 1 ≤ x1.toInt; omega, by show x1.toInt ≤ 1; omega⟩ ⟨by show 15 ≤ x2.toInt; omega, by show x2.toInt ≤ 16; omega⟩
    exact lw_k8 hX hS (lwv6 hX) lwk8_16 (by decide +kernel) hd hi0 hiL hL hT hI hlen hlo hN hx1 hx2 hx3 hx4 ⟨by show 1 ≤ x1.toInt; omega, by show x1.toInt ≤ 1; omega⟩ ⟨by show 17 ≤ x2.toInt; omega, hb2.2⟩
  by_cases d0 : x2.toInt ≤ (-1)
  · exact lw_k8 hX hS (lwv6 hX) lwk8_3 (by decide +kernel) hd hi0 hiL hL hT hI hlen hlo hN hx1 hx2 hx3 hx4 ⟨by show 0 ≤ x1.toInt; omega, by show x1.toInt ≤ 0; omega⟩ ⟨hb2.1, by show x2.toInt ≤ (-1); omega⟩
  by_cases d1 : x2.toInt ≤ 4
  · exact lw_k8 hX hS (lwv6 hX) lwk8_4 (by decide +kernel) hd hi0 hiL hL hT hI hlen hlo hN hx1 hx2 hx3 hx4 ⟨by show 0 ≤ x1.toInt; omega, by show x1.toInt ≤ 0; omega⟩ ⟨by show 0 ≤ x2.toInt; omega, by show x2.toInt ≤ 4; omega⟩
  by_cases d2 : x2.toInt ≤ 8
  · exact lw_k8 hX hS (lwv6 hX) lwk8_5 (by decide +kernel) hd hi0 hiL hL hT hI hlen hlo hN hx1 hx2 hx3 hx4 ⟨by show 0 ≤ x1.toInt; omega, by show x1.toInt ≤ 0; omega⟩ ⟨by show 5 ≤ x2.toInt; omega, by show x2.toInt ≤ 8; omega⟩
  by_cases d3 : x2.toInt ≤ 11
  · exact lw_k8 hX hS (lwv6 hX) lwk8_6 (by decide +kernel) hd hi0 hiL hL hT hI hlen hlo hN hx1 hx2 hx3 hx4 ⟨by show 0 ≤ x1.toInt; omega, by show x1.toInt ≤ 0; omega⟩ ⟨by show 9 ≤ x2.toInt; omega, by show x2.toInt ≤ 11; omega⟩
  by_cases d4 : x2.toInt ≤ 14
  · exact lw_k8 hX hS (lwv6 hX) lwk8_7 (by decide +kernel) hd hi0 hiL hL hT hI hlen hlo hN hx1 hx2 hx3 hx4 ⟨by show 0 ≤ x1.toInt; omega, by show x1.toInt ≤ 0; omega⟩ ⟨by show 12 ≤ x2.toInt; omega, by show x2.toInt ≤ 14; omega⟩
  by_cases d5 : x2.toInt ≤ 16
  · exact lw_k8 hX hS (lwv6 hX) lwk8_8 (by decide +kernel) hd hi0 hiL hL hT hI hlen hlo hN hx1 hx2 hx3 hx4 ⟨by show 0 ≤ x1.toInt; omega, by show x1.toInt ≤ 0; omega⟩ ⟨by show 15 ≤ x2.toInt; omega, by show x2.toInt ≤ 16; omega⟩
  exact lw_k8 hX hS (lwv6 hX) lwk8_9 (by decide +kernel) hd hi0 hiL hL hT hI hlen hlo hN hx1 hx2 hx3 hx4 ⟨by show 0 ≤ x1.toInt; omega, by show x1.toInt ≤ 0; omega⟩ ⟨by show 17 ≤ x2.toInt; omega, hb2.2⟩
theorem lw_cases {X : List (List Value)} (hX : az_X X) {L : Int} (hS : az_scr X L) {Kb : Option (Option Value) → mzS → Prop} {d : Nat} (hd : 40 ≤ d) {i : Int} {h : List mzC} {s2 : Nat × Nat} {lo : mzL} (hi0 : 0 ≤ i) (hiL : i + 5 ≤ L) (hL : L ≤ 2560) (hT : az_Tp h) (hI : lwI h) (hlen : h.length ≤ 100000) (hlo : az_ml lo [.ref 0, .ref 4, .ref 145, .ref 166, iv i]) (hN : lwNx X Kb d i h s2) : ∀ pc ∈ lwPcs, mz_gg X Kb d 0 pc lo [] (h, s2) := List.forall_mem_cons.mpr ⟨lw_one hX hS (lwv0 hX) lw_0 hd hi0 hiL hL hT hI hlen hlo hN, List.forall_mem_cons.mpr ⟨lw_one hX hS (lwv1 hX) lw_1 hd hi0 hiL hL hT hI hlen hlo hN, List.forall_mem_cons.mpr ⟨lw_one hX hS (lwv2 hX) lw_2 hd hi0 hiL hL hT hI hlen hlo hN, List.forall_mem_cons.mpr ⟨lw_one hX hS (lwv3 hX) lw_3 hd hi0 hiL hL hT hI hlen hlo hN, List.forall_mem_cons.mpr ⟨lw_one hX hS (lwv4 hX) lw_4 hd hi0 hiL hL hT hI hlen hlo hN, List.forall_mem_cons.mpr ⟨lw_one hX hS (lwv5 hX) lw_5 hd hi0 hiL hL hT hI hlen hlo hN, List.forall_mem_cons.mpr ⟨lw_s6 hX hS hd hi0 hiL hL hT hI hlen hlo hN, List.forall_mem_cons.mpr ⟨lw_one hX hS (lwv7 hX) lw_7 hd hi0 hiL hL hT hI hlen hlo hN, List.forall_mem_cons.mpr ⟨lw_one hX hS (lwv8 hX) lw_8 hd hi0 hiL hL hT hI hlen hlo hN, List.forall_mem_cons.mpr ⟨lw_one hX hS (lwv9 hX) lw_9 hd hi0 hiL hL hT hI hlen hlo hN, List.forall_mem_cons.mpr ⟨lw_one hX hS (lwv10 hX) lw_10 hd hi0 hiL hL hT hI hlen hlo hN, List.forall_mem_cons.mpr ⟨lw_one hX hS (lwv11 hX) lw_11 hd hi0 hiL hL hT hI hlen hlo hN, List.forall_mem_cons.mpr ⟨lw_one hX hS (lwv12 hX) lw_12 hd hi0 hiL hL hT hI hlen hlo hN, List.forall_mem_cons.mpr ⟨lw_one hX hS (lwv13 hX) lw_13 hd hi0 hiL hL hT hI hlen hlo hN, List.forall_mem_cons.mpr ⟨lw_one hX hS (lwv14 hX) lw_14 hd hi0 hiL hL hT hI hlen hlo hN, List.forall_mem_cons.mpr ⟨lw_one hX hS (lwv15 hX) lw_15 hd hi0 hiL hL hT hI hlen hlo hN, List.forall_mem_cons.mpr ⟨lw_one hX hS (lwv16 hX) lw_16 hd hi0 hiL hL hT hI hlen hlo hN, List.forall_mem_cons.mpr ⟨lw_one hX hS (lwv17 hX) lw_17 hd hi0 hiL hL hT hI hlen hlo hN, List.forall_mem_cons.mpr ⟨lw_one hX hS (lwv18 hX) lw_18 hd hi0 hiL hL hT hI hlen hlo hN, List.forall_mem_cons.mpr ⟨lw_one hX hS (lwv19 hX) lw_19 hd hi0 hiL hL hT hI hlen hlo hN, List.forall_mem_cons.mpr ⟨lw_one hX hS (lwv20 hX) lw_20 hd hi0 hiL hL hT hI hlen hlo hN, List.forall_mem_cons.mpr ⟨lw_one hX hS (lwv21 hX) lw_21 hd hi0 hiL hL hT hI hlen hlo hN, List.forall_mem_cons.mpr ⟨lw_one hX hS (lwv22 hX) lw_22 hd hi0 hiL hL hT hI hlen hlo hN, List.forall_mem_cons.mpr ⟨lw_one hX hS (lwv23 hX) lw_23 hd hi0 hiL hL hT hI hlen hlo hN, List.forall_mem_cons.mpr ⟨lw_one hX hS (lwv24 hX) lw_24 hd hi0 hiL hL hT hI hlen hlo hN, List.forall_mem_cons.mpr ⟨lw_one hX hS (lwv25 hX) lw_25 hd hi0 hiL hL hT hI hlen hlo hN, List.forall_mem_cons.mpr ⟨lw_one hX hS (lwv26 hX) lw_26 hd hi0 hiL hL hT hI hlen hlo hN, List.forall_mem_cons.mpr ⟨lw_one hX hS (lwv27 hX) lw_27 hd hi0 hiL hL hT hI hlen hlo hN, List.forall_mem_cons.mpr ⟨lw_one hX hS (lwv28 hX) lw_28 hd hi0 hiL hL hT hI hlen hlo hN, List.forall_mem_cons.mpr ⟨lw_one hX hS (lwv29 hX) lw_29 hd hi0 hiL hL hT hI hlen hlo hN, List.forall_mem_cons.mpr ⟨lw_one hX hS (lwv30 hX) lw_30 hd hi0 hiL hL hT hI hlen hlo hN, List.forall_mem_cons.mpr ⟨lw_one hX hS (lwv31 hX) lw_31 hd hi0 hiL hL hT hI hlen hlo hN, List.forall_mem_cons.mpr ⟨lw_one hX hS (lwv32 hX) lw_32 hd hi0 hiL hL hT hI hlen hlo hN, List.forall_mem_cons.mpr ⟨lw_one hX hS (lwv33 hX) lw_33 hd hi0 hiL hL hT hI hlen hlo hN, List.forall_mem_cons.mpr ⟨lw_one hX hS (lwv34 hX) lw_34 hd hi0 hiL hL hT hI hlen hlo hN, List.forall_mem_cons.mpr ⟨lw_one hX hS (lwv35 hX) lw_35 hd hi0 hiL hL hT hI hlen hlo hN, List.forall_mem_cons.mpr ⟨lw_one hX hS (lwv36 hX) lw_36 hd hi0 hiL hL hT hI hlen hlo hN, fun _ h => by cases h⟩⟩⟩⟩⟩⟩⟩⟩⟩⟩⟩⟩⟩⟩⟩⟩⟩⟩⟩⟩⟩⟩⟩⟩⟩⟩⟩⟩⟩⟩⟩⟩⟩⟩⟩⟩⟩
