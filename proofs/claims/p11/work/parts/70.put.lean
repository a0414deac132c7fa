/-! putOne: what is put stays small -/
def bt (S : Int) (o : Nat) : Prop := S / 2 ^ o % 2 = 1
theorem bt17 : (List.range 1024).all (fun S => (List.range 10).all (fun o => decide ((sz_op 17 (Int32.ofInt (S : Int)) (Int32.ofInt (o : Int))).toInt = (S : Int) / 2 ^ o))) = true := by decide +kernel
theorem bt13 : (List.range 1024).all (fun S => decide ((sz_op 13 (Int32.ofInt (S : Int)) (Int32.ofInt 1)).toInt = (S : Int) % 2)) = true := by decide +kernel
theorem bt14 : (List.range 1024).all (fun S => (List.range 10).all (fun k => sz_fi (sz_op 14 (Int32.ofInt (S : Int)) (Int32.ofInt ((2 ^ k : Nat) : Int))).toInt (fun u => (decide (0 ≤ u) && decide (u ≤ 1023)) && (List.range 10).all (fun j => decide ((u / 2 ^ j % 2 = 1) ↔ ((S : Int) / 2 ^ j % 2 = 1 ∨ j = k)))))) = true := by decide +kernel
set_option maxRecDepth 20000 in
theorem op17 {S : Int} (h1 : 0 ≤ S) (h2 : S ≤ 1023) {o : Nat} (ho : o < 10) : (sz_op 17 (Int32.ofInt S) (Int32.ofInt (o : Int))).toInt = S / 2 ^ o := by
  have := List.all_eq_true.mp (List.all_eq_true.mp bt17 S.toNat (List.mem_range.mpr (by omega))) o (List.mem_range.mpr ho)
  rw [decide_eq_true_eq, Int.toNat_of_nonneg h1] at this
  exact this
set_option maxRecDepth 20000 in
theorem op13 {S : Int} (h1 : 0 ≤ S) (h2 : S ≤ 1023) : (sz_op 13 (Int32.ofInt S) (Int32.ofInt 1)).toInt = S % 2 := by
  have := List.all_eq_true.mp bt13 S.toNat (List.mem_range.mpr (by omega))
  rw [decide_eq_true_eq, Int.toNat_of_nonneg h1] at this
  exact this
set_option maxRecDepth 20000 in
theorem op14 {S : Int} (h1 : 0 ≤ S) (h2 : S ≤ 1023) {k : Nat} (hk : k < 10) : 0 ≤ (sz_op 14 (Int32.ofInt S) (Int32.ofInt ((2 ^ k : Nat) : Int))).toInt ∧ (sz_op 14 (Int32.ofInt S) (Int32.ofInt ((2 ^ k : Nat) : Int))).toInt ≤ 1023 ∧ ∀ j, j < 10 → (bt (sz_op 14 (Int32.ofInt S) (Int32.ofInt ((2 ^ k : Nat) : Int))).toInt j ↔ (bt S j ∨ j = k)) := by
  have := List.all_eq_true.mp (List.all_eq_true.mp bt14 S.toNat (List.mem_range.mpr (by omega))) k (List.mem_range.mpr hk)
  rw [sz_fi_eq, Int.toNat_of_nonneg h1] at this
  simp only [Bool.and_eq_true, decide_eq_true_eq] at this
  refine ⟨this.1.1, this.1.2, fun j hj => ?_⟩
  have := List.all_eq_true.mp this.2 j (List.mem_range.mpr hj)
  rw [decide_eq_true_eq] at this
  exact this
def poB (i : Nat) : Int := 1060 + 2100 * (i : Int)
def poQ : szM := (7, 12, (0, 0, 0), szc_142)
set_option maxRecDepth 20000 in
theorem poQ_ok : szP[142]? = some poQ := rfl
def hrB : azCon := (141, 3, ([azf, azf, azf], [(0, 9), ((-2147483648), 2147483647), (1, 200)], [], [(1, 145, []), (0, 0, [(0, 1)]), (0, 0, [(1, 1)]), (0, 0, [(2, 1)])], [], [], false), [(some (some (0, 0, [(3, 1)])), [azf, azf, azf, azf], [(0, 9), ((-2147483648), 2147483647), (1, 200), (0, 1)], [], [])], [], (0, 0))
/-- the begin: atoms 0 act, 1 gap, 2 its early time -/
def poC0 : azCon := (142, 4, ([azf, azf], [(0, 9), (1, 200)], [], [(1, 145, []), (0, 0, [(0, 1)]), (0, 0, [(1, 1)])], [], [], false), [], [], (0, 0))
def poE0 : azHd := (7, ([azf, azf, azf], [(0, 9), (1, 200), (0, 1060)], [], [(1, 145, []), (0, 0, [(0, 1)]), (0, 0, [(1, 1)]), (0, 0, [(2, 1)]), (0, 0, [])], [], [], false), (0, []), (0, 0))
theorem poR0 : az_ex szP az_inl poC0.2.1 [] poC0.2.2.2.2.1 (fun _ => az_pre 142 []) (az_hint []) (az_sleaf szP az_inl [] (fun _ => az_pre 142 []) (az_hint []) poC0 [poE0] (az_hb 2) (az_rb 2) none 0) 1000 poC0.2.2.1.1 poC0.2.2.1.2.1 poC0.2.2.1.2.2.1 (az_hc poC0 poQ (0, poC0.2.2.1, (0, []), (0, 0))) = true := by decide +kernel
/-- one that may be put: atoms 0 act, 1 gap, 2 time, 3 how many acts, 4 what is put, 5, 6 its bit, 7 its place -/
def poR1 (i o : Nat) (b : Bool) : szR := [(0, 9), (1, 200), (0, poB i + 40), ((o : Int) + 1, 10), (0, 1023), (0, 1023), bif b then (1, 1) else (0, 0), (0, bif b then poB i else 60000)]
def poC1 (i o : Nat) (b : Bool) : azCon := (142, 4, ([azf, azf, azf, azf, azf, (17, (0, 0, [(4, 1)]), (0, (o : Int), [])), (13, (0, 0, [(5, 1)]), (0, 1, [])), azf], poR1 i o b, [], [(1, 145, []), (0, 0, [(0, 1)]), (0, 0, [(1, 1)]), (0, 0, [(2, 1)]), (0, (o : Int), [])], [(142, (0, []), (0, 0, [(3, 1)])), (141, (20, []), (0, 0, [(4, 1)])), (153, ((o : Int), []), (0, 0, [(7, 1)]))], [], false), [], [], (0, 0))
def poE1 (i o : Nat) (b : Bool) : azHd := (7, ([azf, azf, azf, azf, azf, azf, azf, azf, azf], poR1 i o b ++ [(0, poB i + 40)], [], [(1, 145, []), (0, 0, [(0, 1)]), (0, 0, [(1, 1)]), (0, 0, [(8, 1)]), (0, (o : Int) + 1, [])], [], [], false), (0, []), (0, 0))
theorem poR1s : (List.range 10).all (fun i => (List.range 10).all (fun o => [true, false].all (fun b => az_ex szP az_inl (poC1 i o b).2.1 [bhB] (poC1 i o b).2.2.2.2.1 (fun _ => az_pre 142 []) (az_hint [bhB]) (az_sleaf szP az_inl [bhB] (fun _ => az_pre 142 []) (az_hint [bhB]) (poC1 i o b) [poE1 i o b] (az_hb 8) (az_rb 8) none 0) 1000 (poC1 i o b).2.2.1.1 (poC1 i o b).2.2.1.2.1 (poC1 i o b).2.2.1.2.2.1 (az_hc (poC1 i o b) poQ (7, (poC1 i o b).2.2.1, (0, []), (0, 0)))))) = true := by decide +kernel
/-- a tick with room: atoms 0 act, 1 gap, 2 time, 3 how many acts; then 4 time, 5 tick, 6 how many ticks later -/
def poC2 (i : Nat) : azCon := (142, 4, ([azf, azf, azf, azf], [(0, 9), (1, 200), (0, poB i + 40), (0, 10)], [], [(1, 145, []), (0, 0, [(0, 1)]), (0, 0, [(1, 1)]), (0, 0, [(2, 1)]), (0, 0, [(3, 1)])], [(142, (0, []), (0, 0, [(3, 1)]))], [], false), [(some (some (0, 0, [])), [azf, azf, azf, azf], [(0, 9), (1, 200), (0, poB i + 40), (0, 10)], [], [])], [], (0, 0))
def poR2 (i : Nat) (m : Int) : szR := [(0, 9), (1, 200), (0, poB i + 40), (0, 10), (0, poB i + 50), (0, 106 + 210 * (i : Int) + 5), (0, m)]
def poL2 : szLo := [(1, 145, []), (0, 0, [(0, 1)]), (0, 0, [(1, 1)]), (0, 0, [(4, 1)]), (0, 0, [(5, 1)]), (0, 0, [(6, 1)])]
def poH2 (i : Nat) : azHd := (43, ([azf, azf, azf, azf, azf, azf, azf], poR2 i 200, [], poL2, [], [], false), (201, [(6, (-1))]), (0, 0))
def poE2 (i : Nat) : azHd := (55, ([azf, azf, azf, azf, azf, azf, azf], poR2 i 199, [], poL2, [], [], false), (0, []), (0, 0))
theorem poR2a : (List.range 10).all (fun i => az_ex szP az_inl (poC2 i).2.1 [hrB] (poC2 i).2.2.2.2.1 (fun _ => az_pre 142 []) (az_hint [hrB]) (az_hleaf (poC2 i) [poH2 i] [poE2 i] none (az_hb 4) (az_rb 4)) 2000 (poC2 i).2.2.1.1 (poC2 i).2.2.1.2.1 (poC2 i).2.2.1.2.2.1 (az_hc (poC2 i) poQ (7, (poC2 i).2.2.1, (0, []), (0, 0)))) = true := by decide +kernel
theorem poR2b : (List.range 10).all (fun i => az_ex szP az_inl (poC2 i).2.1 [hrB] (poC2 i).2.2.2.2.1 (fun _ => az_pre 142 []) (az_hint [hrB]) (az_hleaf (poC2 i) [poH2 i] [poE2 i] (some (poH2 i).2.2.1) (az_hb 4) (az_rb 4)) 2000 (poH2 i).2.1.1 (poH2 i).2.1.2.1 (poH2 i).2.1.2.2.1 (az_hc (poC2 i) poQ (poH2 i))) = true := by decide +kernel
theorem poH2_ok : (List.range 10).all (fun i => az_hok (poC2 i) (poH2 i)) = true := by decide +kernel
/-- it is put: atoms 0 gap, 1 time, 2 tick, 3 how many later, 4 what was put, 5 what is put -/
def poR3 (i : Nat) : szR := [(1, 200), (0, poB i + 50), (0, 106 + 210 * (i : Int) + 5), (0, 199), (0, 1023), (0, 1023)]
def poC3 (i k : Nat) : azCon := (142, 4, ([azf, azf, azf, azf, azf, (14, (0, 0, [(4, 1)]), (0, ((2 ^ k : Nat) : Int), []))], poR3 i, [], [(1, 145, []), (0, (k : Int), []), (0, 0, [(0, 1)]), (0, 0, [(1, 1)]), (0, 0, [(2, 1)]), (0, 0, [(3, 1)])], [(141, (20, []), (0, 0, [(4, 1)]))], [], false), [], [(153, k + 1), (141, 21)], (0, 0))
def poE3 (i k : Nat) : azHd := (76, ([azf, azf, azf, azf, azf, azf, azf], poR3 i ++ [(0, poB (i + 1))], [], [(1, 145, []), (0, (k : Int), []), (0, 0, [(0, 1)])], [(141, (20, []), (0, 0, [(5, 1)])), (153, ((k : Int), []), (0, 0, [(6, 1)]))], [], false), (0, []), (0, 0))
theorem poR3s : (List.range 10).all (fun i => (List.range 10).all (fun k => az_ex szP az_inl (poC3 i k).2.1 [] (poC3 i k).2.2.2.2.1 (fun _ => az_pre 142 []) (az_hint []) (az_sleaf szP az_inl [] (fun _ => az_pre 142 []) (az_hint []) (poC3 i k) [poE3 i k] (az_hb 6) (az_rb 6) none 0) 1000 (poC3 i k).2.2.1.1 (poC3 i k).2.2.1.2.1 (poC3 i k).2.2.1.2.2.1 (az_hc (poC3 i k) poQ (55, (poC3 i k).2.2.1, (0, []), (0, 0))))) = true := by decide +kernel
/-- the last look -/
def poC4 : azCon := (142, 4, ([azf, azf], [(0, 9), (1, 200)], [], [(1, 145, []), (0, 0, [(0, 1)]), (0, 0, [(1, 1)])], [], [], false), [(some (some (0, 0, [])), [azf, azf], [(0, 9), (1, 200)], [], []), (some (some (0, 1, [])), [azf, azf], [(0, 9), (1, 200)], [], [])], [], (0, 0))
def poH4 : azHd := (78, ([azf, azf, azf], [(0, 9), (1, 200), (0, 10)], [], [(1, 145, []), (0, 0, [(0, 1)]), (0, 0, [(1, 1)]), (9, 0, []), (9, 0, []), (9, 0, []), (0, 0, [(2, 1)])], [], [], false), (11, [(2, (-1))]), (0, 0))
theorem poR4a : az_ex szP az_inl poC4.2.1 [bhB] poC4.2.2.2.2.1 (fun _ => az_pre 142 []) (az_hint [bhB]) (az_hleaf poC4 [poH4] [] none (az_hb 2) (az_rb 2)) 4000 poC4.2.2.1.1 poC4.2.2.1.2.1 poC4.2.2.1.2.2.1 (az_hc poC4 poQ (76, poC4.2.2.1, (0, []), (0, 0))) = true := by decide +kernel
theorem poR4b : az_ex szP az_inl poC4.2.1 [bhB] poC4.2.2.2.2.1 (fun _ => az_pre 142 []) (az_hint [bhB]) (az_hleaf poC4 [poH4] [] (some poH4.2.2.1) (az_hb 2) (az_rb 2)) 4000 poH4.2.1.1 poH4.2.1.2.1 poH4.2.1.2.2.1 (az_hc poC4 poQ poH4) = true := by decide +kernel
