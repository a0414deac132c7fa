/-! contracts: written by wip/A/gen56.py -/
/-- $Bounds.findAddress -/
def ak_k80 : azCon := (192, 1, ([(0, (0, 0, []), (0, 0, []))], [(0, 9)], [], [(1, 22, []), (0, 0, [(0, 1)])], [], [], false), [(some none, [(0, (0, 0, []), (0, 0, []))], [(0, 9)], [], [])], [(22, 0), (23, 0)], (0, 0))
def ak_t80 : List azCon := [ak_k76, ak_k77, ak_k78, ak_k79]
def ak_h80 : List azHd := []
theorem ak_e80 : az_ex szP az_inl ak_k80.2.1 ak_t80 ak_k80.2.2.2.2.1 (fun _ => az_pre 192 []) (az_hint ak_t80) (az_leaf ak_k80 ak_h80 none (az_hb 1) (az_rb 1)) 16750 ak_k80.2.2.1.1 ak_k80.2.2.1.2.1 ak_k80.2.2.1.2.2.1 (az_hc ak_k80 (3, 2, (0, 0, 0), szc_192) (0, ak_k80.2.2.1, (0, []), (0, 0))) = true := by decide +kernel
set_option maxRecDepth 100000 in
theorem ak_v80 {X : List (List Value)} (hX : az_X X) : az_Valid X ak_k80 := az_validS sz_pkall_szP (q := (3, 2, (0, 0, 0), szc_192)) hX (tb := ak_t80) (List.forall_mem_cons.mpr ⟨ak_v76 hX, List.forall_mem_cons.mpr ⟨ak_v77 hX, List.forall_mem_cons.mpr ⟨ak_v78 hX, List.forall_mem_cons.mpr ⟨ak_v79 hX, fun _ h => by cases h⟩⟩⟩⟩) rfl (hds := ak_h80) (by decide +kernel) (fun _ h => by cases h) (fun _ hV => ⟨_, hV, rfl, ak_e80⟩) (fun _ h => by cases h)
/-- java/util/Arrays.fill -/
def ak_k81 : azCon := (290, 0, ([(0, (0, 0, []), (0, 0, []))], [(0, 0)], [], [(1, 35, []), (0, 0, [(0, 1)])], [], [], false), [(some none, [(0, (0, 0, []), (0, 0, []))], [(0, 0)], [], [])], [(31, 0)], (0, 0))
def ak_t81 : List azCon := []
def ak_d81_0 : azHd := (5, ([(0, (0, 0, []), (0, 0, [])), (0, (0, 0, []), (0, 0, []))], [(0, 0), (0, 61)], [], [(1, 35, []), (0, 0, [(0, 1)]), (0, 0, [(1, 1)]), (0, 61, [])], [], [], false), (123, [(1, (-2))]), (0, 0))
def ak_h81 : List azHd := [ak_d81_0]
theorem ak_e81 : az_ex szP az_inl ak_k81.2.1 ak_t81 ak_k81.2.2.2.2.1 (fun _ => az_pre 290 []) (az_hint ak_t81) (az_leaf ak_k81 ak_h81 none (az_hb 1) (az_rb 1)) 1450 ak_k81.2.2.1.1 ak_k81.2.2.1.2.1 ak_k81.2.2.1.2.2.1 (az_hc ak_k81 (4, 0, (0, 0, 0), szc_290) (0, ak_k81.2.2.1, (0, []), (0, 0))) = true := by decide +kernel
theorem ak_e81_0 : az_ex szP az_inl ak_k81.2.1 ak_t81 ak_k81.2.2.2.2.1 (fun _ => az_pre 290 []) (az_hint ak_t81) (az_leaf ak_k81 ak_h81 (some ak_d81_0.2.2.1) (az_hb 1) (az_rb 1)) 1450 ak_d81_0.2.1.1 ak_d81_0.2.1.2.1 ak_d81_0.2.1.2.2.1 (az_hc ak_k81 (4, 0, (0, 0, 0), szc_290) ak_d81_0) = true := by decide +kernel
set_option maxRecDepth 100000 in
theorem ak_v81 {X : List (List Value)} (hX : az_X X) : az_Valid X ak_k81 := az_validS sz_pkall_szP (q := (4, 0, (0, 0, 0), szc_290)) hX (tb := ak_t81) (fun _ h => by cases h) rfl (hds := ak_h81) (by decide +kernel) (List.forall_mem_cons.mpr ⟨by decide +kernel, fun _ h => by cases h⟩) (fun _ hV => ⟨_, hV, rfl, ak_e81⟩) (List.forall_mem_cons.mpr ⟨fun _ hV => ⟨_, hV, rfl, ak_e81_0⟩, fun _ h => by cases h⟩)
/-- $Held.countSorts -/
def ak_k82 : azCon := (219, 0, ([(0, (0, 0, []), (0, 0, [])), (0, (0, 0, []), (0, 0, []))], [(0, 0), (1, 9)], [], [(1, 5, []), (0, 0, [(0, 1)]), (0, 0, [(1, 1)])], [], [], false), [(some (some (0, 0, [(2, 1)])), [(0, (0, 0, []), (0, 0, [])), (0, (0, 0, []), (0, 0, [])), (0, (0, 0, []), (0, 0, []))], [(0, 0), (1, 9), (0, 10)], [], [])], [], (0, 0))
def ak_t82 : List azCon := []
def ak_d82_0 : azHd := (4, ([(0, (0, 0, []), (0, 0, [])), (0, (0, 0, []), (0, 0, [])), (0, (0, 0, []), (0, 0, [])), (0, (0, 0, []), (0, 0, []))], [(0, 0), (1, 9), (0, 10), (0, 10)], [(0, [(2, (-1)), (3, 1)])], [(1, 5, []), (0, 0, [(0, 1)]), (0, 0, [(1, 1)]), (0, 0, [(2, 1)]), (0, 0, [(3, 1)])], [], [], false), (21, [(3, (-2))]), (0, 0))
def ak_h82 : List azHd := [ak_d82_0]
theorem ak_e82 : az_ex szP az_inl ak_k82.2.1 ak_t82 ak_k82.2.2.2.2.1 (fun _ => az_pre 219 []) (az_hint ak_t82) (az_leaf ak_k82 ak_h82 none (az_hb 2) (az_rb 2)) 5620 ak_k82.2.2.1.1 ak_k82.2.2.1.2.1 ak_k82.2.2.1.2.2.1 (az_hc ak_k82 (5, 4, (0, 0, 0), szc_219) (0, ak_k82.2.2.1, (0, []), (0, 0))) = true := by decide +kernel
theorem ak_e82_0 : az_ex szP az_inl ak_k82.2.1 ak_t82 ak_k82.2.2.2.2.1 (fun _ => az_pre 219 []) (az_hint ak_t82) (az_leaf ak_k82 ak_h82 (some ak_d82_0.2.2.1) (az_hb 2) (az_rb 2)) 5620 ak_d82_0.2.1.1 ak_d82_0.2.1.2.1 ak_d82_0.2.1.2.2.1 (az_hc ak_k82 (5, 4, (0, 0, 0), szc_219) ak_d82_0) = true := by decide +kernel
set_option maxRecDepth 100000 in
theorem ak_v82 {X : List (List Value)} (hX : az_X X) : az_Valid X ak_k82 := az_validS sz_pkall_szP (q := (5, 4, (0, 0, 0), szc_219)) hX (tb := ak_t82) (fun _ h => by cases h) rfl (hds := ak_h82) (by decide +kernel) (List.forall_mem_cons.mpr ⟨by decide +kernel, fun _ h => by cases h⟩) (fun _ hV => ⟨_, hV, rfl, ak_e82⟩) (List.forall_mem_cons.mpr ⟨fun _ hV => ⟨_, hV, rfl, ak_e82_0⟩, fun _ h => by cases h⟩)
/-- $Bounds.firstTime -/
def ak_k83 : azCon := (207, 0, ([(0, (0, 0, []), (0, 0, [])), (0, (0, 0, []), (0, 0, []))], [(0, 9), ((-2147483648), 2147483647)], [], [(1, 22, []), (0, 0, [(0, 1)]), (0, 0, [(1, 1)])], [], [], false), [(some (some (0, 0, [(2, 1)])), [(0, (0, 0, []), (0, 0, [])), (0, (0, 0, []), (0, 0, [])), (0, (0, 0, []), (0, 0, []))], [(0, 9), ((-2147483648), 2147483647), ((-2147483648), 2147483647)], [], [])], [], (0, 0))
def ak_t83 : List azCon := []
def ak_h83 : List azHd := []
theorem ak_e83 : az_ex szP az_inl ak_k83.2.1 ak_t83 ak_k83.2.2.2.2.1 (fun _ => az_pre 207 []) (az_hint ak_t83) (az_leaf ak_k83 ak_h83 none (az_hb 2) (az_rb 2)) 1690 ak_k83.2.2.1.1 ak_k83.2.2.1.2.1 ak_k83.2.2.1.2.2.1 (az_hc ak_k83 (4, 2, (0, 0, 0), szc_207) (0, ak_k83.2.2.1, (0, []), (0, 0))) = true := by decide +kernel
set_option maxRecDepth 100000 in
theorem ak_v83 {X : List (List Value)} (hX : az_X X) : az_Valid X ak_k83 := az_validS sz_pkall_szP (q := (4, 2, (0, 0, 0), szc_207)) hX (tb := ak_t83) (fun _ h => by cases h) rfl (hds := ak_h83) (by decide +kernel) (fun _ h => by cases h) (fun _ hV => ⟨_, hV, rfl, ak_e83⟩) (fun _ h => by cases h)
/-- $Bounds.raises -/
def ak_k84 : azCon := (203, 1, ([(0, (0, 0, []), (0, 0, [])), (0, (0, 0, []), (0, 0, []))], [(10, 600), (1, 60)], [], [(1, 22, []), (0, 0, [(0, 1)]), (0, 0, [(1, 1)])], [], [], false), [(some (some (0, 0, [(2, 1)])), [(0, (0, 0, []), (0, 0, [])), (0, (0, 0, []), (0, 0, [])), (0, (0, 0, []), (0, 0, []))], [(10, 600), (1, 60), (0, 1)], [], [])], [(28, 0)], (0, 0))
def ak_t84 : List azCon := [ak_k83]
def ak_d84_0 : azHd := (4, ([(0, (0, 0, []), (0, 0, [])), (0, (0, 0, []), (0, 0, [])), (0, (0, 0, []), (0, 0, [])), (0, (0, 0, []), (0, 0, []))], [(10, 600), (1, 60), (0, 1), (0, 110)], [], [(1, 22, []), (0, 0, [(0, 1)]), (0, 0, [(1, 1)]), (0, 0, [(2, 1)]), (0, 0, [(3, 1)]), (9, 0, [])], [], [], false), (221, [(3, (-2))]), (0, 0))
def ak_h84 : List azHd := [ak_d84_0]
theorem ak_e84 : az_ex szP az_inl ak_k84.2.1 ak_t84 ak_k84.2.2.2.2.1 (fun _ => az_pre 203 []) (az_hint ak_t84) (az_leaf ak_k84 ak_h84 none (az_hb 2) (az_rb 2)) 3160 ak_k84.2.2.1.1 ak_k84.2.2.1.2.1 ak_k84.2.2.1.2.2.1 (az_hc ak_k84 (6, 2, (0, 0, 0), szc_203) (0, ak_k84.2.2.1, (0, []), (0, 0))) = true := by decide +kernel
theorem ak_e84_0 : az_ex szP az_inl ak_k84.2.1 ak_t84 ak_k84.2.2.2.2.1 (fun _ => az_pre 203 []) (az_hint ak_t84) (az_leaf ak_k84 ak_h84 (some ak_d84_0.2.2.1) (az_hb 2) (az_rb 2)) 3160 ak_d84_0.2.1.1 ak_d84_0.2.1.2.1 ak_d84_0.2.1.2.2.1 (az_hc ak_k84 (6, 2, (0, 0, 0), szc_203) ak_d84_0) = true := by decide +kernel
set_option maxRecDepth 100000 in
theorem ak_v84 {X : List (List Value)} (hX : az_X X) : az_Valid X ak_k84 := az_validS sz_pkall_szP (q := (6, 2, (0, 0, 0), szc_203)) hX (tb := ak_t84) (List.forall_mem_cons.mpr ⟨ak_v83 hX, fun _ h => by cases h⟩) rfl (hds := ak_h84) (by decide +kernel) (List.forall_mem_cons.mpr ⟨by decide +kernel, fun _ h => by cases h⟩) (fun _ hV => ⟨_, hV, rfl, ak_e84⟩) (List.forall_mem_cons.mpr ⟨fun _ hV => ⟨_, hV, rfl, ak_e84_0⟩, fun _ h => by cases h⟩)
/-- $Bounds.findsEarliest -/
def ak_k85 : azCon := (202, 2, ([(0, (0, 0, []), (0, 0, []))], [(1, 60)], [], [(1, 22, []), (0, 0, [(0, 1)])], [], [], false), [(some (some (0, 0, [(1, 1)])), [(0, (0, 0, []), (0, 0, [])), (0, (0, 0, []), (0, 0, []))], [(1, 60), (0, 1)], [], [])], [(28, 0)], (0, 0))
def ak_t85 : List azCon := [ak_k82, ak_k84]
def ak_d85_0 : azHd := (6, ([(0, (0, 0, []), (0, 0, [])), (0, (0, 0, []), (0, 0, [])), (0, (0, 0, []), (0, 0, []))], [(1, 60), (10, 600), (0, 10)], [], [(1, 22, []), (0, 0, [(0, 1)]), (0, 0, [(1, 1)]), (0, 0, [(2, 1)])], [], [], false), (421, [(2, (-2))]), (0, 0))
def ak_d85_1 : azHd := (40, ([(0, (0, 0, []), (0, 0, [])), (0, (0, 0, []), (0, 0, [])), (0, (0, 0, []), (0, 0, [])), (0, (0, 0, []), (0, 0, [])), (0, (0, 0, []), (0, 0, []))], [(1, 60), (10, 600), (0, 10), ((-99), 121), (0, 199)], [], [(1, 22, []), (0, 0, [(0, 1)]), (0, 0, [(1, 1)]), (0, 0, [(2, 1)]), (0, 0, [(3, 1)]), (0, 0, [(4, 1)])], [], [], false), (399, [(4, (-2))]), (0, 0))
def ak_h85 : List azHd := [ak_d85_0, ak_d85_1]
theorem ak_e85 : az_ex szP az_inl ak_k85.2.1 ak_t85 ak_k85.2.2.2.2.1 (fun _ => az_pre 202 []) (az_hint ak_t85) (az_leaf ak_k85 ak_h85 none (az_hb 1) (az_rb 1)) 2620 ak_k85.2.2.1.1 ak_k85.2.2.1.2.1 ak_k85.2.2.1.2.2.1 (az_hc ak_k85 (6, 2, (0, 0, 0), szc_202) (0, ak_k85.2.2.1, (0, []), (0, 0))) = true := by decide +kernel
theorem ak_e85_0 : az_ex szP az_inl ak_k85.2.1 ak_t85 ak_k85.2.2.2.2.1 (fun _ => az_pre 202 []) (az_hint ak_t85) (az_leaf ak_k85 ak_h85 (some ak_d85_0.2.2.1) (az_hb 1) (az_rb 1)) 2620 ak_d85_0.2.1.1 ak_d85_0.2.1.2.1 ak_d85_0.2.1.2.2.1 (az_hc ak_k85 (6, 2, (0, 0, 0), szc_202) ak_d85_0) = true := by decide +kernel
theorem ak_e85_1 : az_ex szP az_inl ak_k85.2.1 ak_t85 ak_k85.2.2.2.2.1 (fun _ => az_pre 202 []) (az_hint ak_t85) (az_leaf ak_k85 ak_h85 (some ak_d85_1.2.2.1) (az_hb 1) (az_rb 1)) 2620 ak_d85_1.2.1.1 ak_d85_1.2.1.2.1 ak_d85_1.2.1.2.2.1 (az_hc ak_k85 (6, 2, (0, 0, 0), szc_202) ak_d85_1) = true := by decide +kernel
set_option maxRecDepth 100000 in
theorem ak_v85 {X : List (List Value)} (hX : az_X X) : az_Valid X ak_k85 := az_validS sz_pkall_szP (q := (6, 2, (0, 0, 0), szc_202)) hX (tb := ak_t85) (List.forall_mem_cons.mpr ⟨ak_v82 hX, List.forall_mem_cons.mpr ⟨ak_v84 hX, fun _ h => by cases h⟩⟩) rfl (hds := ak_h85) (by decide +kernel) (List.forall_mem_cons.mpr ⟨by decide +kernel, List.forall_mem_cons.mpr ⟨by decide +kernel, fun _ h => by cases h⟩⟩) (fun _ hV => ⟨_, hV, rfl, ak_e85⟩) (List.forall_mem_cons.mpr ⟨fun _ hV => ⟨_, hV, rfl, ak_e85_0⟩, List.forall_mem_cons.mpr ⟨fun _ hV => ⟨_, hV, rfl, ak_e85_1⟩, fun _ h => by cases h⟩⟩)
/-- $Bounds.lastTime -/
def ak_k86 : azCon := (208, 0, ([(0, (0, 0, []), (0, 0, [])), (0, (0, 0, []), (0, 0, []))], [(0, 9), ((-2147483648), 2147483647)], [], [(1, 22, []), (0, 0, [(0, 1)]), (0, 0, [(1, 1)])], [], [], false), [(some (some (0, 0, [(2, 1)])), [(0, (0, 0, []), (0, 0, [])), (0, (0, 0, []), (0, 0, [])), (0, (0, 0, []), (0, 0, []))], [(0, 9), ((-2147483648), 2147483647), ((-2147483648), 2147483647)], [], [])], [], (0, 0))
def ak_t86 : List azCon := []
def ak_h86 : List azHd := []
theorem ak_e86 : az_ex szP az_inl ak_k86.2.1 ak_t86 ak_k86.2.2.2.2.1 (fun _ => az_pre 208 []) (az_hint ak_t86) (az_leaf ak_k86 ak_h86 none (az_hb 2) (az_rb 2)) 2020 ak_k86.2.2.1.1 ak_k86.2.2.1.2.1 ak_k86.2.2.1.2.2.1 (az_hc ak_k86 (4, 2, (0, 0, 0), szc_208) (0, ak_k86.2.2.1, (0, []), (0, 0))) = true := by decide +kernel
set_option maxRecDepth 100000 in
theorem ak_v86 {X : List (List Value)} (hX : az_X X) : az_Valid X ak_k86 := az_validS sz_pkall_szP (q := (4, 2, (0, 0, 0), szc_208)) hX (tb := ak_t86) (fun _ h => by cases h) rfl (hds := ak_h86) (by decide +kernel) (fun _ h => by cases h) (fun _ hV => ⟨_, hV, rfl, ak_e86⟩) (fun _ h => by cases h)
/-- $Bounds.lengthBy -/
def ak_k87 : azCon := (209, 1, ([(0, (0, 0, []), (0, 0, []))], [(1, 60)], [], [(1, 22, []), (0, 0, [(0, 1)])], [], [], false), [(some (some (0, 0, [(1, 1)])), [(0, (0, 0, []), (0, 0, [])), (0, (0, 0, []), (0, 0, []))], [(1, 60), ((-214748364), 214748364)], [], [])], [], (0, 0))
def ak_t87 : List azCon := []
def ak_d87_0 : azHd := (4, ([(0, (0, 0, []), (0, 0, [])), (0, (0, 0, []), (0, 0, [])), (0, (0, 0, []), (0, 0, []))], [(1, 60), (0, 2147483647), (0, 10)], [], [(1, 22, []), (0, 0, [(0, 1)]), (0, 0, [(1, 1)]), (0, 0, [(2, 1)])], [], [], false), (21, [(2, (-2))]), (0, 0))
def ak_h87 : List azHd := [ak_d87_0]
theorem ak_e87 : az_ex szP az_inl ak_k87.2.1 ak_t87 ak_k87.2.2.2.2.1 (fun _ => az_pre 209 []) (az_hint ak_t87) (az_leaf ak_k87 ak_h87 none (az_hb 1) (az_rb 1)) 2590 ak_k87.2.2.1.1 ak_k87.2.2.1.2.1 ak_k87.2.2.1.2.2.1 (az_hc ak_k87 (4, 2, (0, 0, 0), szc_209) (0, ak_k87.2.2.1, (0, []), (0, 0))) = true := by decide +kernel
theorem ak_e87_0 : az_ex szP az_inl ak_k87.2.1 ak_t87 ak_k87.2.2.2.2.1 (fun _ => az_pre 209 []) (az_hint ak_t87) (az_leaf ak_k87 ak_h87 (some ak_d87_0.2.2.1) (az_hb 1) (az_rb 1)) 2590 ak_d87_0.2.1.1 ak_d87_0.2.1.2.1 ak_d87_0.2.1.2.2.1 (az_hc ak_k87 (4, 2, (0, 0, 0), szc_209) ak_d87_0) = true := by decide +kernel
set_option maxRecDepth 100000 in
theorem ak_v87 {X : List (List Value)} (hX : az_X X) : az_Valid X ak_k87 := az_validS sz_pkall_szP (q := (4, 2, (0, 0, 0), szc_209)) hX (tb := ak_t87) (fun _ h => by cases h) rfl (hds := ak_h87) (by decide +kernel) (List.forall_mem_cons.mpr ⟨by decide +kernel, fun _ h => by cases h⟩) (fun _ hV => ⟨_, hV, rfl, ak_e87⟩) (List.forall_mem_cons.mpr ⟨fun _ hV => ⟨_, hV, rfl, ak_e87_0⟩, fun _ h => by cases h⟩)
/-- $Bounds.lowers -/
def ak_k88 : azCon := (205, 1, ([(0, (0, 0, []), (0, 0, [])), (0, (0, 0, []), (0, 0, []))], [(10, 600), (1, 60)], [], [(1, 22, []), (0, 0, [(0, 1)]), (0, 0, [(1, 1)])], [], [], false), [(some (some (0, 0, [(2, 1)])), [(0, (0, 0, []), (0, 0, [])), (0, (0, 0, []), (0, 0, [])), (0, (0, 0, []), (0, 0, []))], [(10, 600), (1, 60), (0, 1)], [], [])], [(29, 0)], (0, 0))
def ak_t88 : List azCon := [ak_k86]
def ak_d88_0 : azHd := (4, ([(0, (0, 0, []), (0, 0, [])), (0, (0, 0, []), (0, 0, [])), (0, (0, 0, []), (0, 0, [])), (0, (0, 0, []), (0, 0, []))], [(10, 600), (1, 60), (0, 1), (0, 110)], [], [(1, 22, []), (0, 0, [(0, 1)]), (0, 0, [(1, 1)]), (0, 0, [(2, 1)]), (0, 0, [(3, 1)]), (9, 0, [])], [], [], false), (221, [(3, (-2))]), (0, 0))
def ak_h88 : List azHd := [ak_d88_0]
theorem ak_e88 : az_ex szP az_inl ak_k88.2.1 ak_t88 ak_k88.2.2.2.2.1 (fun _ => az_pre 205 []) (az_hint ak_t88) (az_leaf ak_k88 ak_h88 none (az_hb 2) (az_rb 2)) 3160 ak_k88.2.2.1.1 ak_k88.2.2.1.2.1 ak_k88.2.2.1.2.2.1 (az_hc ak_k88 (6, 2, (0, 0, 0), szc_205) (0, ak_k88.2.2.1, (0, []), (0, 0))) = true := by decide +kernel
theorem ak_e88_0 : az_ex szP az_inl ak_k88.2.1 ak_t88 ak_k88.2.2.2.2.1 (fun _ => az_pre 205 []) (az_hint ak_t88) (az_leaf ak_k88 ak_h88 (some ak_d88_0.2.2.1) (az_hb 2) (az_rb 2)) 3160 ak_d88_0.2.1.1 ak_d88_0.2.1.2.1 ak_d88_0.2.1.2.2.1 (az_hc ak_k88 (6, 2, (0, 0, 0), szc_205) ak_d88_0) = true := by decide +kernel
set_option maxRecDepth 100000 in
theorem ak_v88 {X : List (List Value)} (hX : az_X X) : az_Valid X ak_k88 := az_validS sz_pkall_szP (q := (6, 2, (0, 0, 0), szc_205)) hX (tb := ak_t88) (List.forall_mem_cons.mpr ⟨ak_v86 hX, fun _ h => by cases h⟩) rfl (hds := ak_h88) (by decide +kernel) (List.forall_mem_cons.mpr ⟨by decide +kernel, fun _ h => by cases h⟩) (fun _ hV => ⟨_, hV, rfl, ak_e88⟩) (List.forall_mem_cons.mpr ⟨fun _ hV => ⟨_, hV, rfl, ak_e88_0⟩, fun _ h => by cases h⟩)
/-- $Bounds.findLatest -/
def ak_k89 : azCon := (204, 2, ([(0, (0, 0, []), (0, 0, []))], [(1, 60)], [], [(1, 22, []), (0, 0, [(0, 1)])], [], [], false), [(some none, [(0, (0, 0, []), (0, 0, []))], [(1, 60)], [], [])], [(29, 0)], (0, 0))
def ak_t89 : List azCon := [ak_k86, ak_k87, ak_k88]
def ak_d89_0 : azHd := (12, ([(0, (0, 0, []), (0, 0, [])), (0, (0, 0, []), (0, 0, [])), (0, (0, 0, []), (0, 0, [])), (0, (0, 0, []), (0, 0, []))], [(1, 60), (10, 600), ((-2147483640), 2147483640), (0, 10)], [], [(1, 22, []), (0, 0, [(0, 1)]), (0, 0, [(1, 1)]), (0, 0, [(2, 1)]), (0, 0, [(3, 1)])], [], [], false), (241, [(3, (-2))]), (0, 0))
def ak_d89_1 : azHd := (38, ([(0, (0, 0, []), (0, 0, [])), (0, (0, 0, []), (0, 0, [])), (0, (0, 0, []), (0, 0, [])), (0, (0, 0, []), (0, 0, [])), (0, (0, 0, []), (0, 0, []))], [(1, 60), (10, 600), ((-2147483640), 2147483640), (0, 1), (0, 109)], [], [(1, 22, []), (0, 0, [(0, 1)]), (0, 0, [(1, 1)]), (0, 0, [(2, 1)]), (0, 0, [(3, 1)]), (0, 0, [(4, 1)])], [], [], false), (219, [(4, (-2))]), (0, 0))
def ak_h89 : List azHd := [ak_d89_0, ak_d89_1]
theorem ak_e89 : az_ex szP az_inl ak_k89.2.1 ak_t89 ak_k89.2.2.2.2.1 (fun _ => az_pre 204 []) (az_hint ak_t89) (az_leaf ak_k89 ak_h89 none (az_hb 1) (az_rb 1)) 2560 ak_k89.2.2.1.1 ak_k89.2.2.1.2.1 ak_k89.2.2.1.2.2.1 (az_hc ak_k89 (6, 2, (0, 0, 0), szc_204) (0, ak_k89.2.2.1, (0, []), (0, 0))) = true := by decide +kernel
theorem ak_e89_0 : az_ex szP az_inl ak_k89.2.1 ak_t89 ak_k89.2.2.2.2.1 (fun _ => az_pre 204 []) (az_hint ak_t89) (az_leaf ak_k89 ak_h89 (some ak_d89_0.2.2.1) (az_hb 1) (az_rb 1)) 2560 ak_d89_0.2.1.1 ak_d89_0.2.1.2.1 ak_d89_0.2.1.2.2.1 (az_hc ak_k89 (6, 2, (0, 0, 0), szc_204) ak_d89_0) = true := by decide +kernel
theorem ak_e89_1 : az_ex szP az_inl ak_k89.2.1 ak_t89 ak_k89.2.2.2.2.1 (fun _ => az_pre 204 []) (az_hint ak_t89) (az_leaf ak_k89 ak_h89 (some ak_d89_1.2.2.1) (az_hb 1) (az_rb 1)) 2560 ak_d89_1.2.1.1 ak_d89_1.2.1.2.1 ak_d89_1.2.1.2.2.1 (az_hc ak_k89 (6, 2, (0, 0, 0), szc_204) ak_d89_1) = true := by decide +kernel
set_option maxRecDepth 100000 in
theorem ak_v89 {X : List (List Value)} (hX : az_X X) : az_Valid X ak_k89 := az_validS sz_pkall_szP (q := (6, 2, (0, 0, 0), szc_204)) hX (tb := ak_t89) (List.forall_mem_cons.mpr ⟨ak_v86 hX, List.forall_mem_cons.mpr ⟨ak_v87 hX, List.forall_mem_cons.mpr ⟨ak_v88 hX, fun _ h => by cases h⟩⟩⟩) rfl (hds := ak_h89) (by decide +kernel) (List.forall_mem_cons.mpr ⟨by decide +kernel, List.forall_mem_cons.mpr ⟨by decide +kernel, fun _ h => by cases h⟩⟩) (fun _ hV => ⟨_, hV, rfl, ak_e89⟩) (List.forall_mem_cons.mpr ⟨fun _ hV => ⟨_, hV, rfl, ak_e89_0⟩, List.forall_mem_cons.mpr ⟨fun _ hV => ⟨_, hV, rfl, ak_e89_1⟩, fun _ h => by cases h⟩⟩)
/-- $Bounds.findOrder -/
def ak_k90 : azCon := (206, 0, ([(0, (0, 0, []), (0, 0, []))], [(1, 60)], [], [(1, 22, []), (0, 0, [(0, 1)])], [], [], false), [(some none, [(0, (0, 0, []), (0, 0, []))], [(1, 60)], [], [])], [(30, 0)], (0, 0))
def ak_t90 : List azCon := []
def ak_d90_0 : azHd := (6, ([(0, (0, 0, []), (0, 0, [])), (0, (0, 0, []), (0, 0, [])), (0, (0, 0, []), (0, 0, []))], [(1, 60), (10, 600), (0, 10)], [], [(1, 22, []), (0, 0, [(0, 1)]), (0, 0, [(1, 1)]), (0, 0, [(2, 1)]), (9, 0, [])], [], [], false), (241, [(2, (-22))]), (0, 0))
def ak_d90_1 : azHd := (13, ([(0, (0, 0, []), (0, 0, [])), (0, (0, 0, []), (0, 0, [])), (0, (0, 0, []), (0, 0, [])), (0, (0, 0, []), (0, 0, []))], [(1, 60), (10, 600), (0, 9), (0, 9)], [], [(1, 22, []), (0, 0, [(0, 1)]), (0, 0, [(1, 1)]), (0, 0, [(2, 1)]), (0, 0, [(3, 1)])], [], [], false), (221, [(2, (-22)), (3, 2)]), (0, 0))
def ak_h90 : List azHd := [ak_d90_0, ak_d90_1]
theorem ak_e90 : az_ex szP az_inl ak_k90.2.1 ak_t90 ak_k90.2.2.2.2.1 (fun _ => az_pre 206 []) (az_hint ak_t90) (az_leaf ak_k90 ak_h90 none (az_hb 1) (az_rb 1)) 3100 ak_k90.2.2.1.1 ak_k90.2.2.1.2.1 ak_k90.2.2.1.2.2.1 (az_hc ak_k90 (5, 2, (0, 0, 0), szc_206) (0, ak_k90.2.2.1, (0, []), (0, 0))) = true := by decide +kernel
theorem ak_e90_0 : az_ex szP az_inl ak_k90.2.1 ak_t90 ak_k90.2.2.2.2.1 (fun _ => az_pre 206 []) (az_hint ak_t90) (az_leaf ak_k90 ak_h90 (some ak_d90_0.2.2.1) (az_hb 1) (az_rb 1)) 3100 ak_d90_0.2.1.1 ak_d90_0.2.1.2.1 ak_d90_0.2.1.2.2.1 (az_hc ak_k90 (5, 2, (0, 0, 0), szc_206) ak_d90_0) = true := by decide +kernel
theorem ak_e90_1 : az_ex szP az_inl ak_k90.2.1 ak_t90 ak_k90.2.2.2.2.1 (fun _ => az_pre 206 []) (az_hint ak_t90) (az_leaf ak_k90 ak_h90 (some ak_d90_1.2.2.1) (az_hb 1) (az_rb 1)) 3100 ak_d90_1.2.1.1 ak_d90_1.2.1.2.1 ak_d90_1.2.1.2.2.1 (az_hc ak_k90 (5, 2, (0, 0, 0), szc_206) ak_d90_1) = true := by decide +kernel
set_option maxRecDepth 100000 in
theorem ak_v90 {X : List (List Value)} (hX : az_X X) : az_Valid X ak_k90 := az_validS sz_pkall_szP (q := (5, 2, (0, 0, 0), szc_206)) hX (tb := ak_t90) (fun _ h => by cases h) rfl (hds := ak_h90) (by decide +kernel) (List.forall_mem_cons.mpr ⟨by decide +kernel, List.forall_mem_cons.mpr ⟨by decide +kernel, fun _ h => by cases h⟩⟩) (fun _ hV => ⟨_, hV, rfl, ak_e90⟩) (List.forall_mem_cons.mpr ⟨fun _ hV => ⟨_, hV, rfl, ak_e90_0⟩, List.forall_mem_cons.mpr ⟨fun _ hV => ⟨_, hV, rfl, ak_e90_1⟩, fun _ h => by cases h⟩⟩)
/-- $Bounds.haveTimes -/
def ak_k91 : azCon := (201, 3, ([(0, (0, 0, []), (0, 0, []))], [(1, 60)], [], [(1, 22, []), (0, 0, [(0, 1)])], [], [], false), [(some (some (0, 0, [(1, 1)])), [(0, (0, 0, []), (0, 0, [])), (0, (0, 0, []), (0, 0, []))], [(1, 60), (0, 1)], [], [])], [(28, 0), (29, 0), (30, 0), (31, 0)], (0, 0))
def ak_t91 : List azCon := [ak_k85, ak_k89, ak_k90]
def ak_h91 : List azHd := []
theorem ak_e91 : az_ex szP az_inl ak_k91.2.1 ak_t91 ak_k91.2.2.2.2.1 (fun _ => az_pre 201 []) (az_hint ak_t91) (az_leaf ak_k91 ak_h91 none (az_hb 1) (az_rb 1)) 3070 ak_k91.2.2.1.1 ak_k91.2.2.1.2.1 ak_k91.2.2.1.2.2.1 (az_hc ak_k91 (2, 2, (0, 0, 0), szc_201) (0, ak_k91.2.2.1, (0, []), (0, 0))) = true := by decide +kernel
set_option maxRecDepth 100000 in
theorem ak_v91 {X : List (List Value)} (hX : az_X X) : az_Valid X ak_k91 := az_validS sz_pkall_szP (q := (2, 2, (0, 0, 0), szc_201)) hX (tb := ak_t91) (List.forall_mem_cons.mpr ⟨ak_v85 hX, List.forall_mem_cons.mpr ⟨ak_v89 hX, List.forall_mem_cons.mpr ⟨ak_v90 hX, fun _ h => by cases h⟩⟩⟩) rfl (hds := ak_h91) (by decide +kernel) (fun _ h => by cases h) (fun _ hV => ⟨_, hV, rfl, ak_e91⟩) (fun _ h => by cases h)
