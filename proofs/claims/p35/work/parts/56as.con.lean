/-! contracts: written by wip/A/gen56.py -/
/-- $Planner.mayMeet -/
def ak_k103 : azCon := (237, 1, ([(0, (0, 0, []), (0, 0, [])), (0, (0, 0, []), (0, 0, [])), (0, (0, 0, []), (0, 0, []))], [(0, 9), (0, 9), ((-2147483648), 2147483647)], [], [(1, 37, []), (0, 0, [(0, 1)]), (0, 0, [(1, 1)]), (0, 0, [(2, 1)])], [], [], false), [(some (some (0, 0, [(3, 1)])), [(0, (0, 0, []), (0, 0, [])), (0, (0, 0, []), (0, 0, [])), (0, (0, 0, []), (0, 0, [])), (0, (0, 0, []), (0, 0, []))], [(0, 9), (0, 9), ((-2147483648), 2147483647), (0, 1)], [], [])], [], (0, 0))
def ak_t103 : List azCon := [ak_k102]
def ak_d103_0 : azHd := (16, ([(0, (0, 0, []), (0, 0, [])), (0, (0, 0, []), (0, 0, [])), (0, (0, 0, []), (0, 0, [])), (0, (0, 0, []), (0, 0, []))], [(0, 9), (0, 9), ((-2147483648), 2147483647), (0, 16)], [], [(1, 37, []), (0, 0, [(0, 1)]), (0, 0, [(1, 1)]), (0, 0, [(2, 1)]), (0, 0, [(3, 1)])], [], [], false), (33, [(3, (-2))]), (0, 0))
def ak_h103 : List azHd := [ak_d103_0]
theorem ak_e103 : az_ex szP az_inl ak_k103.2.1 ak_t103 ak_k103.2.2.2.2.1 (fun _ => az_pre 237 []) (az_hint ak_t103) (az_leaf ak_k103 ak_h103 none (az_hb 3) (az_rb 3)) 2200 ak_k103.2.2.1.1 ak_k103.2.2.1.2.1 ak_k103.2.2.1.2.2.1 (az_hc ak_k103 (5, 6, (0, 0, 0), szc_237) (0, ak_k103.2.2.1, (0, []), (0, 0))) = true := by decide +kernel
theorem ak_e103_0 : az_ex szP az_inl ak_k103.2.1 ak_t103 ak_k103.2.2.2.2.1 (fun _ => az_pre 237 []) (az_hint ak_t103) (az_leaf ak_k103 ak_h103 (some ak_d103_0.2.2.1) (az_hb 3) (az_rb 3)) 2200 ak_d103_0.2.1.1 ak_d103_0.2.1.2.1 ak_d103_0.2.1.2.2.1 (az_hc ak_k103 (5, 6, (0, 0, 0), szc_237) ak_d103_0) = true := by decide +kernel
set_option maxRecDepth 100000 in
theorem ak_v103 {X : List (List Value)} (hX : az_X X) : az_Valid X ak_k103 := az_validS sz_pkall_szP (q := (5, 6, (0, 0, 0), szc_237)) hX (tb := ak_t103) (List.forall_mem_cons.mpr ⟨ak_v102 hX, fun _ h => by cases h⟩) rfl (hds := ak_h103) (by decide +kernel) (List.forall_mem_cons.mpr ⟨by decide +kernel, fun _ h => by cases h⟩) (fun _ hV => ⟨_, hV, rfl, ak_e103⟩) (List.forall_mem_cons.mpr ⟨fun _ hV => ⟨_, hV, rfl, ak_e103_0⟩, fun _ h => by cases h⟩)
/-- $Planner.hasRoom -/
def ak_k104 : azCon := (236, 2, ([(0, (0, 0, []), (0, 0, [])), (0, (0, 0, []), (0, 0, [])), (0, (0, 0, []), (0, 0, []))], [(0, 9), ((-2147483648), 2147483647), (0, 60)], [], [(1, 37, []), (0, 0, [(0, 1)]), (0, 0, [(1, 1)]), (0, 0, [(2, 1)])], [], [], false), [(some (some (0, 0, [(3, 1)])), [(0, (0, 0, []), (0, 0, [])), (0, (0, 0, []), (0, 0, [])), (0, (0, 0, []), (0, 0, [])), (0, (0, 0, []), (0, 0, []))], [(0, 9), ((-2147483648), 2147483647), (0, 60), (0, 1)], [], [])], [], (0, 0))
def ak_t104 : List azCon := [ak_k103]
def ak_d104_0 : azHd := (15, ([(0, (0, 0, []), (0, 0, [])), (0, (0, 0, []), (0, 0, [])), (0, (0, 0, []), (0, 0, [])), (0, (0, 0, []), (0, 0, [])), (0, (0, 0, []), (0, 0, [])), (0, (0, 0, []), (0, 0, []))], [(0, 9), ((-2147483648), 2147483647), (1, 60), (0, 3), ((-2147483648), 2147483647), (0, 10)], [], [(1, 37, []), (0, 0, [(0, 1)]), (0, 0, [(1, 1)]), (0, 0, [(2, 1)]), (0, 0, [(3, 1)]), (0, 0, [(4, 1)]), (0, 0, [(5, 1)]), (9, 0, [])], [], [], false), (21, [(5, (-2))]), (0, 0))
def ak_h104 : List azHd := [ak_d104_0]
theorem ak_e104 : az_ex szP az_inl ak_k104.2.1 ak_t104 ak_k104.2.2.2.2.1 (fun _ => az_pre 236 []) (az_hint ak_t104) (az_leaf ak_k104 ak_h104 none (az_hb 3) (az_rb 3)) 4000 ak_k104.2.2.1.1 ak_k104.2.2.1.2.1 ak_k104.2.2.1.2.2.1 (az_hc ak_k104 (8, 6, (0, 0, 0), szc_236) (0, ak_k104.2.2.1, (0, []), (0, 0))) = true := by decide +kernel
theorem ak_e104_0 : az_ex szP az_inl ak_k104.2.1 ak_t104 ak_k104.2.2.2.2.1 (fun _ => az_pre 236 []) (az_hint ak_t104) (az_leaf ak_k104 ak_h104 (some ak_d104_0.2.2.1) (az_hb 3) (az_rb 3)) 4000 ak_d104_0.2.1.1 ak_d104_0.2.1.2.1 ak_d104_0.2.1.2.2.1 (az_hc ak_k104 (8, 6, (0, 0, 0), szc_236) ak_d104_0) = true := by decide +kernel
set_option maxRecDepth 100000 in
theorem ak_v104 {X : List (List Value)} (hX : az_X X) : az_Valid X ak_k104 := az_validS sz_pkall_szP (q := (8, 6, (0, 0, 0), szc_236)) hX (tb := ak_t104) (List.forall_mem_cons.mpr ⟨ak_v103 hX, fun _ h => by cases h⟩) rfl (hds := ak_h104) (by decide +kernel) (List.forall_mem_cons.mpr ⟨by decide +kernel, fun _ h => by cases h⟩) (fun _ hV => ⟨_, hV, rfl, ak_e104⟩) (List.forall_mem_cons.mpr ⟨fun _ hV => ⟨_, hV, rfl, ak_e104_0⟩, fun _ h => by cases h⟩)
/-- $Planner.timeFor -/
def ak_k105 : azCon := (233, 3, ([(0, (0, 0, []), (0, 0, [])), (0, (0, 0, []), (0, 0, []))], [(0, 9), (0, 60)], [], [(1, 37, []), (0, 0, [(0, 1)]), (0, 0, [(1, 1)])], [], [], false), [(some (some (0, 0, [(2, 1)])), [(0, (0, 0, []), (0, 0, [])), (0, (0, 0, []), (0, 0, [])), (0, (0, 0, []), (0, 0, []))], [(0, 9), (0, 60), ((-2147483648), 2147483647)], [], [])], [], (0, 0))
def ak_t105 : List azCon := [ak_k101, ak_k104]
def ak_d105_0 : azHd := (17, ([(0, (0, 0, []), (0, 0, [])), (0, (0, 0, []), (0, 0, [])), (0, (0, 0, []), (0, 0, [])), (0, (0, 0, []), (0, 0, []))], [(0, 9), (0, 60), ((-2147483648), 2147483647), (1, 60)], [], [(1, 37, []), (0, 0, [(0, 1)]), (0, 0, [(1, 1)]), (0, 0, [(2, 1)]), (0, 0, [(3, 1)]), (9, 0, [])], [], [], false), (121, [(3, (-2))]), (0, 0))
def ak_h105 : List azHd := [ak_d105_0]
theorem ak_e105 : az_ex szP az_inl ak_k105.2.1 ak_t105 ak_k105.2.2.2.2.1 (fun _ => az_pre 233 []) (az_hint ak_t105) (az_leaf ak_k105 ak_h105 none (az_hb 2) (az_rb 2)) 2200 ak_k105.2.2.1.1 ak_k105.2.2.1.2.1 ak_k105.2.2.1.2.2.1 (az_hc ak_k105 (6, 6, (0, 0, 0), szc_233) (0, ak_k105.2.2.1, (0, []), (0, 0))) = true := by decide +kernel
theorem ak_e105_0 : az_ex szP az_inl ak_k105.2.1 ak_t105 ak_k105.2.2.2.2.1 (fun _ => az_pre 233 []) (az_hint ak_t105) (az_leaf ak_k105 ak_h105 (some ak_d105_0.2.2.1) (az_hb 2) (az_rb 2)) 2200 ak_d105_0.2.1.1 ak_d105_0.2.1.2.1 ak_d105_0.2.1.2.2.1 (az_hc ak_k105 (6, 6, (0, 0, 0), szc_233) ak_d105_0) = true := by decide +kernel
set_option maxRecDepth 100000 in
theorem ak_v105 {X : List (List Value)} (hX : az_X X) : az_Valid X ak_k105 := az_validS sz_pkall_szP (q := (6, 6, (0, 0, 0), szc_233)) hX (tb := ak_t105) (List.forall_mem_cons.mpr ⟨ak_v101 hX, List.forall_mem_cons.mpr ⟨ak_v104 hX, fun _ h => by cases h⟩⟩) rfl (hds := ak_h105) (by decide +kernel) (List.forall_mem_cons.mpr ⟨by decide +kernel, fun _ h => by cases h⟩) (fun _ hV => ⟨_, hV, rfl, ak_e105⟩) (List.forall_mem_cons.mpr ⟨fun _ hV => ⟨_, hV, rfl, ak_e105_0⟩, fun _ h => by cases h⟩)
/-- $Planner.comesTooLate -/
def ak_k106 : azCon := (235, 1, ([(0, (0, 0, []), (0, 0, [])), (0, (0, 0, []), (0, 0, []))], [(0, 9), (0, 60)], [], [(1, 37, []), (0, 0, [(0, 1)]), (0, 0, [(1, 1)])], [], [], false), [(some (some (0, 0, [(2, 1)])), [(0, (0, 0, []), (0, 0, [])), (0, (0, 0, []), (0, 0, [])), (0, (0, 0, []), (0, 0, []))], [(0, 9), (0, 60), (0, 1)], [], [])], [], (0, 0))
def ak_t106 : List azCon := []
def ak_d106_0 : azHd := (2, ([(0, (0, 0, []), (0, 0, [])), (0, (0, 0, []), (0, 0, [])), (0, (0, 0, []), (0, 0, []))], [(0, 9), (0, 60), (0, 110)], [], [(1, 37, []), (0, 0, [(0, 1)]), (0, 0, [(1, 1)]), (0, 0, [(2, 1)]), (9, 0, [])], [], [], false), (221, [(2, (-2))]), (0, 0))
def ak_h106 : List azHd := [ak_d106_0]
theorem ak_e106 : az_ex szP az_inl ak_k106.2.1 ak_t106 ak_k106.2.2.2.2.1 (fun _ => az_pre 235 []) (az_hint ak_t106) (az_leaf ak_k106 ak_h106 none (az_hb 2) (az_rb 2)) 2980 ak_k106.2.2.1.1 ak_k106.2.2.1.2.1 ak_k106.2.2.1.2.2.1 (az_hc ak_k106 (5, 6, (0, 0, 0), szc_235) (0, ak_k106.2.2.1, (0, []), (0, 0))) = true := by decide +kernel
theorem ak_e106_0 : az_ex szP az_inl ak_k106.2.1 ak_t106 ak_k106.2.2.2.2.1 (fun _ => az_pre 235 []) (az_hint ak_t106) (az_leaf ak_k106 ak_h106 (some ak_d106_0.2.2.1) (az_hb 2) (az_rb 2)) 2980 ak_d106_0.2.1.1 ak_d106_0.2.1.2.1 ak_d106_0.2.1.2.2.1 (az_hc ak_k106 (5, 6, (0, 0, 0), szc_235) ak_d106_0) = true := by decide +kernel
set_option maxRecDepth 100000 in
theorem ak_v106 {X : List (List Value)} (hX : az_X X) : az_Valid X ak_k106 := az_validS sz_pkall_szP (q := (5, 6, (0, 0, 0), szc_235)) hX (tb := ak_t106) (fun _ h => by cases h) rfl (hds := ak_h106) (by decide +kernel) (List.forall_mem_cons.mpr ⟨by decide +kernel, fun _ h => by cases h⟩) (fun _ hV => ⟨_, hV, rfl, ak_e106⟩) (List.forall_mem_cons.mpr ⟨fun _ hV => ⟨_, hV, rfl, ak_e106_0⟩, fun _ h => by cases h⟩)
/-- $Planner.planBy -/
def ak_k107 : azCon := (232, 4, ([(0, (0, 0, []), (0, 0, []))], [(0, 60)], [], [(1, 37, []), (0, 0, [(0, 1)])], [], [], false), [(some (some (0, 0, [(1, 1)])), [(0, (0, 0, []), (0, 0, [])), (0, (0, 0, []), (0, 0, []))], [(0, 60), (0, 1)], [], [])], [(28, 0), (29, 0), (30, 0), (31, 0), (34, 0), (35, 0)], (0, 0))
def ak_t107 : List azCon := [ak_k100, ak_k105, ak_k106]
def ak_d107_0 : azHd := (9, ([(0, (0, 0, []), (0, 0, [])), (0, (0, 0, []), (0, 0, []))], [(0, 60), (0, 10)], [], [(1, 37, []), (0, 0, [(0, 1)]), (0, 0, [(1, 1)])], [], [], false), (43, [(1, (-2))]), (0, 0))
def ak_d107_1 : azHd := (23, ([(0, (0, 0, []), (0, 0, [])), (0, (0, 0, []), (0, 0, []))], [(0, 60), (0, 10)], [], [(1, 37, []), (0, 0, [(0, 1)]), (0, 0, [(1, 1)]), (9, 0, []), (9, 0, [])], [], [], false), (21, [(1, (-2))]), (0, 0))
def ak_h107 : List azHd := [ak_d107_0, ak_d107_1]
theorem ak_e107 : az_ex szP az_inl ak_k107.2.1 ak_t107 ak_k107.2.2.2.2.1 (fun _ => az_pre 232 []) (az_hint ak_t107) (az_leaf ak_k107 ak_h107 none (az_hb 1) (az_rb 1)) 3640 ak_k107.2.2.1.1 ak_k107.2.2.1.2.1 ak_k107.2.2.1.2.2.1 (az_hc ak_k107 (5, 6, (0, 0, 0), szc_232) (0, ak_k107.2.2.1, (0, []), (0, 0))) = true := by decide +kernel
theorem ak_e107_0 : az_ex szP az_inl ak_k107.2.1 ak_t107 ak_k107.2.2.2.2.1 (fun _ => az_pre 232 []) (az_hint ak_t107) (az_leaf ak_k107 ak_h107 (some ak_d107_0.2.2.1) (az_hb 1) (az_rb 1)) 3640 ak_d107_0.2.1.1 ak_d107_0.2.1.2.1 ak_d107_0.2.1.2.2.1 (az_hc ak_k107 (5, 6, (0, 0, 0), szc_232) ak_d107_0) = true := by decide +kernel
theorem ak_e107_1 : az_ex szP az_inl ak_k107.2.1 ak_t107 ak_k107.2.2.2.2.1 (fun _ => az_pre 232 []) (az_hint ak_t107) (az_leaf ak_k107 ak_h107 (some ak_d107_1.2.2.1) (az_hb 1) (az_rb 1)) 3640 ak_d107_1.2.1.1 ak_d107_1.2.1.2.1 ak_d107_1.2.1.2.2.1 (az_hc ak_k107 (5, 6, (0, 0, 0), szc_232) ak_d107_1) = true := by decide +kernel
set_option maxRecDepth 100000 in
theorem ak_v107 {X : List (List Value)} (hX : az_X X) : az_Valid X ak_k107 := az_validS sz_pkall_szP (q := (5, 6, (0, 0, 0), szc_232)) hX (tb := ak_t107) (List.forall_mem_cons.mpr ⟨ak_v100 hX, List.forall_mem_cons.mpr ⟨ak_v105 hX, List.forall_mem_cons.mpr ⟨ak_v106 hX, fun _ h => by cases h⟩⟩⟩) rfl (hds := ak_h107) (by decide +kernel) (List.forall_mem_cons.mpr ⟨by decide +kernel, List.forall_mem_cons.mpr ⟨by decide +kernel, fun _ h => by cases h⟩⟩) (fun _ hV => ⟨_, hV, rfl, ak_e107⟩) (List.forall_mem_cons.mpr ⟨fun _ hV => ⟨_, hV, rfl, ak_e107_0⟩, List.forall_mem_cons.mpr ⟨fun _ hV => ⟨_, hV, rfl, ak_e107_1⟩, fun _ h => by cases h⟩⟩)
/-- $Planner.findGap -/
def ak_k108 : azCon := (231, 5, ([(0, (0, 0, []), (0, 0, []))], [(60, 60)], [], [(1, 37, []), (0, 0, [(0, 1)])], [], [], false), [(some (some (0, 0, [(1, 1)])), [(0, (0, 0, []), (0, 0, [])), (0, (0, 0, []), (0, 0, []))], [(60, 60), ((-1), 60)], [], [])], [(28, 0), (29, 0), (30, 0), (31, 0), (34, 0), (35, 0)], (0, 0))
def ak_t108 : List azCon := [ak_k94, ak_k107]
def ak_d108_0 : azHd := (10, ([(0, (0, 0, []), (0, 0, [])), (0, (0, 0, []), (0, 0, []))], [(60, 60), (0, 61)], [], [(1, 37, []), (0, 0, [(0, 1)]), (0, 0, [(1, 1)])], [], [], false), (123, [(1, (-2))]), (0, 0))
def ak_h108 : List azHd := [ak_d108_0]
theorem ak_e108 : az_ex szP az_inl ak_k108.2.1 ak_t108 ak_k108.2.2.2.2.1 (fun _ => az_pre 231 []) (az_hint ak_t108) (az_leaf ak_k108 ak_h108 none (az_hb 1) (az_rb 1)) 1780 ak_k108.2.2.1.1 ak_k108.2.2.1.2.1 ak_k108.2.2.1.2.2.1 (az_hc ak_k108 (3, 6, (0, 0, 0), szc_231) (0, ak_k108.2.2.1, (0, []), (0, 0))) = true := by decide +kernel
theorem ak_e108_0 : az_ex szP az_inl ak_k108.2.1 ak_t108 ak_k108.2.2.2.2.1 (fun _ => az_pre 231 []) (az_hint ak_t108) (az_leaf ak_k108 ak_h108 (some ak_d108_0.2.2.1) (az_hb 1) (az_rb 1)) 1780 ak_d108_0.2.1.1 ak_d108_0.2.1.2.1 ak_d108_0.2.1.2.2.1 (az_hc ak_k108 (3, 6, (0, 0, 0), szc_231) ak_d108_0) = true := by decide +kernel
set_option maxRecDepth 100000 in
theorem ak_v108 {X : List (List Value)} (hX : az_X X) : az_Valid X ak_k108 := az_validS sz_pkall_szP (q := (3, 6, (0, 0, 0), szc_231)) hX (tb := ak_t108) (List.forall_mem_cons.mpr ⟨ak_v94 hX, List.forall_mem_cons.mpr ⟨ak_v107 hX, fun _ h => by cases h⟩⟩) rfl (hds := ak_h108) (by decide +kernel) (List.forall_mem_cons.mpr ⟨by decide +kernel, fun _ h => by cases h⟩) (fun _ hV => ⟨_, hV, rfl, ak_e108⟩) (List.forall_mem_cons.mpr ⟨fun _ hV => ⟨_, hV, rfl, ak_e108_0⟩, fun _ h => by cases h⟩)
/-- .tellTicks -/
def ak_k109 : azCon := (62, 1, ([], [], [], [(1, 4, [])], [], [], false), [(some none, [], [], [], [])], [(51, 2), (52, 0)], (0, 0))
def ak_t109 : List azCon := []
def ak_d109_0 : azHd := (5, ([(0, (0, 0, []), (0, 0, []))], [(0, 10)], [], [(1, 4, []), (0, 0, [(0, 1)])], [], [], false), (21, [(0, (-2))]), (0, 0))
def ak_h109 : List azHd := [ak_d109_0]
theorem ak_e109 : az_ex szP az_inl ak_k109.2.1 ak_t109 ak_k109.2.2.2.2.1 (fun _ => az_pre 62 []) (az_hint ak_t109) (az_leaf ak_k109 ak_h109 none (az_hb 0) (az_rb 0)) 2620 ak_k109.2.2.1.1 ak_k109.2.2.1.2.1 ak_k109.2.2.1.2.2.1 (az_hc ak_k109 (2, 11, (0, 0, 0), szc_62) (0, ak_k109.2.2.1, (0, []), (0, 0))) = true := by decide +kernel
theorem ak_e109_0 : az_ex szP az_inl ak_k109.2.1 ak_t109 ak_k109.2.2.2.2.1 (fun _ => az_pre 62 []) (az_hint ak_t109) (az_leaf ak_k109 ak_h109 (some ak_d109_0.2.2.1) (az_hb 0) (az_rb 0)) 2620 ak_d109_0.2.1.1 ak_d109_0.2.1.2.1 ak_d109_0.2.1.2.2.1 (az_hc ak_k109 (2, 11, (0, 0, 0), szc_62) ak_d109_0) = true := by decide +kernel
set_option maxRecDepth 100000 in
theorem ak_v109 {X : List (List Value)} (hX : az_X X) : az_Valid X ak_k109 := az_validS sz_pkall_szP (q := (2, 11, (0, 0, 0), szc_62)) hX (tb := ak_t109) (fun _ h => by cases h) rfl (hds := ak_h109) (by decide +kernel) (List.forall_mem_cons.mpr ⟨by decide +kernel, fun _ h => by cases h⟩) (fun _ hV => ⟨_, hV, rfl, ak_e109⟩) (List.forall_mem_cons.mpr ⟨fun _ hV => ⟨_, hV, rfl, ak_e109_0⟩, fun _ h => by cases h⟩)
/-- $Planner.ticksOfPlan -/
def ak_k110 : azCon := (243, 1, ([], [], [], [(1, 37, [])], [], [], false), [(some (some (0, 0, [(0, 1)])), [(0, (0, 0, []), (0, 0, []))], [((-214748364), 214748364)], [], [])], [], (0, 0))
def ak_t110 : List azCon := []
def ak_d110_0 : azHd := (4, ([(0, (0, 0, []), (0, 0, [])), (0, (0, 0, []), (0, 0, []))], [(0, 2147483647), (0, 10)], [], [(1, 37, []), (0, 0, [(0, 1)]), (0, 0, [(1, 1)])], [], [], false), (21, [(1, (-2))]), (0, 0))
def ak_h110 : List azHd := [ak_d110_0]
theorem ak_e110 : az_ex szP az_inl ak_k110.2.1 ak_t110 ak_k110.2.2.2.2.1 (fun _ => az_pre 243 []) (az_hint ak_t110) (az_leaf ak_k110 ak_h110 none (az_hb 0) (az_rb 0)) 2620 ak_k110.2.2.1.1 ak_k110.2.2.1.2.1 ak_k110.2.2.1.2.2.1 (az_hc ak_k110 (3, 6, (0, 0, 0), szc_243) (0, ak_k110.2.2.1, (0, []), (0, 0))) = true := by decide +kernel
theorem ak_e110_0 : az_ex szP az_inl ak_k110.2.1 ak_t110 ak_k110.2.2.2.2.1 (fun _ => az_pre 243 []) (az_hint ak_t110) (az_leaf ak_k110 ak_h110 (some ak_d110_0.2.2.1) (az_hb 0) (az_rb 0)) 2620 ak_d110_0.2.1.1 ak_d110_0.2.1.2.1 ak_d110_0.2.1.2.2.1 (az_hc ak_k110 (3, 6, (0, 0, 0), szc_243) ak_d110_0) = true := by decide +kernel
set_option maxRecDepth 100000 in
theorem ak_v110 {X : List (List Value)} (hX : az_X X) : az_Valid X ak_k110 := az_validS sz_pkall_szP (q := (3, 6, (0, 0, 0), szc_243)) hX (tb := ak_t110) (fun _ h => by cases h) rfl (hds := ak_h110) (by decide +kernel) (List.forall_mem_cons.mpr ⟨by decide +kernel, fun _ h => by cases h⟩) (fun _ hV => ⟨_, hV, rfl, ak_e110⟩) (List.forall_mem_cons.mpr ⟨fun _ hV => ⟨_, hV, rfl, ak_e110_0⟩, fun _ h => by cases h⟩)
/-- $Planner.roundAt -/
def ak_k111 : azCon := (241, 1, ([(0, (0, 0, []), (0, 0, [])), (0, (0, 0, []), (0, 0, [])), (0, (0, 0, []), (0, 0, []))], [(0, 9), (0, 2147483647), (0, 40)], [], [(1, 37, []), (0, 0, [(0, 1)]), (0, 0, [(1, 1)]), (0, 0, [(2, 1)])], [], [], false), [(some (some (0, 0, [(3, 1)])), [(0, (0, 0, []), (0, 0, [])), (0, (0, 0, []), (0, 0, [])), (0, (0, 0, []), (0, 0, [])), (0, (0, 0, []), (0, 0, []))], [(0, 9), (0, 2147483647), (0, 40), ((-1), 39)], [], [])], [], (0, 0))
def ak_t111 : List azCon := []
def ak_h111 : List azHd := []
theorem ak_e111 : az_ex szP az_inl ak_k111.2.1 ak_t111 ak_k111.2.2.2.2.1 (fun _ => az_pre 241 []) (az_hint ak_t111) (az_leaf ak_k111 ak_h111 none (az_hb 3) (az_rb 3)) 2290 ak_k111.2.2.1.1 ak_k111.2.2.1.2.1 ak_k111.2.2.1.2.2.1 (az_hc ak_k111 (6, 6, (0, 0, 0), szc_241) (0, ak_k111.2.2.1, (0, []), (0, 0))) = true := by decide +kernel
set_option maxRecDepth 100000 in
theorem ak_v111 {X : List (List Value)} (hX : az_X X) : az_Valid X ak_k111 := az_validS sz_pkall_szP (q := (6, 6, (0, 0, 0), szc_241)) hX (tb := ak_t111) (fun _ h => by cases h) rfl (hds := ak_h111) (by decide +kernel) (fun _ h => by cases h) (fun _ hV => ⟨_, hV, rfl, ak_e111⟩) (fun _ h => by cases h)
/-- $Planner.useBy -/
def ak_k112 : azCon := (247, 1, ([(0, (0, 0, []), (0, 0, [])), (0, (4, 0, []), (0, 0, [])), (0, (0, 0, []), (0, 0, []))], [(0, 9), (0, 80), (0, 9)], [], [(1, 37, []), (0, 0, [(0, 1)]), (0, 0, [(1, 1)]), (0, 0, [(2, 1)])], [], [], false), [(some (some (0, 0, [(3, 1)])), [(0, (0, 0, []), (0, 0, [])), (0, (4, 0, []), (0, 0, [])), (0, (0, 0, []), (0, 0, [])), (0, (0, 0, []), (0, 0, []))], [(0, 9), (0, 80), (0, 9), ((-2147483648), 2147483647)], [], [])], [], (0, 0))
def ak_t112 : List azCon := []
def ak_h112 : List azHd := []
theorem ak_e112 : az_ex szP az_inl ak_k112.2.1 ak_t112 ak_k112.2.2.2.2.1 (fun _ => az_pre 247 []) (az_hint ak_t112) (az_leaf ak_k112 ak_h112 none (az_hb 3) (az_rb 3)) 3790 ak_k112.2.2.1.1 ak_k112.2.2.1.2.1 ak_k112.2.2.1.2.2.1 (az_hc ak_k112 (4, 6, (0, 0, 0), szc_247) (0, ak_k112.2.2.1, (0, []), (0, 0))) = true := by decide +kernel
set_option maxRecDepth 100000 in
theorem ak_v112 {X : List (List Value)} (hX : az_X X) : az_Valid X ak_k112 := az_validS sz_pkall_szP (q := (4, 6, (0, 0, 0), szc_247)) hX (tb := ak_t112) (fun _ h => by cases h) rfl (hds := ak_h112) (by decide +kernel) (fun _ h => by cases h) (fun _ hV => ⟨_, hV, rfl, ak_e112⟩) (fun _ h => by cases h)
/-- $Planner.useBy -/
def ak_k113 : azCon := (247, 1, ([(0, (0, 0, []), (0, 0, [])), (0, (5, 0, []), (0, 0, [])), (0, (0, 0, []), (0, 0, []))], [(0, 9), ((-1), 80), (0, 9)], [], [(1, 37, []), (0, 0, [(0, 1)]), (0, 0, [(1, 1)]), (0, 0, [(2, 1)])], [], [], false), [(some (some (0, 0, [(3, 1)])), [(0, (0, 0, []), (0, 0, [])), (0, (5, 0, []), (0, 0, [])), (0, (0, 0, []), (0, 0, [])), (0, (0, 0, []), (0, 0, []))], [(0, 9), ((-1), 80), (0, 9), ((-2147483648), 2147483647)], [], [])], [], (0, 0))
def ak_t113 : List azCon := []
def ak_h113 : List azHd := []
theorem ak_e113 : az_ex szP az_inl ak_k113.2.1 ak_t113 ak_k113.2.2.2.2.1 (fun _ => az_pre 247 []) (az_hint ak_t113) (az_leaf ak_k113 ak_h113 none (az_hb 3) (az_rb 3)) 3790 ak_k113.2.2.1.1 ak_k113.2.2.1.2.1 ak_k113.2.2.1.2.2.1 (az_hc ak_k113 (4, 6, (0, 0, 0), szc_247) (0, ak_k113.2.2.1, (0, []), (0, 0))) = true := by decide +kernel
set_option maxRecDepth 100000 in
theorem ak_v113 {X : List (List Value)} (hX : az_X X) : az_Valid X ak_k113 := az_validS sz_pkall_szP (q := (4, 6, (0, 0, 0), szc_247)) hX (tb := ak_t113) (fun _ h => by cases h) rfl (hds := ak_h113) (by decide +kernel) (fun _ h => by cases h) (fun _ hV => ⟨_, hV, rfl, ak_e113⟩) (fun _ h => by cases h)
/-- $Planner.lastUseOf -/
def ak_k114 : azCon := (246, 2, ([(0, (0, 0, []), (0, 0, []))], [(0, 9)], [], [(1, 37, []), (0, 0, [(0, 1)])], [], [], false), [(some (some (0, 0, [(1, 1)])), [(0, (0, 0, []), (0, 0, [])), (0, (0, 0, []), (0, 0, []))], [(0, 9), (0, 2147483647)], [], [])], [], (0, 0))
def ak_t114 : List azCon := [ak_k112, ak_k113]
def ak_d114_0 : azHd := (4, ([(0, (0, 0, []), (0, 0, [])), (0, (0, 0, []), (0, 0, [])), (0, (0, 0, []), (0, 0, []))], [(0, 9), (0, 2147483647), (0, 10)], [], [(1, 37, []), (0, 0, [(0, 1)]), (0, 0, [(1, 1)]), (0, 0, [(2, 1)])], [], [], false), (21, [(2, (-2))]), (0, 0))
def ak_h114 : List azHd := [ak_d114_0]
theorem ak_e114 : az_ex szP az_inl ak_k114.2.1 ak_t114 ak_k114.2.2.2.2.1 (fun _ => az_pre 246 []) (az_hint ak_t114) (az_leaf ak_k114 ak_h114 none (az_hb 1) (az_rb 1)) 3460 ak_k114.2.2.1.1 ak_k114.2.2.1.2.1 ak_k114.2.2.1.2.2.1 (az_hc ak_k114 (4, 6, (0, 0, 0), szc_246) (0, ak_k114.2.2.1, (0, []), (0, 0))) = true := by decide +kernel
theorem ak_e114_0 : az_ex szP az_inl ak_k114.2.1 ak_t114 ak_k114.2.2.2.2.1 (fun _ => az_pre 246 []) (az_hint ak_t114) (az_leaf ak_k114 ak_h114 (some ak_d114_0.2.2.1) (az_hb 1) (az_rb 1)) 3460 ak_d114_0.2.1.1 ak_d114_0.2.1.2.1 ak_d114_0.2.1.2.2.1 (az_hc ak_k114 (4, 6, (0, 0, 0), szc_246) ak_d114_0) = true := by decide +kernel
set_option maxRecDepth 100000 in
theorem ak_v114 {X : List (List Value)} (hX : az_X X) : az_Valid X ak_k114 := az_validS sz_pkall_szP (q := (4, 6, (0, 0, 0), szc_246)) hX (tb := ak_t114) (List.forall_mem_cons.mpr ⟨ak_v112 hX, List.forall_mem_cons.mpr ⟨ak_v113 hX, fun _ h => by cases h⟩⟩) rfl (hds := ak_h114) (by decide +kernel) (List.forall_mem_cons.mpr ⟨by decide +kernel, fun _ h => by cases h⟩) (fun _ hV => ⟨_, hV, rfl, ak_e114⟩) (List.forall_mem_cons.mpr ⟨fun _ hV => ⟨_, hV, rfl, ak_e114_0⟩, fun _ h => by cases h⟩)
/-- $Planner.keptAt -/
def ak_k115 : azCon := (245, 3, ([(0, (0, 0, []), (0, 0, []))], [(0, 60)], [], [(1, 37, []), (0, 0, [(0, 1)])], [], [], false), [(some (some (0, 0, [(1, 1)])), [(0, (0, 0, []), (0, 0, [])), (0, (0, 0, []), (0, 0, []))], [(0, 60), ((-2147483648), 2147483647)], [], [])], [], (0, 0))
def ak_t115 : List azCon := [ak_k114]
def ak_d115_0 : azHd := (10, ([(0, (0, 0, []), (0, 0, [])), (0, (0, 0, []), (0, 0, [])), (0, (0, 0, []), (0, 0, [])), (0, (0, 0, []), (0, 0, []))], [(0, 60), ((-2147483648), 2147483647), (0, 10), (1, 60)], [], [(1, 37, []), (0, 0, [(0, 1)]), (0, 0, [(1, 1)]), (0, 0, [(2, 1)]), (9, 0, []), (9, 0, [])], [(33, (3, []), (0, 0, [(3, 1)]))], [], false), (21, [(2, (-2))]), (0, 0))
def ak_h115 : List azHd := [ak_d115_0]
theorem ak_e115 : az_ex szP az_inl ak_k115.2.1 ak_t115 ak_k115.2.2.2.2.1 (fun _ => az_pre 245 [(10, 33, 3)]) (az_hint ak_t115) (az_leaf ak_k115 ak_h115 none (az_hb 1) (az_rb 1)) 10000 ak_k115.2.2.1.1 ak_k115.2.2.1.2.1 ak_k115.2.2.1.2.2.1 (az_hc ak_k115 (6, 6, (0, 0, 0), szc_245) (0, ak_k115.2.2.1, (0, []), (0, 0))) = true := by decide +kernel
theorem ak_e115_0 : az_ex szP az_inl ak_k115.2.1 ak_t115 ak_k115.2.2.2.2.1 (fun _ => az_pre 245 [(10, 33, 3)]) (az_hint ak_t115) (az_leaf ak_k115 ak_h115 (some ak_d115_0.2.2.1) (az_hb 1) (az_rb 1)) 10000 ak_d115_0.2.1.1 ak_d115_0.2.1.2.1 ak_d115_0.2.1.2.2.1 (az_hc ak_k115 (6, 6, (0, 0, 0), szc_245) ak_d115_0) = true := by decide +kernel
set_option maxRecDepth 100000 in
theorem ak_v115 {X : List (List Value)} (hX : az_X X) : az_Valid X ak_k115 := az_validS sz_pkall_szP (q := (6, 6, (0, 0, 0), szc_245)) hX (tb := ak_t115) (List.forall_mem_cons.mpr ⟨ak_v114 hX, fun _ h => by cases h⟩) rfl (hds := ak_h115) (by decide +kernel) (List.forall_mem_cons.mpr ⟨by decide +kernel, fun _ h => by cases h⟩) (fun _ hV => ⟨_, hV, rfl, ak_e115⟩) (List.forall_mem_cons.mpr ⟨fun _ hV => ⟨_, hV, rfl, ak_e115_0⟩, fun _ h => by cases h⟩)
/-- $Binder.bindFrom -/
def ak_k116 : azCon := (185, 0, ([(0, (0, 0, []), (0, 0, [])), (0, (0, 0, []), (0, 0, []))], [(0, 22), (0, 4)], [], [(1, 46, []), (0, 10, []), (0, 0, [(0, 1)]), (0, 0, [(1, 1)])], [], [], false), [(some none, [(0, (0, 0, []), (0, 0, [])), (0, (0, 0, []), (0, 0, []))], [(0, 22), (0, 4)], [], [])], [(42, 6), (43, 0)], (0, 0))
def ak_t116 : List azCon := []
def ak_h116 : List azHd := []
theorem ak_e116 : az_ex szP az_inl ak_k116.2.1 ak_t116 ak_k116.2.2.2.2.1 (fun _ => az_pre 185 []) (az_hint ak_t116) (az_leaf ak_k116 ak_h116 none (az_hb 2) (az_rb 2)) 2290 ak_k116.2.2.1.1 ak_k116.2.2.1.2.1 ak_k116.2.2.1.2.2.1 (az_hc ak_k116 (5, 1, (0, 0, 0), szc_185) (0, ak_k116.2.2.1, (0, []), (0, 0))) = true := by decide +kernel
set_option maxRecDepth 100000 in
theorem ak_v116 {X : List (List Value)} (hX : az_X X) : az_Valid X ak_k116 := az_validS sz_pkall_szP (q := (5, 1, (0, 0, 0), szc_185)) hX (tb := ak_t116) (fun _ h => by cases h) rfl (hds := ak_h116) (by decide +kernel) (fun _ h => by cases h) (fun _ hV => ⟨_, hV, rfl, ak_e116⟩) (fun _ h => by cases h)
