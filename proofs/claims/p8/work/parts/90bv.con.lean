/-! contracts: written by wip/A/gen56.py -/
/-- $Player.copyCells -/
def ak_k139 : azCon := (249, 0, ([], [], [], [(1, 40, [])], [], [], false), [(some none, [], [], [], [])], [(37, 0)], (0, 0))
def ak_t139 : List azCon := []
def ak_h139 : List azHd := []
theorem ak_e139 : az_ex szP az_inl ak_k139.2.1 ak_t139 ak_k139.2.2.2.2.1 (fun _ => az_pre 249 []) (az_hint ak_t139) (az_leaf ak_k139 ak_h139 none (az_hb 0) (az_rb 0)) 1360 ak_k139.2.2.1.1 ak_k139.2.2.1.2.1 ak_k139.2.2.1.2.2.1 (az_hc ak_k139 (1, 7, (0, 0, 0), szc_249) (0, ak_k139.2.2.1, (0, []), (0, 0))) = true := by decide +kernel
set_option maxRecDepth 100000 in
theorem ak_v139 {X : List (List Value)} (hX : az_X X) : az_Valid X ak_k139 := az_validS sz_pkall_szP (q := (1, 7, (0, 0, 0), szc_249)) hX (tb := ak_t139) (fun _ h => by cases h) rfl (hds := ak_h139) (by decide +kernel) (fun _ h => by cases h) (fun _ hV => ⟨_, hV, rfl, _, fun _ h => h, ak_e139⟩) (fun _ h => by cases h)
/-- $Player.find -/
def ak_k140 : azCon := (253, 3, ([(0, (0, 0, []), (0, 0, [])), (0, (0, 0, []), (0, 0, []))], [(0, 9), (0, 39)], [], [(1, 40, []), (0, 0, [(0, 1)]), (0, 0, [(1, 1)]), (1, 41, [])], [], [], false), [(some (some (0, 0, [(2, 1)])), [(0, (0, 0, []), (0, 0, [])), (0, (0, 0, []), (0, 0, [])), (0, (0, 0, []), (0, 0, []))], [(0, 9), (0, 39), ((-2147483648), 2147483647)], [], [])], [], (0, 0))
def ak_t140 : List azCon := [ak_k42]
def ak_h140 : List azHd := []
theorem ak_e140 : az_ex szP az_inl ak_k140.2.1 ak_t140 ak_k140.2.2.2.2.1 (fun _ => az_pre 253 []) (az_hint ak_t140) (az_leaf ak_k140 ak_h140 none (az_hb 2) (az_rb 2)) 26590 ak_k140.2.2.1.1 ak_k140.2.2.1.2.1 ak_k140.2.2.1.2.2.1 (az_hc ak_k140 (6, 7, (0, 0, 0), szc_253) (0, ak_k140.2.2.1, (0, []), (0, 0))) = true := by decide +kernel
set_option maxRecDepth 100000 in
theorem ak_v140 {X : List (List Value)} (hX : az_X X) : az_Valid X ak_k140 := az_validS sz_pkall_szP (q := (6, 7, (0, 0, 0), szc_253)) hX (tb := ak_t140) (List.forall_mem_cons.mpr ⟨ak_v42 hX, fun _ h => by cases h⟩) rfl (hds := ak_h140) (by decide +kernel) (fun _ h => by cases h) (fun _ hV => ⟨_, hV, rfl, _, fun _ h => h, ak_e140⟩) (fun _ h => by cases h)
/-- $Player.play -/
def ak_k141 : azCon := (252, 4, ([(0, (0, 0, []), (0, 0, []))], [(0, 40)], [], [(1, 40, []), (1, 41, []), (0, 0, [(0, 1)])], [], [], false), [(some none, [(0, (0, 0, []), (0, 0, []))], [(0, 40)], [], [])], [(37, 0), (38, 0)], (0, 0))
def ak_t141 : List azCon := [ak_k42, ak_k140]
def ak_d141_0 : azHd := (2, ([(0, (0, 0, []), (0, 0, [])), (0, (0, 0, []), (0, 0, []))], [(0, 40), (0, 40)], [], [(1, 40, []), (1, 41, []), (0, 0, [(0, 1)]), (0, 0, [(1, 1)]), (9, 0, []), (9, 0, [])], [], [], false), (983, [(1, (-24))]), (0, 0))
def ak_d141_1 : azHd := (10, ([(0, (0, 0, []), (0, 0, [])), (0, (0, 0, []), (0, 0, [])), (0, (0, 0, []), (0, 0, []))], [(1, 40), (0, 39), (0, 10)], [], [(1, 40, []), (1, 41, []), (0, 0, [(0, 1)]), (0, 0, [(1, 1)]), (0, 0, [(2, 1)]), (9, 0, [])], [], [], false), (981, [(1, (-24)), (2, (-2))]), (0, 0))
def ak_h141 : List azHd := [ak_d141_0, ak_d141_1]
theorem ak_e141 : az_ex szP az_inl ak_k141.2.1 ak_t141 ak_k141.2.2.2.2.1 (fun _ => az_pre 252 []) (az_hint ak_t141) (az_leaf ak_k141 ak_h141 none (az_hb 1) (az_rb 1)) 23140 ak_k141.2.2.1.1 ak_k141.2.2.1.2.1 ak_k141.2.2.1.2.2.1 (az_hc ak_k141 (6, 7, (0, 0, 0), szc_252) (0, ak_k141.2.2.1, (0, []), (0, 0))) = true := by decide +kernel
theorem ak_e141_0 : az_ex szP az_inl ak_k141.2.1 ak_t141 ak_k141.2.2.2.2.1 (fun _ => az_pre 252 []) (az_hint ak_t141) (az_leaf ak_k141 ak_h141 (some ak_d141_0.2.2.1) (az_hb 1) (az_rb 1)) 23140 ak_d141_0.2.1.1 ak_d141_0.2.1.2.1 ak_d141_0.2.1.2.2.1 (az_hc ak_k141 (6, 7, (0, 0, 0), szc_252) ak_d141_0) = true := by decide +kernel
theorem ak_e141_1 : az_ex szP az_inl ak_k141.2.1 ak_t141 ak_k141.2.2.2.2.1 (fun _ => az_pre 252 []) (az_hint ak_t141) (az_leaf ak_k141 ak_h141 (some ak_d141_1.2.2.1) (az_hb 1) (az_rb 1)) 23140 ak_d141_1.2.1.1 ak_d141_1.2.1.2.1 ak_d141_1.2.1.2.2.1 (az_hc ak_k141 (6, 7, (0, 0, 0), szc_252) ak_d141_1) = true := by decide +kernel
set_option maxRecDepth 100000 in
theorem ak_v141 {X : List (List Value)} (hX : az_X X) : az_Valid X ak_k141 := az_validS sz_pkall_szP (q := (6, 7, (0, 0, 0), szc_252)) hX (tb := ak_t141) (List.forall_mem_cons.mpr ⟨ak_v42 hX, List.forall_mem_cons.mpr ⟨ak_v140 hX, fun _ h => by cases h⟩⟩) rfl (hds := ak_h141) (by decide +kernel) (List.forall_mem_cons.mpr ⟨by decide +kernel, List.forall_mem_cons.mpr ⟨by decide +kernel, fun _ h => by cases h⟩⟩) (fun _ hV => ⟨_, hV, rfl, _, fun _ h => h, ak_e141⟩) (List.forall_mem_cons.mpr ⟨fun _ hV => ⟨_, hV, rfl, _, fun _ h => h, ak_e141_0⟩, List.forall_mem_cons.mpr ⟨fun _ hV => ⟨_, hV, rfl, _, fun _ h => h, ak_e141_1⟩, fun _ h => by cases h⟩⟩)
/-- $Player.sumOfCells -/
def ak_k142 : azCon := (250, 0, ([], [], [], [(1, 40, [])], [], [], false), [(some (some (0, 0, [(0, 1)])), [(0, (0, 0, []), (0, 0, []))], [((-2147483648), 2147483647)], [], [])], [], (0, 0))
def ak_t142 : List azCon := []
def ak_d142_0 : azHd := (10, ([(0, (0, 0, []), (0, 0, [])), (0, (0, 0, []), (0, 0, []))], [((-2147483648), 2147483647), (0, 39)], [], [(1, 40, []), (0, 0, [(0, 1)]), (1, 41, []), (0, 32, []), (0, 0, [(1, 1)]), (9, 0, [])], [], [], false), (79, [(1, (-2))]), (0, 0))
def ak_h142 : List azHd := [ak_d142_0]
theorem ak_e142 : az_ex szP az_inl ak_k142.2.1 ak_t142 ak_k142.2.2.2.2.1 (fun _ => az_pre 250 []) (az_hint ak_t142) (az_leaf ak_k142 ak_h142 none (az_hb 0) (az_rb 0)) 1750 ak_k142.2.2.1.1 ak_k142.2.2.1.2.1 ak_k142.2.2.1.2.2.1 (az_hc ak_k142 (6, 7, (0, 0, 0), szc_250) (0, ak_k142.2.2.1, (0, []), (0, 0))) = true := by decide +kernel
theorem ak_e142_0 : az_ex szP az_inl ak_k142.2.1 ak_t142 ak_k142.2.2.2.2.1 (fun _ => az_pre 250 []) (az_hint ak_t142) (az_leaf ak_k142 ak_h142 (some ak_d142_0.2.2.1) (az_hb 0) (az_rb 0)) 1750 ak_d142_0.2.1.1 ak_d142_0.2.1.2.1 ak_d142_0.2.1.2.2.1 (az_hc ak_k142 (6, 7, (0, 0, 0), szc_250) ak_d142_0) = true := by decide +kernel
set_option maxRecDepth 100000 in
theorem ak_v142 {X : List (List Value)} (hX : az_X X) : az_Valid X ak_k142 := az_validS sz_pkall_szP (q := (6, 7, (0, 0, 0), szc_250)) hX (tb := ak_t142) (fun _ h => by cases h) rfl (hds := ak_h142) (by decide +kernel) (List.forall_mem_cons.mpr ⟨by decide +kernel, fun _ h => by cases h⟩) (fun _ hV => ⟨_, hV, rfl, _, fun _ h => h, ak_e142⟩) (List.forall_mem_cons.mpr ⟨fun _ hV => ⟨_, hV, rfl, _, fun _ h => h, ak_e142_0⟩, fun _ h => by cases h⟩)
/-- .plays -/
def ak_k143 : azCon := (33, 5, ([(0, (0, 0, []), (0, 0, []))], [((-2147483648), 2147483647)], [], [(1, 4, []), (0, 0, [(0, 1)])], [], [], false), [(some (some (0, 0, [(1, 1)])), [(0, (0, 0, []), (0, 0, [])), (0, (0, 0, []), (0, 0, []))], [((-2147483648), 2147483647), ((-2147483648), 2147483647)], [], [])], [(37, 0), (38, 0), (51, 2), (52, 0)], (0, 0))
def ak_t143 : List azCon := [ak_k45, ak_k139, ak_k141, ak_k142]
def ak_h143 : List azHd := []
theorem ak_e143 : az_ex szP az_inl ak_k143.2.1 ak_t143 ak_k143.2.2.2.2.1 (fun _ => az_pre 33 []) (az_hint ak_t143) (az_leaf ak_k143 ak_h143 none (az_hb 1) (az_rb 1)) 2140 ak_k143.2.2.1.1 ak_k143.2.2.1.2.1 ak_k143.2.2.1.2.2.1 (az_hc ak_k143 (2, 11, (0, 0, 0), szc_33) (0, ak_k143.2.2.1, (0, []), (0, 0))) = true := by decide +kernel
set_option maxRecDepth 100000 in
theorem ak_v143 {X : List (List Value)} (hX : az_X X) : az_Valid X ak_k143 := az_validS sz_pkall_szP (q := (2, 11, (0, 0, 0), szc_33)) hX (tb := ak_t143) (List.forall_mem_cons.mpr ⟨ak_v45 hX, List.forall_mem_cons.mpr ⟨ak_v139 hX, List.forall_mem_cons.mpr ⟨ak_v141 hX, List.forall_mem_cons.mpr ⟨ak_v142 hX, fun _ h => by cases h⟩⟩⟩⟩) rfl (hds := ak_h143) (by decide +kernel) (fun _ h => by cases h) (fun _ hV => ⟨_, hV, rfl, _, fun _ h => h, ak_e143⟩) (fun _ h => by cases h)
/-- $Player.findOrder -/
def ak_k144 : azCon := (257, 0, ([], [], [], [(1, 40, [])], [], [], false), [(some none, [], [], [], [])], [(39, 0)], (0, 0))
def ak_t144 : List azCon := []
def ak_d144_0 : azHd := (2, ([(0, (0, 0, []), (0, 0, []))], [(0, 10)], [], [(1, 40, []), (0, 0, [(0, 1)]), (9, 0, [])], [], [], false), (241, [(0, (-22))]), (0, 0))
def ak_d144_1 : azHd := (9, ([(0, (0, 0, []), (0, 0, [])), (0, (0, 0, []), (0, 0, []))], [(0, 9), (0, 9)], [], [(1, 40, []), (0, 0, [(0, 1)]), (0, 0, [(1, 1)])], [], [], false), (221, [(0, (-22)), (1, 2)]), (0, 0))
def ak_h144 : List azHd := [ak_d144_0, ak_d144_1]
theorem ak_e144 : az_ex szP az_inl ak_k144.2.1 ak_t144 ak_k144.2.2.2.2.1 (fun _ => az_pre 257 []) (az_hint ak_t144) (az_leaf ak_k144 ak_h144 none (az_hb 0) (az_rb 0)) 4570 ak_k144.2.2.1.1 ak_k144.2.2.1.2.1 ak_k144.2.2.1.2.2.1 (az_hc ak_k144 (3, 7, (0, 0, 0), szc_257) (0, ak_k144.2.2.1, (0, []), (0, 0))) = true := by decide +kernel
theorem ak_e144_0 : az_ex szP az_inl ak_k144.2.1 ak_t144 ak_k144.2.2.2.2.1 (fun _ => az_pre 257 []) (az_hint ak_t144) (az_leaf ak_k144 ak_h144 (some ak_d144_0.2.2.1) (az_hb 0) (az_rb 0)) 4570 ak_d144_0.2.1.1 ak_d144_0.2.1.2.1 ak_d144_0.2.1.2.2.1 (az_hc ak_k144 (3, 7, (0, 0, 0), szc_257) ak_d144_0) = true := by decide +kernel
theorem ak_e144_1 : az_ex szP az_inl ak_k144.2.1 ak_t144 ak_k144.2.2.2.2.1 (fun _ => az_pre 257 []) (az_hint ak_t144) (az_leaf ak_k144 ak_h144 (some ak_d144_1.2.2.1) (az_hb 0) (az_rb 0)) 4570 ak_d144_1.2.1.1 ak_d144_1.2.1.2.1 ak_d144_1.2.1.2.2.1 (az_hc ak_k144 (3, 7, (0, 0, 0), szc_257) ak_d144_1) = true := by decide +kernel
set_option maxRecDepth 100000 in
theorem ak_v144 {X : List (List Value)} (hX : az_X X) : az_Valid X ak_k144 := az_validS sz_pkall_szP (q := (3, 7, (0, 0, 0), szc_257)) hX (tb := ak_t144) (fun _ h => by cases h) rfl (hds := ak_h144) (by decide +kernel) (List.forall_mem_cons.mpr ⟨by decide +kernel, List.forall_mem_cons.mpr ⟨by decide +kernel, fun _ h => by cases h⟩⟩) (fun _ hV => ⟨_, hV, rfl, _, fun _ h => h, ak_e144⟩) (List.forall_mem_cons.mpr ⟨fun _ hV => ⟨_, hV, rfl, _, fun _ h => h, ak_e144_0⟩, List.forall_mem_cons.mpr ⟨fun _ hV => ⟨_, hV, rfl, _, fun _ h => h, ak_e144_1⟩, fun _ h => by cases h⟩⟩)
/-- $Planner.lastTick -/
def ak_k145 : azCon := (244, 1, ([], [], [], [(1, 37, [])], [], [], false), [(some (some (0, 0, [(0, 1)])), [(0, (0, 0, []), (0, 0, []))], [(0, 214748364)], [], [])], [], (0, 0))
def ak_t145 : List azCon := []
def ak_d145_0 : azHd := (4, ([(0, (0, 0, []), (0, 0, [])), (0, (0, 0, []), (0, 0, []))], [(0, 214748364), (0, 10)], [], [(1, 37, []), (0, 0, [(0, 1)]), (0, 0, [(1, 1)])], [], [], false), (21, [(1, (-2))]), (0, 0))
def ak_h145 : List azHd := [ak_d145_0]
theorem ak_e145 : az_ex szP az_inl ak_k145.2.1 ak_t145 ak_k145.2.2.2.2.1 (fun _ => az_pre 244 []) (az_hint ak_t145) (az_leaf ak_k145 ak_h145 none (az_hb 0) (az_rb 0)) 2110 ak_k145.2.2.1.1 ak_k145.2.2.1.2.1 ak_k145.2.2.1.2.2.1 (az_hc ak_k145 (3, 6, (0, 0, 0), szc_244) (0, ak_k145.2.2.1, (0, []), (0, 0))) = true := by decide +kernel
theorem ak_e145_0 : az_ex szP az_inl ak_k145.2.1 ak_t145 ak_k145.2.2.2.2.1 (fun _ => az_pre 244 []) (az_hint ak_t145) (az_leaf ak_k145 ak_h145 (some ak_d145_0.2.2.1) (az_hb 0) (az_rb 0)) 2110 ak_d145_0.2.1.1 ak_d145_0.2.1.2.1 ak_d145_0.2.1.2.2.1 (az_hc ak_k145 (3, 6, (0, 0, 0), szc_244) ak_d145_0) = true := by decide +kernel
set_option maxRecDepth 100000 in
theorem ak_v145 {X : List (List Value)} (hX : az_X X) : az_Valid X ak_k145 := az_validS sz_pkall_szP (q := (3, 6, (0, 0, 0), szc_244)) hX (tb := ak_t145) (fun _ h => by cases h) rfl (hds := ak_h145) (by decide +kernel) (List.forall_mem_cons.mpr ⟨by decide +kernel, fun _ h => by cases h⟩) (fun _ hV => ⟨_, hV, rfl, _, fun _ h => h, ak_e145⟩) (List.forall_mem_cons.mpr ⟨fun _ hV => ⟨_, hV, rfl, _, fun _ h => h, ak_e145_0⟩, fun _ h => by cases h⟩)
/-- $Player.workTick -/
def ak_k146 : azCon := (258, 4, ([(0, (0, 0, []), (0, 0, [])), (0, (0, 0, []), (0, 0, []))], [(0, 2147483647), (0, 40)], [], [(1, 40, []), (1, 41, []), (0, 0, [(0, 1)]), (0, 0, [(1, 1)])], [], [], false), [(some none, [(0, (0, 0, []), (0, 0, [])), (0, (0, 0, []), (0, 0, []))], [(0, 2147483647), (0, 40)], [], [])], [(37, 0), (38, 0), (40, 0), (41, 0)], (0, 0))
def ak_t146 : List azCon := [ak_k42, ak_k111, ak_k140]
def ak_d146_0 : azHd := (4, ([(0, (0, 0, []), (0, 0, [])), (0, (0, 0, []), (0, 0, [])), (0, (0, 0, []), (0, 0, [])), (0, (0, 0, []), (0, 0, []))], [(0, 2147483647), (0, 40), (0, 10), (0, 10)], [(0, [(2, (-1)), (3, 1)])], [(1, 40, []), (1, 41, []), (0, 0, [(0, 1)]), (0, 0, [(1, 1)]), (0, 0, [(2, 1)]), (0, 0, [(3, 1)]), (9, 0, []), (9, 0, []), (9, 0, [])], [], [], false), (43, [(3, (-2))]), (0, 0))
def ak_d146_1 : azHd := (64, ([(0, (0, 0, []), (0, 0, [])), (0, (0, 0, []), (0, 0, [])), (0, (0, 0, []), (0, 0, [])), (0, (0, 0, []), (0, 0, []))], [(0, 2147483647), (0, 40), (0, 10), (0, 10)], [], [(1, 40, []), (1, 41, []), (0, 0, [(0, 1)]), (0, 0, [(1, 1)]), (0, 0, [(2, 1)]), (0, 0, [(3, 1)]), (9, 0, []), (9, 0, []), (9, 0, [])], [], [], false), (21, [(3, (-2))]), (0, 0))
def ak_h146 : List azHd := [ak_d146_0, ak_d146_1]
theorem ak_e146 : az_ex szP az_inl ak_k146.2.1 ak_t146 ak_k146.2.2.2.2.1 (fun _ => az_pre 258 []) (az_hint ak_t146) (az_leaf ak_k146 ak_h146 none (az_hb 2) (az_rb 2)) 29020 ak_k146.2.2.1.1 ak_k146.2.2.1.2.1 ak_k146.2.2.1.2.2.1 (az_hc ak_k146 (9, 7, (0, 0, 0), szc_258) (0, ak_k146.2.2.1, (0, []), (0, 0))) = true := by decide +kernel
theorem ak_e146_0 : az_ex szP az_inl ak_k146.2.1 ak_t146 ak_k146.2.2.2.2.1 (fun _ => az_pre 258 []) (az_hint ak_t146) (az_leaf ak_k146 ak_h146 (some ak_d146_0.2.2.1) (az_hb 2) (az_rb 2)) 29020 ak_d146_0.2.1.1 ak_d146_0.2.1.2.1 ak_d146_0.2.1.2.2.1 (az_hc ak_k146 (9, 7, (0, 0, 0), szc_258) ak_d146_0) = true := by decide +kernel
theorem ak_e146_1 : az_ex szP az_inl ak_k146.2.1 ak_t146 ak_k146.2.2.2.2.1 (fun _ => az_pre 258 []) (az_hint ak_t146) (az_leaf ak_k146 ak_h146 (some ak_d146_1.2.2.1) (az_hb 2) (az_rb 2)) 29020 ak_d146_1.2.1.1 ak_d146_1.2.1.2.1 ak_d146_1.2.1.2.2.1 (az_hc ak_k146 (9, 7, (0, 0, 0), szc_258) ak_d146_1) = true := by decide +kernel
set_option maxRecDepth 100000 in
theorem ak_v146 {X : List (List Value)} (hX : az_X X) : az_Valid X ak_k146 := az_validS sz_pkall_szP (q := (9, 7, (0, 0, 0), szc_258)) hX (tb := ak_t146) (List.forall_mem_cons.mpr ⟨ak_v42 hX, List.forall_mem_cons.mpr ⟨ak_v111 hX, List.forall_mem_cons.mpr ⟨ak_v140 hX, fun _ h => by cases h⟩⟩⟩) rfl (hds := ak_h146) (by decide +kernel) (List.forall_mem_cons.mpr ⟨by decide +kernel, List.forall_mem_cons.mpr ⟨by decide +kernel, fun _ h => by cases h⟩⟩) (fun _ hV => ⟨_, hV, rfl, _, fun _ h => h, ak_e146⟩) (List.forall_mem_cons.mpr ⟨fun _ hV => ⟨_, hV, rfl, _, fun _ h => h, ak_e146_0⟩, List.forall_mem_cons.mpr ⟨fun _ hV => ⟨_, hV, rfl, _, fun _ h => h, ak_e146_1⟩, fun _ h => by cases h⟩⟩)
/-- .ticksOfMachine -/
def ak_k147 : azCon := (63, 2, ([(0, (0, 0, []), (0, 0, []))], [(0, 40)], [], [(1, 4, []), (0, 0, [(0, 1)])], [], [], false), [(some (some (0, 0, [(1, 1)])), [(0, (0, 0, []), (0, 0, [])), (0, (0, 0, []), (0, 0, []))], [(0, 40), ((-214748364), 214750704)], [], [])], [], (0, 0))
def ak_t147 : List azCon := [ak_k110]
def ak_h147 : List azHd := []
theorem ak_e147 : az_ex szP az_inl ak_k147.2.1 ak_t147 ak_k147.2.2.2.2.1 (fun _ => az_pre 63 []) (az_hint ak_t147) (az_leaf ak_k147 ak_h147 none (az_hb 1) (az_rb 1)) 1510 ak_k147.2.2.1.1 ak_k147.2.2.1.2.1 ak_k147.2.2.1.2.2.1 (az_hc ak_k147 (2, 11, (0, 0, 0), szc_63) (0, ak_k147.2.2.1, (0, []), (0, 0))) = true := by decide +kernel
set_option maxRecDepth 100000 in
theorem ak_v147 {X : List (List Value)} (hX : az_X X) : az_Valid X ak_k147 := az_validS sz_pkall_szP (q := (2, 11, (0, 0, 0), szc_63)) hX (tb := ak_t147) (List.forall_mem_cons.mpr ⟨ak_v110 hX, fun _ h => by cases h⟩) rfl (hds := ak_h147) (by decide +kernel) (fun _ h => by cases h) (fun _ hV => ⟨_, hV, rfl, _, fun _ h => h, ak_e147⟩) (fun _ h => by cases h)
/-- .tellPools -/
def ak_k148 : azCon := (60, 1, ([], [], [], [(1, 4, [])], [], [], false), [(some none, [], [], [], [])], [(51, 2), (52, 0)], (0, 0))
def ak_t148 : List azCon := []
def ak_d148_0 : azHd := (5, ([(0, (0, 0, []), (0, 0, []))], [(0, 9)], [], [(1, 4, []), (0, 0, [(0, 1)])], [], [], false), (19, [(0, (-2))]), (0, 0))
def ak_h148 : List azHd := [ak_d148_0]
theorem ak_e148 : az_ex szP az_inl ak_k148.2.1 ak_t148 ak_k148.2.2.2.2.1 (fun _ => az_pre 60 []) (az_hint ak_t148) (az_leaf ak_k148 ak_h148 none (az_hb 0) (az_rb 0)) 4840 ak_k148.2.2.1.1 ak_k148.2.2.1.2.1 ak_k148.2.2.1.2.2.1 (az_hc ak_k148 (2, 11, (0, 0, 0), szc_60) (0, ak_k148.2.2.1, (0, []), (0, 0))) = true := by decide +kernel
theorem ak_e148_0 : az_ex szP az_inl ak_k148.2.1 ak_t148 ak_k148.2.2.2.2.1 (fun _ => az_pre 60 []) (az_hint ak_t148) (az_leaf ak_k148 ak_h148 (some ak_d148_0.2.2.1) (az_hb 0) (az_rb 0)) 4840 ak_d148_0.2.1.1 ak_d148_0.2.1.2.1 ak_d148_0.2.1.2.2.1 (az_hc ak_k148 (2, 11, (0, 0, 0), szc_60) ak_d148_0) = true := by decide +kernel
set_option maxRecDepth 100000 in
theorem ak_v148 {X : List (List Value)} (hX : az_X X) : az_Valid X ak_k148 := az_validS sz_pkall_szP (q := (2, 11, (0, 0, 0), szc_60)) hX (tb := ak_t148) (fun _ h => by cases h) rfl (hds := ak_h148) (by decide +kernel) (List.forall_mem_cons.mpr ⟨by decide +kernel, fun _ h => by cases h⟩) (fun _ hV => ⟨_, hV, rfl, _, fun _ h => h, ak_e148⟩) (List.forall_mem_cons.mpr ⟨fun _ hV => ⟨_, hV, rfl, _, fun _ h => h, ak_e148_0⟩, fun _ h => by cases h⟩)
/-- $Planner.findGap -/
def ak_k149 : azCon := (231, 5, ([(0, (0, 0, []), (0, 0, []))], [(1, 60)], [], [(1, 37, []), (0, 0, [(0, 1)])], [], [], false), [(some (some (0, 0, [(1, 1)])), [(0, (0, 0, []), (0, 0, [])), (0, (0, 0, []), (0, 0, []))], [(1, 60), ((-1), 60)], [], [])], [(28, 0), (29, 0), (30, 0), (31, 0), (34, 0), (35, 0)], (0, 0))
def ak_t149 : List azCon := [ak_k94, ak_k107]
def ak_d149_0 : azHd := (10, ([(0, (0, 0, []), (0, 0, [])), (0, (0, 0, []), (0, 0, []))], [(1, 60), (0, 61)], [], [(1, 37, []), (0, 0, [(0, 1)]), (0, 0, [(1, 1)])], [], [], false), (123, [(1, (-2))]), (0, 0))
def ak_h149 : List azHd := [ak_d149_0]
theorem ak_e149 : az_ex szP az_inl ak_k149.2.1 ak_t149 ak_k149.2.2.2.2.1 (fun _ => az_pre 231 []) (az_hint ak_t149) (az_leaf ak_k149 ak_h149 none (az_hb 1) (az_rb 1)) 1780 ak_k149.2.2.1.1 ak_k149.2.2.1.2.1 ak_k149.2.2.1.2.2.1 (az_hc ak_k149 (3, 6, (0, 0, 0), szc_231) (0, ak_k149.2.2.1, (0, []), (0, 0))) = true := by decide +kernel
theorem ak_e149_0 : az_ex szP az_inl ak_k149.2.1 ak_t149 ak_k149.2.2.2.2.1 (fun _ => az_pre 231 []) (az_hint ak_t149) (az_leaf ak_k149 ak_h149 (some ak_d149_0.2.2.1) (az_hb 1) (az_rb 1)) 1780 ak_d149_0.2.1.1 ak_d149_0.2.1.2.1 ak_d149_0.2.1.2.2.1 (az_hc ak_k149 (3, 6, (0, 0, 0), szc_231) ak_d149_0) = true := by decide +kernel
set_option maxRecDepth 100000 in
theorem ak_v149 {X : List (List Value)} (hX : az_X X) : az_Valid X ak_k149 := az_validS sz_pkall_szP (q := (3, 6, (0, 0, 0), szc_231)) hX (tb := ak_t149) (List.forall_mem_cons.mpr ⟨ak_v94 hX, List.forall_mem_cons.mpr ⟨ak_v107 hX, fun _ h => by cases h⟩⟩) rfl (hds := ak_h149) (by decide +kernel) (List.forall_mem_cons.mpr ⟨by decide +kernel, fun _ h => by cases h⟩) (fun _ hV => ⟨_, hV, rfl, _, fun _ h => h, ak_e149⟩) (List.forall_mem_cons.mpr ⟨fun _ hV => ⟨_, hV, rfl, _, fun _ h => h, ak_e149_0⟩, fun _ h => by cases h⟩)
