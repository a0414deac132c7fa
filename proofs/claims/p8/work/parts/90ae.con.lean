/-! contracts: written by wip/A/gen56.py -/
/-- $Player.find -/
def ak_k43 : azCon := (253, 3, ([(0, (0, 0, []), (0, 0, [])), (0, (0, 0, []), (0, 0, []))], [(0, 9), (0, 39)], [], [(1, 40, []), (0, 0, [(0, 1)]), (0, 0, [(1, 1)]), (1, 10, [])], [], [], false), [(some (some (0, 0, [(2, 1)])), [(0, (0, 0, []), (0, 0, [])), (0, (0, 0, []), (0, 0, [])), (0, (0, 0, []), (0, 0, []))], [(0, 9), (0, 39), ((-2147483648), 2147483647)], [], [])], [], (0, 0))
def ak_t43 : List azCon := [ak_k42]
def ak_h43 : List azHd := []
theorem ak_e43 : az_ex szP az_inl ak_k43.2.1 ak_t43 ak_k43.2.2.2.2.1 (fun _ => az_pre 253 []) (az_hint ak_t43) (az_leaf ak_k43 ak_h43 none (az_hb 2) (az_rb 2)) 26590 ak_k43.2.2.1.1 ak_k43.2.2.1.2.1 ak_k43.2.2.1.2.2.1 (az_hc ak_k43 (6, 7, (0, 0, 0), szc_253) (0, ak_k43.2.2.1, (0, []), (0, 0))) = true := by decide +kernel
set_option maxRecDepth 100000 in
theorem ak_v43 {X : List (List Value)} (hX : az_X X) : az_Valid X ak_k43 := az_validS sz_pkall_szP (q := (6, 7, (0, 0, 0), szc_253)) hX (tb := ak_t43) (List.forall_mem_cons.mpr ⟨ak_v42 hX, fun _ h => by cases h⟩) rfl (hds := ak_h43) (by decide +kernel) (fun _ h => by cases h) (fun _ hV => ⟨_, hV, rfl, _, fun _ h => h, ak_e43⟩) (fun _ h => by cases h)
/-- $Player.play -/
def ak_k44 : azCon := (252, 4, ([(0, (0, 0, []), (0, 0, []))], [(0, 40)], [], [(1, 40, []), (1, 10, []), (0, 0, [(0, 1)])], [], [], false), [(some none, [(0, (0, 0, []), (0, 0, []))], [(0, 40)], [], [])], [(38, 0), (6, 0)], (0, 0))
def ak_t44 : List azCon := [ak_k42, ak_k43]
def ak_d44_0 : azHd := (2, ([(0, (0, 0, []), (0, 0, [])), (0, (0, 0, []), (0, 0, []))], [(0, 40), (0, 40)], [], [(1, 40, []), (1, 10, []), (0, 0, [(0, 1)]), (0, 0, [(1, 1)]), (9, 0, []), (9, 0, [])], [], [], false), (983, [(1, (-24))]), (0, 0))
def ak_d44_1 : azHd := (10, ([(0, (0, 0, []), (0, 0, [])), (0, (0, 0, []), (0, 0, [])), (0, (0, 0, []), (0, 0, []))], [(1, 40), (0, 39), (0, 10)], [], [(1, 40, []), (1, 10, []), (0, 0, [(0, 1)]), (0, 0, [(1, 1)]), (0, 0, [(2, 1)]), (9, 0, [])], [], [], false), (981, [(1, (-24)), (2, (-2))]), (0, 0))
def ak_h44 : List azHd := [ak_d44_0, ak_d44_1]
theorem ak_e44 : az_ex szP az_inl ak_k44.2.1 ak_t44 ak_k44.2.2.2.2.1 (fun _ => az_pre 252 []) (az_hint ak_t44) (az_leaf ak_k44 ak_h44 none (az_hb 1) (az_rb 1)) 23140 ak_k44.2.2.1.1 ak_k44.2.2.1.2.1 ak_k44.2.2.1.2.2.1 (az_hc ak_k44 (6, 7, (0, 0, 0), szc_252) (0, ak_k44.2.2.1, (0, []), (0, 0))) = true := by decide +kernel
theorem ak_e44_0 : az_ex szP az_inl ak_k44.2.1 ak_t44 ak_k44.2.2.2.2.1 (fun _ => az_pre 252 []) (az_hint ak_t44) (az_leaf ak_k44 ak_h44 (some ak_d44_0.2.2.1) (az_hb 1) (az_rb 1)) 23140 ak_d44_0.2.1.1 ak_d44_0.2.1.2.1 ak_d44_0.2.1.2.2.1 (az_hc ak_k44 (6, 7, (0, 0, 0), szc_252) ak_d44_0) = true := by decide +kernel
theorem ak_e44_1 : az_ex szP az_inl ak_k44.2.1 ak_t44 ak_k44.2.2.2.2.1 (fun _ => az_pre 252 []) (az_hint ak_t44) (az_leaf ak_k44 ak_h44 (some ak_d44_1.2.2.1) (az_hb 1) (az_rb 1)) 23140 ak_d44_1.2.1.1 ak_d44_1.2.1.2.1 ak_d44_1.2.1.2.2.1 (az_hc ak_k44 (6, 7, (0, 0, 0), szc_252) ak_d44_1) = true := by decide +kernel
set_option maxRecDepth 100000 in
theorem ak_v44 {X : List (List Value)} (hX : az_X X) : az_Valid X ak_k44 := az_validS sz_pkall_szP (q := (6, 7, (0, 0, 0), szc_252)) hX (tb := ak_t44) (List.forall_mem_cons.mpr ⟨ak_v42 hX, List.forall_mem_cons.mpr ⟨ak_v43 hX, fun _ h => by cases h⟩⟩) rfl (hds := ak_h44) (by decide +kernel) (List.forall_mem_cons.mpr ⟨by decide +kernel, List.forall_mem_cons.mpr ⟨by decide +kernel, fun _ h => by cases h⟩⟩) (fun _ hV => ⟨_, hV, rfl, _, fun _ h => h, ak_e44⟩) (List.forall_mem_cons.mpr ⟨fun _ hV => ⟨_, hV, rfl, _, fun _ h => h, ak_e44_0⟩, List.forall_mem_cons.mpr ⟨fun _ hV => ⟨_, hV, rfl, _, fun _ h => h, ak_e44_1⟩, fun _ h => by cases h⟩⟩)
/-- .tellValues -/
def ak_k45 : azCon := (59, 1, ([(0, (0, 0, []), (0, 0, []))], [(0, 40)], [], [(1, 4, []), (0, 0, [(0, 1)])], [], [], false), [(some none, [(0, (0, 0, []), (0, 0, []))], [(0, 40)], [], [])], [(51, 2), (52, 0)], (0, 0))
def ak_t45 : List azCon := []
def ak_d45_0 : azHd := (5, ([(0, (0, 0, []), (0, 0, [])), (0, (0, 0, []), (0, 0, []))], [(0, 40), (0, 10)], [], [(1, 4, []), (0, 0, [(0, 1)]), (0, 0, [(1, 1)])], [], [], false), (21, [(1, (-2))]), (0, 0))
def ak_h45 : List azHd := [ak_d45_0]
theorem ak_e45 : az_ex szP az_inl ak_k45.2.1 ak_t45 ak_k45.2.2.2.2.1 (fun _ => az_pre 59 []) (az_hint ak_t45) (az_leaf ak_k45 ak_h45 none (az_hb 1) (az_rb 1)) 3790 ak_k45.2.2.1.1 ak_k45.2.2.1.2.1 ak_k45.2.2.1.2.2.1 (az_hc ak_k45 (3, 11, (0, 0, 0), szc_59) (0, ak_k45.2.2.1, (0, []), (0, 0))) = true := by decide +kernel
theorem ak_e45_0 : az_ex szP az_inl ak_k45.2.1 ak_t45 ak_k45.2.2.2.2.1 (fun _ => az_pre 59 []) (az_hint ak_t45) (az_leaf ak_k45 ak_h45 (some ak_d45_0.2.2.1) (az_hb 1) (az_rb 1)) 3790 ak_d45_0.2.1.1 ak_d45_0.2.1.2.1 ak_d45_0.2.1.2.2.1 (az_hc ak_k45 (3, 11, (0, 0, 0), szc_59) ak_d45_0) = true := by decide +kernel
set_option maxRecDepth 100000 in
theorem ak_v45 {X : List (List Value)} (hX : az_X X) : az_Valid X ak_k45 := az_validS sz_pkall_szP (q := (3, 11, (0, 0, 0), szc_59)) hX (tb := ak_t45) (fun _ h => by cases h) rfl (hds := ak_h45) (by decide +kernel) (List.forall_mem_cons.mpr ⟨by decide +kernel, fun _ h => by cases h⟩) (fun _ hV => ⟨_, hV, rfl, _, fun _ h => h, ak_e45⟩) (List.forall_mem_cons.mpr ⟨fun _ hV => ⟨_, hV, rfl, _, fun _ h => h, ak_e45_0⟩, fun _ h => by cases h⟩)
/-- .runs -/
def ak_k46 : azCon := (15, 5, ([(0, (0, 0, []), (0, 0, []))], [((-2147483648), 2147483647)], [], [(1, 4, []), (0, 0, [(0, 1)])], [], [], false), [(some (some (0, 0, [(1, 1)])), [(0, (0, 0, []), (0, 0, [])), (0, (0, 0, []), (0, 0, []))], [((-2147483648), 2147483647), ((-1), 40)], [], [])], [(100, 0), (101, 0), (102, 0), (103, 0), (104, 0), (105, 0), (106, 1), (107, 0), (108, 0), (109, 0), (110, 0), (111, 0), (112, 0), (113, 1), (114, 0), (115, 0), (116, 0), (117, 0), (118, 0), (119, 0), (120, 1), (121, 0), (122, 0), (123, 0), (124, 0), (125, 0), (126, 0), (38, 0), (51, 2), (52, 0), (53, 3), (53, 4), (57, 1), (58, 0), (59, 0), (6, 0), (60, 0), (61, 0), (62, 0), (63, 0), (64, 1), (65, 0), (66, 0), (67, 0), (68, 0), (69, 0), (70, 0), (71, 1), (72, 0), (73, 0), (74, 0), (75, 0), (76, 0), (77, 0), (78, 1), (79, 0), (80, 0), (81, 0), (82, 0), (83, 0), (84, 0), (85, 1), (86, 0), (87, 0), (88, 0), (89, 0), (90, 0), (91, 0), (92, 1), (93, 0), (94, 0), (95, 0), (96, 0), (97, 0), (98, 0), (99, 1)], (0, 0))
def ak_t46 : List azCon := [ak_k23, ak_k25, ak_k44, ak_k45]
def ak_h46 : List azHd := []
theorem ak_e46 : az_ex szP az_inl ak_k46.2.1 ak_t46 ak_k46.2.2.2.2.1 (fun _ => az_pre 15 []) (az_hint ak_t46) (az_leaf ak_k46 ak_h46 none (az_hb 1) (az_rb 1)) 2170 ak_k46.2.2.1.1 ak_k46.2.2.1.2.1 ak_k46.2.2.1.2.2.1 (az_hc ak_k46 (2, 11, (0, 0, 0), szc_15) (0, ak_k46.2.2.1, (0, []), (0, 0))) = true := by decide +kernel
set_option maxRecDepth 100000 in
theorem ak_v46 {X : List (List Value)} (hX : az_X X) : az_Valid X ak_k46 := az_validS sz_pkall_szP (q := (2, 11, (0, 0, 0), szc_15)) hX (tb := ak_t46) (List.forall_mem_cons.mpr ⟨ak_v23 hX, List.forall_mem_cons.mpr ⟨ak_v25 hX, List.forall_mem_cons.mpr ⟨ak_v44 hX, List.forall_mem_cons.mpr ⟨ak_v45 hX, fun _ h => by cases h⟩⟩⟩⟩) rfl (hds := ak_h46) (by decide +kernel) (fun _ h => by cases h) (fun _ hV => ⟨_, hV, rfl, _, fun _ h => h, ak_e46⟩) (fun _ h => by cases h)
/-- $Reader.readsChange -/
def ak_k47 : azCon := (270, 2, ([], [], [], [(1, 14, [])], [], [], false), [(some (some (0, 0, [(0, 1)])), [(0, (0, 0, []), (0, 0, []))], [(0, 1)], [], [])], [(8, 3)], (0, 0))
def ak_t47 : List azCon := []
def ak_h47 : List azHd := []
theorem ak_e47 : az_ex szP az_inl ak_k47.2.1 ak_t47 ak_k47.2.2.2.2.1 (fun _ => az_pre 270 []) (az_hint ak_t47) (az_leaf ak_k47 ak_h47 none (az_hb 0) (az_rb 0)) 22840 ak_k47.2.2.1.1 ak_k47.2.2.1.2.1 ak_k47.2.2.1.2.2.1 (az_hc ak_k47 (1, 8, (0, 0, 0), szc_270) (0, ak_k47.2.2.1, (0, []), (0, 0))) = true := by decide +kernel
set_option maxRecDepth 100000 in
theorem ak_v47 {X : List (List Value)} (hX : az_X X) : az_Valid X ak_k47 := az_validS sz_pkall_szP (q := (1, 8, (0, 0, 0), szc_270)) hX (tb := ak_t47) (fun _ h => by cases h) rfl (hds := ak_h47) (by decide +kernel) (fun _ h => by cases h) (fun _ hV => ⟨_, hV, rfl, _, fun _ h => h, ak_e47⟩) (fun _ h => by cases h)
/-- $Reader.checkDay -/
def ak_k48 : azCon := (269, 3, ([], [], [], [(1, 14, [])], [], [], false), [(some (some (0, 0, [(0, 1)])), [(0, (0, 0, []), (0, 0, []))], [((-91), 0)], [], [])], [(8, 3)], (0, 0))
def ak_t48 : List azCon := [ak_k47]
def ak_d48_0 : azHd := (6, ([(0, (0, 0, []), (0, 0, []))], [(0, 80)], [], [(1, 14, []), (0, 0, [(0, 1)])], [], [], false), (161, [(0, (-2))]), (0, 0))
def ak_h48 : List azHd := [ak_d48_0]
theorem ak_e48 : az_ex szP az_inl ak_k48.2.1 ak_t48 ak_k48.2.2.2.2.1 (fun _ => az_pre 269 []) (az_hint ak_t48) (az_leaf ak_k48 ak_h48 none (az_hb 0) (az_rb 0)) 2260 ak_k48.2.2.1.1 ak_k48.2.2.1.2.1 ak_k48.2.2.1.2.2.1 (az_hc ak_k48 (2, 8, (0, 0, 0), szc_269) (0, ak_k48.2.2.1, (0, []), (0, 0))) = true := by decide +kernel
theorem ak_e48_0 : az_ex szP az_inl ak_k48.2.1 ak_t48 ak_k48.2.2.2.2.1 (fun _ => az_pre 269 []) (az_hint ak_t48) (az_leaf ak_k48 ak_h48 (some ak_d48_0.2.2.1) (az_hb 0) (az_rb 0)) 2260 ak_d48_0.2.1.1 ak_d48_0.2.1.2.1 ak_d48_0.2.1.2.2.1 (az_hc ak_k48 (2, 8, (0, 0, 0), szc_269) ak_d48_0) = true := by decide +kernel
set_option maxRecDepth 100000 in
theorem ak_v48 {X : List (List Value)} (hX : az_X X) : az_Valid X ak_k48 := az_validS sz_pkall_szP (q := (2, 8, (0, 0, 0), szc_269)) hX (tb := ak_t48) (List.forall_mem_cons.mpr ⟨ak_v47 hX, fun _ h => by cases h⟩) rfl (hds := ak_h48) (by decide +kernel) (List.forall_mem_cons.mpr ⟨by decide +kernel, fun _ h => by cases h⟩) (fun _ hV => ⟨_, hV, rfl, _, fun _ h => h, ak_e48⟩) (List.forall_mem_cons.mpr ⟨fun _ hV => ⟨_, hV, rfl, _, fun _ h => h, ak_e48_0⟩, fun _ h => by cases h⟩)
/-- $Player.play -/
def ak_k49 : azCon := (252, 0, ([(0, (0, 0, []), (0, 0, []))], [((-1), (-1))], [], [(1, 40, []), (1, 10, []), (0, 0, [(0, 1)])], [], [], false), [(some none, [(0, (0, 0, []), (0, 0, []))], [((-1), (-1))], [], [])], [], (0, 0))
def ak_t49 : List azCon := []
def ak_d49_0 : azHd := (2, ([(0, (0, 0, []), (0, 0, []))], [((-1), (-1))], [], [(1, 40, []), (1, 10, []), (0, 0, [(0, 1)]), (0, 0, [])], [], [], false), (1, []), (0, 0))
def ak_h49 : List azHd := [ak_d49_0]
theorem ak_e49 : az_ex szP az_inl ak_k49.2.1 ak_t49 ak_k49.2.2.2.2.1 (fun _ => az_pre 252 []) (az_hint ak_t49) (az_leaf ak_k49 ak_h49 none (az_hb 1) (az_rb 1)) 1180 ak_k49.2.2.1.1 ak_k49.2.2.1.2.1 ak_k49.2.2.1.2.2.1 (az_hc ak_k49 (6, 7, (0, 0, 0), szc_252) (0, ak_k49.2.2.1, (0, []), (0, 0))) = true := by decide +kernel
theorem ak_e49_0 : az_ex szP az_inl ak_k49.2.1 ak_t49 ak_k49.2.2.2.2.1 (fun _ => az_pre 252 []) (az_hint ak_t49) (az_leaf ak_k49 ak_h49 (some ak_d49_0.2.2.1) (az_hb 1) (az_rb 1)) 1180 ak_d49_0.2.1.1 ak_d49_0.2.1.2.1 ak_d49_0.2.1.2.2.1 (az_hc ak_k49 (6, 7, (0, 0, 0), szc_252) ak_d49_0) = true := by decide +kernel
set_option maxRecDepth 100000 in
theorem ak_v49 {X : List (List Value)} (hX : az_X X) : az_Valid X ak_k49 := az_validS sz_pkall_szP (q := (6, 7, (0, 0, 0), szc_252)) hX (tb := ak_t49) (fun _ h => by cases h) rfl (hds := ak_h49) (by decide +kernel) (List.forall_mem_cons.mpr ⟨by decide +kernel, fun _ h => by cases h⟩) (fun _ hV => ⟨_, hV, rfl, _, fun _ h => h, ak_e49⟩) (List.forall_mem_cons.mpr ⟨fun _ hV => ⟨_, hV, rfl, _, fun _ h => h, ak_e49_0⟩, fun _ h => by cases h⟩)
