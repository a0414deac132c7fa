/-! contracts: written by wip/A/gen56.py -/
/-- $Bounds.need -/
def ak_k93 : azCon := (199, 1, ([(0, (0, 0, []), (0, 0, []))], [(0, 3)], [], [(1, 22, []), (0, 0, [(0, 1)])], [], [], false), [(some (some (0, 0, [(1, 1)])), [(0, (0, 0, []), (0, 0, [])), (0, (0, 0, []), (0, 0, []))], [(0, 3), (0, 13)], [], [])], [], (0, 0))
def ak_t93 : List azCon := []
def ak_d93_0 : azHd := (4, ([(0, (0, 0, []), (0, 0, [])), (0, (0, 0, []), (0, 0, [])), (0, (0, 0, []), (0, 0, []))], [(0, 3), (0, 10), (0, 10)], [(0, [(1, (-1)), (2, 1)])], [(1, 22, []), (0, 0, [(0, 1)]), (0, 0, [(1, 1)]), (0, 0, [(2, 1)])], [], [], false), (21, [(2, (-2))]), (0, 0))
def ak_h93 : List azHd := [ak_d93_0]
theorem ak_e93 : az_ex szP az_inl ak_k93.2.1 ak_t93 ak_k93.2.2.2.2.1 (fun _ => az_pre 199 []) (az_hint ak_t93) (az_leaf ak_k93 ak_h93 none (az_hb 1) (az_rb 1)) 3520 ak_k93.2.2.1.1 ak_k93.2.2.1.2.1 ak_k93.2.2.1.2.2.1 (az_hc ak_k93 (4, 2, (0, 0, 0), szc_199) (0, ak_k93.2.2.1, (0, []), (0, 0))) = true := by decide +kernel
theorem ak_e93_0 : az_ex szP az_inl ak_k93.2.1 ak_t93 ak_k93.2.2.2.2.1 (fun _ => az_pre 199 []) (az_hint ak_t93) (az_leaf ak_k93 ak_h93 (some ak_d93_0.2.2.1) (az_hb 1) (az_rb 1)) 3520 ak_d93_0.2.1.1 ak_d93_0.2.1.2.1 ak_d93_0.2.1.2.2.1 (az_hc ak_k93 (4, 2, (0, 0, 0), szc_199) ak_d93_0) = true := by decide +kernel
set_option maxRecDepth 100000 in
theorem ak_v93 {X : List (List Value)} (hX : az_X X) : az_Valid X ak_k93 := az_validS sz_pkall_szP (q := (4, 2, (0, 0, 0), szc_199)) hX (tb := ak_t93) (fun _ h => by cases h) rfl (hds := ak_h93) (by decide +kernel) (List.forall_mem_cons.mpr ⟨by decide +kernel, fun _ h => by cases h⟩) (fun _ hV => ⟨_, hV, rfl, _, fun _ h => h, ak_e93⟩) (List.forall_mem_cons.mpr ⟨fun _ hV => ⟨_, hV, rfl, _, fun _ h => h, ak_e93_0⟩, fun _ h => by cases h⟩)
/-- $Bounds.leastGap -/
def ak_k94 : azCon := (200, 2, ([], [], [], [(1, 22, [])], [], [], false), [(some (some (0, 0, [(0, 1)])), [(0, (0, 0, []), (0, 0, []))], [(0, 60)], [], [])], [], (0, 0))
def ak_t94 : List azCon := [ak_k93]
def ak_d94_0 : azHd := (5, ([(0, (0, 0, []), (0, 0, [])), (0, (0, 0, []), (0, 0, []))], [(0, 60), (0, 9)], [], [(1, 22, []), (0, 0, [(0, 1)]), (0, 0, [(1, 1)])], [], [], false), (19, [(1, (-2))]), (0, 0))
def ak_h94 : List azHd := [ak_d94_0]
theorem ak_e94 : az_ex szP az_inl ak_k94.2.1 ak_t94 ak_k94.2.2.2.2.1 (fun _ => az_pre 200 []) (az_hint ak_t94) (az_leaf ak_k94 ak_h94 none (az_hb 0) (az_rb 0)) 1870 ak_k94.2.2.1.1 ak_k94.2.2.1.2.1 ak_k94.2.2.1.2.2.1 (az_hc ak_k94 (3, 2, (0, 0, 0), szc_200) (0, ak_k94.2.2.1, (0, []), (0, 0))) = true := by decide +kernel
theorem ak_e94_0 : az_ex szP az_inl ak_k94.2.1 ak_t94 ak_k94.2.2.2.2.1 (fun _ => az_pre 200 []) (az_hint ak_t94) (az_leaf ak_k94 ak_h94 (some ak_d94_0.2.2.1) (az_hb 0) (az_rb 0)) 1870 ak_d94_0.2.1.1 ak_d94_0.2.1.2.1 ak_d94_0.2.1.2.2.1 (az_hc ak_k94 (3, 2, (0, 0, 0), szc_200) ak_d94_0) = true := by decide +kernel
set_option maxRecDepth 100000 in
theorem ak_v94 {X : List (List Value)} (hX : az_X X) : az_Valid X ak_k94 := az_validS sz_pkall_szP (q := (3, 2, (0, 0, 0), szc_200)) hX (tb := ak_t94) (List.forall_mem_cons.mpr ⟨ak_v93 hX, fun _ h => by cases h⟩) rfl (hds := ak_h94) (by decide +kernel) (List.forall_mem_cons.mpr ⟨by decide +kernel, fun _ h => by cases h⟩) (fun _ hV => ⟨_, hV, rfl, _, fun _ h => h, ak_e94⟩) (List.forall_mem_cons.mpr ⟨fun _ hV => ⟨_, hV, rfl, _, fun _ h => h, ak_e94_0⟩, fun _ h => by cases h⟩)
/-- .tellTimes -/
def ak_k95 : azCon := (61, 1, ([(0, (0, 0, []), (0, 0, []))], [(10, 600)], [], [(1, 4, []), (1, 32, []), (0, 0, [(0, 1)])], [], [], false), [(some none, [(0, (0, 0, []), (0, 0, []))], [(10, 600)], [], [])], [(51, 2), (52, 0)], (0, 0))
def ak_t95 : List azCon := []
def ak_d95_0 : azHd := (5, ([(0, (0, 0, []), (0, 0, [])), (0, (0, 0, []), (0, 0, []))], [(10, 600), (0, 10)], [], [(1, 4, []), (1, 32, []), (0, 0, [(0, 1)]), (0, 0, [(1, 1)])], [], [], false), (21, [(1, (-2))]), (0, 0))
def ak_h95 : List azHd := [ak_d95_0]
theorem ak_e95 : az_ex szP az_inl ak_k95.2.1 ak_t95 ak_k95.2.2.2.2.1 (fun _ => az_pre 61 []) (az_hint ak_t95) (az_leaf ak_k95 ak_h95 none (az_hb 1) (az_rb 1)) 2440 ak_k95.2.2.1.1 ak_k95.2.2.1.2.1 ak_k95.2.2.1.2.2.1 (az_hc ak_k95 (4, 11, (0, 0, 0), szc_61) (0, ak_k95.2.2.1, (0, []), (0, 0))) = true := by decide +kernel
theorem ak_e95_0 : az_ex szP az_inl ak_k95.2.1 ak_t95 ak_k95.2.2.2.2.1 (fun _ => az_pre 61 []) (az_hint ak_t95) (az_leaf ak_k95 ak_h95 (some ak_d95_0.2.2.1) (az_hb 1) (az_rb 1)) 2440 ak_d95_0.2.1.1 ak_d95_0.2.1.2.1 ak_d95_0.2.1.2.2.1 (az_hc ak_k95 (4, 11, (0, 0, 0), szc_61) ak_d95_0) = true := by decide +kernel
set_option maxRecDepth 100000 in
theorem ak_v95 {X : List (List Value)} (hX : az_X X) : az_Valid X ak_k95 := az_validS sz_pkall_szP (q := (4, 11, (0, 0, 0), szc_61)) hX (tb := ak_t95) (fun _ h => by cases h) rfl (hds := ak_h95) (by decide +kernel) (List.forall_mem_cons.mpr ⟨by decide +kernel, fun _ h => by cases h⟩) (fun _ hV => ⟨_, hV, rfl, _, fun _ h => h, ak_e95⟩) (List.forall_mem_cons.mpr ⟨fun _ hV => ⟨_, hV, rfl, _, fun _ h => h, ak_e95_0⟩, fun _ h => by cases h⟩)
/-- .tellTimes -/
def ak_k96 : azCon := (61, 1, ([(0, (0, 0, []), (0, 0, []))], [(10, 600)], [], [(1, 4, []), (1, 33, []), (0, 0, [(0, 1)])], [], [], false), [(some none, [(0, (0, 0, []), (0, 0, []))], [(10, 600)], [], [])], [(51, 2), (52, 0)], (0, 0))
def ak_t96 : List azCon := []
def ak_d96_0 : azHd := (5, ([(0, (0, 0, []), (0, 0, [])), (0, (0, 0, []), (0, 0, []))], [(10, 600), (0, 10)], [], [(1, 4, []), (1, 33, []), (0, 0, [(0, 1)]), (0, 0, [(1, 1)])], [], [], false), (21, [(1, (-2))]), (0, 0))
def ak_h96 : List azHd := [ak_d96_0]
theorem ak_e96 : az_ex szP az_inl ak_k96.2.1 ak_t96 ak_k96.2.2.2.2.1 (fun _ => az_pre 61 []) (az_hint ak_t96) (az_leaf ak_k96 ak_h96 none (az_hb 1) (az_rb 1)) 2440 ak_k96.2.2.1.1 ak_k96.2.2.1.2.1 ak_k96.2.2.1.2.2.1 (az_hc ak_k96 (4, 11, (0, 0, 0), szc_61) (0, ak_k96.2.2.1, (0, []), (0, 0))) = true := by decide +kernel
theorem ak_e96_0 : az_ex szP az_inl ak_k96.2.1 ak_t96 ak_k96.2.2.2.2.1 (fun _ => az_pre 61 []) (az_hint ak_t96) (az_leaf ak_k96 ak_h96 (some ak_d96_0.2.2.1) (az_hb 1) (az_rb 1)) 2440 ak_d96_0.2.1.1 ak_d96_0.2.1.2.1 ak_d96_0.2.1.2.2.1 (az_hc ak_k96 (4, 11, (0, 0, 0), szc_61) ak_d96_0) = true := by decide +kernel
set_option maxRecDepth 100000 in
theorem ak_v96 {X : List (List Value)} (hX : az_X X) : az_Valid X ak_k96 := az_validS sz_pkall_szP (q := (4, 11, (0, 0, 0), szc_61)) hX (tb := ak_t96) (fun _ h => by cases h) rfl (hds := ak_h96) (by decide +kernel) (List.forall_mem_cons.mpr ⟨by decide +kernel, fun _ h => by cases h⟩) (fun _ hV => ⟨_, hV, rfl, _, fun _ h => h, ak_e96⟩) (List.forall_mem_cons.mpr ⟨fun _ hV => ⟨_, hV, rfl, _, fun _ h => h, ak_e96_0⟩, fun _ h => by cases h⟩)
/-- $Bounds.fixedBy -/
def ak_k97 : azCon := (210, 0, ([(0, (0, 0, []), (0, 0, []))], [(1, 60)], [], [(1, 22, []), (0, 0, [(0, 1)])], [], [], false), [(some (some (0, 0, [(1, 1)])), [(0, (0, 0, []), (0, 0, [])), (0, (0, 0, []), (0, 0, []))], [(1, 60), ((-2147483648), 2147483647)], [], [])], [], (0, 0))
def ak_t97 : List azCon := []
def ak_d97_0 : azHd := (4, ([(0, (0, 0, []), (0, 0, [])), (0, (0, 0, []), (0, 0, [])), (0, (0, 0, []), (0, 0, []))], [(1, 60), ((-2147483648), 2147483647), (0, 10)], [], [(1, 22, []), (0, 0, [(0, 1)]), (0, 0, [(1, 1)]), (0, 0, [(2, 1)])], [], [], false), (21, [(2, (-2))]), (0, 0))
def ak_h97 : List azHd := [ak_d97_0]
theorem ak_e97 : az_ex szP az_inl ak_k97.2.1 ak_t97 ak_k97.2.2.2.2.1 (fun _ => az_pre 210 []) (az_hint ak_t97) (az_leaf ak_k97 ak_h97 none (az_hb 1) (az_rb 1)) 2050 ak_k97.2.2.1.1 ak_k97.2.2.1.2.1 ak_k97.2.2.1.2.2.1 (az_hc ak_k97 (4, 2, (0, 0, 0), szc_210) (0, ak_k97.2.2.1, (0, []), (0, 0))) = true := by decide +kernel
theorem ak_e97_0 : az_ex szP az_inl ak_k97.2.1 ak_t97 ak_k97.2.2.2.2.1 (fun _ => az_pre 210 []) (az_hint ak_t97) (az_leaf ak_k97 ak_h97 (some ak_d97_0.2.2.1) (az_hb 1) (az_rb 1)) 2050 ak_d97_0.2.1.1 ak_d97_0.2.1.2.1 ak_d97_0.2.1.2.2.1 (az_hc ak_k97 (4, 2, (0, 0, 0), szc_210) ak_d97_0) = true := by decide +kernel
set_option maxRecDepth 100000 in
theorem ak_v97 {X : List (List Value)} (hX : az_X X) : az_Valid X ak_k97 := az_validS sz_pkall_szP (q := (4, 2, (0, 0, 0), szc_210)) hX (tb := ak_t97) (fun _ h => by cases h) rfl (hds := ak_h97) (by decide +kernel) (List.forall_mem_cons.mpr ⟨by decide +kernel, fun _ h => by cases h⟩) (fun _ hV => ⟨_, hV, rfl, _, fun _ h => h, ak_e97⟩) (List.forall_mem_cons.mpr ⟨fun _ hV => ⟨_, hV, rfl, _, fun _ h => h, ak_e97_0⟩, fun _ h => by cases h⟩)
/-- java/util/Arrays.fill -/
def ak_k98 : azCon := (290, 0, ([(0, (0, 0, []), (0, 0, []))], [(0, 0)], [], [(1, 36, []), (0, 0, [(0, 1)])], [], [], false), [(some none, [(0, (0, 0, []), (0, 0, []))], [(0, 0)], [], [])], [(32, 0)], (0, 0))
def ak_t98 : List azCon := []
def ak_d98_0 : azHd := (5, ([(0, (0, 0, []), (0, 0, [])), (0, (0, 0, []), (0, 0, []))], [(0, 0), (0, 10)], [], [(1, 36, []), (0, 0, [(0, 1)]), (0, 0, [(1, 1)]), (0, 10, [])], [], [], false), (21, [(1, (-2))]), (0, 0))
def ak_h98 : List azHd := [ak_d98_0]
theorem ak_e98 : az_ex szP az_inl ak_k98.2.1 ak_t98 ak_k98.2.2.2.2.1 (fun _ => az_pre 290 []) (az_hint ak_t98) (az_leaf ak_k98 ak_h98 none (az_hb 1) (az_rb 1)) 1450 ak_k98.2.2.1.1 ak_k98.2.2.1.2.1 ak_k98.2.2.1.2.2.1 (az_hc ak_k98 (4, 0, (0, 0, 0), szc_290) (0, ak_k98.2.2.1, (0, []), (0, 0))) = true := by decide +kernel
theorem ak_e98_0 : az_ex szP az_inl ak_k98.2.1 ak_t98 ak_k98.2.2.2.2.1 (fun _ => az_pre 290 []) (az_hint ak_t98) (az_leaf ak_k98 ak_h98 (some ak_d98_0.2.2.1) (az_hb 1) (az_rb 1)) 1450 ak_d98_0.2.1.1 ak_d98_0.2.1.2.1 ak_d98_0.2.1.2.2.1 (az_hc ak_k98 (4, 0, (0, 0, 0), szc_290) ak_d98_0) = true := by decide +kernel
set_option maxRecDepth 100000 in
theorem ak_v98 {X : List (List Value)} (hX : az_X X) : az_Valid X ak_k98 := az_validS sz_pkall_szP (q := (4, 0, (0, 0, 0), szc_290)) hX (tb := ak_t98) (fun _ h => by cases h) rfl (hds := ak_h98) (by decide +kernel) (List.forall_mem_cons.mpr ⟨by decide +kernel, fun _ h => by cases h⟩) (fun _ hV => ⟨_, hV, rfl, _, fun _ h => h, ak_e98⟩) (List.forall_mem_cons.mpr ⟨fun _ hV => ⟨_, hV, rfl, _, fun _ h => h, ak_e98_0⟩, fun _ h => by cases h⟩)
/-- $Bounds.inRings -/
def ak_k99 : azCon := (211, 1, ([], [], [], [(1, 22, [])], [], [], false), [(some (some (0, 0, [(0, 1)])), [(0, (0, 0, []), (0, 0, []))], [(0, 2147483647)], [], [])], [(32, 0)], (0, 0))
def ak_t99 : List azCon := [ak_k98]
def ak_d99_0 : azHd := (6, ([(0, (0, 0, []), (0, 0, []))], [(0, 110)], [], [(1, 22, []), (0, 0, [(0, 1)])], [], [], false), (507, [(0, (-2))]), (0, 0))
def ak_d99_1 : azHd := (30, ([(0, (0, 0, []), (0, 0, []))], [(0, 10)], [], [(1, 22, []), (0, 0, [(0, 1)]), (9, 0, [])], [], [], false), (285, [(0, (-24))]), (0, 0))
def ak_d99_2 : azHd := (37, ([(0, (0, 0, []), (0, 0, [])), (0, (0, 0, []), (0, 0, []))], [(0, 9), (0, 10)], [], [(1, 22, []), (0, 0, [(0, 1)]), (0, 0, [(1, 1)])], [], [], false), (283, [(0, (-24)), (1, (-2))]), (0, 0))
def ak_d99_3 : azHd := (70, ([(0, (0, 0, []), (0, 0, [])), (0, (0, 0, []), (0, 0, []))], [(0, 2147483647), (0, 10)], [], [(1, 22, []), (0, 0, [(0, 1)]), (0, 0, [(1, 1)])], [], [], false), (21, [(1, (-2))]), (0, 0))
def ak_h99 : List azHd := [ak_d99_0, ak_d99_1, ak_d99_2, ak_d99_3]
theorem ak_e99 : az_ex szP az_inl ak_k99.2.1 ak_t99 ak_k99.2.2.2.2.1 (fun _ => az_pre 211 []) (az_hint ak_t99) (az_leaf ak_k99 ak_h99 none (az_hb 0) (az_rb 0)) 6790 ak_k99.2.2.1.1 ak_k99.2.2.1.2.1 ak_k99.2.2.1.2.2.1 (az_hc ak_k99 (3, 2, (0, 0, 0), szc_211) (0, ak_k99.2.2.1, (0, []), (0, 0))) = true := by decide +kernel
theorem ak_e99_0 : az_ex szP az_inl ak_k99.2.1 ak_t99 ak_k99.2.2.2.2.1 (fun _ => az_pre 211 []) (az_hint ak_t99) (az_leaf ak_k99 ak_h99 (some ak_d99_0.2.2.1) (az_hb 0) (az_rb 0)) 6790 ak_d99_0.2.1.1 ak_d99_0.2.1.2.1 ak_d99_0.2.1.2.2.1 (az_hc ak_k99 (3, 2, (0, 0, 0), szc_211) ak_d99_0) = true := by decide +kernel
theorem ak_e99_1 : az_ex szP az_inl ak_k99.2.1 ak_t99 ak_k99.2.2.2.2.1 (fun _ => az_pre 211 []) (az_hint ak_t99) (az_leaf ak_k99 ak_h99 (some ak_d99_1.2.2.1) (az_hb 0) (az_rb 0)) 6790 ak_d99_1.2.1.1 ak_d99_1.2.1.2.1 ak_d99_1.2.1.2.2.1 (az_hc ak_k99 (3, 2, (0, 0, 0), szc_211) ak_d99_1) = true := by decide +kernel
theorem ak_e99_2 : az_ex szP az_inl ak_k99.2.1 ak_t99 ak_k99.2.2.2.2.1 (fun _ => az_pre 211 []) (az_hint ak_t99) (az_leaf ak_k99 ak_h99 (some ak_d99_2.2.2.1) (az_hb 0) (az_rb 0)) 6790 ak_d99_2.2.1.1 ak_d99_2.2.1.2.1 ak_d99_2.2.1.2.2.1 (az_hc ak_k99 (3, 2, (0, 0, 0), szc_211) ak_d99_2) = true := by decide +kernel
theorem ak_e99_3 : az_ex szP az_inl ak_k99.2.1 ak_t99 ak_k99.2.2.2.2.1 (fun _ => az_pre 211 []) (az_hint ak_t99) (az_leaf ak_k99 ak_h99 (some ak_d99_3.2.2.1) (az_hb 0) (az_rb 0)) 6790 ak_d99_3.2.1.1 ak_d99_3.2.1.2.1 ak_d99_3.2.1.2.2.1 (az_hc ak_k99 (3, 2, (0, 0, 0), szc_211) ak_d99_3) = true := by decide +kernel
set_option maxRecDepth 100000 in
theorem ak_v99 {X : List (List Value)} (hX : az_X X) : az_Valid X ak_k99 := az_validS sz_pkall_szP (q := (3, 2, (0, 0, 0), szc_211)) hX (tb := ak_t99) (List.forall_mem_cons.mpr ⟨ak_v98 hX, fun _ h => by cases h⟩) rfl (hds := ak_h99) (by decide +kernel) (List.forall_mem_cons.mpr ⟨by decide +kernel, List.forall_mem_cons.mpr ⟨by decide +kernel, List.forall_mem_cons.mpr ⟨by decide +kernel, List.forall_mem_cons.mpr ⟨by decide +kernel, fun _ h => by cases h⟩⟩⟩⟩) (fun _ hV => ⟨_, hV, rfl, _, fun _ h => h, ak_e99⟩) (List.forall_mem_cons.mpr ⟨fun _ hV => ⟨_, hV, rfl, _, fun _ h => h, ak_e99_0⟩, List.forall_mem_cons.mpr ⟨fun _ hV => ⟨_, hV, rfl, _, fun _ h => h, ak_e99_1⟩, List.forall_mem_cons.mpr ⟨fun _ hV => ⟨_, hV, rfl, _, fun _ h => h, ak_e99_2⟩, List.forall_mem_cons.mpr ⟨fun _ hV => ⟨_, hV, rfl, _, fun _ h => h, ak_e99_3⟩, fun _ h => by cases h⟩⟩⟩⟩)
/-- $Bounds.haveTimes -/
def ak_k100 : azCon := (201, 3, ([(0, (0, 0, []), (0, 0, []))], [(0, 60)], [], [(1, 22, []), (0, 0, [(0, 1)])], [], [], false), [(some (some (0, 0, [(1, 1)])), [(0, (0, 0, []), (0, 0, [])), (0, (0, 0, []), (0, 0, []))], [(0, 60), (0, 1)], [], [])], [(28, 0), (29, 0), (30, 0), (31, 0)], (0, 0))
def ak_t100 : List azCon := [ak_k85, ak_k89, ak_k90]
def ak_h100 : List azHd := []
theorem ak_e100 : az_ex szP az_inl ak_k100.2.1 ak_t100 ak_k100.2.2.2.2.1 (fun _ => az_pre 201 []) (az_hint ak_t100) (az_leaf ak_k100 ak_h100 none (az_hb 1) (az_rb 1)) 3130 ak_k100.2.2.1.1 ak_k100.2.2.1.2.1 ak_k100.2.2.1.2.2.1 (az_hc ak_k100 (2, 2, (0, 0, 0), szc_201) (0, ak_k100.2.2.1, (0, []), (0, 0))) = true := by decide +kernel
set_option maxRecDepth 100000 in
theorem ak_v100 {X : List (List Value)} (hX : az_X X) : az_Valid X ak_k100 := az_validS sz_pkall_szP (q := (2, 2, (0, 0, 0), szc_201)) hX (tb := ak_t100) (List.forall_mem_cons.mpr ⟨ak_v85 hX, List.forall_mem_cons.mpr ⟨ak_v89 hX, List.forall_mem_cons.mpr ⟨ak_v90 hX, fun _ h => by cases h⟩⟩⟩) rfl (hds := ak_h100) (by decide +kernel) (fun _ h => by cases h) (fun _ hV => ⟨_, hV, rfl, _, fun _ h => h, ak_e100⟩) (fun _ h => by cases h)
/-- $Planner.firstFor -/
def ak_k101 : azCon := (234, 1, ([(0, (0, 0, []), (0, 0, [])), (0, (0, 0, []), (0, 0, []))], [(0, 9), (0, 60)], [], [(1, 37, []), (0, 0, [(0, 1)]), (0, 0, [(1, 1)])], [], [], false), [(some (some (0, 0, [(2, 1)])), [(0, (0, 0, []), (0, 0, [])), (0, (0, 0, []), (0, 0, [])), (0, (0, 0, []), (0, 0, []))], [(0, 9), (0, 60), ((-2147483648), 2147483647)], [], [])], [], (0, 0))
def ak_t101 : List azCon := [ak_k83]
def ak_d101_0 : azHd := (12, ([(0, (0, 0, []), (0, 0, [])), (0, (0, 0, []), (0, 0, [])), (0, (0, 0, []), (0, 0, [])), (0, (0, 0, []), (0, 0, []))], [(0, 9), (0, 60), ((-2147483648), 2147483647), (0, 110)], [], [(1, 37, []), (0, 0, [(0, 1)]), (0, 0, [(1, 1)]), (0, 0, [(2, 1)]), (0, 0, [(3, 1)])], [], [], false), (221, [(3, (-2))]), (0, 0))
def ak_h101 : List azHd := [ak_d101_0]
theorem ak_e101 : az_ex szP az_inl ak_k101.2.1 ak_t101 ak_k101.2.2.2.2.1 (fun _ => az_pre 234 []) (az_hint ak_t101) (az_leaf ak_k101 ak_h101 none (az_hb 2) (az_rb 2)) 3670 ak_k101.2.2.1.1 ak_k101.2.2.1.2.1 ak_k101.2.2.1.2.2.1 (az_hc ak_k101 (5, 6, (0, 0, 0), szc_234) (0, ak_k101.2.2.1, (0, []), (0, 0))) = true := by decide +kernel
theorem ak_e101_0 : az_ex szP az_inl ak_k101.2.1 ak_t101 ak_k101.2.2.2.2.1 (fun _ => az_pre 234 []) (az_hint ak_t101) (az_leaf ak_k101 ak_h101 (some ak_d101_0.2.2.1) (az_hb 2) (az_rb 2)) 3670 ak_d101_0.2.1.1 ak_d101_0.2.1.2.1 ak_d101_0.2.1.2.2.1 (az_hc ak_k101 (5, 6, (0, 0, 0), szc_234) ak_d101_0) = true := by decide +kernel
set_option maxRecDepth 100000 in
theorem ak_v101 {X : List (List Value)} (hX : az_X X) : az_Valid X ak_k101 := az_validS sz_pkall_szP (q := (5, 6, (0, 0, 0), szc_234)) hX (tb := ak_t101) (List.forall_mem_cons.mpr ⟨ak_v83 hX, fun _ h => by cases h⟩) rfl (hds := ak_h101) (by decide +kernel) (List.forall_mem_cons.mpr ⟨by decide +kernel, fun _ h => by cases h⟩) (fun _ hV => ⟨_, hV, rfl, _, fun _ h => h, ak_e101⟩) (List.forall_mem_cons.mpr ⟨fun _ hV => ⟨_, hV, rfl, _, fun _ h => h, ak_e101_0⟩, fun _ h => by cases h⟩)
