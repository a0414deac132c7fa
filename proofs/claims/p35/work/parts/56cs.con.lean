/-! contracts: written by wip/A/gen56.py -/
/-- Model.sortMany -/
def ak_k254 : azCon := (179, 1, ([(0, (0, 0, []), (0, 0, []))], [(1, 9)], [], [(1, 145, []), (0, 0, [(0, 1)])], [], [], false), [(some (some (0, 0, [(1, 1)])), [(0, (0, 0, []), (0, 0, [])), (0, (0, 0, []), (0, 0, []))], [(1, 9), ((-2147483648), 2147483647)], [], [])], [], (0, 0))
def ak_t254 : List azCon := []
def ak_d254_0 : azHd := (4, ([(0, (0, 0, []), (0, 0, [])), (0, (0, 0, []), (0, 0, [])), (0, (0, 0, []), (0, 0, []))], [(1, 9), ((-2147483648), 2147483647), (0, 10)], [], [(1, 145, []), (0, 0, [(0, 1)]), (0, 0, [(1, 1)]), (0, 0, [(2, 1)])], [], [], false), (21, [(2, (-2))]), (0, 0))
def ak_h254 : List azHd := [ak_d254_0]
theorem ak_e254 : az_ex szP az_inl ak_k254.2.1 ak_t254 ak_k254.2.2.2.2.1 (fun _ => az_pre 179 []) (az_hint ak_t254) (az_leaf ak_k254 ak_h254 none (az_hb 1) (az_rb 1)) 7720 ak_k254.2.2.1.1 ak_k254.2.2.1.2.1 ak_k254.2.2.1.2.2.1 (az_hc ak_k254 (4, 12, (0, 0, 0), szc_179) (0, ak_k254.2.2.1, (0, []), (0, 0))) = true := by decide +kernel
theorem ak_e254_0 : az_ex szP az_inl ak_k254.2.1 ak_t254 ak_k254.2.2.2.2.1 (fun _ => az_pre 179 []) (az_hint ak_t254) (az_leaf ak_k254 ak_h254 (some ak_d254_0.2.2.1) (az_hb 1) (az_rb 1)) 7720 ak_d254_0.2.1.1 ak_d254_0.2.1.2.1 ak_d254_0.2.1.2.2.1 (az_hc ak_k254 (4, 12, (0, 0, 0), szc_179) ak_d254_0) = true := by decide +kernel
set_option maxRecDepth 100000 in
theorem ak_v254 {X : List (List Value)} (hX : az_X X) : az_Valid X ak_k254 := az_valid sz_pkall_szP (q := (4, 12, (0, 0, 0), szc_179)) hX (tb := ak_t254) (fun _ h => by cases h) rfl (hds := ak_h254) (by decide +kernel) (List.forall_mem_cons.mpr ⟨by decide +kernel, fun _ h => by cases h⟩) ak_e254 (List.forall_mem_cons.mpr ⟨ak_e254_0, fun _ h => by cases h⟩)
/-- Model.count -/
def ak_k255 : azCon := (180, 3, ([(0, (0, 0, []), (0, 0, []))], [((-2147483648), 2147483647)], [], [(1, 145, []), (0, 0, [(0, 1)])], [], [], false), [(some (some (0, 0, [(1, 1)])), [(0, (0, 0, []), (0, 0, [])), (0, (0, 0, []), (0, 0, []))], [((-2147483648), 2147483647), ((-2147483648), 2147483647)], [], [])], [(141, 6)], (0, 0))
def ak_t255 : List azCon := [ak_k191, ak_k254]
def ak_h255 : List azHd := []
theorem ak_e255 : az_ex szP az_inl ak_k255.2.1 ak_t255 ak_k255.2.2.2.2.1 (fun _ => az_pre 180 []) (az_hint ak_t255) (az_leaf ak_k255 ak_h255 none (az_hb 1) (az_rb 1)) 3610 ak_k255.2.2.1.1 ak_k255.2.2.1.2.1 ak_k255.2.2.1.2.2.1 (az_hc ak_k255 (2, 12, (0, 0, 0), szc_180) (0, ak_k255.2.2.1, (0, []), (0, 0))) = true := by decide +kernel
set_option maxRecDepth 100000 in
theorem ak_v255 {X : List (List Value)} (hX : az_X X) : az_Valid X ak_k255 := az_valid sz_pkall_szP (q := (2, 12, (0, 0, 0), szc_180)) hX (tb := ak_t255) (List.forall_mem_cons.mpr ⟨ak_v191 hX, List.forall_mem_cons.mpr ⟨ak_v254 hX, fun _ h => by cases h⟩⟩) rfl (hds := ak_h255) (by decide +kernel) (fun _ h => by cases h) ak_e255 (fun _ h => by cases h)
/-- $Bounds.findRings -/
def ak_k256 : azCon := (198, 4, ([], [], [], [(1, 22, [])], [], [], false), [(some none, [], [], [], [])], [(18, 3), (28, 0), (29, 0), (30, 0), (31, 0)], (0, 0))
def ak_t256 : List azCon := [ak_k91]
def ak_d256_0 : azHd := (9, ([(0, (0, 0, []), (0, 0, []))], [(0, 60)], [], [(1, 22, [])], [(18, (2, []), (0, 0, [(0, 1)]))], [], false), (121, [(0, (-2))]), (0, 0))
def ak_h256 : List azHd := [ak_d256_0]
theorem ak_e256 : az_ex szP az_inl ak_k256.2.1 ak_t256 ak_k256.2.2.2.2.1 (fun _ => az_pre 198 [(9, 18, 2)]) (az_hint ak_t256) (az_leaf ak_k256 ak_h256 none (az_hb 0) (az_rb 0)) 1960 ak_k256.2.2.1.1 ak_k256.2.2.1.2.1 ak_k256.2.2.1.2.2.1 (az_hc ak_k256 (1, 2, (0, 0, 0), szc_198) (0, ak_k256.2.2.1, (0, []), (0, 0))) = true := by decide +kernel
theorem ak_e256_0 : az_ex szP az_inl ak_k256.2.1 ak_t256 ak_k256.2.2.2.2.1 (fun _ => az_pre 198 [(9, 18, 2)]) (az_hint ak_t256) (az_leaf ak_k256 ak_h256 (some ak_d256_0.2.2.1) (az_hb 0) (az_rb 0)) 1960 ak_d256_0.2.1.1 ak_d256_0.2.1.2.1 ak_d256_0.2.1.2.2.1 (az_hc ak_k256 (1, 2, (0, 0, 0), szc_198) ak_d256_0) = true := by decide +kernel
set_option maxRecDepth 100000 in
theorem ak_v256 {X : List (List Value)} (hX : az_X X) : az_Valid X ak_k256 := az_valid sz_pkall_szP (q := (1, 2, (0, 0, 0), szc_198)) hX (tb := ak_t256) (List.forall_mem_cons.mpr ⟨ak_v91 hX, fun _ h => by cases h⟩) rfl (hds := ak_h256) (by decide +kernel) (List.forall_mem_cons.mpr ⟨by decide +kernel, fun _ h => by cases h⟩) ak_e256 (List.forall_mem_cons.mpr ⟨ak_e256_0, fun _ h => by cases h⟩)
/-- $Bounds.renew -/
def ak_k257 : azCon := (190, 5, ([], [], [], [(1, 22, [])], [], [], false), [(some none, [], [], [], [])], [(18, 2), (18, 3), (18, 9), (19, 0), (20, 0), (21, 0), (22, 0), (23, 0), (24, 0), (25, 0), (26, 0), (27, 0), (28, 0), (29, 0), (30, 0), (31, 0)], (0, 0))
def ak_t257 : List azCon := [ak_k75, ak_k80, ak_k81, ak_k92, ak_k256]
def ak_d257_0 : azHd := (9, ([(0, (0, 0, []), (0, 0, []))], [(0, 10)], [], [(1, 22, []), (0, 0, [(0, 1)])], [], [], false), (263, [(0, (-2))]), (0, 0))
def ak_d257_1 : azHd := (27, ([(0, (0, 0, []), (0, 0, []))], [(0, 10)], [], [(1, 22, []), (0, 0, [(0, 1)]), (9, 0, [])], [], [], false), (241, [(0, (-22))]), (0, 0))
def ak_d257_2 : azHd := (50, ([(0, (0, 0, []), (0, 0, [])), (0, (0, 0, []), (0, 0, []))], [(0, 9), (0, 9)], [], [(1, 22, []), (0, 0, [(0, 1)]), (0, 0, [(1, 1)])], [], [], false), (239, [(0, (-22)), (1, (-2))]), (0, 0))
def ak_h257 : List azHd := [ak_d257_0, ak_d257_1, ak_d257_2]
theorem ak_e257 : az_ex szP az_inl ak_k257.2.1 ak_t257 ak_k257.2.2.2.2.1 (fun _ => az_pre 190 []) (az_hint ak_t257) (az_leaf ak_k257 ak_h257 none (az_hb 0) (az_rb 0)) 41860 ak_k257.2.2.1.1 ak_k257.2.2.1.2.1 ak_k257.2.2.1.2.2.1 (az_hc ak_k257 (3, 2, (0, 0, 0), szc_190) (0, ak_k257.2.2.1, (0, []), (0, 0))) = true := by decide +kernel
theorem ak_e257_0 : az_ex szP az_inl ak_k257.2.1 ak_t257 ak_k257.2.2.2.2.1 (fun _ => az_pre 190 []) (az_hint ak_t257) (az_leaf ak_k257 ak_h257 (some ak_d257_0.2.2.1) (az_hb 0) (az_rb 0)) 41860 ak_d257_0.2.1.1 ak_d257_0.2.1.2.1 ak_d257_0.2.1.2.2.1 (az_hc ak_k257 (3, 2, (0, 0, 0), szc_190) ak_d257_0) = true := by decide +kernel
theorem ak_e257_1 : az_ex szP az_inl ak_k257.2.1 ak_t257 ak_k257.2.2.2.2.1 (fun _ => az_pre 190 []) (az_hint ak_t257) (az_leaf ak_k257 ak_h257 (some ak_d257_1.2.2.1) (az_hb 0) (az_rb 0)) 41860 ak_d257_1.2.1.1 ak_d257_1.2.1.2.1 ak_d257_1.2.1.2.2.1 (az_hc ak_k257 (3, 2, (0, 0, 0), szc_190) ak_d257_1) = true := by decide +kernel
theorem ak_e257_2 : az_ex szP az_inl ak_k257.2.1 ak_t257 ak_k257.2.2.2.2.1 (fun _ => az_pre 190 []) (az_hint ak_t257) (az_leaf ak_k257 ak_h257 (some ak_d257_2.2.2.1) (az_hb 0) (az_rb 0)) 41860 ak_d257_2.2.1.1 ak_d257_2.2.1.2.1 ak_d257_2.2.1.2.2.1 (az_hc ak_k257 (3, 2, (0, 0, 0), szc_190) ak_d257_2) = true := by decide +kernel
set_option maxRecDepth 100000 in
theorem ak_v257 {X : List (List Value)} (hX : az_X X) : az_Valid X ak_k257 := az_valid sz_pkall_szP (q := (3, 2, (0, 0, 0), szc_190)) hX (tb := ak_t257) (List.forall_mem_cons.mpr ⟨ak_v75 hX, List.forall_mem_cons.mpr ⟨ak_v80 hX, List.forall_mem_cons.mpr ⟨ak_v81 hX, List.forall_mem_cons.mpr ⟨ak_v92 hX, List.forall_mem_cons.mpr ⟨ak_v256 hX, fun _ h => by cases h⟩⟩⟩⟩⟩) rfl (hds := ak_h257) (by decide +kernel) (List.forall_mem_cons.mpr ⟨by decide +kernel, List.forall_mem_cons.mpr ⟨by decide +kernel, List.forall_mem_cons.mpr ⟨by decide +kernel, fun _ h => by cases h⟩⟩⟩) ak_e257 (List.forall_mem_cons.mpr ⟨ak_e257_0, List.forall_mem_cons.mpr ⟨ak_e257_1, List.forall_mem_cons.mpr ⟨ak_e257_2, fun _ h => by cases h⟩⟩⟩)
/-- .least -/
def ak_k258 : azCon := (18, 6, ([], [], [], [(1, 4, [])], [], [], false), [(some (some (0, 0, [(0, 1)])), [(0, (0, 0, []), (0, 0, []))], [(0, 60)], [], [])], [(18, 2), (18, 3), (18, 9), (19, 0), (20, 0), (21, 0), (22, 0), (23, 0), (24, 0), (25, 0), (26, 0), (27, 0), (28, 0), (29, 0), (30, 0), (31, 0), (51, 2), (52, 0)], (0, 0))
def ak_t258 : List azCon := [ak_k93, ak_k94, ak_k257]
def ak_d258_0 : azHd := (15, ([(0, (0, 0, []), (0, 0, []))], [(0, 9)], [], [(1, 4, []), (0, 0, [(0, 1)])], [], [], false), (19, [(0, (-2))]), (0, 0))
def ak_h258 : List azHd := [ak_d258_0]
theorem ak_e258 : az_ex szP az_inl ak_k258.2.1 ak_t258 ak_k258.2.2.2.2.1 (fun _ => az_pre 18 []) (az_hint ak_t258) (az_leaf ak_k258 ak_h258 none (az_hb 0) (az_rb 0)) 3310 ak_k258.2.2.1.1 ak_k258.2.2.1.2.1 ak_k258.2.2.1.2.2.1 (az_hc ak_k258 (2, 11, (0, 0, 0), szc_18) (0, ak_k258.2.2.1, (0, []), (0, 0))) = true := by decide +kernel
theorem ak_e258_0 : az_ex szP az_inl ak_k258.2.1 ak_t258 ak_k258.2.2.2.2.1 (fun _ => az_pre 18 []) (az_hint ak_t258) (az_leaf ak_k258 ak_h258 (some ak_d258_0.2.2.1) (az_hb 0) (az_rb 0)) 3310 ak_d258_0.2.1.1 ak_d258_0.2.1.2.1 ak_d258_0.2.1.2.2.1 (az_hc ak_k258 (2, 11, (0, 0, 0), szc_18) ak_d258_0) = true := by decide +kernel
set_option maxRecDepth 100000 in
theorem ak_v258 {X : List (List Value)} (hX : az_X X) : az_Valid X ak_k258 := az_valid sz_pkall_szP (q := (2, 11, (0, 0, 0), szc_18)) hX (tb := ak_t258) (List.forall_mem_cons.mpr ⟨ak_v93 hX, List.forall_mem_cons.mpr ⟨ak_v94 hX, List.forall_mem_cons.mpr ⟨ak_v257 hX, fun _ h => by cases h⟩⟩⟩) rfl (hds := ak_h258) (by decide +kernel) (List.forall_mem_cons.mpr ⟨by decide +kernel, fun _ h => by cases h⟩) ak_e258 (List.forall_mem_cons.mpr ⟨ak_e258_0, fun _ h => by cases h⟩)
/-- .earliest -/
def ak_k259 : azCon := (19, 6, ([(0, (0, 0, []), (0, 0, []))], [((-2147483648), 2147483647)], [], [(1, 4, []), (0, 0, [(0, 1)])], [], [], false), [(some (some (0, 0, [(1, 1)])), [(0, (0, 0, []), (0, 0, [])), (0, (0, 0, []), (0, 0, []))], [((-2147483648), 2147483647), ((-214748364), 214748364)], [], [])], [(18, 2), (18, 3), (18, 9), (19, 0), (20, 0), (21, 0), (22, 0), (23, 0), (24, 0), (25, 0), (26, 0), (27, 0), (28, 0), (29, 0), (30, 0), (31, 0), (51, 2), (52, 0)], (0, 0))
def ak_t259 : List azCon := [ak_k87, ak_k91, ak_k95, ak_k257]
def ak_h259 : List azHd := []
theorem ak_e259 : az_ex szP az_inl ak_k259.2.1 ak_t259 ak_k259.2.2.2.2.1 (fun _ => az_pre 19 []) (az_hint ak_t259) (az_leaf ak_k259 ak_h259 none (az_hb 1) (az_rb 1)) 2350 ak_k259.2.2.1.1 ak_k259.2.2.1.2.1 ak_k259.2.2.1.2.2.1 (az_hc ak_k259 (2, 11, (0, 0, 0), szc_19) (0, ak_k259.2.2.1, (0, []), (0, 0))) = true := by decide +kernel
set_option maxRecDepth 100000 in
theorem ak_v259 {X : List (List Value)} (hX : az_X X) : az_Valid X ak_k259 := az_valid sz_pkall_szP (q := (2, 11, (0, 0, 0), szc_19)) hX (tb := ak_t259) (List.forall_mem_cons.mpr ⟨ak_v87 hX, List.forall_mem_cons.mpr ⟨ak_v91 hX, List.forall_mem_cons.mpr ⟨ak_v95 hX, List.forall_mem_cons.mpr ⟨ak_v257 hX, fun _ h => by cases h⟩⟩⟩⟩) rfl (hds := ak_h259) (by decide +kernel) (fun _ h => by cases h) ak_e259 (fun _ h => by cases h)
/-- .latest -/
def ak_k260 : azCon := (20, 6, ([(0, (0, 0, []), (0, 0, []))], [((-2147483648), 2147483647)], [], [(1, 4, []), (0, 0, [(0, 1)])], [], [], false), [(some (some (0, 0, [(1, 1)])), [(0, (0, 0, []), (0, 0, [])), (0, (0, 0, []), (0, 0, []))], [((-2147483648), 2147483647), ((-2147483648), 2147483647)], [], [])], [(18, 2), (18, 3), (18, 9), (19, 0), (20, 0), (21, 0), (22, 0), (23, 0), (24, 0), (25, 0), (26, 0), (27, 0), (28, 0), (29, 0), (30, 0), (31, 0), (51, 2), (52, 0)], (0, 0))
def ak_t260 : List azCon := [ak_k91, ak_k96, ak_k97, ak_k257]
def ak_h260 : List azHd := []
theorem ak_e260 : az_ex szP az_inl ak_k260.2.1 ak_t260 ak_k260.2.2.2.2.1 (fun _ => az_pre 20 []) (az_hint ak_t260) (az_leaf ak_k260 ak_h260 none (az_hb 1) (az_rb 1)) 2350 ak_k260.2.2.1.1 ak_k260.2.2.1.2.1 ak_k260.2.2.1.2.2.1 (az_hc ak_k260 (2, 11, (0, 0, 0), szc_20) (0, ak_k260.2.2.1, (0, []), (0, 0))) = true := by decide +kernel
set_option maxRecDepth 100000 in
theorem ak_v260 {X : List (List Value)} (hX : az_X X) : az_Valid X ak_k260 := az_valid sz_pkall_szP (q := (2, 11, (0, 0, 0), szc_20)) hX (tb := ak_t260) (List.forall_mem_cons.mpr ⟨ak_v91 hX, List.forall_mem_cons.mpr ⟨ak_v96 hX, List.forall_mem_cons.mpr ⟨ak_v97 hX, List.forall_mem_cons.mpr ⟨ak_v257 hX, fun _ h => by cases h⟩⟩⟩⟩) rfl (hds := ak_h260) (by decide +kernel) (fun _ h => by cases h) ak_e260 (fun _ h => by cases h)
/-- .knots -/
def ak_k261 : azCon := (21, 6, ([], [], [], [(1, 4, [])], [], [], false), [(some (some (0, 0, [(0, 1)])), [(0, (0, 0, []), (0, 0, []))], [(0, 2147483647)], [], [])], [(18, 2), (18, 3), (18, 9), (19, 0), (20, 0), (21, 0), (22, 0), (23, 0), (24, 0), (25, 0), (26, 0), (27, 0), (28, 0), (29, 0), (30, 0), (31, 0), (32, 0), (51, 2), (52, 0)], (0, 0))
def ak_t261 : List azCon := [ak_k99, ak_k257]
def ak_h261 : List azHd := []
theorem ak_e261 : az_ex szP az_inl ak_k261.2.1 ak_t261 ak_k261.2.2.2.2.1 (fun _ => az_pre 21 []) (az_hint ak_t261) (az_leaf ak_k261 ak_h261 none (az_hb 0) (az_rb 0)) 3490 ak_k261.2.2.1.1 ak_k261.2.2.1.2.1 ak_k261.2.2.1.2.2.1 (az_hc ak_k261 (2, 11, (0, 0, 0), szc_21) (0, ak_k261.2.2.1, (0, []), (0, 0))) = true := by decide +kernel
set_option maxRecDepth 100000 in
theorem ak_v261 {X : List (List Value)} (hX : az_X X) : az_Valid X ak_k261 := az_valid sz_pkall_szP (q := (2, 11, (0, 0, 0), szc_21)) hX (tb := ak_t261) (List.forall_mem_cons.mpr ⟨ak_v99 hX, List.forall_mem_cons.mpr ⟨ak_v257 hX, fun _ h => by cases h⟩⟩) rfl (hds := ak_h261) (by decide +kernel) (fun _ h => by cases h) ak_e261 (fun _ h => by cases h)
/-- .address -/
def ak_k262 : azCon := (22, 6, ([(0, (0, 0, []), (0, 0, []))], [((-2147483648), 2147483647)], [], [(1, 4, []), (0, 0, [(0, 1)])], [], [], false), [(some (some (0, 0, [(1, 1)])), [(0, (0, 0, []), (0, 0, [])), (0, (0, 0, []), (0, 0, []))], [((-2147483648), 2147483647), ((-1), 2)], [], [])], [(18, 2), (18, 3), (18, 9), (19, 0), (20, 0), (21, 0), (22, 0), (23, 0), (24, 0), (25, 0), (26, 0), (27, 0), (28, 0), (29, 0), (30, 0), (31, 0), (51, 2), (52, 0)], (0, 0))
def ak_t262 : List azCon := [ak_k257]
def ak_h262 : List azHd := []
theorem ak_e262 : az_ex szP az_inl ak_k262.2.1 ak_t262 ak_k262.2.2.2.2.1 (fun _ => az_pre 22 []) (az_hint ak_t262) (az_leaf ak_k262 ak_h262 none (az_hb 1) (az_rb 1)) 3400 ak_k262.2.2.1.1 ak_k262.2.2.1.2.1 ak_k262.2.2.1.2.2.1 (az_hc ak_k262 (2, 11, (0, 0, 0), szc_22) (0, ak_k262.2.2.1, (0, []), (0, 0))) = true := by decide +kernel
set_option maxRecDepth 100000 in
theorem ak_v262 {X : List (List Value)} (hX : az_X X) : az_Valid X ak_k262 := az_valid sz_pkall_szP (q := (2, 11, (0, 0, 0), szc_22)) hX (tb := ak_t262) (List.forall_mem_cons.mpr ⟨ak_v257 hX, fun _ h => by cases h⟩) rfl (hds := ak_h262) (by decide +kernel) (fun _ h => by cases h) ak_e262 (fun _ h => by cases h)
/-- .gapNow -/
def ak_k263 : azCon := (64, 6, ([], [], [], [(1, 4, [])], [], [], false), [(some (some (0, 0, [(0, 1)])), [(0, (0, 0, []), (0, 0, []))], [(0, 60)], [], [])], [(18, 2), (18, 3), (18, 9), (19, 0), (20, 0), (21, 0), (22, 0), (23, 0), (24, 0), (25, 0), (26, 0), (27, 0), (28, 0), (29, 0), (30, 0), (31, 0), (33, 3), (33, 4), (34, 0), (35, 0)], (0, 0))
def ak_t263 : List azCon := [ak_k108, ak_k257]
def ak_h263 : List azHd := []
theorem ak_e263 : az_ex szP az_inl ak_k263.2.1 ak_t263 ak_k263.2.2.2.2.1 (fun _ => az_pre 64 []) (az_hint ak_t263) (az_leaf ak_k263 ak_h263 none (az_hb 0) (az_rb 0)) 2350 ak_k263.2.2.1.1 ak_k263.2.2.1.2.1 ak_k263.2.2.1.2.2.1 (az_hc ak_k263 (1, 11, (0, 0, 0), szc_64) (0, ak_k263.2.2.1, (0, []), (0, 0))) = true := by decide +kernel
set_option maxRecDepth 100000 in
theorem ak_v263 {X : List (List Value)} (hX : az_X X) : az_Valid X ak_k263 := az_valid sz_pkall_szP (q := (1, 11, (0, 0, 0), szc_64)) hX (tb := ak_t263) (List.forall_mem_cons.mpr ⟨ak_v108 hX, List.forall_mem_cons.mpr ⟨ak_v257 hX, fun _ h => by cases h⟩⟩) rfl (hds := ak_h263) (by decide +kernel) (fun _ h => by cases h) ak_e263 (fun _ h => by cases h)
/-- .gap -/
def ak_k264 : azCon := (23, 7, ([], [], [], [(1, 4, [])], [], [], false), [(some (some (0, 0, [(0, 1)])), [(0, (0, 0, []), (0, 0, []))], [(0, 60)], [], [])], [(18, 2), (18, 3), (18, 9), (19, 0), (20, 0), (21, 0), (22, 0), (23, 0), (24, 0), (25, 0), (26, 0), (27, 0), (28, 0), (29, 0), (30, 0), (31, 0), (33, 3), (33, 4), (34, 0), (35, 0), (51, 2), (52, 0)], (0, 0))
def ak_t264 : List azCon := [ak_k109, ak_k263]
def ak_h264 : List azHd := []
theorem ak_e264 : az_ex szP az_inl ak_k264.2.1 ak_t264 ak_k264.2.2.2.2.1 (fun _ => az_pre 23 []) (az_hint ak_t264) (az_leaf ak_k264 ak_h264 none (az_hb 0) (az_rb 0)) 1210 ak_k264.2.2.1.1 ak_k264.2.2.1.2.1 ak_k264.2.2.1.2.2.1 (az_hc ak_k264 (2, 11, (0, 0, 0), szc_23) (0, ak_k264.2.2.1, (0, []), (0, 0))) = true := by decide +kernel
set_option maxRecDepth 100000 in
theorem ak_v264 {X : List (List Value)} (hX : az_X X) : az_Valid X ak_k264 := az_valid sz_pkall_szP (q := (2, 11, (0, 0, 0), szc_23)) hX (tb := ak_t264) (List.forall_mem_cons.mpr ⟨ak_v109 hX, List.forall_mem_cons.mpr ⟨ak_v263 hX, fun _ h => by cases h⟩⟩) rfl (hds := ak_h264) (by decide +kernel) (fun _ h => by cases h) ak_e264 (fun _ h => by cases h)
/-- .begins -/
def ak_k265 : azCon := (24, 7, ([(0, (0, 0, []), (0, 0, []))], [((-2147483648), 2147483647)], [], [(1, 4, []), (0, 0, [(0, 1)])], [], [], false), [(none, [(0, (0, 0, []), (0, 0, []))], [((-2147483648), 2147483647)], [], []), (some (some (0, 0, [(1, 1)])), [(0, (0, 0, []), (0, 0, [])), (0, (0, 0, []), (0, 0, []))], [(0, 9), ((-2147483648), 2147483647)], [(0, [(0, 1)]), (9, [(0, (-1))])], [])], [(18, 2), (18, 3), (18, 9), (19, 0), (20, 0), (21, 0), (22, 0), (23, 0), (24, 0), (25, 0), (26, 0), (27, 0), (28, 0), (29, 0), (30, 0), (31, 0), (33, 3), (33, 4), (34, 0), (35, 0)], (1, 6))
def ak_t265 : List azCon := [ak_k263]
def ak_h265 : List azHd := []
theorem ak_e265 : az_ex szP az_inl ak_k265.2.1 ak_t265 ak_k265.2.2.2.2.1 (fun _ => az_pre 24 []) (az_hint ak_t265) (az_leaf ak_k265 ak_h265 none (az_hb 1) (az_rb 1)) 1930 ak_k265.2.2.1.1 ak_k265.2.2.1.2.1 ak_k265.2.2.1.2.2.1 (az_hc ak_k265 (2, 11, (0, 0, 0), szc_24) (0, ak_k265.2.2.1, (0, []), (0, 0))) = true := by decide +kernel
set_option maxRecDepth 100000 in
theorem ak_v265 {X : List (List Value)} (hX : az_X X) : az_Valid X ak_k265 := az_valid sz_pkall_szP (q := (2, 11, (0, 0, 0), szc_24)) hX (tb := ak_t265) (List.forall_mem_cons.mpr ⟨ak_v263 hX, fun _ h => by cases h⟩) rfl (hds := ak_h265) (by decide +kernel) (fun _ h => by cases h) ak_e265 (fun _ h => by cases h)
/-- .why -/
def ak_k266 : azCon := (25, 7, ([], [], [], [(1, 4, [])], [], [], false), [(some (some (0, 0, [(0, 1)])), [(0, (0, 0, []), (0, 0, []))], [(0, 2147483647)], [], [])], [(18, 2), (18, 3), (18, 9), (19, 0), (20, 0), (21, 0), (22, 0), (23, 0), (24, 0), (25, 0), (26, 0), (27, 0), (28, 0), (29, 0), (30, 0), (31, 0), (33, 3), (33, 4), (34, 0), (35, 0), (51, 2), (52, 0)], (0, 0))
def ak_t266 : List azCon := [ak_k93, ak_k94, ak_k263]
def ak_d266_0 : azHd := (7, ([(0, (0, 0, []), (0, 0, [])), (0, (0, 0, []), (0, 0, [])), (0, (0, 0, []), (0, 0, []))], [(0, 60), (0, 2147483647), (0, 9)], [], [(1, 4, []), (0, 0, [(0, 1)]), (0, 0, [(1, 1)]), (0, 0, [(2, 1)])], [], [], false), (19, [(2, (-2))]), (0, 0))
def ak_h266 : List azHd := [ak_d266_0]
theorem ak_e266 : az_ex szP az_inl ak_k266.2.1 ak_t266 ak_k266.2.2.2.2.1 (fun _ => az_pre 25 []) (az_hint ak_t266) (az_leaf ak_k266 ak_h266 none (az_hb 0) (az_rb 0)) 5920 ak_k266.2.2.1.1 ak_k266.2.2.1.2.1 ak_k266.2.2.1.2.2.1 (az_hc ak_k266 (4, 11, (0, 0, 0), szc_25) (0, ak_k266.2.2.1, (0, []), (0, 0))) = true := by decide +kernel
theorem ak_e266_0 : az_ex szP az_inl ak_k266.2.1 ak_t266 ak_k266.2.2.2.2.1 (fun _ => az_pre 25 []) (az_hint ak_t266) (az_leaf ak_k266 ak_h266 (some ak_d266_0.2.2.1) (az_hb 0) (az_rb 0)) 5920 ak_d266_0.2.1.1 ak_d266_0.2.1.2.1 ak_d266_0.2.1.2.2.1 (az_hc ak_k266 (4, 11, (0, 0, 0), szc_25) ak_d266_0) = true := by decide +kernel
set_option maxRecDepth 100000 in
theorem ak_v266 {X : List (List Value)} (hX : az_X X) : az_Valid X ak_k266 := az_valid sz_pkall_szP (q := (4, 11, (0, 0, 0), szc_25)) hX (tb := ak_t266) (List.forall_mem_cons.mpr ⟨ak_v93 hX, List.forall_mem_cons.mpr ⟨ak_v94 hX, List.forall_mem_cons.mpr ⟨ak_v263 hX, fun _ h => by cases h⟩⟩⟩) rfl (hds := ak_h266) (by decide +kernel) (List.forall_mem_cons.mpr ⟨by decide +kernel, fun _ h => by cases h⟩) ak_e266 (List.forall_mem_cons.mpr ⟨ak_e266_0, fun _ h => by cases h⟩)
/-- .plan -/
def ak_k267 : azCon := (26, 6, ([(0, (0, 0, []), (0, 0, []))], [((-2147483648), 2147483647)], [], [(1, 4, []), (0, 0, [(0, 1)])], [], [], false), [(some (some (0, 0, [(1, 1)])), [(0, (0, 0, []), (0, 0, [])), (0, (0, 0, []), (0, 0, []))], [((-2147483648), 2147483647), ((-1), 1)], [], [])], [(18, 2), (18, 3), (18, 9), (19, 0), (20, 0), (21, 0), (22, 0), (23, 0), (24, 0), (25, 0), (26, 0), (27, 0), (28, 0), (29, 0), (30, 0), (31, 0), (33, 3), (34, 0), (35, 0), (51, 2), (52, 0)], (0, 0))
def ak_t267 : List azCon := [ak_k107, ak_k109, ak_k257]
def ak_h267 : List azHd := []
theorem ak_e267 : az_ex szP az_inl ak_k267.2.1 ak_t267 ak_k267.2.2.2.2.1 (fun _ => az_pre 26 []) (az_hint ak_t267) (az_leaf ak_k267 ak_h267 none (az_hb 1) (az_rb 1)) 2290 ak_k267.2.2.1.1 ak_k267.2.2.1.2.1 ak_k267.2.2.1.2.2.1 (az_hc ak_k267 (2, 11, (0, 0, 0), szc_26) (0, ak_k267.2.2.1, (0, []), (0, 0))) = true := by decide +kernel
set_option maxRecDepth 100000 in
theorem ak_v267 {X : List (List Value)} (hX : az_X X) : az_Valid X ak_k267 := az_valid sz_pkall_szP (q := (2, 11, (0, 0, 0), szc_26)) hX (tb := ak_t267) (List.forall_mem_cons.mpr ⟨ak_v107 hX, List.forall_mem_cons.mpr ⟨ak_v109 hX, List.forall_mem_cons.mpr ⟨ak_v257 hX, fun _ h => by cases h⟩⟩⟩) rfl (hds := ak_h267) (by decide +kernel) (fun _ h => by cases h) ak_e267 (fun _ h => by cases h)
/-- .length -/
def ak_k268 : azCon := (27, 7, ([], [], [], [(1, 4, [])], [], [], false), [(some (some (0, 0, [(0, 1)])), [(0, (0, 0, []), (0, 0, []))], [((-214748364), 214748364)], [], [])], [(18, 2), (18, 3), (18, 9), (19, 0), (20, 0), (21, 0), (22, 0), (23, 0), (24, 0), (25, 0), (26, 0), (27, 0), (28, 0), (29, 0), (30, 0), (31, 0), (33, 3), (33, 4), (34, 0), (35, 0), (51, 2), (52, 0)], (0, 0))
def ak_t268 : List azCon := [ak_k110, ak_k263]
def ak_h268 : List azHd := []
theorem ak_e268 : az_ex szP az_inl ak_k268.2.1 ak_t268 ak_k268.2.2.2.2.1 (fun _ => az_pre 27 []) (az_hint ak_t268) (az_leaf ak_k268 ak_h268 none (az_hb 0) (az_rb 0)) 3370 ak_k268.2.2.1.1 ak_k268.2.2.1.2.1 ak_k268.2.2.1.2.2.1 (az_hc ak_k268 (3, 11, (0, 0, 0), szc_27) (0, ak_k268.2.2.1, (0, []), (0, 0))) = true := by decide +kernel
set_option maxRecDepth 100000 in
theorem ak_v268 {X : List (List Value)} (hX : az_X X) : az_Valid X ak_k268 := az_valid sz_pkall_szP (q := (3, 11, (0, 0, 0), szc_27)) hX (tb := ak_t268) (List.forall_mem_cons.mpr ⟨ak_v110 hX, List.forall_mem_cons.mpr ⟨ak_v263 hX, fun _ h => by cases h⟩⟩) rfl (hds := ak_h268) (by decide +kernel) (fun _ h => by cases h) ak_e268 (fun _ h => by cases h)
/-- .state -/
def ak_k269 : azCon := (28, 7, ([(0, (0, 0, []), (0, 0, []))], [((-2147483648), 2147483647)], [], [(1, 4, []), (0, 0, [(0, 1)])], [], [], false), [(some (some (0, 0, [(1, 1)])), [(0, (0, 0, []), (0, 0, [])), (0, (0, 0, []), (0, 0, []))], [((-2147483648), 2147483647), ((-1), 2147483647)], [], [])], [(18, 2), (18, 3), (18, 9), (19, 0), (20, 0), (21, 0), (22, 0), (23, 0), (24, 0), (25, 0), (26, 0), (27, 0), (28, 0), (29, 0), (30, 0), (31, 0), (33, 3), (33, 4), (34, 0), (35, 0)], (0, 0))
def ak_t269 : List azCon := [ak_k263]
def ak_d269_0 : azHd := (14, ([(0, (0, 0, []), (0, 0, [])), (0, (0, 0, []), (0, 0, [])), (0, (0, 0, []), (0, 0, [])), (0, (0, 0, []), (0, 0, []))], [(0, 59), (1, 60), (0, 2147483647), (0, 10)], [], [(1, 4, []), (0, 0, [(0, 1)]), (0, 0, [(1, 1)]), (0, 0, [(2, 1)]), (0, 0, [(3, 1)])], [], [], false), (21, [(3, (-2))]), (0, 0))
def ak_h269 : List azHd := [ak_d269_0]
theorem ak_e269 : az_ex szP az_inl ak_k269.2.1 ak_t269 ak_k269.2.2.2.2.1 (fun _ => az_pre 28 []) (az_hint ak_t269) (az_leaf ak_k269 ak_h269 none (az_hb 1) (az_rb 1)) 5980 ak_k269.2.2.1.1 ak_k269.2.2.1.2.1 ak_k269.2.2.1.2.2.1 (az_hc ak_k269 (5, 11, (0, 0, 0), szc_28) (0, ak_k269.2.2.1, (0, []), (0, 0))) = true := by decide +kernel
theorem ak_e269_0 : az_ex szP az_inl ak_k269.2.1 ak_t269 ak_k269.2.2.2.2.1 (fun _ => az_pre 28 []) (az_hint ak_t269) (az_leaf ak_k269 ak_h269 (some ak_d269_0.2.2.1) (az_hb 1) (az_rb 1)) 5980 ak_d269_0.2.1.1 ak_d269_0.2.1.2.1 ak_d269_0.2.1.2.2.1 (az_hc ak_k269 (5, 11, (0, 0, 0), szc_28) ak_d269_0) = true := by decide +kernel
set_option maxRecDepth 100000 in
theorem ak_v269 {X : List (List Value)} (hX : az_X X) : az_Valid X ak_k269 := az_valid sz_pkall_szP (q := (5, 11, (0, 0, 0), szc_28)) hX (tb := ak_t269) (List.forall_mem_cons.mpr ⟨ak_v263 hX, fun _ h => by cases h⟩) rfl (hds := ak_h269) (by decide +kernel) (List.forall_mem_cons.mpr ⟨by decide +kernel, fun _ h => by cases h⟩) ak_e269 (List.forall_mem_cons.mpr ⟨ak_e269_0, fun _ h => by cases h⟩)
/-- .tick -/
def ak_k270 : azCon := (29, 7, ([(0, (0, 0, []), (0, 0, [])), (0, (0, 0, []), (0, 0, []))], [((-2147483648), 2147483647), ((-2147483648), 2147483647)], [], [(1, 4, []), (0, 0, [(0, 1)]), (0, 0, [(1, 1)])], [], [], false), [(some (some (0, 0, [(2, 1)])), [(0, (0, 0, []), (0, 0, [])), (0, (0, 0, []), (0, 0, [])), (0, (0, 0, []), (0, 0, []))], [((-2147483648), 2147483647), ((-2147483648), 2147483647), ((-1), 2147483647)], [], [])], [(18, 2), (18, 3), (18, 9), (19, 0), (20, 0), (21, 0), (22, 0), (23, 0), (24, 0), (25, 0), (26, 0), (27, 0), (28, 0), (29, 0), (30, 0), (31, 0), (33, 3), (33, 4), (34, 0), (35, 0), (51, 2), (52, 0)], (0, 0))
def ak_t270 : List azCon := [ak_k111, ak_k263]
def ak_d270_0 : azHd := (17, ([(0, (0, 0, []), (0, 0, [])), (0, (0, 0, []), (0, 0, [])), (0, (0, 0, []), (0, 0, [])), (0, (0, 0, []), (0, 0, []))], [(0, 2147483647), (0, 40), (0, 2147483647), (0, 10)], [], [(1, 4, []), (0, 0, [(0, 1)]), (0, 0, [(1, 1)]), (0, 0, [(2, 1)]), (0, 0, [(3, 1)]), (9, 0, [])], [], [], false), (21, [(3, (-2))]), (0, 0))
def ak_h270 : List azHd := [ak_d270_0]
theorem ak_e270 : az_ex szP az_inl ak_k270.2.1 ak_t270 ak_k270.2.2.2.2.1 (fun _ => az_pre 29 []) (az_hint ak_t270) (az_leaf ak_k270 ak_h270 none (az_hb 2) (az_rb 2)) 6880 ak_k270.2.2.1.1 ak_k270.2.2.1.2.1 ak_k270.2.2.1.2.2.1 (az_hc ak_k270 (6, 11, (0, 0, 0), szc_29) (0, ak_k270.2.2.1, (0, []), (0, 0))) = true := by decide +kernel
theorem ak_e270_0 : az_ex szP az_inl ak_k270.2.1 ak_t270 ak_k270.2.2.2.2.1 (fun _ => az_pre 29 []) (az_hint ak_t270) (az_leaf ak_k270 ak_h270 (some ak_d270_0.2.2.1) (az_hb 2) (az_rb 2)) 6880 ak_d270_0.2.1.1 ak_d270_0.2.1.2.1 ak_d270_0.2.1.2.2.1 (az_hc ak_k270 (6, 11, (0, 0, 0), szc_29) ak_d270_0) = true := by decide +kernel
set_option maxRecDepth 100000 in
theorem ak_v270 {X : List (List Value)} (hX : az_X X) : az_Valid X ak_k270 := az_valid sz_pkall_szP (q := (6, 11, (0, 0, 0), szc_29)) hX (tb := ak_t270) (List.forall_mem_cons.mpr ⟨ak_v111 hX, List.forall_mem_cons.mpr ⟨ak_v263 hX, fun _ h => by cases h⟩⟩) rfl (hds := ak_h270) (by decide +kernel) (List.forall_mem_cons.mpr ⟨by decide +kernel, fun _ h => by cases h⟩) ak_e270 (List.forall_mem_cons.mpr ⟨ak_e270_0, fun _ h => by cases h⟩)
/-- .registers -/
def ak_k271 : azCon := (30, 7, ([], [], [], [(1, 4, [])], [], [], false), [(some (some (0, 0, [(0, 1)])), [(0, (0, 0, []), (0, 0, []))], [(0, 2147483647)], [], [])], [(18, 2), (18, 3), (18, 9), (19, 0), (20, 0), (21, 0), (22, 0), (23, 0), (24, 0), (25, 0), (26, 0), (27, 0), (28, 0), (29, 0), (30, 0), (31, 0), (33, 3), (33, 4), (34, 0), (35, 0), (51, 2), (52, 0)], (0, 0))
def ak_t271 : List azCon := [ak_k115, ak_k263]
def ak_d271_0 : azHd := (9, ([(0, (0, 0, []), (0, 0, [])), (0, (0, 0, []), (0, 0, [])), (0, (0, 0, []), (0, 0, [])), (0, (0, 0, []), (0, 0, []))], [(0, 60), ((-1), 2147483647), (0, 60), (0, 60)], [], [(1, 4, []), (0, 0, [(0, 1)]), (0, 0, [(1, 1)]), (0, 0, [(2, 1)]), (0, 0, [(3, 1)]), (9, 0, [])], [], [], false), (121, [(3, (-2))]), (0, 0))
def ak_h271 : List azHd := [ak_d271_0]
theorem ak_e271 : az_ex szP az_inl ak_k271.2.1 ak_t271 ak_k271.2.2.2.2.1 (fun _ => az_pre 30 []) (az_hint ak_t271) (az_leaf ak_k271 ak_h271 none (az_hb 0) (az_rb 0)) 2980 ak_k271.2.2.1.1 ak_k271.2.2.1.2.1 ak_k271.2.2.1.2.2.1 (az_hc ak_k271 (6, 11, (0, 0, 0), szc_30) (0, ak_k271.2.2.1, (0, []), (0, 0))) = true := by decide +kernel
theorem ak_e271_0 : az_ex szP az_inl ak_k271.2.1 ak_t271 ak_k271.2.2.2.2.1 (fun _ => az_pre 30 []) (az_hint ak_t271) (az_leaf ak_k271 ak_h271 (some ak_d271_0.2.2.1) (az_hb 0) (az_rb 0)) 2980 ak_d271_0.2.1.1 ak_d271_0.2.1.2.1 ak_d271_0.2.1.2.2.1 (az_hc ak_k271 (6, 11, (0, 0, 0), szc_30) ak_d271_0) = true := by decide +kernel
set_option maxRecDepth 100000 in
theorem ak_v271 {X : List (List Value)} (hX : az_X X) : az_Valid X ak_k271 := az_valid sz_pkall_szP (q := (6, 11, (0, 0, 0), szc_30)) hX (tb := ak_t271) (List.forall_mem_cons.mpr ⟨ak_v115 hX, List.forall_mem_cons.mpr ⟨ak_v263 hX, fun _ h => by cases h⟩⟩) rfl (hds := ak_h271) (by decide +kernel) (List.forall_mem_cons.mpr ⟨by decide +kernel, fun _ h => by cases h⟩) ak_e271 (List.forall_mem_cons.mpr ⟨ak_e271_0, fun _ h => by cases h⟩)
/-- .binds -/
def ak_k272 : azCon := (31, 22, ([(0, (0, 0, []), (0, 0, []))], [((-2147483648), 2147483647)], [], [(1, 4, []), (0, 0, [(0, 1)])], [], [], false), [(some (some (0, 0, [(1, 1)])), [(0, (0, 0, []), (0, 0, [])), (0, (0, 0, []), (0, 0, []))], [((-2147483648), 2147483647), ((-1), 21)], [], [])], [(18, 2), (18, 3), (18, 9), (19, 0), (20, 0), (21, 0), (22, 0), (23, 0), (24, 0), (25, 0), (26, 0), (27, 0), (28, 0), (29, 0), (30, 0), (31, 0), (33, 3), (33, 4), (34, 0), (35, 0), (42, 3), (42, 5), (42, 6), (43, 0), (44, 0), (45, 0), (46, 0), (47, 0), (48, 0), (49, 0), (50, 0), (51, 2), (52, 0)], (0, 0))
def ak_t272 : List azCon := [ak_k137, ak_k138, ak_k263]
def ak_d272_0 : azHd := (20, ([(0, (0, 0, []), (0, 0, [])), (0, (0, 0, []), (0, 0, [])), (0, (0, 0, []), (0, 0, []))], [(0, 1), (0, 21), (0, 10)], [], [(1, 4, []), (0, 0, [(0, 1)]), (0, 0, [(1, 1)]), (0, 0, [(2, 1)])], [], [], false), (21, [(2, (-2))]), (0, 0))
def ak_h272 : List azHd := [ak_d272_0]
theorem ak_e272 : az_ex szP az_inl ak_k272.2.1 ak_t272 ak_k272.2.2.2.2.1 (fun _ => az_pre 31 []) (az_hint ak_t272) (az_leaf ak_k272 ak_h272 none (az_hb 1) (az_rb 1)) 3580 ak_k272.2.2.1.1 ak_k272.2.2.1.2.1 ak_k272.2.2.1.2.2.1 (az_hc ak_k272 (4, 11, (0, 0, 0), szc_31) (0, ak_k272.2.2.1, (0, []), (0, 0))) = true := by decide +kernel
theorem ak_e272_0 : az_ex szP az_inl ak_k272.2.1 ak_t272 ak_k272.2.2.2.2.1 (fun _ => az_pre 31 []) (az_hint ak_t272) (az_leaf ak_k272 ak_h272 (some ak_d272_0.2.2.1) (az_hb 1) (az_rb 1)) 3580 ak_d272_0.2.1.1 ak_d272_0.2.1.2.1 ak_d272_0.2.1.2.2.1 (az_hc ak_k272 (4, 11, (0, 0, 0), szc_31) ak_d272_0) = true := by decide +kernel
set_option maxRecDepth 100000 in
theorem ak_v272 {X : List (List Value)} (hX : az_X X) : az_Valid X ak_k272 := az_valid sz_pkall_szP (q := (4, 11, (0, 0, 0), szc_31)) hX (tb := ak_t272) (List.forall_mem_cons.mpr ⟨ak_v137 hX, List.forall_mem_cons.mpr ⟨ak_v138 hX, List.forall_mem_cons.mpr ⟨ak_v263 hX, fun _ h => by cases h⟩⟩⟩) rfl (hds := ak_h272) (by decide +kernel) (List.forall_mem_cons.mpr ⟨by decide +kernel, fun _ h => by cases h⟩) ak_e272 (List.forall_mem_cons.mpr ⟨ak_e272_0, fun _ h => by cases h⟩)
