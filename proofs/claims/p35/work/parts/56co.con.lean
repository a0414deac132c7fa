/-! contracts: written by wip/A/gen56.py -/
/-- Model.keepNow -/
def ak_k246 : azCon := (163, 0, ([], [], [], [(1, 145, [])], [], [], false), [(some none, [(0, (0, 0, []), (0, 0, [])), (0, (0, 0, []), (0, 0, [])), (0, (6, 0, []), (0, 0, [])), (0, (6, 0, []), (0, 0, [])), (0, (0, 0, []), (0, 0, [])), (0, (0, 0, []), (0, 0, [])), (0, (0, 0, []), (0, 0, []))], [(1, 4), (1, 3), (1, 4), (1, 4), (1, 10), (1, 4), (1, 3)], [], [(157, (73, []), (0, 0, [(0, 1)])), (157, (74, []), (0, 0, [(1, 1)])), (157, (75, []), (0, 0, [(2, 1)])), (157, (76, []), (0, 0, [(3, 1)])), (157, (79, []), (0, 0, [(4, 1)])), (157, (80, []), (0, 0, [(5, 1)])), (157, (81, []), (0, 0, [(6, 1)]))])], [(157, 0)], (0, 0))
def ak_t246 : List azCon := []
def ak_h246 : List azHd := []
theorem ak_e246 : az_ex szP az_inl ak_k246.2.1 ak_t246 ak_k246.2.2.2.2.1 (fun _ => az_pre 163 []) (az_hint ak_t246) (az_leaf ak_k246 ak_h246 none (az_hb 0) (az_rb 0)) 33160 ak_k246.2.2.1.1 ak_k246.2.2.1.2.1 ak_k246.2.2.1.2.2.1 (az_hc ak_k246 (2, 12, (0, 0, 0), szc_163) (0, ak_k246.2.2.1, (0, []), (0, 0))) = true := by decide +kernel
set_option maxRecDepth 100000 in
theorem ak_v246 {X : List (List Value)} (hX : az_X X) : az_Valid X ak_k246 := az_valid sz_pkall_szP (q := (2, 12, (0, 0, 0), szc_163)) hX (tb := ak_t246) (fun _ h => by cases h) rfl (hds := ak_h246) (by decide +kernel) (fun _ h => by cases h) ak_e246 (fun _ h => by cases h)
/-- Model.backNow -/
def ak_k247 : azCon := (164, 0, ([(0, (0, 0, []), (0, 0, [])), (0, (0, 0, []), (0, 0, [])), (0, (6, 0, []), (0, 0, [])), (0, (6, 0, []), (0, 0, [])), (0, (0, 0, []), (0, 0, [])), (0, (0, 0, []), (0, 0, [])), (0, (0, 0, []), (0, 0, []))], [(1, 4), (1, 3), (1, 4), (1, 4), (1, 10), (1, 4), (1, 3)], [], [(1, 145, [])], [(157, (73, []), (0, 0, [(0, 1)])), (157, (74, []), (0, 0, [(1, 1)])), (157, (75, []), (0, 0, [(2, 1)])), (157, (76, []), (0, 0, [(3, 1)])), (157, (79, []), (0, 0, [(4, 1)])), (157, (80, []), (0, 0, [(5, 1)])), (157, (81, []), (0, 0, [(6, 1)]))], [], false), [(some none, [(0, (0, 0, []), (0, 0, [])), (0, (0, 0, []), (0, 0, [])), (0, (6, 0, []), (0, 0, [])), (0, (6, 0, []), (0, 0, [])), (0, (0, 0, []), (0, 0, [])), (0, (0, 0, []), (0, 0, [])), (0, (0, 0, []), (0, 0, []))], [(1, 4), (1, 3), (1, 4), (1, 4), (1, 10), (1, 4), (1, 3)], [], [])], [(142, 0)], (0, 0))
def ak_t247 : List azCon := []
def ak_h247 : List azHd := []
theorem ak_e247 : az_ex szP az_inl ak_k247.2.1 ak_t247 ak_k247.2.2.2.2.1 (fun _ => az_pre 164 []) (az_hint ak_t247) (az_leaf ak_k247 ak_h247 none (az_hb 7) (az_rb 7)) 33160 ak_k247.2.2.1.1 ak_k247.2.2.1.2.1 ak_k247.2.2.1.2.2.1 (az_hc ak_k247 (2, 12, (0, 0, 0), szc_164) (0, ak_k247.2.2.1, (0, []), (0, 0))) = true := by decide +kernel
set_option maxRecDepth 100000 in
theorem ak_v247 {X : List (List Value)} (hX : az_X X) : az_Valid X ak_k247 := az_valid sz_pkall_szP (q := (2, 12, (0, 0, 0), szc_164)) hX (tb := ak_t247) (fun _ h => by cases h) rfl (hds := ak_h247) (by decide +kernel) (fun _ h => by cases h) ak_e247 (fun _ h => by cases h)
/-- Model.sumOfCells -/
def ak_k248 : azCon := (162, 0, ([], [], [], [(1, 145, [])], [], [], false), [(some (some (0, 0, [(0, 1)])), [(0, (0, 0, []), (0, 0, []))], [((-2147483648), 2147483647)], [], [])], [], (0, 0))
def ak_t248 : List azCon := []
def ak_d248_0 : azHd := (4, ([(0, (0, 0, []), (0, 0, [])), (0, (0, 0, []), (0, 0, []))], [((-2147483648), 2147483647), (0, 39)], [], [(1, 145, []), (0, 0, [(0, 1)]), (0, 0, [(1, 1)])], [], [], false), (79, [(1, (-2))]), (0, 0))
def ak_h248 : List azHd := [ak_d248_0]
theorem ak_e248 : az_ex szP az_inl ak_k248.2.1 ak_t248 ak_k248.2.2.2.2.1 (fun _ => az_pre 162 []) (az_hint ak_t248) (az_leaf ak_k248 ak_h248 none (az_hb 0) (az_rb 0)) 1600 ak_k248.2.2.1.1 ak_k248.2.2.1.2.1 ak_k248.2.2.1.2.2.1 (az_hc ak_k248 (3, 12, (0, 0, 0), szc_162) (0, ak_k248.2.2.1, (0, []), (0, 0))) = true := by decide +kernel
theorem ak_e248_0 : az_ex szP az_inl ak_k248.2.1 ak_t248 ak_k248.2.2.2.2.1 (fun _ => az_pre 162 []) (az_hint ak_t248) (az_leaf ak_k248 ak_h248 (some ak_d248_0.2.2.1) (az_hb 0) (az_rb 0)) 1600 ak_d248_0.2.1.1 ak_d248_0.2.1.2.1 ak_d248_0.2.1.2.2.1 (az_hc ak_k248 (3, 12, (0, 0, 0), szc_162) ak_d248_0) = true := by decide +kernel
set_option maxRecDepth 100000 in
theorem ak_v248 {X : List (List Value)} (hX : az_X X) : az_Valid X ak_k248 := az_valid sz_pkall_szP (q := (3, 12, (0, 0, 0), szc_162)) hX (tb := ak_t248) (fun _ h => by cases h) rfl (hds := ak_h248) (by decide +kernel) (List.forall_mem_cons.mpr ⟨by decide +kernel, fun _ h => by cases h⟩) ak_e248 (List.forall_mem_cons.mpr ⟨ak_e248_0, fun _ h => by cases h⟩)
/-- Model.plays -/
def ak_k249 : azCon := (165, 4, ([(0, (0, 0, []), (0, 0, []))], [((-2147483648), 2147483647)], [], [(1, 145, []), (0, 0, [(0, 1)])], [], [], false), [(some (some (0, 0, [(1, 1)])), [(0, (0, 0, []), (0, 0, [])), (0, (0, 0, []), (0, 0, []))], [((-2147483648), 2147483647), ((-2147483648), 2147483647)], [], [])], [(141, 5), (141, 6), (142, 0), (144, 0), (149, 0), (157, 0)], (0, 0))
def ak_t249 : List azCon := [ak_k185, ak_k187, ak_k246, ak_k247, ak_k248]
def ak_h249 : List azHd := []
theorem ak_e249 : az_ex szP az_inl ak_k249.2.1 ak_t249 ak_k249.2.2.2.2.1 (fun _ => az_pre 165 []) (az_hint ak_t249) (az_leaf ak_k249 ak_h249 none (az_hb 1) (az_rb 1)) 2260 ak_k249.2.2.1.1 ak_k249.2.2.1.2.1 ak_k249.2.2.1.2.2.1 (az_hc ak_k249 (3, 12, (0, 0, 0), szc_165) (0, ak_k249.2.2.1, (0, []), (0, 0))) = true := by decide +kernel
set_option maxRecDepth 100000 in
theorem ak_v249 {X : List (List Value)} (hX : az_X X) : az_Valid X ak_k249 := az_valid sz_pkall_szP (q := (3, 12, (0, 0, 0), szc_165)) hX (tb := ak_t249) (List.forall_mem_cons.mpr ⟨ak_v185 hX, List.forall_mem_cons.mpr ⟨ak_v187 hX, List.forall_mem_cons.mpr ⟨ak_v246 hX, List.forall_mem_cons.mpr ⟨ak_v247 hX, List.forall_mem_cons.mpr ⟨ak_v248 hX, fun _ h => by cases h⟩⟩⟩⟩⟩) rfl (hds := ak_h249) (by decide +kernel) (fun _ h => by cases h) ak_e249 (fun _ h => by cases h)
/-- Model.goDrawn -/
def ak_k250 : azCon := (175, 1, ([], [], [], [(1, 145, [])], [], [], false), [(some none, [], [], [], [])], [(141, 30), (142, 0)], (0, 0))
def ak_t250 : List azCon := []
def ak_h250 : List azHd := []
theorem ak_e250 : az_ex szP az_inl ak_k250.2.1 ak_t250 ak_k250.2.2.2.2.1 (fun _ => az_pre 175 []) (az_hint ak_t250) (az_leaf ak_k250 ak_h250 none (az_hb 0) (az_rb 0)) 6490 ak_k250.2.2.1.1 ak_k250.2.2.1.2.1 ak_k250.2.2.1.2.2.1 (az_hc ak_k250 (1, 12, (0, 0, 0), szc_175) (0, ak_k250.2.2.1, (0, []), (0, 0))) = true := by decide +kernel
set_option maxRecDepth 100000 in
theorem ak_v250 {X : List (List Value)} (hX : az_X X) : az_Valid X ak_k250 := az_valid sz_pkall_szP (q := (1, 12, (0, 0, 0), szc_175)) hX (tb := ak_t250) (fun _ h => by cases h) rfl (hds := ak_h250) (by decide +kernel) (fun _ h => by cases h) ak_e250 (fun _ h => by cases h)
