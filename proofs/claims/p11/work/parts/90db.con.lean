/-! contracts: written by wip/A/gen56.py -/
/-- Model.cell -/
def ak_k179 : azCon := (100, 2, ([(0, (0, 0, []), (0, 0, [])), (0, (0, 0, []), (0, 0, []))], [((-2147483648), 2147483647), ((-2147483648), 2147483647)], [], [(1, 145, []), (0, 0, [(0, 1)]), (0, 0, [(1, 1)])], [], [], false), [(some (some (0, 0, [(2, 1)])), [(0, (0, 0, []), (0, 0, [])), (0, (0, 0, []), (0, 0, [])), (0, (0, 0, []), (0, 0, []))], [((-2147483648), 2147483647), ((-2147483648), 2147483647), ((-2147483648), 2147483647)], [], [])], [(141, 6)], (0, 0))
def ak_t179 : List azCon := []
def ak_h179 : List azHd := []
theorem ak_e179 : az_ex szP az_inl ak_k179.2.1 ak_t179 ak_k179.2.2.2.2.1 (fun _ => az_pre 100 []) (az_hint ak_t179) (az_leaf ak_k179 ak_h179 none (az_hb 2) (az_rb 2)) 3760 ak_k179.2.2.1.1 ak_k179.2.2.1.2.1 ak_k179.2.2.1.2.2.1 (az_hc ak_k179 (3, 12, (0, 0, 0), szc_100) (0, ak_k179.2.2.1, (0, []), (0, 0))) = true := by decide +kernel
set_option maxRecDepth 100000 in
theorem ak_v179 {X : List (List Value)} (hX : az_X X) : az_Valid X ak_k179 := az_validS sz_pkall_szP (q := (3, 12, (0, 0, 0), szc_100)) hX (tb := ak_t179) (fun _ h => by cases h) rfl (hds := ak_h179) (by decide +kernel) (fun _ h => by cases h) (fun _ hV => ⟨_, hV, rfl, _, fun _ h => h, ak_e179⟩) (fun _ h => by cases h)
/-- Model.act -/
def ak_k180 : azCon := (101, 2, ([(0, (0, 0, []), (0, 0, [])), (0, (0, 0, []), (0, 0, []))], [((-2147483648), 2147483647), ((-2147483648), 2147483647)], [], [(1, 145, []), (0, 0, [(0, 1)]), (0, 0, [(1, 1)])], [], [], false), [(some (some (0, 0, [(2, 1)])), [(0, (0, 0, []), (0, 0, [])), (0, (0, 0, []), (0, 0, [])), (0, (0, 0, []), (0, 0, []))], [((-2147483648), 2147483647), ((-2147483648), 2147483647), ((-1), 80)], [], [])], [(141, 6)], (0, 0))
def ak_t180 : List azCon := []
def ak_h180 : List azHd := []
theorem ak_e180 : az_ex szP az_inl ak_k180.2.1 ak_t180 ak_k180.2.2.2.2.1 (fun _ => az_pre 101 []) (az_hint ak_t180) (az_leaf ak_k180 ak_h180 none (az_hb 2) (az_rb 2)) 7780 ak_k180.2.2.1.1 ak_k180.2.2.1.2.1 ak_k180.2.2.1.2.2.1 (az_hc ak_k180 (3, 12, (0, 0, 0), szc_101) (0, ak_k180.2.2.1, (0, []), (0, 0))) = true := by decide +kernel
set_option maxRecDepth 100000 in
theorem ak_v180 {X : List (List Value)} (hX : az_X X) : az_Valid X ak_k180 := az_validS sz_pkall_szP (q := (3, 12, (0, 0, 0), szc_101)) hX (tb := ak_t180) (fun _ h => by cases h) rfl (hds := ak_h180) (by decide +kernel) (fun _ h => by cases h) (fun _ hV => ⟨_, hV, rfl, _, fun _ h => h, ak_e180⟩) (fun _ h => by cases h)
/-- Model.sheet -/
def ak_k181 : azCon := (102, 1, ([(0, (0, 0, []), (0, 0, [])), (0, (0, 0, []), (0, 0, [])), (0, (0, 0, []), (0, 0, [])), (0, (0, 0, []), (0, 0, []))], [((-2147483648), 2147483647), ((-2147483648), 2147483647), ((-2147483648), 2147483647), ((-2147483648), 2147483647)], [], [(1, 145, []), (0, 0, [(0, 1)]), (0, 0, [(1, 1)]), (0, 0, [(2, 1)]), (0, 0, [(3, 1)])], [], [], false), [(some (some (0, 0, [(4, 1)])), [(0, (0, 0, []), (0, 0, [])), (0, (0, 0, []), (0, 0, [])), (0, (0, 0, []), (0, 0, [])), (0, (0, 0, []), (0, 0, [])), (0, (0, 0, []), (0, 0, []))], [((-2147483648), 2147483647), ((-2147483648), 2147483647), ((-2147483648), 2147483647), ((-2147483648), 2147483647), ((-2147483648), 2147483647)], [], [])], [(141, 6), (142, 0)], (0, 0))
def ak_t181 : List azCon := []
def ak_d181_0 : azHd := (26, ([(0, (0, 0, []), (0, 0, [])), (0, (0, 0, []), (0, 0, [])), (0, (0, 0, []), (0, 0, [])), (0, (0, 0, []), (0, 0, [])), (0, (0, 0, []), (0, 0, [])), (0, (0, 0, []), (0, 0, [])), (0, (0, 0, []), (0, 0, []))], [(0, 3), ((-2147483648), 16), ((-2147483648), 2147483647), ((-2147483648), 2147483647), ((-2147483648), 2147483647), ((-2147483648), 2147483647), (0, 16)], [], [(1, 145, []), (0, 0, [(0, 1)]), (0, 0, [(1, 1)]), (0, 0, [(2, 1)]), (0, 0, [(3, 1)]), (0, 0, [(4, 1)]), (0, 0, [(5, 1)]), (0, 0, [(6, 1)]), (9, 0, [])], [], [], false), (33, [(6, (-2))]), (0, 0))
def ak_h181 : List azHd := [ak_d181_0]
theorem ak_e181 : az_ex szP az_inl ak_k181.2.1 ak_t181 ak_k181.2.2.2.2.1 (fun _ => az_pre 102 []) (az_hint ak_t181) (az_leaf ak_k181 ak_h181 none (az_hb 4) (az_rb 4)) 10180 ak_k181.2.2.1.1 ak_k181.2.2.1.2.1 ak_k181.2.2.1.2.2.1 (az_hc ak_k181 (9, 12, (0, 0, 0), szc_102) (0, ak_k181.2.2.1, (0, []), (0, 0))) = true := by decide +kernel
theorem ak_e181_0 : az_ex szP az_inl ak_k181.2.1 ak_t181 ak_k181.2.2.2.2.1 (fun _ => az_pre 102 []) (az_hint ak_t181) (az_leaf ak_k181 ak_h181 (some ak_d181_0.2.2.1) (az_hb 4) (az_rb 4)) 10180 ak_d181_0.2.1.1 ak_d181_0.2.1.2.1 ak_d181_0.2.1.2.2.1 (az_hc ak_k181 (9, 12, (0, 0, 0), szc_102) ak_d181_0) = true := by decide +kernel
set_option maxRecDepth 100000 in
theorem ak_v181 {X : List (List Value)} (hX : az_X X) : az_Valid X ak_k181 := az_validS sz_pkall_szP (q := (9, 12, (0, 0, 0), szc_102)) hX (tb := ak_t181) (fun _ h => by cases h) rfl (hds := ak_h181) (by decide +kernel) (List.forall_mem_cons.mpr ⟨by decide +kernel, fun _ h => by cases h⟩) (fun _ hV => ⟨_, hV, rfl, _, fun _ h => h, ak_e181⟩) (List.forall_mem_cons.mpr ⟨fun _ hV => ⟨_, hV, rfl, _, fun _ h => h, ak_e181_0⟩, fun _ h => by cases h⟩)
/-- Model.sets -/
def ak_k182 : azCon := (106, 2, ([(0, (0, 0, []), (0, 0, [])), (0, (0, 0, []), (0, 0, []))], [((-2147483648), 2147483647), ((-2147483648), 2147483647)], [], [(1, 145, []), (0, 0, [(0, 1)]), (0, 0, [(1, 1)])], [], [], false), [(some (some (0, 0, [(2, 1)])), [(0, (0, 0, []), (0, 0, [])), (0, (0, 0, []), (0, 0, [])), (0, (0, 0, []), (0, 0, []))], [((-2147483648), 2147483647), ((-2147483648), 2147483647), ((-2), 10)], [], [])], [(141, 14), (141, 6), (142, 0), (147, 0), (148, 0)], (0, 0))
def ak_t182 : List azCon := [ak_k175]
def ak_h182 : List azHd := []
theorem ak_e182 : az_ex szP az_inl ak_k182.2.1 ak_t182 ak_k182.2.2.2.2.1 (fun _ => az_pre 106 []) (az_hint ak_t182) (az_leaf ak_k182 ak_h182 none (az_hb 2) (az_rb 2)) 33010 ak_k182.2.2.1.1 ak_k182.2.2.1.2.1 ak_k182.2.2.1.2.2.1 (az_hc ak_k182 (5, 12, (0, 0, 0), szc_106) (0, ak_k182.2.2.1, (0, []), (0, 0))) = true := by decide +kernel
set_option maxRecDepth 100000 in
theorem ak_v182 {X : List (List Value)} (hX : az_X X) : az_Valid X ak_k182 := az_validS sz_pkall_szP (q := (5, 12, (0, 0, 0), szc_106)) hX (tb := ak_t182) (List.forall_mem_cons.mpr ⟨ak_v175 hX, fun _ h => by cases h⟩) rfl (hds := ak_h182) (by decide +kernel) (fun _ h => by cases h) (fun _ hV => ⟨_, hV, rfl, _, fun _ h => h, ak_e182⟩) (fun _ h => by cases h)
/-- Model.writes -/
def ak_k183 : azCon := (108, 3, ([(0, (0, 0, []), (0, 0, [])), (0, (0, 0, []), (0, 0, [])), (0, (0, 0, []), (0, 0, []))], [((-2147483648), 2147483647), ((-2147483648), 2147483647), ((-2147483648), 2147483647)], [], [(1, 145, []), (0, 0, [(0, 1)]), (0, 0, [(1, 1)]), (0, 0, [(2, 1)])], [], [], false), [(some (some (0, 0, [(3, 1)])), [(0, (0, 0, []), (0, 0, [])), (0, (0, 0, []), (0, 0, [])), (0, (0, 0, []), (0, 0, [])), (0, (0, 0, []), (0, 0, []))], [((-2147483648), 2147483647), ((-2147483648), 2147483647), ((-2147483648), 2147483647), ((-2), 1)], [], [])], [(141, 14), (141, 6), (142, 0), (147, 0), (148, 0)], (0, 0))
def ak_t183 : List azCon := [ak_k175]
def ak_h183 : List azHd := []
theorem ak_e183 : az_ex szP az_inl ak_k183.2.1 ak_t183 ak_k183.2.2.2.2.1 (fun _ => az_pre 108 []) (az_hint ak_t183) (az_leaf ak_k183 ak_h183 none (az_hb 3) (az_rb 3)) 5230 ak_k183.2.2.1.1 ak_k183.2.2.1.2.1 ak_k183.2.2.1.2.2.1 (az_hc ak_k183 (5, 12, (0, 0, 0), szc_108) (0, ak_k183.2.2.1, (0, []), (0, 0))) = true := by decide +kernel
set_option maxRecDepth 100000 in
theorem ak_v183 {X : List (List Value)} (hX : az_X X) : az_Valid X ak_k183 := az_validS sz_pkall_szP (q := (5, 12, (0, 0, 0), szc_108)) hX (tb := ak_t183) (List.forall_mem_cons.mpr ⟨ak_v175 hX, fun _ h => by cases h⟩) rfl (hds := ak_h183) (by decide +kernel) (fun _ h => by cases h) (fun _ hV => ⟨_, hV, rfl, _, fun _ h => h, ak_e183⟩) (fun _ h => by cases h)
/-- Model.value -/
def ak_k184 : azCon := (109, 1, ([(0, (5, 0, []), (0, 0, [])), (0, (0, 0, []), (0, 0, []))], [((-1), 80), (0, 39)], [], [(1, 145, []), (0, 0, [(0, 1)]), (0, 0, [(1, 1)])], [], [], false), [(some (some (0, 0, [(2, 1)])), [(0, (5, 0, []), (0, 0, [])), (0, (0, 0, []), (0, 0, [])), (0, (0, 0, []), (0, 0, []))], [((-1), 80), (0, 39), ((-2147483648), 2147483647)], [], [])], [], (0, 0))
def ak_t184 : List azCon := []
def ak_h184 : List azHd := []
theorem ak_e184 : az_ex szP az_inl ak_k184.2.1 ak_t184 ak_k184.2.2.2.2.1 (fun _ => az_pre 109 []) (az_hint ak_t184) (az_leaf ak_k184 ak_h184 none (az_hb 2) (az_rb 2)) 3700 ak_k184.2.2.1.1 ak_k184.2.2.1.2.1 ak_k184.2.2.1.2.2.1 (az_hc ak_k184 (4, 12, (0, 0, 0), szc_109) (0, ak_k184.2.2.1, (0, []), (0, 0))) = true := by decide +kernel
set_option maxRecDepth 100000 in
theorem ak_v184 {X : List (List Value)} (hX : az_X X) : az_Valid X ak_k184 := az_validS sz_pkall_szP (q := (4, 12, (0, 0, 0), szc_109)) hX (tb := ak_t184) (fun _ h => by cases h) rfl (hds := ak_h184) (by decide +kernel) (fun _ h => by cases h) (fun _ hV => ⟨_, hV, rfl, _, fun _ h => h, ak_e184⟩) (fun _ h => by cases h)
