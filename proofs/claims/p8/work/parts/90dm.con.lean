/-! contracts: written by wip/A/gen56.py -/
/-- Model.manyOf -/
def ak_k191 : azCon := (127, 2, ([(0, (0, 0, []), (0, 0, []))], [(0, 3)], [], [(1, 145, []), (0, 0, [(0, 1)])], [], [], false), [(some (some (0, 0, [(1, 1)])), [(0, (0, 0, []), (0, 0, [])), (0, (0, 0, []), (0, 0, []))], [(0, 3), (0, 10)], [], [])], [], (0, 0))
def ak_t191 : List azCon := []
def ak_d191_0 : azHd := (4, ([(0, (0, 0, []), (0, 0, [])), (0, (0, 0, []), (0, 0, [])), (0, (0, 0, []), (0, 0, []))], [(0, 3), (0, 10), (0, 10)], [(0, [(1, (-1)), (2, 1)])], [(1, 145, []), (0, 0, [(0, 1)]), (0, 0, [(1, 1)]), (0, 0, [(2, 1)]), (9, 0, [])], [], [], false), (21, [(2, (-2))]), (0, 0))
def ak_h191 : List azHd := [ak_d191_0]
theorem ak_e191 : az_ex szP az_inl ak_k191.2.1 ak_t191 ak_k191.2.2.2.2.1 (fun _ => az_pre 127 []) (az_hint ak_t191) (az_leaf ak_k191 ak_h191 none (az_hb 1) (az_rb 1)) 34450 ak_k191.2.2.1.1 ak_k191.2.2.1.2.1 ak_k191.2.2.1.2.2.1 (az_hc ak_k191 (5, 12, (0, 0, 0), szc_127) (0, ak_k191.2.2.1, (0, []), (0, 0))) = true := by decide +kernel
theorem ak_e191_0 : az_ex szP az_inl ak_k191.2.1 ak_t191 ak_k191.2.2.2.2.1 (fun _ => az_pre 127 []) (az_hint ak_t191) (az_leaf ak_k191 ak_h191 (some ak_d191_0.2.2.1) (az_hb 1) (az_rb 1)) 34450 ak_d191_0.2.1.1 ak_d191_0.2.1.2.1 ak_d191_0.2.1.2.2.1 (az_hc ak_k191 (5, 12, (0, 0, 0), szc_127) ak_d191_0) = true := by decide +kernel
set_option maxRecDepth 100000 in
theorem ak_v191 {X : List (List Value)} (hX : az_X X) : az_Valid X ak_k191 := az_validS sz_pkall_szP (q := (5, 12, (0, 0, 0), szc_127)) hX (tb := ak_t191) (fun _ h => by cases h) rfl (hds := ak_h191) (by decide +kernel) (List.forall_mem_cons.mpr ⟨by decide +kernel, fun _ h => by cases h⟩) (fun _ hV => ⟨_, hV, rfl, _, fun _ h => h, ak_e191⟩) (List.forall_mem_cons.mpr ⟨fun _ hV => ⟨_, hV, rfl, _, fun _ h => h, ak_e191_0⟩, fun _ h => by cases h⟩)
/-- Model.tellRow -/
def ak_k192 : azCon := (71, 1, ([], [], [], [(1, 145, []), (1, 155, [])], [], [], false), [(some none, [(0, (0, 0, []), (0, 0, []))], [(0, 10)], [], [(141, (4, []), (0, 0, [(0, 1)]))])], [(141, 5), (144, 0)], (0, 0))
def ak_t192 : List azCon := []
def ak_h192 : List azHd := []
theorem ak_e192 : az_ex szP az_inl ak_k192.2.1 ak_t192 ak_k192.2.2.2.2.1 (fun _ => az_pre 71 []) (az_hint ak_t192) (az_leaf ak_k192 ak_h192 none (az_hb 0) (az_rb 0)) 9760 ak_k192.2.2.1.1 ak_k192.2.2.1.2.1 ak_k192.2.2.1.2.2.1 (az_hc ak_k192 (3, 12, (0, 0, 0), szc_71) (0, ak_k192.2.2.1, (0, []), (0, 0))) = true := by decide +kernel
set_option maxRecDepth 100000 in
theorem ak_v192 {X : List (List Value)} (hX : az_X X) : az_Valid X ak_k192 := az_validS sz_pkall_szP (q := (3, 12, (0, 0, 0), szc_71)) hX (tb := ak_t192) (fun _ h => by cases h) rfl (hds := ak_h192) (by decide +kernel) (fun _ h => by cases h) (fun _ hV => ⟨_, hV, rfl, _, fun _ h => h, ak_e192⟩) (fun _ h => by cases h)
/-- Model.lasts -/
def ak_k193 : azCon := (119, 2, ([(0, (0, 0, []), (0, 0, []))], [(0, 9)], [], [(1, 145, []), (0, 0, [(0, 1)])], [], [], false), [(some (some (0, 0, [(1, 1)])), [(0, (0, 0, []), (0, 0, [])), (0, (0, 0, []), (0, 0, []))], [(0, 9), (1, 40)], [], [])], [], (0, 0))
def ak_t193 : List azCon := []
def ak_h193 : List azHd := []
theorem ak_e193 : az_ex szP az_inl ak_k193.2.1 ak_t193 ak_k193.2.2.2.2.1 (fun _ => az_pre 119 []) (az_hint ak_t193) (az_leaf ak_k193 ak_h193 none (az_hb 1) (az_rb 1)) 20320 ak_k193.2.2.1.1 ak_k193.2.2.1.2.1 ak_k193.2.2.1.2.2.1 (az_hc ak_k193 (2, 12, (0, 0, 0), szc_119) (0, ak_k193.2.2.1, (0, []), (0, 0))) = true := by decide +kernel
set_option maxRecDepth 100000 in
theorem ak_v193 {X : List (List Value)} (hX : az_X X) : az_Valid X ak_k193 := az_validS sz_pkall_szP (q := (2, 12, (0, 0, 0), szc_119)) hX (tb := ak_t193) (fun _ h => by cases h) rfl (hds := ak_h193) (by decide +kernel) (fun _ h => by cases h) (fun _ hV => ⟨_, hV, rfl, _, fun _ h => h, ak_e193⟩) (fun _ h => by cases h)
/-- Model.longBy -/
def ak_k194 : azCon := (124, 3, ([], [], [], [(1, 145, []), (1, 155, [])], [], [], false), [(some (some (0, 0, [(0, 1)])), [(0, (0, 0, []), (0, 0, []))], [(0, 205)], [], [])], [], (0, 0))
def ak_t194 : List azCon := [ak_k193]
def ak_d194_0 : azHd := (4, ([(0, (0, 0, []), (0, 0, [])), (0, (0, 0, []), (0, 0, []))], [(0, 2048), (0, 10)], [], [(1, 145, []), (1, 155, []), (0, 0, [(0, 1)]), (0, 0, [(1, 1)])], [], [], false), (21, [(1, (-2))]), (0, 0))
def ak_h194 : List azHd := [ak_d194_0]
theorem ak_e194 : az_ex szP az_inl ak_k194.2.1 ak_t194 ak_k194.2.2.2.2.1 (fun _ => az_pre 124 []) (az_hint ak_t194) (az_leaf ak_k194 ak_h194 none (az_hb 0) (az_rb 0)) 2350 ak_k194.2.2.1.1 ak_k194.2.2.1.2.1 ak_k194.2.2.1.2.2.1 (az_hc ak_k194 (4, 12, (0, 0, 0), szc_124) (0, ak_k194.2.2.1, (0, []), (0, 0))) = true := by decide +kernel
theorem ak_e194_0 : az_ex szP az_inl ak_k194.2.1 ak_t194 ak_k194.2.2.2.2.1 (fun _ => az_pre 124 []) (az_hint ak_t194) (az_leaf ak_k194 ak_h194 (some ak_d194_0.2.2.1) (az_hb 0) (az_rb 0)) 2350 ak_d194_0.2.1.1 ak_d194_0.2.1.2.1 ak_d194_0.2.1.2.2.1 (az_hc ak_k194 (4, 12, (0, 0, 0), szc_124) ak_d194_0) = true := by decide +kernel
set_option maxRecDepth 100000 in
theorem ak_v194 {X : List (List Value)} (hX : az_X X) : az_Valid X ak_k194 := az_validS sz_pkall_szP (q := (4, 12, (0, 0, 0), szc_124)) hX (tb := ak_t194) (List.forall_mem_cons.mpr ⟨ak_v193 hX, fun _ h => by cases h⟩) rfl (hds := ak_h194) (by decide +kernel) (List.forall_mem_cons.mpr ⟨by decide +kernel, fun _ h => by cases h⟩) (fun _ hV => ⟨_, hV, rfl, _, fun _ h => h, ak_e194⟩) (List.forall_mem_cons.mpr ⟨fun _ hV => ⟨_, hV, rfl, _, fun _ h => h, ak_e194_0⟩, fun _ h => by cases h⟩)
/-- Model.tellRow -/
def ak_k195 : azCon := (71, 1, ([], [], [], [(1, 145, []), (1, 156, [])], [], [], false), [(some none, [(0, (0, 0, []), (0, 0, []))], [(0, 10)], [], [(141, (4, []), (0, 0, [(0, 1)]))])], [(141, 5), (144, 0)], (0, 0))
def ak_t195 : List azCon := []
def ak_h195 : List azHd := []
theorem ak_e195 : az_ex szP az_inl ak_k195.2.1 ak_t195 ak_k195.2.2.2.2.1 (fun _ => az_pre 71 []) (az_hint ak_t195) (az_leaf ak_k195 ak_h195 none (az_hb 0) (az_rb 0)) 9760 ak_k195.2.2.1.1 ak_k195.2.2.1.2.1 ak_k195.2.2.1.2.2.1 (az_hc ak_k195 (3, 12, (0, 0, 0), szc_71) (0, ak_k195.2.2.1, (0, []), (0, 0))) = true := by decide +kernel
set_option maxRecDepth 100000 in
theorem ak_v195 {X : List (List Value)} (hX : az_X X) : az_Valid X ak_k195 := az_validS sz_pkall_szP (q := (3, 12, (0, 0, 0), szc_71)) hX (tb := ak_t195) (fun _ h => by cases h) rfl (hds := ak_h195) (by decide +kernel) (fun _ h => by cases h) (fun _ hV => ⟨_, hV, rfl, _, fun _ h => h, ak_e195⟩) (fun _ h => by cases h)
