/-! contracts: written by wip/A/gen56.py -/
/-- Model.newAt -/
def ak_k228 : azCon := (157, 1, ([(0, (0, 0, []), (0, 0, []))], [(0, 0)], [], [(1, 145, []), (0, 7, []), (0, 0, [(0, 1)])], [], [], false), [(some (some (0, 0, [(1, 1)])), [(0, (0, 0, []), (0, 0, [])), (0, (0, 0, []), (0, 0, []))], [(0, 0), (0, 1)], [], [])], [], (0, 0))
def ak_t228 : List azCon := []
def ak_d228_0 : azHd := (4, ([(0, (0, 0, []), (0, 0, [])), (0, (0, 0, []), (0, 0, [])), (0, (0, 0, []), (0, 0, []))], [(0, 0), (0, 1), (0, 9)], [], [(1, 145, []), (0, 7, []), (0, 0, [(0, 1)]), (0, 0, [(1, 1)]), (0, 0, [(2, 1)])], [], [], false), (19, [(2, (-2))]), (0, 0))
def ak_h228 : List azHd := [ak_d228_0]
theorem ak_e228 : az_ex szP az_inl ak_k228.2.1 ak_t228 ak_k228.2.2.2.2.1 (fun _ => az_pre 157 []) (az_hint ak_t228) (az_leaf ak_k228 ak_h228 none (az_hb 1) (az_rb 1)) 34600 ak_k228.2.2.1.1 ak_k228.2.2.1.2.1 ak_k228.2.2.1.2.2.1 (az_hc ak_k228 (5, 12, (0, 0, 0), szc_157) (0, ak_k228.2.2.1, (0, []), (0, 0))) = true := by decide +kernel
theorem ak_e228_0 : az_ex szP az_inl ak_k228.2.1 ak_t228 ak_k228.2.2.2.2.1 (fun _ => az_pre 157 []) (az_hint ak_t228) (az_leaf ak_k228 ak_h228 (some ak_d228_0.2.2.1) (az_hb 1) (az_rb 1)) 34600 ak_d228_0.2.1.1 ak_d228_0.2.1.2.1 ak_d228_0.2.1.2.2.1 (az_hc ak_k228 (5, 12, (0, 0, 0), szc_157) ak_d228_0) = true := by decide +kernel
set_option maxRecDepth 100000 in
theorem ak_v228 {X : List (List Value)} (hX : az_X X) : az_Valid X ak_k228 := az_validS sz_pkall_szP (q := (5, 12, (0, 0, 0), szc_157)) hX (tb := ak_t228) (fun _ h => by cases h) rfl (hds := ak_h228) (by decide +kernel) (List.forall_mem_cons.mpr ⟨by decide +kernel, fun _ h => by cases h⟩) (fun _ hV => ⟨_, hV, rfl, _, fun _ h => h, ak_e228⟩) (List.forall_mem_cons.mpr ⟨fun _ hV => ⟨_, hV, rfl, _, fun _ h => h, ak_e228_0⟩, fun _ h => by cases h⟩)
/-- Model.newAt -/
def ak_k229 : azCon := (157, 1, ([(0, (0, 0, []), (0, 0, []))], [(1, 1)], [], [(1, 145, []), (0, 7, []), (0, 0, [(0, 1)])], [], [], false), [(some (some (0, 0, [(1, 1)])), [(0, (0, 0, []), (0, 0, [])), (0, (0, 0, []), (0, 0, []))], [(1, 1), (0, 1)], [], [])], [], (0, 0))
def ak_t229 : List azCon := []
def ak_d229_0 : azHd := (4, ([(0, (0, 0, []), (0, 0, [])), (0, (0, 0, []), (0, 0, [])), (0, (0, 0, []), (0, 0, []))], [(1, 1), (0, 1), (0, 9)], [], [(1, 145, []), (0, 7, []), (0, 0, [(0, 1)]), (0, 0, [(1, 1)]), (0, 0, [(2, 1)])], [], [], false), (19, [(2, (-2))]), (0, 0))
def ak_h229 : List azHd := [ak_d229_0]
theorem ak_e229 : az_ex szP az_inl ak_k229.2.1 ak_t229 ak_k229.2.2.2.2.1 (fun _ => az_pre 157 []) (az_hint ak_t229) (az_leaf ak_k229 ak_h229 none (az_hb 1) (az_rb 1)) 34600 ak_k229.2.2.1.1 ak_k229.2.2.1.2.1 ak_k229.2.2.1.2.2.1 (az_hc ak_k229 (5, 12, (0, 0, 0), szc_157) (0, ak_k229.2.2.1, (0, []), (0, 0))) = true := by decide +kernel
theorem ak_e229_0 : az_ex szP az_inl ak_k229.2.1 ak_t229 ak_k229.2.2.2.2.1 (fun _ => az_pre 157 []) (az_hint ak_t229) (az_leaf ak_k229 ak_h229 (some ak_d229_0.2.2.1) (az_hb 1) (az_rb 1)) 34600 ak_d229_0.2.1.1 ak_d229_0.2.1.2.1 ak_d229_0.2.1.2.2.1 (az_hc ak_k229 (5, 12, (0, 0, 0), szc_157) ak_d229_0) = true := by decide +kernel
set_option maxRecDepth 100000 in
theorem ak_v229 {X : List (List Value)} (hX : az_X X) : az_Valid X ak_k229 := az_validS sz_pkall_szP (q := (5, 12, (0, 0, 0), szc_157)) hX (tb := ak_t229) (fun _ h => by cases h) rfl (hds := ak_h229) (by decide +kernel) (List.forall_mem_cons.mpr ⟨by decide +kernel, fun _ h => by cases h⟩) (fun _ hV => ⟨_, hV, rfl, _, fun _ h => h, ak_e229⟩) (List.forall_mem_cons.mpr ⟨fun _ hV => ⟨_, hV, rfl, _, fun _ h => h, ak_e229_0⟩, fun _ h => by cases h⟩)
/-- Model.isFree -/
def ak_k230 : azCon := (158, 0, ([(0, (0, 0, []), (0, 0, []))], [(1, 200)], [], [(1, 145, []), (0, 8, []), (0, 0, [(0, 1)])], [], [], false), [(some (some (0, 0, [(1, 1)])), [(0, (0, 0, []), (0, 0, [])), (0, (0, 0, []), (0, 0, []))], [(1, 200), (0, 1)], [], [])], [], (0, 0))
def ak_t230 : List azCon := []
def ak_d230_0 : azHd := (2, ([(0, (0, 0, []), (0, 0, [])), (0, (0, 0, []), (0, 0, []))], [(1, 200), (0, 9)], [], [(1, 145, []), (0, 8, []), (0, 0, [(0, 1)]), (0, 0, [(1, 1)])], [], [], false), (19, [(1, (-2))]), (0, 0))
def ak_h230 : List azHd := [ak_d230_0]
theorem ak_e230 : az_ex szP az_inl ak_k230.2.1 ak_t230 ak_k230.2.2.2.2.1 (fun _ => az_pre 158 []) (az_hint ak_t230) (az_leaf ak_k230 ak_h230 none (az_hb 1) (az_rb 1)) 2440 ak_k230.2.2.1.1 ak_k230.2.2.1.2.1 ak_k230.2.2.1.2.2.1 (az_hc ak_k230 (4, 12, (0, 0, 0), szc_158) (0, ak_k230.2.2.1, (0, []), (0, 0))) = true := by decide +kernel
theorem ak_e230_0 : az_ex szP az_inl ak_k230.2.1 ak_t230 ak_k230.2.2.2.2.1 (fun _ => az_pre 158 []) (az_hint ak_t230) (az_leaf ak_k230 ak_h230 (some ak_d230_0.2.2.1) (az_hb 1) (az_rb 1)) 2440 ak_d230_0.2.1.1 ak_d230_0.2.1.2.1 ak_d230_0.2.1.2.2.1 (az_hc ak_k230 (4, 12, (0, 0, 0), szc_158) ak_d230_0) = true := by decide +kernel
set_option maxRecDepth 100000 in
theorem ak_v230 {X : List (List Value)} (hX : az_X X) : az_Valid X ak_k230 := az_validS sz_pkall_szP (q := (4, 12, (0, 0, 0), szc_158)) hX (tb := ak_t230) (fun _ h => by cases h) rfl (hds := ak_h230) (by decide +kernel) (List.forall_mem_cons.mpr ⟨by decide +kernel, fun _ h => by cases h⟩) (fun _ hV => ⟨_, hV, rfl, _, fun _ h => h, ak_e230⟩) (List.forall_mem_cons.mpr ⟨fun _ hV => ⟨_, hV, rfl, _, fun _ h => h, ak_e230_0⟩, fun _ h => by cases h⟩)
