/-! contracts: written by wip/A/gen56.py -/
/-- Model.newAt -/
def ak_k225 : azCon := (157, 1, ([(0, (0, 0, []), (0, 0, []))], [(0, 0)], [], [(1, 145, []), (0, 6, []), (0, 0, [(0, 1)])], [], [], false), [(some (some (0, 0, [(1, 1)])), [(0, (0, 0, []), (0, 0, [])), (0, (0, 0, []), (0, 0, []))], [(0, 0), (0, 1)], [], [])], [], (0, 0))
def ak_t225 : List azCon := []
def ak_d225_0 : azHd := (4, ([(0, (0, 0, []), (0, 0, [])), (0, (0, 0, []), (0, 0, [])), (0, (0, 0, []), (0, 0, []))], [(0, 0), (0, 1), (0, 9)], [], [(1, 145, []), (0, 6, []), (0, 0, [(0, 1)]), (0, 0, [(1, 1)]), (0, 0, [(2, 1)])], [], [], false), (19, [(2, (-2))]), (0, 0))
def ak_h225 : List azHd := [ak_d225_0]
theorem ak_e225 : az_ex szP az_inl ak_k225.2.1 ak_t225 ak_k225.2.2.2.2.1 (fun _ => az_pre 157 []) (az_hint ak_t225) (az_leaf ak_k225 ak_h225 none (az_hb 1) (az_rb 1)) 34600 ak_k225.2.2.1.1 ak_k225.2.2.1.2.1 ak_k225.2.2.1.2.2.1 (az_hc ak_k225 (5, 12, (0, 0, 0), szc_157) (0, ak_k225.2.2.1, (0, []), (0, 0))) = true := by decide +kernel
theorem ak_e225_0 : az_ex szP az_inl ak_k225.2.1 ak_t225 ak_k225.2.2.2.2.1 (fun _ => az_pre 157 []) (az_hint ak_t225) (az_leaf ak_k225 ak_h225 (some ak_d225_0.2.2.1) (az_hb 1) (az_rb 1)) 34600 ak_d225_0.2.1.1 ak_d225_0.2.1.2.1 ak_d225_0.2.1.2.2.1 (az_hc ak_k225 (5, 12, (0, 0, 0), szc_157) ak_d225_0) = true := by decide +kernel
set_option maxRecDepth 100000 in
theorem ak_v225 {X : List (List Value)} (hX : az_X X) : az_Valid X ak_k225 := az_validS sz_pkall_szP (q := (5, 12, (0, 0, 0), szc_157)) hX (tb := ak_t225) (fun _ h => by cases h) rfl (hds := ak_h225) (by decide +kernel) (List.forall_mem_cons.mpr ⟨by decide +kernel, fun _ h => by cases h⟩) (fun _ hV => ⟨_, hV, rfl, _, fun _ h => h, ak_e225⟩) (List.forall_mem_cons.mpr ⟨fun _ hV => ⟨_, hV, rfl, _, fun _ h => h, ak_e225_0⟩, fun _ h => by cases h⟩)
/-- Model.newAt -/
def ak_k226 : azCon := (157, 1, ([(0, (0, 0, []), (0, 0, []))], [(1, 1)], [], [(1, 145, []), (0, 6, []), (0, 0, [(0, 1)])], [], [], false), [(some (some (0, 0, [(1, 1)])), [(0, (0, 0, []), (0, 0, [])), (0, (0, 0, []), (0, 0, []))], [(1, 1), (0, 1)], [], [])], [], (0, 0))
def ak_t226 : List azCon := []
def ak_d226_0 : azHd := (4, ([(0, (0, 0, []), (0, 0, [])), (0, (0, 0, []), (0, 0, [])), (0, (0, 0, []), (0, 0, []))], [(1, 1), (0, 1), (0, 9)], [], [(1, 145, []), (0, 6, []), (0, 0, [(0, 1)]), (0, 0, [(1, 1)]), (0, 0, [(2, 1)])], [], [], false), (19, [(2, (-2))]), (0, 0))
def ak_h226 : List azHd := [ak_d226_0]
theorem ak_e226 : az_ex szP az_inl ak_k226.2.1 ak_t226 ak_k226.2.2.2.2.1 (fun _ => az_pre 157 []) (az_hint ak_t226) (az_leaf ak_k226 ak_h226 none (az_hb 1) (az_rb 1)) 34600 ak_k226.2.2.1.1 ak_k226.2.2.1.2.1 ak_k226.2.2.1.2.2.1 (az_hc ak_k226 (5, 12, (0, 0, 0), szc_157) (0, ak_k226.2.2.1, (0, []), (0, 0))) = true := by decide +kernel
theorem ak_e226_0 : az_ex szP az_inl ak_k226.2.1 ak_t226 ak_k226.2.2.2.2.1 (fun _ => az_pre 157 []) (az_hint ak_t226) (az_leaf ak_k226 ak_h226 (some ak_d226_0.2.2.1) (az_hb 1) (az_rb 1)) 34600 ak_d226_0.2.1.1 ak_d226_0.2.1.2.1 ak_d226_0.2.1.2.2.1 (az_hc ak_k226 (5, 12, (0, 0, 0), szc_157) ak_d226_0) = true := by decide +kernel
set_option maxRecDepth 100000 in
theorem ak_v226 {X : List (List Value)} (hX : az_X X) : az_Valid X ak_k226 := az_validS sz_pkall_szP (q := (5, 12, (0, 0, 0), szc_157)) hX (tb := ak_t226) (fun _ h => by cases h) rfl (hds := ak_h226) (by decide +kernel) (List.forall_mem_cons.mpr ⟨by decide +kernel, fun _ h => by cases h⟩) (fun _ hV => ⟨_, hV, rfl, _, fun _ h => h, ak_e226⟩) (List.forall_mem_cons.mpr ⟨fun _ hV => ⟨_, hV, rfl, _, fun _ h => h, ak_e226_0⟩, fun _ h => by cases h⟩)
/-- Model.isFree -/
def ak_k227 : azCon := (158, 0, ([(0, (0, 0, []), (0, 0, []))], [(1, 200)], [], [(1, 145, []), (0, 7, []), (0, 0, [(0, 1)])], [], [], false), [(some (some (0, 0, [(1, 1)])), [(0, (0, 0, []), (0, 0, [])), (0, (0, 0, []), (0, 0, []))], [(1, 200), (0, 1)], [], [])], [], (0, 0))
def ak_t227 : List azCon := []
def ak_d227_0 : azHd := (2, ([(0, (0, 0, []), (0, 0, [])), (0, (0, 0, []), (0, 0, []))], [(1, 200), (0, 9)], [], [(1, 145, []), (0, 7, []), (0, 0, [(0, 1)]), (0, 0, [(1, 1)])], [], [], false), (19, [(1, (-2))]), (0, 0))
def ak_h227 : List azHd := [ak_d227_0]
theorem ak_e227 : az_ex szP az_inl ak_k227.2.1 ak_t227 ak_k227.2.2.2.2.1 (fun _ => az_pre 158 []) (az_hint ak_t227) (az_leaf ak_k227 ak_h227 none (az_hb 1) (az_rb 1)) 2440 ak_k227.2.2.1.1 ak_k227.2.2.1.2.1 ak_k227.2.2.1.2.2.1 (az_hc ak_k227 (4, 12, (0, 0, 0), szc_158) (0, ak_k227.2.2.1, (0, []), (0, 0))) = true := by decide +kernel
theorem ak_e227_0 : az_ex szP az_inl ak_k227.2.1 ak_t227 ak_k227.2.2.2.2.1 (fun _ => az_pre 158 []) (az_hint ak_t227) (az_leaf ak_k227 ak_h227 (some ak_d227_0.2.2.1) (az_hb 1) (az_rb 1)) 2440 ak_d227_0.2.1.1 ak_d227_0.2.1.2.1 ak_d227_0.2.1.2.2.1 (az_hc ak_k227 (4, 12, (0, 0, 0), szc_158) ak_d227_0) = true := by decide +kernel
set_option maxRecDepth 100000 in
theorem ak_v227 {X : List (List Value)} (hX : az_X X) : az_Valid X ak_k227 := az_validS sz_pkall_szP (q := (4, 12, (0, 0, 0), szc_158)) hX (tb := ak_t227) (fun _ h => by cases h) rfl (hds := ak_h227) (by decide +kernel) (List.forall_mem_cons.mpr ⟨by decide +kernel, fun _ h => by cases h⟩) (fun _ hV => ⟨_, hV, rfl, _, fun _ h => h, ak_e227⟩) (List.forall_mem_cons.mpr ⟨fun _ hV => ⟨_, hV, rfl, _, fun _ h => h, ak_e227_0⟩, fun _ h => by cases h⟩)
