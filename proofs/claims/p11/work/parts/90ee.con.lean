/-! contracts: written by wip/A/gen56.py -/
/-- Model.newAt -/
def ak_k222 : azCon := (157, 1, ([(0, (0, 0, []), (0, 0, []))], [(0, 0)], [], [(1, 145, []), (0, 5, []), (0, 0, [(0, 1)])], [], [], false), [(some (some (0, 0, [(1, 1)])), [(0, (0, 0, []), (0, 0, [])), (0, (0, 0, []), (0, 0, []))], [(0, 0), (0, 1)], [], [])], [], (0, 0))
def ak_t222 : List azCon := []
def ak_d222_0 : azHd := (4, ([(0, (0, 0, []), (0, 0, [])), (0, (0, 0, []), (0, 0, [])), (0, (0, 0, []), (0, 0, []))], [(0, 0), (0, 1), (0, 9)], [], [(1, 145, []), (0, 5, []), (0, 0, [(0, 1)]), (0, 0, [(1, 1)]), (0, 0, [(2, 1)])], [], [], false), (19, [(2, (-2))]), (0, 0))
def ak_h222 : List azHd := [ak_d222_0]
theorem ak_e222 : az_ex szP az_inl ak_k222.2.1 ak_t222 ak_k222.2.2.2.2.1 (fun _ => az_pre 157 []) (az_hint ak_t222) (az_leaf ak_k222 ak_h222 none (az_hb 1) (az_rb 1)) 34600 ak_k222.2.2.1.1 ak_k222.2.2.1.2.1 ak_k222.2.2.1.2.2.1 (az_hc ak_k222 (5, 12, (0, 0, 0), szc_157) (0, ak_k222.2.2.1, (0, []), (0, 0))) = true := by decide +kernel
theorem ak_e222_0 : az_ex szP az_inl ak_k222.2.1 ak_t222 ak_k222.2.2.2.2.1 (fun _ => az_pre 157 []) (az_hint ak_t222) (az_leaf ak_k222 ak_h222 (some ak_d222_0.2.2.1) (az_hb 1) (az_rb 1)) 34600 ak_d222_0.2.1.1 ak_d222_0.2.1.2.1 ak_d222_0.2.1.2.2.1 (az_hc ak_k222 (5, 12, (0, 0, 0), szc_157) ak_d222_0) = true := by decide +kernel
set_option maxRecDepth 100000 in
theorem ak_v222 {X : List (List Value)} (hX : az_X X) : az_Valid X ak_k222 := az_validS sz_pkall_szP (q := (5, 12, (0, 0, 0), szc_157)) hX (tb := ak_t222) (fun _ h => by cases h) rfl (hds := ak_h222) (by decide +kernel) (List.forall_mem_cons.mpr ⟨by decide +kernel, fun _ h => by cases h⟩) (fun _ hV => ⟨_, hV, rfl, _, fun _ h => h, ak_e222⟩) (List.forall_mem_cons.mpr ⟨fun _ hV => ⟨_, hV, rfl, _, fun _ h => h, ak_e222_0⟩, fun _ h => by cases h⟩)
/-- Model.newAt -/
def ak_k223 : azCon := (157, 1, ([(0, (0, 0, []), (0, 0, []))], [(1, 1)], [], [(1, 145, []), (0, 5, []), (0, 0, [(0, 1)])], [], [], false), [(some (some (0, 0, [(1, 1)])), [(0, (0, 0, []), (0, 0, [])), (0, (0, 0, []), (0, 0, []))], [(1, 1), (0, 1)], [], [])], [], (0, 0))
def ak_t223 : List azCon := []
def ak_d223_0 : azHd := (4, ([(0, (0, 0, []), (0, 0, [])), (0, (0, 0, []), (0, 0, [])), (0, (0, 0, []), (0, 0, []))], [(1, 1), (0, 1), (0, 9)], [], [(1, 145, []), (0, 5, []), (0, 0, [(0, 1)]), (0, 0, [(1, 1)]), (0, 0, [(2, 1)])], [], [], false), (19, [(2, (-2))]), (0, 0))
def ak_h223 : List azHd := [ak_d223_0]
theorem ak_e223 : az_ex szP az_inl ak_k223.2.1 ak_t223 ak_k223.2.2.2.2.1 (fun _ => az_pre 157 []) (az_hint ak_t223) (az_leaf ak_k223 ak_h223 none (az_hb 1) (az_rb 1)) 34600 ak_k223.2.2.1.1 ak_k223.2.2.1.2.1 ak_k223.2.2.1.2.2.1 (az_hc ak_k223 (5, 12, (0, 0, 0), szc_157) (0, ak_k223.2.2.1, (0, []), (0, 0))) = true := by decide +kernel
theorem ak_e223_0 : az_ex szP az_inl ak_k223.2.1 ak_t223 ak_k223.2.2.2.2.1 (fun _ => az_pre 157 []) (az_hint ak_t223) (az_leaf ak_k223 ak_h223 (some ak_d223_0.2.2.1) (az_hb 1) (az_rb 1)) 34600 ak_d223_0.2.1.1 ak_d223_0.2.1.2.1 ak_d223_0.2.1.2.2.1 (az_hc ak_k223 (5, 12, (0, 0, 0), szc_157) ak_d223_0) = true := by decide +kernel
set_option maxRecDepth 100000 in
theorem ak_v223 {X : List (List Value)} (hX : az_X X) : az_Valid X ak_k223 := az_validS sz_pkall_szP (q := (5, 12, (0, 0, 0), szc_157)) hX (tb := ak_t223) (fun _ h => by cases h) rfl (hds := ak_h223) (by decide +kernel) (List.forall_mem_cons.mpr ⟨by decide +kernel, fun _ h => by cases h⟩) (fun _ hV => ⟨_, hV, rfl, _, fun _ h => h, ak_e223⟩) (List.forall_mem_cons.mpr ⟨fun _ hV => ⟨_, hV, rfl, _, fun _ h => h, ak_e223_0⟩, fun _ h => by cases h⟩)
/-- Model.isFree -/
def ak_k224 : azCon := (158, 0, ([(0, (0, 0, []), (0, 0, []))], [(1, 200)], [], [(1, 145, []), (0, 6, []), (0, 0, [(0, 1)])], [], [], false), [(some (some (0, 0, [(1, 1)])), [(0, (0, 0, []), (0, 0, [])), (0, (0, 0, []), (0, 0, []))], [(1, 200), (0, 1)], [], [])], [], (0, 0))
def ak_t224 : List azCon := []
def ak_d224_0 : azHd := (2, ([(0, (0, 0, []), (0, 0, [])), (0, (0, 0, []), (0, 0, []))], [(1, 200), (0, 9)], [], [(1, 145, []), (0, 6, []), (0, 0, [(0, 1)]), (0, 0, [(1, 1)])], [], [], false), (19, [(1, (-2))]), (0, 0))
def ak_h224 : List azHd := [ak_d224_0]
theorem ak_e224 : az_ex szP az_inl ak_k224.2.1 ak_t224 ak_k224.2.2.2.2.1 (fun _ => az_pre 158 []) (az_hint ak_t224) (az_leaf ak_k224 ak_h224 none (az_hb 1) (az_rb 1)) 2440 ak_k224.2.2.1.1 ak_k224.2.2.1.2.1 ak_k224.2.2.1.2.2.1 (az_hc ak_k224 (4, 12, (0, 0, 0), szc_158) (0, ak_k224.2.2.1, (0, []), (0, 0))) = true := by decide +kernel
theorem ak_e224_0 : az_ex szP az_inl ak_k224.2.1 ak_t224 ak_k224.2.2.2.2.1 (fun _ => az_pre 158 []) (az_hint ak_t224) (az_leaf ak_k224 ak_h224 (some ak_d224_0.2.2.1) (az_hb 1) (az_rb 1)) 2440 ak_d224_0.2.1.1 ak_d224_0.2.1.2.1 ak_d224_0.2.1.2.2.1 (az_hc ak_k224 (4, 12, (0, 0, 0), szc_158) ak_d224_0) = true := by decide +kernel
set_option maxRecDepth 100000 in
theorem ak_v224 {X : List (List Value)} (hX : az_X X) : az_Valid X ak_k224 := az_validS sz_pkall_szP (q := (4, 12, (0, 0, 0), szc_158)) hX (tb := ak_t224) (fun _ h => by cases h) rfl (hds := ak_h224) (by decide +kernel) (List.forall_mem_cons.mpr ⟨by decide +kernel, fun _ h => by cases h⟩) (fun _ hV => ⟨_, hV, rfl, _, fun _ h => h, ak_e224⟩) (List.forall_mem_cons.mpr ⟨fun _ hV => ⟨_, hV, rfl, _, fun _ h => h, ak_e224_0⟩, fun _ h => by cases h⟩)
