/-! contracts: written by wip/A/gen56.py -/
/-- Model.newAt -/
def ak_k231 : azCon := (157, 1, ([(0, (0, 0, []), (0, 0, []))], [(0, 0)], [], [(1, 145, []), (0, 8, []), (0, 0, [(0, 1)])], [], [], false), [(some (some (0, 0, [(1, 1)])), [(0, (0, 0, []), (0, 0, [])), (0, (0, 0, []), (0, 0, []))], [(0, 0), (0, 1)], [], [])], [], (0, 0))
def ak_t231 : List azCon := []
def ak_d231_0 : azHd := (4, ([(0, (0, 0, []), (0, 0, [])), (0, (0, 0, []), (0, 0, [])), (0, (0, 0, []), (0, 0, []))], [(0, 0), (0, 1), (0, 9)], [], [(1, 145, []), (0, 8, []), (0, 0, [(0, 1)]), (0, 0, [(1, 1)]), (0, 0, [(2, 1)])], [], [], false), (19, [(2, (-2))]), (0, 0))
def ak_h231 : List azHd := [ak_d231_0]
theorem ak_e231 : az_ex szP az_inl ak_k231.2.1 ak_t231 ak_k231.2.2.2.2.1 (fun _ => az_pre 157 []) (az_hint ak_t231) (az_leaf ak_k231 ak_h231 none (az_hb 1) (az_rb 1)) 34600 ak_k231.2.2.1.1 ak_k231.2.2.1.2.1 ak_k231.2.2.1.2.2.1 (az_hc ak_k231 (5, 12, (0, 0, 0), szc_157) (0, ak_k231.2.2.1, (0, []), (0, 0))) = true := by decide +kernel
theorem ak_e231_0 : az_ex szP az_inl ak_k231.2.1 ak_t231 ak_k231.2.2.2.2.1 (fun _ => az_pre 157 []) (az_hint ak_t231) (az_leaf ak_k231 ak_h231 (some ak_d231_0.2.2.1) (az_hb 1) (az_rb 1)) 34600 ak_d231_0.2.1.1 ak_d231_0.2.1.2.1 ak_d231_0.2.1.2.2.1 (az_hc ak_k231 (5, 12, (0, 0, 0), szc_157) ak_d231_0) = true := by decide +kernel
set_option maxRecDepth 100000 in
theorem ak_v231 {X : List (List Value)} (hX : az_X X) : az_Valid X ak_k231 := az_validS sz_pkall_szP (q := (5, 12, (0, 0, 0), szc_157)) hX (tb := ak_t231) (fun _ h => by cases h) rfl (hds := ak_h231) (by decide +kernel) (List.forall_mem_cons.mpr ⟨by decide +kernel, fun _ h => by cases h⟩) (fun _ hV => ⟨_, hV, rfl, _, fun _ h => h, ak_e231⟩) (List.forall_mem_cons.mpr ⟨fun _ hV => ⟨_, hV, rfl, _, fun _ h => h, ak_e231_0⟩, fun _ h => by cases h⟩)
/-- Model.newAt -/
def ak_k232 : azCon := (157, 1, ([(0, (0, 0, []), (0, 0, []))], [(1, 1)], [], [(1, 145, []), (0, 8, []), (0, 0, [(0, 1)])], [], [], false), [(some (some (0, 0, [(1, 1)])), [(0, (0, 0, []), (0, 0, [])), (0, (0, 0, []), (0, 0, []))], [(1, 1), (0, 1)], [], [])], [], (0, 0))
def ak_t232 : List azCon := []
def ak_d232_0 : azHd := (4, ([(0, (0, 0, []), (0, 0, [])), (0, (0, 0, []), (0, 0, [])), (0, (0, 0, []), (0, 0, []))], [(1, 1), (0, 1), (0, 9)], [], [(1, 145, []), (0, 8, []), (0, 0, [(0, 1)]), (0, 0, [(1, 1)]), (0, 0, [(2, 1)])], [], [], false), (19, [(2, (-2))]), (0, 0))
def ak_h232 : List azHd := [ak_d232_0]
theorem ak_e232 : az_ex szP az_inl ak_k232.2.1 ak_t232 ak_k232.2.2.2.2.1 (fun _ => az_pre 157 []) (az_hint ak_t232) (az_leaf ak_k232 ak_h232 none (az_hb 1) (az_rb 1)) 34600 ak_k232.2.2.1.1 ak_k232.2.2.1.2.1 ak_k232.2.2.1.2.2.1 (az_hc ak_k232 (5, 12, (0, 0, 0), szc_157) (0, ak_k232.2.2.1, (0, []), (0, 0))) = true := by decide +kernel
theorem ak_e232_0 : az_ex szP az_inl ak_k232.2.1 ak_t232 ak_k232.2.2.2.2.1 (fun _ => az_pre 157 []) (az_hint ak_t232) (az_leaf ak_k232 ak_h232 (some ak_d232_0.2.2.1) (az_hb 1) (az_rb 1)) 34600 ak_d232_0.2.1.1 ak_d232_0.2.1.2.1 ak_d232_0.2.1.2.2.1 (az_hc ak_k232 (5, 12, (0, 0, 0), szc_157) ak_d232_0) = true := by decide +kernel
set_option maxRecDepth 100000 in
theorem ak_v232 {X : List (List Value)} (hX : az_X X) : az_Valid X ak_k232 := az_validS sz_pkall_szP (q := (5, 12, (0, 0, 0), szc_157)) hX (tb := ak_t232) (fun _ h => by cases h) rfl (hds := ak_h232) (by decide +kernel) (List.forall_mem_cons.mpr ⟨by decide +kernel, fun _ h => by cases h⟩) (fun _ hV => ⟨_, hV, rfl, _, fun _ h => h, ak_e232⟩) (List.forall_mem_cons.mpr ⟨fun _ hV => ⟨_, hV, rfl, _, fun _ h => h, ak_e232_0⟩, fun _ h => by cases h⟩)
/-- Model.isFree -/
def ak_k233 : azCon := (158, 0, ([(0, (0, 0, []), (0, 0, []))], [(1, 200)], [], [(1, 145, []), (0, 9, []), (0, 0, [(0, 1)])], [], [], false), [(some (some (0, 0, [(1, 1)])), [(0, (0, 0, []), (0, 0, [])), (0, (0, 0, []), (0, 0, []))], [(1, 200), (0, 1)], [], [])], [], (0, 0))
def ak_t233 : List azCon := []
def ak_d233_0 : azHd := (2, ([(0, (0, 0, []), (0, 0, [])), (0, (0, 0, []), (0, 0, []))], [(1, 200), (0, 9)], [], [(1, 145, []), (0, 9, []), (0, 0, [(0, 1)]), (0, 0, [(1, 1)])], [], [], false), (19, [(1, (-2))]), (0, 0))
def ak_h233 : List azHd := [ak_d233_0]
theorem ak_e233 : az_ex szP az_inl ak_k233.2.1 ak_t233 ak_k233.2.2.2.2.1 (fun _ => az_pre 158 []) (az_hint ak_t233) (az_leaf ak_k233 ak_h233 none (az_hb 1) (az_rb 1)) 2440 ak_k233.2.2.1.1 ak_k233.2.2.1.2.1 ak_k233.2.2.1.2.2.1 (az_hc ak_k233 (4, 12, (0, 0, 0), szc_158) (0, ak_k233.2.2.1, (0, []), (0, 0))) = true := by decide +kernel
theorem ak_e233_0 : az_ex szP az_inl ak_k233.2.1 ak_t233 ak_k233.2.2.2.2.1 (fun _ => az_pre 158 []) (az_hint ak_t233) (az_leaf ak_k233 ak_h233 (some ak_d233_0.2.2.1) (az_hb 1) (az_rb 1)) 2440 ak_d233_0.2.1.1 ak_d233_0.2.1.2.1 ak_d233_0.2.1.2.2.1 (az_hc ak_k233 (4, 12, (0, 0, 0), szc_158) ak_d233_0) = true := by decide +kernel
set_option maxRecDepth 100000 in
theorem ak_v233 {X : List (List Value)} (hX : az_X X) : az_Valid X ak_k233 := az_validS sz_pkall_szP (q := (4, 12, (0, 0, 0), szc_158)) hX (tb := ak_t233) (fun _ h => by cases h) rfl (hds := ak_h233) (by decide +kernel) (List.forall_mem_cons.mpr ⟨by decide +kernel, fun _ h => by cases h⟩) (fun _ hV => ⟨_, hV, rfl, _, fun _ h => h, ak_e233⟩) (List.forall_mem_cons.mpr ⟨fun _ hV => ⟨_, hV, rfl, _, fun _ h => h, ak_e233_0⟩, fun _ h => by cases h⟩)
