/-! contracts: written by wip/A/gen56.py -/
/-- Model.newAt -/
def ak_k213 : azCon := (157, 1, ([(0, (0, 0, []), (0, 0, []))], [(0, 0)], [], [(1, 145, []), (0, 2, []), (0, 0, [(0, 1)])], [], [], false), [(some (some (0, 0, [(1, 1)])), [(0, (0, 0, []), (0, 0, [])), (0, (0, 0, []), (0, 0, []))], [(0, 0), (0, 1)], [], [])], [], (0, 0))
def ak_t213 : List azCon := []
def ak_d213_0 : azHd := (4, ([(0, (0, 0, []), (0, 0, [])), (0, (0, 0, []), (0, 0, [])), (0, (0, 0, []), (0, 0, []))], [(0, 0), (0, 1), (0, 9)], [], [(1, 145, []), (0, 2, []), (0, 0, [(0, 1)]), (0, 0, [(1, 1)]), (0, 0, [(2, 1)])], [], [], false), (19, [(2, (-2))]), (0, 0))
def ak_h213 : List azHd := [ak_d213_0]
theorem ak_e213 : az_ex szP az_inl ak_k213.2.1 ak_t213 ak_k213.2.2.2.2.1 (fun _ => az_pre 157 []) (az_hint ak_t213) (az_leaf ak_k213 ak_h213 none (az_hb 1) (az_rb 1)) 34600 ak_k213.2.2.1.1 ak_k213.2.2.1.2.1 ak_k213.2.2.1.2.2.1 (az_hc ak_k213 (5, 12, (0, 0, 0), szc_157) (0, ak_k213.2.2.1, (0, []), (0, 0))) = true := by decide +kernel
theorem ak_e213_0 : az_ex szP az_inl ak_k213.2.1 ak_t213 ak_k213.2.2.2.2.1 (fun _ => az_pre 157 []) (az_hint ak_t213) (az_leaf ak_k213 ak_h213 (some ak_d213_0.2.2.1) (az_hb 1) (az_rb 1)) 34600 ak_d213_0.2.1.1 ak_d213_0.2.1.2.1 ak_d213_0.2.1.2.2.1 (az_hc ak_k213 (5, 12, (0, 0, 0), szc_157) ak_d213_0) = true := by decide +kernel
set_option maxRecDepth 100000 in
theorem ak_v213 {X : List (List Value)} (hX : az_X X) : az_Valid X ak_k213 := az_validS sz_pkall_szP (q := (5, 12, (0, 0, 0), szc_157)) hX (tb := ak_t213) (fun _ h => by cases h) rfl (hds := ak_h213) (by decide +kernel) (List.forall_mem_cons.mpr ⟨by decide +kernel, fun _ h => by cases h⟩) (fun _ hV => ⟨_, hV, rfl, _, fun _ h => h, ak_e213⟩) (List.forall_mem_cons.mpr ⟨fun _ hV => ⟨_, hV, rfl, _, fun _ h => h, ak_e213_0⟩, fun _ h => by cases h⟩)
/-- Model.newAt -/
def ak_k214 : azCon := (157, 1, ([(0, (0, 0, []), (0, 0, []))], [(1, 1)], [], [(1, 145, []), (0, 2, []), (0, 0, [(0, 1)])], [], [], false), [(some (some (0, 0, [(1, 1)])), [(0, (0, 0, []), (0, 0, [])), (0, (0, 0, []), (0, 0, []))], [(1, 1), (0, 1)], [], [])], [], (0, 0))
def ak_t214 : List azCon := []
def ak_d214_0 : azHd := (4, ([(0, (0, 0, []), (0, 0, [])), (0, (0, 0, []), (0, 0, [])), (0, (0, 0, []), (0, 0, []))], [(1, 1), (0, 1), (0, 9)], [], [(1, 145, []), (0, 2, []), (0, 0, [(0, 1)]), (0, 0, [(1, 1)]), (0, 0, [(2, 1)])], [], [], false), (19, [(2, (-2))]), (0, 0))
def ak_h214 : List azHd := [ak_d214_0]
theorem ak_e214 : az_ex szP az_inl ak_k214.2.1 ak_t214 ak_k214.2.2.2.2.1 (fun _ => az_pre 157 []) (az_hint ak_t214) (az_leaf ak_k214 ak_h214 none (az_hb 1) (az_rb 1)) 34600 ak_k214.2.2.1.1 ak_k214.2.2.1.2.1 ak_k214.2.2.1.2.2.1 (az_hc ak_k214 (5, 12, (0, 0, 0), szc_157) (0, ak_k214.2.2.1, (0, []), (0, 0))) = true := by decide +kernel
theorem ak_e214_0 : az_ex szP az_inl ak_k214.2.1 ak_t214 ak_k214.2.2.2.2.1 (fun _ => az_pre 157 []) (az_hint ak_t214) (az_leaf ak_k214 ak_h214 (some ak_d214_0.2.2.1) (az_hb 1) (az_rb 1)) 34600 ak_d214_0.2.1.1 ak_d214_0.2.1.2.1 ak_d214_0.2.1.2.2.1 (az_hc ak_k214 (5, 12, (0, 0, 0), szc_157) ak_d214_0) = true := by decide +kernel
set_option maxRecDepth 100000 in
theorem ak_v214 {X : List (List Value)} (hX : az_X X) : az_Valid X ak_k214 := az_validS sz_pkall_szP (q := (5, 12, (0, 0, 0), szc_157)) hX (tb := ak_t214) (fun _ h => by cases h) rfl (hds := ak_h214) (by decide +kernel) (List.forall_mem_cons.mpr ⟨by decide +kernel, fun _ h => by cases h⟩) (fun _ hV => ⟨_, hV, rfl, _, fun _ h => h, ak_e214⟩) (List.forall_mem_cons.mpr ⟨fun _ hV => ⟨_, hV, rfl, _, fun _ h => h, ak_e214_0⟩, fun _ h => by cases h⟩)
/-- Model.isFree -/
def ak_k215 : azCon := (158, 0, ([(0, (0, 0, []), (0, 0, []))], [(1, 200)], [], [(1, 145, []), (0, 3, []), (0, 0, [(0, 1)])], [], [], false), [(some (some (0, 0, [(1, 1)])), [(0, (0, 0, []), (0, 0, [])), (0, (0, 0, []), (0, 0, []))], [(1, 200), (0, 1)], [], [])], [], (0, 0))
def ak_t215 : List azCon := []
def ak_d215_0 : azHd := (2, ([(0, (0, 0, []), (0, 0, [])), (0, (0, 0, []), (0, 0, []))], [(1, 200), (0, 9)], [], [(1, 145, []), (0, 3, []), (0, 0, [(0, 1)]), (0, 0, [(1, 1)])], [], [], false), (19, [(1, (-2))]), (0, 0))
def ak_h215 : List azHd := [ak_d215_0]
theorem ak_e215 : az_ex szP az_inl ak_k215.2.1 ak_t215 ak_k215.2.2.2.2.1 (fun _ => az_pre 158 []) (az_hint ak_t215) (az_leaf ak_k215 ak_h215 none (az_hb 1) (az_rb 1)) 2440 ak_k215.2.2.1.1 ak_k215.2.2.1.2.1 ak_k215.2.2.1.2.2.1 (az_hc ak_k215 (4, 12, (0, 0, 0), szc_158) (0, ak_k215.2.2.1, (0, []), (0, 0))) = true := by decide +kernel
theorem ak_e215_0 : az_ex szP az_inl ak_k215.2.1 ak_t215 ak_k215.2.2.2.2.1 (fun _ => az_pre 158 []) (az_hint ak_t215) (az_leaf ak_k215 ak_h215 (some ak_d215_0.2.2.1) (az_hb 1) (az_rb 1)) 2440 ak_d215_0.2.1.1 ak_d215_0.2.1.2.1 ak_d215_0.2.1.2.2.1 (az_hc ak_k215 (4, 12, (0, 0, 0), szc_158) ak_d215_0) = true := by decide +kernel
set_option maxRecDepth 100000 in
theorem ak_v215 {X : List (List Value)} (hX : az_X X) : az_Valid X ak_k215 := az_validS sz_pkall_szP (q := (4, 12, (0, 0, 0), szc_158)) hX (tb := ak_t215) (fun _ h => by cases h) rfl (hds := ak_h215) (by decide +kernel) (List.forall_mem_cons.mpr ⟨by decide +kernel, fun _ h => by cases h⟩) (fun _ hV => ⟨_, hV, rfl, _, fun _ h => h, ak_e215⟩) (List.forall_mem_cons.mpr ⟨fun _ hV => ⟨_, hV, rfl, _, fun _ h => h, ak_e215_0⟩, fun _ h => by cases h⟩)
