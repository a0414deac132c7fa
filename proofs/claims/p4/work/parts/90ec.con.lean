/-! contracts: written by wip/A/gen56.py -/
/-- Model.newAt -/
def ak_k216 : azCon := (157, 1, ([(0, (0, 0, []), (0, 0, []))], [(0, 0)], [], [(1, 145, []), (0, 3, []), (0, 0, [(0, 1)])], [], [], false), [(some (some (0, 0, [(1, 1)])), [(0, (0, 0, []), (0, 0, [])), (0, (0, 0, []), (0, 0, []))], [(0, 0), (0, 1)], [], [])], [], (0, 0))
def ak_t216 : List azCon := []
def ak_d216_0 : azHd := (4, ([(0, (0, 0, []), (0, 0, [])), (0, (0, 0, []), (0, 0, [])), (0, (0, 0, []), (0, 0, []))], [(0, 0), (0, 1), (0, 9)], [], [(1, 145, []), (0, 3, []), (0, 0, [(0, 1)]), (0, 0, [(1, 1)]), (0, 0, [(2, 1)])], [], [], false), (19, [(2, (-2))]), (0, 0))
def ak_h216 : List azHd := [ak_d216_0]
theorem ak_e216 : az_ex szP az_inl ak_k216.2.1 ak_t216 ak_k216.2.2.2.2.1 (fun _ => az_pre 157 []) (az_hint ak_t216) (az_leaf ak_k216 ak_h216 none (az_hb 1) (az_rb 1)) 34600 ak_k216.2.2.1.1 ak_k216.2.2.1.2.1 ak_k216.2.2.1.2.2.1 (az_hc ak_k216 (5, 12, (0, 0, 0), szc_157) (0, ak_k216.2.2.1, (0, []), (0, 0))) = true := by decide +kernel
theorem ak_e216_0 : az_ex szP az_inl ak_k216.2.1 ak_t216 ak_k216.2.2.2.2.1 (fun _ => az_pre 157 []) (az_hint ak_t216) (az_leaf ak_k216 ak_h216 (some ak_d216_0.2.2.1) (az_hb 1) (az_rb 1)) 34600 ak_d216_0.2.1.1 ak_d216_0.2.1.2.1 ak_d216_0.2.1.2.2.1 (az_hc ak_k216 (5, 12, (0, 0, 0), szc_157) ak_d216_0) = true := by decide +kernel
set_option maxRecDepth 100000 in
theorem ak_v216 {X : List (List Value)} (hX : az_X X) : az_Valid X ak_k216 := az_validS sz_pkall_szP (q := (5, 12, (0, 0, 0), szc_157)) hX (tb := ak_t216) (fun _ h => by cases h) rfl (hds := ak_h216) (by decide +kernel) (List.forall_mem_cons.mpr ⟨by decide +kernel, fun _ h => by cases h⟩) (fun _ hV => ⟨_, hV, rfl, _, fun _ h => h, ak_e216⟩) (List.forall_mem_cons.mpr ⟨fun _ hV => ⟨_, hV, rfl, _, fun _ h => h, ak_e216_0⟩, fun _ h => by cases h⟩)
/-- Model.newAt -/
def ak_k217 : azCon := (157, 1, ([(0, (0, 0, []), (0, 0, []))], [(1, 1)], [], [(1, 145, []), (0, 3, []), (0, 0, [(0, 1)])], [], [], false), [(some (some (0, 0, [(1, 1)])), [(0, (0, 0, []), (0, 0, [])), (0, (0, 0, []), (0, 0, []))], [(1, 1), (0, 1)], [], [])], [], (0, 0))
def ak_t217 : List azCon := []
def ak_d217_0 : azHd := (4, ([(0, (0, 0, []), (0, 0, [])), (0, (0, 0, []), (0, 0, [])), (0, (0, 0, []), (0, 0, []))], [(1, 1), (0, 1), (0, 9)], [], [(1, 145, []), (0, 3, []), (0, 0, [(0, 1)]), (0, 0, [(1, 1)]), (0, 0, [(2, 1)])], [], [], false), (19, [(2, (-2))]), (0, 0))
def ak_h217 : List azHd := [ak_d217_0]
theorem ak_e217 : az_ex szP az_inl ak_k217.2.1 ak_t217 ak_k217.2.2.2.2.1 (fun _ => az_pre 157 []) (az_hint ak_t217) (az_leaf ak_k217 ak_h217 none (az_hb 1) (az_rb 1)) 34600 ak_k217.2.2.1.1 ak_k217.2.2.1.2.1 ak_k217.2.2.1.2.2.1 (az_hc ak_k217 (5, 12, (0, 0, 0), szc_157) (0, ak_k217.2.2.1, (0, []), (0, 0))) = true := by decide +kernel
theorem ak_e217_0 : az_ex szP az_inl ak_k217.2.1 ak_t217 ak_k217.2.2.2.2.1 (fun _ => az_pre 157 []) (az_hint ak_t217) (az_leaf ak_k217 ak_h217 (some ak_d217_0.2.2.1) (az_hb 1) (az_rb 1)) 34600 ak_d217_0.2.1.1 ak_d217_0.2.1.2.1 ak_d217_0.2.1.2.2.1 (az_hc ak_k217 (5, 12, (0, 0, 0), szc_157) ak_d217_0) = true := by decide +kernel
set_option maxRecDepth 100000 in
theorem ak_v217 {X : List (List Value)} (hX : az_X X) : az_Valid X ak_k217 := az_validS sz_pkall_szP (q := (5, 12, (0, 0, 0), szc_157)) hX (tb := ak_t217) (fun _ h => by cases h) rfl (hds := ak_h217) (by decide +kernel) (List.forall_mem_cons.mpr ⟨by decide +kernel, fun _ h => by cases h⟩) (fun _ hV => ⟨_, hV, rfl, _, fun _ h => h, ak_e217⟩) (List.forall_mem_cons.mpr ⟨fun _ hV => ⟨_, hV, rfl, _, fun _ h => h, ak_e217_0⟩, fun _ h => by cases h⟩)
/-- Model.isFree -/
def ak_k218 : azCon := (158, 0, ([(0, (0, 0, []), (0, 0, []))], [(1, 200)], [], [(1, 145, []), (0, 4, []), (0, 0, [(0, 1)])], [], [], false), [(some (some (0, 0, [(1, 1)])), [(0, (0, 0, []), (0, 0, [])), (0, (0, 0, []), (0, 0, []))], [(1, 200), (0, 1)], [], [])], [], (0, 0))
def ak_t218 : List azCon := []
def ak_d218_0 : azHd := (2, ([(0, (0, 0, []), (0, 0, [])), (0, (0, 0, []), (0, 0, []))], [(1, 200), (0, 9)], [], [(1, 145, []), (0, 4, []), (0, 0, [(0, 1)]), (0, 0, [(1, 1)])], [], [], false), (19, [(1, (-2))]), (0, 0))
def ak_h218 : List azHd := [ak_d218_0]
theorem ak_e218 : az_ex szP az_inl ak_k218.2.1 ak_t218 ak_k218.2.2.2.2.1 (fun _ => az_pre 158 []) (az_hint ak_t218) (az_leaf ak_k218 ak_h218 none (az_hb 1) (az_rb 1)) 2440 ak_k218.2.2.1.1 ak_k218.2.2.1.2.1 ak_k218.2.2.1.2.2.1 (az_hc ak_k218 (4, 12, (0, 0, 0), szc_158) (0, ak_k218.2.2.1, (0, []), (0, 0))) = true := by decide +kernel
theorem ak_e218_0 : az_ex szP az_inl ak_k218.2.1 ak_t218 ak_k218.2.2.2.2.1 (fun _ => az_pre 158 []) (az_hint ak_t218) (az_leaf ak_k218 ak_h218 (some ak_d218_0.2.2.1) (az_hb 1) (az_rb 1)) 2440 ak_d218_0.2.1.1 ak_d218_0.2.1.2.1 ak_d218_0.2.1.2.2.1 (az_hc ak_k218 (4, 12, (0, 0, 0), szc_158) ak_d218_0) = true := by decide +kernel
set_option maxRecDepth 100000 in
theorem ak_v218 {X : List (List Value)} (hX : az_X X) : az_Valid X ak_k218 := az_validS sz_pkall_szP (q := (4, 12, (0, 0, 0), szc_158)) hX (tb := ak_t218) (fun _ h => by cases h) rfl (hds := ak_h218) (by decide +kernel) (List.forall_mem_cons.mpr ⟨by decide +kernel, fun _ h => by cases h⟩) (fun _ hV => ⟨_, hV, rfl, _, fun _ h => h, ak_e218⟩) (List.forall_mem_cons.mpr ⟨fun _ hV => ⟨_, hV, rfl, _, fun _ h => h, ak_e218_0⟩, fun _ h => by cases h⟩)
