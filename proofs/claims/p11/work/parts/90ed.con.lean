/-! contracts: written by wip/A/gen56.py -/
/-- Model.newAt -/
def ak_k219 : azCon := (157, 1, ([(0, (0, 0, []), (0, 0, []))], [(0, 0)], [], [(1, 145, []), (0, 4, []), (0, 0, [(0, 1)])], [], [], false), [(some (some (0, 0, [(1, 1)])), [(0, (0, 0, []), (0, 0, [])), (0, (0, 0, []), (0, 0, []))], [(0, 0), (0, 1)], [], [])], [], (0, 0))
def ak_t219 : List azCon := []
def ak_d219_0 : azHd := (4, ([(0, (0, 0, []), (0, 0, [])), (0, (0, 0, []), (0, 0, [])), (0, (0, 0, []), (0, 0, []))], [(0, 0), (0, 1), (0, 9)], [], [(1, 145, []), (0, 4, []), (0, 0, [(0, 1)]), (0, 0, [(1, 1)]), (0, 0, [(2, 1)])], [], [], false), (19, [(2, (-2))]), (0, 0))
def ak_h219 : List azHd := [ak_d219_0]
theorem ak_e219 : az_ex szP az_inl ak_k219.2.1 ak_t219 ak_k219.2.2.2.2.1 (fun _ => az_pre 157 []) (az_hint ak_t219) (az_leaf ak_k219 ak_h219 none (az_hb 1) (az_rb 1)) 34600 ak_k219.2.2.1.1 ak_k219.2.2.1.2.1 ak_k219.2.2.1.2.2.1 (az_hc ak_k219 (5, 12, (0, 0, 0), szc_157) (0, ak_k219.2.2.1, (0, []), (0, 0))) = true := by decide +kernel
theorem ak_e219_0 : az_ex szP az_inl ak_k219.2.1 ak_t219 ak_k219.2.2.2.2.1 (fun _ => az_pre 157 []) (az_hint ak_t219) (az_leaf ak_k219 ak_h219 (some ak_d219_0.2.2.1) (az_hb 1) (az_rb 1)) 34600 ak_d219_0.2.1.1 ak_d219_0.2.1.2.1 ak_d219_0.2.1.2.2.1 (az_hc ak_k219 (5, 12, (0, 0, 0), szc_157) ak_d219_0) = true := by decide +kernel
set_option maxRecDepth 100000 in
theorem ak_v219 {X : List (List Value)} (hX : az_X X) : az_Valid X ak_k219 := az_validS sz_pkall_szP (q := (5, 12, (0, 0, 0), szc_157)) hX (tb := ak_t219) (fun _ h => by cases h) rfl (hds := ak_h219) (by decide +kernel) (List.forall_mem_cons.mpr ⟨by decide +kernel, fun _ h => by cases h⟩) (fun _ hV => ⟨_, hV, rfl, _, fun _ h => h, ak_e219⟩) (List.forall_mem_cons.mpr ⟨fun _ hV => ⟨_, hV, rfl, _, fun _ h => h, ak_e219_0⟩, fun _ h => by cases h⟩)
/-- Model.newAt -/
def ak_k220 : azCon := (157, 1, ([(0, (0, 0, []), (0, 0, []))], [(1, 1)], [], [(1, 145, []), (0, 4, []), (0, 0, [(0, 1)])], [], [], false), [(some (some (0, 0, [(1, 1)])), [(0, (0, 0, []), (0, 0, [])), (0, (0, 0, []), (0, 0, []))], [(1, 1), (0, 1)], [], [])], [], (0, 0))
def ak_t220 : List azCon := []
def ak_d220_0 : azHd := (4, ([(0, (0, 0, []), (0, 0, [])), (0, (0, 0, []), (0, 0, [])), (0, (0, 0, []), (0, 0, []))], [(1, 1), (0, 1), (0, 9)], [], [(1, 145, []), (0, 4, []), (0, 0, [(0, 1)]), (0, 0, [(1, 1)]), (0, 0, [(2, 1)])], [], [], false), (19, [(2, (-2))]), (0, 0))
def ak_h220 : List azHd := [ak_d220_0]
theorem ak_e220 : az_ex szP az_inl ak_k220.2.1 ak_t220 ak_k220.2.2.2.2.1 (fun _ => az_pre 157 []) (az_hint ak_t220) (az_leaf ak_k220 ak_h220 none (az_hb 1) (az_rb 1)) 34600 ak_k220.2.2.1.1 ak_k220.2.2.1.2.1 ak_k220.2.2.1.2.2.1 (az_hc ak_k220 (5, 12, (0, 0, 0), szc_157) (0, ak_k220.2.2.1, (0, []), (0, 0))) = true := by decide +kernel
theorem ak_e220_0 : az_ex szP az_inl ak_k220.2.1 ak_t220 ak_k220.2.2.2.2.1 (fun _ => az_pre 157 []) (az_hint ak_t220) (az_leaf ak_k220 ak_h220 (some ak_d220_0.2.2.1) (az_hb 1) (az_rb 1)) 34600 ak_d220_0.2.1.1 ak_d220_0.2.1.2.1 ak_d220_0.2.1.2.2.1 (az_hc ak_k220 (5, 12, (0, 0, 0), szc_157) ak_d220_0) = true := by decide +kernel
set_option maxRecDepth 100000 in
theorem ak_v220 {X : List (List Value)} (hX : az_X X) : az_Valid X ak_k220 := az_validS sz_pkall_szP (q := (5, 12, (0, 0, 0), szc_157)) hX (tb := ak_t220) (fun _ h => by cases h) rfl (hds := ak_h220) (by decide +kernel) (List.forall_mem_cons.mpr ⟨by decide +kernel, fun _ h => by cases h⟩) (fun _ hV => ⟨_, hV, rfl, _, fun _ h => h, ak_e220⟩) (List.forall_mem_cons.mpr ⟨fun _ hV => ⟨_, hV, rfl, _, fun _ h => h, ak_e220_0⟩, fun _ h => by cases h⟩)
/-- Model.isFree -/
def ak_k221 : azCon := (158, 0, ([(0, (0, 0, []), (0, 0, []))], [(1, 200)], [], [(1, 145, []), (0, 5, []), (0, 0, [(0, 1)])], [], [], false), [(some (some (0, 0, [(1, 1)])), [(0, (0, 0, []), (0, 0, [])), (0, (0, 0, []), (0, 0, []))], [(1, 200), (0, 1)], [], [])], [], (0, 0))
def ak_t221 : List azCon := []
def ak_d221_0 : azHd := (2, ([(0, (0, 0, []), (0, 0, [])), (0, (0, 0, []), (0, 0, []))], [(1, 200), (0, 9)], [], [(1, 145, []), (0, 5, []), (0, 0, [(0, 1)]), (0, 0, [(1, 1)])], [], [], false), (19, [(1, (-2))]), (0, 0))
def ak_h221 : List azHd := [ak_d221_0]
theorem ak_e221 : az_ex szP az_inl ak_k221.2.1 ak_t221 ak_k221.2.2.2.2.1 (fun _ => az_pre 158 []) (az_hint ak_t221) (az_leaf ak_k221 ak_h221 none (az_hb 1) (az_rb 1)) 2440 ak_k221.2.2.1.1 ak_k221.2.2.1.2.1 ak_k221.2.2.1.2.2.1 (az_hc ak_k221 (4, 12, (0, 0, 0), szc_158) (0, ak_k221.2.2.1, (0, []), (0, 0))) = true := by decide +kernel
theorem ak_e221_0 : az_ex szP az_inl ak_k221.2.1 ak_t221 ak_k221.2.2.2.2.1 (fun _ => az_pre 158 []) (az_hint ak_t221) (az_leaf ak_k221 ak_h221 (some ak_d221_0.2.2.1) (az_hb 1) (az_rb 1)) 2440 ak_d221_0.2.1.1 ak_d221_0.2.1.2.1 ak_d221_0.2.1.2.2.1 (az_hc ak_k221 (4, 12, (0, 0, 0), szc_158) ak_d221_0) = true := by decide +kernel
set_option maxRecDepth 100000 in
theorem ak_v221 {X : List (List Value)} (hX : az_X X) : az_Valid X ak_k221 := az_validS sz_pkall_szP (q := (4, 12, (0, 0, 0), szc_158)) hX (tb := ak_t221) (fun _ h => by cases h) rfl (hds := ak_h221) (by decide +kernel) (List.forall_mem_cons.mpr ⟨by decide +kernel, fun _ h => by cases h⟩) (fun _ hV => ⟨_, hV, rfl, _, fun _ h => h, ak_e221⟩) (List.forall_mem_cons.mpr ⟨fun _ hV => ⟨_, hV, rfl, _, fun _ h => h, ak_e221_0⟩, fun _ h => by cases h⟩)
