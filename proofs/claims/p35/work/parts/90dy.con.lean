/-! contracts: written by wip/A/gen56.py -/
/-- Model.addressIn -/
def ak_k200 : azCon := (136, 1, ([(0, (0, 0, []), (0, 0, [])), (0, (0, 0, []), (0, 0, []))], [(0, 9), (0, 0)], [], [(1, 145, []), (0, 0, [(0, 1)]), (0, 0, [(1, 1)])], [], [], false), [(some (some (0, 0, [(2, 1)])), [(0, (0, 0, []), (0, 0, [])), (0, (0, 0, []), (0, 0, [])), (0, (0, 0, []), (0, 0, []))], [(0, 9), (0, 0), ((-80), 80)], [], [])], [], (0, 0))
def ak_t200 : List azCon := []
def ak_h200 : List azHd := []
theorem ak_e200 : az_ex szP az_inl ak_k200.2.1 ak_t200 ak_k200.2.2.2.2.1 (fun _ => az_pre 136 []) (az_hint ak_t200) (az_leaf ak_k200 ak_h200 none (az_hb 2) (az_rb 2)) 43450 ak_k200.2.2.1.1 ak_k200.2.2.1.2.1 ak_k200.2.2.1.2.2.1 (az_hc ak_k200 (7, 12, (0, 0, 0), szc_136) (0, ak_k200.2.2.1, (0, []), (0, 0))) = true := by decide +kernel
set_option maxRecDepth 100000 in
theorem ak_v200 {X : List (List Value)} (hX : az_X X) : az_Valid X ak_k200 := az_validS sz_pkall_szP (q := (7, 12, (0, 0, 0), szc_136)) hX (tb := ak_t200) (fun _ h => by cases h) rfl (hds := ak_h200) (by decide +kernel) (fun _ h => by cases h) (fun _ hV => ⟨_, hV, rfl, _, fun _ h => h, ak_e200⟩) (fun _ h => by cases h)
/-- Model.address -/
def ak_k201 : azCon := (137, 2, ([(0, (0, 0, []), (0, 0, []))], [((-2147483648), 2147483647)], [], [(1, 145, []), (0, 0, [(0, 1)])], [], [], false), [(some (some (0, 0, [(1, 1)])), [(0, (0, 0, []), (0, 0, [])), (0, (0, 0, []), (0, 0, []))], [((-2147483648), 2147483647), ((-1), 2)], [], [])], [(141, 5), (141, 6), (144, 0)], (0, 0))
def ak_t201 : List azCon := [ak_k199, ak_k200]
def ak_h201 : List azHd := []
theorem ak_e201 : az_ex szP az_inl ak_k201.2.1 ak_t201 ak_k201.2.2.2.2.1 (fun _ => az_pre 137 []) (az_hint ak_t201) (az_leaf ak_k201 ak_h201 none (az_hb 1) (az_rb 1)) 3130 ak_k201.2.2.1.1 ak_k201.2.2.1.2.1 ak_k201.2.2.1.2.2.1 (az_hc ak_k201 (3, 12, (0, 0, 0), szc_137) (0, ak_k201.2.2.1, (0, []), (0, 0))) = true := by decide +kernel
set_option maxRecDepth 100000 in
theorem ak_v201 {X : List (List Value)} (hX : az_X X) : az_Valid X ak_k201 := az_validS sz_pkall_szP (q := (3, 12, (0, 0, 0), szc_137)) hX (tb := ak_t201) (List.forall_mem_cons.mpr ⟨ak_v199 hX, List.forall_mem_cons.mpr ⟨ak_v200 hX, fun _ h => by cases h⟩⟩) rfl (hds := ak_h201) (by decide +kernel) (fun _ h => by cases h) (fun _ hV => ⟨_, hV, rfl, _, fun _ h => h, ak_e201⟩) (fun _ h => by cases h)
/-- Model.tellTicks -/
def ak_k202 : azCon := (146, 1, ([], [], [], [(1, 145, [])], [], [], false), [(some none, [(0, (0, 0, []), (0, 0, []))], [(0, 10)], [], [(141, (4, []), (0, 0, [(0, 1)]))])], [(141, 5), (144, 0)], (0, 0))
def ak_t202 : List azCon := []
def ak_h202 : List azHd := []
theorem ak_e202 : az_ex szP az_inl ak_k202.2.1 ak_t202 ak_k202.2.2.2.2.1 (fun _ => az_pre 146 []) (az_hint ak_t202) (az_leaf ak_k202 ak_h202 none (az_hb 0) (az_rb 0)) 10660 ak_k202.2.2.1.1 ak_k202.2.2.1.2.1 ak_k202.2.2.1.2.2.1 (az_hc ak_k202 (2, 12, (0, 0, 0), szc_146) (0, ak_k202.2.2.1, (0, []), (0, 0))) = true := by decide +kernel
set_option maxRecDepth 100000 in
theorem ak_v202 {X : List (List Value)} (hX : az_X X) : az_Valid X ak_k202 := az_validS sz_pkall_szP (q := (2, 12, (0, 0, 0), szc_146)) hX (tb := ak_t202) (fun _ h => by cases h) rfl (hds := ak_h202) (by decide +kernel) (fun _ h => by cases h) (fun _ hV => ⟨_, hV, rfl, _, fun _ h => h, ak_e202⟩) (fun _ h => by cases h)
/-- Model.longBy -/
def ak_k203 : azCon := (124, 3, ([], [], [], [(1, 145, []), (1, 157, [])], [], [], false), [(some (some (0, 0, [(0, 1)])), [(0, (0, 0, []), (0, 0, []))], [(0, 10000)], [], [])], [], (0, 0))
def ak_t203 : List azCon := [ak_k193]
def ak_d203_0 : azHd := (4, ([(0, (0, 0, []), (0, 0, [])), (0, (0, 0, []), (0, 0, []))], [(0, 100000), (0, 10)], [], [(1, 145, []), (1, 157, []), (0, 0, [(0, 1)]), (0, 0, [(1, 1)])], [], [], false), (21, [(1, (-2))]), (0, 0))
def ak_h203 : List azHd := [ak_d203_0]
theorem ak_e203 : az_ex szP az_inl ak_k203.2.1 ak_t203 ak_k203.2.2.2.2.1 (fun _ => az_pre 124 []) (az_hint ak_t203) (az_leaf ak_k203 ak_h203 none (az_hb 0) (az_rb 0)) 2350 ak_k203.2.2.1.1 ak_k203.2.2.1.2.1 ak_k203.2.2.1.2.2.1 (az_hc ak_k203 (4, 12, (0, 0, 0), szc_124) (0, ak_k203.2.2.1, (0, []), (0, 0))) = true := by decide +kernel
theorem ak_e203_0 : az_ex szP az_inl ak_k203.2.1 ak_t203 ak_k203.2.2.2.2.1 (fun _ => az_pre 124 []) (az_hint ak_t203) (az_leaf ak_k203 ak_h203 (some ak_d203_0.2.2.1) (az_hb 0) (az_rb 0)) 2350 ak_d203_0.2.1.1 ak_d203_0.2.1.2.1 ak_d203_0.2.1.2.2.1 (az_hc ak_k203 (4, 12, (0, 0, 0), szc_124) ak_d203_0) = true := by decide +kernel
set_option maxRecDepth 100000 in
theorem ak_v203 {X : List (List Value)} (hX : az_X X) : az_Valid X ak_k203 := az_validS sz_pkall_szP (q := (4, 12, (0, 0, 0), szc_124)) hX (tb := ak_t203) (List.forall_mem_cons.mpr ⟨ak_v193 hX, fun _ h => by cases h⟩) rfl (hds := ak_h203) (by decide +kernel) (List.forall_mem_cons.mpr ⟨by decide +kernel, fun _ h => by cases h⟩) (fun _ hV => ⟨_, hV, rfl, _, fun _ h => h, ak_e203⟩) (List.forall_mem_cons.mpr ⟨fun _ hV => ⟨_, hV, rfl, _, fun _ h => h, ak_e203_0⟩, fun _ h => by cases h⟩)
