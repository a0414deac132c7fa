/-! contracts: written by wip/A/gen56.py -/
/-- Model.sortMany -/
def ak_k253 : azCon := (179, 1, ([(0, (0, 0, []), (0, 0, []))], [(1, 9)], [], [(1, 145, []), (0, 0, [(0, 1)])], [], [], false), [(some (some (0, 0, [(1, 1)])), [(0, (0, 0, []), (0, 0, [])), (0, (0, 0, []), (0, 0, []))], [(1, 9), ((-2147483648), 2147483647)], [], [])], [], (0, 0))
def ak_t253 : List azCon := []
def ak_d253_0 : azHd := (4, ([(0, (0, 0, []), (0, 0, [])), (0, (0, 0, []), (0, 0, [])), (0, (0, 0, []), (0, 0, []))], [(1, 9), ((-2147483648), 2147483647), (0, 10)], [], [(1, 145, []), (0, 0, [(0, 1)]), (0, 0, [(1, 1)]), (0, 0, [(2, 1)])], [], [], false), (21, [(2, (-2))]), (0, 0))
def ak_h253 : List azHd := [ak_d253_0]
theorem ak_e253 : az_ex szP az_inl ak_k253.2.1 ak_t253 ak_k253.2.2.2.2.1 (fun _ => az_pre 179 []) (az_hint ak_t253) (az_leaf ak_k253 ak_h253 none (az_hb 1) (az_rb 1)) 7720 ak_k253.2.2.1.1 ak_k253.2.2.1.2.1 ak_k253.2.2.1.2.2.1 (az_hc ak_k253 (4, 12, (0, 0, 0), szc_179) (0, ak_k253.2.2.1, (0, []), (0, 0))) = true := by decide +kernel
theorem ak_e253_0 : az_ex szP az_inl ak_k253.2.1 ak_t253 ak_k253.2.2.2.2.1 (fun _ => az_pre 179 []) (az_hint ak_t253) (az_leaf ak_k253 ak_h253 (some ak_d253_0.2.2.1) (az_hb 1) (az_rb 1)) 7720 ak_d253_0.2.1.1 ak_d253_0.2.1.2.1 ak_d253_0.2.1.2.2.1 (az_hc ak_k253 (4, 12, (0, 0, 0), szc_179) ak_d253_0) = true := by decide +kernel
set_option maxRecDepth 100000 in
theorem ak_v253 {X : List (List Value)} (hX : az_X X) : az_Valid X ak_k253 := az_valid sz_pkall_szP (q := (4, 12, (0, 0, 0), szc_179)) hX (tb := ak_t253) (fun _ h => by cases h) rfl (hds := ak_h253) (by decide +kernel) (List.forall_mem_cons.mpr ⟨by decide +kernel, fun _ h => by cases h⟩) ak_e253 (List.forall_mem_cons.mpr ⟨ak_e253_0, fun _ h => by cases h⟩)
/-- Model.count -/
def ak_k254 : azCon := (180, 3, ([(0, (0, 0, []), (0, 0, []))], [((-2147483648), 2147483647)], [], [(1, 145, []), (0, 0, [(0, 1)])], [], [], false), [(some (some (0, 0, [(1, 1)])), [(0, (0, 0, []), (0, 0, [])), (0, (0, 0, []), (0, 0, []))], [((-2147483648), 2147483647), ((-2147483648), 2147483647)], [], [])], [(141, 6)], (0, 0))
def ak_t254 : List azCon := [ak_k192, ak_k253]
def ak_h254 : List azHd := []
theorem ak_e254 : az_ex szP az_inl ak_k254.2.1 ak_t254 ak_k254.2.2.2.2.1 (fun _ => az_pre 180 []) (az_hint ak_t254) (az_leaf ak_k254 ak_h254 none (az_hb 1) (az_rb 1)) 3610 ak_k254.2.2.1.1 ak_k254.2.2.1.2.1 ak_k254.2.2.1.2.2.1 (az_hc ak_k254 (2, 12, (0, 0, 0), szc_180) (0, ak_k254.2.2.1, (0, []), (0, 0))) = true := by decide +kernel
set_option maxRecDepth 100000 in
theorem ak_v254 {X : List (List Value)} (hX : az_X X) : az_Valid X ak_k254 := az_valid sz_pkall_szP (q := (2, 12, (0, 0, 0), szc_180)) hX (tb := ak_t254) (List.forall_mem_cons.mpr ⟨ak_v192 hX, List.forall_mem_cons.mpr ⟨ak_v253 hX, fun _ h => by cases h⟩⟩) rfl (hds := ak_h254) (by decide +kernel) (fun _ h => by cases h) ak_e254 (fun _ h => by cases h)
