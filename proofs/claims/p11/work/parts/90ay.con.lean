/-! contracts: written by wip/A/gen56.py -/
/-- $Binder.bindFrom -/
def ak_k122 : azCon := (185, 6, ([(0, (0, 0, []), (0, 0, [])), (0, (0, 0, []), (0, 0, []))], [(0, 22), (0, 4)], [], [(1, 46, []), (0, 7, []), (0, 0, [(0, 1)]), (0, 0, [(1, 1)])], [], [], false), [(some none, [(0, (0, 0, []), (0, 0, [])), (0, (0, 0, []), (0, 0, []))], [(0, 22), (0, 4)], [], [])], [(42, 6), (43, 0), (44, 0), (48, 0), (49, 0), (50, 0)], (0, 0))
def ak_t122 : List azCon := [ak_k121]
def ak_d122_0 : azHd := (24, ([(0, (0, 0, []), (0, 0, [])), (0, (0, 0, []), (0, 0, [])), (0, (0, 0, []), (0, 0, []))], [(0, 20), (0, 4), (0, 9)], [], [(1, 46, []), (0, 7, []), (0, 0, [(0, 1)]), (0, 0, [(1, 1)]), (0, 0, [(2, 1)])], [], [], false), (19, [(2, (-2))]), (0, 0))
def ak_h122 : List azHd := [ak_d122_0]
theorem ak_e122 : az_ex szP az_inl ak_k122.2.1 ak_t122 ak_k122.2.2.2.2.1 (fun _ => az_pre 185 []) (az_hint ak_t122) (az_leaf ak_k122 ak_h122 none (az_hb 2) (az_rb 2)) 3160 ak_k122.2.2.1.1 ak_k122.2.2.1.2.1 ak_k122.2.2.1.2.2.1 (az_hc ak_k122 (5, 1, (0, 0, 0), szc_185) (0, ak_k122.2.2.1, (0, []), (0, 0))) = true := by decide +kernel
theorem ak_e122_0 : az_ex szP az_inl ak_k122.2.1 ak_t122 ak_k122.2.2.2.2.1 (fun _ => az_pre 185 []) (az_hint ak_t122) (az_leaf ak_k122 ak_h122 (some ak_d122_0.2.2.1) (az_hb 2) (az_rb 2)) 3160 ak_d122_0.2.1.1 ak_d122_0.2.1.2.1 ak_d122_0.2.1.2.2.1 (az_hc ak_k122 (5, 1, (0, 0, 0), szc_185) ak_d122_0) = true := by decide +kernel
set_option maxRecDepth 100000 in
theorem ak_v122 {X : List (List Value)} (hX : az_X X) : az_Valid X ak_k122 := az_validS sz_pkall_szP (q := (5, 1, (0, 0, 0), szc_185)) hX (tb := ak_t122) (List.forall_mem_cons.mpr ⟨ak_v121 hX, fun _ h => by cases h⟩) rfl (hds := ak_h122) (by decide +kernel) (List.forall_mem_cons.mpr ⟨by decide +kernel, fun _ h => by cases h⟩) (fun _ hV => ⟨_, hV, rfl, _, fun _ h => h, ak_e122⟩) (List.forall_mem_cons.mpr ⟨fun _ hV => ⟨_, hV, rfl, _, fun _ h => h, ak_e122_0⟩, fun _ h => by cases h⟩)
