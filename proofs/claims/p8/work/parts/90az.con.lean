/-! contracts: written by wip/A/gen56.py -/
/-- $Binder.bindTo -/
def ak_k123 : azCon := (186, 7, ([(0, (0, 0, []), (0, 0, [])), (0, (0, 0, []), (0, 0, [])), (0, (0, 0, []), (0, 0, []))], [(0, 3), (0, 20), (0, 4)], [], [(1, 46, []), (0, 0, [(0, 1)]), (0, 6, []), (0, 0, [(1, 1)]), (0, 0, [(2, 1)])], [], [], false), [(some none, [(0, (0, 0, []), (0, 0, [])), (0, (0, 0, []), (0, 0, [])), (0, (0, 0, []), (0, 0, []))], [(0, 3), (0, 20), (0, 4)], [], [])], [(42, 6), (43, 0), (44, 0), (48, 0), (49, 0), (50, 0)], (0, 0))
def ak_t123 : List azCon := [ak_k122]
def ak_h123 : List azHd := []
theorem ak_e123 : az_ex szP az_inl ak_k123.2.1 ak_t123 ak_k123.2.2.2.2.1 (fun _ => az_pre 186 []) (az_hint ak_t123) (az_leaf ak_k123 ak_h123 none (az_hb 3) (az_rb 3)) 94750 ak_k123.2.2.1.1 ak_k123.2.2.1.2.1 ak_k123.2.2.1.2.2.1 (az_hc ak_k123 (12, 1, (0, 0, 0), szc_186) (0, ak_k123.2.2.1, (0, []), (0, 0))) = true := by decide +kernel
set_option maxRecDepth 100000 in
theorem ak_v123 {X : List (List Value)} (hX : az_X X) : az_Valid X ak_k123 := az_validS sz_pkall_szP (q := (12, 1, (0, 0, 0), szc_186)) hX (tb := ak_t123) (List.forall_mem_cons.mpr ⟨ak_v122 hX, fun _ h => by cases h⟩) rfl (hds := ak_h123) (by decide +kernel) (fun _ h => by cases h) (fun _ hV => ⟨_, hV, rfl, _, fun _ h => h, ak_e123⟩) (fun _ h => by cases h)
