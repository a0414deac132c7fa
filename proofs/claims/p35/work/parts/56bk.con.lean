/-! contracts: written by wip/A/gen56.py -/
/-- .fitsFor -/
def ak_k150 : azCon := (65, 6, ([(0, (0, 0, []), (0, 0, [])), (0, (0, 0, []), (0, 0, []))], [(1, 21), (1, 60)], [], [(1, 4, []), (0, 0, [(0, 1)]), (0, 0, [(1, 1)])], [], [], false), [(some (some (0, 0, [(2, 1)])), [(0, (0, 0, []), (0, 0, [])), (0, (0, 0, []), (0, 0, [])), (0, (0, 0, []), (0, 0, []))], [(1, 21), (1, 60), (0, 1)], [], [])], [(28, 0), (29, 0), (30, 0), (31, 0), (34, 0), (35, 0), (7, 0)], (0, 0))
def ak_t150 : List azCon := [ak_k149]
def ak_h150 : List azHd := []
theorem ak_e150 : az_ex szP az_inl ak_k150.2.1 ak_t150 ak_k150.2.2.2.2.1 (fun _ => az_pre 65 []) (az_hint ak_t150) (az_leaf ak_k150 ak_h150 none (az_hb 2) (az_rb 2)) 687640 ak_k150.2.2.1.1 ak_k150.2.2.1.2.1 ak_k150.2.2.1.2.2.1 (az_hc ak_k150 (7, 11, (0, 0, 0), szc_65) (0, ak_k150.2.2.1, (0, []), (0, 0))) = true := by decide +kernel
set_option maxRecDepth 100000 in
theorem ak_v150 {X : List (List Value)} (hX : az_X X) : az_Valid X ak_k150 := az_valid sz_pkall_szP (q := (7, 11, (0, 0, 0), szc_65)) hX (tb := ak_t150) (List.forall_mem_cons.mpr ⟨ak_v149 hX, fun _ h => by cases h⟩) rfl (hds := ak_h150) (by decide +kernel) (fun _ h => by cases h) ak_e150 (fun _ h => by cases h)
