/-! contracts: written by wip/A/gen56.py -/
/-- .fitsFor -/
def ak_k150 : azCon := (65, 6, ([(0, (0, 0, []), (0, 0, [])), (0, (0, 0, []), (0, 0, []))], [(1, 21), (1, 60)], [], [(1, 4, []), (0, 0, [(0, 1)]), (0, 0, [(1, 1)])], [], [], false), [(some (some (0, 0, [(2, 1)])), [(0, (0, 0, []), (0, 0, [])), (0, (0, 0, []), (0, 0, [])), (0, (0, 0, []), (0, 0, []))], [(1, 21), (1, 60), (0, 1)], [], [])], [(28, 0), (29, 0), (30, 0), (31, 0), (34, 0), (35, 0), (7, 0)], (0, 0))
def ak_t150 : List azCon := [ak_k149]
def ak_h150 : List azHd := []
theorem ak_e150_s0 : az_ex szP az_inl ak_k150.2.1 ak_t150 ak_k150.2.2.2.2.1 (fun _ => az_pre 65 []) (az_hint ak_t150) (az_leaf ak_k150 ak_h150 none (az_hb 2) (az_rb 2)) 687640 ak_k150.2.2.1.1 [(1, 1), (1, 60)] ak_k150.2.2.1.2.2.1 (az_hc ak_k150 (7, 11, (0, 0, 0), szc_65) (0, ak_k150.2.2.1, (0, []), (0, 0))) = true := by decide +kernel
theorem ak_e150_s1 : az_ex szP az_inl ak_k150.2.1 ak_t150 ak_k150.2.2.2.2.1 (fun _ => az_pre 65 []) (az_hint ak_t150) (az_leaf ak_k150 ak_h150 none (az_hb 2) (az_rb 2)) 687640 ak_k150.2.2.1.1 [(2, 2), (1, 60)] ak_k150.2.2.1.2.2.1 (az_hc ak_k150 (7, 11, (0, 0, 0), szc_65) (0, ak_k150.2.2.1, (0, []), (0, 0))) = true := by decide +kernel
theorem ak_e150_s2 : az_ex szP az_inl ak_k150.2.1 ak_t150 ak_k150.2.2.2.2.1 (fun _ => az_pre 65 []) (az_hint ak_t150) (az_leaf ak_k150 ak_h150 none (az_hb 2) (az_rb 2)) 687640 ak_k150.2.2.1.1 [(3, 3), (1, 60)] ak_k150.2.2.1.2.2.1 (az_hc ak_k150 (7, 11, (0, 0, 0), szc_65) (0, ak_k150.2.2.1, (0, []), (0, 0))) = true := by decide +kernel
