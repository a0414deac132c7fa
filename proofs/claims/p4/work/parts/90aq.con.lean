/-! contracts: written by wip/A/gen56.py -/
/-- $Planner.bankIn -/
def ak_k102 : azCon := (238, 0, ([(0, (0, 0, []), (0, 0, [])), (0, (0, 0, []), (0, 0, []))], [(0, 9), ((-2147483648), 2147483647)], [], [(1, 37, []), (0, 0, [(0, 1)]), (0, 0, [(1, 1)])], [], [], false), [(some (some (0, 0, [(2, 1)])), [(0, (0, 0, []), (0, 0, [])), (0, (0, 0, []), (0, 0, [])), (0, (0, 0, []), (0, 0, []))], [(0, 9), ((-2147483648), 2147483647), (0, 3)], [], [])], [], (0, 0))
def ak_t102 : List azCon := []
def ak_h102 : List azHd := []
theorem ak_e102_s0 : az_ex szP az_inl ak_k102.2.1 ak_t102 ak_k102.2.2.2.2.1 (fun _ => az_pre 238 []) (az_hint ak_t102) (az_leaf ak_k102 ak_h102 none (az_hb 2) (az_rb 2)) 142270 ak_k102.2.2.1.1 [(0, 1), ((-2147483648), 2147483647)] ak_k102.2.2.1.2.2.1 (az_hc ak_k102 (6, 6, (0, 0, 0), szc_238) (0, ak_k102.2.2.1, (0, []), (0, 0))) = true := by decide +kernel
theorem ak_e102_s1 : az_ex szP az_inl ak_k102.2.1 ak_t102 ak_k102.2.2.2.2.1 (fun _ => az_pre 238 []) (az_hint ak_t102) (az_leaf ak_k102 ak_h102 none (az_hb 2) (az_rb 2)) 142270 ak_k102.2.2.1.1 [(2, 3), ((-2147483648), 2147483647)] ak_k102.2.2.1.2.2.1 (az_hc ak_k102 (6, 6, (0, 0, 0), szc_238) (0, ak_k102.2.2.1, (0, []), (0, 0))) = true := by decide +kernel
theorem ak_e102_s2 : az_ex szP az_inl ak_k102.2.1 ak_t102 ak_k102.2.2.2.2.1 (fun _ => az_pre 238 []) (az_hint ak_t102) (az_leaf ak_k102 ak_h102 none (az_hb 2) (az_rb 2)) 142270 ak_k102.2.2.1.1 [(4, 5), ((-2147483648), 2147483647)] ak_k102.2.2.1.2.2.1 (az_hc ak_k102 (6, 6, (0, 0, 0), szc_238) (0, ak_k102.2.2.1, (0, []), (0, 0))) = true := by decide +kernel
