/-! contracts: written by wip/A/gen56.py -/
/-- $Bounds.addAccess -/
def ak_k92 : azCon := (195, 1, ([(0, (0, 0, []), (0, 0, [])), (0, (0, 0, []), (0, 0, []))], [(0, 9), (1, 9)], [], [(1, 22, []), (0, 0, [(0, 1)]), (0, 0, [(1, 1)])], [], [], false), [(some none, [(0, (0, 0, []), (0, 0, [])), (0, (0, 0, []), (0, 0, []))], [(0, 9), (1, 9)], [], [])], [(18, 9), (24, 0), (25, 0), (26, 0), (27, 0)], (0, 0))
def ak_t92 : List azCon := []
def ak_h92 : List azHd := []
theorem ak_e92_s0 : az_ex szP az_inl ak_k92.2.1 ak_t92 ak_k92.2.2.2.2.1 (fun _ => az_pre 195 []) (az_hint ak_t92) (az_leaf ak_k92 ak_h92 none (az_hb 2) (az_rb 2)) 592990 ak_k92.2.2.1.1 [(0, 0), (1, 9)] ak_k92.2.2.1.2.2.1 (az_hc ak_k92 (4, 2, (0, 0, 0), szc_195) (0, ak_k92.2.2.1, (0, []), (0, 0))) = true := by decide +kernel
theorem ak_e92_s1 : az_ex szP az_inl ak_k92.2.1 ak_t92 ak_k92.2.2.2.2.1 (fun _ => az_pre 195 []) (az_hint ak_t92) (az_leaf ak_k92 ak_h92 none (az_hb 2) (az_rb 2)) 592990 ak_k92.2.2.1.1 [(1, 1), (1, 9)] ak_k92.2.2.1.2.2.1 (az_hc ak_k92 (4, 2, (0, 0, 0), szc_195) (0, ak_k92.2.2.1, (0, []), (0, 0))) = true := by decide +kernel
