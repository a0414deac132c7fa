/-! contracts: written by wip/A/gen56.py -/
/-- Model.readAct -/
def ak_k173 : azCon := (95, 4, ([(0, (0, 0, []), (0, 0, []))], [(1, 9)], [], [(1, 145, []), (0, 0, [(0, 1)])], [], [], false), [(some none, [(0, (0, 0, []), (0, 0, []))], [(1, 9)], [], [])], [(141, 11), (141, 8), (141, 9), (145, 0)], (0, 0))
def ak_t173 : List azCon := [ak_k168, ak_k169, ak_k170]
def ak_h173 : List azHd := []
theorem ak_e173_s0 : az_ex szP az_inl ak_k173.2.1 ak_t173 ak_k173.2.2.2.2.1 (fun _ => az_pre 95 []) (az_hint ak_t173) (az_leaf ak_k173 ak_h173 none (az_hb 1) (az_rb 1)) 806200 ak_k173.2.2.1.1 [(1, 1)] ak_k173.2.2.1.2.2.1 (az_hc ak_k173 (3, 12, (0, 0, 0), szc_95) (0, ak_k173.2.2.1, (0, []), (0, 0))) = true := by decide +kernel
theorem ak_e173_s1 : az_ex szP az_inl ak_k173.2.1 ak_t173 ak_k173.2.2.2.2.1 (fun _ => az_pre 95 []) (az_hint ak_t173) (az_leaf ak_k173 ak_h173 none (az_hb 1) (az_rb 1)) 806200 ak_k173.2.2.1.1 [(2, 2)] ak_k173.2.2.1.2.2.1 (az_hc ak_k173 (3, 12, (0, 0, 0), szc_95) (0, ak_k173.2.2.1, (0, []), (0, 0))) = true := by decide +kernel
