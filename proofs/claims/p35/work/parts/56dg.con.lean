/-! contracts: written by wip/A/gen56.py -/
/-- Model.undo -/
def ak_k190 : azCon := (118, 0, ([(0, (0, 0, []), (0, 0, []))], [(0, 9)], [], [(1, 145, [])], [(141, (13, []), (0, 0, [(0, 1)]))], [], false), [(some (some (0, 0, [(1, 1)])), [(0, (0, 0, []), (0, 0, [])), (0, (0, 0, []), (0, 0, []))], [(0, 9), ((-1), 8)], [], [])], [(141, 14), (141, 6), (142, 0)], (0, 0))
def ak_t190 : List azCon := []
def ak_h190 : List azHd := []
theorem ak_e190_s0 : az_ex szP az_inl ak_k190.2.1 ak_t190 ak_k190.2.2.2.2.1 (fun _ => az_pre 118 []) (az_hint ak_t190) (az_leaf ak_k190 ak_h190 none (az_hb 1) (az_rb 1)) 393970 ak_k190.2.2.1.1 [(0, 1)] ak_k190.2.2.1.2.2.1 (az_hc ak_k190 (2, 12, (0, 0, 0), szc_118) (0, ak_k190.2.2.1, (0, []), (0, 0))) = true := by decide +kernel
theorem ak_e190_s1 : az_ex szP az_inl ak_k190.2.1 ak_t190 ak_k190.2.2.2.2.1 (fun _ => az_pre 118 []) (az_hint ak_t190) (az_leaf ak_k190 ak_h190 none (az_hb 1) (az_rb 1)) 393970 ak_k190.2.2.1.1 [(2, 2)] ak_k190.2.2.1.2.2.1 (az_hc ak_k190 (2, 12, (0, 0, 0), szc_118) (0, ak_k190.2.2.1, (0, []), (0, 0))) = true := by decide +kernel
theorem ak_e190_s2 : az_ex szP az_inl ak_k190.2.1 ak_t190 ak_k190.2.2.2.2.1 (fun _ => az_pre 118 []) (az_hint ak_t190) (az_leaf ak_k190 ak_h190 none (az_hb 1) (az_rb 1)) 393970 ak_k190.2.2.1.1 [(3, 3)] ak_k190.2.2.1.2.2.1 (az_hc ak_k190 (2, 12, (0, 0, 0), szc_118) (0, ak_k190.2.2.1, (0, []), (0, 0))) = true := by decide +kernel
