/-! contracts: written by wip/A/gen56.py -/
/-- Model.addressKind -/
def ak_k199 : azCon := (135, 1, ([(0, (0, 0, []), (0, 0, []))], [(0, 9)], [], [(1, 145, []), (0, 0, [(0, 1)])], [], [], false), [(some (some (0, 0, [(1, 1)])), [(0, (0, 0, []), (0, 0, [])), (0, (0, 0, []), (0, 0, []))], [(0, 9), (0, 2)], [], [])], [], (0, 0))
def ak_t199 : List azCon := []
def ak_h199 : List azHd := []
theorem ak_e199_s0 : az_ex szP az_inl ak_k199.2.1 ak_t199 ak_k199.2.2.2.2.1 (fun _ => az_pre 135 []) (az_hint ak_t199) (az_leaf ak_k199 ak_h199 none (az_hb 1) (az_rb 1)) 541390 ak_k199.2.2.1.1 [(0, 0)] ak_k199.2.2.1.2.2.1 (az_hc ak_k199 (7, 12, (0, 0, 0), szc_135) (0, ak_k199.2.2.1, (0, []), (0, 0))) = true := by decide +kernel
theorem ak_e199_s1 : az_ex szP az_inl ak_k199.2.1 ak_t199 ak_k199.2.2.2.2.1 (fun _ => az_pre 135 []) (az_hint ak_t199) (az_leaf ak_k199 ak_h199 none (az_hb 1) (az_rb 1)) 541390 ak_k199.2.2.1.1 [(1, 1)] ak_k199.2.2.1.2.2.1 (az_hc ak_k199 (7, 12, (0, 0, 0), szc_135) (0, ak_k199.2.2.1, (0, []), (0, 0))) = true := by decide +kernel
