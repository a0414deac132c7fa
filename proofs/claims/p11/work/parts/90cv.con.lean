/-! contracts: written by wip/A/gen56.py -/
/-- Model.loop -/
def ak_k176 : azCon := (96, 5, ([], [], [], [(1, 145, [])], [], [], false), [(some (some (0, 0, [(0, 1)])), [(0, (0, 0, []), (0, 0, []))], [((-200), 10)], [], [])], [(141, 11), (141, 14), (141, 3), (141, 6), (141, 7), (141, 8), (141, 9), (142, 0), (145, 0), (147, 0), (148, 0)], (0, 0))
def ak_t176 : List azCon := [ak_k171, ak_k172, ak_k173, ak_k175]
def ak_d176_0 : azHd := (68, ([], [], [], [(1, 145, []), (0, 10, []), (0, 0, [])], [], [], false), (0, []), (0, 0))
def ak_d176_1 : azHd := (68, ([], [], [], [(1, 145, []), (0, 9, []), (0, 0, [])], [], [], false), (0, []), (0, 0))
def ak_d176_2 : azHd := (68, ([], [], [], [(1, 145, []), (0, 8, []), (0, 0, [])], [], [], false), (0, []), (0, 0))
def ak_d176_3 : azHd := (68, ([], [], [], [(1, 145, []), (0, 7, []), (0, 0, [])], [], [], false), (0, []), (0, 0))
def ak_d176_4 : azHd := (68, ([], [], [], [(1, 145, []), (0, 6, []), (0, 0, [])], [], [], false), (0, []), (0, 0))
def ak_d176_5 : azHd := (68, ([], [], [], [(1, 145, []), (0, 5, []), (0, 0, [])], [], [], false), (0, []), (0, 0))
def ak_d176_6 : azHd := (68, ([], [], [], [(1, 145, []), (0, 4, []), (0, 0, [])], [], [], false), (0, []), (0, 0))
def ak_d176_7 : azHd := (68, ([], [], [], [(1, 145, []), (0, 3, []), (0, 0, [])], [], [], false), (0, []), (0, 0))
def ak_d176_8 : azHd := (68, ([], [], [], [(1, 145, []), (0, 2, []), (0, 0, [])], [], [], false), (0, []), (0, 0))
def ak_d176_9 : azHd := (68, ([], [], [], [(1, 145, []), (0, 1, []), (0, 0, [])], [], [], false), (0, []), (0, 0))
def ak_d176_10 : azHd := (68, ([], [], [], [(1, 145, []), (0, 0, []), (0, 0, [])], [], [], false), (0, []), (0, 0))
def ak_h176 : List azHd := [ak_d176_0, ak_d176_1, ak_d176_2, ak_d176_3, ak_d176_4, ak_d176_5, ak_d176_6, ak_d176_7, ak_d176_8, ak_d176_9, ak_d176_10]
def ak_g176 : List azHd := [ak_d176_0, ak_d176_1, ak_d176_2, ak_d176_3, ak_d176_4, ak_d176_5, ak_d176_6, ak_d176_7, ak_d176_8, ak_d176_9, ak_d176_10]
theorem ak_e176 : az_ex szP az_inl ak_k176.2.1 ak_t176 ak_k176.2.2.2.2.1 (fun _ => az_pre 96 []) (az_hint ak_t176) (az_leaf ak_k176 ak_g176 none (az_hb 0) (az_rb 0)) 351040 ak_k176.2.2.1.1 ak_k176.2.2.1.2.1 ak_k176.2.2.1.2.2.1 (az_hc ak_k176 (4, 12, (0, 0, 0), szc_96) (0, ak_k176.2.2.1, (0, []), (0, 0))) = true := by decide +kernel
def ak_g176_0 : List azHd := []
theorem ak_e176_0 : az_ex szP az_inl ak_k176.2.1 ak_t176 ak_k176.2.2.2.2.1 (fun _ => az_pre 96 []) (az_hint ak_t176) (az_leaf ak_k176 ak_g176_0 (some ak_d176_0.2.2.1) (az_hb 0) (az_rb 0)) 351040 ak_d176_0.2.1.1 ak_d176_0.2.1.2.1 ak_d176_0.2.1.2.2.1 (az_hc ak_k176 (4, 12, (0, 0, 0), szc_96) ak_d176_0) = true := by decide +kernel
def ak_g176_1 : List azHd := []
theorem ak_e176_1 : az_ex szP az_inl ak_k176.2.1 ak_t176 ak_k176.2.2.2.2.1 (fun _ => az_pre 96 []) (az_hint ak_t176) (az_leaf ak_k176 ak_g176_1 (some ak_d176_1.2.2.1) (az_hb 0) (az_rb 0)) 351040 ak_d176_1.2.1.1 ak_d176_1.2.1.2.1 ak_d176_1.2.1.2.2.1 (az_hc ak_k176 (4, 12, (0, 0, 0), szc_96) ak_d176_1) = true := by decide +kernel
def ak_g176_2 : List azHd := []
theorem ak_e176_2 : az_ex szP az_inl ak_k176.2.1 ak_t176 ak_k176.2.2.2.2.1 (fun _ => az_pre 96 []) (az_hint ak_t176) (az_leaf ak_k176 ak_g176_2 (some ak_d176_2.2.2.1) (az_hb 0) (az_rb 0)) 351040 ak_d176_2.2.1.1 ak_d176_2.2.1.2.1 ak_d176_2.2.1.2.2.1 (az_hc ak_k176 (4, 12, (0, 0, 0), szc_96) ak_d176_2) = true := by decide +kernel
def ak_g176_3 : List azHd := []
theorem ak_e176_3 : az_ex szP az_inl ak_k176.2.1 ak_t176 ak_k176.2.2.2.2.1 (fun _ => az_pre 96 []) (az_hint ak_t176) (az_leaf ak_k176 ak_g176_3 (some ak_d176_3.2.2.1) (az_hb 0) (az_rb 0)) 351040 ak_d176_3.2.1.1 ak_d176_3.2.1.2.1 ak_d176_3.2.1.2.2.1 (az_hc ak_k176 (4, 12, (0, 0, 0), szc_96) ak_d176_3) = true := by decide +kernel
