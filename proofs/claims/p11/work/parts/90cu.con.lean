/-! contracts: written by wip/A/gen56.py -/
/-- Model.change -/
def ak_k175 : azCon := (103, 1, ([], [], [], [(1, 145, [])], [], [], false), [(some none, [], [], [], [])], [(141, 14), (147, 0), (148, 0)], (0, 0))
def ak_t175 : List azCon := [ak_k174]
def ak_d175_0 : azHd := (2, ([], [], [], [(1, 145, []), (0, 1, [])], [], [], false), (145, []), (0, 0))
def ak_d175_1 : azHd := (2, ([], [], [], [(1, 145, []), (0, 9, [])], [], [], false), (129, []), (0, 0))
def ak_d175_2 : azHd := (2, ([], [], [], [(1, 145, []), (0, 17, [])], [], [], false), (113, []), (0, 0))
def ak_d175_3 : azHd := (2, ([], [], [], [(1, 145, []), (0, 25, [])], [], [], false), (97, []), (0, 0))
def ak_d175_4 : azHd := (2, ([], [], [], [(1, 145, []), (0, 33, [])], [], [], false), (81, []), (0, 0))
def ak_d175_5 : azHd := (2, ([], [], [], [(1, 145, []), (0, 41, [])], [], [], false), (65, []), (0, 0))
def ak_d175_6 : azHd := (2, ([], [], [], [(1, 145, []), (0, 49, [])], [], [], false), (49, []), (0, 0))
def ak_d175_7 : azHd := (2, ([], [], [], [(1, 145, []), (0, 57, [])], [], [], false), (33, []), (0, 0))
def ak_d175_8 : azHd := (2, ([], [], [], [(1, 145, []), (0, 65, [])], [], [], false), (17, []), (0, 0))
def ak_d175_9 : azHd := (2, ([], [], [], [(1, 145, []), (0, 73, [])], [], [], false), (1, []), (0, 0))
def ak_h175 : List azHd := [ak_d175_0, ak_d175_1, ak_d175_2, ak_d175_3, ak_d175_4, ak_d175_5, ak_d175_6, ak_d175_7, ak_d175_8, ak_d175_9]
def ak_g175 : List azHd := [ak_d175_0]
theorem ak_e175 : az_ex szP az_inl ak_k175.2.1 ak_t175 ak_k175.2.2.2.2.1 (fun _ => az_pre 103 []) (az_hint ak_t175) (az_leaf ak_k175 ak_g175 none (az_hb 0) (az_rb 0)) 33220 ak_k175.2.2.1.1 ak_k175.2.2.1.2.1 ak_k175.2.2.1.2.2.1 (az_hc ak_k175 (2, 12, (0, 0, 0), szc_103) (0, ak_k175.2.2.1, (0, []), (0, 0))) = true := by decide +kernel
def ak_g175_0 : List azHd := [ak_d175_1]
theorem ak_e175_0 : az_ex szP az_inl ak_k175.2.1 ak_t175 ak_k175.2.2.2.2.1 (fun _ => az_pre 103 []) (az_hint ak_t175) (az_leaf ak_k175 ak_g175_0 (some ak_d175_0.2.2.1) (az_hb 0) (az_rb 0)) 33220 ak_d175_0.2.1.1 ak_d175_0.2.1.2.1 ak_d175_0.2.1.2.2.1 (az_hc ak_k175 (2, 12, (0, 0, 0), szc_103) ak_d175_0) = true := by decide +kernel
def ak_g175_1 : List azHd := [ak_d175_2]
theorem ak_e175_1 : az_ex szP az_inl ak_k175.2.1 ak_t175 ak_k175.2.2.2.2.1 (fun _ => az_pre 103 []) (az_hint ak_t175) (az_leaf ak_k175 ak_g175_1 (some ak_d175_1.2.2.1) (az_hb 0) (az_rb 0)) 33220 ak_d175_1.2.1.1 ak_d175_1.2.1.2.1 ak_d175_1.2.1.2.2.1 (az_hc ak_k175 (2, 12, (0, 0, 0), szc_103) ak_d175_1) = true := by decide +kernel
def ak_g175_2 : List azHd := [ak_d175_3]
theorem ak_e175_2 : az_ex szP az_inl ak_k175.2.1 ak_t175 ak_k175.2.2.2.2.1 (fun _ => az_pre 103 []) (az_hint ak_t175) (az_leaf ak_k175 ak_g175_2 (some ak_d175_2.2.2.1) (az_hb 0) (az_rb 0)) 33220 ak_d175_2.2.1.1 ak_d175_2.2.1.2.1 ak_d175_2.2.1.2.2.1 (az_hc ak_k175 (2, 12, (0, 0, 0), szc_103) ak_d175_2) = true := by decide +kernel
def ak_g175_3 : List azHd := [ak_d175_4]
theorem ak_e175_3 : az_ex szP az_inl ak_k175.2.1 ak_t175 ak_k175.2.2.2.2.1 (fun _ => az_pre 103 []) (az_hint ak_t175) (az_leaf ak_k175 ak_g175_3 (some ak_d175_3.2.2.1) (az_hb 0) (az_rb 0)) 33220 ak_d175_3.2.1.1 ak_d175_3.2.1.2.1 ak_d175_3.2.1.2.2.1 (az_hc ak_k175 (2, 12, (0, 0, 0), szc_103) ak_d175_3) = true := by decide +kernel
def ak_g175_4 : List azHd := [ak_d175_5]
theorem ak_e175_4 : az_ex szP az_inl ak_k175.2.1 ak_t175 ak_k175.2.2.2.2.1 (fun _ => az_pre 103 []) (az_hint ak_t175) (az_leaf ak_k175 ak_g175_4 (some ak_d175_4.2.2.1) (az_hb 0) (az_rb 0)) 33220 ak_d175_4.2.1.1 ak_d175_4.2.1.2.1 ak_d175_4.2.1.2.2.1 (az_hc ak_k175 (2, 12, (0, 0, 0), szc_103) ak_d175_4) = true := by decide +kernel
def ak_g175_5 : List azHd := [ak_d175_6]
theorem ak_e175_5 : az_ex szP az_inl ak_k175.2.1 ak_t175 ak_k175.2.2.2.2.1 (fun _ => az_pre 103 []) (az_hint ak_t175) (az_leaf ak_k175 ak_g175_5 (some ak_d175_5.2.2.1) (az_hb 0) (az_rb 0)) 33220 ak_d175_5.2.1.1 ak_d175_5.2.1.2.1 ak_d175_5.2.1.2.2.1 (az_hc ak_k175 (2, 12, (0, 0, 0), szc_103) ak_d175_5) = true := by decide +kernel
def ak_g175_6 : List azHd := [ak_d175_7]
theorem ak_e175_6 : az_ex szP az_inl ak_k175.2.1 ak_t175 ak_k175.2.2.2.2.1 (fun _ => az_pre 103 []) (az_hint ak_t175) (az_leaf ak_k175 ak_g175_6 (some ak_d175_6.2.2.1) (az_hb 0) (az_rb 0)) 33220 ak_d175_6.2.1.1 ak_d175_6.2.1.2.1 ak_d175_6.2.1.2.2.1 (az_hc ak_k175 (2, 12, (0, 0, 0), szc_103) ak_d175_6) = true := by decide +kernel
def ak_g175_7 : List azHd := [ak_d175_8]
theorem ak_e175_7 : az_ex szP az_inl ak_k175.2.1 ak_t175 ak_k175.2.2.2.2.1 (fun _ => az_pre 103 []) (az_hint ak_t175) (az_leaf ak_k175 ak_g175_7 (some ak_d175_7.2.2.1) (az_hb 0) (az_rb 0)) 33220 ak_d175_7.2.1.1 ak_d175_7.2.1.2.1 ak_d175_7.2.1.2.2.1 (az_hc ak_k175 (2, 12, (0, 0, 0), szc_103) ak_d175_7) = true := by decide +kernel
def ak_g175_8 : List azHd := [ak_d175_9]
theorem ak_e175_8 : az_ex szP az_inl ak_k175.2.1 ak_t175 ak_k175.2.2.2.2.1 (fun _ => az_pre 103 []) (az_hint ak_t175) (az_leaf ak_k175 ak_g175_8 (some ak_d175_8.2.2.1) (az_hb 0) (az_rb 0)) 33220 ak_d175_8.2.1.1 ak_d175_8.2.1.2.1 ak_d175_8.2.1.2.2.1 (az_hc ak_k175 (2, 12, (0, 0, 0), szc_103) ak_d175_8) = true := by decide +kernel
def ak_g175_9 : List azHd := []
theorem ak_e175_9 : az_ex szP az_inl ak_k175.2.1 ak_t175 ak_k175.2.2.2.2.1 (fun _ => az_pre 103 []) (az_hint ak_t175) (az_leaf ak_k175 ak_g175_9 (some ak_d175_9.2.2.1) (az_hb 0) (az_rb 0)) 33220 ak_d175_9.2.1.1 ak_d175_9.2.1.2.1 ak_d175_9.2.1.2.2.1 (az_hc ak_k175 (2, 12, (0, 0, 0), szc_103) ak_d175_9) = true := by decide +kernel
set_option maxRecDepth 100000 in
theorem ak_v175 {X : List (List Value)} (hX : az_X X) : az_Valid X ak_k175 := az_validS sz_pkall_szP (q := (2, 12, (0, 0, 0), szc_103)) hX (tb := ak_t175) (List.forall_mem_cons.mpr ⟨ak_v174 hX, fun _ h => by cases h⟩) rfl (hds := ak_h175) (by decide +kernel) (List.forall_mem_cons.mpr ⟨by decide +kernel, List.forall_mem_cons.mpr ⟨by decide +kernel, List.forall_mem_cons.mpr ⟨by decide +kernel, List.forall_mem_cons.mpr ⟨by decide +kernel, List.forall_mem_cons.mpr ⟨by decide +kernel, List.forall_mem_cons.mpr ⟨by decide +kernel, List.forall_mem_cons.mpr ⟨by decide +kernel, List.forall_mem_cons.mpr ⟨by decide +kernel, List.forall_mem_cons.mpr ⟨by decide +kernel, List.forall_mem_cons.mpr ⟨by decide +kernel, fun _ h => by cases h⟩⟩⟩⟩⟩⟩⟩⟩⟩⟩) (fun _ hV => ⟨_, hV, rfl, _, (List.forall_mem_cons.mpr ⟨az_mem1 0 rfl, (fun _ h => by cases h)⟩), ak_e175⟩) (List.forall_mem_cons.mpr ⟨fun _ hV => ⟨_, hV, rfl, _, (List.forall_mem_cons.mpr ⟨az_mem1 1 rfl, (fun _ h => by cases h)⟩), ak_e175_0⟩, List.forall_mem_cons.mpr ⟨fun _ hV => ⟨_, hV, rfl, _, (List.forall_mem_cons.mpr ⟨az_mem1 2 rfl, (fun _ h => by cases h)⟩), ak_e175_1⟩, List.forall_mem_cons.mpr ⟨fun _ hV => ⟨_, hV, rfl, _, (List.forall_mem_cons.mpr ⟨az_mem1 3 rfl, (fun _ h => by cases h)⟩), ak_e175_2⟩, List.forall_mem_cons.mpr ⟨fun _ hV => ⟨_, hV, rfl, _, (List.forall_mem_cons.mpr ⟨az_mem1 4 rfl, (fun _ h => by cases h)⟩), ak_e175_3⟩, List.forall_mem_cons.mpr ⟨fun _ hV => ⟨_, hV, rfl, _, (List.forall_mem_cons.mpr ⟨az_mem1 5 rfl, (fun _ h => by cases h)⟩), ak_e175_4⟩, List.forall_mem_cons.mpr ⟨fun _ hV => ⟨_, hV, rfl, _, (List.forall_mem_cons.mpr ⟨az_mem1 6 rfl, (fun _ h => by cases h)⟩), ak_e175_5⟩, List.forall_mem_cons.mpr ⟨fun _ hV => ⟨_, hV, rfl, _, (List.forall_mem_cons.mpr ⟨az_mem1 7 rfl, (fun _ h => by cases h)⟩), ak_e175_6⟩, List.forall_mem_cons.mpr ⟨fun _ hV => ⟨_, hV, rfl, _, (List.forall_mem_cons.mpr ⟨az_mem1 8 rfl, (fun _ h => by cases h)⟩), ak_e175_7⟩, List.forall_mem_cons.mpr ⟨fun _ hV => ⟨_, hV, rfl, _, (List.forall_mem_cons.mpr ⟨az_mem1 9 rfl, (fun _ h => by cases h)⟩), ak_e175_8⟩, List.forall_mem_cons.mpr ⟨fun _ hV => ⟨_, hV, rfl, _, (fun _ h => by cases h), ak_e175_9⟩, fun _ h => by cases h⟩⟩⟩⟩⟩⟩⟩⟩⟩⟩)
