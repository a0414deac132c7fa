/-! contracts: written by wip/A/gen56.py -/
/-- $Binder.bind -/
def ak_k138 : azCon := (183, 21, ([(0, (0, 0, []), (0, 0, []))], [(0, 0)], [], [(1, 46, []), (0, 0, [(0, 1)])], [], [], false), [(some (some (0, 0, [(1, 1)])), [(0, (0, 0, []), (0, 0, [])), (0, (0, 0, []), (0, 0, []))], [(0, 0), (0, 21)], [], [])], [(42, 3), (42, 5), (42, 6), (43, 0), (44, 0), (45, 0), (46, 0), (47, 0), (48, 0), (49, 0), (50, 0)], (0, 0))
def ak_t138 : List azCon := [ak_k136]
def ak_d138_0 : azHd := (5, ([(0, (0, 0, []), (0, 0, [])), (0, (0, 0, []), (0, 0, [])), (0, (0, 0, []), (0, 0, []))], [(0, 0), (0, 10), (0, 10)], [(0, [(1, 1), (2, (-1))])], [(1, 46, []), (0, 0, [(0, 1)]), (0, 0, [(1, 1)])], [(42, (2, []), (0, 0, [(2, 1)]))], [], false), (21, [(1, (-2))]), (0, 0))
def ak_h138 : List azHd := [ak_d138_0]
theorem ak_e138 : az_ex szP az_inl ak_k138.2.1 ak_t138 ak_k138.2.2.2.2.1 (fun _ => az_pre 183 [(5, 42, 2)]) (az_hint ak_t138) (az_leaf ak_k138 ak_h138 none (az_hb 1) (az_rb 1)) 328690 ak_k138.2.2.1.1 ak_k138.2.2.1.2.1 ak_k138.2.2.1.2.2.1 (az_hc ak_k138 (3, 1, (0, 0, 0), szc_183) (0, ak_k138.2.2.1, (0, []), (0, 0))) = true := by decide +kernel
theorem ak_e138_0 : az_ex szP az_inl ak_k138.2.1 ak_t138 ak_k138.2.2.2.2.1 (fun _ => az_pre 183 [(5, 42, 2)]) (az_hint ak_t138) (az_leaf ak_k138 ak_h138 (some ak_d138_0.2.2.1) (az_hb 1) (az_rb 1)) 328690 ak_d138_0.2.1.1 ak_d138_0.2.1.2.1 ak_d138_0.2.1.2.2.1 (az_hc ak_k138 (3, 1, (0, 0, 0), szc_183) ak_d138_0) = true := by decide +kernel
set_option maxRecDepth 100000 in
theorem ak_v138 {X : List (List Value)} (hX : az_X X) : az_Valid X ak_k138 := az_valid sz_pkall_szP (q := (3, 1, (0, 0, 0), szc_183)) hX (tb := ak_t138) (List.forall_mem_cons.mpr ⟨ak_v136 hX, fun _ h => by cases h⟩) rfl (hds := ak_h138) (by decide +kernel) (List.forall_mem_cons.mpr ⟨by decide +kernel, fun _ h => by cases h⟩) ak_e138 (List.forall_mem_cons.mpr ⟨ak_e138_0, fun _ h => by cases h⟩)
