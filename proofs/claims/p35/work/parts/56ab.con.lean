/-! contracts: written by wip/A/gen56.py -/
/-- $Reader.readsAct -/
def ak_k6 : azCon := (262, 4, ([(0, (0, 0, []), (0, 0, []))], [(0, 9)], [], [(1, 14, []), (0, 0, [(0, 1)])], [], [], false), [(some (some (0, 0, [(1, 1)])), [(0, (0, 0, []), (0, 0, [])), (0, (0, 0, []), (0, 0, []))], [(0, 9), (0, 1)], [], [])], [(10, 3), (12, 0), (13, 0), (14, 0), (15, 0), (8, 3)], (0, 0))
def ak_t6 : List azCon := [ak_k3, ak_k4, ak_k5]
def ak_h6 : List azHd := []
theorem ak_e6 : az_ex szP az_inl ak_k6.2.1 ak_t6 ak_k6.2.2.2.2.1 (fun _ => az_pre 262 []) (az_hint ak_t6) (az_leaf ak_k6 ak_h6 none (az_hb 1) (az_rb 1)) 91630 ak_k6.2.2.1.1 ak_k6.2.2.1.2.1 ak_k6.2.2.1.2.2.1 (az_hc ak_k6 (6, 8, (0, 0, 0), szc_262) (0, ak_k6.2.2.1, (0, []), (0, 0))) = true := by decide +kernel
set_option maxRecDepth 100000 in
theorem ak_v6 {X : List (List Value)} (hX : az_X X) : az_Valid X ak_k6 := az_valid sz_pkall_szP (q := (6, 8, (0, 0, 0), szc_262)) hX (tb := ak_t6) (List.forall_mem_cons.mpr ⟨ak_v3 hX, List.forall_mem_cons.mpr ⟨ak_v4 hX, List.forall_mem_cons.mpr ⟨ak_v5 hX, fun _ h => by cases h⟩⟩⟩) rfl (hds := ak_h6) (by decide +kernel) (fun _ h => by cases h) ak_e6 (fun _ h => by cases h)
