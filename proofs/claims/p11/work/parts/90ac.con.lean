/-! contracts: written by wip/A/gen56.py -/
/-- $Reader.readsAct -/
def ak_k29 : azCon := (262, 4, ([(0, (0, 0, []), (0, 0, []))], [(0, 9)], [], [(1, 14, []), (0, 0, [(0, 1)])], [], [], false), [(some (some (0, 0, [(1, 1)])), [(0, (0, 0, []), (0, 0, [])), (0, (0, 0, []), (0, 0, []))], [(0, 9), (0, 1)], [], [])], [(10, 3), (12, 0), (13, 0), (14, 0), (15, 0), (8, 3)], (0, 0))
def ak_t29 : List azCon := [ak_k26, ak_k27, ak_k28]
def ak_h29 : List azHd := []
theorem ak_e29 : az_ex szP az_inl ak_k29.2.1 ak_t29 ak_k29.2.2.2.2.1 (fun _ => az_pre 262 []) (az_hint ak_t29) (az_leaf ak_k29 ak_h29 none (az_hb 1) (az_rb 1)) 91630 ak_k29.2.2.1.1 ak_k29.2.2.1.2.1 ak_k29.2.2.1.2.2.1 (az_hc ak_k29 (6, 8, (0, 0, 0), szc_262) (0, ak_k29.2.2.1, (0, []), (0, 0))) = true := by decide +kernel
set_option maxRecDepth 100000 in
theorem ak_v29 {X : List (List Value)} (hX : az_X X) : az_Valid X ak_k29 := az_validS sz_pkall_szP (q := (6, 8, (0, 0, 0), szc_262)) hX (tb := ak_t29) (List.forall_mem_cons.mpr ⟨ak_v26 hX, List.forall_mem_cons.mpr ⟨ak_v27 hX, List.forall_mem_cons.mpr ⟨ak_v28 hX, fun _ h => by cases h⟩⟩⟩) rfl (hds := ak_h29) (by decide +kernel) (fun _ h => by cases h) (fun _ hV => ⟨_, hV, rfl, _, fun _ h => h, ak_e29⟩) (fun _ h => by cases h)
