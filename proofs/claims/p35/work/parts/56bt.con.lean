/-! contracts: written by wip/A/gen56.py -/
/-- Model.memory -/
def ak_k178 : azCon := (99, 4, ([(0, (0, 0, []), (0, 0, []))], [((-2147483648), 2147483647)], [], [(1, 145, []), (0, 0, [(0, 1)])], [], [], false), [(some (some (0, 0, [(1, 1)])), [(0, (0, 0, []), (0, 0, [])), (0, (0, 0, []), (0, 0, []))], [((-2147483648), 2147483647), ((-91), 16)], [], [])], [(141, 14), (141, 3), (141, 6), (141, 7), (141, 8), (141, 9), (142, 0), (146, 0), (147, 0), (148, 0)], (0, 0))
def ak_t178 : List azCon := [ak_k175, ak_k177]
def ak_h178 : List azHd := []
theorem ak_e178 : az_ex szP az_inl ak_k178.2.1 ak_t178 ak_k178.2.2.2.2.1 (fun _ => az_pre 99 []) (az_hint ak_t178) (az_leaf ak_k178 ak_h178 none (az_hb 1) (az_rb 1)) 339130 ak_k178.2.2.1.1 ak_k178.2.2.1.2.1 ak_k178.2.2.1.2.2.1 (az_hc ak_k178 (5, 12, (0, 0, 0), szc_99) (0, ak_k178.2.2.1, (0, []), (0, 0))) = true := by decide +kernel
set_option maxRecDepth 100000 in
theorem ak_v178 {X : List (List Value)} (hX : az_X X) : az_Valid X ak_k178 := az_valid sz_pkall_szP (q := (5, 12, (0, 0, 0), szc_99)) hX (tb := ak_t178) (List.forall_mem_cons.mpr ⟨ak_v175 hX, List.forall_mem_cons.mpr ⟨ak_v177 hX, fun _ h => by cases h⟩⟩) rfl (hds := ak_h178) (by decide +kernel) (fun _ h => by cases h) ak_e178 (fun _ h => by cases h)
