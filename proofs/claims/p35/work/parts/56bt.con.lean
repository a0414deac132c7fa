/-! contracts: written by wip/A/gen56.py -/
/-- Model.memory -/
def ak_k179 : azCon := (99, 4, ([(0, (0, 0, []), (0, 0, []))], [((-2147483648), 2147483647)], [], [(1, 145, []), (0, 0, [(0, 1)])], [], [], false), [(some (some (0, 0, [(1, 1)])), [(0, (0, 0, []), (0, 0, [])), (0, (0, 0, []), (0, 0, []))], [((-2147483648), 2147483647), ((-91), 16)], [], [])], [(141, 14), (141, 3), (141, 6), (141, 7), (141, 8), (141, 9), (142, 0), (146, 0), (147, 0), (148, 0)], (0, 0))
def ak_t179 : List azCon := [ak_k176, ak_k178]
def ak_h179 : List azHd := []
theorem ak_e179 : az_ex szP az_inl ak_k179.2.1 ak_t179 ak_k179.2.2.2.2.1 (fun _ => az_pre 99 []) (az_hint ak_t179) (az_leaf ak_k179 ak_h179 none (az_hb 1) (az_rb 1)) 339130 ak_k179.2.2.1.1 ak_k179.2.2.1.2.1 ak_k179.2.2.1.2.2.1 (az_hc ak_k179 (5, 12, (0, 0, 0), szc_99) (0, ak_k179.2.2.1, (0, []), (0, 0))) = true := by decide +kernel
set_option maxRecDepth 100000 in
theorem ak_v179 {X : List (List Value)} (hX : az_X X) : az_Valid X ak_k179 := az_valid sz_pkall_szP (q := (5, 12, (0, 0, 0), szc_99)) hX (tb := ak_t179) (List.forall_mem_cons.mpr ⟨ak_v176 hX, List.forall_mem_cons.mpr ⟨ak_v178 hX, fun _ h => by cases h⟩⟩) rfl (hds := ak_h179) (by decide +kernel) (fun _ h => by cases h) ak_e179 (fun _ h => by cases h)
