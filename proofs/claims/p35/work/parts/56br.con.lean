/-! contracts: written by wip/A/gen56.py -/
/-- Model.loop -/
def ak_k176 : azCon := (96, 5, ([], [], [], [(1, 145, [])], [], [], false), [(some (some (0, 0, [(0, 1)])), [(0, (0, 0, []), (0, 0, []))], [((-200), 10)], [], [])], [(141, 11), (141, 14), (141, 3), (141, 6), (141, 7), (141, 8), (141, 9), (142, 0), (145, 0), (147, 0), (148, 0)], (0, 0))
def ak_t176 : List azCon := [ak_k171, ak_k172, ak_k173, ak_k175]
def ak_h176 : List azHd := []
theorem ak_e176 : az_ex szP az_inl ak_k176.2.1 ak_t176 ak_k176.2.2.2.2.1 (fun _ => az_pre 96 []) (az_hint ak_t176) (az_leaf ak_k176 ak_h176 none (az_hb 0) (az_rb 0)) 351040 ak_k176.2.2.1.1 ak_k176.2.2.1.2.1 ak_k176.2.2.1.2.2.1 (az_hc ak_k176 (4, 12, (0, 0, 0), szc_96) (0, ak_k176.2.2.1, (0, []), (0, 0))) = true := by decide +kernel
set_option maxRecDepth 100000 in
theorem ak_v176 {X : List (List Value)} (hX : az_X X) : az_Valid X ak_k176 := az_valid sz_pkall_szP (q := (4, 12, (0, 0, 0), szc_96)) hX (tb := ak_t176) (List.forall_mem_cons.mpr ⟨ak_v171 hX, List.forall_mem_cons.mpr ⟨ak_v172 hX, List.forall_mem_cons.mpr ⟨ak_v173 hX, List.forall_mem_cons.mpr ⟨ak_v175 hX, fun _ h => by cases h⟩⟩⟩⟩) rfl (hds := ak_h176) (by decide +kernel) (fun _ h => by cases h) ak_e176 (fun _ h => by cases h)
