/-! contracts: written by wip/A/gen56.py -/
/-- .doChange -/
def ak_k48 : azCon := (58, 5, ([(0, (0, 0, []), (0, 0, []))], [(0, 79)], [], [(1, 4, []), (0, 0, [(0, 1)])], [], [], false), [(some (some (0, 0, [(1, 1)])), [(0, (0, 0, []), (0, 0, [])), (0, (0, 0, []), (0, 0, []))], [(0, 79), ((-2), 10)], [], [])], [(18, 2), (33, 3), (38, 0), (6, 0), (7, 0)], (0, 0))
def ak_t48 : List azCon := [ak_k44, ak_k47]
def ak_h48 : List azHd := []
theorem ak_e48 : az_ex szP az_inl ak_k48.2.1 ak_t48 ak_k48.2.2.2.2.1 (fun _ => az_pre 58 []) (az_hint ak_t48) (az_leaf ak_k48 ak_h48 none (az_hb 1) (az_rb 1)) 140020 ak_k48.2.2.1.1 ak_k48.2.2.1.2.1 ak_k48.2.2.1.2.2.1 (az_hc ak_k48 (2, 11, (0, 0, 0), szc_58) (0, ak_k48.2.2.1, (0, []), (0, 0))) = true := by decide +kernel
set_option maxRecDepth 100000 in
theorem ak_v48 {X : List (List Value)} (hX : az_X X) : az_Valid X ak_k48 := az_valid sz_pkall_szP (q := (2, 11, (0, 0, 0), szc_58)) hX (tb := ak_t48) (List.forall_mem_cons.mpr ⟨ak_v44 hX, List.forall_mem_cons.mpr ⟨ak_v47 hX, fun _ h => by cases h⟩⟩) rfl (hds := ak_h48) (by decide +kernel) (fun _ h => by cases h) ak_e48 (fun _ h => by cases h)
