/-! contracts: written by wip/A/gen56.py -/
/-- .doChange -/
def ak_k50 : azCon := (58, 5, ([(0, (0, 0, []), (0, 0, []))], [(0, 79)], [], [(1, 4, []), (0, 0, [(0, 1)])], [], [], false), [(some (some (0, 0, [(1, 1)])), [(0, (0, 0, []), (0, 0, [])), (0, (0, 0, []), (0, 0, []))], [(0, 79), ((-2), 10)], [], [])], [(18, 2), (33, 3), (38, 0), (6, 0), (7, 0)], (0, 0))
def ak_t50 : List azCon := [ak_k44, ak_k49]
def ak_h50 : List azHd := []
theorem ak_e50 : az_ex szP az_inl ak_k50.2.1 ak_t50 ak_k50.2.2.2.2.1 (fun _ => az_pre 58 []) (az_hint ak_t50) (az_leaf ak_k50 ak_h50 none (az_hb 1) (az_rb 1)) 140020 ak_k50.2.2.1.1 ak_k50.2.2.1.2.1 ak_k50.2.2.1.2.2.1 (az_hc ak_k50 (2, 11, (0, 0, 0), szc_58) (0, ak_k50.2.2.1, (0, []), (0, 0))) = true := by decide +kernel
set_option maxRecDepth 100000 in
theorem ak_v50 {X : List (List Value)} (hX : az_X X) : az_Valid X ak_k50 := az_validS sz_pkall_szP (q := (2, 11, (0, 0, 0), szc_58)) hX (tb := ak_t50) (List.forall_mem_cons.mpr ⟨ak_v44 hX, List.forall_mem_cons.mpr ⟨ak_v49 hX, fun _ h => by cases h⟩⟩) rfl (hds := ak_h50) (by decide +kernel) (fun _ h => by cases h) (fun _ hV => ⟨_, hV, rfl, _, fun _ h => h, ak_e50⟩) (fun _ h => by cases h)
