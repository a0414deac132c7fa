/-! contracts: written by wip/A/gen56.py -/
/-- $Reader.readsAccess -/
def ak_k28 : azCon := (263, 3, ([(0, (0, 0, []), (0, 0, [])), (0, (0, 0, []), (0, 0, []))], [(0, 9), (0, 0)], [], [(1, 14, []), (0, 0, [(0, 1)]), (0, 0, [(1, 1)])], [], [], false), [(some (some (0, 0, [(2, 1)])), [(0, (0, 0, []), (0, 0, [])), (0, (0, 0, []), (0, 0, [])), (0, (0, 0, []), (0, 0, []))], [(0, 9), (0, 0), (0, 1)], [], [])], [(10, 3), (12, 0), (13, 0), (14, 0), (15, 0), (8, 3)], (0, 0))
def ak_t28 : List azCon := [ak_k26]
def ak_h28 : List azHd := []
theorem ak_e28 : az_ex szP az_inl ak_k28.2.1 ak_t28 ak_k28.2.2.2.2.1 (fun _ => az_pre 263 []) (az_hint ak_t28) (az_leaf ak_k28 ak_h28 none (az_hb 2) (az_rb 2)) 29320 ak_k28.2.2.1.1 ak_k28.2.2.1.2.1 ak_k28.2.2.1.2.2.1 (az_hc ak_k28 (5, 8, (0, 0, 0), szc_263) (0, ak_k28.2.2.1, (0, []), (0, 0))) = true := by decide +kernel
set_option maxRecDepth 100000 in
theorem ak_v28 {X : List (List Value)} (hX : az_X X) : az_Valid X ak_k28 := az_validS sz_pkall_szP (q := (5, 8, (0, 0, 0), szc_263)) hX (tb := ak_t28) (List.forall_mem_cons.mpr ⟨ak_v26 hX, fun _ h => by cases h⟩) rfl (hds := ak_h28) (by decide +kernel) (fun _ h => by cases h) (fun _ hV => ⟨_, hV, rfl, _, fun _ h => h, ak_e28⟩) (fun _ h => by cases h)
