/-! contracts: written by wip/A/gen56.py -/
/-- Model.readAct -/
def ak_k172 : azCon := (95, 4, ([(0, (0, 0, []), (0, 0, []))], [(1, 1)], [], [(1, 145, []), (0, 0, [(0, 1)])], [], [], false), [(some none, [(0, (0, 0, []), (0, 0, []))], [(1, 1)], [], [])], [(141, 11), (141, 8), (141, 9), (145, 0)], (0, 0))
def ak_t172 : List azCon := [ak_k168, ak_k169, ak_k170]
def ak_h172 : List azHd := []
theorem ak_e172 : az_ex szP az_inl ak_k172.2.1 ak_t172 ak_k172.2.2.2.2.1 (fun _ => az_pre 95 []) (az_hint ak_t172) (az_leaf ak_k172 ak_h172 none (az_hb 1) (az_rb 1)) 90730 ak_k172.2.2.1.1 ak_k172.2.2.1.2.1 ak_k172.2.2.1.2.2.1 (az_hc ak_k172 (3, 12, (0, 0, 0), szc_95) (0, ak_k172.2.2.1, (0, []), (0, 0))) = true := by decide +kernel
set_option maxRecDepth 100000 in
theorem ak_v172 {X : List (List Value)} (hX : az_X X) : az_Valid X ak_k172 := az_validS sz_pkall_szP (q := (3, 12, (0, 0, 0), szc_95)) hX (tb := ak_t172) (List.forall_mem_cons.mpr ⟨ak_v168 hX, List.forall_mem_cons.mpr ⟨ak_v169 hX, List.forall_mem_cons.mpr ⟨ak_v170 hX, fun _ h => by cases h⟩⟩⟩) rfl (hds := ak_h172) (by decide +kernel) (fun _ h => by cases h) (fun _ hV => ⟨_, hV, rfl, _, fun _ h => h, ak_e172⟩) (fun _ h => by cases h)
