/-! contracts: written by wip/A/gen56.py -/
/-- Model.change -/
def ak_k175 : azCon := (103, 1, ([], [], [], [(1, 145, [])], [], [], false), [(some none, [], [], [], [])], [(141, 14), (147, 0), (148, 0)], (0, 0))
def ak_t175 : List azCon := [ak_k174]
def ak_h175 : List azHd := []
theorem ak_e175 : az_ex szP az_inl ak_k175.2.1 ak_t175 ak_k175.2.2.2.2.1 (fun _ => az_pre 103 []) (az_hint ak_t175) (az_leaf ak_k175 ak_h175 none (az_hb 0) (az_rb 0)) 33220 ak_k175.2.2.1.1 ak_k175.2.2.1.2.1 ak_k175.2.2.1.2.2.1 (az_hc ak_k175 (2, 12, (0, 0, 0), szc_103) (0, ak_k175.2.2.1, (0, []), (0, 0))) = true := by decide +kernel
set_option maxRecDepth 100000 in
theorem ak_v175 {X : List (List Value)} (hX : az_X X) : az_Valid X ak_k175 := az_validS sz_pkall_szP (q := (2, 12, (0, 0, 0), szc_103)) hX (tb := ak_t175) (List.forall_mem_cons.mpr ⟨ak_v174 hX, fun _ h => by cases h⟩) rfl (hds := ak_h175) (by decide +kernel) (fun _ h => by cases h) (fun _ hV => ⟨_, hV, rfl, ak_e175⟩) (fun _ h => by cases h)
