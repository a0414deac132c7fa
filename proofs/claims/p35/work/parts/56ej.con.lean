/-! contracts: written by wip/A/gen56.py -/
/-- Model.keep -/
def ak_k252 : azCon := (177, 1, ([(0, (0, 0, []), (0, 0, []))], [((-2147483648), 2147483647)], [], [(1, 145, []), (0, 0, [(0, 1)])], [], [], false), [(some (some (0, 0, [(1, 1)])), [(0, (0, 0, []), (0, 0, [])), (0, (0, 0, []), (0, 0, []))], [((-2147483648), 2147483647), (0, 1)], [], [])], [(141, 6), (160, 0), (161, 0)], (0, 0))
def ak_t252 : List azCon := []
def ak_h252 : List azHd := []
theorem ak_e252 : az_ex szP az_inl ak_k252.2.1 ak_t252 ak_k252.2.2.2.2.1 (fun _ => az_pre 177 []) (az_hint ak_t252) (az_leaf ak_k252 ak_h252 none (az_hb 1) (az_rb 1)) 86080 ak_k252.2.2.1.1 ak_k252.2.2.1.2.1 ak_k252.2.2.1.2.2.1 (az_hc ak_k252 (3, 12, (0, 0, 0), szc_177) (0, ak_k252.2.2.1, (0, []), (0, 0))) = true := by decide +kernel
set_option maxRecDepth 100000 in
theorem ak_v252 {X : List (List Value)} (hX : az_X X) : az_Valid X ak_k252 := az_validS sz_pkall_szP (q := (3, 12, (0, 0, 0), szc_177)) hX (tb := ak_t252) (fun _ h => by cases h) rfl (hds := ak_h252) (by decide +kernel) (fun _ h => by cases h) (fun _ hV => ⟨_, hV, rfl, ak_e252⟩) (fun _ h => by cases h)
