/-! contracts: written by wip/A/gen56.py -/
/-- Model.again -/
def ak_k253 : azCon := (178, 1, ([(0, (0, 0, []), (0, 0, []))], [((-2147483648), 2147483647)], [], [(1, 145, []), (0, 0, [(0, 1)])], [], [], false), [(some (some (0, 0, [(1, 1)])), [(0, (0, 0, []), (0, 0, [])), (0, (0, 0, []), (0, 0, []))], [((-2147483648), 2147483647), (0, 1)], [], [])], [(141, 14), (141, 6), (142, 0)], (0, 0))
def ak_t253 : List azCon := []
def ak_h253 : List azHd := []
theorem ak_e253 : az_ex szP az_inl ak_k253.2.1 ak_t253 ak_k253.2.2.2.2.1 (fun _ => az_pre 178 []) (az_hint ak_t253) (az_leaf ak_k253 ak_h253 none (az_hb 1) (az_rb 1)) 86410 ak_k253.2.2.1.1 ak_k253.2.2.1.2.1 ak_k253.2.2.1.2.2.1 (az_hc ak_k253 (3, 12, (0, 0, 0), szc_178) (0, ak_k253.2.2.1, (0, []), (0, 0))) = true := by decide +kernel
set_option maxRecDepth 100000 in
theorem ak_v253 {X : List (List Value)} (hX : az_X X) : az_Valid X ak_k253 := az_validS sz_pkall_szP (q := (3, 12, (0, 0, 0), szc_178)) hX (tb := ak_t253) (fun _ h => by cases h) rfl (hds := ak_h253) (by decide +kernel) (fun _ h => by cases h) (fun _ hV => ⟨_, hV, rfl, ak_e253⟩) (fun _ h => by cases h)
