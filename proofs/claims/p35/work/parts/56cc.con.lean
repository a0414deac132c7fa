/-! contracts: written by wip/A/gen56.py -/
/-- Model.addressKind -/
def ak_k199 : azCon := (135, 1, ([(0, (0, 0, []), (0, 0, []))], [(0, 9)], [], [(1, 145, []), (0, 0, [(0, 1)])], [], [], false), [(some (some (0, 0, [(1, 1)])), [(0, (0, 0, []), (0, 0, [])), (0, (0, 0, []), (0, 0, []))], [(0, 9), (0, 2)], [], [])], [], (0, 0))
def ak_t199 : List azCon := []
def ak_h199 : List azHd := []
theorem ak_e199 : az_ex szP az_inl ak_k199.2.1 ak_t199 ak_k199.2.2.2.2.1 (fun _ => az_pre 135 []) (az_hint ak_t199) (az_leaf ak_k199 ak_h199 none (az_hb 1) (az_rb 1)) 541390 ak_k199.2.2.1.1 ak_k199.2.2.1.2.1 ak_k199.2.2.1.2.2.1 (az_hc ak_k199 (7, 12, (0, 0, 0), szc_135) (0, ak_k199.2.2.1, (0, []), (0, 0))) = true := by decide +kernel
set_option maxRecDepth 100000 in
theorem ak_v199 {X : List (List Value)} (hX : az_X X) : az_Valid X ak_k199 := az_valid sz_pkall_szP (q := (7, 12, (0, 0, 0), szc_135)) hX (tb := ak_t199) (fun _ h => by cases h) rfl (hds := ak_h199) (by decide +kernel) (fun _ h => by cases h) ak_e199 (fun _ h => by cases h)
