/-! contracts: written by wip/A/gen56.py -/
/-- Model.undo -/
def ak_k190 : azCon := (118, 0, ([], [], [], [(1, 145, [])], [], [], false), [(some (some (0, 0, [(0, 1)])), [(0, (0, 0, []), (0, 0, []))], [((-1), 8)], [], [])], [(141, 14), (141, 6), (142, 0)], (0, 0))
def ak_t190 : List azCon := []
def ak_h190 : List azHd := []
theorem ak_e190 : az_ex szP az_inl ak_k190.2.1 ak_t190 ak_k190.2.2.2.2.1 (fun _ => az_pre 118 []) (az_hint ak_t190) (az_leaf ak_k190 ak_h190 none (az_hb 0) (az_rb 0)) 393970 ak_k190.2.2.1.1 ak_k190.2.2.1.2.1 ak_k190.2.2.1.2.2.1 (az_hc ak_k190 (2, 12, (0, 0, 0), szc_118) (0, ak_k190.2.2.1, (0, []), (0, 0))) = true := by decide +kernel
set_option maxRecDepth 100000 in
theorem ak_v190 {X : List (List Value)} (hX : az_X X) : az_Valid X ak_k190 := az_valid sz_pkall_szP (q := (2, 12, (0, 0, 0), szc_118)) hX (tb := ak_t190) (fun _ h => by cases h) rfl (hds := ak_h190) (by decide +kernel) (fun _ h => by cases h) ak_e190 (fun _ h => by cases h)
