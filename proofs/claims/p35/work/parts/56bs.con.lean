/-! contracts: written by wip/A/gen56.py -/
/-- Model.readNumber -/
def ak_k178 : azCon := (97, 3, ([], [], [], [(1, 145, [])], [], [], false), [(some (some (0, 0, [(0, 1)])), [(0, (0, 0, []), (0, 0, []))], [((-999), 999)], [], [])], [(141, 8), (141, 9)], (0, 0))
def ak_t178 : List azCon := []
def ak_h178 : List azHd := []
theorem ak_e178 : az_ex szP az_inl ak_k178.2.1 ak_t178 ak_k178.2.2.2.2.1 (fun _ => az_pre 97 []) (az_hint ak_t178) (az_leaf ak_k178 ak_h178 none (az_hb 0) (az_rb 0)) 44230 ak_k178.2.2.1.1 ak_k178.2.2.1.2.1 ak_k178.2.2.1.2.2.1 (az_hc ak_k178 (4, 12, (0, 0, 0), szc_97) (0, ak_k178.2.2.1, (0, []), (0, 0))) = true := by decide +kernel
set_option maxRecDepth 100000 in
theorem ak_v178 {X : List (List Value)} (hX : az_X X) : az_Valid X ak_k178 := az_valid sz_pkall_szP (q := (4, 12, (0, 0, 0), szc_97)) hX (tb := ak_t178) (fun _ h => by cases h) rfl (hds := ak_h178) (by decide +kernel) (fun _ h => by cases h) ak_e178 (fun _ h => by cases h)
