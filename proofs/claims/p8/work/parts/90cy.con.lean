/-! contracts: written by wip/A/gen56.py -/
/-- Model.readNumber -/
def ak_k177 : azCon := (97, 3, ([], [], [], [(1, 145, [])], [], [], false), [(some (some (0, 0, [(0, 1)])), [(0, (0, 0, []), (0, 0, []))], [((-999), 999)], [], [])], [(141, 8), (141, 9)], (0, 0))
def ak_t177 : List azCon := []
def ak_h177 : List azHd := []
theorem ak_e177 : az_ex szP az_inl ak_k177.2.1 ak_t177 ak_k177.2.2.2.2.1 (fun _ => az_pre 97 []) (az_hint ak_t177) (az_leaf ak_k177 ak_h177 none (az_hb 0) (az_rb 0)) 44230 ak_k177.2.2.1.1 ak_k177.2.2.1.2.1 ak_k177.2.2.1.2.2.1 (az_hc ak_k177 (4, 12, (0, 0, 0), szc_97) (0, ak_k177.2.2.1, (0, []), (0, 0))) = true := by decide +kernel
set_option maxRecDepth 100000 in
theorem ak_v177 {X : List (List Value)} (hX : az_X X) : az_Valid X ak_k177 := az_validS sz_pkall_szP (q := (4, 12, (0, 0, 0), szc_97)) hX (tb := ak_t177) (fun _ h => by cases h) rfl (hds := ak_h177) (by decide +kernel) (fun _ h => by cases h) (fun _ hV => ⟨_, hV, rfl, _, fun _ h => h, ak_e177⟩) (fun _ h => by cases h)
