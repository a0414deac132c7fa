/-! contracts: written by wip/A/gen56.py -/
/-- Model.goDrawn -/
def ak_k250 : azCon := (175, 1, ([], [], [], [(1, 145, [])], [], [], false), [(some none, [], [], [], [])], [(141, 30), (142, 0)], (0, 0))
def ak_t250 : List azCon := []
def ak_h250 : List azHd := []
theorem ak_e250 : az_ex szP az_inl ak_k250.2.1 ak_t250 ak_k250.2.2.2.2.1 (fun _ => az_pre 175 []) (az_hint ak_t250) (az_leaf ak_k250 ak_h250 none (az_hb 0) (az_rb 0)) 6490 ak_k250.2.2.1.1 ak_k250.2.2.1.2.1 ak_k250.2.2.1.2.2.1 (az_hc ak_k250 (1, 12, (0, 0, 0), szc_175) (0, ak_k250.2.2.1, (0, []), (0, 0))) = true := by decide +kernel
set_option maxRecDepth 100000 in
theorem ak_v250 {X : List (List Value)} (hX : az_X X) : az_Valid X ak_k250 := az_valid sz_pkall_szP (q := (1, 12, (0, 0, 0), szc_175)) hX (tb := ak_t250) (fun _ h => by cases h) rfl (hds := ak_h250) (by decide +kernel) (fun _ h => by cases h) ak_e250 (fun _ h => by cases h)
