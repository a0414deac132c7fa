/-! contracts: written by wip/A/gen56.py -/
/-- Model.goDrawn -/
def ak_k251 : azCon := (175, 1, ([], [], [], [(1, 145, [])], [], [], false), [(some none, [], [], [], [])], [(141, 30), (142, 0)], (0, 0))
def ak_t251 : List azCon := []
def ak_h251 : List azHd := []
theorem ak_e251 : az_ex szP az_inl ak_k251.2.1 ak_t251 ak_k251.2.2.2.2.1 (fun _ => az_pre 175 []) (az_hint ak_t251) (az_leaf ak_k251 ak_h251 none (az_hb 0) (az_rb 0)) 6490 ak_k251.2.2.1.1 ak_k251.2.2.1.2.1 ak_k251.2.2.1.2.2.1 (az_hc ak_k251 (1, 12, (0, 0, 0), szc_175) (0, ak_k251.2.2.1, (0, []), (0, 0))) = true := by decide +kernel
set_option maxRecDepth 100000 in
theorem ak_v251 {X : List (List Value)} (hX : az_X X) : az_Valid X ak_k251 := az_validS sz_pkall_szP (q := (1, 12, (0, 0, 0), szc_175)) hX (tb := ak_t251) (fun _ h => by cases h) rfl (hds := ak_h251) (by decide +kernel) (fun _ h => by cases h) (fun _ hV => ⟨_, hV, rfl, _, fun _ h => h, ak_e251⟩) (fun _ h => by cases h)
