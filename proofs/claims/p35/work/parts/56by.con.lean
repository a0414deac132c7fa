/-! contracts: written by wip/A/gen56.py -/
/-- Model.undo -/
def ak_k191 : azCon := (118, 0, ([], [], [], [(1, 145, [])], [], [], false), [(some (some (0, 0, [(0, 1)])), [(0, (0, 0, []), (0, 0, []))], [((-1), 8)], [], [])], [(141, 14), (141, 6), (142, 0)], (0, 0))
def ak_t191 : List azCon := []
def ak_h191 : List azHd := []
theorem ak_e191 : az_ex szP az_inl ak_k191.2.1 ak_t191 ak_k191.2.2.2.2.1 (fun _ => az_pre 118 []) (az_hint ak_t191) (az_leaf ak_k191 ak_h191 none (az_hb 0) (az_rb 0)) 393970 ak_k191.2.2.1.1 ak_k191.2.2.1.2.1 ak_k191.2.2.1.2.2.1 (az_hc ak_k191 (2, 12, (0, 0, 0), szc_118) (0, ak_k191.2.2.1, (0, []), (0, 0))) = true := by decide +kernel
set_option maxRecDepth 100000 in
theorem ak_v191 {X : List (List Value)} (hX : az_X X) : az_Valid X ak_k191 := az_valid sz_pkall_szP (q := (2, 12, (0, 0, 0), szc_118)) hX (tb := ak_t191) (fun _ h => by cases h) rfl (hds := ak_h191) (by decide +kernel) (fun _ h => by cases h) ak_e191 (fun _ h => by cases h)
