/-! contracts: written by wip/A/gen56.py -/
/-- $Bounds.findAddressBy -/
def ak_k77 : azCon := (193, 0, ([(0, (0, 0, []), (0, 0, [])), (0, (0, 0, []), (0, 0, []))], [(1, 1), (0, 9)], [], [(1, 22, []), (0, 0, [(0, 1)]), (0, 0, [(1, 1)])], [], [], false), [(some none, [(0, (0, 0, []), (0, 0, [])), (0, (0, 0, []), (0, 0, []))], [(1, 1), (0, 9)], [], [])], [(22, 0), (23, 0)], (0, 0))
def ak_t77 : List azCon := []
def ak_h77 : List azHd := []
theorem ak_e77 : az_ex szP az_inl ak_k77.2.1 ak_t77 ak_k77.2.2.2.2.1 (fun _ => az_pre 193 []) (az_hint ak_t77) (az_leaf ak_k77 ak_h77 none (az_hb 2) (az_rb 2)) 27310 ak_k77.2.2.1.1 ak_k77.2.2.1.2.1 ak_k77.2.2.1.2.2.1 (az_hc ak_k77 (6, 2, (0, 0, 0), szc_193) (0, ak_k77.2.2.1, (0, []), (0, 0))) = true := by decide +kernel
set_option maxRecDepth 100000 in
theorem ak_v77 {X : List (List Value)} (hX : az_X X) : az_Valid X ak_k77 := az_validS sz_pkall_szP (q := (6, 2, (0, 0, 0), szc_193)) hX (tb := ak_t77) (fun _ h => by cases h) rfl (hds := ak_h77) (by decide +kernel) (fun _ h => by cases h) (fun _ hV => ⟨_, hV, rfl, _, fun _ h => h, ak_e77⟩) (fun _ h => by cases h)
/-- $Bounds.findAddressBy -/
def ak_k78 : azCon := (193, 0, ([(0, (0, 0, []), (0, 0, [])), (0, (0, 0, []), (0, 0, []))], [(9, 9), (0, 9)], [], [(1, 22, []), (0, 0, [(0, 1)]), (0, 0, [(1, 1)])], [], [], false), [(some none, [(0, (0, 0, []), (0, 0, [])), (0, (0, 0, []), (0, 0, []))], [(9, 9), (0, 9)], [], [])], [(22, 0), (23, 0)], (0, 0))
def ak_t78 : List azCon := []
def ak_h78 : List azHd := []
theorem ak_e78 : az_ex szP az_inl ak_k78.2.1 ak_t78 ak_k78.2.2.2.2.1 (fun _ => az_pre 193 []) (az_hint ak_t78) (az_leaf ak_k78 ak_h78 none (az_hb 2) (az_rb 2)) 27310 ak_k78.2.2.1.1 ak_k78.2.2.1.2.1 ak_k78.2.2.1.2.2.1 (az_hc ak_k78 (6, 2, (0, 0, 0), szc_193) (0, ak_k78.2.2.1, (0, []), (0, 0))) = true := by decide +kernel
set_option maxRecDepth 100000 in
theorem ak_v78 {X : List (List Value)} (hX : az_X X) : az_Valid X ak_k78 := az_validS sz_pkall_szP (q := (6, 2, (0, 0, 0), szc_193)) hX (tb := ak_t78) (fun _ h => by cases h) rfl (hds := ak_h78) (by decide +kernel) (fun _ h => by cases h) (fun _ hV => ⟨_, hV, rfl, _, fun _ h => h, ak_e78⟩) (fun _ h => by cases h)
/-- $Bounds.findAddressBy -/
def ak_k79 : azCon := (193, 0, ([(0, (0, 0, []), (0, 0, [])), (0, (0, 0, []), (0, 0, []))], [(1, 9), (0, 9)], [], [(1, 22, []), (0, 0, [(0, 1)]), (0, 0, [(1, 1)])], [], [], false), [(some none, [(0, (0, 0, []), (0, 0, [])), (0, (0, 0, []), (0, 0, []))], [(1, 9), (0, 9)], [], [])], [(22, 0), (23, 0)], (0, 0))
def ak_t79 : List azCon := []
def ak_h79 : List azHd := []
theorem ak_e79 : az_ex szP az_inl ak_k79.2.1 ak_t79 ak_k79.2.2.2.2.1 (fun _ => az_pre 193 []) (az_hint ak_t79) (az_leaf ak_k79 ak_h79 none (az_hb 2) (az_rb 2)) 27310 ak_k79.2.2.1.1 ak_k79.2.2.1.2.1 ak_k79.2.2.1.2.2.1 (az_hc ak_k79 (6, 2, (0, 0, 0), szc_193) (0, ak_k79.2.2.1, (0, []), (0, 0))) = true := by decide +kernel
set_option maxRecDepth 100000 in
theorem ak_v79 {X : List (List Value)} (hX : az_X X) : az_Valid X ak_k79 := az_validS sz_pkall_szP (q := (6, 2, (0, 0, 0), szc_193)) hX (tb := ak_t79) (fun _ h => by cases h) rfl (hds := ak_h79) (by decide +kernel) (fun _ h => by cases h) (fun _ hV => ⟨_, hV, rfl, _, fun _ h => h, ak_e79⟩) (fun _ h => by cases h)
