/-! contracts: written by wip/A/gen56.py -/
/-- Model.tellLast -/
def ak_k186 : azCon := (113, 1, ([(0, (0, 0, []), (0, 0, []))], [(0, 40)], [], [(1, 145, []), (0, 0, [(0, 1)])], [], [], false), [(some none, [(0, (0, 0, []), (0, 0, [])), (0, (0, 0, []), (0, 0, []))], [(0, 40), (0, 10)], [], [(141, (4, []), (0, 0, [(1, 1)]))])], [(141, 5), (144, 0)], (0, 0))
def ak_t186 : List azCon := []
def ak_h186 : List azHd := []
theorem ak_e186 : az_ex szP az_inl ak_k186.2.1 ak_t186 ak_k186.2.2.2.2.1 (fun _ => az_pre 113 []) (az_hint ak_t186) (az_leaf ak_k186 ak_h186 none (az_hb 1) (az_rb 1)) 20770 ak_k186.2.2.1.1 ak_k186.2.2.1.2.1 ak_k186.2.2.1.2.2.1 (az_hc ak_k186 (3, 12, (0, 0, 0), szc_113) (0, ak_k186.2.2.1, (0, []), (0, 0))) = true := by decide +kernel
set_option maxRecDepth 100000 in
theorem ak_v186 {X : List (List Value)} (hX : az_X X) : az_Valid X ak_k186 := az_validS sz_pkall_szP (q := (3, 12, (0, 0, 0), szc_113)) hX (tb := ak_t186) (fun _ h => by cases h) rfl (hds := ak_h186) (by decide +kernel) (fun _ h => by cases h) (fun _ hV => ⟨_, hV, rfl, _, fun _ h => h, ak_e186⟩) (fun _ h => by cases h)
/-- Model.runs -/
def ak_k187 : azCon := (114, 4, ([(0, (0, 0, []), (0, 0, []))], [((-2147483648), 2147483647)], [], [(1, 145, []), (0, 0, [(0, 1)])], [], [], false), [(some (some (0, 0, [(1, 1)])), [(0, (0, 0, []), (0, 0, [])), (0, (0, 0, []), (0, 0, []))], [((-2147483648), 2147483647), ((-1), 40)], [], [])], [(141, 14), (141, 5), (141, 6), (142, 0), (144, 0), (147, 0), (148, 0), (149, 0)], (0, 0))
def ak_t187 : List azCon := [ak_k175, ak_k185, ak_k186]
def ak_h187 : List azHd := []
theorem ak_e187 : az_ex szP az_inl ak_k187.2.1 ak_t187 ak_k187.2.2.2.2.1 (fun _ => az_pre 114 []) (az_hint ak_t187) (az_leaf ak_k187 ak_h187 none (az_hb 1) (az_rb 1)) 2110 ak_k187.2.2.1.1 ak_k187.2.2.1.2.1 ak_k187.2.2.1.2.2.1 (az_hc ak_k187 (2, 12, (0, 0, 0), szc_114) (0, ak_k187.2.2.1, (0, []), (0, 0))) = true := by decide +kernel
set_option maxRecDepth 100000 in
theorem ak_v187 {X : List (List Value)} (hX : az_X X) : az_Valid X ak_k187 := az_validS sz_pkall_szP (q := (2, 12, (0, 0, 0), szc_114)) hX (tb := ak_t187) (List.forall_mem_cons.mpr ⟨ak_v175 hX, List.forall_mem_cons.mpr ⟨ak_v185 hX, List.forall_mem_cons.mpr ⟨ak_v186 hX, fun _ h => by cases h⟩⟩⟩) rfl (hds := ak_h187) (by decide +kernel) (fun _ h => by cases h) (fun _ hV => ⟨_, hV, rfl, _, fun _ h => h, ak_e187⟩) (fun _ h => by cases h)
/-- Model.goes -/
def ak_k188 : azCon := (116, 4, ([(0, (0, 0, []), (0, 0, []))], [(0, 79)], [], [(1, 145, []), (0, 0, [(0, 4)])], [], [], false), [(some (some (0, 0, [(1, 1)])), [(0, (0, 0, []), (0, 0, [])), (0, (0, 0, []), (0, 0, []))], [(0, 79), (0, 1)], [], [])], [(142, 0), (149, 0)], (0, 0))
def ak_t188 : List azCon := [ak_k185]
def ak_h188 : List azHd := []
theorem ak_e188 : az_ex szP az_inl ak_k188.2.1 ak_t188 ak_k188.2.2.2.2.1 (fun _ => az_pre 116 []) (az_hint ak_t188) (az_leaf ak_k188 ak_h188 none (az_hb 1) (az_rb 1)) 28990 ak_k188.2.2.1.1 ak_k188.2.2.1.2.1 ak_k188.2.2.1.2.2.1 (az_hc ak_k188 (5, 12, (0, 0, 0), szc_116) (0, ak_k188.2.2.1, (0, []), (0, 0))) = true := by decide +kernel
set_option maxRecDepth 100000 in
theorem ak_v188 {X : List (List Value)} (hX : az_X X) : az_Valid X ak_k188 := az_validS sz_pkall_szP (q := (5, 12, (0, 0, 0), szc_116)) hX (tb := ak_t188) (List.forall_mem_cons.mpr ⟨ak_v185 hX, fun _ h => by cases h⟩) rfl (hds := ak_h188) (by decide +kernel) (fun _ h => by cases h) (fun _ hV => ⟨_, hV, rfl, _, fun _ h => h, ak_e188⟩) (fun _ h => by cases h)
