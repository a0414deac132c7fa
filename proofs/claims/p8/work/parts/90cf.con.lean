/-! contracts: written by wip/A/gen56.py -/
/-- .drawUnit -/
def ak_k151 : azCon := (66, 2, ([], [], [], [(1, 4, []), (1, 1000000, [])], [], [], true), [(some none, [], [], [], [])], [(18, 2), (33, 3), (7, 0)], (0, 0))
def ak_t151 : List azCon := []
def ak_h151 : List azHd := []
theorem ak_e151 : az_ex szP az_inl ak_k151.2.1 ak_t151 ak_k151.2.2.2.2.1 (fun _ => az_pre 66 []) (az_hint ak_t151) (az_leaf ak_k151 ak_h151 none (az_hb 0) (az_rb 0)) 12790 ak_k151.2.2.1.1 ak_k151.2.2.1.2.1 ak_k151.2.2.1.2.2.1 (az_hc ak_k151 (3, 11, (0, 0, 0), szc_66) (0, ak_k151.2.2.1, (0, []), (0, 0))) = true := by decide +kernel
set_option maxRecDepth 100000 in
theorem ak_v151 {X : List (List Value)} (hX : az_X X) : az_Valid X ak_k151 := az_validS sz_pkall_szP (q := (3, 11, (0, 0, 0), szc_66)) hX (tb := ak_t151) (fun _ h => by cases h) rfl (hds := ak_h151) (by decide +kernel) (fun _ h => by cases h) (fun _ hV => ⟨_, hV, rfl, _, fun _ h => h, ak_e151⟩) (fun _ h => by cases h)
/-- $Held.takeLoop -/
def ak_k152 : azCon := (216, 0, ([], [], [], [(1, 138, []), (1, 5, [])], [], [], false), [(some none, [], [], [], [])], [(134, 1), (135, 0), (136, 0), (137, 0), (138, 0)], (0, 0))
def ak_t152 : List azCon := []
def ak_h152 : List azHd := []
theorem ak_e152 : az_ex szP az_inl ak_k152.2.1 ak_t152 ak_k152.2.2.2.2.1 (fun _ => az_pre 216 []) (az_hint ak_t152) (az_leaf ak_k152 ak_h152 none (az_hb 0) (az_rb 0)) 2110 ak_k152.2.2.1.1 ak_k152.2.2.1.2.1 ak_k152.2.2.1.2.2.1 (az_hc ak_k152 (2, 4, (0, 0, 0), szc_216) (0, ak_k152.2.2.1, (0, []), (0, 0))) = true := by decide +kernel
set_option maxRecDepth 100000 in
theorem ak_v152 {X : List (List Value)} (hX : az_X X) : az_Valid X ak_k152 := az_validS sz_pkall_szP (q := (2, 4, (0, 0, 0), szc_216)) hX (tb := ak_t152) (fun _ h => by cases h) rfl (hds := ak_h152) (by decide +kernel) (fun _ h => by cases h) (fun _ hV => ⟨_, hV, rfl, _, fun _ h => h, ak_e152⟩) (fun _ h => by cases h)
/-- $Held.take -/
def ak_k153 : azCon := (215, 1, ([], [], [], [(1, 138, []), (1, 5, [])], [], [], false), [(some none, [], [], [], [])], [(134, 1), (135, 0), (136, 0), (137, 0), (138, 0), (139, 0), (140, 0)], (0, 0))
def ak_t153 : List azCon := [ak_k152]
def ak_h153 : List azHd := []
theorem ak_e153 : az_ex szP az_inl ak_k153.2.1 ak_t153 ak_k153.2.2.2.2.1 (fun _ => az_pre 215 []) (az_hint ak_t153) (az_leaf ak_k153 ak_h153 none (az_hb 0) (az_rb 0)) 1720 ak_k153.2.2.1.1 ak_k153.2.2.1.2.1 ak_k153.2.2.1.2.2.1 (az_hc ak_k153 (2, 4, (0, 0, 0), szc_215) (0, ak_k153.2.2.1, (0, []), (0, 0))) = true := by decide +kernel
set_option maxRecDepth 100000 in
theorem ak_v153 {X : List (List Value)} (hX : az_X X) : az_Valid X ak_k153 := az_validS sz_pkall_szP (q := (2, 4, (0, 0, 0), szc_215)) hX (tb := ak_t153) (List.forall_mem_cons.mpr ⟨ak_v152 hX, fun _ h => by cases h⟩) rfl (hds := ak_h153) (by decide +kernel) (fun _ h => by cases h) (fun _ hV => ⟨_, hV, rfl, _, fun _ h => h, ak_e153⟩) (fun _ h => by cases h)
/-- $Held.takeLoop -/
def ak_k154 : azCon := (216, 0, ([], [], [], [(1, 131, []), (1, 5, [])], [], [], false), [(some none, [], [], [], [])], [(127, 1), (128, 0), (129, 0), (130, 0), (131, 0)], (0, 0))
def ak_t154 : List azCon := []
def ak_h154 : List azHd := []
theorem ak_e154 : az_ex szP az_inl ak_k154.2.1 ak_t154 ak_k154.2.2.2.2.1 (fun _ => az_pre 216 []) (az_hint ak_t154) (az_leaf ak_k154 ak_h154 none (az_hb 0) (az_rb 0)) 2110 ak_k154.2.2.1.1 ak_k154.2.2.1.2.1 ak_k154.2.2.1.2.2.1 (az_hc ak_k154 (2, 4, (0, 0, 0), szc_216) (0, ak_k154.2.2.1, (0, []), (0, 0))) = true := by decide +kernel
set_option maxRecDepth 100000 in
theorem ak_v154 {X : List (List Value)} (hX : az_X X) : az_Valid X ak_k154 := az_validS sz_pkall_szP (q := (2, 4, (0, 0, 0), szc_216)) hX (tb := ak_t154) (fun _ h => by cases h) rfl (hds := ak_h154) (by decide +kernel) (fun _ h => by cases h) (fun _ hV => ⟨_, hV, rfl, _, fun _ h => h, ak_e154⟩) (fun _ h => by cases h)
/-- $Held.take -/
def ak_k155 : azCon := (215, 1, ([], [], [], [(1, 131, []), (1, 5, [])], [], [], false), [(some none, [], [], [], [])], [(127, 1), (128, 0), (129, 0), (130, 0), (131, 0), (132, 0), (133, 0)], (0, 0))
def ak_t155 : List azCon := [ak_k154]
def ak_h155 : List azHd := []
theorem ak_e155 : az_ex szP az_inl ak_k155.2.1 ak_t155 ak_k155.2.2.2.2.1 (fun _ => az_pre 215 []) (az_hint ak_t155) (az_leaf ak_k155 ak_h155 none (az_hb 0) (az_rb 0)) 1720 ak_k155.2.2.1.1 ak_k155.2.2.1.2.1 ak_k155.2.2.1.2.2.1 (az_hc ak_k155 (2, 4, (0, 0, 0), szc_215) (0, ak_k155.2.2.1, (0, []), (0, 0))) = true := by decide +kernel
set_option maxRecDepth 100000 in
theorem ak_v155 {X : List (List Value)} (hX : az_X X) : az_Valid X ak_k155 := az_validS sz_pkall_szP (q := (2, 4, (0, 0, 0), szc_215)) hX (tb := ak_t155) (List.forall_mem_cons.mpr ⟨ak_v154 hX, fun _ h => by cases h⟩) rfl (hds := ak_h155) (by decide +kernel) (fun _ h => by cases h) (fun _ hV => ⟨_, hV, rfl, _, fun _ h => h, ak_e155⟩) (fun _ h => by cases h)
/-- $History.keepUnder -/
def ak_k156 : azCon := (227, 2, ([(0, (0, 0, []), (0, 0, []))], [((-2147483648), 2147483647)], [], [(1, 57, []), (0, 0, [(0, 1)])], [], [], false), [(some (some (0, 0, [(1, 1)])), [(0, (0, 0, []), (0, 0, [])), (0, (0, 0, []), (0, 0, []))], [((-2147483648), 2147483647), (0, 1)], [], [])], [(127, 1), (128, 0), (129, 0), (130, 0), (131, 0), (132, 0), (133, 0), (134, 1), (135, 0), (136, 0), (137, 0), (138, 0), (139, 0), (140, 0), (56, 0)], (0, 0))
def ak_t156 : List azCon := [ak_k153, ak_k155]
def ak_h156 : List azHd := []
theorem ak_e156 : az_ex szP az_inl ak_k156.2.1 ak_t156 ak_k156.2.2.2.2.1 (fun _ => az_pre 227 []) (az_hint ak_t156) (az_leaf ak_k156 ak_h156 none (az_hb 1) (az_rb 1)) 2050 ak_k156.2.2.1.1 ak_k156.2.2.1.2.1 ak_k156.2.2.1.2.2.1 (az_hc ak_k156 (2, 5, (0, 0, 0), szc_227) (0, ak_k156.2.2.1, (0, []), (0, 0))) = true := by decide +kernel
set_option maxRecDepth 100000 in
theorem ak_v156 {X : List (List Value)} (hX : az_X X) : az_Valid X ak_k156 := az_validS sz_pkall_szP (q := (2, 5, (0, 0, 0), szc_227)) hX (tb := ak_t156) (List.forall_mem_cons.mpr ⟨ak_v153 hX, List.forall_mem_cons.mpr ⟨ak_v155 hX, fun _ h => by cases h⟩⟩) rfl (hds := ak_h156) (by decide +kernel) (fun _ h => by cases h) (fun _ hV => ⟨_, hV, rfl, _, fun _ h => h, ak_e156⟩) (fun _ h => by cases h)
/-- .keep -/
def ak_k157 : azCon := (39, 3, ([(0, (0, 0, []), (0, 0, []))], [((-2147483648), 2147483647)], [], [(1, 4, []), (0, 0, [(0, 1)])], [], [], false), [(some (some (0, 0, [(1, 1)])), [(0, (0, 0, []), (0, 0, [])), (0, (0, 0, []), (0, 0, []))], [((-2147483648), 2147483647), (0, 1)], [], [])], [(127, 1), (128, 0), (129, 0), (130, 0), (131, 0), (132, 0), (133, 0), (134, 1), (135, 0), (136, 0), (137, 0), (138, 0), (139, 0), (140, 0), (56, 0)], (0, 0))
def ak_t157 : List azCon := [ak_k156]
def ak_h157 : List azHd := []
theorem ak_e157 : az_ex szP az_inl ak_k157.2.1 ak_t157 ak_k157.2.2.2.2.1 (fun _ => az_pre 39 []) (az_hint ak_t157) (az_leaf ak_k157 ak_h157 none (az_hb 1) (az_rb 1)) 1150 ak_k157.2.2.1.1 ak_k157.2.2.1.2.1 ak_k157.2.2.1.2.2.1 (az_hc ak_k157 (2, 11, (0, 0, 0), szc_39) (0, ak_k157.2.2.1, (0, []), (0, 0))) = true := by decide +kernel
set_option maxRecDepth 100000 in
theorem ak_v157 {X : List (List Value)} (hX : az_X X) : az_Valid X ak_k157 := az_validS sz_pkall_szP (q := (2, 11, (0, 0, 0), szc_39)) hX (tb := ak_t157) (List.forall_mem_cons.mpr ⟨ak_v156 hX, fun _ h => by cases h⟩) rfl (hds := ak_h157) (by decide +kernel) (fun _ h => by cases h) (fun _ hV => ⟨_, hV, rfl, _, fun _ h => h, ak_e157⟩) (fun _ h => by cases h)
/-- $Held.takeLoop -/
def ak_k158 : azCon := (216, 0, ([], [], [], [(1, 5, []), (1, 138, [])], [], [], false), [(some none, [], [], [], [])], [(1, 1), (2, 0), (3, 0), (4, 0), (5, 0)], (0, 0))
def ak_t158 : List azCon := []
def ak_h158 : List azHd := []
theorem ak_e158 : az_ex szP az_inl ak_k158.2.1 ak_t158 ak_k158.2.2.2.2.1 (fun _ => az_pre 216 []) (az_hint ak_t158) (az_leaf ak_k158 ak_h158 none (az_hb 0) (az_rb 0)) 2110 ak_k158.2.2.1.1 ak_k158.2.2.1.2.1 ak_k158.2.2.1.2.2.1 (az_hc ak_k158 (2, 4, (0, 0, 0), szc_216) (0, ak_k158.2.2.1, (0, []), (0, 0))) = true := by decide +kernel
set_option maxRecDepth 100000 in
theorem ak_v158 {X : List (List Value)} (hX : az_X X) : az_Valid X ak_k158 := az_validS sz_pkall_szP (q := (2, 4, (0, 0, 0), szc_216)) hX (tb := ak_t158) (fun _ h => by cases h) rfl (hds := ak_h158) (by decide +kernel) (fun _ h => by cases h) (fun _ hV => ⟨_, hV, rfl, _, fun _ h => h, ak_e158⟩) (fun _ h => by cases h)
/-- $Held.take -/
def ak_k159 : azCon := (215, 1, ([], [], [], [(1, 5, []), (1, 138, [])], [], [], false), [(some none, [], [], [], [])], [(1, 1), (2, 0), (3, 0), (4, 0), (5, 0), (6, 0), (7, 0)], (0, 0))
def ak_t159 : List azCon := [ak_k158]
def ak_h159 : List azHd := []
theorem ak_e159 : az_ex szP az_inl ak_k159.2.1 ak_t159 ak_k159.2.2.2.2.1 (fun _ => az_pre 215 []) (az_hint ak_t159) (az_leaf ak_k159 ak_h159 none (az_hb 0) (az_rb 0)) 1720 ak_k159.2.2.1.1 ak_k159.2.2.1.2.1 ak_k159.2.2.1.2.2.1 (az_hc ak_k159 (2, 4, (0, 0, 0), szc_215) (0, ak_k159.2.2.1, (0, []), (0, 0))) = true := by decide +kernel
set_option maxRecDepth 100000 in
theorem ak_v159 {X : List (List Value)} (hX : az_X X) : az_Valid X ak_k159 := az_validS sz_pkall_szP (q := (2, 4, (0, 0, 0), szc_215)) hX (tb := ak_t159) (List.forall_mem_cons.mpr ⟨ak_v158 hX, fun _ h => by cases h⟩) rfl (hds := ak_h159) (by decide +kernel) (fun _ h => by cases h) (fun _ hV => ⟨_, hV, rfl, _, fun _ h => h, ak_e159⟩) (fun _ h => by cases h)
/-- $Held.takeLoop -/
def ak_k160 : azCon := (216, 0, ([], [], [], [(1, 5, []), (1, 131, [])], [], [], false), [(some none, [], [], [], [])], [(1, 1), (2, 0), (3, 0), (4, 0), (5, 0)], (0, 0))
def ak_t160 : List azCon := []
def ak_h160 : List azHd := []
theorem ak_e160 : az_ex szP az_inl ak_k160.2.1 ak_t160 ak_k160.2.2.2.2.1 (fun _ => az_pre 216 []) (az_hint ak_t160) (az_leaf ak_k160 ak_h160 none (az_hb 0) (az_rb 0)) 2110 ak_k160.2.2.1.1 ak_k160.2.2.1.2.1 ak_k160.2.2.1.2.2.1 (az_hc ak_k160 (2, 4, (0, 0, 0), szc_216) (0, ak_k160.2.2.1, (0, []), (0, 0))) = true := by decide +kernel
set_option maxRecDepth 100000 in
theorem ak_v160 {X : List (List Value)} (hX : az_X X) : az_Valid X ak_k160 := az_validS sz_pkall_szP (q := (2, 4, (0, 0, 0), szc_216)) hX (tb := ak_t160) (fun _ h => by cases h) rfl (hds := ak_h160) (by decide +kernel) (fun _ h => by cases h) (fun _ hV => ⟨_, hV, rfl, _, fun _ h => h, ak_e160⟩) (fun _ h => by cases h)
/-- $Held.take -/
def ak_k161 : azCon := (215, 1, ([], [], [], [(1, 5, []), (1, 131, [])], [], [], false), [(some none, [], [], [], [])], [(1, 1), (2, 0), (3, 0), (4, 0), (5, 0), (6, 0), (7, 0)], (0, 0))
def ak_t161 : List azCon := [ak_k160]
def ak_h161 : List azHd := []
theorem ak_e161 : az_ex szP az_inl ak_k161.2.1 ak_t161 ak_k161.2.2.2.2.1 (fun _ => az_pre 215 []) (az_hint ak_t161) (az_leaf ak_k161 ak_h161 none (az_hb 0) (az_rb 0)) 1720 ak_k161.2.2.1.1 ak_k161.2.2.1.2.1 ak_k161.2.2.1.2.2.1 (az_hc ak_k161 (2, 4, (0, 0, 0), szc_215) (0, ak_k161.2.2.1, (0, []), (0, 0))) = true := by decide +kernel
set_option maxRecDepth 100000 in
theorem ak_v161 {X : List (List Value)} (hX : az_X X) : az_Valid X ak_k161 := az_validS sz_pkall_szP (q := (2, 4, (0, 0, 0), szc_215)) hX (tb := ak_t161) (List.forall_mem_cons.mpr ⟨ak_v160 hX, fun _ h => by cases h⟩) rfl (hds := ak_h161) (by decide +kernel) (fun _ h => by cases h) (fun _ hV => ⟨_, hV, rfl, _, fun _ h => h, ak_e161⟩) (fun _ h => by cases h)
/-- $History.takeFrom -/
def ak_k162 : azCon := (228, 2, ([(0, (0, 0, []), (0, 0, []))], [((-2147483648), 2147483647)], [], [(1, 57, []), (0, 0, [(0, 1)])], [], [], false), [(some (some (0, 0, [(1, 1)])), [(0, (0, 0, []), (0, 0, [])), (0, (0, 0, []), (0, 0, []))], [((-2147483648), 2147483647), (0, 1)], [], [])], [(1, 1), (2, 0), (3, 0), (4, 0), (5, 0), (53, 4), (6, 0), (7, 0)], (0, 0))
def ak_t162 : List azCon := [ak_k159, ak_k161]
def ak_h162 : List azHd := []
theorem ak_e162 : az_ex szP az_inl ak_k162.2.1 ak_t162 ak_k162.2.2.2.2.1 (fun _ => az_pre 228 []) (az_hint ak_t162) (az_leaf ak_k162 ak_h162 none (az_hb 1) (az_rb 1)) 2080 ak_k162.2.2.1.1 ak_k162.2.2.1.2.1 ak_k162.2.2.1.2.2.1 (az_hc ak_k162 (2, 5, (0, 0, 0), szc_228) (0, ak_k162.2.2.1, (0, []), (0, 0))) = true := by decide +kernel
set_option maxRecDepth 100000 in
theorem ak_v162 {X : List (List Value)} (hX : az_X X) : az_Valid X ak_k162 := az_validS sz_pkall_szP (q := (2, 5, (0, 0, 0), szc_228)) hX (tb := ak_t162) (List.forall_mem_cons.mpr ⟨ak_v159 hX, List.forall_mem_cons.mpr ⟨ak_v161 hX, fun _ h => by cases h⟩⟩) rfl (hds := ak_h162) (by decide +kernel) (fun _ h => by cases h) (fun _ hV => ⟨_, hV, rfl, _, fun _ h => h, ak_e162⟩) (fun _ h => by cases h)
/-- .again -/
def ak_k163 : azCon := (40, 3, ([(0, (0, 0, []), (0, 0, []))], [((-2147483648), 2147483647)], [], [(1, 4, []), (0, 0, [(0, 1)])], [], [], false), [(some (some (0, 0, [(1, 1)])), [(0, (0, 0, []), (0, 0, [])), (0, (0, 0, []), (0, 0, []))], [((-2147483648), 2147483647), (0, 1)], [], [])], [(1, 1), (18, 2), (2, 0), (3, 0), (33, 3), (4, 0), (5, 0), (53, 4), (6, 0), (7, 0)], (0, 0))
def ak_t163 : List azCon := [ak_k162]
def ak_h163 : List azHd := []
theorem ak_e163 : az_ex szP az_inl ak_k163.2.1 ak_t163 ak_k163.2.2.2.2.1 (fun _ => az_pre 40 []) (az_hint ak_t163) (az_leaf ak_k163 ak_h163 none (az_hb 1) (az_rb 1)) 1780 ak_k163.2.2.1.1 ak_k163.2.2.1.2.1 ak_k163.2.2.1.2.2.1 (az_hc ak_k163 (2, 11, (0, 0, 0), szc_40) (0, ak_k163.2.2.1, (0, []), (0, 0))) = true := by decide +kernel
set_option maxRecDepth 100000 in
theorem ak_v163 {X : List (List Value)} (hX : az_X X) : az_Valid X ak_k163 := az_validS sz_pkall_szP (q := (2, 11, (0, 0, 0), szc_40)) hX (tb := ak_t163) (List.forall_mem_cons.mpr ⟨ak_v162 hX, fun _ h => by cases h⟩) rfl (hds := ak_h163) (by decide +kernel) (fun _ h => by cases h) (fun _ hV => ⟨_, hV, rfl, _, fun _ h => h, ak_e163⟩) (fun _ h => by cases h)
/-- $Held.countSorts -/
def ak_k164 : azCon := (219, 0, ([(0, (0, 0, []), (0, 0, [])), (0, (0, 0, []), (0, 0, []))], [(1, 9), (1, 9)], [], [(1, 5, []), (0, 0, [(0, 1)]), (0, 0, [(1, 1)])], [], [], false), [(some (some (0, 0, [(2, 1)])), [(0, (0, 0, []), (0, 0, [])), (0, (0, 0, []), (0, 0, [])), (0, (0, 0, []), (0, 0, []))], [(1, 9), (1, 9), (0, 10)], [], [])], [], (0, 0))
def ak_t164 : List azCon := []
def ak_d164_0 : azHd := (4, ([(0, (0, 0, []), (0, 0, [])), (0, (0, 0, []), (0, 0, [])), (0, (0, 0, []), (0, 0, [])), (0, (0, 0, []), (0, 0, []))], [(1, 9), (1, 9), (0, 10), (0, 10)], [(0, [(2, (-1)), (3, 1)])], [(1, 5, []), (0, 0, [(0, 1)]), (0, 0, [(1, 1)]), (0, 0, [(2, 1)]), (0, 0, [(3, 1)])], [], [], false), (21, [(3, (-2))]), (0, 0))
def ak_h164 : List azHd := [ak_d164_0]
theorem ak_e164 : az_ex szP az_inl ak_k164.2.1 ak_t164 ak_k164.2.2.2.2.1 (fun _ => az_pre 219 []) (az_hint ak_t164) (az_leaf ak_k164 ak_h164 none (az_hb 2) (az_rb 2)) 6220 ak_k164.2.2.1.1 ak_k164.2.2.1.2.1 ak_k164.2.2.1.2.2.1 (az_hc ak_k164 (5, 4, (0, 0, 0), szc_219) (0, ak_k164.2.2.1, (0, []), (0, 0))) = true := by decide +kernel
theorem ak_e164_0 : az_ex szP az_inl ak_k164.2.1 ak_t164 ak_k164.2.2.2.2.1 (fun _ => az_pre 219 []) (az_hint ak_t164) (az_leaf ak_k164 ak_h164 (some ak_d164_0.2.2.1) (az_hb 2) (az_rb 2)) 6220 ak_d164_0.2.1.1 ak_d164_0.2.1.2.1 ak_d164_0.2.1.2.2.1 (az_hc ak_k164 (5, 4, (0, 0, 0), szc_219) ak_d164_0) = true := by decide +kernel
set_option maxRecDepth 100000 in
theorem ak_v164 {X : List (List Value)} (hX : az_X X) : az_Valid X ak_k164 := az_validS sz_pkall_szP (q := (5, 4, (0, 0, 0), szc_219)) hX (tb := ak_t164) (fun _ h => by cases h) rfl (hds := ak_h164) (by decide +kernel) (List.forall_mem_cons.mpr ⟨by decide +kernel, fun _ h => by cases h⟩) (fun _ hV => ⟨_, hV, rfl, _, fun _ h => h, ak_e164⟩) (List.forall_mem_cons.mpr ⟨fun _ hV => ⟨_, hV, rfl, _, fun _ h => h, ak_e164_0⟩, fun _ h => by cases h⟩)
/-- .count -/
def ak_k165 : azCon := (41, 1, ([(0, (0, 0, []), (0, 0, []))], [((-2147483648), 2147483647)], [], [(1, 4, []), (0, 0, [(0, 1)])], [], [], false), [(some (some (0, 0, [(1, 1)])), [(0, (0, 0, []), (0, 0, [])), (0, (0, 0, []), (0, 0, []))], [((-2147483648), 2147483647), ((-1), 80)], [], [])], [], (0, 0))
def ak_t165 : List azCon := [ak_k82, ak_k164]
def ak_h165 : List azHd := []
theorem ak_e165 : az_ex szP az_inl ak_k165.2.1 ak_t165 ak_k165.2.2.2.2.1 (fun _ => az_pre 41 []) (az_hint ak_t165) (az_leaf ak_k165 ak_h165 none (az_hb 1) (az_rb 1)) 3370 ak_k165.2.2.1.1 ak_k165.2.2.1.2.1 ak_k165.2.2.1.2.2.1 (az_hc ak_k165 (2, 11, (0, 0, 0), szc_41) (0, ak_k165.2.2.1, (0, []), (0, 0))) = true := by decide +kernel
set_option maxRecDepth 100000 in
theorem ak_v165 {X : List (List Value)} (hX : az_X X) : az_Valid X ak_k165 := az_validS sz_pkall_szP (q := (2, 11, (0, 0, 0), szc_41)) hX (tb := ak_t165) (List.forall_mem_cons.mpr ⟨ak_v82 hX, List.forall_mem_cons.mpr ⟨ak_v164 hX, fun _ h => by cases h⟩⟩) rfl (hds := ak_h165) (by decide +kernel) (fun _ h => by cases h) (fun _ hV => ⟨_, hV, rfl, _, fun _ h => h, ak_e165⟩) (fun _ h => by cases h)
/-- Model.sign -/
def ak_k166 : azCon := (83, 0, ([(0, (0, 0, []), (0, 0, []))], [((-2147483648), 2147483647)], [], [(1, 145, []), (0, 0, [(0, 1)])], [], [], false), [(some (some (0, 0, [(1, 1)])), [(0, (0, 0, []), (0, 0, [])), (0, (0, 0, []), (0, 0, []))], [((-2147483648), 2147483647), ((-1), 80)], [], [])], [(141, 3), (141, 6), (143, 0)], (0, 0))
def ak_t166 : List azCon := []
def ak_h166 : List azHd := []
theorem ak_e166 : az_ex szP az_inl ak_k166.2.1 ak_t166 ak_k166.2.2.2.2.1 (fun _ => az_pre 83 []) (az_hint ak_t166) (az_leaf ak_k166 ak_h166 none (az_hb 1) (az_rb 1)) 3940 ak_k166.2.2.1.1 ak_k166.2.2.1.2.1 ak_k166.2.2.1.2.2.1 (az_hc ak_k166 (3, 12, (0, 0, 0), szc_83) (0, ak_k166.2.2.1, (0, []), (0, 0))) = true := by decide +kernel
set_option maxRecDepth 100000 in
theorem ak_v166 {X : List (List Value)} (hX : az_X X) : az_Valid X ak_k166 := az_validS sz_pkall_szP (q := (3, 12, (0, 0, 0), szc_83)) hX (tb := ak_t166) (fun _ h => by cases h) rfl (hds := ak_h166) (by decide +kernel) (fun _ h => by cases h) (fun _ hV => ⟨_, hV, rfl, _, fun _ h => h, ak_e166⟩) (fun _ h => by cases h)
/-- Model.end -/
def ak_k167 : azCon := (84, 1, ([(0, (0, 0, []), (0, 0, []))], [((-2147483648), 2147483647)], [], [(1, 145, []), (0, 0, [(0, 1)])], [], [], false), [(some (some (0, 0, [(1, 1)])), [(0, (0, 0, []), (0, 0, [])), (0, (0, 0, []), (0, 0, []))], [((-2147483648), 2147483647), (0, 1)], [], [])], [(141, 3), (141, 6)], (0, 0))
def ak_t167 : List azCon := []
def ak_h167 : List azHd := []
theorem ak_e167 : az_ex szP az_inl ak_k167.2.1 ak_t167 ak_k167.2.2.2.2.1 (fun _ => az_pre 84 []) (az_hint ak_t167) (az_leaf ak_k167 ak_h167 none (az_hb 1) (az_rb 1)) 1990 ak_k167.2.2.1.1 ak_k167.2.2.1.2.1 ak_k167.2.2.1.2.2.1 (az_hc ak_k167 (2, 12, (0, 0, 0), szc_84) (0, ak_k167.2.2.1, (0, []), (0, 0))) = true := by decide +kernel
set_option maxRecDepth 100000 in
theorem ak_v167 {X : List (List Value)} (hX : az_X X) : az_Valid X ak_k167 := az_validS sz_pkall_szP (q := (2, 12, (0, 0, 0), szc_84)) hX (tb := ak_t167) (fun _ h => by cases h) rfl (hds := ak_h167) (by decide +kernel) (fun _ h => by cases h) (fun _ hV => ⟨_, hV, rfl, _, fun _ h => h, ak_e167⟩) (fun _ h => by cases h)
/-- Model.readOperand -/
def ak_k168 : azCon := (94, 3, ([(0, (0, 0, []), (0, 0, []))], [(0, 10)], [], [(1, 145, []), (0, 0, [(0, 1)])], [], [280, 281, 282, 283, 284, 285, 286, 287, 288, 289, 290], false), [(some (some (0, 0, [(1, 1)])), [(0, (0, 0, []), (0, 0, [])), (0, (4, 0, []), (0, 0, []))], [(0, 10), (0, 80)], [], [])], [(141, 11), (141, 8), (141, 9)], (0, 0))
def ak_t168 : List azCon := []
def ak_h168 : List azHd := []
theorem ak_e168 : az_ex szP az_inl ak_k168.2.1 ak_t168 ak_k168.2.2.2.2.1 (fun _ => az_pre 94 []) (az_hint ak_t168) (az_leaf ak_k168 ak_h168 none (az_hb 1) (az_rb 1)) 46270 ak_k168.2.2.1.1 ak_k168.2.2.1.2.1 ak_k168.2.2.1.2.2.1 (az_hc ak_k168 (5, 12, (0, 0, 0), szc_94) (0, ak_k168.2.2.1, (0, []), (0, 0))) = true := by decide +kernel
set_option maxRecDepth 100000 in
theorem ak_v168 {X : List (List Value)} (hX : az_X X) : az_Valid X ak_k168 := az_validS sz_pkall_szP (q := (5, 12, (0, 0, 0), szc_94)) hX (tb := ak_t168) (fun _ h => by cases h) rfl (hds := ak_h168) (by decide +kernel) (fun _ h => by cases h) (fun _ hV => ⟨_, hV, rfl, _, fun _ h => h, ak_e168⟩) (fun _ h => by cases h)
/-- Model.need -/
def ak_k169 : azCon := (90, 2, ([(0, (0, 0, []), (0, 0, []))], [(41, 44)], [], [(1, 145, []), (0, 0, [(0, 1)])], [], [], false), [(some none, [(0, (0, 0, []), (0, 0, []))], [(41, 44)], [], [])], [(141, 8), (141, 9)], (0, 0))
def ak_t169 : List azCon := []
def ak_h169 : List azHd := []
theorem ak_e169 : az_ex szP az_inl ak_k169.2.1 ak_t169 ak_k169.2.2.2.2.1 (fun _ => az_pre 90 []) (az_hint ak_t169) (az_leaf ak_k169 ak_h169 none (az_hb 1) (az_rb 1)) 5800 ak_k169.2.2.1.1 ak_k169.2.2.1.2.1 ak_k169.2.2.1.2.2.1 (az_hc ak_k169 (2, 12, (0, 0, 0), szc_90) (0, ak_k169.2.2.1, (0, []), (0, 0))) = true := by decide +kernel
set_option maxRecDepth 100000 in
theorem ak_v169 {X : List (List Value)} (hX : az_X X) : az_Valid X ak_k169 := az_validS sz_pkall_szP (q := (2, 12, (0, 0, 0), szc_90)) hX (tb := ak_t169) (fun _ h => by cases h) rfl (hds := ak_h169) (by decide +kernel) (fun _ h => by cases h) (fun _ hV => ⟨_, hV, rfl, _, fun _ h => h, ak_e169⟩) (fun _ h => by cases h)
/-- Model.need -/
def ak_k170 : azCon := (90, 2, ([(0, (0, 0, []), (0, 0, []))], [(82, 99)], [], [(1, 145, []), (0, 0, [(0, 1)])], [], [], false), [(some none, [(0, (0, 0, []), (0, 0, []))], [(82, 99)], [], [])], [(141, 8), (141, 9)], (0, 0))
def ak_t170 : List azCon := []
def ak_h170 : List azHd := []
theorem ak_e170 : az_ex szP az_inl ak_k170.2.1 ak_t170 ak_k170.2.2.2.2.1 (fun _ => az_pre 90 []) (az_hint ak_t170) (az_leaf ak_k170 ak_h170 none (az_hb 1) (az_rb 1)) 5800 ak_k170.2.2.1.1 ak_k170.2.2.1.2.1 ak_k170.2.2.1.2.2.1 (az_hc ak_k170 (2, 12, (0, 0, 0), szc_90) (0, ak_k170.2.2.1, (0, []), (0, 0))) = true := by decide +kernel
set_option maxRecDepth 100000 in
theorem ak_v170 {X : List (List Value)} (hX : az_X X) : az_Valid X ak_k170 := az_validS sz_pkall_szP (q := (2, 12, (0, 0, 0), szc_90)) hX (tb := ak_t170) (fun _ h => by cases h) rfl (hds := ak_h170) (by decide +kernel) (fun _ h => by cases h) (fun _ hV => ⟨_, hV, rfl, _, fun _ h => h, ak_e170⟩) (fun _ h => by cases h)
