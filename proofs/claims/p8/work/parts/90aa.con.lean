/-! contracts: written by wip/A/gen56.py -/
/-- $Script.add -/
def ak_k0 : azCon := (276, 0, ([(0, (0, 0, []), (0, 0, []))], [(0, 255)], [], [(1, 12, []), (0, 0, [(0, 1)])], [], [], false), [(some none, [(0, (0, 0, []), (0, 0, []))], [(0, 255)], [], [])], [(8, 2), (9, 0)], (0, 0))
def ak_t0 : List azCon := []
def ak_h0 : List azHd := []
theorem ak_e0 : az_ex szP az_inl ak_k0.2.1 ak_t0 ak_k0.2.2.2.2.1 (fun _ => az_pre 276 []) (az_hint ak_t0) (az_leaf ak_k0 ak_h0 none (az_hb 1) (az_rb 1)) 1540 ak_k0.2.2.1.1 ak_k0.2.2.1.2.1 ak_k0.2.2.1.2.2.1 (az_hc ak_k0 (2, 10, (0, 0, 0), szc_276) (0, ak_k0.2.2.1, (0, []), (0, 0))) = true := by decide +kernel
set_option maxRecDepth 100000 in
theorem ak_v0 {X : List (List Value)} (hX : az_X X) : az_Valid X ak_k0 := az_validS sz_pkall_szP (q := (2, 10, (0, 0, 0), szc_276)) hX (tb := ak_t0) (fun _ h => by cases h) rfl (hds := ak_h0) (by decide +kernel) (fun _ h => by cases h) (fun _ hV => ⟨_, hV, rfl, _, fun _ h => h, ak_e0⟩) (fun _ h => by cases h)
/-- .sign -/
def ak_k1 : azCon := (6, 1, ([(0, (0, 0, []), (0, 0, []))], [((-2147483648), 2147483647)], [], [(1, 4, []), (0, 0, [(0, 1)])], [], [], false), [(some (some (0, 0, [(1, 1)])), [(0, (0, 0, []), (0, 0, [])), (0, (0, 0, []), (0, 0, []))], [((-2147483648), 2147483647), ((-1), 80)], [], [])], [(8, 2), (9, 0)], (0, 0))
def ak_t1 : List azCon := [ak_k0]
def ak_d1_0 : azHd := (11, ([(0, (0, 0, []), (0, 0, [])), (0, (0, 0, []), (0, 0, []))], [((-2147483648), 2147483647), ((-9), 24)], [], [(1, 4, []), (0, 0, [(0, 1)]), (0, 0, [(1, 1)])], [], [], false), (19, [(1, 2)]), (0, 0))
def ak_h1 : List azHd := [ak_d1_0]
theorem ak_e1 : az_ex szP az_inl ak_k1.2.1 ak_t1 ak_k1.2.2.2.2.1 (fun _ => az_pre 6 []) (az_hint ak_t1) (az_leaf ak_k1 ak_h1 none (az_hb 1) (az_rb 1)) 1810 ak_k1.2.2.1.1 ak_k1.2.2.1.2.1 ak_k1.2.2.1.2.2.1 (az_hc ak_k1 (3, 11, (0, 0, 0), szc_6) (0, ak_k1.2.2.1, (0, []), (0, 0))) = true := by decide +kernel
theorem ak_e1_0 : az_ex szP az_inl ak_k1.2.1 ak_t1 ak_k1.2.2.2.2.1 (fun _ => az_pre 6 []) (az_hint ak_t1) (az_leaf ak_k1 ak_h1 (some ak_d1_0.2.2.1) (az_hb 1) (az_rb 1)) 1810 ak_d1_0.2.1.1 ak_d1_0.2.1.2.1 ak_d1_0.2.1.2.2.1 (az_hc ak_k1 (3, 11, (0, 0, 0), szc_6) ak_d1_0) = true := by decide +kernel
set_option maxRecDepth 100000 in
theorem ak_v1 {X : List (List Value)} (hX : az_X X) : az_Valid X ak_k1 := az_validS sz_pkall_szP (q := (3, 11, (0, 0, 0), szc_6)) hX (tb := ak_t1) (List.forall_mem_cons.mpr ⟨ak_v0 hX, fun _ h => by cases h⟩) rfl (hds := ak_h1) (by decide +kernel) (List.forall_mem_cons.mpr ⟨by decide +kernel, fun _ h => by cases h⟩) (fun _ hV => ⟨_, hV, rfl, _, fun _ h => h, ak_e1⟩) (List.forall_mem_cons.mpr ⟨fun _ hV => ⟨_, hV, rfl, _, fun _ h => h, ak_e1_0⟩, fun _ h => by cases h⟩)
/-- .end -/
def ak_k2 : azCon := (7, 0, ([(0, (0, 0, []), (0, 0, []))], [((-2147483648), 2147483647)], [], [(1, 4, []), (0, 0, [(0, 1)])], [], [], false), [(some (some (0, 0, [(1, 1)])), [(0, (0, 0, []), (0, 0, [])), (0, (0, 0, []), (0, 0, []))], [((-2147483648), 2147483647), (0, 1)], [], [])], [(8, 2)], (0, 0))
def ak_t2 : List azCon := []
def ak_h2 : List azHd := []
theorem ak_e2 : az_ex szP az_inl ak_k2.2.1 ak_t2 ak_k2.2.2.2.2.1 (fun _ => az_pre 7 []) (az_hint ak_t2) (az_leaf ak_k2 ak_h2 none (az_hb 1) (az_rb 1)) 1510 ak_k2.2.2.1.1 ak_k2.2.2.1.2.1 ak_k2.2.2.1.2.2.1 (az_hc ak_k2 (2, 11, (0, 0, 0), szc_7) (0, ak_k2.2.2.1, (0, []), (0, 0))) = true := by decide +kernel
set_option maxRecDepth 100000 in
theorem ak_v2 {X : List (List Value)} (hX : az_X X) : az_Valid X ak_k2 := az_validS sz_pkall_szP (q := (2, 11, (0, 0, 0), szc_7)) hX (tb := ak_t2) (fun _ h => by cases h) rfl (hds := ak_h2) (by decide +kernel) (fun _ h => by cases h) (fun _ hV => ⟨_, hV, rfl, _, fun _ h => h, ak_e2⟩) (fun _ h => by cases h)
/-- $Held.takeLoop -/
def ak_k3 : azCon := (216, 0, ([], [], [], [(1, 124, []), (1, 5, [])], [], [], false), [(some none, [], [], [], [])], [(120, 1), (121, 0), (122, 0), (123, 0), (124, 0)], (0, 0))
def ak_t3 : List azCon := []
def ak_h3 : List azHd := []
theorem ak_e3 : az_ex szP az_inl ak_k3.2.1 ak_t3 ak_k3.2.2.2.2.1 (fun _ => az_pre 216 []) (az_hint ak_t3) (az_leaf ak_k3 ak_h3 none (az_hb 0) (az_rb 0)) 2110 ak_k3.2.2.1.1 ak_k3.2.2.1.2.1 ak_k3.2.2.1.2.2.1 (az_hc ak_k3 (2, 4, (0, 0, 0), szc_216) (0, ak_k3.2.2.1, (0, []), (0, 0))) = true := by decide +kernel
set_option maxRecDepth 100000 in
theorem ak_v3 {X : List (List Value)} (hX : az_X X) : az_Valid X ak_k3 := az_validS sz_pkall_szP (q := (2, 4, (0, 0, 0), szc_216)) hX (tb := ak_t3) (fun _ h => by cases h) rfl (hds := ak_h3) (by decide +kernel) (fun _ h => by cases h) (fun _ hV => ⟨_, hV, rfl, _, fun _ h => h, ak_e3⟩) (fun _ h => by cases h)
/-- $Held.take -/
def ak_k4 : azCon := (215, 1, ([], [], [], [(1, 124, []), (1, 5, [])], [], [], false), [(some none, [], [], [], [])], [(120, 1), (121, 0), (122, 0), (123, 0), (124, 0), (125, 0), (126, 0)], (0, 0))
def ak_t4 : List azCon := [ak_k3]
def ak_h4 : List azHd := []
theorem ak_e4 : az_ex szP az_inl ak_k4.2.1 ak_t4 ak_k4.2.2.2.2.1 (fun _ => az_pre 215 []) (az_hint ak_t4) (az_leaf ak_k4 ak_h4 none (az_hb 0) (az_rb 0)) 1720 ak_k4.2.2.1.1 ak_k4.2.2.1.2.1 ak_k4.2.2.1.2.2.1 (az_hc ak_k4 (2, 4, (0, 0, 0), szc_215) (0, ak_k4.2.2.1, (0, []), (0, 0))) = true := by decide +kernel
set_option maxRecDepth 100000 in
theorem ak_v4 {X : List (List Value)} (hX : az_X X) : az_Valid X ak_k4 := az_validS sz_pkall_szP (q := (2, 4, (0, 0, 0), szc_215)) hX (tb := ak_t4) (List.forall_mem_cons.mpr ⟨ak_v3 hX, fun _ h => by cases h⟩) rfl (hds := ak_h4) (by decide +kernel) (fun _ h => by cases h) (fun _ hV => ⟨_, hV, rfl, _, fun _ h => h, ak_e4⟩) (fun _ h => by cases h)
/-- $Held.takeLoop -/
def ak_k5 : azCon := (216, 0, ([], [], [], [(1, 117, []), (1, 5, [])], [], [], false), [(some none, [], [], [], [])], [(113, 1), (114, 0), (115, 0), (116, 0), (117, 0)], (0, 0))
def ak_t5 : List azCon := []
def ak_h5 : List azHd := []
theorem ak_e5 : az_ex szP az_inl ak_k5.2.1 ak_t5 ak_k5.2.2.2.2.1 (fun _ => az_pre 216 []) (az_hint ak_t5) (az_leaf ak_k5 ak_h5 none (az_hb 0) (az_rb 0)) 2110 ak_k5.2.2.1.1 ak_k5.2.2.1.2.1 ak_k5.2.2.1.2.2.1 (az_hc ak_k5 (2, 4, (0, 0, 0), szc_216) (0, ak_k5.2.2.1, (0, []), (0, 0))) = true := by decide +kernel
set_option maxRecDepth 100000 in
theorem ak_v5 {X : List (List Value)} (hX : az_X X) : az_Valid X ak_k5 := az_validS sz_pkall_szP (q := (2, 4, (0, 0, 0), szc_216)) hX (tb := ak_t5) (fun _ h => by cases h) rfl (hds := ak_h5) (by decide +kernel) (fun _ h => by cases h) (fun _ hV => ⟨_, hV, rfl, _, fun _ h => h, ak_e5⟩) (fun _ h => by cases h)
/-- $Held.take -/
def ak_k6 : azCon := (215, 1, ([], [], [], [(1, 117, []), (1, 5, [])], [], [], false), [(some none, [], [], [], [])], [(113, 1), (114, 0), (115, 0), (116, 0), (117, 0), (118, 0), (119, 0)], (0, 0))
def ak_t6 : List azCon := [ak_k5]
def ak_h6 : List azHd := []
theorem ak_e6 : az_ex szP az_inl ak_k6.2.1 ak_t6 ak_k6.2.2.2.2.1 (fun _ => az_pre 215 []) (az_hint ak_t6) (az_leaf ak_k6 ak_h6 none (az_hb 0) (az_rb 0)) 1720 ak_k6.2.2.1.1 ak_k6.2.2.1.2.1 ak_k6.2.2.1.2.2.1 (az_hc ak_k6 (2, 4, (0, 0, 0), szc_215) (0, ak_k6.2.2.1, (0, []), (0, 0))) = true := by decide +kernel
set_option maxRecDepth 100000 in
theorem ak_v6 {X : List (List Value)} (hX : az_X X) : az_Valid X ak_k6 := az_validS sz_pkall_szP (q := (2, 4, (0, 0, 0), szc_215)) hX (tb := ak_t6) (List.forall_mem_cons.mpr ⟨ak_v5 hX, fun _ h => by cases h⟩) rfl (hds := ak_h6) (by decide +kernel) (fun _ h => by cases h) (fun _ hV => ⟨_, hV, rfl, _, fun _ h => h, ak_e6⟩) (fun _ h => by cases h)
/-- $Held.takeLoop -/
def ak_k7 : azCon := (216, 0, ([], [], [], [(1, 110, []), (1, 5, [])], [], [], false), [(some none, [], [], [], [])], [(106, 1), (107, 0), (108, 0), (109, 0), (110, 0)], (0, 0))
def ak_t7 : List azCon := []
def ak_h7 : List azHd := []
theorem ak_e7 : az_ex szP az_inl ak_k7.2.1 ak_t7 ak_k7.2.2.2.2.1 (fun _ => az_pre 216 []) (az_hint ak_t7) (az_leaf ak_k7 ak_h7 none (az_hb 0) (az_rb 0)) 2110 ak_k7.2.2.1.1 ak_k7.2.2.1.2.1 ak_k7.2.2.1.2.2.1 (az_hc ak_k7 (2, 4, (0, 0, 0), szc_216) (0, ak_k7.2.2.1, (0, []), (0, 0))) = true := by decide +kernel
set_option maxRecDepth 100000 in
theorem ak_v7 {X : List (List Value)} (hX : az_X X) : az_Valid X ak_k7 := az_validS sz_pkall_szP (q := (2, 4, (0, 0, 0), szc_216)) hX (tb := ak_t7) (fun _ h => by cases h) rfl (hds := ak_h7) (by decide +kernel) (fun _ h => by cases h) (fun _ hV => ⟨_, hV, rfl, _, fun _ h => h, ak_e7⟩) (fun _ h => by cases h)
/-- $Held.take -/
def ak_k8 : azCon := (215, 1, ([], [], [], [(1, 110, []), (1, 5, [])], [], [], false), [(some none, [], [], [], [])], [(106, 1), (107, 0), (108, 0), (109, 0), (110, 0), (111, 0), (112, 0)], (0, 0))
def ak_t8 : List azCon := [ak_k7]
def ak_h8 : List azHd := []
theorem ak_e8 : az_ex szP az_inl ak_k8.2.1 ak_t8 ak_k8.2.2.2.2.1 (fun _ => az_pre 215 []) (az_hint ak_t8) (az_leaf ak_k8 ak_h8 none (az_hb 0) (az_rb 0)) 1720 ak_k8.2.2.1.1 ak_k8.2.2.1.2.1 ak_k8.2.2.1.2.2.1 (az_hc ak_k8 (2, 4, (0, 0, 0), szc_215) (0, ak_k8.2.2.1, (0, []), (0, 0))) = true := by decide +kernel
set_option maxRecDepth 100000 in
theorem ak_v8 {X : List (List Value)} (hX : az_X X) : az_Valid X ak_k8 := az_validS sz_pkall_szP (q := (2, 4, (0, 0, 0), szc_215)) hX (tb := ak_t8) (List.forall_mem_cons.mpr ⟨ak_v7 hX, fun _ h => by cases h⟩) rfl (hds := ak_h8) (by decide +kernel) (fun _ h => by cases h) (fun _ hV => ⟨_, hV, rfl, _, fun _ h => h, ak_e8⟩) (fun _ h => by cases h)
/-- $Held.takeLoop -/
def ak_k9 : azCon := (216, 0, ([], [], [], [(1, 103, []), (1, 5, [])], [], [], false), [(some none, [], [], [], [])], [(100, 0), (101, 0), (102, 0), (103, 0), (99, 1)], (0, 0))
def ak_t9 : List azCon := []
def ak_h9 : List azHd := []
theorem ak_e9 : az_ex szP az_inl ak_k9.2.1 ak_t9 ak_k9.2.2.2.2.1 (fun _ => az_pre 216 []) (az_hint ak_t9) (az_leaf ak_k9 ak_h9 none (az_hb 0) (az_rb 0)) 2110 ak_k9.2.2.1.1 ak_k9.2.2.1.2.1 ak_k9.2.2.1.2.2.1 (az_hc ak_k9 (2, 4, (0, 0, 0), szc_216) (0, ak_k9.2.2.1, (0, []), (0, 0))) = true := by decide +kernel
set_option maxRecDepth 100000 in
theorem ak_v9 {X : List (List Value)} (hX : az_X X) : az_Valid X ak_k9 := az_validS sz_pkall_szP (q := (2, 4, (0, 0, 0), szc_216)) hX (tb := ak_t9) (fun _ h => by cases h) rfl (hds := ak_h9) (by decide +kernel) (fun _ h => by cases h) (fun _ hV => ⟨_, hV, rfl, _, fun _ h => h, ak_e9⟩) (fun _ h => by cases h)
/-- $Held.take -/
def ak_k10 : azCon := (215, 1, ([], [], [], [(1, 103, []), (1, 5, [])], [], [], false), [(some none, [], [], [], [])], [(100, 0), (101, 0), (102, 0), (103, 0), (104, 0), (105, 0), (99, 1)], (0, 0))
def ak_t10 : List azCon := [ak_k9]
def ak_h10 : List azHd := []
theorem ak_e10 : az_ex szP az_inl ak_k10.2.1 ak_t10 ak_k10.2.2.2.2.1 (fun _ => az_pre 215 []) (az_hint ak_t10) (az_leaf ak_k10 ak_h10 none (az_hb 0) (az_rb 0)) 1720 ak_k10.2.2.1.1 ak_k10.2.2.1.2.1 ak_k10.2.2.1.2.2.1 (az_hc ak_k10 (2, 4, (0, 0, 0), szc_215) (0, ak_k10.2.2.1, (0, []), (0, 0))) = true := by decide +kernel
set_option maxRecDepth 100000 in
theorem ak_v10 {X : List (List Value)} (hX : az_X X) : az_Valid X ak_k10 := az_validS sz_pkall_szP (q := (2, 4, (0, 0, 0), szc_215)) hX (tb := ak_t10) (List.forall_mem_cons.mpr ⟨ak_v9 hX, fun _ h => by cases h⟩) rfl (hds := ak_h10) (by decide +kernel) (fun _ h => by cases h) (fun _ hV => ⟨_, hV, rfl, _, fun _ h => h, ak_e10⟩) (fun _ h => by cases h)
/-- $Held.takeLoop -/
def ak_k11 : azCon := (216, 0, ([], [], [], [(1, 96, []), (1, 5, [])], [], [], false), [(some none, [], [], [], [])], [(92, 1), (93, 0), (94, 0), (95, 0), (96, 0)], (0, 0))
def ak_t11 : List azCon := []
def ak_h11 : List azHd := []
theorem ak_e11 : az_ex szP az_inl ak_k11.2.1 ak_t11 ak_k11.2.2.2.2.1 (fun _ => az_pre 216 []) (az_hint ak_t11) (az_leaf ak_k11 ak_h11 none (az_hb 0) (az_rb 0)) 2110 ak_k11.2.2.1.1 ak_k11.2.2.1.2.1 ak_k11.2.2.1.2.2.1 (az_hc ak_k11 (2, 4, (0, 0, 0), szc_216) (0, ak_k11.2.2.1, (0, []), (0, 0))) = true := by decide +kernel
set_option maxRecDepth 100000 in
theorem ak_v11 {X : List (List Value)} (hX : az_X X) : az_Valid X ak_k11 := az_validS sz_pkall_szP (q := (2, 4, (0, 0, 0), szc_216)) hX (tb := ak_t11) (fun _ h => by cases h) rfl (hds := ak_h11) (by decide +kernel) (fun _ h => by cases h) (fun _ hV => ⟨_, hV, rfl, _, fun _ h => h, ak_e11⟩) (fun _ h => by cases h)
/-- $Held.take -/
def ak_k12 : azCon := (215, 1, ([], [], [], [(1, 96, []), (1, 5, [])], [], [], false), [(some none, [], [], [], [])], [(92, 1), (93, 0), (94, 0), (95, 0), (96, 0), (97, 0), (98, 0)], (0, 0))
def ak_t12 : List azCon := [ak_k11]
def ak_h12 : List azHd := []
theorem ak_e12 : az_ex szP az_inl ak_k12.2.1 ak_t12 ak_k12.2.2.2.2.1 (fun _ => az_pre 215 []) (az_hint ak_t12) (az_leaf ak_k12 ak_h12 none (az_hb 0) (az_rb 0)) 1720 ak_k12.2.2.1.1 ak_k12.2.2.1.2.1 ak_k12.2.2.1.2.2.1 (az_hc ak_k12 (2, 4, (0, 0, 0), szc_215) (0, ak_k12.2.2.1, (0, []), (0, 0))) = true := by decide +kernel
set_option maxRecDepth 100000 in
theorem ak_v12 {X : List (List Value)} (hX : az_X X) : az_Valid X ak_k12 := az_validS sz_pkall_szP (q := (2, 4, (0, 0, 0), szc_215)) hX (tb := ak_t12) (List.forall_mem_cons.mpr ⟨ak_v11 hX, fun _ h => by cases h⟩) rfl (hds := ak_h12) (by decide +kernel) (fun _ h => by cases h) (fun _ hV => ⟨_, hV, rfl, _, fun _ h => h, ak_e12⟩) (fun _ h => by cases h)
/-- $Held.takeLoop -/
def ak_k13 : azCon := (216, 0, ([], [], [], [(1, 89, []), (1, 5, [])], [], [], false), [(some none, [], [], [], [])], [(85, 1), (86, 0), (87, 0), (88, 0), (89, 0)], (0, 0))
def ak_t13 : List azCon := []
def ak_h13 : List azHd := []
theorem ak_e13 : az_ex szP az_inl ak_k13.2.1 ak_t13 ak_k13.2.2.2.2.1 (fun _ => az_pre 216 []) (az_hint ak_t13) (az_leaf ak_k13 ak_h13 none (az_hb 0) (az_rb 0)) 2110 ak_k13.2.2.1.1 ak_k13.2.2.1.2.1 ak_k13.2.2.1.2.2.1 (az_hc ak_k13 (2, 4, (0, 0, 0), szc_216) (0, ak_k13.2.2.1, (0, []), (0, 0))) = true := by decide +kernel
set_option maxRecDepth 100000 in
theorem ak_v13 {X : List (List Value)} (hX : az_X X) : az_Valid X ak_k13 := az_validS sz_pkall_szP (q := (2, 4, (0, 0, 0), szc_216)) hX (tb := ak_t13) (fun _ h => by cases h) rfl (hds := ak_h13) (by decide +kernel) (fun _ h => by cases h) (fun _ hV => ⟨_, hV, rfl, _, fun _ h => h, ak_e13⟩) (fun _ h => by cases h)
/-- $Held.take -/
def ak_k14 : azCon := (215, 1, ([], [], [], [(1, 89, []), (1, 5, [])], [], [], false), [(some none, [], [], [], [])], [(85, 1), (86, 0), (87, 0), (88, 0), (89, 0), (90, 0), (91, 0)], (0, 0))
def ak_t14 : List azCon := [ak_k13]
def ak_h14 : List azHd := []
theorem ak_e14 : az_ex szP az_inl ak_k14.2.1 ak_t14 ak_k14.2.2.2.2.1 (fun _ => az_pre 215 []) (az_hint ak_t14) (az_leaf ak_k14 ak_h14 none (az_hb 0) (az_rb 0)) 1720 ak_k14.2.2.1.1 ak_k14.2.2.1.2.1 ak_k14.2.2.1.2.2.1 (az_hc ak_k14 (2, 4, (0, 0, 0), szc_215) (0, ak_k14.2.2.1, (0, []), (0, 0))) = true := by decide +kernel
set_option maxRecDepth 100000 in
theorem ak_v14 {X : List (List Value)} (hX : az_X X) : az_Valid X ak_k14 := az_validS sz_pkall_szP (q := (2, 4, (0, 0, 0), szc_215)) hX (tb := ak_t14) (List.forall_mem_cons.mpr ⟨ak_v13 hX, fun _ h => by cases h⟩) rfl (hds := ak_h14) (by decide +kernel) (fun _ h => by cases h) (fun _ hV => ⟨_, hV, rfl, _, fun _ h => h, ak_e14⟩) (fun _ h => by cases h)
/-- $Held.takeLoop -/
def ak_k15 : azCon := (216, 0, ([], [], [], [(1, 82, []), (1, 5, [])], [], [], false), [(some none, [], [], [], [])], [(78, 1), (79, 0), (80, 0), (81, 0), (82, 0)], (0, 0))
def ak_t15 : List azCon := []
def ak_h15 : List azHd := []
theorem ak_e15 : az_ex szP az_inl ak_k15.2.1 ak_t15 ak_k15.2.2.2.2.1 (fun _ => az_pre 216 []) (az_hint ak_t15) (az_leaf ak_k15 ak_h15 none (az_hb 0) (az_rb 0)) 2110 ak_k15.2.2.1.1 ak_k15.2.2.1.2.1 ak_k15.2.2.1.2.2.1 (az_hc ak_k15 (2, 4, (0, 0, 0), szc_216) (0, ak_k15.2.2.1, (0, []), (0, 0))) = true := by decide +kernel
set_option maxRecDepth 100000 in
theorem ak_v15 {X : List (List Value)} (hX : az_X X) : az_Valid X ak_k15 := az_validS sz_pkall_szP (q := (2, 4, (0, 0, 0), szc_216)) hX (tb := ak_t15) (fun _ h => by cases h) rfl (hds := ak_h15) (by decide +kernel) (fun _ h => by cases h) (fun _ hV => ⟨_, hV, rfl, _, fun _ h => h, ak_e15⟩) (fun _ h => by cases h)
/-- $Held.take -/
def ak_k16 : azCon := (215, 1, ([], [], [], [(1, 82, []), (1, 5, [])], [], [], false), [(some none, [], [], [], [])], [(78, 1), (79, 0), (80, 0), (81, 0), (82, 0), (83, 0), (84, 0)], (0, 0))
def ak_t16 : List azCon := [ak_k15]
def ak_h16 : List azHd := []
theorem ak_e16 : az_ex szP az_inl ak_k16.2.1 ak_t16 ak_k16.2.2.2.2.1 (fun _ => az_pre 215 []) (az_hint ak_t16) (az_leaf ak_k16 ak_h16 none (az_hb 0) (az_rb 0)) 1720 ak_k16.2.2.1.1 ak_k16.2.2.1.2.1 ak_k16.2.2.1.2.2.1 (az_hc ak_k16 (2, 4, (0, 0, 0), szc_215) (0, ak_k16.2.2.1, (0, []), (0, 0))) = true := by decide +kernel
set_option maxRecDepth 100000 in
theorem ak_v16 {X : List (List Value)} (hX : az_X X) : az_Valid X ak_k16 := az_validS sz_pkall_szP (q := (2, 4, (0, 0, 0), szc_215)) hX (tb := ak_t16) (List.forall_mem_cons.mpr ⟨ak_v15 hX, fun _ h => by cases h⟩) rfl (hds := ak_h16) (by decide +kernel) (fun _ h => by cases h) (fun _ hV => ⟨_, hV, rfl, _, fun _ h => h, ak_e16⟩) (fun _ h => by cases h)
/-- $Held.takeLoop -/
def ak_k17 : azCon := (216, 0, ([], [], [], [(1, 75, []), (1, 5, [])], [], [], false), [(some none, [], [], [], [])], [(71, 1), (72, 0), (73, 0), (74, 0), (75, 0)], (0, 0))
def ak_t17 : List azCon := []
def ak_h17 : List azHd := []
theorem ak_e17 : az_ex szP az_inl ak_k17.2.1 ak_t17 ak_k17.2.2.2.2.1 (fun _ => az_pre 216 []) (az_hint ak_t17) (az_leaf ak_k17 ak_h17 none (az_hb 0) (az_rb 0)) 2110 ak_k17.2.2.1.1 ak_k17.2.2.1.2.1 ak_k17.2.2.1.2.2.1 (az_hc ak_k17 (2, 4, (0, 0, 0), szc_216) (0, ak_k17.2.2.1, (0, []), (0, 0))) = true := by decide +kernel
set_option maxRecDepth 100000 in
theorem ak_v17 {X : List (List Value)} (hX : az_X X) : az_Valid X ak_k17 := az_validS sz_pkall_szP (q := (2, 4, (0, 0, 0), szc_216)) hX (tb := ak_t17) (fun _ h => by cases h) rfl (hds := ak_h17) (by decide +kernel) (fun _ h => by cases h) (fun _ hV => ⟨_, hV, rfl, _, fun _ h => h, ak_e17⟩) (fun _ h => by cases h)
/-- $Held.take -/
def ak_k18 : azCon := (215, 1, ([], [], [], [(1, 75, []), (1, 5, [])], [], [], false), [(some none, [], [], [], [])], [(71, 1), (72, 0), (73, 0), (74, 0), (75, 0), (76, 0), (77, 0)], (0, 0))
def ak_t18 : List azCon := [ak_k17]
def ak_h18 : List azHd := []
theorem ak_e18 : az_ex szP az_inl ak_k18.2.1 ak_t18 ak_k18.2.2.2.2.1 (fun _ => az_pre 215 []) (az_hint ak_t18) (az_leaf ak_k18 ak_h18 none (az_hb 0) (az_rb 0)) 1720 ak_k18.2.2.1.1 ak_k18.2.2.1.2.1 ak_k18.2.2.1.2.2.1 (az_hc ak_k18 (2, 4, (0, 0, 0), szc_215) (0, ak_k18.2.2.1, (0, []), (0, 0))) = true := by decide +kernel
set_option maxRecDepth 100000 in
theorem ak_v18 {X : List (List Value)} (hX : az_X X) : az_Valid X ak_k18 := az_validS sz_pkall_szP (q := (2, 4, (0, 0, 0), szc_215)) hX (tb := ak_t18) (List.forall_mem_cons.mpr ⟨ak_v17 hX, fun _ h => by cases h⟩) rfl (hds := ak_h18) (by decide +kernel) (fun _ h => by cases h) (fun _ hV => ⟨_, hV, rfl, _, fun _ h => h, ak_e18⟩) (fun _ h => by cases h)
/-- $Held.takeLoop -/
def ak_k19 : azCon := (216, 0, ([], [], [], [(1, 68, []), (1, 5, [])], [], [], false), [(some none, [], [], [], [])], [(64, 1), (65, 0), (66, 0), (67, 0), (68, 0)], (0, 0))
def ak_t19 : List azCon := []
def ak_h19 : List azHd := []
theorem ak_e19 : az_ex szP az_inl ak_k19.2.1 ak_t19 ak_k19.2.2.2.2.1 (fun _ => az_pre 216 []) (az_hint ak_t19) (az_leaf ak_k19 ak_h19 none (az_hb 0) (az_rb 0)) 2110 ak_k19.2.2.1.1 ak_k19.2.2.1.2.1 ak_k19.2.2.1.2.2.1 (az_hc ak_k19 (2, 4, (0, 0, 0), szc_216) (0, ak_k19.2.2.1, (0, []), (0, 0))) = true := by decide +kernel
set_option maxRecDepth 100000 in
theorem ak_v19 {X : List (List Value)} (hX : az_X X) : az_Valid X ak_k19 := az_validS sz_pkall_szP (q := (2, 4, (0, 0, 0), szc_216)) hX (tb := ak_t19) (fun _ h => by cases h) rfl (hds := ak_h19) (by decide +kernel) (fun _ h => by cases h) (fun _ hV => ⟨_, hV, rfl, _, fun _ h => h, ak_e19⟩) (fun _ h => by cases h)
/-- $Held.take -/
def ak_k20 : azCon := (215, 1, ([], [], [], [(1, 68, []), (1, 5, [])], [], [], false), [(some none, [], [], [], [])], [(64, 1), (65, 0), (66, 0), (67, 0), (68, 0), (69, 0), (70, 0)], (0, 0))
def ak_t20 : List azCon := [ak_k19]
def ak_h20 : List azHd := []
theorem ak_e20 : az_ex szP az_inl ak_k20.2.1 ak_t20 ak_k20.2.2.2.2.1 (fun _ => az_pre 215 []) (az_hint ak_t20) (az_leaf ak_k20 ak_h20 none (az_hb 0) (az_rb 0)) 1720 ak_k20.2.2.1.1 ak_k20.2.2.1.2.1 ak_k20.2.2.1.2.2.1 (az_hc ak_k20 (2, 4, (0, 0, 0), szc_215) (0, ak_k20.2.2.1, (0, []), (0, 0))) = true := by decide +kernel
set_option maxRecDepth 100000 in
theorem ak_v20 {X : List (List Value)} (hX : az_X X) : az_Valid X ak_k20 := az_validS sz_pkall_szP (q := (2, 4, (0, 0, 0), szc_215)) hX (tb := ak_t20) (List.forall_mem_cons.mpr ⟨ak_v19 hX, fun _ h => by cases h⟩) rfl (hds := ak_h20) (by decide +kernel) (fun _ h => by cases h) (fun _ hV => ⟨_, hV, rfl, _, fun _ h => h, ak_e20⟩) (fun _ h => by cases h)
/-- $Held.takeLoop -/
def ak_k21 : azCon := (216, 0, ([], [], [], [(1, 61, []), (1, 5, [])], [], [], false), [(some none, [], [], [], [])], [(57, 1), (58, 0), (59, 0), (60, 0), (61, 0)], (0, 0))
def ak_t21 : List azCon := []
def ak_h21 : List azHd := []
theorem ak_e21 : az_ex szP az_inl ak_k21.2.1 ak_t21 ak_k21.2.2.2.2.1 (fun _ => az_pre 216 []) (az_hint ak_t21) (az_leaf ak_k21 ak_h21 none (az_hb 0) (az_rb 0)) 2110 ak_k21.2.2.1.1 ak_k21.2.2.1.2.1 ak_k21.2.2.1.2.2.1 (az_hc ak_k21 (2, 4, (0, 0, 0), szc_216) (0, ak_k21.2.2.1, (0, []), (0, 0))) = true := by decide +kernel
set_option maxRecDepth 100000 in
theorem ak_v21 {X : List (List Value)} (hX : az_X X) : az_Valid X ak_k21 := az_validS sz_pkall_szP (q := (2, 4, (0, 0, 0), szc_216)) hX (tb := ak_t21) (fun _ h => by cases h) rfl (hds := ak_h21) (by decide +kernel) (fun _ h => by cases h) (fun _ hV => ⟨_, hV, rfl, _, fun _ h => h, ak_e21⟩) (fun _ h => by cases h)
/-- $Held.take -/
def ak_k22 : azCon := (215, 1, ([], [], [], [(1, 61, []), (1, 5, [])], [], [], false), [(some none, [], [], [], [])], [(57, 1), (58, 0), (59, 0), (60, 0), (61, 0), (62, 0), (63, 0)], (0, 0))
def ak_t22 : List azCon := [ak_k21]
def ak_h22 : List azHd := []
theorem ak_e22 : az_ex szP az_inl ak_k22.2.1 ak_t22 ak_k22.2.2.2.2.1 (fun _ => az_pre 215 []) (az_hint ak_t22) (az_leaf ak_k22 ak_h22 none (az_hb 0) (az_rb 0)) 1720 ak_k22.2.2.1.1 ak_k22.2.2.1.2.1 ak_k22.2.2.1.2.2.1 (az_hc ak_k22 (2, 4, (0, 0, 0), szc_215) (0, ak_k22.2.2.1, (0, []), (0, 0))) = true := by decide +kernel
set_option maxRecDepth 100000 in
theorem ak_v22 {X : List (List Value)} (hX : az_X X) : az_Valid X ak_k22 := az_validS sz_pkall_szP (q := (2, 4, (0, 0, 0), szc_215)) hX (tb := ak_t22) (List.forall_mem_cons.mpr ⟨ak_v21 hX, fun _ h => by cases h⟩) rfl (hds := ak_h22) (by decide +kernel) (fun _ h => by cases h) (fun _ hV => ⟨_, hV, rfl, _, fun _ h => h, ak_e22⟩) (fun _ h => by cases h)
/-- $History.mark -/
def ak_k23 : azCon := (224, 2, ([], [], [], [(1, 57, [])], [], [], false), [(some none, [], [], [], [])], [(100, 0), (101, 0), (102, 0), (103, 0), (104, 0), (105, 0), (106, 1), (107, 0), (108, 0), (109, 0), (110, 0), (111, 0), (112, 0), (113, 1), (114, 0), (115, 0), (116, 0), (117, 0), (118, 0), (119, 0), (120, 1), (121, 0), (122, 0), (123, 0), (124, 0), (125, 0), (126, 0), (57, 1), (58, 0), (59, 0), (60, 0), (61, 0), (62, 0), (63, 0), (64, 1), (65, 0), (66, 0), (67, 0), (68, 0), (69, 0), (70, 0), (71, 1), (72, 0), (73, 0), (74, 0), (75, 0), (76, 0), (77, 0), (78, 1), (79, 0), (80, 0), (81, 0), (82, 0), (83, 0), (84, 0), (85, 1), (86, 0), (87, 0), (88, 0), (89, 0), (90, 0), (91, 0), (92, 1), (93, 0), (94, 0), (95, 0), (96, 0), (97, 0), (98, 0), (99, 1)], (0, 0))
def ak_t23 : List azCon := [ak_k4, ak_k6, ak_k8, ak_k10, ak_k12, ak_k14, ak_k16, ak_k18, ak_k20, ak_k22]
def ak_h23 : List azHd := []
theorem ak_e23 : az_ex szP az_inl ak_k23.2.1 ak_t23 ak_k23.2.2.2.2.1 (fun _ => az_pre 224 []) (az_hint ak_t23) (az_leaf ak_k23 ak_h23 none (az_hb 0) (az_rb 0)) 2650 ak_k23.2.2.1.1 ak_k23.2.2.1.2.1 ak_k23.2.2.1.2.2.1 (az_hc ak_k23 (1, 5, (0, 0, 0), szc_224) (0, ak_k23.2.2.1, (0, []), (0, 0))) = true := by decide +kernel
set_option maxRecDepth 100000 in
theorem ak_v23 {X : List (List Value)} (hX : az_X X) : az_Valid X ak_k23 := az_validS sz_pkall_szP (q := (1, 5, (0, 0, 0), szc_224)) hX (tb := ak_t23) (List.forall_mem_cons.mpr ⟨ak_v4 hX, List.forall_mem_cons.mpr ⟨ak_v6 hX, List.forall_mem_cons.mpr ⟨ak_v8 hX, List.forall_mem_cons.mpr ⟨ak_v10 hX, List.forall_mem_cons.mpr ⟨ak_v12 hX, List.forall_mem_cons.mpr ⟨ak_v14 hX, List.forall_mem_cons.mpr ⟨ak_v16 hX, List.forall_mem_cons.mpr ⟨ak_v18 hX, List.forall_mem_cons.mpr ⟨ak_v20 hX, List.forall_mem_cons.mpr ⟨ak_v22 hX, fun _ h => by cases h⟩⟩⟩⟩⟩⟩⟩⟩⟩⟩) rfl (hds := ak_h23) (by decide +kernel) (fun _ h => by cases h) (fun _ hV => ⟨_, hV, rfl, _, fun _ h => h, ak_e23⟩) (fun _ h => by cases h)
/-- $Held.takeLoop -/
def ak_k24 : azCon := (216, 0, ([], [], [], [(1, 5, []), (1, 15, [])], [], [], false), [(some none, [], [], [], [])], [(1, 1), (2, 0), (3, 0), (4, 0), (5, 0)], (0, 0))
def ak_t24 : List azCon := []
def ak_h24 : List azHd := []
theorem ak_e24 : az_ex szP az_inl ak_k24.2.1 ak_t24 ak_k24.2.2.2.2.1 (fun _ => az_pre 216 []) (az_hint ak_t24) (az_leaf ak_k24 ak_h24 none (az_hb 0) (az_rb 0)) 2110 ak_k24.2.2.1.1 ak_k24.2.2.1.2.1 ak_k24.2.2.1.2.2.1 (az_hc ak_k24 (2, 4, (0, 0, 0), szc_216) (0, ak_k24.2.2.1, (0, []), (0, 0))) = true := by decide +kernel
set_option maxRecDepth 100000 in
theorem ak_v24 {X : List (List Value)} (hX : az_X X) : az_Valid X ak_k24 := az_validS sz_pkall_szP (q := (2, 4, (0, 0, 0), szc_216)) hX (tb := ak_t24) (fun _ h => by cases h) rfl (hds := ak_h24) (by decide +kernel) (fun _ h => by cases h) (fun _ hV => ⟨_, hV, rfl, _, fun _ h => h, ak_e24⟩) (fun _ h => by cases h)
/-- $History.keepMark -/
def ak_k25 : azCon := (225, 1, ([], [], [], [(1, 57, [])], [], [], false), [(some none, [], [], [], [])], [(53, 3), (53, 4)], (0, 0))
def ak_t25 : List azCon := []
def ak_h25 : List azHd := []
theorem ak_e25 : az_ex szP az_inl ak_k25.2.1 ak_t25 ak_k25.2.2.2.2.1 (fun _ => az_pre 225 []) (az_hint ak_t25) (az_leaf ak_k25 ak_h25 none (az_hb 0) (az_rb 0)) 1870 ak_k25.2.2.1.1 ak_k25.2.2.1.2.1 ak_k25.2.2.1.2.2.1 (az_hc ak_k25 (1, 5, (0, 0, 0), szc_225) (0, ak_k25.2.2.1, (0, []), (0, 0))) = true := by decide +kernel
set_option maxRecDepth 100000 in
theorem ak_v25 {X : List (List Value)} (hX : az_X X) : az_Valid X ak_k25 := az_validS sz_pkall_szP (q := (1, 5, (0, 0, 0), szc_225)) hX (tb := ak_t25) (fun _ h => by cases h) rfl (hds := ak_h25) (by decide +kernel) (fun _ h => by cases h) (fun _ hV => ⟨_, hV, rfl, _, fun _ h => h, ak_e25⟩) (fun _ h => by cases h)
/-- $Reader.readOperand -/
def ak_k26 : azCon := (265, 2, ([(0, (0, 0, []), (0, 0, []))], [(0, 9)], [], [(1, 14, []), (0, 0, [(0, 1)])], [], [], false), [(some (some (0, 0, [(1, 1)])), [(0, (0, 0, []), (0, 0, [])), (0, (5, 0, []), (0, 0, []))], [(0, 9), ((-1), 80)], [], [])], [(10, 3), (8, 3)], (0, 0))
def ak_t26 : List azCon := []
def ak_h26 : List azHd := []
theorem ak_e26 : az_ex szP az_inl ak_k26.2.1 ak_t26 ak_k26.2.2.2.2.1 (fun _ => az_pre 265 []) (az_hint ak_t26) (az_leaf ak_k26 ak_h26 none (az_hb 1) (az_rb 1)) 16450 ak_k26.2.2.1.1 ak_k26.2.2.1.2.1 ak_k26.2.2.1.2.2.1 (az_hc ak_k26 (5, 8, (0, 0, 0), szc_265) (0, ak_k26.2.2.1, (0, []), (0, 0))) = true := by decide +kernel
set_option maxRecDepth 100000 in
theorem ak_v26 {X : List (List Value)} (hX : az_X X) : az_Valid X ak_k26 := az_validS sz_pkall_szP (q := (5, 8, (0, 0, 0), szc_265)) hX (tb := ak_t26) (fun _ h => by cases h) rfl (hds := ak_h26) (by decide +kernel) (fun _ h => by cases h) (fun _ hV => ⟨_, hV, rfl, _, fun _ h => h, ak_e26⟩) (fun _ h => by cases h)
/-- $Reader.readsAccess -/
def ak_k27 : azCon := (263, 3, ([(0, (0, 0, []), (0, 0, [])), (0, (0, 0, []), (0, 0, []))], [(0, 9), (1, 1)], [], [(1, 14, []), (0, 0, [(0, 1)]), (0, 0, [(1, 1)])], [], [], false), [(some (some (0, 0, [(2, 1)])), [(0, (0, 0, []), (0, 0, [])), (0, (0, 0, []), (0, 0, [])), (0, (0, 0, []), (0, 0, []))], [(0, 9), (1, 1), (0, 1)], [], [])], [(10, 3), (12, 0), (13, 0), (14, 0), (15, 0), (8, 3)], (0, 0))
def ak_t27 : List azCon := [ak_k26]
def ak_h27 : List azHd := []
theorem ak_e27 : az_ex szP az_inl ak_k27.2.1 ak_t27 ak_k27.2.2.2.2.1 (fun _ => az_pre 263 []) (az_hint ak_t27) (az_leaf ak_k27 ak_h27 none (az_hb 2) (az_rb 2)) 29320 ak_k27.2.2.1.1 ak_k27.2.2.1.2.1 ak_k27.2.2.1.2.2.1 (az_hc ak_k27 (5, 8, (0, 0, 0), szc_263) (0, ak_k27.2.2.1, (0, []), (0, 0))) = true := by decide +kernel
set_option maxRecDepth 100000 in
theorem ak_v27 {X : List (List Value)} (hX : az_X X) : az_Valid X ak_k27 := az_validS sz_pkall_szP (q := (5, 8, (0, 0, 0), szc_263)) hX (tb := ak_t27) (List.forall_mem_cons.mpr ⟨ak_v26 hX, fun _ h => by cases h⟩) rfl (hds := ak_h27) (by decide +kernel) (fun _ h => by cases h) (fun _ hV => ⟨_, hV, rfl, _, fun _ h => h, ak_e27⟩) (fun _ h => by cases h)
