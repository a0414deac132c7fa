/-! contracts: written by wip/A/gen56.py -/
/-- $Reader.readsActs -/
def ak_k7 : azCon := (261, 5, ([], [], [], [(1, 14, [])], [], [], false), [(some (some (0, 0, [(0, 1)])), [(0, (0, 0, []), (0, 0, []))], [(0, 1)], [], [])], [(10, 3), (11, 1), (12, 0), (13, 0), (14, 0), (15, 0), (8, 3)], (0, 0))
def ak_t7 : List azCon := [ak_k6]
def ak_d7_0 : azHd := (2, ([(0, (0, 0, []), (0, 0, []))], [(0, 9)], [], [(1, 14, []), (0, 0, [(0, 1)])], [], [], false), (19, [(0, (-2))]), (0, 0))
def ak_h7 : List azHd := [ak_d7_0]
theorem ak_e7 : az_ex szP az_inl ak_k7.2.1 ak_t7 ak_k7.2.2.2.2.1 (fun _ => az_pre 261 []) (az_hint ak_t7) (az_leaf ak_k7 ak_h7 none (az_hb 0) (az_rb 0)) 3280 ak_k7.2.2.1.1 ak_k7.2.2.1.2.1 ak_k7.2.2.1.2.2.1 (az_hc ak_k7 (2, 8, (0, 0, 0), szc_261) (0, ak_k7.2.2.1, (0, []), (0, 0))) = true := by decide +kernel
theorem ak_e7_0 : az_ex szP az_inl ak_k7.2.1 ak_t7 ak_k7.2.2.2.2.1 (fun _ => az_pre 261 []) (az_hint ak_t7) (az_leaf ak_k7 ak_h7 (some ak_d7_0.2.2.1) (az_hb 0) (az_rb 0)) 3280 ak_d7_0.2.1.1 ak_d7_0.2.1.2.1 ak_d7_0.2.1.2.2.1 (az_hc ak_k7 (2, 8, (0, 0, 0), szc_261) ak_d7_0) = true := by decide +kernel
set_option maxRecDepth 100000 in
theorem ak_v7 {X : List (List Value)} (hX : az_X X) : az_Valid X ak_k7 := az_valid sz_pkall_szP (q := (2, 8, (0, 0, 0), szc_261)) hX (tb := ak_t7) (List.forall_mem_cons.mpr ⟨ak_v6 hX, fun _ h => by cases h⟩) rfl (hds := ak_h7) (by decide +kernel) (List.forall_mem_cons.mpr ⟨by decide +kernel, fun _ h => by cases h⟩) ak_e7 (List.forall_mem_cons.mpr ⟨ak_e7_0, fun _ h => by cases h⟩)
/-- $Held.takeLoop -/
def ak_k8 : azCon := (216, 0, ([], [], [], [(1, 82, []), (1, 5, [])], [], [], false), [(some none, [], [], [], [])], [(78, 1), (79, 0), (80, 0), (81, 0), (82, 0)], (0, 0))
def ak_t8 : List azCon := []
def ak_h8 : List azHd := []
theorem ak_e8 : az_ex szP az_inl ak_k8.2.1 ak_t8 ak_k8.2.2.2.2.1 (fun _ => az_pre 216 []) (az_hint ak_t8) (az_leaf ak_k8 ak_h8 none (az_hb 0) (az_rb 0)) 2110 ak_k8.2.2.1.1 ak_k8.2.2.1.2.1 ak_k8.2.2.1.2.2.1 (az_hc ak_k8 (2, 4, (0, 0, 0), szc_216) (0, ak_k8.2.2.1, (0, []), (0, 0))) = true := by decide +kernel
set_option maxRecDepth 100000 in
theorem ak_v8 {X : List (List Value)} (hX : az_X X) : az_Valid X ak_k8 := az_valid sz_pkall_szP (q := (2, 4, (0, 0, 0), szc_216)) hX (tb := ak_t8) (fun _ h => by cases h) rfl (hds := ak_h8) (by decide +kernel) (fun _ h => by cases h) ak_e8 (fun _ h => by cases h)
/-- $Held.take -/
def ak_k9 : azCon := (215, 1, ([], [], [], [(1, 82, []), (1, 5, [])], [], [], false), [(some none, [], [], [], [])], [(78, 1), (79, 0), (80, 0), (81, 0), (82, 0), (83, 0), (84, 0)], (0, 0))
def ak_t9 : List azCon := [ak_k8]
def ak_h9 : List azHd := []
theorem ak_e9 : az_ex szP az_inl ak_k9.2.1 ak_t9 ak_k9.2.2.2.2.1 (fun _ => az_pre 215 []) (az_hint ak_t9) (az_leaf ak_k9 ak_h9 none (az_hb 0) (az_rb 0)) 1720 ak_k9.2.2.1.1 ak_k9.2.2.1.2.1 ak_k9.2.2.1.2.2.1 (az_hc ak_k9 (2, 4, (0, 0, 0), szc_215) (0, ak_k9.2.2.1, (0, []), (0, 0))) = true := by decide +kernel
set_option maxRecDepth 100000 in
theorem ak_v9 {X : List (List Value)} (hX : az_X X) : az_Valid X ak_k9 := az_valid sz_pkall_szP (q := (2, 4, (0, 0, 0), szc_215)) hX (tb := ak_t9) (List.forall_mem_cons.mpr ⟨ak_v8 hX, fun _ h => by cases h⟩) rfl (hds := ak_h9) (by decide +kernel) (fun _ h => by cases h) ak_e9 (fun _ h => by cases h)
/-- $Held.takeLoop -/
def ak_k10 : azCon := (216, 0, ([], [], [], [(1, 61, []), (1, 5, [])], [], [], false), [(some none, [], [], [], [])], [(57, 1), (58, 0), (59, 0), (60, 0), (61, 0)], (0, 0))
def ak_t10 : List azCon := []
def ak_h10 : List azHd := []
theorem ak_e10 : az_ex szP az_inl ak_k10.2.1 ak_t10 ak_k10.2.2.2.2.1 (fun _ => az_pre 216 []) (az_hint ak_t10) (az_leaf ak_k10 ak_h10 none (az_hb 0) (az_rb 0)) 2110 ak_k10.2.2.1.1 ak_k10.2.2.1.2.1 ak_k10.2.2.1.2.2.1 (az_hc ak_k10 (2, 4, (0, 0, 0), szc_216) (0, ak_k10.2.2.1, (0, []), (0, 0))) = true := by decide +kernel
set_option maxRecDepth 100000 in
theorem ak_v10 {X : List (List Value)} (hX : az_X X) : az_Valid X ak_k10 := az_valid sz_pkall_szP (q := (2, 4, (0, 0, 0), szc_216)) hX (tb := ak_t10) (fun _ h => by cases h) rfl (hds := ak_h10) (by decide +kernel) (fun _ h => by cases h) ak_e10 (fun _ h => by cases h)
/-- $Held.take -/
def ak_k11 : azCon := (215, 1, ([], [], [], [(1, 61, []), (1, 5, [])], [], [], false), [(some none, [], [], [], [])], [(57, 1), (58, 0), (59, 0), (60, 0), (61, 0), (62, 0), (63, 0)], (0, 0))
def ak_t11 : List azCon := [ak_k10]
def ak_h11 : List azHd := []
theorem ak_e11 : az_ex szP az_inl ak_k11.2.1 ak_t11 ak_k11.2.2.2.2.1 (fun _ => az_pre 215 []) (az_hint ak_t11) (az_leaf ak_k11 ak_h11 none (az_hb 0) (az_rb 0)) 1720 ak_k11.2.2.1.1 ak_k11.2.2.1.2.1 ak_k11.2.2.1.2.2.1 (az_hc ak_k11 (2, 4, (0, 0, 0), szc_215) (0, ak_k11.2.2.1, (0, []), (0, 0))) = true := by decide +kernel
set_option maxRecDepth 100000 in
theorem ak_v11 {X : List (List Value)} (hX : az_X X) : az_Valid X ak_k11 := az_valid sz_pkall_szP (q := (2, 4, (0, 0, 0), szc_215)) hX (tb := ak_t11) (List.forall_mem_cons.mpr ⟨ak_v10 hX, fun _ h => by cases h⟩) rfl (hds := ak_h11) (by decide +kernel) (fun _ h => by cases h) ak_e11 (fun _ h => by cases h)
/-- $Held.takeLoop -/
def ak_k12 : azCon := (216, 0, ([], [], [], [(1, 68, []), (1, 5, [])], [], [], false), [(some none, [], [], [], [])], [(64, 1), (65, 0), (66, 0), (67, 0), (68, 0)], (0, 0))
def ak_t12 : List azCon := []
def ak_h12 : List azHd := []
theorem ak_e12 : az_ex szP az_inl ak_k12.2.1 ak_t12 ak_k12.2.2.2.2.1 (fun _ => az_pre 216 []) (az_hint ak_t12) (az_leaf ak_k12 ak_h12 none (az_hb 0) (az_rb 0)) 2110 ak_k12.2.2.1.1 ak_k12.2.2.1.2.1 ak_k12.2.2.1.2.2.1 (az_hc ak_k12 (2, 4, (0, 0, 0), szc_216) (0, ak_k12.2.2.1, (0, []), (0, 0))) = true := by decide +kernel
set_option maxRecDepth 100000 in
theorem ak_v12 {X : List (List Value)} (hX : az_X X) : az_Valid X ak_k12 := az_valid sz_pkall_szP (q := (2, 4, (0, 0, 0), szc_216)) hX (tb := ak_t12) (fun _ h => by cases h) rfl (hds := ak_h12) (by decide +kernel) (fun _ h => by cases h) ak_e12 (fun _ h => by cases h)
/-- $Held.take -/
def ak_k13 : azCon := (215, 1, ([], [], [], [(1, 68, []), (1, 5, [])], [], [], false), [(some none, [], [], [], [])], [(64, 1), (65, 0), (66, 0), (67, 0), (68, 0), (69, 0), (70, 0)], (0, 0))
def ak_t13 : List azCon := [ak_k12]
def ak_h13 : List azHd := []
theorem ak_e13 : az_ex szP az_inl ak_k13.2.1 ak_t13 ak_k13.2.2.2.2.1 (fun _ => az_pre 215 []) (az_hint ak_t13) (az_leaf ak_k13 ak_h13 none (az_hb 0) (az_rb 0)) 1720 ak_k13.2.2.1.1 ak_k13.2.2.1.2.1 ak_k13.2.2.1.2.2.1 (az_hc ak_k13 (2, 4, (0, 0, 0), szc_215) (0, ak_k13.2.2.1, (0, []), (0, 0))) = true := by decide +kernel
set_option maxRecDepth 100000 in
theorem ak_v13 {X : List (List Value)} (hX : az_X X) : az_Valid X ak_k13 := az_valid sz_pkall_szP (q := (2, 4, (0, 0, 0), szc_215)) hX (tb := ak_t13) (List.forall_mem_cons.mpr ⟨ak_v12 hX, fun _ h => by cases h⟩) rfl (hds := ak_h13) (by decide +kernel) (fun _ h => by cases h) ak_e13 (fun _ h => by cases h)
/-- $Held.takeLoop -/
def ak_k14 : azCon := (216, 0, ([], [], [], [(1, 117, []), (1, 5, [])], [], [], false), [(some none, [], [], [], [])], [(113, 1), (114, 0), (115, 0), (116, 0), (117, 0)], (0, 0))
def ak_t14 : List azCon := []
def ak_h14 : List azHd := []
theorem ak_e14 : az_ex szP az_inl ak_k14.2.1 ak_t14 ak_k14.2.2.2.2.1 (fun _ => az_pre 216 []) (az_hint ak_t14) (az_leaf ak_k14 ak_h14 none (az_hb 0) (az_rb 0)) 2110 ak_k14.2.2.1.1 ak_k14.2.2.1.2.1 ak_k14.2.2.1.2.2.1 (az_hc ak_k14 (2, 4, (0, 0, 0), szc_216) (0, ak_k14.2.2.1, (0, []), (0, 0))) = true := by decide +kernel
set_option maxRecDepth 100000 in
theorem ak_v14 {X : List (List Value)} (hX : az_X X) : az_Valid X ak_k14 := az_valid sz_pkall_szP (q := (2, 4, (0, 0, 0), szc_216)) hX (tb := ak_t14) (fun _ h => by cases h) rfl (hds := ak_h14) (by decide +kernel) (fun _ h => by cases h) ak_e14 (fun _ h => by cases h)
/-- $Held.take -/
def ak_k15 : azCon := (215, 1, ([], [], [], [(1, 117, []), (1, 5, [])], [], [], false), [(some none, [], [], [], [])], [(113, 1), (114, 0), (115, 0), (116, 0), (117, 0), (118, 0), (119, 0)], (0, 0))
def ak_t15 : List azCon := [ak_k14]
def ak_h15 : List azHd := []
theorem ak_e15 : az_ex szP az_inl ak_k15.2.1 ak_t15 ak_k15.2.2.2.2.1 (fun _ => az_pre 215 []) (az_hint ak_t15) (az_leaf ak_k15 ak_h15 none (az_hb 0) (az_rb 0)) 1720 ak_k15.2.2.1.1 ak_k15.2.2.1.2.1 ak_k15.2.2.1.2.2.1 (az_hc ak_k15 (2, 4, (0, 0, 0), szc_215) (0, ak_k15.2.2.1, (0, []), (0, 0))) = true := by decide +kernel
set_option maxRecDepth 100000 in
theorem ak_v15 {X : List (List Value)} (hX : az_X X) : az_Valid X ak_k15 := az_valid sz_pkall_szP (q := (2, 4, (0, 0, 0), szc_215)) hX (tb := ak_t15) (List.forall_mem_cons.mpr ⟨ak_v14 hX, fun _ h => by cases h⟩) rfl (hds := ak_h15) (by decide +kernel) (fun _ h => by cases h) ak_e15 (fun _ h => by cases h)
/-- $Held.takeLoop -/
def ak_k16 : azCon := (216, 0, ([], [], [], [(1, 103, []), (1, 5, [])], [], [], false), [(some none, [], [], [], [])], [(100, 0), (101, 0), (102, 0), (103, 0), (99, 1)], (0, 0))
def ak_t16 : List azCon := []
def ak_h16 : List azHd := []
theorem ak_e16 : az_ex szP az_inl ak_k16.2.1 ak_t16 ak_k16.2.2.2.2.1 (fun _ => az_pre 216 []) (az_hint ak_t16) (az_leaf ak_k16 ak_h16 none (az_hb 0) (az_rb 0)) 2110 ak_k16.2.2.1.1 ak_k16.2.2.1.2.1 ak_k16.2.2.1.2.2.1 (az_hc ak_k16 (2, 4, (0, 0, 0), szc_216) (0, ak_k16.2.2.1, (0, []), (0, 0))) = true := by decide +kernel
set_option maxRecDepth 100000 in
theorem ak_v16 {X : List (List Value)} (hX : az_X X) : az_Valid X ak_k16 := az_valid sz_pkall_szP (q := (2, 4, (0, 0, 0), szc_216)) hX (tb := ak_t16) (fun _ h => by cases h) rfl (hds := ak_h16) (by decide +kernel) (fun _ h => by cases h) ak_e16 (fun _ h => by cases h)
/-- $Held.take -/
def ak_k17 : azCon := (215, 1, ([], [], [], [(1, 103, []), (1, 5, [])], [], [], false), [(some none, [], [], [], [])], [(100, 0), (101, 0), (102, 0), (103, 0), (104, 0), (105, 0), (99, 1)], (0, 0))
def ak_t17 : List azCon := [ak_k16]
def ak_h17 : List azHd := []
theorem ak_e17 : az_ex szP az_inl ak_k17.2.1 ak_t17 ak_k17.2.2.2.2.1 (fun _ => az_pre 215 []) (az_hint ak_t17) (az_leaf ak_k17 ak_h17 none (az_hb 0) (az_rb 0)) 1720 ak_k17.2.2.1.1 ak_k17.2.2.1.2.1 ak_k17.2.2.1.2.2.1 (az_hc ak_k17 (2, 4, (0, 0, 0), szc_215) (0, ak_k17.2.2.1, (0, []), (0, 0))) = true := by decide +kernel
set_option maxRecDepth 100000 in
theorem ak_v17 {X : List (List Value)} (hX : az_X X) : az_Valid X ak_k17 := az_valid sz_pkall_szP (q := (2, 4, (0, 0, 0), szc_215)) hX (tb := ak_t17) (List.forall_mem_cons.mpr ⟨ak_v16 hX, fun _ h => by cases h⟩) rfl (hds := ak_h17) (by decide +kernel) (fun _ h => by cases h) ak_e17 (fun _ h => by cases h)
/-- $Held.takeLoop -/
def ak_k18 : azCon := (216, 0, ([], [], [], [(1, 124, []), (1, 5, [])], [], [], false), [(some none, [], [], [], [])], [(120, 1), (121, 0), (122, 0), (123, 0), (124, 0)], (0, 0))
def ak_t18 : List azCon := []
def ak_h18 : List azHd := []
theorem ak_e18 : az_ex szP az_inl ak_k18.2.1 ak_t18 ak_k18.2.2.2.2.1 (fun _ => az_pre 216 []) (az_hint ak_t18) (az_leaf ak_k18 ak_h18 none (az_hb 0) (az_rb 0)) 2110 ak_k18.2.2.1.1 ak_k18.2.2.1.2.1 ak_k18.2.2.1.2.2.1 (az_hc ak_k18 (2, 4, (0, 0, 0), szc_216) (0, ak_k18.2.2.1, (0, []), (0, 0))) = true := by decide +kernel
set_option maxRecDepth 100000 in
theorem ak_v18 {X : List (List Value)} (hX : az_X X) : az_Valid X ak_k18 := az_valid sz_pkall_szP (q := (2, 4, (0, 0, 0), szc_216)) hX (tb := ak_t18) (fun _ h => by cases h) rfl (hds := ak_h18) (by decide +kernel) (fun _ h => by cases h) ak_e18 (fun _ h => by cases h)
/-- $Held.take -/
def ak_k19 : azCon := (215, 1, ([], [], [], [(1, 124, []), (1, 5, [])], [], [], false), [(some none, [], [], [], [])], [(120, 1), (121, 0), (122, 0), (123, 0), (124, 0), (125, 0), (126, 0)], (0, 0))
def ak_t19 : List azCon := [ak_k18]
def ak_h19 : List azHd := []
theorem ak_e19 : az_ex szP az_inl ak_k19.2.1 ak_t19 ak_k19.2.2.2.2.1 (fun _ => az_pre 215 []) (az_hint ak_t19) (az_leaf ak_k19 ak_h19 none (az_hb 0) (az_rb 0)) 1720 ak_k19.2.2.1.1 ak_k19.2.2.1.2.1 ak_k19.2.2.1.2.2.1 (az_hc ak_k19 (2, 4, (0, 0, 0), szc_215) (0, ak_k19.2.2.1, (0, []), (0, 0))) = true := by decide +kernel
set_option maxRecDepth 100000 in
theorem ak_v19 {X : List (List Value)} (hX : az_X X) : az_Valid X ak_k19 := az_valid sz_pkall_szP (q := (2, 4, (0, 0, 0), szc_215)) hX (tb := ak_t19) (List.forall_mem_cons.mpr ⟨ak_v18 hX, fun _ h => by cases h⟩) rfl (hds := ak_h19) (by decide +kernel) (fun _ h => by cases h) ak_e19 (fun _ h => by cases h)
/-- $Held.takeLoop -/
def ak_k20 : azCon := (216, 0, ([], [], [], [(1, 96, []), (1, 5, [])], [], [], false), [(some none, [], [], [], [])], [(92, 1), (93, 0), (94, 0), (95, 0), (96, 0)], (0, 0))
def ak_t20 : List azCon := []
def ak_h20 : List azHd := []
theorem ak_e20 : az_ex szP az_inl ak_k20.2.1 ak_t20 ak_k20.2.2.2.2.1 (fun _ => az_pre 216 []) (az_hint ak_t20) (az_leaf ak_k20 ak_h20 none (az_hb 0) (az_rb 0)) 2110 ak_k20.2.2.1.1 ak_k20.2.2.1.2.1 ak_k20.2.2.1.2.2.1 (az_hc ak_k20 (2, 4, (0, 0, 0), szc_216) (0, ak_k20.2.2.1, (0, []), (0, 0))) = true := by decide +kernel
set_option maxRecDepth 100000 in
theorem ak_v20 {X : List (List Value)} (hX : az_X X) : az_Valid X ak_k20 := az_valid sz_pkall_szP (q := (2, 4, (0, 0, 0), szc_216)) hX (tb := ak_t20) (fun _ h => by cases h) rfl (hds := ak_h20) (by decide +kernel) (fun _ h => by cases h) ak_e20 (fun _ h => by cases h)
/-- $Held.take -/
def ak_k21 : azCon := (215, 1, ([], [], [], [(1, 96, []), (1, 5, [])], [], [], false), [(some none, [], [], [], [])], [(92, 1), (93, 0), (94, 0), (95, 0), (96, 0), (97, 0), (98, 0)], (0, 0))
def ak_t21 : List azCon := [ak_k20]
def ak_h21 : List azHd := []
theorem ak_e21 : az_ex szP az_inl ak_k21.2.1 ak_t21 ak_k21.2.2.2.2.1 (fun _ => az_pre 215 []) (az_hint ak_t21) (az_leaf ak_k21 ak_h21 none (az_hb 0) (az_rb 0)) 1720 ak_k21.2.2.1.1 ak_k21.2.2.1.2.1 ak_k21.2.2.1.2.2.1 (az_hc ak_k21 (2, 4, (0, 0, 0), szc_215) (0, ak_k21.2.2.1, (0, []), (0, 0))) = true := by decide +kernel
set_option maxRecDepth 100000 in
theorem ak_v21 {X : List (List Value)} (hX : az_X X) : az_Valid X ak_k21 := az_valid sz_pkall_szP (q := (2, 4, (0, 0, 0), szc_215)) hX (tb := ak_t21) (List.forall_mem_cons.mpr ⟨ak_v20 hX, fun _ h => by cases h⟩) rfl (hds := ak_h21) (by decide +kernel) (fun _ h => by cases h) ak_e21 (fun _ h => by cases h)
/-- $Held.takeLoop -/
def ak_k22 : azCon := (216, 0, ([], [], [], [(1, 75, []), (1, 5, [])], [], [], false), [(some none, [], [], [], [])], [(71, 1), (72, 0), (73, 0), (74, 0), (75, 0)], (0, 0))
def ak_t22 : List azCon := []
def ak_h22 : List azHd := []
theorem ak_e22 : az_ex szP az_inl ak_k22.2.1 ak_t22 ak_k22.2.2.2.2.1 (fun _ => az_pre 216 []) (az_hint ak_t22) (az_leaf ak_k22 ak_h22 none (az_hb 0) (az_rb 0)) 2110 ak_k22.2.2.1.1 ak_k22.2.2.1.2.1 ak_k22.2.2.1.2.2.1 (az_hc ak_k22 (2, 4, (0, 0, 0), szc_216) (0, ak_k22.2.2.1, (0, []), (0, 0))) = true := by decide +kernel
set_option maxRecDepth 100000 in
theorem ak_v22 {X : List (List Value)} (hX : az_X X) : az_Valid X ak_k22 := az_valid sz_pkall_szP (q := (2, 4, (0, 0, 0), szc_216)) hX (tb := ak_t22) (fun _ h => by cases h) rfl (hds := ak_h22) (by decide +kernel) (fun _ h => by cases h) ak_e22 (fun _ h => by cases h)
/-- $Held.take -/
def ak_k23 : azCon := (215, 1, ([], [], [], [(1, 75, []), (1, 5, [])], [], [], false), [(some none, [], [], [], [])], [(71, 1), (72, 0), (73, 0), (74, 0), (75, 0), (76, 0), (77, 0)], (0, 0))
def ak_t23 : List azCon := [ak_k22]
def ak_h23 : List azHd := []
theorem ak_e23 : az_ex szP az_inl ak_k23.2.1 ak_t23 ak_k23.2.2.2.2.1 (fun _ => az_pre 215 []) (az_hint ak_t23) (az_leaf ak_k23 ak_h23 none (az_hb 0) (az_rb 0)) 1720 ak_k23.2.2.1.1 ak_k23.2.2.1.2.1 ak_k23.2.2.1.2.2.1 (az_hc ak_k23 (2, 4, (0, 0, 0), szc_215) (0, ak_k23.2.2.1, (0, []), (0, 0))) = true := by decide +kernel
set_option maxRecDepth 100000 in
theorem ak_v23 {X : List (List Value)} (hX : az_X X) : az_Valid X ak_k23 := az_valid sz_pkall_szP (q := (2, 4, (0, 0, 0), szc_215)) hX (tb := ak_t23) (List.forall_mem_cons.mpr ⟨ak_v22 hX, fun _ h => by cases h⟩) rfl (hds := ak_h23) (by decide +kernel) (fun _ h => by cases h) ak_e23 (fun _ h => by cases h)
/-- $Held.takeLoop -/
def ak_k24 : azCon := (216, 0, ([], [], [], [(1, 89, []), (1, 5, [])], [], [], false), [(some none, [], [], [], [])], [(85, 1), (86, 0), (87, 0), (88, 0), (89, 0)], (0, 0))
def ak_t24 : List azCon := []
def ak_h24 : List azHd := []
theorem ak_e24 : az_ex szP az_inl ak_k24.2.1 ak_t24 ak_k24.2.2.2.2.1 (fun _ => az_pre 216 []) (az_hint ak_t24) (az_leaf ak_k24 ak_h24 none (az_hb 0) (az_rb 0)) 2110 ak_k24.2.2.1.1 ak_k24.2.2.1.2.1 ak_k24.2.2.1.2.2.1 (az_hc ak_k24 (2, 4, (0, 0, 0), szc_216) (0, ak_k24.2.2.1, (0, []), (0, 0))) = true := by decide +kernel
set_option maxRecDepth 100000 in
theorem ak_v24 {X : List (List Value)} (hX : az_X X) : az_Valid X ak_k24 := az_valid sz_pkall_szP (q := (2, 4, (0, 0, 0), szc_216)) hX (tb := ak_t24) (fun _ h => by cases h) rfl (hds := ak_h24) (by decide +kernel) (fun _ h => by cases h) ak_e24 (fun _ h => by cases h)
/-- $Held.take -/
def ak_k25 : azCon := (215, 1, ([], [], [], [(1, 89, []), (1, 5, [])], [], [], false), [(some none, [], [], [], [])], [(85, 1), (86, 0), (87, 0), (88, 0), (89, 0), (90, 0), (91, 0)], (0, 0))
def ak_t25 : List azCon := [ak_k24]
def ak_h25 : List azHd := []
theorem ak_e25 : az_ex szP az_inl ak_k25.2.1 ak_t25 ak_k25.2.2.2.2.1 (fun _ => az_pre 215 []) (az_hint ak_t25) (az_leaf ak_k25 ak_h25 none (az_hb 0) (az_rb 0)) 1720 ak_k25.2.2.1.1 ak_k25.2.2.1.2.1 ak_k25.2.2.1.2.2.1 (az_hc ak_k25 (2, 4, (0, 0, 0), szc_215) (0, ak_k25.2.2.1, (0, []), (0, 0))) = true := by decide +kernel
set_option maxRecDepth 100000 in
theorem ak_v25 {X : List (List Value)} (hX : az_X X) : az_Valid X ak_k25 := az_valid sz_pkall_szP (q := (2, 4, (0, 0, 0), szc_215)) hX (tb := ak_t25) (List.forall_mem_cons.mpr ⟨ak_v24 hX, fun _ h => by cases h⟩) rfl (hds := ak_h25) (by decide +kernel) (fun _ h => by cases h) ak_e25 (fun _ h => by cases h)
/-- $Held.takeLoop -/
def ak_k26 : azCon := (216, 0, ([], [], [], [(1, 110, []), (1, 5, [])], [], [], false), [(some none, [], [], [], [])], [(106, 1), (107, 0), (108, 0), (109, 0), (110, 0)], (0, 0))
def ak_t26 : List azCon := []
def ak_h26 : List azHd := []
theorem ak_e26 : az_ex szP az_inl ak_k26.2.1 ak_t26 ak_k26.2.2.2.2.1 (fun _ => az_pre 216 []) (az_hint ak_t26) (az_leaf ak_k26 ak_h26 none (az_hb 0) (az_rb 0)) 2110 ak_k26.2.2.1.1 ak_k26.2.2.1.2.1 ak_k26.2.2.1.2.2.1 (az_hc ak_k26 (2, 4, (0, 0, 0), szc_216) (0, ak_k26.2.2.1, (0, []), (0, 0))) = true := by decide +kernel
set_option maxRecDepth 100000 in
theorem ak_v26 {X : List (List Value)} (hX : az_X X) : az_Valid X ak_k26 := az_valid sz_pkall_szP (q := (2, 4, (0, 0, 0), szc_216)) hX (tb := ak_t26) (fun _ h => by cases h) rfl (hds := ak_h26) (by decide +kernel) (fun _ h => by cases h) ak_e26 (fun _ h => by cases h)
/-- $Held.take -/
def ak_k27 : azCon := (215, 1, ([], [], [], [(1, 110, []), (1, 5, [])], [], [], false), [(some none, [], [], [], [])], [(106, 1), (107, 0), (108, 0), (109, 0), (110, 0), (111, 0), (112, 0)], (0, 0))
def ak_t27 : List azCon := [ak_k26]
def ak_h27 : List azHd := []
theorem ak_e27 : az_ex szP az_inl ak_k27.2.1 ak_t27 ak_k27.2.2.2.2.1 (fun _ => az_pre 215 []) (az_hint ak_t27) (az_leaf ak_k27 ak_h27 none (az_hb 0) (az_rb 0)) 1720 ak_k27.2.2.1.1 ak_k27.2.2.1.2.1 ak_k27.2.2.1.2.2.1 (az_hc ak_k27 (2, 4, (0, 0, 0), szc_215) (0, ak_k27.2.2.1, (0, []), (0, 0))) = true := by decide +kernel
set_option maxRecDepth 100000 in
theorem ak_v27 {X : List (List Value)} (hX : az_X X) : az_Valid X ak_k27 := az_valid sz_pkall_szP (q := (2, 4, (0, 0, 0), szc_215)) hX (tb := ak_t27) (List.forall_mem_cons.mpr ⟨ak_v26 hX, fun _ h => by cases h⟩) rfl (hds := ak_h27) (by decide +kernel) (fun _ h => by cases h) ak_e27 (fun _ h => by cases h)
/-- $History.mark -/
def ak_k28 : azCon := (224, 2, ([], [], [], [(1, 57, [])], [], [], false), [(some none, [], [], [], [])], [(100, 0), (101, 0), (102, 0), (103, 0), (104, 0), (105, 0), (106, 1), (107, 0), (108, 0), (109, 0), (110, 0), (111, 0), (112, 0), (113, 1), (114, 0), (115, 0), (116, 0), (117, 0), (118, 0), (119, 0), (120, 1), (121, 0), (122, 0), (123, 0), (124, 0), (125, 0), (126, 0), (57, 1), (58, 0), (59, 0), (60, 0), (61, 0), (62, 0), (63, 0), (64, 1), (65, 0), (66, 0), (67, 0), (68, 0), (69, 0), (70, 0), (71, 1), (72, 0), (73, 0), (74, 0), (75, 0), (76, 0), (77, 0), (78, 1), (79, 0), (80, 0), (81, 0), (82, 0), (83, 0), (84, 0), (85, 1), (86, 0), (87, 0), (88, 0), (89, 0), (90, 0), (91, 0), (92, 1), (93, 0), (94, 0), (95, 0), (96, 0), (97, 0), (98, 0), (99, 1)], (0, 0))
def ak_t28 : List azCon := [ak_k9, ak_k11, ak_k13, ak_k15, ak_k17, ak_k19, ak_k21, ak_k23, ak_k25, ak_k27]
def ak_h28 : List azHd := []
theorem ak_e28 : az_ex szP az_inl ak_k28.2.1 ak_t28 ak_k28.2.2.2.2.1 (fun _ => az_pre 224 []) (az_hint ak_t28) (az_leaf ak_k28 ak_h28 none (az_hb 0) (az_rb 0)) 2650 ak_k28.2.2.1.1 ak_k28.2.2.1.2.1 ak_k28.2.2.1.2.2.1 (az_hc ak_k28 (1, 5, (0, 0, 0), szc_224) (0, ak_k28.2.2.1, (0, []), (0, 0))) = true := by decide +kernel
set_option maxRecDepth 100000 in
theorem ak_v28 {X : List (List Value)} (hX : az_X X) : az_Valid X ak_k28 := az_valid sz_pkall_szP (q := (1, 5, (0, 0, 0), szc_224)) hX (tb := ak_t28) (List.forall_mem_cons.mpr ⟨ak_v9 hX, List.forall_mem_cons.mpr ⟨ak_v11 hX, List.forall_mem_cons.mpr ⟨ak_v13 hX, List.forall_mem_cons.mpr ⟨ak_v15 hX, List.forall_mem_cons.mpr ⟨ak_v17 hX, List.forall_mem_cons.mpr ⟨ak_v19 hX, List.forall_mem_cons.mpr ⟨ak_v21 hX, List.forall_mem_cons.mpr ⟨ak_v23 hX, List.forall_mem_cons.mpr ⟨ak_v25 hX, List.forall_mem_cons.mpr ⟨ak_v27 hX, fun _ h => by cases h⟩⟩⟩⟩⟩⟩⟩⟩⟩⟩) rfl (hds := ak_h28) (by decide +kernel) (fun _ h => by cases h) ak_e28 (fun _ h => by cases h)
/-- $History.keepMark -/
def ak_k29 : azCon := (225, 1, ([], [], [], [(1, 57, [])], [], [], false), [(some none, [], [], [], [])], [(53, 3), (53, 4)], (0, 0))
def ak_t29 : List azCon := []
def ak_h29 : List azHd := []
theorem ak_e29 : az_ex szP az_inl ak_k29.2.1 ak_t29 ak_k29.2.2.2.2.1 (fun _ => az_pre 225 []) (az_hint ak_t29) (az_leaf ak_k29 ak_h29 none (az_hb 0) (az_rb 0)) 1870 ak_k29.2.2.1.1 ak_k29.2.2.1.2.1 ak_k29.2.2.1.2.2.1 (az_hc ak_k29 (1, 5, (0, 0, 0), szc_225) (0, ak_k29.2.2.1, (0, []), (0, 0))) = true := by decide +kernel
set_option maxRecDepth 100000 in
theorem ak_v29 {X : List (List Value)} (hX : az_X X) : az_Valid X ak_k29 := az_valid sz_pkall_szP (q := (1, 5, (0, 0, 0), szc_225)) hX (tb := ak_t29) (fun _ h => by cases h) rfl (hds := ak_h29) (by decide +kernel) (fun _ h => by cases h) ak_e29 (fun _ h => by cases h)
/-- $Held.takeLoop -/
def ak_k30 : azCon := (216, 0, ([], [], [], [(1, 5, []), (1, 15, [])], [], [], false), [(some none, [], [], [], [])], [(1, 1), (2, 0), (3, 0), (4, 0), (5, 0)], (0, 0))
def ak_t30 : List azCon := []
def ak_h30 : List azHd := []
theorem ak_e30 : az_ex szP az_inl ak_k30.2.1 ak_t30 ak_k30.2.2.2.2.1 (fun _ => az_pre 216 []) (az_hint ak_t30) (az_leaf ak_k30 ak_h30 none (az_hb 0) (az_rb 0)) 2110 ak_k30.2.2.1.1 ak_k30.2.2.1.2.1 ak_k30.2.2.1.2.2.1 (az_hc ak_k30 (2, 4, (0, 0, 0), szc_216) (0, ak_k30.2.2.1, (0, []), (0, 0))) = true := by decide +kernel
set_option maxRecDepth 100000 in
theorem ak_v30 {X : List (List Value)} (hX : az_X X) : az_Valid X ak_k30 := az_valid sz_pkall_szP (q := (2, 4, (0, 0, 0), szc_216)) hX (tb := ak_t30) (fun _ h => by cases h) rfl (hds := ak_h30) (by decide +kernel) (fun _ h => by cases h) ak_e30 (fun _ h => by cases h)
/-- .loop -/
def ak_k31 : azCon := (8, 7, ([], [], [], [(1, 4, [])], [], [], false), [(some (some (0, 0, [(0, 1)])), [(0, (0, 0, []), (0, 0, []))], [((-200), 10)], [], [])], [(1, 1), (10, 3), (100, 0), (101, 0), (102, 0), (103, 0), (104, 0), (105, 0), (106, 1), (107, 0), (108, 0), (109, 0), (11, 1), (110, 0), (111, 0), (112, 0), (113, 1), (114, 0), (115, 0), (116, 0), (117, 0), (118, 0), (119, 0), (12, 0), (120, 1), (121, 0), (122, 0), (123, 0), (124, 0), (125, 0), (126, 0), (13, 0), (14, 0), (15, 0), (18, 2), (2, 0), (3, 0), (33, 3), (4, 0), (5, 0), (53, 3), (53, 4), (57, 1), (58, 0), (59, 0), (60, 0), (61, 0), (62, 0), (63, 0), (64, 1), (65, 0), (66, 0), (67, 0), (68, 0), (69, 0), (70, 0), (71, 1), (72, 0), (73, 0), (74, 0), (75, 0), (76, 0), (77, 0), (78, 1), (79, 0), (8, 2), (8, 3), (80, 0), (81, 0), (82, 0), (83, 0), (84, 0), (85, 1), (86, 0), (87, 0), (88, 0), (89, 0), (90, 0), (91, 0), (92, 1), (93, 0), (94, 0), (95, 0), (96, 0), (97, 0), (98, 0), (99, 1)], (0, 0))
def ak_t31 : List azCon := [ak_k7, ak_k28, ak_k29, ak_k30]
def ak_h31 : List azHd := []
theorem ak_e31 : az_ex szP az_inl ak_k31.2.1 ak_t31 ak_k31.2.2.2.2.1 (fun _ => az_pre 8 []) (az_hint ak_t31) (az_leaf ak_k31 ak_h31 none (az_hb 0) (az_rb 0)) 5740 ak_k31.2.2.1.1 ak_k31.2.2.1.2.1 ak_k31.2.2.1.2.2.1 (az_hc ak_k31 (2, 11, (0, 0, 0), szc_8) (0, ak_k31.2.2.1, (0, []), (0, 0))) = true := by decide +kernel
set_option maxRecDepth 100000 in
theorem ak_v31 {X : List (List Value)} (hX : az_X X) : az_Valid X ak_k31 := az_valid sz_pkall_szP (q := (2, 11, (0, 0, 0), szc_8)) hX (tb := ak_t31) (List.forall_mem_cons.mpr ⟨ak_v7 hX, List.forall_mem_cons.mpr ⟨ak_v28 hX, List.forall_mem_cons.mpr ⟨ak_v29 hX, List.forall_mem_cons.mpr ⟨ak_v30 hX, fun _ h => by cases h⟩⟩⟩⟩) rfl (hds := ak_h31) (by decide +kernel) (fun _ h => by cases h) ak_e31 (fun _ h => by cases h)
/-- java/util/Arrays.fill -/
def ak_k32 : azCon := (290, 0, ([(0, (0, 0, []), (0, 0, []))], [(0, 0)], [], [(1, 20, []), (0, 0, [(0, 1)])], [], [], false), [(some none, [(0, (0, 0, []), (0, 0, []))], [(0, 0)], [], [])], [(16, 0)], (0, 0))
def ak_t32 : List azCon := []
def ak_d32_0 : azHd := (5, ([(0, (0, 0, []), (0, 0, [])), (0, (0, 0, []), (0, 0, []))], [(0, 0), (0, 39)], [], [(1, 20, []), (0, 0, [(0, 1)]), (0, 0, [(1, 1)]), (0, 32, [])], [], [], false), (79, [(1, (-2))]), (0, 0))
def ak_h32 : List azHd := [ak_d32_0]
theorem ak_e32 : az_ex szP az_inl ak_k32.2.1 ak_t32 ak_k32.2.2.2.2.1 (fun _ => az_pre 290 []) (az_hint ak_t32) (az_leaf ak_k32 ak_h32 none (az_hb 1) (az_rb 1)) 1450 ak_k32.2.2.1.1 ak_k32.2.2.1.2.1 ak_k32.2.2.1.2.2.1 (az_hc ak_k32 (4, 0, (0, 0, 0), szc_290) (0, ak_k32.2.2.1, (0, []), (0, 0))) = true := by decide +kernel
theorem ak_e32_0 : az_ex szP az_inl ak_k32.2.1 ak_t32 ak_k32.2.2.2.2.1 (fun _ => az_pre 290 []) (az_hint ak_t32) (az_leaf ak_k32 ak_h32 (some ak_d32_0.2.2.1) (az_hb 1) (az_rb 1)) 1450 ak_d32_0.2.1.1 ak_d32_0.2.1.2.1 ak_d32_0.2.1.2.2.1 (az_hc ak_k32 (4, 0, (0, 0, 0), szc_290) ak_d32_0) = true := by decide +kernel
set_option maxRecDepth 100000 in
theorem ak_v32 {X : List (List Value)} (hX : az_X X) : az_Valid X ak_k32 := az_valid sz_pkall_szP (q := (4, 0, (0, 0, 0), szc_290)) hX (tb := ak_t32) (fun _ h => by cases h) rfl (hds := ak_h32) (by decide +kernel) (List.forall_mem_cons.mpr ⟨by decide +kernel, fun _ h => by cases h⟩) ak_e32 (List.forall_mem_cons.mpr ⟨ak_e32_0, fun _ h => by cases h⟩)
/-- $Reader.readsNumber -/
def ak_k33 : azCon := (268, 2, ([(0, (0, 0, []), (0, 0, []))], [(0, 15)], [], [(1, 14, []), (0, 0, [(0, 1)])], [], [], false), [(some (some (0, 0, [(1, 1)])), [(0, (0, 0, []), (0, 0, [])), (0, (0, 0, []), (0, 0, []))], [(0, 15), (0, 1)], [], [])], [(16, 0), (8, 3)], (0, 0))
def ak_t33 : List azCon := []
def ak_d33_0 : azHd := (13, ([(0, (0, 0, []), (0, 0, [])), (0, (0, 0, []), (0, 0, [])), (0, (0, 0, []), (0, 0, [])), (0, (0, 0, []), (0, 0, [])), (0, (0, 0, []), (0, 0, []))], [(0, 15), (0, 1), (0, 99), ((-2147483648), 2147483647), (0, 9)], [], [(1, 14, []), (0, 0, [(0, 1)]), (0, 0, [(1, 1)]), (0, 0, [(2, 1)]), (0, 0, [(3, 1)]), (0, 0, [(4, 1)]), (9, 0, [])], [], [], false), (19, [(4, (-2))]), (0, 0))
def ak_h33 : List azHd := [ak_d33_0]
theorem ak_e33 : az_ex szP az_inl ak_k33.2.1 ak_t33 ak_k33.2.2.2.2.1 (fun _ => az_pre 268 []) (az_hint ak_t33) (az_leaf ak_k33 ak_h33 none (az_hb 1) (az_rb 1)) 8470 ak_k33.2.2.1.1 ak_k33.2.2.1.2.1 ak_k33.2.2.1.2.2.1 (az_hc ak_k33 (7, 8, (0, 0, 0), szc_268) (0, ak_k33.2.2.1, (0, []), (0, 0))) = true := by decide +kernel
theorem ak_e33_0 : az_ex szP az_inl ak_k33.2.1 ak_t33 ak_k33.2.2.2.2.1 (fun _ => az_pre 268 []) (az_hint ak_t33) (az_leaf ak_k33 ak_h33 (some ak_d33_0.2.2.1) (az_hb 1) (az_rb 1)) 8470 ak_d33_0.2.1.1 ak_d33_0.2.1.2.1 ak_d33_0.2.1.2.2.1 (az_hc ak_k33 (7, 8, (0, 0, 0), szc_268) ak_d33_0) = true := by decide +kernel
set_option maxRecDepth 100000 in
theorem ak_v33 {X : List (List Value)} (hX : az_X X) : az_Valid X ak_k33 := az_valid sz_pkall_szP (q := (7, 8, (0, 0, 0), szc_268)) hX (tb := ak_t33) (fun _ h => by cases h) rfl (hds := ak_h33) (by decide +kernel) (List.forall_mem_cons.mpr ⟨by decide +kernel, fun _ h => by cases h⟩) ak_e33 (List.forall_mem_cons.mpr ⟨ak_e33_0, fun _ h => by cases h⟩)
/-- $Reader.readCells -/
def ak_k34 : azCon := (267, 3, ([], [], [], [(1, 14, [])], [], [], false), [(some (some (0, 0, [(0, 1)])), [(0, (0, 0, []), (0, 0, []))], [((-91), 16)], [], [])], [(16, 0), (8, 3)], (0, 0))
def ak_t34 : List azCon := [ak_k32, ak_k33]
def ak_d34_0 : azHd := (17, ([(0, (0, 0, []), (0, 0, []))], [(0, 15)], [], [(1, 14, []), (0, 0, [(0, 1)])], [], [], false), (31, [(0, (-2))]), (0, 0))
def ak_h34 : List azHd := [ak_d34_0]
theorem ak_e34 : az_ex szP az_inl ak_k34.2.1 ak_t34 ak_k34.2.2.2.2.1 (fun _ => az_pre 267 []) (az_hint ak_t34) (az_leaf ak_k34 ak_h34 none (az_hb 0) (az_rb 0)) 4780 ak_k34.2.2.1.1 ak_k34.2.2.1.2.1 ak_k34.2.2.1.2.2.1 (az_hc ak_k34 (2, 8, (0, 0, 0), szc_267) (0, ak_k34.2.2.1, (0, []), (0, 0))) = true := by decide +kernel
theorem ak_e34_0 : az_ex szP az_inl ak_k34.2.1 ak_t34 ak_k34.2.2.2.2.1 (fun _ => az_pre 267 []) (az_hint ak_t34) (az_leaf ak_k34 ak_h34 (some ak_d34_0.2.2.1) (az_hb 0) (az_rb 0)) 4780 ak_d34_0.2.1.1 ak_d34_0.2.1.2.1 ak_d34_0.2.1.2.2.1 (az_hc ak_k34 (2, 8, (0, 0, 0), szc_267) ak_d34_0) = true := by decide +kernel
set_option maxRecDepth 100000 in
theorem ak_v34 {X : List (List Value)} (hX : az_X X) : az_Valid X ak_k34 := az_valid sz_pkall_szP (q := (2, 8, (0, 0, 0), szc_267)) hX (tb := ak_t34) (List.forall_mem_cons.mpr ⟨ak_v32 hX, List.forall_mem_cons.mpr ⟨ak_v33 hX, fun _ h => by cases h⟩⟩) rfl (hds := ak_h34) (by decide +kernel) (List.forall_mem_cons.mpr ⟨by decide +kernel, fun _ h => by cases h⟩) ak_e34 (List.forall_mem_cons.mpr ⟨ak_e34_0, fun _ h => by cases h⟩)
/-- .memory -/
def ak_k35 : azCon := (9, 4, ([(0, (0, 0, []), (0, 0, []))], [((-2147483648), 2147483647)], [], [(1, 4, []), (0, 0, [(0, 1)])], [], [], false), [(some (some (0, 0, [(1, 1)])), [(0, (0, 0, []), (0, 0, [])), (0, (0, 0, []), (0, 0, []))], [((-2147483648), 2147483647), ((-91), 16)], [], [])], [(100, 0), (101, 0), (102, 0), (103, 0), (104, 0), (105, 0), (106, 1), (107, 0), (108, 0), (109, 0), (110, 0), (111, 0), (112, 0), (113, 1), (114, 0), (115, 0), (116, 0), (117, 0), (118, 0), (119, 0), (120, 1), (121, 0), (122, 0), (123, 0), (124, 0), (125, 0), (126, 0), (16, 0), (53, 3), (53, 4), (57, 1), (58, 0), (59, 0), (6, 0), (60, 0), (61, 0), (62, 0), (63, 0), (64, 1), (65, 0), (66, 0), (67, 0), (68, 0), (69, 0), (70, 0), (71, 1), (72, 0), (73, 0), (74, 0), (75, 0), (76, 0), (77, 0), (78, 1), (79, 0), (8, 2), (8, 3), (80, 0), (81, 0), (82, 0), (83, 0), (84, 0), (85, 1), (86, 0), (87, 0), (88, 0), (89, 0), (90, 0), (91, 0), (92, 1), (93, 0), (94, 0), (95, 0), (96, 0), (97, 0), (98, 0), (99, 1)], (0, 0))
def ak_t35 : List azCon := [ak_k28, ak_k29, ak_k34]
def ak_h35 : List azHd := []
theorem ak_e35 : az_ex szP az_inl ak_k35.2.1 ak_t35 ak_k35.2.2.2.2.1 (fun _ => az_pre 9 []) (az_hint ak_t35) (az_leaf ak_k35 ak_h35 none (az_hb 1) (az_rb 1)) 2830 ak_k35.2.2.1.1 ak_k35.2.2.1.2.1 ak_k35.2.2.1.2.2.1 (az_hc ak_k35 (3, 11, (0, 0, 0), szc_9) (0, ak_k35.2.2.1, (0, []), (0, 0))) = true := by decide +kernel
set_option maxRecDepth 100000 in
theorem ak_v35 {X : List (List Value)} (hX : az_X X) : az_Valid X ak_k35 := az_valid sz_pkall_szP (q := (3, 11, (0, 0, 0), szc_9)) hX (tb := ak_t35) (List.forall_mem_cons.mpr ⟨ak_v28 hX, List.forall_mem_cons.mpr ⟨ak_v29 hX, List.forall_mem_cons.mpr ⟨ak_v34 hX, fun _ h => by cases h⟩⟩⟩) rfl (hds := ak_h35) (by decide +kernel) (fun _ h => by cases h) ak_e35 (fun _ h => by cases h)
/-- .cell -/
def ak_k36 : azCon := (10, 1, ([(0, (0, 0, []), (0, 0, [])), (0, (0, 0, []), (0, 0, []))], [((-2147483648), 2147483647), ((-2147483648), 2147483647)], [], [(1, 4, []), (0, 0, [(0, 1)]), (0, 0, [(1, 1)])], [], [], false), [(none, [(0, (0, 0, []), (0, 0, [])), (0, (0, 0, []), (0, 0, []))], [((-2147483648), 2147483647), ((-2147483648), 2147483647)], [], []), (some (some (0, 0, [(2, 1)])), [(0, (0, 0, []), (0, 0, [])), (0, (0, 0, []), (0, 0, [])), (0, (0, 0, []), (0, 0, []))], [(0, 1), (0, 15), ((-2147483648), 2147483647)], [(0, [(0, 1)]), (1, [(0, (-1))]), (0, [(1, 1)]), (15, [(1, (-1))])], [])], [], (1, 6))
def ak_t36 : List azCon := []
def ak_h36 : List azHd := []
theorem ak_e36 : az_ex szP az_inl ak_k36.2.1 ak_t36 ak_k36.2.2.2.2.1 (fun _ => az_pre 10 []) (az_hint ak_t36) (az_leaf ak_k36 ak_h36 none (az_hb 2) (az_rb 2)) 2440 ak_k36.2.2.1.1 ak_k36.2.2.1.2.1 ak_k36.2.2.1.2.2.1 (az_hc ak_k36 (3, 11, (0, 0, 0), szc_10) (0, ak_k36.2.2.1, (0, []), (0, 0))) = true := by decide +kernel
set_option maxRecDepth 100000 in
theorem ak_v36 {X : List (List Value)} (hX : az_X X) : az_Valid X ak_k36 := az_valid sz_pkall_szP (q := (3, 11, (0, 0, 0), szc_10)) hX (tb := ak_t36) (fun _ h => by cases h) rfl (hds := ak_h36) (by decide +kernel) (fun _ h => by cases h) ak_e36 (fun _ h => by cases h)
/-- .act -/
def ak_k37 : azCon := (11, 1, ([(0, (0, 0, []), (0, 0, [])), (0, (0, 0, []), (0, 0, []))], [((-2147483648), 2147483647), ((-2147483648), 2147483647)], [], [(1, 4, []), (0, 0, [(0, 1)]), (0, 0, [(1, 1)])], [], [], false), [(none, [(0, (0, 0, []), (0, 0, [])), (0, (0, 0, []), (0, 0, []))], [((-2147483648), 2147483647), ((-2147483648), 2147483647)], [], []), (some (some (0, 0, [(2, 1)])), [(0, (0, 0, []), (0, 0, [])), (0, (0, 0, []), (0, 0, [])), (0, (0, 0, []), (0, 0, []))], [(0, 9), (0, 3), ((-1), 80)], [(0, [(0, 1)]), (9, [(0, (-1))]), (0, [(1, 1)]), (3, [(1, (-1))])], [])], [], (1, 6))
def ak_t37 : List azCon := []
def ak_h37 : List azHd := []
theorem ak_e37 : az_ex szP az_inl ak_k37.2.1 ak_t37 ak_k37.2.2.2.2.1 (fun _ => az_pre 11 []) (az_hint ak_t37) (az_leaf ak_k37 ak_h37 none (az_hb 2) (az_rb 2)) 3790 ak_k37.2.2.1.1 ak_k37.2.2.1.2.1 ak_k37.2.2.1.2.2.1 (az_hc ak_k37 (3, 11, (0, 0, 0), szc_11) (0, ak_k37.2.2.1, (0, []), (0, 0))) = true := by decide +kernel
set_option maxRecDepth 100000 in
theorem ak_v37 {X : List (List Value)} (hX : az_X X) : az_Valid X ak_k37 := az_valid sz_pkall_szP (q := (3, 11, (0, 0, 0), szc_11)) hX (tb := ak_t37) (fun _ h => by cases h) rfl (hds := ak_h37) (by decide +kernel) (fun _ h => by cases h) ak_e37 (fun _ h => by cases h)
/-- .writeSheet -/
def ak_k38 : azCon := (52, 0, ([(0, (0, 0, []), (0, 0, [])), (0, (0, 0, []), (0, 0, [])), (0, (0, 0, []), (0, 0, [])), (0, (0, 0, []), (0, 0, []))], [(0, 9), (0, 16), ((-2147483648), 2147483647), ((-2147483648), 2147483647)], [], [(1, 4, []), (0, 0, [(0, 1)]), (0, 0, [(1, 1)]), (0, 0, [(2, 1)]), (0, 0, [(3, 1)])], [], [], false), [(some (some (0, 0, [(4, 1)])), [(0, (0, 0, []), (0, 0, [])), (0, (0, 0, []), (0, 0, [])), (0, (0, 0, []), (0, 0, [])), (0, (0, 0, []), (0, 0, [])), (0, (0, 0, []), (0, 0, []))], [(0, 9), (0, 16), ((-2147483648), 2147483647), ((-2147483648), 2147483647), ((-2147483648), 2147483647)], [], [])], [(6, 0)], (0, 0))
def ak_t38 : List azCon := []
def ak_d38_0 : azHd := (4, ([(0, (0, 0, []), (0, 0, [])), (0, (0, 0, []), (0, 0, [])), (0, (0, 0, []), (0, 0, [])), (0, (0, 0, []), (0, 0, [])), (0, (0, 0, []), (0, 0, [])), (0, (0, 0, []), (0, 0, []))], [(0, 9), (0, 16), ((-2147483648), 2147483647), ((-2147483648), 2147483647), ((-2147483648), 2147483647), (0, 16)], [], [(1, 4, []), (0, 0, [(0, 1)]), (0, 0, [(1, 1)]), (0, 0, [(2, 1)]), (0, 0, [(3, 1)]), (0, 0, [(4, 1)]), (0, 0, [(5, 1)]), (9, 0, [])], [], [], false), (33, [(5, (-2))]), (0, 0))
def ak_h38 : List azHd := [ak_d38_0]
theorem ak_e38 : az_ex szP az_inl ak_k38.2.1 ak_t38 ak_k38.2.2.2.2.1 (fun _ => az_pre 52 []) (az_hint ak_t38) (az_leaf ak_k38 ak_h38 none (az_hb 4) (az_rb 4)) 4690 ak_k38.2.2.1.1 ak_k38.2.2.1.2.1 ak_k38.2.2.1.2.2.1 (az_hc ak_k38 (8, 11, (0, 0, 0), szc_52) (0, ak_k38.2.2.1, (0, []), (0, 0))) = true := by decide +kernel
theorem ak_e38_0 : az_ex szP az_inl ak_k38.2.1 ak_t38 ak_k38.2.2.2.2.1 (fun _ => az_pre 52 []) (az_hint ak_t38) (az_leaf ak_k38 ak_h38 (some ak_d38_0.2.2.1) (az_hb 4) (az_rb 4)) 4690 ak_d38_0.2.1.1 ak_d38_0.2.1.2.1 ak_d38_0.2.1.2.2.1 (az_hc ak_k38 (8, 11, (0, 0, 0), szc_52) ak_d38_0) = true := by decide +kernel
set_option maxRecDepth 100000 in
theorem ak_v38 {X : List (List Value)} (hX : az_X X) : az_Valid X ak_k38 := az_valid sz_pkall_szP (q := (8, 11, (0, 0, 0), szc_52)) hX (tb := ak_t38) (fun _ h => by cases h) rfl (hds := ak_h38) (by decide +kernel) (List.forall_mem_cons.mpr ⟨by decide +kernel, fun _ h => by cases h⟩) ak_e38 (List.forall_mem_cons.mpr ⟨ak_e38_0, fun _ h => by cases h⟩)
/-- .sheet -/
def ak_k39 : azCon := (12, 1, ([(0, (0, 0, []), (0, 0, [])), (0, (0, 0, []), (0, 0, [])), (0, (0, 0, []), (0, 0, [])), (0, (0, 0, []), (0, 0, []))], [((-2147483648), 2147483647), ((-2147483648), 2147483647), ((-2147483648), 2147483647), ((-2147483648), 2147483647)], [], [(1, 4, []), (0, 0, [(0, 1)]), (0, 0, [(1, 1)]), (0, 0, [(2, 1)]), (0, 0, [(3, 1)])], [], [], false), [(some (some (0, 0, [(4, 1)])), [(0, (0, 0, []), (0, 0, [])), (0, (0, 0, []), (0, 0, [])), (0, (0, 0, []), (0, 0, [])), (0, (0, 0, []), (0, 0, [])), (0, (0, 0, []), (0, 0, []))], [((-2147483648), 2147483647), ((-2147483648), 2147483647), ((-2147483648), 2147483647), ((-2147483648), 2147483647), ((-2147483648), 2147483647)], [], [])], [(6, 0)], (0, 0))
def ak_t39 : List azCon := [ak_k38]
def ak_h39 : List azHd := []
theorem ak_e39 : az_ex szP az_inl ak_k39.2.1 ak_t39 ak_k39.2.2.2.2.1 (fun _ => az_pre 12 []) (az_hint ak_t39) (az_leaf ak_k39 ak_h39 none (az_hb 4) (az_rb 4)) 2110 ak_k39.2.2.1.1 ak_k39.2.2.1.2.1 ak_k39.2.2.1.2.2.1 (az_hc ak_k39 (5, 11, (0, 0, 0), szc_12) (0, ak_k39.2.2.1, (0, []), (0, 0))) = true := by decide +kernel
set_option maxRecDepth 100000 in
theorem ak_v39 {X : List (List Value)} (hX : az_X X) : az_Valid X ak_k39 := az_valid sz_pkall_szP (q := (5, 11, (0, 0, 0), szc_12)) hX (tb := ak_t39) (List.forall_mem_cons.mpr ⟨ak_v38 hX, fun _ h => by cases h⟩) rfl (hds := ak_h39) (by decide +kernel) (fun _ h => by cases h) ak_e39 (fun _ h => by cases h)
