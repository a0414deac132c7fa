/-! contracts: written by wip/A/gen56.py -/
/-- .doDay -/
def ak_k51 : azCon := (57, 6, ([], [], [], [(1, 4, [])], [], [], false), [(some (some (0, 0, [(0, 1)])), [(0, (0, 0, []), (0, 0, []))], [((-2147483648), 2147483647)], [], [])], [(18, 2), (33, 3), (38, 0), (6, 0), (7, 0), (8, 3)], (0, 0))
def ak_t51 : List azCon := [ak_k50]
def ak_d51_0 : azHd := (8, ([(0, (0, 0, []), (0, 0, [])), (0, (0, 0, []), (0, 0, []))], [((-2147483648), 2147483647), (0, 80)], [], [(1, 4, []), (0, 0, [(0, 1)]), (0, 0, [(1, 1)])], [], [], false), (161, [(1, (-2))]), (0, 0))
def ak_h51 : List azHd := [ak_d51_0]
theorem ak_e51 : az_ex szP az_inl ak_k51.2.1 ak_t51 ak_k51.2.2.2.2.1 (fun _ => az_pre 57 []) (az_hint ak_t51) (az_leaf ak_k51 ak_h51 none (az_hb 0) (az_rb 0)) 4120 ak_k51.2.2.1.1 ak_k51.2.2.1.2.1 ak_k51.2.2.1.2.2.1 (az_hc ak_k51 (3, 11, (0, 0, 0), szc_57) (0, ak_k51.2.2.1, (0, []), (0, 0))) = true := by decide +kernel
theorem ak_e51_0 : az_ex szP az_inl ak_k51.2.1 ak_t51 ak_k51.2.2.2.2.1 (fun _ => az_pre 57 []) (az_hint ak_t51) (az_leaf ak_k51 ak_h51 (some ak_d51_0.2.2.1) (az_hb 0) (az_rb 0)) 4120 ak_d51_0.2.1.1 ak_d51_0.2.1.2.1 ak_d51_0.2.1.2.2.1 (az_hc ak_k51 (3, 11, (0, 0, 0), szc_57) ak_d51_0) = true := by decide +kernel
set_option maxRecDepth 100000 in
theorem ak_v51 {X : List (List Value)} (hX : az_X X) : az_Valid X ak_k51 := az_validS sz_pkall_szP (q := (3, 11, (0, 0, 0), szc_57)) hX (tb := ak_t51) (List.forall_mem_cons.mpr ⟨ak_v50 hX, fun _ h => by cases h⟩) rfl (hds := ak_h51) (by decide +kernel) (List.forall_mem_cons.mpr ⟨by decide +kernel, fun _ h => by cases h⟩) (fun _ hV => ⟨_, hV, rfl, _, fun _ h => h, ak_e51⟩) (List.forall_mem_cons.mpr ⟨fun _ hV => ⟨_, hV, rfl, _, fun _ h => h, ak_e51_0⟩, fun _ h => by cases h⟩)
/-- .day -/
def ak_k52 : azCon := (16, 7, ([], [], [], [(1, 4, [])], [], [], false), [(some (some (0, 0, [(0, 1)])), [(0, (0, 0, []), (0, 0, []))], [((-2147483648), 2147483647)], [], [(8, (1, []), (0, 0, []))])], [(100, 0), (101, 0), (102, 0), (103, 0), (104, 0), (105, 0), (106, 1), (107, 0), (108, 0), (109, 0), (110, 0), (111, 0), (112, 0), (113, 1), (114, 0), (115, 0), (116, 0), (117, 0), (118, 0), (119, 0), (120, 1), (121, 0), (122, 0), (123, 0), (124, 0), (125, 0), (126, 0), (18, 2), (33, 3), (38, 0), (51, 2), (52, 0), (53, 3), (53, 4), (57, 1), (58, 0), (59, 0), (6, 0), (60, 0), (61, 0), (62, 0), (63, 0), (64, 1), (65, 0), (66, 0), (67, 0), (68, 0), (69, 0), (7, 0), (70, 0), (71, 1), (72, 0), (73, 0), (74, 0), (75, 0), (76, 0), (77, 0), (78, 1), (79, 0), (8, 2), (8, 3), (80, 0), (81, 0), (82, 0), (83, 0), (84, 0), (85, 1), (86, 0), (87, 0), (88, 0), (89, 0), (90, 0), (91, 0), (92, 1), (93, 0), (94, 0), (95, 0), (96, 0), (97, 0), (98, 0), (99, 1)], (0, 0))
def ak_t52 : List azCon := [ak_k23, ak_k25, ak_k48, ak_k51]
def ak_h52 : List azHd := []
theorem ak_e52 : az_ex szP az_inl ak_k52.2.1 ak_t52 ak_k52.2.2.2.2.1 (fun _ => az_pre 16 []) (az_hint ak_t52) (az_leaf ak_k52 ak_h52 none (az_hb 0) (az_rb 0)) 6670 ak_k52.2.2.1.1 ak_k52.2.2.1.2.1 ak_k52.2.2.1.2.2.1 (az_hc ak_k52 (4, 11, (0, 0, 0), szc_16) (0, ak_k52.2.2.1, (0, []), (0, 0))) = true := by decide +kernel
set_option maxRecDepth 100000 in
theorem ak_v52 {X : List (List Value)} (hX : az_X X) : az_Valid X ak_k52 := az_validS sz_pkall_szP (q := (4, 11, (0, 0, 0), szc_16)) hX (tb := ak_t52) (List.forall_mem_cons.mpr ⟨ak_v23 hX, List.forall_mem_cons.mpr ⟨ak_v25 hX, List.forall_mem_cons.mpr ⟨ak_v48 hX, List.forall_mem_cons.mpr ⟨ak_v51 hX, fun _ h => by cases h⟩⟩⟩⟩) rfl (hds := ak_h52) (by decide +kernel) (fun _ h => by cases h) (fun _ hV => ⟨_, hV, rfl, _, fun _ h => h, ak_e52⟩) (fun _ h => by cases h)
/-- $Held.takeLoop -/
def ak_k53 : azCon := (216, 0, ([], [], [], [(1, 5, []), (1, 124, [])], [], [], false), [(some none, [], [], [], [])], [(1, 1), (2, 0), (3, 0), (4, 0), (5, 0)], (0, 0))
def ak_t53 : List azCon := []
def ak_h53 : List azHd := []
theorem ak_e53 : az_ex szP az_inl ak_k53.2.1 ak_t53 ak_k53.2.2.2.2.1 (fun _ => az_pre 216 []) (az_hint ak_t53) (az_leaf ak_k53 ak_h53 none (az_hb 0) (az_rb 0)) 2110 ak_k53.2.2.1.1 ak_k53.2.2.1.2.1 ak_k53.2.2.1.2.2.1 (az_hc ak_k53 (2, 4, (0, 0, 0), szc_216) (0, ak_k53.2.2.1, (0, []), (0, 0))) = true := by decide +kernel
set_option maxRecDepth 100000 in
theorem ak_v53 {X : List (List Value)} (hX : az_X X) : az_Valid X ak_k53 := az_validS sz_pkall_szP (q := (2, 4, (0, 0, 0), szc_216)) hX (tb := ak_t53) (fun _ h => by cases h) rfl (hds := ak_h53) (by decide +kernel) (fun _ h => by cases h) (fun _ hV => ⟨_, hV, rfl, _, fun _ h => h, ak_e53⟩) (fun _ h => by cases h)
/-- $Held.take -/
def ak_k54 : azCon := (215, 1, ([], [], [], [(1, 5, []), (1, 124, [])], [], [], false), [(some none, [], [], [], [])], [(1, 1), (2, 0), (3, 0), (4, 0), (5, 0), (6, 0), (7, 0)], (0, 0))
def ak_t54 : List azCon := [ak_k53]
def ak_h54 : List azHd := []
theorem ak_e54 : az_ex szP az_inl ak_k54.2.1 ak_t54 ak_k54.2.2.2.2.1 (fun _ => az_pre 215 []) (az_hint ak_t54) (az_leaf ak_k54 ak_h54 none (az_hb 0) (az_rb 0)) 1720 ak_k54.2.2.1.1 ak_k54.2.2.1.2.1 ak_k54.2.2.1.2.2.1 (az_hc ak_k54 (2, 4, (0, 0, 0), szc_215) (0, ak_k54.2.2.1, (0, []), (0, 0))) = true := by decide +kernel
set_option maxRecDepth 100000 in
theorem ak_v54 {X : List (List Value)} (hX : az_X X) : az_Valid X ak_k54 := az_validS sz_pkall_szP (q := (2, 4, (0, 0, 0), szc_215)) hX (tb := ak_t54) (List.forall_mem_cons.mpr ⟨ak_v53 hX, fun _ h => by cases h⟩) rfl (hds := ak_h54) (by decide +kernel) (fun _ h => by cases h) (fun _ hV => ⟨_, hV, rfl, _, fun _ h => h, ak_e54⟩) (fun _ h => by cases h)
/-- $Held.takeLoop -/
def ak_k55 : azCon := (216, 0, ([], [], [], [(1, 5, []), (1, 117, [])], [], [], false), [(some none, [], [], [], [])], [(1, 1), (2, 0), (3, 0), (4, 0), (5, 0)], (0, 0))
def ak_t55 : List azCon := []
def ak_h55 : List azHd := []
theorem ak_e55 : az_ex szP az_inl ak_k55.2.1 ak_t55 ak_k55.2.2.2.2.1 (fun _ => az_pre 216 []) (az_hint ak_t55) (az_leaf ak_k55 ak_h55 none (az_hb 0) (az_rb 0)) 2110 ak_k55.2.2.1.1 ak_k55.2.2.1.2.1 ak_k55.2.2.1.2.2.1 (az_hc ak_k55 (2, 4, (0, 0, 0), szc_216) (0, ak_k55.2.2.1, (0, []), (0, 0))) = true := by decide +kernel
set_option maxRecDepth 100000 in
theorem ak_v55 {X : List (List Value)} (hX : az_X X) : az_Valid X ak_k55 := az_validS sz_pkall_szP (q := (2, 4, (0, 0, 0), szc_216)) hX (tb := ak_t55) (fun _ h => by cases h) rfl (hds := ak_h55) (by decide +kernel) (fun _ h => by cases h) (fun _ hV => ⟨_, hV, rfl, _, fun _ h => h, ak_e55⟩) (fun _ h => by cases h)
/-- $Held.take -/
def ak_k56 : azCon := (215, 1, ([], [], [], [(1, 5, []), (1, 117, [])], [], [], false), [(some none, [], [], [], [])], [(1, 1), (2, 0), (3, 0), (4, 0), (5, 0), (6, 0), (7, 0)], (0, 0))
def ak_t56 : List azCon := [ak_k55]
def ak_h56 : List azHd := []
theorem ak_e56 : az_ex szP az_inl ak_k56.2.1 ak_t56 ak_k56.2.2.2.2.1 (fun _ => az_pre 215 []) (az_hint ak_t56) (az_leaf ak_k56 ak_h56 none (az_hb 0) (az_rb 0)) 1720 ak_k56.2.2.1.1 ak_k56.2.2.1.2.1 ak_k56.2.2.1.2.2.1 (az_hc ak_k56 (2, 4, (0, 0, 0), szc_215) (0, ak_k56.2.2.1, (0, []), (0, 0))) = true := by decide +kernel
set_option maxRecDepth 100000 in
theorem ak_v56 {X : List (List Value)} (hX : az_X X) : az_Valid X ak_k56 := az_validS sz_pkall_szP (q := (2, 4, (0, 0, 0), szc_215)) hX (tb := ak_t56) (List.forall_mem_cons.mpr ⟨ak_v55 hX, fun _ h => by cases h⟩) rfl (hds := ak_h56) (by decide +kernel) (fun _ h => by cases h) (fun _ hV => ⟨_, hV, rfl, _, fun _ h => h, ak_e56⟩) (fun _ h => by cases h)
/-- $Held.takeLoop -/
def ak_k57 : azCon := (216, 0, ([], [], [], [(1, 5, []), (1, 110, [])], [], [], false), [(some none, [], [], [], [])], [(1, 1), (2, 0), (3, 0), (4, 0), (5, 0)], (0, 0))
def ak_t57 : List azCon := []
def ak_h57 : List azHd := []
theorem ak_e57 : az_ex szP az_inl ak_k57.2.1 ak_t57 ak_k57.2.2.2.2.1 (fun _ => az_pre 216 []) (az_hint ak_t57) (az_leaf ak_k57 ak_h57 none (az_hb 0) (az_rb 0)) 2110 ak_k57.2.2.1.1 ak_k57.2.2.1.2.1 ak_k57.2.2.1.2.2.1 (az_hc ak_k57 (2, 4, (0, 0, 0), szc_216) (0, ak_k57.2.2.1, (0, []), (0, 0))) = true := by decide +kernel
set_option maxRecDepth 100000 in
theorem ak_v57 {X : List (List Value)} (hX : az_X X) : az_Valid X ak_k57 := az_validS sz_pkall_szP (q := (2, 4, (0, 0, 0), szc_216)) hX (tb := ak_t57) (fun _ h => by cases h) rfl (hds := ak_h57) (by decide +kernel) (fun _ h => by cases h) (fun _ hV => ⟨_, hV, rfl, _, fun _ h => h, ak_e57⟩) (fun _ h => by cases h)
/-- $Held.take -/
def ak_k58 : azCon := (215, 1, ([], [], [], [(1, 5, []), (1, 110, [])], [], [], false), [(some none, [], [], [], [])], [(1, 1), (2, 0), (3, 0), (4, 0), (5, 0), (6, 0), (7, 0)], (0, 0))
def ak_t58 : List azCon := [ak_k57]
def ak_h58 : List azHd := []
theorem ak_e58 : az_ex szP az_inl ak_k58.2.1 ak_t58 ak_k58.2.2.2.2.1 (fun _ => az_pre 215 []) (az_hint ak_t58) (az_leaf ak_k58 ak_h58 none (az_hb 0) (az_rb 0)) 1720 ak_k58.2.2.1.1 ak_k58.2.2.1.2.1 ak_k58.2.2.1.2.2.1 (az_hc ak_k58 (2, 4, (0, 0, 0), szc_215) (0, ak_k58.2.2.1, (0, []), (0, 0))) = true := by decide +kernel
set_option maxRecDepth 100000 in
theorem ak_v58 {X : List (List Value)} (hX : az_X X) : az_Valid X ak_k58 := az_validS sz_pkall_szP (q := (2, 4, (0, 0, 0), szc_215)) hX (tb := ak_t58) (List.forall_mem_cons.mpr ⟨ak_v57 hX, fun _ h => by cases h⟩) rfl (hds := ak_h58) (by decide +kernel) (fun _ h => by cases h) (fun _ hV => ⟨_, hV, rfl, _, fun _ h => h, ak_e58⟩) (fun _ h => by cases h)
/-- $Held.takeLoop -/
def ak_k59 : azCon := (216, 0, ([], [], [], [(1, 5, []), (1, 103, [])], [], [], false), [(some none, [], [], [], [])], [(1, 1), (2, 0), (3, 0), (4, 0), (5, 0)], (0, 0))
def ak_t59 : List azCon := []
def ak_h59 : List azHd := []
theorem ak_e59 : az_ex szP az_inl ak_k59.2.1 ak_t59 ak_k59.2.2.2.2.1 (fun _ => az_pre 216 []) (az_hint ak_t59) (az_leaf ak_k59 ak_h59 none (az_hb 0) (az_rb 0)) 2110 ak_k59.2.2.1.1 ak_k59.2.2.1.2.1 ak_k59.2.2.1.2.2.1 (az_hc ak_k59 (2, 4, (0, 0, 0), szc_216) (0, ak_k59.2.2.1, (0, []), (0, 0))) = true := by decide +kernel
set_option maxRecDepth 100000 in
theorem ak_v59 {X : List (List Value)} (hX : az_X X) : az_Valid X ak_k59 := az_validS sz_pkall_szP (q := (2, 4, (0, 0, 0), szc_216)) hX (tb := ak_t59) (fun _ h => by cases h) rfl (hds := ak_h59) (by decide +kernel) (fun _ h => by cases h) (fun _ hV => ⟨_, hV, rfl, _, fun _ h => h, ak_e59⟩) (fun _ h => by cases h)
/-- $Held.take -/
def ak_k60 : azCon := (215, 1, ([], [], [], [(1, 5, []), (1, 103, [])], [], [], false), [(some none, [], [], [], [])], [(1, 1), (2, 0), (3, 0), (4, 0), (5, 0), (6, 0), (7, 0)], (0, 0))
def ak_t60 : List azCon := [ak_k59]
def ak_h60 : List azHd := []
theorem ak_e60 : az_ex szP az_inl ak_k60.2.1 ak_t60 ak_k60.2.2.2.2.1 (fun _ => az_pre 215 []) (az_hint ak_t60) (az_leaf ak_k60 ak_h60 none (az_hb 0) (az_rb 0)) 1720 ak_k60.2.2.1.1 ak_k60.2.2.1.2.1 ak_k60.2.2.1.2.2.1 (az_hc ak_k60 (2, 4, (0, 0, 0), szc_215) (0, ak_k60.2.2.1, (0, []), (0, 0))) = true := by decide +kernel
set_option maxRecDepth 100000 in
theorem ak_v60 {X : List (List Value)} (hX : az_X X) : az_Valid X ak_k60 := az_validS sz_pkall_szP (q := (2, 4, (0, 0, 0), szc_215)) hX (tb := ak_t60) (List.forall_mem_cons.mpr ⟨ak_v59 hX, fun _ h => by cases h⟩) rfl (hds := ak_h60) (by decide +kernel) (fun _ h => by cases h) (fun _ hV => ⟨_, hV, rfl, _, fun _ h => h, ak_e60⟩) (fun _ h => by cases h)
/-- $Held.takeLoop -/
def ak_k61 : azCon := (216, 0, ([], [], [], [(1, 5, []), (1, 96, [])], [], [], false), [(some none, [], [], [], [])], [(1, 1), (2, 0), (3, 0), (4, 0), (5, 0)], (0, 0))
def ak_t61 : List azCon := []
def ak_h61 : List azHd := []
theorem ak_e61 : az_ex szP az_inl ak_k61.2.1 ak_t61 ak_k61.2.2.2.2.1 (fun _ => az_pre 216 []) (az_hint ak_t61) (az_leaf ak_k61 ak_h61 none (az_hb 0) (az_rb 0)) 2110 ak_k61.2.2.1.1 ak_k61.2.2.1.2.1 ak_k61.2.2.1.2.2.1 (az_hc ak_k61 (2, 4, (0, 0, 0), szc_216) (0, ak_k61.2.2.1, (0, []), (0, 0))) = true := by decide +kernel
set_option maxRecDepth 100000 in
theorem ak_v61 {X : List (List Value)} (hX : az_X X) : az_Valid X ak_k61 := az_validS sz_pkall_szP (q := (2, 4, (0, 0, 0), szc_216)) hX (tb := ak_t61) (fun _ h => by cases h) rfl (hds := ak_h61) (by decide +kernel) (fun _ h => by cases h) (fun _ hV => ⟨_, hV, rfl, _, fun _ h => h, ak_e61⟩) (fun _ h => by cases h)
/-- $Held.take -/
def ak_k62 : azCon := (215, 1, ([], [], [], [(1, 5, []), (1, 96, [])], [], [], false), [(some none, [], [], [], [])], [(1, 1), (2, 0), (3, 0), (4, 0), (5, 0), (6, 0), (7, 0)], (0, 0))
def ak_t62 : List azCon := [ak_k61]
def ak_h62 : List azHd := []
theorem ak_e62 : az_ex szP az_inl ak_k62.2.1 ak_t62 ak_k62.2.2.2.2.1 (fun _ => az_pre 215 []) (az_hint ak_t62) (az_leaf ak_k62 ak_h62 none (az_hb 0) (az_rb 0)) 1720 ak_k62.2.2.1.1 ak_k62.2.2.1.2.1 ak_k62.2.2.1.2.2.1 (az_hc ak_k62 (2, 4, (0, 0, 0), szc_215) (0, ak_k62.2.2.1, (0, []), (0, 0))) = true := by decide +kernel
set_option maxRecDepth 100000 in
theorem ak_v62 {X : List (List Value)} (hX : az_X X) : az_Valid X ak_k62 := az_validS sz_pkall_szP (q := (2, 4, (0, 0, 0), szc_215)) hX (tb := ak_t62) (List.forall_mem_cons.mpr ⟨ak_v61 hX, fun _ h => by cases h⟩) rfl (hds := ak_h62) (by decide +kernel) (fun _ h => by cases h) (fun _ hV => ⟨_, hV, rfl, _, fun _ h => h, ak_e62⟩) (fun _ h => by cases h)
/-- $Held.takeLoop -/
def ak_k63 : azCon := (216, 0, ([], [], [], [(1, 5, []), (1, 89, [])], [], [], false), [(some none, [], [], [], [])], [(1, 1), (2, 0), (3, 0), (4, 0), (5, 0)], (0, 0))
def ak_t63 : List azCon := []
def ak_h63 : List azHd := []
theorem ak_e63 : az_ex szP az_inl ak_k63.2.1 ak_t63 ak_k63.2.2.2.2.1 (fun _ => az_pre 216 []) (az_hint ak_t63) (az_leaf ak_k63 ak_h63 none (az_hb 0) (az_rb 0)) 2110 ak_k63.2.2.1.1 ak_k63.2.2.1.2.1 ak_k63.2.2.1.2.2.1 (az_hc ak_k63 (2, 4, (0, 0, 0), szc_216) (0, ak_k63.2.2.1, (0, []), (0, 0))) = true := by decide +kernel
set_option maxRecDepth 100000 in
theorem ak_v63 {X : List (List Value)} (hX : az_X X) : az_Valid X ak_k63 := az_validS sz_pkall_szP (q := (2, 4, (0, 0, 0), szc_216)) hX (tb := ak_t63) (fun _ h => by cases h) rfl (hds := ak_h63) (by decide +kernel) (fun _ h => by cases h) (fun _ hV => ⟨_, hV, rfl, _, fun _ h => h, ak_e63⟩) (fun _ h => by cases h)
/-- $Held.take -/
def ak_k64 : azCon := (215, 1, ([], [], [], [(1, 5, []), (1, 89, [])], [], [], false), [(some none, [], [], [], [])], [(1, 1), (2, 0), (3, 0), (4, 0), (5, 0), (6, 0), (7, 0)], (0, 0))
def ak_t64 : List azCon := [ak_k63]
def ak_h64 : List azHd := []
theorem ak_e64 : az_ex szP az_inl ak_k64.2.1 ak_t64 ak_k64.2.2.2.2.1 (fun _ => az_pre 215 []) (az_hint ak_t64) (az_leaf ak_k64 ak_h64 none (az_hb 0) (az_rb 0)) 1720 ak_k64.2.2.1.1 ak_k64.2.2.1.2.1 ak_k64.2.2.1.2.2.1 (az_hc ak_k64 (2, 4, (0, 0, 0), szc_215) (0, ak_k64.2.2.1, (0, []), (0, 0))) = true := by decide +kernel
set_option maxRecDepth 100000 in
theorem ak_v64 {X : List (List Value)} (hX : az_X X) : az_Valid X ak_k64 := az_validS sz_pkall_szP (q := (2, 4, (0, 0, 0), szc_215)) hX (tb := ak_t64) (List.forall_mem_cons.mpr ⟨ak_v63 hX, fun _ h => by cases h⟩) rfl (hds := ak_h64) (by decide +kernel) (fun _ h => by cases h) (fun _ hV => ⟨_, hV, rfl, _, fun _ h => h, ak_e64⟩) (fun _ h => by cases h)
/-- $Held.takeLoop -/
def ak_k65 : azCon := (216, 0, ([], [], [], [(1, 5, []), (1, 82, [])], [], [], false), [(some none, [], [], [], [])], [(1, 1), (2, 0), (3, 0), (4, 0), (5, 0)], (0, 0))
def ak_t65 : List azCon := []
def ak_h65 : List azHd := []
theorem ak_e65 : az_ex szP az_inl ak_k65.2.1 ak_t65 ak_k65.2.2.2.2.1 (fun _ => az_pre 216 []) (az_hint ak_t65) (az_leaf ak_k65 ak_h65 none (az_hb 0) (az_rb 0)) 2110 ak_k65.2.2.1.1 ak_k65.2.2.1.2.1 ak_k65.2.2.1.2.2.1 (az_hc ak_k65 (2, 4, (0, 0, 0), szc_216) (0, ak_k65.2.2.1, (0, []), (0, 0))) = true := by decide +kernel
set_option maxRecDepth 100000 in
theorem ak_v65 {X : List (List Value)} (hX : az_X X) : az_Valid X ak_k65 := az_validS sz_pkall_szP (q := (2, 4, (0, 0, 0), szc_216)) hX (tb := ak_t65) (fun _ h => by cases h) rfl (hds := ak_h65) (by decide +kernel) (fun _ h => by cases h) (fun _ hV => ⟨_, hV, rfl, _, fun _ h => h, ak_e65⟩) (fun _ h => by cases h)
/-- $Held.take -/
def ak_k66 : azCon := (215, 1, ([], [], [], [(1, 5, []), (1, 82, [])], [], [], false), [(some none, [], [], [], [])], [(1, 1), (2, 0), (3, 0), (4, 0), (5, 0), (6, 0), (7, 0)], (0, 0))
def ak_t66 : List azCon := [ak_k65]
def ak_h66 : List azHd := []
theorem ak_e66 : az_ex szP az_inl ak_k66.2.1 ak_t66 ak_k66.2.2.2.2.1 (fun _ => az_pre 215 []) (az_hint ak_t66) (az_leaf ak_k66 ak_h66 none (az_hb 0) (az_rb 0)) 1720 ak_k66.2.2.1.1 ak_k66.2.2.1.2.1 ak_k66.2.2.1.2.2.1 (az_hc ak_k66 (2, 4, (0, 0, 0), szc_215) (0, ak_k66.2.2.1, (0, []), (0, 0))) = true := by decide +kernel
set_option maxRecDepth 100000 in
theorem ak_v66 {X : List (List Value)} (hX : az_X X) : az_Valid X ak_k66 := az_validS sz_pkall_szP (q := (2, 4, (0, 0, 0), szc_215)) hX (tb := ak_t66) (List.forall_mem_cons.mpr ⟨ak_v65 hX, fun _ h => by cases h⟩) rfl (hds := ak_h66) (by decide +kernel) (fun _ h => by cases h) (fun _ hV => ⟨_, hV, rfl, _, fun _ h => h, ak_e66⟩) (fun _ h => by cases h)
/-- $Held.takeLoop -/
def ak_k67 : azCon := (216, 0, ([], [], [], [(1, 5, []), (1, 75, [])], [], [], false), [(some none, [], [], [], [])], [(1, 1), (2, 0), (3, 0), (4, 0), (5, 0)], (0, 0))
def ak_t67 : List azCon := []
def ak_h67 : List azHd := []
theorem ak_e67 : az_ex szP az_inl ak_k67.2.1 ak_t67 ak_k67.2.2.2.2.1 (fun _ => az_pre 216 []) (az_hint ak_t67) (az_leaf ak_k67 ak_h67 none (az_hb 0) (az_rb 0)) 2110 ak_k67.2.2.1.1 ak_k67.2.2.1.2.1 ak_k67.2.2.1.2.2.1 (az_hc ak_k67 (2, 4, (0, 0, 0), szc_216) (0, ak_k67.2.2.1, (0, []), (0, 0))) = true := by decide +kernel
set_option maxRecDepth 100000 in
theorem ak_v67 {X : List (List Value)} (hX : az_X X) : az_Valid X ak_k67 := az_validS sz_pkall_szP (q := (2, 4, (0, 0, 0), szc_216)) hX (tb := ak_t67) (fun _ h => by cases h) rfl (hds := ak_h67) (by decide +kernel) (fun _ h => by cases h) (fun _ hV => ⟨_, hV, rfl, _, fun _ h => h, ak_e67⟩) (fun _ h => by cases h)
/-- $Held.take -/
def ak_k68 : azCon := (215, 1, ([], [], [], [(1, 5, []), (1, 75, [])], [], [], false), [(some none, [], [], [], [])], [(1, 1), (2, 0), (3, 0), (4, 0), (5, 0), (6, 0), (7, 0)], (0, 0))
def ak_t68 : List azCon := [ak_k67]
def ak_h68 : List azHd := []
theorem ak_e68 : az_ex szP az_inl ak_k68.2.1 ak_t68 ak_k68.2.2.2.2.1 (fun _ => az_pre 215 []) (az_hint ak_t68) (az_leaf ak_k68 ak_h68 none (az_hb 0) (az_rb 0)) 1720 ak_k68.2.2.1.1 ak_k68.2.2.1.2.1 ak_k68.2.2.1.2.2.1 (az_hc ak_k68 (2, 4, (0, 0, 0), szc_215) (0, ak_k68.2.2.1, (0, []), (0, 0))) = true := by decide +kernel
set_option maxRecDepth 100000 in
theorem ak_v68 {X : List (List Value)} (hX : az_X X) : az_Valid X ak_k68 := az_validS sz_pkall_szP (q := (2, 4, (0, 0, 0), szc_215)) hX (tb := ak_t68) (List.forall_mem_cons.mpr ⟨ak_v67 hX, fun _ h => by cases h⟩) rfl (hds := ak_h68) (by decide +kernel) (fun _ h => by cases h) (fun _ hV => ⟨_, hV, rfl, _, fun _ h => h, ak_e68⟩) (fun _ h => by cases h)
/-- $Held.takeLoop -/
def ak_k69 : azCon := (216, 0, ([], [], [], [(1, 5, []), (1, 68, [])], [], [], false), [(some none, [], [], [], [])], [(1, 1), (2, 0), (3, 0), (4, 0), (5, 0)], (0, 0))
def ak_t69 : List azCon := []
def ak_h69 : List azHd := []
theorem ak_e69 : az_ex szP az_inl ak_k69.2.1 ak_t69 ak_k69.2.2.2.2.1 (fun _ => az_pre 216 []) (az_hint ak_t69) (az_leaf ak_k69 ak_h69 none (az_hb 0) (az_rb 0)) 2110 ak_k69.2.2.1.1 ak_k69.2.2.1.2.1 ak_k69.2.2.1.2.2.1 (az_hc ak_k69 (2, 4, (0, 0, 0), szc_216) (0, ak_k69.2.2.1, (0, []), (0, 0))) = true := by decide +kernel
set_option maxRecDepth 100000 in
theorem ak_v69 {X : List (List Value)} (hX : az_X X) : az_Valid X ak_k69 := az_validS sz_pkall_szP (q := (2, 4, (0, 0, 0), szc_216)) hX (tb := ak_t69) (fun _ h => by cases h) rfl (hds := ak_h69) (by decide +kernel) (fun _ h => by cases h) (fun _ hV => ⟨_, hV, rfl, _, fun _ h => h, ak_e69⟩) (fun _ h => by cases h)
/-- $Held.take -/
def ak_k70 : azCon := (215, 1, ([], [], [], [(1, 5, []), (1, 68, [])], [], [], false), [(some none, [], [], [], [])], [(1, 1), (2, 0), (3, 0), (4, 0), (5, 0), (6, 0), (7, 0)], (0, 0))
def ak_t70 : List azCon := [ak_k69]
def ak_h70 : List azHd := []
theorem ak_e70 : az_ex szP az_inl ak_k70.2.1 ak_t70 ak_k70.2.2.2.2.1 (fun _ => az_pre 215 []) (az_hint ak_t70) (az_leaf ak_k70 ak_h70 none (az_hb 0) (az_rb 0)) 1720 ak_k70.2.2.1.1 ak_k70.2.2.1.2.1 ak_k70.2.2.1.2.2.1 (az_hc ak_k70 (2, 4, (0, 0, 0), szc_215) (0, ak_k70.2.2.1, (0, []), (0, 0))) = true := by decide +kernel
set_option maxRecDepth 100000 in
theorem ak_v70 {X : List (List Value)} (hX : az_X X) : az_Valid X ak_k70 := az_validS sz_pkall_szP (q := (2, 4, (0, 0, 0), szc_215)) hX (tb := ak_t70) (List.forall_mem_cons.mpr ⟨ak_v69 hX, fun _ h => by cases h⟩) rfl (hds := ak_h70) (by decide +kernel) (fun _ h => by cases h) (fun _ hV => ⟨_, hV, rfl, _, fun _ h => h, ak_e70⟩) (fun _ h => by cases h)
/-- $Held.takeLoop -/
def ak_k71 : azCon := (216, 0, ([], [], [], [(1, 5, []), (1, 61, [])], [], [], false), [(some none, [], [], [], [])], [(1, 1), (2, 0), (3, 0), (4, 0), (5, 0)], (0, 0))
def ak_t71 : List azCon := []
def ak_h71 : List azHd := []
theorem ak_e71 : az_ex szP az_inl ak_k71.2.1 ak_t71 ak_k71.2.2.2.2.1 (fun _ => az_pre 216 []) (az_hint ak_t71) (az_leaf ak_k71 ak_h71 none (az_hb 0) (az_rb 0)) 2110 ak_k71.2.2.1.1 ak_k71.2.2.1.2.1 ak_k71.2.2.1.2.2.1 (az_hc ak_k71 (2, 4, (0, 0, 0), szc_216) (0, ak_k71.2.2.1, (0, []), (0, 0))) = true := by decide +kernel
set_option maxRecDepth 100000 in
theorem ak_v71 {X : List (List Value)} (hX : az_X X) : az_Valid X ak_k71 := az_validS sz_pkall_szP (q := (2, 4, (0, 0, 0), szc_216)) hX (tb := ak_t71) (fun _ h => by cases h) rfl (hds := ak_h71) (by decide +kernel) (fun _ h => by cases h) (fun _ hV => ⟨_, hV, rfl, _, fun _ h => h, ak_e71⟩) (fun _ h => by cases h)
/-- $Held.take -/
def ak_k72 : azCon := (215, 1, ([], [], [], [(1, 5, []), (1, 61, [])], [], [], false), [(some none, [], [], [], [])], [(1, 1), (2, 0), (3, 0), (4, 0), (5, 0), (6, 0), (7, 0)], (0, 0))
def ak_t72 : List azCon := [ak_k71]
def ak_h72 : List azHd := []
theorem ak_e72 : az_ex szP az_inl ak_k72.2.1 ak_t72 ak_k72.2.2.2.2.1 (fun _ => az_pre 215 []) (az_hint ak_t72) (az_leaf ak_k72 ak_h72 none (az_hb 0) (az_rb 0)) 1720 ak_k72.2.2.1.1 ak_k72.2.2.1.2.1 ak_k72.2.2.1.2.2.1 (az_hc ak_k72 (2, 4, (0, 0, 0), szc_215) (0, ak_k72.2.2.1, (0, []), (0, 0))) = true := by decide +kernel
set_option maxRecDepth 100000 in
theorem ak_v72 {X : List (List Value)} (hX : az_X X) : az_Valid X ak_k72 := az_validS sz_pkall_szP (q := (2, 4, (0, 0, 0), szc_215)) hX (tb := ak_t72) (List.forall_mem_cons.mpr ⟨ak_v71 hX, fun _ h => by cases h⟩) rfl (hds := ak_h72) (by decide +kernel) (fun _ h => by cases h) (fun _ hV => ⟨_, hV, rfl, _, fun _ h => h, ak_e72⟩) (fun _ h => by cases h)
/-- $History.takeBack -/
def ak_k73 : azCon := (226, 2, ([], [], [], [(1, 57, [])], [], [], false), [(some none, [], [], [], [])], [(1, 1), (2, 0), (3, 0), (4, 0), (5, 0), (53, 3), (53, 4), (6, 0), (7, 0)], (0, 0))
def ak_t73 : List azCon := [ak_k54, ak_k56, ak_k58, ak_k60, ak_k62, ak_k64, ak_k66, ak_k68, ak_k70, ak_k72]
def ak_h73 : List azHd := []
theorem ak_e73 : az_ex szP az_inl ak_k73.2.1 ak_t73 ak_k73.2.2.2.2.1 (fun _ => az_pre 226 []) (az_hint ak_t73) (az_leaf ak_k73 ak_h73 none (az_hb 0) (az_rb 0)) 4450 ak_k73.2.2.1.1 ak_k73.2.2.1.2.1 ak_k73.2.2.1.2.2.1 (az_hc ak_k73 (1, 5, (0, 0, 0), szc_226) (0, ak_k73.2.2.1, (0, []), (0, 0))) = true := by decide +kernel
set_option maxRecDepth 100000 in
theorem ak_v73 {X : List (List Value)} (hX : az_X X) : az_Valid X ak_k73 := az_validS sz_pkall_szP (q := (1, 5, (0, 0, 0), szc_226)) hX (tb := ak_t73) (List.forall_mem_cons.mpr ⟨ak_v54 hX, List.forall_mem_cons.mpr ⟨ak_v56 hX, List.forall_mem_cons.mpr ⟨ak_v58 hX, List.forall_mem_cons.mpr ⟨ak_v60 hX, List.forall_mem_cons.mpr ⟨ak_v62 hX, List.forall_mem_cons.mpr ⟨ak_v64 hX, List.forall_mem_cons.mpr ⟨ak_v66 hX, List.forall_mem_cons.mpr ⟨ak_v68 hX, List.forall_mem_cons.mpr ⟨ak_v70 hX, List.forall_mem_cons.mpr ⟨ak_v72 hX, fun _ h => by cases h⟩⟩⟩⟩⟩⟩⟩⟩⟩⟩) rfl (hds := ak_h73) (by decide +kernel) (fun _ h => by cases h) (fun _ hV => ⟨_, hV, rfl, _, fun _ h => h, ak_e73⟩) (fun _ h => by cases h)
/-- .undo -/
def ak_k74 : azCon := (17, 3, ([], [], [], [(1, 4, [])], [], [], false), [(some (some (0, 0, [(0, 1)])), [(0, (0, 0, []), (0, 0, []))], [((-1), 9)], [], [])], [(1, 1), (18, 2), (2, 0), (3, 0), (33, 3), (4, 0), (5, 0), (53, 3), (53, 4), (6, 0), (7, 0)], (0, 0))
def ak_t74 : List azCon := [ak_k73]
def ak_h74 : List azHd := []
theorem ak_e74 : az_ex szP az_inl ak_k74.2.1 ak_t74 ak_k74.2.2.2.2.1 (fun _ => az_pre 17 []) (az_hint ak_t74) (az_leaf ak_k74 ak_h74 none (az_hb 0) (az_rb 0)) 1900 ak_k74.2.2.1.1 ak_k74.2.2.1.2.1 ak_k74.2.2.1.2.2.1 (az_hc ak_k74 (1, 11, (0, 0, 0), szc_17) (0, ak_k74.2.2.1, (0, []), (0, 0))) = true := by decide +kernel
set_option maxRecDepth 100000 in
theorem ak_v74 {X : List (List Value)} (hX : az_X X) : az_Valid X ak_k74 := az_validS sz_pkall_szP (q := (1, 11, (0, 0, 0), szc_17)) hX (tb := ak_t74) (List.forall_mem_cons.mpr ⟨ak_v73 hX, fun _ h => by cases h⟩) rfl (hds := ak_h74) (by decide +kernel) (fun _ h => by cases h) (fun _ hV => ⟨_, hV, rfl, _, fun _ h => h, ak_e74⟩) (fun _ h => by cases h)
/-- $Bounds.findSort -/
def ak_k75 : azCon := (191, 1, ([(0, (0, 0, []), (0, 0, []))], [(0, 9)], [], [(1, 22, []), (0, 0, [(0, 1)])], [], [], false), [(some none, [(0, (0, 0, []), (0, 0, []))], [(0, 9)], [], [])], [(19, 0), (20, 0), (21, 0)], (0, 0))
def ak_t75 : List azCon := []
def ak_h75 : List azHd := []
theorem ak_e75 : az_ex szP az_inl ak_k75.2.1 ak_t75 ak_k75.2.2.2.2.1 (fun _ => az_pre 191 []) (az_hint ak_t75) (az_leaf ak_k75 ak_h75 none (az_hb 1) (az_rb 1)) 30190 ak_k75.2.2.1.1 ak_k75.2.2.1.2.1 ak_k75.2.2.1.2.2.1 (az_hc ak_k75 (2, 2, (0, 0, 0), szc_191) (0, ak_k75.2.2.1, (0, []), (0, 0))) = true := by decide +kernel
set_option maxRecDepth 100000 in
theorem ak_v75 {X : List (List Value)} (hX : az_X X) : az_Valid X ak_k75 := az_validS sz_pkall_szP (q := (2, 2, (0, 0, 0), szc_191)) hX (tb := ak_t75) (fun _ h => by cases h) rfl (hds := ak_h75) (by decide +kernel) (fun _ h => by cases h) (fun _ hV => ⟨_, hV, rfl, _, fun _ h => h, ak_e75⟩) (fun _ h => by cases h)
/-- $Bounds.findAddressBy -/
def ak_k76 : azCon := (193, 0, ([(0, (0, 0, []), (0, 0, [])), (0, (0, 0, []), (0, 0, []))], [(0, 0), (0, 9)], [], [(1, 22, []), (0, 0, [(0, 1)]), (0, 0, [(1, 1)])], [], [], false), [(some none, [(0, (0, 0, []), (0, 0, [])), (0, (0, 0, []), (0, 0, []))], [(0, 0), (0, 9)], [], [])], [(22, 0), (23, 0)], (0, 0))
def ak_t76 : List azCon := []
def ak_h76 : List azHd := []
theorem ak_e76 : az_ex szP az_inl ak_k76.2.1 ak_t76 ak_k76.2.2.2.2.1 (fun _ => az_pre 193 []) (az_hint ak_t76) (az_leaf ak_k76 ak_h76 none (az_hb 2) (az_rb 2)) 27310 ak_k76.2.2.1.1 ak_k76.2.2.1.2.1 ak_k76.2.2.1.2.2.1 (az_hc ak_k76 (6, 2, (0, 0, 0), szc_193) (0, ak_k76.2.2.1, (0, []), (0, 0))) = true := by decide +kernel
set_option maxRecDepth 100000 in
theorem ak_v76 {X : List (List Value)} (hX : az_X X) : az_Valid X ak_k76 := az_validS sz_pkall_szP (q := (6, 2, (0, 0, 0), szc_193)) hX (tb := ak_t76) (fun _ h => by cases h) rfl (hds := ak_h76) (by decide +kernel) (fun _ h => by cases h) (fun _ hV => ⟨_, hV, rfl, _, fun _ h => h, ak_e76⟩) (fun _ h => by cases h)
