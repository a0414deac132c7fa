/-! contracts: written by wip/A/gen56.py -/
/-- $Script.add -/
def ak_k0 : azCon := (276, 0, ([(0, (0, 0, []), (0, 0, []))], [(0, 255)], [], [(1, 12, []), (0, 0, [(0, 1)])], [], [], false), [(some none, [(0, (0, 0, []), (0, 0, []))], [(0, 255)], [], [])], [(8, 2), (9, 0)], (0, 0))
def ak_t0 : List azCon := []
def ak_h0 : List azHd := []
theorem ak_e0 : az_ex szP az_inl ak_k0.2.1 ak_t0 ak_k0.2.2.2.2.1 (fun _ => az_pre 276 []) (az_hint ak_t0) (az_leaf ak_k0 ak_h0 none (az_hb 1) (az_rb 1)) 1540 ak_k0.2.2.1.1 ak_k0.2.2.1.2.1 ak_k0.2.2.1.2.2.1 (az_hc ak_k0 (2, 10, (0, 0, 0), szc_276) (0, ak_k0.2.2.1, (0, []), (0, 0))) = true := by decide +kernel
set_option maxRecDepth 100000 in
theorem ak_v0 {X : List (List Value)} (hX : az_X X) : az_Valid X ak_k0 := az_valid sz_pkall_szP (q := (2, 10, (0, 0, 0), szc_276)) hX (tb := ak_t0) (fun _ h => by cases h) rfl (hds := ak_h0) (by decide +kernel) (fun _ h => by cases h) ak_e0 (fun _ h => by cases h)
/-- .sign -/
def ak_k1 : azCon := (6, 1, ([(0, (0, 0, []), (0, 0, []))], [((-2147483648), 2147483647)], [], [(1, 4, []), (0, 0, [(0, 1)])], [], [], false), [(some (some (0, 0, [(1, 1)])), [(0, (0, 0, []), (0, 0, [])), (0, (0, 0, []), (0, 0, []))], [((-2147483648), 2147483647), ((-1), 80)], [], [])], [(8, 2), (9, 0)], (0, 0))
def ak_t1 : List azCon := [ak_k0]
def ak_d1_0 : azHd := (11, ([(0, (0, 0, []), (0, 0, [])), (0, (0, 0, []), (0, 0, []))], [((-2147483648), 2147483647), ((-9), 24)], [], [(1, 4, []), (0, 0, [(0, 1)]), (0, 0, [(1, 1)])], [], [], false), (19, [(1, 2)]), (0, 0))
def ak_h1 : List azHd := [ak_d1_0]
theorem ak_e1 : az_ex szP az_inl ak_k1.2.1 ak_t1 ak_k1.2.2.2.2.1 (fun _ => az_pre 6 []) (az_hint ak_t1) (az_leaf ak_k1 ak_h1 none (az_hb 1) (az_rb 1)) 1810 ak_k1.2.2.1.1 ak_k1.2.2.1.2.1 ak_k1.2.2.1.2.2.1 (az_hc ak_k1 (3, 11, (0, 0, 0), szc_6) (0, ak_k1.2.2.1, (0, []), (0, 0))) = true := by decide +kernel
theorem ak_e1_0 : az_ex szP az_inl ak_k1.2.1 ak_t1 ak_k1.2.2.2.2.1 (fun _ => az_pre 6 []) (az_hint ak_t1) (az_leaf ak_k1 ak_h1 (some ak_d1_0.2.2.1) (az_hb 1) (az_rb 1)) 1810 ak_d1_0.2.1.1 ak_d1_0.2.1.2.1 ak_d1_0.2.1.2.2.1 (az_hc ak_k1 (3, 11, (0, 0, 0), szc_6) ak_d1_0) = true := by decide +kernel
set_option maxRecDepth 100000 in
theorem ak_v1 {X : List (List Value)} (hX : az_X X) : az_Valid X ak_k1 := az_valid sz_pkall_szP (q := (3, 11, (0, 0, 0), szc_6)) hX (tb := ak_t1) (List.forall_mem_cons.mpr ⟨ak_v0 hX, fun _ h => by cases h⟩) rfl (hds := ak_h1) (by decide +kernel) (List.forall_mem_cons.mpr ⟨by decide +kernel, fun _ h => by cases h⟩) ak_e1 (List.forall_mem_cons.mpr ⟨ak_e1_0, fun _ h => by cases h⟩)
/-- .end -/
def ak_k2 : azCon := (7, 0, ([(0, (0, 0, []), (0, 0, []))], [((-2147483648), 2147483647)], [], [(1, 4, []), (0, 0, [(0, 1)])], [], [], false), [(some (some (0, 0, [(1, 1)])), [(0, (0, 0, []), (0, 0, [])), (0, (0, 0, []), (0, 0, []))], [((-2147483648), 2147483647), (0, 1)], [], [])], [(8, 2)], (0, 0))
def ak_t2 : List azCon := []
def ak_h2 : List azHd := []
theorem ak_e2 : az_ex szP az_inl ak_k2.2.1 ak_t2 ak_k2.2.2.2.2.1 (fun _ => az_pre 7 []) (az_hint ak_t2) (az_leaf ak_k2 ak_h2 none (az_hb 1) (az_rb 1)) 1510 ak_k2.2.2.1.1 ak_k2.2.2.1.2.1 ak_k2.2.2.1.2.2.1 (az_hc ak_k2 (2, 11, (0, 0, 0), szc_7) (0, ak_k2.2.2.1, (0, []), (0, 0))) = true := by decide +kernel
set_option maxRecDepth 100000 in
theorem ak_v2 {X : List (List Value)} (hX : az_X X) : az_Valid X ak_k2 := az_valid sz_pkall_szP (q := (2, 11, (0, 0, 0), szc_7)) hX (tb := ak_t2) (fun _ h => by cases h) rfl (hds := ak_h2) (by decide +kernel) (fun _ h => by cases h) ak_e2 (fun _ h => by cases h)
/-- $Reader.readOperand -/
def ak_k3 : azCon := (265, 2, ([(0, (0, 0, []), (0, 0, []))], [(0, 9)], [], [(1, 14, []), (0, 0, [(0, 1)])], [], [], false), [(some (some (0, 0, [(1, 1)])), [(0, (0, 0, []), (0, 0, [])), (0, (5, 0, []), (0, 0, []))], [(0, 9), ((-1), 80)], [], [])], [(10, 3), (8, 3)], (0, 0))
def ak_t3 : List azCon := []
def ak_h3 : List azHd := []
theorem ak_e3 : az_ex szP az_inl ak_k3.2.1 ak_t3 ak_k3.2.2.2.2.1 (fun _ => az_pre 265 []) (az_hint ak_t3) (az_leaf ak_k3 ak_h3 none (az_hb 1) (az_rb 1)) 16450 ak_k3.2.2.1.1 ak_k3.2.2.1.2.1 ak_k3.2.2.1.2.2.1 (az_hc ak_k3 (5, 8, (0, 0, 0), szc_265) (0, ak_k3.2.2.1, (0, []), (0, 0))) = true := by decide +kernel
set_option maxRecDepth 100000 in
theorem ak_v3 {X : List (List Value)} (hX : az_X X) : az_Valid X ak_k3 := az_valid sz_pkall_szP (q := (5, 8, (0, 0, 0), szc_265)) hX (tb := ak_t3) (fun _ h => by cases h) rfl (hds := ak_h3) (by decide +kernel) (fun _ h => by cases h) ak_e3 (fun _ h => by cases h)
/-- $Reader.readsAccess -/
def ak_k4 : azCon := (263, 3, ([(0, (0, 0, []), (0, 0, [])), (0, (0, 0, []), (0, 0, []))], [(0, 9), (0, 0)], [], [(1, 14, []), (0, 0, [(0, 1)]), (0, 0, [(1, 1)])], [], [], false), [(some (some (0, 0, [(2, 1)])), [(0, (0, 0, []), (0, 0, [])), (0, (0, 0, []), (0, 0, [])), (0, (0, 0, []), (0, 0, []))], [(0, 9), (0, 0), (0, 1)], [], [])], [(10, 3), (12, 0), (13, 0), (14, 0), (15, 0), (8, 3)], (0, 0))
def ak_t4 : List azCon := [ak_k3]
def ak_h4 : List azHd := []
theorem ak_e4 : az_ex szP az_inl ak_k4.2.1 ak_t4 ak_k4.2.2.2.2.1 (fun _ => az_pre 263 []) (az_hint ak_t4) (az_leaf ak_k4 ak_h4 none (az_hb 2) (az_rb 2)) 29320 ak_k4.2.2.1.1 ak_k4.2.2.1.2.1 ak_k4.2.2.1.2.2.1 (az_hc ak_k4 (5, 8, (0, 0, 0), szc_263) (0, ak_k4.2.2.1, (0, []), (0, 0))) = true := by decide +kernel
set_option maxRecDepth 100000 in
theorem ak_v4 {X : List (List Value)} (hX : az_X X) : az_Valid X ak_k4 := az_valid sz_pkall_szP (q := (5, 8, (0, 0, 0), szc_263)) hX (tb := ak_t4) (List.forall_mem_cons.mpr ⟨ak_v3 hX, fun _ h => by cases h⟩) rfl (hds := ak_h4) (by decide +kernel) (fun _ h => by cases h) ak_e4 (fun _ h => by cases h)
/-- $Reader.readsAccess -/
def ak_k5 : azCon := (263, 3, ([(0, (0, 0, []), (0, 0, [])), (0, (0, 0, []), (0, 0, []))], [(0, 9), (1, 1)], [], [(1, 14, []), (0, 0, [(0, 1)]), (0, 0, [(1, 1)])], [], [], false), [(some (some (0, 0, [(2, 1)])), [(0, (0, 0, []), (0, 0, [])), (0, (0, 0, []), (0, 0, [])), (0, (0, 0, []), (0, 0, []))], [(0, 9), (1, 1), (0, 1)], [], [])], [(10, 3), (12, 0), (13, 0), (14, 0), (15, 0), (8, 3)], (0, 0))
def ak_t5 : List azCon := [ak_k3]
def ak_h5 : List azHd := []
theorem ak_e5 : az_ex szP az_inl ak_k5.2.1 ak_t5 ak_k5.2.2.2.2.1 (fun _ => az_pre 263 []) (az_hint ak_t5) (az_leaf ak_k5 ak_h5 none (az_hb 2) (az_rb 2)) 29320 ak_k5.2.2.1.1 ak_k5.2.2.1.2.1 ak_k5.2.2.1.2.2.1 (az_hc ak_k5 (5, 8, (0, 0, 0), szc_263) (0, ak_k5.2.2.1, (0, []), (0, 0))) = true := by decide +kernel
set_option maxRecDepth 100000 in
theorem ak_v5 {X : List (List Value)} (hX : az_X X) : az_Valid X ak_k5 := az_valid sz_pkall_szP (q := (5, 8, (0, 0, 0), szc_263)) hX (tb := ak_t5) (List.forall_mem_cons.mpr ⟨ak_v3 hX, fun _ h => by cases h⟩) rfl (hds := ak_h5) (by decide +kernel) (fun _ h => by cases h) ak_e5 (fun _ h => by cases h)
