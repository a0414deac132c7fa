/-! contracts: written by wip/A/gen56.py -/
/-- Model.newAt -/
def ak_k218 : azCon := (157, 1, ([(0, (0, 0, []), (0, 0, []))], [(0, 0)], [], [(1, 145, []), (0, 9, []), (0, 0, [(0, 1)])], [], [], false), [(some (some (0, 0, [(1, 1)])), [(0, (0, 0, []), (0, 0, [])), (0, (0, 0, []), (0, 0, []))], [(0, 0), (0, 1)], [], [])], [], (0, 0))
def ak_t218 : List azCon := []
def ak_d218_0 : azHd := (4, ([(0, (0, 0, []), (0, 0, [])), (0, (0, 0, []), (0, 0, [])), (0, (0, 0, []), (0, 0, []))], [(0, 0), (0, 1), (0, 9)], [], [(1, 145, []), (0, 9, []), (0, 0, [(0, 1)]), (0, 0, [(1, 1)]), (0, 0, [(2, 1)])], [], [], false), (19, [(2, (-2))]), (0, 0))
def ak_h218 : List azHd := [ak_d218_0]
theorem ak_e218 : az_ex szP az_inl ak_k218.2.1 ak_t218 ak_k218.2.2.2.2.1 (fun _ => az_pre 157 []) (az_hint ak_t218) (az_leaf ak_k218 ak_h218 none (az_hb 1) (az_rb 1)) 34600 ak_k218.2.2.1.1 ak_k218.2.2.1.2.1 ak_k218.2.2.1.2.2.1 (az_hc ak_k218 (5, 12, (0, 0, 0), szc_157) (0, ak_k218.2.2.1, (0, []), (0, 0))) = true := by decide +kernel
theorem ak_e218_0 : az_ex szP az_inl ak_k218.2.1 ak_t218 ak_k218.2.2.2.2.1 (fun _ => az_pre 157 []) (az_hint ak_t218) (az_leaf ak_k218 ak_h218 (some ak_d218_0.2.2.1) (az_hb 1) (az_rb 1)) 34600 ak_d218_0.2.1.1 ak_d218_0.2.1.2.1 ak_d218_0.2.1.2.2.1 (az_hc ak_k218 (5, 12, (0, 0, 0), szc_157) ak_d218_0) = true := by decide +kernel
set_option maxRecDepth 100000 in
theorem ak_v218 {X : List (List Value)} (hX : az_X X) : az_Valid X ak_k218 := az_valid sz_pkall_szP (q := (5, 12, (0, 0, 0), szc_157)) hX (tb := ak_t218) (fun _ h => by cases h) rfl (hds := ak_h218) (by decide +kernel) (List.forall_mem_cons.mpr ⟨by decide +kernel, fun _ h => by cases h⟩) ak_e218 (List.forall_mem_cons.mpr ⟨ak_e218_0, fun _ h => by cases h⟩)
/-- Model.isFree -/
def ak_k219 : azCon := (158, 0, ([(0, (0, 0, []), (0, 0, []))], [(1, 200)], [], [(1, 145, []), (0, 9, []), (0, 0, [(0, 1)])], [], [], false), [(some (some (0, 0, [(1, 1)])), [(0, (0, 0, []), (0, 0, [])), (0, (0, 0, []), (0, 0, []))], [(1, 200), (0, 1)], [], [])], [], (0, 0))
def ak_t219 : List azCon := []
def ak_d219_0 : azHd := (2, ([(0, (0, 0, []), (0, 0, [])), (0, (0, 0, []), (0, 0, []))], [(1, 200), (0, 9)], [], [(1, 145, []), (0, 9, []), (0, 0, [(0, 1)]), (0, 0, [(1, 1)])], [], [], false), (19, [(1, (-2))]), (0, 0))
def ak_h219 : List azHd := [ak_d219_0]
theorem ak_e219 : az_ex szP az_inl ak_k219.2.1 ak_t219 ak_k219.2.2.2.2.1 (fun _ => az_pre 158 []) (az_hint ak_t219) (az_leaf ak_k219 ak_h219 none (az_hb 1) (az_rb 1)) 2440 ak_k219.2.2.1.1 ak_k219.2.2.1.2.1 ak_k219.2.2.1.2.2.1 (az_hc ak_k219 (4, 12, (0, 0, 0), szc_158) (0, ak_k219.2.2.1, (0, []), (0, 0))) = true := by decide +kernel
theorem ak_e219_0 : az_ex szP az_inl ak_k219.2.1 ak_t219 ak_k219.2.2.2.2.1 (fun _ => az_pre 158 []) (az_hint ak_t219) (az_leaf ak_k219 ak_h219 (some ak_d219_0.2.2.1) (az_hb 1) (az_rb 1)) 2440 ak_d219_0.2.1.1 ak_d219_0.2.1.2.1 ak_d219_0.2.1.2.2.1 (az_hc ak_k219 (4, 12, (0, 0, 0), szc_158) ak_d219_0) = true := by decide +kernel
set_option maxRecDepth 100000 in
theorem ak_v219 {X : List (List Value)} (hX : az_X X) : az_Valid X ak_k219 := az_valid sz_pkall_szP (q := (4, 12, (0, 0, 0), szc_158)) hX (tb := ak_t219) (fun _ h => by cases h) rfl (hds := ak_h219) (by decide +kernel) (List.forall_mem_cons.mpr ⟨by decide +kernel, fun _ h => by cases h⟩) ak_e219 (List.forall_mem_cons.mpr ⟨ak_e219_0, fun _ h => by cases h⟩)
/-- Model.bind -/
def ak_k220 : azCon := (159, 2, ([(0, (0, 0, []), (0, 0, [])), (0, (0, 0, []), (0, 0, [])), (0, (0, 0, []), (0, 0, [])), (0, (0, 0, []), (0, 0, []))], [(1, 4), (1, 200), (0, 18), (9, 10)], [], [(1, 145, []), (0, 9, []), (0, 0, [(0, 1)]), (0, 0, [(1, 1)]), (0, 0, [(2, 1)])], [(141, (24, []), (0, 0, [(3, 1)]))], [], false), [(some none, [(0, (0, 0, []), (0, 0, [])), (0, (0, 0, []), (0, 0, [])), (0, (0, 0, []), (0, 0, [])), (0, (0, 0, []), (0, 0, []))], [(1, 4), (1, 200), (0, 18), (9, 10)], [], [])], [(141, 26), (154, 0), (155, 0)], (0, 0))
def ak_t220 : List azCon := [ak_k216, ak_k217, ak_k218, ak_k219]
def ak_d220_0 : azHd := (30, ([(0, (0, 0, []), (0, 0, [])), (0, (0, 0, []), (0, 0, [])), (0, (0, 0, []), (0, 0, [])), (0, (0, 0, []), (0, 0, [])), (0, (0, 0, []), (0, 0, []))], [(1, 4), (1, 200), (0, 18), (10, 10), (0, 9)], [], [(1, 145, []), (0, 9, []), (0, 0, [(0, 1)]), (0, 0, [(1, 1)]), (0, 0, [(2, 1)]), (0, 0, [(4, 1)])], [(141, (24, []), (0, 0, [(3, 1)]))], [], false), (19, [(4, (-2))]), (0, 0))
def ak_h220 : List azHd := [ak_d220_0]
theorem ak_e220 : az_ex szP az_inl ak_k220.2.1 ak_t220 ak_k220.2.2.2.2.1 (fun _ => az_pre 159 [(30, 141, 24)]) (az_hint ak_t220) (az_leaf ak_k220 ak_h220 none (az_hb 4) (az_rb 4)) 6190 ak_k220.2.2.1.1 ak_k220.2.2.1.2.1 ak_k220.2.2.1.2.2.1 (az_hc ak_k220 (6, 12, (0, 0, 0), szc_159) (0, ak_k220.2.2.1, (0, []), (0, 0))) = true := by decide +kernel
theorem ak_e220_0 : az_ex szP az_inl ak_k220.2.1 ak_t220 ak_k220.2.2.2.2.1 (fun _ => az_pre 159 [(30, 141, 24)]) (az_hint ak_t220) (az_leaf ak_k220 ak_h220 (some ak_d220_0.2.2.1) (az_hb 4) (az_rb 4)) 6190 ak_d220_0.2.1.1 ak_d220_0.2.1.2.1 ak_d220_0.2.1.2.2.1 (az_hc ak_k220 (6, 12, (0, 0, 0), szc_159) ak_d220_0) = true := by decide +kernel
set_option maxRecDepth 100000 in
theorem ak_v220 {X : List (List Value)} (hX : az_X X) : az_Valid X ak_k220 := az_valid sz_pkall_szP (q := (6, 12, (0, 0, 0), szc_159)) hX (tb := ak_t220) (List.forall_mem_cons.mpr ⟨ak_v216 hX, List.forall_mem_cons.mpr ⟨ak_v217 hX, List.forall_mem_cons.mpr ⟨ak_v218 hX, List.forall_mem_cons.mpr ⟨ak_v219 hX, fun _ h => by cases h⟩⟩⟩⟩) rfl (hds := ak_h220) (by decide +kernel) (List.forall_mem_cons.mpr ⟨by decide +kernel, fun _ h => by cases h⟩) ak_e220 (List.forall_mem_cons.mpr ⟨ak_e220_0, fun _ h => by cases h⟩)
/-- Model.isFree -/
def ak_k221 : azCon := (158, 0, ([(0, (0, 0, []), (0, 0, []))], [(1, 200)], [], [(1, 145, []), (0, 8, []), (0, 0, [(0, 1)])], [], [], false), [(some (some (0, 0, [(1, 1)])), [(0, (0, 0, []), (0, 0, [])), (0, (0, 0, []), (0, 0, []))], [(1, 200), (0, 1)], [], [])], [], (0, 0))
def ak_t221 : List azCon := []
def ak_d221_0 : azHd := (2, ([(0, (0, 0, []), (0, 0, [])), (0, (0, 0, []), (0, 0, []))], [(1, 200), (0, 9)], [], [(1, 145, []), (0, 8, []), (0, 0, [(0, 1)]), (0, 0, [(1, 1)])], [], [], false), (19, [(1, (-2))]), (0, 0))
def ak_h221 : List azHd := [ak_d221_0]
theorem ak_e221 : az_ex szP az_inl ak_k221.2.1 ak_t221 ak_k221.2.2.2.2.1 (fun _ => az_pre 158 []) (az_hint ak_t221) (az_leaf ak_k221 ak_h221 none (az_hb 1) (az_rb 1)) 2440 ak_k221.2.2.1.1 ak_k221.2.2.1.2.1 ak_k221.2.2.1.2.2.1 (az_hc ak_k221 (4, 12, (0, 0, 0), szc_158) (0, ak_k221.2.2.1, (0, []), (0, 0))) = true := by decide +kernel
theorem ak_e221_0 : az_ex szP az_inl ak_k221.2.1 ak_t221 ak_k221.2.2.2.2.1 (fun _ => az_pre 158 []) (az_hint ak_t221) (az_leaf ak_k221 ak_h221 (some ak_d221_0.2.2.1) (az_hb 1) (az_rb 1)) 2440 ak_d221_0.2.1.1 ak_d221_0.2.1.2.1 ak_d221_0.2.1.2.2.1 (az_hc ak_k221 (4, 12, (0, 0, 0), szc_158) ak_d221_0) = true := by decide +kernel
set_option maxRecDepth 100000 in
theorem ak_v221 {X : List (List Value)} (hX : az_X X) : az_Valid X ak_k221 := az_valid sz_pkall_szP (q := (4, 12, (0, 0, 0), szc_158)) hX (tb := ak_t221) (fun _ h => by cases h) rfl (hds := ak_h221) (by decide +kernel) (List.forall_mem_cons.mpr ⟨by decide +kernel, fun _ h => by cases h⟩) ak_e221 (List.forall_mem_cons.mpr ⟨ak_e221_0, fun _ h => by cases h⟩)
/-- Model.newAt -/
def ak_k222 : azCon := (157, 1, ([(0, (0, 0, []), (0, 0, []))], [(1, 1)], [], [(1, 145, []), (0, 8, []), (0, 0, [(0, 1)])], [], [], false), [(some (some (0, 0, [(1, 1)])), [(0, (0, 0, []), (0, 0, [])), (0, (0, 0, []), (0, 0, []))], [(1, 1), (0, 1)], [], [])], [], (0, 0))
def ak_t222 : List azCon := []
def ak_d222_0 : azHd := (4, ([(0, (0, 0, []), (0, 0, [])), (0, (0, 0, []), (0, 0, [])), (0, (0, 0, []), (0, 0, []))], [(1, 1), (0, 1), (0, 9)], [], [(1, 145, []), (0, 8, []), (0, 0, [(0, 1)]), (0, 0, [(1, 1)]), (0, 0, [(2, 1)])], [], [], false), (19, [(2, (-2))]), (0, 0))
def ak_h222 : List azHd := [ak_d222_0]
theorem ak_e222 : az_ex szP az_inl ak_k222.2.1 ak_t222 ak_k222.2.2.2.2.1 (fun _ => az_pre 157 []) (az_hint ak_t222) (az_leaf ak_k222 ak_h222 none (az_hb 1) (az_rb 1)) 34600 ak_k222.2.2.1.1 ak_k222.2.2.1.2.1 ak_k222.2.2.1.2.2.1 (az_hc ak_k222 (5, 12, (0, 0, 0), szc_157) (0, ak_k222.2.2.1, (0, []), (0, 0))) = true := by decide +kernel
theorem ak_e222_0 : az_ex szP az_inl ak_k222.2.1 ak_t222 ak_k222.2.2.2.2.1 (fun _ => az_pre 157 []) (az_hint ak_t222) (az_leaf ak_k222 ak_h222 (some ak_d222_0.2.2.1) (az_hb 1) (az_rb 1)) 34600 ak_d222_0.2.1.1 ak_d222_0.2.1.2.1 ak_d222_0.2.1.2.2.1 (az_hc ak_k222 (5, 12, (0, 0, 0), szc_157) ak_d222_0) = true := by decide +kernel
set_option maxRecDepth 100000 in
theorem ak_v222 {X : List (List Value)} (hX : az_X X) : az_Valid X ak_k222 := az_valid sz_pkall_szP (q := (5, 12, (0, 0, 0), szc_157)) hX (tb := ak_t222) (fun _ h => by cases h) rfl (hds := ak_h222) (by decide +kernel) (List.forall_mem_cons.mpr ⟨by decide +kernel, fun _ h => by cases h⟩) ak_e222 (List.forall_mem_cons.mpr ⟨ak_e222_0, fun _ h => by cases h⟩)
