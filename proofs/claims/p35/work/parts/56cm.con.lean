/-! contracts: written by wip/A/gen56.py -/
/-- Model.newAt -/
def ak_k237 : azCon := (157, 1, ([(0, (0, 0, []), (0, 0, []))], [(0, 0)], [], [(1, 145, []), (0, 2, []), (0, 0, [(0, 1)])], [], [], false), [(some (some (0, 0, [(1, 1)])), [(0, (0, 0, []), (0, 0, [])), (0, (0, 0, []), (0, 0, []))], [(0, 0), (0, 1)], [], [])], [], (0, 0))
def ak_t237 : List azCon := []
def ak_d237_0 : azHd := (4, ([(0, (0, 0, []), (0, 0, [])), (0, (0, 0, []), (0, 0, [])), (0, (0, 0, []), (0, 0, []))], [(0, 0), (0, 1), (0, 9)], [], [(1, 145, []), (0, 2, []), (0, 0, [(0, 1)]), (0, 0, [(1, 1)]), (0, 0, [(2, 1)])], [], [], false), (19, [(2, (-2))]), (0, 0))
def ak_h237 : List azHd := [ak_d237_0]
theorem ak_e237 : az_ex szP az_inl ak_k237.2.1 ak_t237 ak_k237.2.2.2.2.1 (fun _ => az_pre 157 []) (az_hint ak_t237) (az_leaf ak_k237 ak_h237 none (az_hb 1) (az_rb 1)) 34600 ak_k237.2.2.1.1 ak_k237.2.2.1.2.1 ak_k237.2.2.1.2.2.1 (az_hc ak_k237 (5, 12, (0, 0, 0), szc_157) (0, ak_k237.2.2.1, (0, []), (0, 0))) = true := by decide +kernel
theorem ak_e237_0 : az_ex szP az_inl ak_k237.2.1 ak_t237 ak_k237.2.2.2.2.1 (fun _ => az_pre 157 []) (az_hint ak_t237) (az_leaf ak_k237 ak_h237 (some ak_d237_0.2.2.1) (az_hb 1) (az_rb 1)) 34600 ak_d237_0.2.1.1 ak_d237_0.2.1.2.1 ak_d237_0.2.1.2.2.1 (az_hc ak_k237 (5, 12, (0, 0, 0), szc_157) ak_d237_0) = true := by decide +kernel
set_option maxRecDepth 100000 in
theorem ak_v237 {X : List (List Value)} (hX : az_X X) : az_Valid X ak_k237 := az_valid sz_pkall_szP (q := (5, 12, (0, 0, 0), szc_157)) hX (tb := ak_t237) (fun _ h => by cases h) rfl (hds := ak_h237) (by decide +kernel) (List.forall_mem_cons.mpr ⟨by decide +kernel, fun _ h => by cases h⟩) ak_e237 (List.forall_mem_cons.mpr ⟨ak_e237_0, fun _ h => by cases h⟩)
/-- Model.newAt -/
def ak_k238 : azCon := (157, 1, ([(0, (0, 0, []), (0, 0, []))], [(1, 1)], [], [(1, 145, []), (0, 2, []), (0, 0, [(0, 1)])], [], [], false), [(some (some (0, 0, [(1, 1)])), [(0, (0, 0, []), (0, 0, [])), (0, (0, 0, []), (0, 0, []))], [(1, 1), (0, 1)], [], [])], [], (0, 0))
def ak_t238 : List azCon := []
def ak_d238_0 : azHd := (4, ([(0, (0, 0, []), (0, 0, [])), (0, (0, 0, []), (0, 0, [])), (0, (0, 0, []), (0, 0, []))], [(1, 1), (0, 1), (0, 9)], [], [(1, 145, []), (0, 2, []), (0, 0, [(0, 1)]), (0, 0, [(1, 1)]), (0, 0, [(2, 1)])], [], [], false), (19, [(2, (-2))]), (0, 0))
def ak_h238 : List azHd := [ak_d238_0]
theorem ak_e238 : az_ex szP az_inl ak_k238.2.1 ak_t238 ak_k238.2.2.2.2.1 (fun _ => az_pre 157 []) (az_hint ak_t238) (az_leaf ak_k238 ak_h238 none (az_hb 1) (az_rb 1)) 34600 ak_k238.2.2.1.1 ak_k238.2.2.1.2.1 ak_k238.2.2.1.2.2.1 (az_hc ak_k238 (5, 12, (0, 0, 0), szc_157) (0, ak_k238.2.2.1, (0, []), (0, 0))) = true := by decide +kernel
theorem ak_e238_0 : az_ex szP az_inl ak_k238.2.1 ak_t238 ak_k238.2.2.2.2.1 (fun _ => az_pre 157 []) (az_hint ak_t238) (az_leaf ak_k238 ak_h238 (some ak_d238_0.2.2.1) (az_hb 1) (az_rb 1)) 34600 ak_d238_0.2.1.1 ak_d238_0.2.1.2.1 ak_d238_0.2.1.2.2.1 (az_hc ak_k238 (5, 12, (0, 0, 0), szc_157) ak_d238_0) = true := by decide +kernel
set_option maxRecDepth 100000 in
theorem ak_v238 {X : List (List Value)} (hX : az_X X) : az_Valid X ak_k238 := az_valid sz_pkall_szP (q := (5, 12, (0, 0, 0), szc_157)) hX (tb := ak_t238) (fun _ h => by cases h) rfl (hds := ak_h238) (by decide +kernel) (List.forall_mem_cons.mpr ⟨by decide +kernel, fun _ h => by cases h⟩) ak_e238 (List.forall_mem_cons.mpr ⟨ak_e238_0, fun _ h => by cases h⟩)
/-- Model.bind -/
def ak_k239 : azCon := (159, 9, ([(0, (0, 0, []), (0, 0, [])), (0, (0, 0, []), (0, 0, [])), (0, (0, 0, []), (0, 0, [])), (0, (0, 0, []), (0, 0, []))], [(1, 4), (1, 200), (0, 4), (2, 10)], [], [(1, 145, []), (0, 2, []), (0, 0, [(0, 1)]), (0, 0, [(1, 1)]), (0, 0, [(2, 1)])], [(141, (24, []), (0, 0, [(3, 1)]))], [], false), [(some none, [(0, (0, 0, []), (0, 0, [])), (0, (0, 0, []), (0, 0, [])), (0, (0, 0, []), (0, 0, [])), (0, (0, 0, []), (0, 0, []))], [(1, 4), (1, 200), (0, 4), (2, 10)], [], [])], [(141, 26), (154, 0), (155, 0)], (0, 0))
def ak_t239 : List azCon := [ak_k207, ak_k236, ak_k237, ak_k238]
def ak_d239_0 : azHd := (30, ([(0, (0, 0, []), (0, 0, [])), (0, (0, 0, []), (0, 0, [])), (0, (0, 0, []), (0, 0, [])), (0, (0, 0, []), (0, 0, [])), (0, (0, 0, []), (0, 0, []))], [(1, 4), (1, 200), (0, 4), (3, 10), (0, 9)], [], [(1, 145, []), (0, 2, []), (0, 0, [(0, 1)]), (0, 0, [(1, 1)]), (0, 0, [(2, 1)]), (0, 0, [(4, 1)])], [(141, (24, []), (0, 0, [(3, 1)]))], [], false), (19, [(4, (-2))]), (0, 0))
def ak_h239 : List azHd := [ak_d239_0]
theorem ak_e239 : az_ex szP az_inl ak_k239.2.1 ak_t239 ak_k239.2.2.2.2.1 (fun _ => az_pre 159 [(30, 141, 24)]) (az_hint ak_t239) (az_leaf ak_k239 ak_h239 none (az_hb 4) (az_rb 4)) 3460 ak_k239.2.2.1.1 ak_k239.2.2.1.2.1 ak_k239.2.2.1.2.2.1 (az_hc ak_k239 (6, 12, (0, 0, 0), szc_159) (0, ak_k239.2.2.1, (0, []), (0, 0))) = true := by decide +kernel
theorem ak_e239_0 : az_ex szP az_inl ak_k239.2.1 ak_t239 ak_k239.2.2.2.2.1 (fun _ => az_pre 159 [(30, 141, 24)]) (az_hint ak_t239) (az_leaf ak_k239 ak_h239 (some ak_d239_0.2.2.1) (az_hb 4) (az_rb 4)) 3460 ak_d239_0.2.1.1 ak_d239_0.2.1.2.1 ak_d239_0.2.1.2.2.1 (az_hc ak_k239 (6, 12, (0, 0, 0), szc_159) ak_d239_0) = true := by decide +kernel
set_option maxRecDepth 100000 in
theorem ak_v239 {X : List (List Value)} (hX : az_X X) : az_Valid X ak_k239 := az_valid sz_pkall_szP (q := (6, 12, (0, 0, 0), szc_159)) hX (tb := ak_t239) (List.forall_mem_cons.mpr ⟨ak_v207 hX, List.forall_mem_cons.mpr ⟨ak_v236 hX, List.forall_mem_cons.mpr ⟨ak_v237 hX, List.forall_mem_cons.mpr ⟨ak_v238 hX, fun _ h => by cases h⟩⟩⟩⟩) rfl (hds := ak_h239) (by decide +kernel) (List.forall_mem_cons.mpr ⟨by decide +kernel, fun _ h => by cases h⟩) ak_e239 (List.forall_mem_cons.mpr ⟨ak_e239_0, fun _ h => by cases h⟩)
/-- Model.isFree -/
def ak_k240 : azCon := (158, 0, ([(0, (0, 0, []), (0, 0, []))], [(1, 200)], [], [(1, 145, []), (0, 1, []), (0, 0, [(0, 1)])], [], [], false), [(some (some (0, 0, [(1, 1)])), [(0, (0, 0, []), (0, 0, [])), (0, (0, 0, []), (0, 0, []))], [(1, 200), (0, 1)], [], [])], [], (0, 0))
def ak_t240 : List azCon := []
def ak_d240_0 : azHd := (2, ([(0, (0, 0, []), (0, 0, [])), (0, (0, 0, []), (0, 0, []))], [(1, 200), (0, 1)], [], [(1, 145, []), (0, 1, []), (0, 0, [(0, 1)]), (0, 0, [(1, 1)])], [], [], false), (3, [(1, (-2))]), (0, 0))
def ak_h240 : List azHd := [ak_d240_0]
theorem ak_e240 : az_ex szP az_inl ak_k240.2.1 ak_t240 ak_k240.2.2.2.2.1 (fun _ => az_pre 158 []) (az_hint ak_t240) (az_leaf ak_k240 ak_h240 none (az_hb 1) (az_rb 1)) 2440 ak_k240.2.2.1.1 ak_k240.2.2.1.2.1 ak_k240.2.2.1.2.2.1 (az_hc ak_k240 (4, 12, (0, 0, 0), szc_158) (0, ak_k240.2.2.1, (0, []), (0, 0))) = true := by decide +kernel
theorem ak_e240_0 : az_ex szP az_inl ak_k240.2.1 ak_t240 ak_k240.2.2.2.2.1 (fun _ => az_pre 158 []) (az_hint ak_t240) (az_leaf ak_k240 ak_h240 (some ak_d240_0.2.2.1) (az_hb 1) (az_rb 1)) 2440 ak_d240_0.2.1.1 ak_d240_0.2.1.2.1 ak_d240_0.2.1.2.2.1 (az_hc ak_k240 (4, 12, (0, 0, 0), szc_158) ak_d240_0) = true := by decide +kernel
set_option maxRecDepth 100000 in
theorem ak_v240 {X : List (List Value)} (hX : az_X X) : az_Valid X ak_k240 := az_valid sz_pkall_szP (q := (4, 12, (0, 0, 0), szc_158)) hX (tb := ak_t240) (fun _ h => by cases h) rfl (hds := ak_h240) (by decide +kernel) (List.forall_mem_cons.mpr ⟨by decide +kernel, fun _ h => by cases h⟩) ak_e240 (List.forall_mem_cons.mpr ⟨ak_e240_0, fun _ h => by cases h⟩)
