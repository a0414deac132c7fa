/-! contracts: written by wip/A/gen56.py -/
/-- Model.bind -/
def ak_k205 : azCon := (159, 0, ([(0, (0, 0, []), (0, 0, []))], [(1, 4)], [], [(1, 145, []), (0, 0, []), (0, 0, [(0, 1)]), (0, 0, []), (0, 0, [])], [(141, (24, []), (0, 0, []))], [], false), [(some none, [(0, (0, 0, []), (0, 0, []))], [(1, 4)], [], [])], [(141, 26)], (0, 0))
def ak_t205 : List azCon := []
def ak_h205 : List azHd := []
theorem ak_e205 : az_ex szP az_inl ak_k205.2.1 ak_t205 ak_k205.2.2.2.2.1 (fun _ => az_pre 159 [(30, 141, 24)]) (az_hint ak_t205) (az_leaf ak_k205 ak_h205 none (az_hb 1) (az_rb 1)) 1540 ak_k205.2.2.1.1 ak_k205.2.2.1.2.1 ak_k205.2.2.1.2.2.1 (az_hc ak_k205 (6, 12, (0, 0, 0), szc_159) (0, ak_k205.2.2.1, (0, []), (0, 0))) = true := by decide +kernel
set_option maxRecDepth 100000 in
theorem ak_v205 {X : List (List Value)} (hX : az_X X) : az_Valid X ak_k205 := az_validS sz_pkall_szP (q := (6, 12, (0, 0, 0), szc_159)) hX (tb := ak_t205) (fun _ h => by cases h) rfl (hds := ak_h205) (by decide +kernel) (fun _ h => by cases h) (fun _ hV => ⟨_, hV, rfl, _, fun _ h => h, ak_e205⟩) (fun _ h => by cases h)
/-- Model.isFree -/
def ak_k206 : azCon := (158, 0, ([(0, (0, 0, []), (0, 0, []))], [(1, 200)], [], [(1, 145, []), (0, 0, []), (0, 0, [(0, 1)])], [], [], false), [(some (some (0, 1, [])), [(0, (0, 0, []), (0, 0, []))], [(1, 200)], [], [])], [], (0, 0))
def ak_t206 : List azCon := []
def ak_d206_0 : azHd := (2, ([(0, (0, 0, []), (0, 0, []))], [(1, 200)], [], [(1, 145, []), (0, 0, []), (0, 0, [(0, 1)]), (0, 0, [])], [], [], false), (1, []), (0, 0))
def ak_h206 : List azHd := [ak_d206_0]
theorem ak_e206 : az_ex szP az_inl ak_k206.2.1 ak_t206 ak_k206.2.2.2.2.1 (fun _ => az_pre 158 []) (az_hint ak_t206) (az_leaf ak_k206 ak_h206 none (az_hb 1) (az_rb 1)) 1210 ak_k206.2.2.1.1 ak_k206.2.2.1.2.1 ak_k206.2.2.1.2.2.1 (az_hc ak_k206 (4, 12, (0, 0, 0), szc_158) (0, ak_k206.2.2.1, (0, []), (0, 0))) = true := by decide +kernel
theorem ak_e206_0 : az_ex szP az_inl ak_k206.2.1 ak_t206 ak_k206.2.2.2.2.1 (fun _ => az_pre 158 []) (az_hint ak_t206) (az_leaf ak_k206 ak_h206 (some ak_d206_0.2.2.1) (az_hb 1) (az_rb 1)) 1210 ak_d206_0.2.1.1 ak_d206_0.2.1.2.1 ak_d206_0.2.1.2.2.1 (az_hc ak_k206 (4, 12, (0, 0, 0), szc_158) ak_d206_0) = true := by decide +kernel
set_option maxRecDepth 100000 in
theorem ak_v206 {X : List (List Value)} (hX : az_X X) : az_Valid X ak_k206 := az_validS sz_pkall_szP (q := (4, 12, (0, 0, 0), szc_158)) hX (tb := ak_t206) (fun _ h => by cases h) rfl (hds := ak_h206) (by decide +kernel) (List.forall_mem_cons.mpr ⟨by decide +kernel, fun _ h => by cases h⟩) (fun _ hV => ⟨_, hV, rfl, _, fun _ h => h, ak_e206⟩) (List.forall_mem_cons.mpr ⟨fun _ hV => ⟨_, hV, rfl, _, fun _ h => h, ak_e206_0⟩, fun _ h => by cases h⟩)
/-- Model.newAt -/
def ak_k207 : azCon := (157, 0, ([(0, (0, 0, []), (0, 0, []))], [(0, 0)], [], [(1, 145, []), (0, 0, []), (0, 0, [(0, 1)])], [], [], false), [(some (some (0, 0, [])), [(0, (0, 0, []), (0, 0, []))], [(0, 0)], [], [])], [], (0, 0))
def ak_t207 : List azCon := []
def ak_d207_0 : azHd := (4, ([(0, (0, 0, []), (0, 0, []))], [(0, 0)], [], [(1, 145, []), (0, 0, []), (0, 0, [(0, 1)]), (0, 1, []), (0, 0, [])], [], [], false), (1, []), (0, 0))
def ak_h207 : List azHd := [ak_d207_0]
theorem ak_e207 : az_ex szP az_inl ak_k207.2.1 ak_t207 ak_k207.2.2.2.2.1 (fun _ => az_pre 157 []) (az_hint ak_t207) (az_leaf ak_k207 ak_h207 none (az_hb 1) (az_rb 1)) 1360 ak_k207.2.2.1.1 ak_k207.2.2.1.2.1 ak_k207.2.2.1.2.2.1 (az_hc ak_k207 (5, 12, (0, 0, 0), szc_157) (0, ak_k207.2.2.1, (0, []), (0, 0))) = true := by decide +kernel
theorem ak_e207_0 : az_ex szP az_inl ak_k207.2.1 ak_t207 ak_k207.2.2.2.2.1 (fun _ => az_pre 157 []) (az_hint ak_t207) (az_leaf ak_k207 ak_h207 (some ak_d207_0.2.2.1) (az_hb 1) (az_rb 1)) 1360 ak_d207_0.2.1.1 ak_d207_0.2.1.2.1 ak_d207_0.2.1.2.2.1 (az_hc ak_k207 (5, 12, (0, 0, 0), szc_157) ak_d207_0) = true := by decide +kernel
set_option maxRecDepth 100000 in
theorem ak_v207 {X : List (List Value)} (hX : az_X X) : az_Valid X ak_k207 := az_validS sz_pkall_szP (q := (5, 12, (0, 0, 0), szc_157)) hX (tb := ak_t207) (fun _ h => by cases h) rfl (hds := ak_h207) (by decide +kernel) (List.forall_mem_cons.mpr ⟨by decide +kernel, fun _ h => by cases h⟩) (fun _ hV => ⟨_, hV, rfl, _, fun _ h => h, ak_e207⟩) (List.forall_mem_cons.mpr ⟨fun _ hV => ⟨_, hV, rfl, _, fun _ h => h, ak_e207_0⟩, fun _ h => by cases h⟩)
/-- Model.newAt -/
def ak_k208 : azCon := (157, 0, ([(0, (0, 0, []), (0, 0, []))], [(1, 1)], [], [(1, 145, []), (0, 0, []), (0, 0, [(0, 1)])], [], [], false), [(some (some (0, 0, [])), [(0, (0, 0, []), (0, 0, []))], [(1, 1)], [], [])], [], (0, 0))
def ak_t208 : List azCon := []
def ak_d208_0 : azHd := (4, ([(0, (0, 0, []), (0, 0, []))], [(1, 1)], [], [(1, 145, []), (0, 0, []), (0, 0, [(0, 1)]), (0, 1, []), (0, 0, [])], [], [], false), (1, []), (0, 0))
def ak_h208 : List azHd := [ak_d208_0]
theorem ak_e208 : az_ex szP az_inl ak_k208.2.1 ak_t208 ak_k208.2.2.2.2.1 (fun _ => az_pre 157 []) (az_hint ak_t208) (az_leaf ak_k208 ak_h208 none (az_hb 1) (az_rb 1)) 1360 ak_k208.2.2.1.1 ak_k208.2.2.1.2.1 ak_k208.2.2.1.2.2.1 (az_hc ak_k208 (5, 12, (0, 0, 0), szc_157) (0, ak_k208.2.2.1, (0, []), (0, 0))) = true := by decide +kernel
theorem ak_e208_0 : az_ex szP az_inl ak_k208.2.1 ak_t208 ak_k208.2.2.2.2.1 (fun _ => az_pre 157 []) (az_hint ak_t208) (az_leaf ak_k208 ak_h208 (some ak_d208_0.2.2.1) (az_hb 1) (az_rb 1)) 1360 ak_d208_0.2.1.1 ak_d208_0.2.1.2.1 ak_d208_0.2.1.2.2.1 (az_hc ak_k208 (5, 12, (0, 0, 0), szc_157) ak_d208_0) = true := by decide +kernel
set_option maxRecDepth 100000 in
theorem ak_v208 {X : List (List Value)} (hX : az_X X) : az_Valid X ak_k208 := az_validS sz_pkall_szP (q := (5, 12, (0, 0, 0), szc_157)) hX (tb := ak_t208) (fun _ h => by cases h) rfl (hds := ak_h208) (by decide +kernel) (List.forall_mem_cons.mpr ⟨by decide +kernel, fun _ h => by cases h⟩) (fun _ hV => ⟨_, hV, rfl, _, fun _ h => h, ak_e208⟩) (List.forall_mem_cons.mpr ⟨fun _ hV => ⟨_, hV, rfl, _, fun _ h => h, ak_e208_0⟩, fun _ h => by cases h⟩)
/-- Model.isFree -/
def ak_k209 : azCon := (158, 0, ([(0, (0, 0, []), (0, 0, []))], [(1, 200)], [], [(1, 145, []), (0, 1, []), (0, 0, [(0, 1)])], [], [], false), [(some (some (0, 0, [(1, 1)])), [(0, (0, 0, []), (0, 0, [])), (0, (0, 0, []), (0, 0, []))], [(1, 200), (0, 1)], [], [])], [], (0, 0))
def ak_t209 : List azCon := []
def ak_d209_0 : azHd := (2, ([(0, (0, 0, []), (0, 0, [])), (0, (0, 0, []), (0, 0, []))], [(1, 200), (0, 1)], [], [(1, 145, []), (0, 1, []), (0, 0, [(0, 1)]), (0, 0, [(1, 1)])], [], [], false), (3, [(1, (-2))]), (0, 0))
def ak_h209 : List azHd := [ak_d209_0]
theorem ak_e209 : az_ex szP az_inl ak_k209.2.1 ak_t209 ak_k209.2.2.2.2.1 (fun _ => az_pre 158 []) (az_hint ak_t209) (az_leaf ak_k209 ak_h209 none (az_hb 1) (az_rb 1)) 2440 ak_k209.2.2.1.1 ak_k209.2.2.1.2.1 ak_k209.2.2.1.2.2.1 (az_hc ak_k209 (4, 12, (0, 0, 0), szc_158) (0, ak_k209.2.2.1, (0, []), (0, 0))) = true := by decide +kernel
theorem ak_e209_0 : az_ex szP az_inl ak_k209.2.1 ak_t209 ak_k209.2.2.2.2.1 (fun _ => az_pre 158 []) (az_hint ak_t209) (az_leaf ak_k209 ak_h209 (some ak_d209_0.2.2.1) (az_hb 1) (az_rb 1)) 2440 ak_d209_0.2.1.1 ak_d209_0.2.1.2.1 ak_d209_0.2.1.2.2.1 (az_hc ak_k209 (4, 12, (0, 0, 0), szc_158) ak_d209_0) = true := by decide +kernel
set_option maxRecDepth 100000 in
theorem ak_v209 {X : List (List Value)} (hX : az_X X) : az_Valid X ak_k209 := az_validS sz_pkall_szP (q := (4, 12, (0, 0, 0), szc_158)) hX (tb := ak_t209) (fun _ h => by cases h) rfl (hds := ak_h209) (by decide +kernel) (List.forall_mem_cons.mpr ⟨by decide +kernel, fun _ h => by cases h⟩) (fun _ hV => ⟨_, hV, rfl, _, fun _ h => h, ak_e209⟩) (List.forall_mem_cons.mpr ⟨fun _ hV => ⟨_, hV, rfl, _, fun _ h => h, ak_e209_0⟩, fun _ h => by cases h⟩)
/-- Model.newAt -/
def ak_k210 : azCon := (157, 1, ([(0, (0, 0, []), (0, 0, []))], [(0, 0)], [], [(1, 145, []), (0, 1, []), (0, 0, [(0, 1)])], [], [], false), [(some (some (0, 0, [(1, 1)])), [(0, (0, 0, []), (0, 0, [])), (0, (0, 0, []), (0, 0, []))], [(0, 0), (0, 1)], [], [])], [], (0, 0))
def ak_t210 : List azCon := []
def ak_d210_0 : azHd := (4, ([(0, (0, 0, []), (0, 0, [])), (0, (0, 0, []), (0, 0, [])), (0, (0, 0, []), (0, 0, []))], [(0, 0), (0, 1), (0, 1)], [], [(1, 145, []), (0, 1, []), (0, 0, [(0, 1)]), (0, 0, [(1, 1)]), (0, 0, [(2, 1)])], [], [], false), (3, [(2, (-2))]), (0, 0))
def ak_h210 : List azHd := [ak_d210_0]
theorem ak_e210 : az_ex szP az_inl ak_k210.2.1 ak_t210 ak_k210.2.2.2.2.1 (fun _ => az_pre 157 []) (az_hint ak_t210) (az_leaf ak_k210 ak_h210 none (az_hb 1) (az_rb 1)) 34600 ak_k210.2.2.1.1 ak_k210.2.2.1.2.1 ak_k210.2.2.1.2.2.1 (az_hc ak_k210 (5, 12, (0, 0, 0), szc_157) (0, ak_k210.2.2.1, (0, []), (0, 0))) = true := by decide +kernel
theorem ak_e210_0 : az_ex szP az_inl ak_k210.2.1 ak_t210 ak_k210.2.2.2.2.1 (fun _ => az_pre 157 []) (az_hint ak_t210) (az_leaf ak_k210 ak_h210 (some ak_d210_0.2.2.1) (az_hb 1) (az_rb 1)) 34600 ak_d210_0.2.1.1 ak_d210_0.2.1.2.1 ak_d210_0.2.1.2.2.1 (az_hc ak_k210 (5, 12, (0, 0, 0), szc_157) ak_d210_0) = true := by decide +kernel
set_option maxRecDepth 100000 in
theorem ak_v210 {X : List (List Value)} (hX : az_X X) : az_Valid X ak_k210 := az_validS sz_pkall_szP (q := (5, 12, (0, 0, 0), szc_157)) hX (tb := ak_t210) (fun _ h => by cases h) rfl (hds := ak_h210) (by decide +kernel) (List.forall_mem_cons.mpr ⟨by decide +kernel, fun _ h => by cases h⟩) (fun _ hV => ⟨_, hV, rfl, _, fun _ h => h, ak_e210⟩) (List.forall_mem_cons.mpr ⟨fun _ hV => ⟨_, hV, rfl, _, fun _ h => h, ak_e210_0⟩, fun _ h => by cases h⟩)
/-- Model.newAt -/
def ak_k211 : azCon := (157, 1, ([(0, (0, 0, []), (0, 0, []))], [(1, 1)], [], [(1, 145, []), (0, 1, []), (0, 0, [(0, 1)])], [], [], false), [(some (some (0, 0, [(1, 1)])), [(0, (0, 0, []), (0, 0, [])), (0, (0, 0, []), (0, 0, []))], [(1, 1), (0, 1)], [], [])], [], (0, 0))
def ak_t211 : List azCon := []
def ak_d211_0 : azHd := (4, ([(0, (0, 0, []), (0, 0, [])), (0, (0, 0, []), (0, 0, [])), (0, (0, 0, []), (0, 0, []))], [(1, 1), (0, 1), (0, 1)], [], [(1, 145, []), (0, 1, []), (0, 0, [(0, 1)]), (0, 0, [(1, 1)]), (0, 0, [(2, 1)])], [], [], false), (3, [(2, (-2))]), (0, 0))
def ak_h211 : List azHd := [ak_d211_0]
theorem ak_e211 : az_ex szP az_inl ak_k211.2.1 ak_t211 ak_k211.2.2.2.2.1 (fun _ => az_pre 157 []) (az_hint ak_t211) (az_leaf ak_k211 ak_h211 none (az_hb 1) (az_rb 1)) 34600 ak_k211.2.2.1.1 ak_k211.2.2.1.2.1 ak_k211.2.2.1.2.2.1 (az_hc ak_k211 (5, 12, (0, 0, 0), szc_157) (0, ak_k211.2.2.1, (0, []), (0, 0))) = true := by decide +kernel
theorem ak_e211_0 : az_ex szP az_inl ak_k211.2.1 ak_t211 ak_k211.2.2.2.2.1 (fun _ => az_pre 157 []) (az_hint ak_t211) (az_leaf ak_k211 ak_h211 (some ak_d211_0.2.2.1) (az_hb 1) (az_rb 1)) 34600 ak_d211_0.2.1.1 ak_d211_0.2.1.2.1 ak_d211_0.2.1.2.2.1 (az_hc ak_k211 (5, 12, (0, 0, 0), szc_157) ak_d211_0) = true := by decide +kernel
set_option maxRecDepth 100000 in
theorem ak_v211 {X : List (List Value)} (hX : az_X X) : az_Valid X ak_k211 := az_validS sz_pkall_szP (q := (5, 12, (0, 0, 0), szc_157)) hX (tb := ak_t211) (fun _ h => by cases h) rfl (hds := ak_h211) (by decide +kernel) (List.forall_mem_cons.mpr ⟨by decide +kernel, fun _ h => by cases h⟩) (fun _ hV => ⟨_, hV, rfl, _, fun _ h => h, ak_e211⟩) (List.forall_mem_cons.mpr ⟨fun _ hV => ⟨_, hV, rfl, _, fun _ h => h, ak_e211_0⟩, fun _ h => by cases h⟩)
/-- Model.isFree -/
def ak_k212 : azCon := (158, 0, ([(0, (0, 0, []), (0, 0, []))], [(1, 200)], [], [(1, 145, []), (0, 2, []), (0, 0, [(0, 1)])], [], [], false), [(some (some (0, 0, [(1, 1)])), [(0, (0, 0, []), (0, 0, [])), (0, (0, 0, []), (0, 0, []))], [(1, 200), (0, 1)], [], [])], [], (0, 0))
def ak_t212 : List azCon := []
def ak_d212_0 : azHd := (2, ([(0, (0, 0, []), (0, 0, [])), (0, (0, 0, []), (0, 0, []))], [(1, 200), (0, 9)], [], [(1, 145, []), (0, 2, []), (0, 0, [(0, 1)]), (0, 0, [(1, 1)])], [], [], false), (19, [(1, (-2))]), (0, 0))
def ak_h212 : List azHd := [ak_d212_0]
theorem ak_e212 : az_ex szP az_inl ak_k212.2.1 ak_t212 ak_k212.2.2.2.2.1 (fun _ => az_pre 158 []) (az_hint ak_t212) (az_leaf ak_k212 ak_h212 none (az_hb 1) (az_rb 1)) 2440 ak_k212.2.2.1.1 ak_k212.2.2.1.2.1 ak_k212.2.2.1.2.2.1 (az_hc ak_k212 (4, 12, (0, 0, 0), szc_158) (0, ak_k212.2.2.1, (0, []), (0, 0))) = true := by decide +kernel
theorem ak_e212_0 : az_ex szP az_inl ak_k212.2.1 ak_t212 ak_k212.2.2.2.2.1 (fun _ => az_pre 158 []) (az_hint ak_t212) (az_leaf ak_k212 ak_h212 (some ak_d212_0.2.2.1) (az_hb 1) (az_rb 1)) 2440 ak_d212_0.2.1.1 ak_d212_0.2.1.2.1 ak_d212_0.2.1.2.2.1 (az_hc ak_k212 (4, 12, (0, 0, 0), szc_158) ak_d212_0) = true := by decide +kernel
set_option maxRecDepth 100000 in
theorem ak_v212 {X : List (List Value)} (hX : az_X X) : az_Valid X ak_k212 := az_validS sz_pkall_szP (q := (4, 12, (0, 0, 0), szc_158)) hX (tb := ak_t212) (fun _ h => by cases h) rfl (hds := ak_h212) (by decide +kernel) (List.forall_mem_cons.mpr ⟨by decide +kernel, fun _ h => by cases h⟩) (fun _ hV => ⟨_, hV, rfl, _, fun _ h => h, ak_e212⟩) (List.forall_mem_cons.mpr ⟨fun _ hV => ⟨_, hV, rfl, _, fun _ h => h, ak_e212_0⟩, fun _ h => by cases h⟩)
