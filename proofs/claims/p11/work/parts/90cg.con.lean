/-! contracts: written by wip/A/gen56.py -/
/-- Model.readAct -/
def ak_k171 : azCon := (95, 4, ([(0, (0, 0, []), (0, 0, []))], [(0, 0)], [], [(1, 145, []), (0, 0, [(0, 1)])], [], [], false), [(some none, [(0, (0, 0, []), (0, 0, []))], [(0, 0)], [], [])], [(141, 11), (141, 8), (141, 9), (145, 0)], (0, 0))
def ak_t171 : List azCon := [ak_k168, ak_k169, ak_k170]
def ak_h171 : List azHd := []
theorem ak_e171 : az_ex szP az_inl ak_k171.2.1 ak_t171 ak_k171.2.2.2.2.1 (fun _ => az_pre 95 []) (az_hint ak_t171) (az_leaf ak_k171 ak_h171 none (az_hb 1) (az_rb 1)) 90730 ak_k171.2.2.1.1 ak_k171.2.2.1.2.1 ak_k171.2.2.1.2.2.1 (az_hc ak_k171 (3, 12, (0, 0, 0), szc_95) (0, ak_k171.2.2.1, (0, []), (0, 0))) = true := by decide +kernel
set_option maxRecDepth 100000 in
theorem ak_v171 {X : List (List Value)} (hX : az_X X) : az_Valid X ak_k171 := az_validS sz_pkall_szP (q := (3, 12, (0, 0, 0), szc_95)) hX (tb := ak_t171) (List.forall_mem_cons.mpr ⟨ak_v168 hX, List.forall_mem_cons.mpr ⟨ak_v169 hX, List.forall_mem_cons.mpr ⟨ak_v170 hX, fun _ h => by cases h⟩⟩⟩) rfl (hds := ak_h171) (by decide +kernel) (fun _ h => by cases h) (fun _ hV => ⟨_, hV, rfl, _, fun _ h => h, ak_e171⟩) (fun _ h => by cases h)
