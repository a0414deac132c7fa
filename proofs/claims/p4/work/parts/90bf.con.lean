/-! contracts: written by wip/A/gen56.py -/
/-- $Binder.bindTo -/
def ak_k129 : azCon := (186, 13, ([(0, (0, 0, []), (0, 0, [])), (0, (0, 0, []), (0, 0, [])), (0, (0, 0, []), (0, 0, []))], [(0, 3), (0, 20), (0, 4)], [], [(1, 46, []), (0, 0, [(0, 1)]), (0, 3, []), (0, 0, [(1, 1)]), (0, 0, [(2, 1)])], [], [], false), [(some none, [(0, (0, 0, []), (0, 0, [])), (0, (0, 0, []), (0, 0, [])), (0, (0, 0, []), (0, 0, []))], [(0, 3), (0, 20), (0, 4)], [], [])], [(42, 6), (43, 0), (44, 0), (48, 0), (49, 0), (50, 0)], (0, 0))
def ak_t129 : List azCon := [ak_k128]
def ak_h129 : List azHd := []
theorem ak_e129 : az_ex szP az_inl ak_k129.2.1 ak_t129 ak_k129.2.2.2.2.1 (fun _ => az_pre 186 []) (az_hint ak_t129) (az_leaf ak_k129 ak_h129 none (az_hb 3) (az_rb 3)) 94750 ak_k129.2.2.1.1 ak_k129.2.2.1.2.1 ak_k129.2.2.1.2.2.1 (az_hc ak_k129 (12, 1, (0, 0, 0), szc_186) (0, ak_k129.2.2.1, (0, []), (0, 0))) = true := by decide +kernel
set_option maxRecDepth 100000 in
theorem ak_v129 {X : List (List Value)} (hX : az_X X) : az_Valid X ak_k129 := az_validS sz_pkall_szP (q := (12, 1, (0, 0, 0), szc_186)) hX (tb := ak_t129) (List.forall_mem_cons.mpr ⟨ak_v128 hX, fun _ h => by cases h⟩) rfl (hds := ak_h129) (by decide +kernel) (fun _ h => by cases h) (fun _ hV => ⟨_, hV, rfl, _, fun _ h => h, ak_e129⟩) (fun _ h => by cases h)
