/-! contracts: written by wip/A/gen69.py -/
/-- Model.addressIn -/
def ak_k280 : azCon := (136, 1, ([(0, (0, 0, []), (0, 0, [])), (0, (0, 0, []), (0, 0, []))], [(0, 9), ((-2147483648), 2147483647)], [], [(1, 145, []), (0, 0, [(0, 1)]), (0, 0, [(1, 1)])], [], [], false), [(some (some (0, 0, [(2, 1)])), [(0, (0, 0, []), (0, 0, [])), (0, (0, 0, []), (0, 0, [])), (0, (0, 0, []), (0, 0, []))], [(0, 9), ((-2147483648), 2147483647), ((-2147483648), 2147483647)], [], [])], [], (0, 0))
def ak_t280 : List azCon := []
def ak_h280 : List azHd := []
theorem ak_e280 : az_ex szP az_inl ak_k280.2.1 ak_t280 ak_k280.2.2.2.2.1 (fun _ => az_pre 136 []) (az_hint ak_t280) (az_leaf ak_k280 ak_h280 none (az_hb 2) (az_rb 2)) 43450 ak_k280.2.2.1.1 ak_k280.2.2.1.2.1 ak_k280.2.2.1.2.2.1 (az_hc ak_k280 (7, 12, (0, 0, 0), szc_136) (0, ak_k280.2.2.1, (0, []), (0, 0))) = true := by decide +kernel
set_option maxRecDepth 100000 in
theorem ak_v280 {X : List (List Value)} (hX : az_X X) : az_Valid X ak_k280 := az_validS sz_pkall_szP (q := (7, 12, (0, 0, 0), szc_136)) hX (tb := ak_t280) (fun _ h => by cases h) rfl (hds := ak_h280) (by decide +kernel) (fun _ h => by cases h) (fun _ hV => ⟨_, hV, rfl, _, fun _ h => h, ak_e280⟩) (fun _ h => by cases h)
/-- Model.bankOf -/
def ak_k281 : azCon := (138, 0, ([(0, (0, 0, []), (0, 0, [])), (0, (0, 0, []), (0, 0, []))], [((-1), 1), ((-2147483648), 2147483647)], [], [(1, 145, []), (0, 0, [(0, 1)]), (0, 0, [(1, 1)])], [], [], false), [(some (some (0, 0, [(2, 1)])), [(0, (0, 0, []), (0, 0, [])), (0, (0, 0, []), (0, 0, [])), (0, (0, 0, []), (0, 0, []))], [((-1), 1), ((-2147483648), 2147483647), (0, 3)], [], [])], [], (0, 0))
def ak_t281 : List azCon := []
def ak_h281 : List azHd := []
theorem ak_e281 : az_ex szP az_inl ak_k281.2.1 ak_t281 ak_k281.2.2.2.2.1 (fun _ => az_pre 138 []) (az_hint ak_t281) (az_leaf ak_k281 ak_h281 none (az_hb 2) (az_rb 2)) 2950 ak_k281.2.2.1.1 ak_k281.2.2.1.2.1 ak_k281.2.2.1.2.2.1 (az_hc ak_k281 (5, 12, (0, 0, 0), szc_138) (0, ak_k281.2.2.1, (0, []), (0, 0))) = true := by decide +kernel
set_option maxRecDepth 100000 in
theorem ak_v281 {X : List (List Value)} (hX : az_X X) : az_Valid X ak_k281 := az_validS sz_pkall_szP (q := (5, 12, (0, 0, 0), szc_138)) hX (tb := ak_t281) (fun _ h => by cases h) rfl (hds := ak_h281) (by decide +kernel) (fun _ h => by cases h) (fun _ hV => ⟨_, hV, rfl, _, fun _ h => h, ak_e281⟩) (fun _ h => by cases h)
/-- Model.arePeaceful -/
def ak_k282 : azCon := (139, 2, ([(0, (0, 0, []), (0, 0, [])), (0, (0, 0, []), (0, 0, [])), (0, (0, 0, []), (0, 0, []))], [(0, 9), (0, 9), ((-2147483648), 2147483647)], [], [(1, 145, []), (0, 0, [(0, 1)]), (0, 0, [(1, 1)]), (0, 0, [(2, 1)])], [], [], false), [(some (some (0, 0, [(3, 1)])), [(0, (0, 0, []), (0, 0, [])), (0, (0, 0, []), (0, 0, [])), (0, (0, 0, []), (0, 0, [])), (0, (0, 0, []), (0, 0, []))], [(0, 9), (0, 9), ((-2147483648), 2147483647), (0, 1)], [], [])], [], (0, 0))
def ak_t282 : List azCon := [ak_k199, ak_k280, ak_k281]
def ak_d282_0 : azHd := (12, ([(0, (0, 0, []), (0, 0, [])), (0, (0, 0, []), (0, 0, [])), (0, (0, 0, []), (0, 0, [])), (0, (0, 0, []), (0, 0, []))], [(0, 9), (0, 9), ((-2147483648), 2147483647), (0, 16)], [], [(1, 145, []), (0, 0, [(0, 1)]), (0, 0, [(1, 1)]), (0, 0, [(2, 1)]), (0, 0, [(3, 1)])], [], [], false), (33, [(3, (-2))]), (0, 0))
def ak_h282 : List azHd := [ak_d282_0]
theorem ak_e282 : az_ex szP az_inl ak_k282.2.1 ak_t282 ak_k282.2.2.2.2.1 (fun _ => az_pre 139 []) (az_hint ak_t282) (az_leaf ak_k282 ak_h282 none (az_hb 3) (az_rb 3)) 12790 ak_k282.2.2.1.1 ak_k282.2.2.1.2.1 ak_k282.2.2.1.2.2.1 (az_hc ak_k282 (5, 12, (0, 0, 0), szc_139) (0, ak_k282.2.2.1, (0, []), (0, 0))) = true := by decide +kernel
theorem ak_e282_0 : az_ex szP az_inl ak_k282.2.1 ak_t282 ak_k282.2.2.2.2.1 (fun _ => az_pre 139 []) (az_hint ak_t282) (az_leaf ak_k282 ak_h282 (some ak_d282_0.2.2.1) (az_hb 3) (az_rb 3)) 12790 ak_d282_0.2.1.1 ak_d282_0.2.1.2.1 ak_d282_0.2.1.2.2.1 (az_hc ak_k282 (5, 12, (0, 0, 0), szc_139) ak_d282_0) = true := by decide +kernel
set_option maxRecDepth 100000 in
theorem ak_v282 {X : List (List Value)} (hX : az_X X) : az_Valid X ak_k282 := az_validS sz_pkall_szP (q := (5, 12, (0, 0, 0), szc_139)) hX (tb := ak_t282) (List.forall_mem_cons.mpr ⟨ak_v199 hX, List.forall_mem_cons.mpr ⟨ak_v280 hX, List.forall_mem_cons.mpr ⟨ak_v281 hX, fun _ h => by cases h⟩⟩⟩) rfl (hds := ak_h282) (by decide +kernel) (List.forall_mem_cons.mpr ⟨by decide +kernel, fun _ h => by cases h⟩) (fun _ hV => ⟨_, hV, rfl, _, fun _ h => h, ak_e282⟩) (List.forall_mem_cons.mpr ⟨fun _ hV => ⟨_, hV, rfl, _, fun _ h => h, ak_e282_0⟩, fun _ h => by cases h⟩)
