/-! keep: written by wip/A/gen82.py -/
def lwr0 : Int × Int := (0, 1)
def lwkt0 : List azCon := [ak_k311, ak_k312]
theorem lwk_0 : az_ex szP a3Inl (lwK lwr0).2.1 lwkt0 (lwK lwr0).2.2.2.2.1 (fun _ => az_pre 0 []) (az_hint lwkt0) (az_lvx szP a3Inl (lwK lwr0).2.1 lwkt0 (lwK lwr0).2.2.2.2.1 (fun _ => az_pre 0 []) (az_hint lwkt0) 1500 (az_leaf (lwK lwr0) [lwKE lwr0] none (az_hb 3) (az_rb 3)) az_rkn 3) 1500 (lwK lwr0).2.2.1.1 (lwK lwr0).2.2.1.2.1 (lwK lwr0).2.2.1.2.2.1 (az_hc (lwK lwr0) (8, 0, (0, 0, 0), szc_0) (609, (lwK lwr0).2.2.1, (0, []), (0, 0))) = true := by decide +kernel
theorem lwkv0 {X : List (List Value)} (hX : az_X X) : ∀ c ∈ lwkt0, az_Valid X c := List.forall_mem_cons.mpr ⟨ak_v311 hX, List.forall_mem_cons.mpr ⟨ak_v312 hX, fun _ h => by cases h⟩⟩
def lwr1 : Int × Int := ((-2147483648), (-1))
def lwkt1 : List azCon := [ak_k314, ak_k315]
theorem lwk_1 : az_ex szP a3Inl (lwK lwr1).2.1 lwkt1 (lwK lwr1).2.2.2.2.1 (fun _ => az_pre 0 []) (az_hint lwkt1) (az_lvx szP a3Inl (lwK lwr1).2.1 lwkt1 (lwK lwr1).2.2.2.2.1 (fun _ => az_pre 0 []) (az_hint lwkt1) 1500 (az_leaf (lwK lwr1) [lwKE lwr1] none (az_hb 3) (az_rb 3)) az_rkn 3) 1500 (lwK lwr1).2.2.1.1 (lwK lwr1).2.2.1.2.1 (lwK lwr1).2.2.1.2.2.1 (az_hc (lwK lwr1) (8, 0, (0, 0, 0), szc_0) (609, (lwK lwr1).2.2.1, (0, []), (0, 0))) = true := by decide +kernel
theorem lwkv1 {X : List (List Value)} (hX : az_X X) : ∀ c ∈ lwkt1, az_Valid X c := List.forall_mem_cons.mpr ⟨ak_v314 hX, List.forall_mem_cons.mpr ⟨ak_v315 hX, fun _ h => by cases h⟩⟩
def lwr2 : Int × Int := (2, 2147483647)
def lwkt2 : List azCon := [ak_k317, ak_k318]
theorem lwk_2 : az_ex szP a3Inl (lwK lwr2).2.1 lwkt2 (lwK lwr2).2.2.2.2.1 (fun _ => az_pre 0 []) (az_hint lwkt2) (az_lvx szP a3Inl (lwK lwr2).2.1 lwkt2 (lwK lwr2).2.2.2.2.1 (fun _ => az_pre 0 []) (az_hint lwkt2) 1500 (az_leaf (lwK lwr2) [lwKE lwr2] none (az_hb 3) (az_rb 3)) az_rkn 3) 1500 (lwK lwr2).2.2.1.1 (lwK lwr2).2.2.1.2.1 (lwK lwr2).2.2.1.2.2.1 (az_hc (lwK lwr2) (8, 0, (0, 0, 0), szc_0) (609, (lwK lwr2).2.2.1, (0, []), (0, 0))) = true := by decide +kernel
theorem lwkv2 {X : List (List Value)} (hX : az_X X) : ∀ c ∈ lwkt2, az_Valid X c := List.forall_mem_cons.mpr ⟨ak_v317 hX, List.forall_mem_cons.mpr ⟨ak_v318 hX, fun _ h => by cases h⟩⟩
