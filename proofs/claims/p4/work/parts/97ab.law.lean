/-! cases of the law: written by wip/B/genlaw.py -/
def lwt0 : List azCon := []
theorem lwv0 {X : List (List Value)} (hX : az_X X) : ∀ c ∈ lwt0, az_Valid X c := fun _ h => by cases h
def lwt1 : List azCon := []
theorem lwv1 {X : List (List Value)} (hX : az_X X) : ∀ c ∈ lwt1, az_Valid X c := fun _ h => by cases h
def lwr1_0 : Int × Int := ((-2147483648), 2147483647)
theorem lwk_1_0 : az_ex szP a3Inl (lwK lwr1_0).2.1 lwt1 (lwK lwr1_0).2.2.2.2.1 (fun _ => az_pre 0 []) (az_hint lwt1) (az_lvx szP a3Inl (lwK lwr1_0).2.1 lwt1 (lwK lwr1_0).2.2.2.2.1 (fun _ => az_pre 0 []) (az_hint lwt1) 1500 (az_leaf (lwK lwr1_0) [lwKE lwr1_0] none (az_hb 4) (az_rb 4)) az_rkn 3) 1500 (lwK lwr1_0).2.2.1.1 (lwK lwr1_0).2.2.1.2.1 (lwK lwr1_0).2.2.1.2.2.1 (az_hc (lwK lwr1_0) (8, 0, (0, 0, 0), szc_0) (42, (lwK lwr1_0).2.2.1, (0, []), (0, 0))) = true := by decide +kernel
def lwt2 : List azCon := [ak_k31, ak_k176]
theorem lwv2 {X : List (List Value)} (hX : az_X X) : ∀ c ∈ lwt2, az_Valid X c := List.forall_mem_cons.mpr ⟨ak_v31 hX, List.forall_mem_cons.mpr ⟨ak_v176 hX, fun _ h => by cases h⟩⟩
def lwt3 : List azCon := [ak_k35, ak_k178]
theorem lwv3 {X : List (List Value)} (hX : az_X X) : ∀ c ∈ lwt3, az_Valid X c := List.forall_mem_cons.mpr ⟨ak_v35 hX, List.forall_mem_cons.mpr ⟨ak_v178 hX, fun _ h => by cases h⟩⟩
theorem lw_3 : az_ex szP a3Inl lwc1.2.1 lwt3 lwc1.2.2.2.2.1 (fun _ => az_pre 0 []) (az_hint lwt3) (az_lvx szP a3Inl lwc1.2.1 lwt3 lwc1.2.2.2.2.1 (fun _ => az_pre 0 []) (az_hint lwt3) 1500 (az_leaf lwc1 [lwE] none (az_hb 3) (az_rb 3)) lwRd 9) 1500 lwc1.2.2.1.1 lwc1.2.2.1.2.1 lwc1.2.2.1.2.2.1 (az_hc lwc1 (8, 0, (0, 0, 0), szc_0) (66, lwc1.2.2.1, (0, []), (0, 0))) = true := by decide +kernel
def lwt4 : List azCon := [ak_k36, ak_k179]
theorem lwv4 {X : List (List Value)} (hX : az_X X) : ∀ c ∈ lwt4, az_Valid X c := List.forall_mem_cons.mpr ⟨ak_v36 hX, List.forall_mem_cons.mpr ⟨ak_v179 hX, fun _ h => by cases h⟩⟩
theorem lw_4 : az_ex szP a3Inl lwc1.2.1 lwt4 lwc1.2.2.2.2.1 (fun _ => az_pre 0 []) (az_hint lwt4) (az_lvx szP a3Inl lwc1.2.1 lwt4 lwc1.2.2.2.2.1 (fun _ => az_pre 0 []) (az_hint lwt4) 1500 (az_leaf lwc1 [lwE] none (az_hb 3) (az_rb 3)) lwRd 9) 1500 lwc1.2.2.1.1 lwc1.2.2.1.2.1 lwc1.2.2.1.2.2.1 (az_hc lwc1 (8, 0, (0, 0, 0), szc_0) (83, lwc1.2.2.1, (0, []), (0, 0))) = true := by decide +kernel
def lwt5 : List azCon := [ak_k37, ak_k180]
theorem lwv5 {X : List (List Value)} (hX : az_X X) : ∀ c ∈ lwt5, az_Valid X c := List.forall_mem_cons.mpr ⟨ak_v37 hX, List.forall_mem_cons.mpr ⟨ak_v180 hX, fun _ h => by cases h⟩⟩
theorem lw_5 : az_ex szP a3Inl lwc1.2.1 lwt5 lwc1.2.2.2.2.1 (fun _ => az_pre 0 []) (az_hint lwt5) (az_lvx szP a3Inl lwc1.2.1 lwt5 lwc1.2.2.2.2.1 (fun _ => az_pre 0 []) (az_hint lwt5) 1500 (az_leaf lwc1 [lwE] none (az_hb 3) (az_rb 3)) lwRd 9) 1500 lwc1.2.2.1.1 lwc1.2.2.1.2.1 lwc1.2.2.1.2.2.1 (az_hc lwc1 (8, 0, (0, 0, 0), szc_0) (111, lwc1.2.2.1, (0, []), (0, 0))) = true := by decide +kernel
def lwt6 : List azCon := [ak_k39, ak_k181]
theorem lwv6 {X : List (List Value)} (hX : az_X X) : ∀ c ∈ lwt6, az_Valid X c := List.forall_mem_cons.mpr ⟨ak_v39 hX, List.forall_mem_cons.mpr ⟨ak_v181 hX, fun _ h => by cases h⟩⟩
theorem lw_6 : az_ex szP a3Inl lwc1.2.1 lwt6 lwc1.2.2.2.2.1 (fun _ => az_pre 0 []) (az_hint lwt6) (az_lvx szP a3Inl lwc1.2.1 lwt6 lwc1.2.2.2.2.1 (fun _ => az_pre 0 []) (az_hint lwt6) 1500 (az_leaf lwc1 [lwE] none (az_hb 3) (az_rb 3)) lwRd 9) 1500 lwc1.2.2.1.1 lwc1.2.2.1.2.1 lwc1.2.2.1.2.2.1 (az_hc lwc1 (8, 0, (0, 0, 0), szc_0) (139, lwc1.2.2.1, (0, []), (0, 0))) = true := by decide +kernel
def lwt7 : List azCon := [ak_k40, ak_k182]
theorem lwv7 {X : List (List Value)} (hX : az_X X) : ∀ c ∈ lwt7, az_Valid X c := List.forall_mem_cons.mpr ⟨ak_v40 hX, List.forall_mem_cons.mpr ⟨ak_v182 hX, fun _ h => by cases h⟩⟩
theorem lw_7 : az_ex szP a3Inl lwc1.2.1 lwt7 lwc1.2.2.2.2.1 (fun _ => az_pre 0 []) (az_hint lwt7) (az_lvx szP a3Inl lwc1.2.1 lwt7 lwc1.2.2.2.2.1 (fun _ => az_pre 0 []) (az_hint lwt7) 1500 (az_leaf lwc1 [lwE] none (az_hb 3) (az_rb 3)) lwRd 9) 1500 lwc1.2.2.1.1 lwc1.2.2.1.2.1 lwc1.2.2.1.2.2.1 (az_hc lwc1 (8, 0, (0, 0, 0), szc_0) (186, lwc1.2.2.1, (0, []), (0, 0))) = true := by decide +kernel
def lwt8 : List azCon := [ak_k41, ak_k183]
theorem lwv8 {X : List (List Value)} (hX : az_X X) : ∀ c ∈ lwt8, az_Valid X c := List.forall_mem_cons.mpr ⟨ak_v41 hX, List.forall_mem_cons.mpr ⟨ak_v183 hX, fun _ h => by cases h⟩⟩
theorem lw_8 : az_ex szP a3Inl lwc1.2.1 lwt8 lwc1.2.2.2.2.1 (fun _ => az_pre 0 []) (az_hint lwt8) (az_lvx szP a3Inl lwc1.2.1 lwt8 lwc1.2.2.2.2.1 (fun _ => az_pre 0 []) (az_hint lwt8) 1500 (az_leaf lwc1 [lwE] none (az_hb 3) (az_rb 3)) lwRd 9) 1500 lwc1.2.2.1.1 lwc1.2.2.1.2.1 lwc1.2.2.1.2.2.1 (az_hc lwc1 (8, 0, (0, 0, 0), szc_0) (213, lwc1.2.2.1, (0, []), (0, 0))) = true := by decide +kernel
def lwt9 : List azCon := [ak_k46, ak_k187]
theorem lwv9 {X : List (List Value)} (hX : az_X X) : ∀ c ∈ lwt9, az_Valid X c := List.forall_mem_cons.mpr ⟨ak_v46 hX, List.forall_mem_cons.mpr ⟨ak_v187 hX, fun _ h => by cases h⟩⟩
theorem lw_9 : az_ex szP a3Inl lwc1.2.1 lwt9 lwc1.2.2.2.2.1 (fun _ => az_pre 0 []) (az_hint lwt9) (az_lvx szP a3Inl lwc1.2.1 lwt9 lwc1.2.2.2.2.1 (fun _ => az_pre 0 []) (az_hint lwt9) 1500 (az_leaf lwc1 [lwE] none (az_hb 3) (az_rb 3)) lwRd 9) 1500 lwc1.2.2.1.1 lwc1.2.2.1.2.1 lwc1.2.2.1.2.2.1 (az_hc lwc1 (8, 0, (0, 0, 0), szc_0) (250, lwc1.2.2.1, (0, []), (0, 0))) = true := by decide +kernel
