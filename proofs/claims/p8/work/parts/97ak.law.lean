/-! cases of the law: written by wip/B/genlaw.py -/
def lwt30 : List azCon := [ak_k277, ak_k307]
theorem lwv30 {X : List (List Value)} (hX : az_X X) : ∀ c ∈ lwt30, az_Valid X c := List.forall_mem_cons.mpr ⟨ak_v277 hX, List.forall_mem_cons.mpr ⟨ak_v307 hX, fun _ h => by cases h⟩⟩
theorem lw_30 : az_ex szP a3Inl lwc1.2.1 lwt30 lwc1.2.2.2.2.1 (fun _ => az_pre 0 []) (az_hint lwt30) (az_lvx szP a3Inl lwc1.2.1 lwt30 lwc1.2.2.2.2.1 (fun _ => az_pre 0 []) (az_hint lwt30) 1500 (az_leaf lwc1 [lwE] none (az_hb 2) (az_rb 2)) lwRd 9) 1500 lwc1.2.2.1.1 lwc1.2.2.1.2.1 lwc1.2.2.1.2.2.1 (az_hc lwc1 (8, 0, (0, 0, 0), szc_0) (538, lwc1.2.2.1, (0, []), (0, 0))) = true := by decide +kernel
def lwt31 : List azCon := [ak_k278, ak_k308]
theorem lwv31 {X : List (List Value)} (hX : az_X X) : ∀ c ∈ lwt31, az_Valid X c := List.forall_mem_cons.mpr ⟨ak_v278 hX, List.forall_mem_cons.mpr ⟨ak_v308 hX, fun _ h => by cases h⟩⟩
theorem lw_31 : az_ex szP a3Inl lwc1.2.1 lwt31 lwc1.2.2.2.2.1 (fun _ => az_pre 0 []) (az_hint lwt31) (az_lvx szP a3Inl lwc1.2.1 lwt31 lwc1.2.2.2.2.1 (fun _ => az_pre 0 []) (az_hint lwt31) 1500 (az_leaf lwc1 [lwE] none (az_hb 2) (az_rb 2)) lwRd 9) 1500 lwc1.2.2.1.1 lwc1.2.2.1.2.1 lwc1.2.2.1.2.2.1 (az_hc lwc1 (8, 0, (0, 0, 0), szc_0) (555, lwc1.2.2.1, (0, []), (0, 0))) = true := by decide +kernel
def lwt32 : List azCon := [ak_k279, ak_k309]
theorem lwv32 {X : List (List Value)} (hX : az_X X) : ∀ c ∈ lwt32, az_Valid X c := List.forall_mem_cons.mpr ⟨ak_v279 hX, List.forall_mem_cons.mpr ⟨ak_v309 hX, fun _ h => by cases h⟩⟩
theorem lw_32 : az_ex szP a3Inl lwc1.2.1 lwt32 lwc1.2.2.2.2.1 (fun _ => az_pre 0 []) (az_hint lwt32) (az_lvx szP a3Inl lwc1.2.1 lwt32 lwc1.2.2.2.2.1 (fun _ => az_pre 0 []) (az_hint lwt32) 1500 (az_leaf lwc1 [lwE] none (az_hb 2) (az_rb 2)) lwRd 9) 1500 lwc1.2.2.1.1 lwc1.2.2.1.2.1 lwc1.2.2.1.2.2.1 (az_hc lwc1 (8, 0, (0, 0, 0), szc_0) (582, lwc1.2.2.1, (0, []), (0, 0))) = true := by decide +kernel
def lwt33 : List azCon := [ak_k157, ak_k252]
theorem lwv33 {X : List (List Value)} (hX : az_X X) : ∀ c ∈ lwt33, az_Valid X c := List.forall_mem_cons.mpr ⟨ak_v157 hX, List.forall_mem_cons.mpr ⟨ak_v252 hX, fun _ h => by cases h⟩⟩
theorem lw_33 : az_ex szP a3Inl lwc1.2.1 lwt33 lwc1.2.2.2.2.1 (fun _ => az_pre 0 []) (az_hint lwt33) (az_lvx szP a3Inl lwc1.2.1 lwt33 lwc1.2.2.2.2.1 (fun _ => az_pre 0 []) (az_hint lwt33) 1500 (az_leaf lwc1 [lwE] none (az_hb 2) (az_rb 2)) lwRd 9) 1500 lwc1.2.2.1.1 lwc1.2.2.1.2.1 lwc1.2.2.1.2.2.1 (az_hc lwc1 (8, 0, (0, 0, 0), szc_0) (609, lwc1.2.2.1, (0, []), (0, 0))) = true := by decide +kernel
def lwt34 : List azCon := [ak_k163, ak_k253]
theorem lwv34 {X : List (List Value)} (hX : az_X X) : ∀ c ∈ lwt34, az_Valid X c := List.forall_mem_cons.mpr ⟨ak_v163 hX, List.forall_mem_cons.mpr ⟨ak_v253 hX, fun _ h => by cases h⟩⟩
theorem lw_34 : az_ex szP a3Inl lwc1.2.1 lwt34 lwc1.2.2.2.2.1 (fun _ => az_pre 0 []) (az_hint lwt34) (az_lvx szP a3Inl lwc1.2.1 lwt34 lwc1.2.2.2.2.1 (fun _ => az_pre 0 []) (az_hint lwt34) 1500 (az_leaf lwc1 [lwE] none (az_hb 2) (az_rb 2)) lwRd 9) 1500 lwc1.2.2.1.1 lwc1.2.2.1.2.1 lwc1.2.2.1.2.2.1 (az_hc lwc1 (8, 0, (0, 0, 0), szc_0) (626, lwc1.2.2.1, (0, []), (0, 0))) = true := by decide +kernel
def lwt35 : List azCon := [ak_k165, ak_k255]
theorem lwv35 {X : List (List Value)} (hX : az_X X) : ∀ c ∈ lwt35, az_Valid X c := List.forall_mem_cons.mpr ⟨ak_v165 hX, List.forall_mem_cons.mpr ⟨ak_v255 hX, fun _ h => by cases h⟩⟩
theorem lw_35 : az_ex szP a3Inl lwc1.2.1 lwt35 lwc1.2.2.2.2.1 (fun _ => az_pre 0 []) (az_hint lwt35) (az_lvx szP a3Inl lwc1.2.1 lwt35 lwc1.2.2.2.2.1 (fun _ => az_pre 0 []) (az_hint lwt35) 1500 (az_leaf lwc1 [lwE] none (az_hb 2) (az_rb 2)) lwRd 9) 1500 lwc1.2.2.1.1 lwc1.2.2.1.2.1 lwc1.2.2.1.2.2.1 (az_hc lwc1 (8, 0, (0, 0, 0), szc_0) (643, lwc1.2.2.1, (0, []), (0, 0))) = true := by decide +kernel
def lwt36 : List azCon := []
theorem lwv36 {X : List (List Value)} (hX : az_X X) : ∀ c ∈ lwt36, az_Valid X c := fun _ h => by cases h
theorem lw_36 : az_ex szP a3Inl lwc1.2.1 lwt36 lwc1.2.2.2.2.1 (fun _ => az_pre 0 []) (az_hint lwt36) (az_lvx szP a3Inl lwc1.2.1 lwt36 lwc1.2.2.2.2.1 (fun _ => az_pre 0 []) (az_hint lwt36) 1500 (az_leaf lwc1 [lwE] none (az_hb 2) (az_rb 2)) lwRd 9) 1500 lwc1.2.2.1.1 lwc1.2.2.1.2.1 lwc1.2.2.1.2.2.1 (az_hc lwc1 (8, 0, (0, 0, 0), szc_0) (660, lwc1.2.2.1, (0, []), (0, 0))) = true := by decide +kernel
