/-! cases of the law: written by wip/B/genlaw.py -/
def lwt7 : List azCon := [ak_k40, ak_k182]
theorem lwv7 {X : List (List Value)} (hX : az_X X) : ∀ c ∈ lwt7, az_Valid X c := List.forall_mem_cons.mpr ⟨ak_v40 hX, List.forall_mem_cons.mpr ⟨ak_v182 hX, fun _ h => by cases h⟩⟩
theorem lw_7 : az_ex szP a3Inl lwc1.2.1 lwt7 lwc1.2.2.2.2.1 (fun _ => az_pre 0 []) (az_hint lwt7) (az_lvx szP a3Inl lwc1.2.1 lwt7 lwc1.2.2.2.2.1 (fun _ => az_pre 0 []) (az_hint lwt7) 1500 (az_leaf lwc1 [lwE] none (az_hb 2) (az_rb 2)) lwRd 9) 1500 lwc1.2.2.1.1 lwc1.2.2.1.2.1 lwc1.2.2.1.2.2.1 (az_hc lwc1 (8, 0, (0, 0, 0), szc_0) (186, lwc1.2.2.1, (0, []), (0, 0))) = true := by decide +kernel
def lwt8 : List azCon := [ak_k41, ak_k183]
theorem lwv8 {X : List (List Value)} (hX : az_X X) : ∀ c ∈ lwt8, az_Valid X c := List.forall_mem_cons.mpr ⟨ak_v41 hX, List.forall_mem_cons.mpr ⟨ak_v183 hX, fun _ h => by cases h⟩⟩
theorem lw_8 : az_ex szP a3Inl lwc1.2.1 lwt8 lwc1.2.2.2.2.1 (fun _ => az_pre 0 []) (az_hint lwt8) (az_lvx szP a3Inl lwc1.2.1 lwt8 lwc1.2.2.2.2.1 (fun _ => az_pre 0 []) (az_hint lwt8) 1500 (az_leaf lwc1 [lwE] none (az_hb 2) (az_rb 2)) lwRd 9) 1500 lwc1.2.2.1.1 lwc1.2.2.1.2.1 lwc1.2.2.1.2.2.1 (az_hc lwc1 (8, 0, (0, 0, 0), szc_0) (213, lwc1.2.2.1, (0, []), (0, 0))) = true := by decide +kernel
def lwt9 : List azCon := [ak_k46, ak_k187]
theorem lwv9 {X : List (List Value)} (hX : az_X X) : ∀ c ∈ lwt9, az_Valid X c := List.forall_mem_cons.mpr ⟨ak_v46 hX, List.forall_mem_cons.mpr ⟨ak_v187 hX, fun _ h => by cases h⟩⟩
theorem lw_9 : az_ex szP a3Inl lwc1.2.1 lwt9 lwc1.2.2.2.2.1 (fun _ => az_pre 0 []) (az_hint lwt9) (az_lvx szP a3Inl lwc1.2.1 lwt9 lwc1.2.2.2.2.1 (fun _ => az_pre 0 []) (az_hint lwt9) 1500 (az_leaf lwc1 [lwE] none (az_hb 2) (az_rb 2)) lwRd 9) 1500 lwc1.2.2.1.1 lwc1.2.2.1.2.1 lwc1.2.2.1.2.2.1 (az_hc lwc1 (8, 0, (0, 0, 0), szc_0) (250, lwc1.2.2.1, (0, []), (0, 0))) = true := by decide +kernel
