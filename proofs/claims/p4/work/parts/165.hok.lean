/-! handlers, and the sizes of frames -/
def mz_hokB (M : mzM) (t : mzT) : Bool := decide (M.2.2.1.2.1 = 0) || match t.2.2.2.2.2.2 with
  | [(a, b, h, ct)] => (List.range M.2.2.2.length).all (fun i => !(decide (M.2.2.1.1 ≤ i ∧ i < M.2.2.1.2.1)) || (decide (a ≤ mz_pc t.2.2.2.1 i ∧ mz_pc t.2.2.2.1 i < b) && match M.2.2.2[i]? with
      | some ri => !(ri.1 == 40) || (match mzP[ri.2.1]?, mzQ[ri.2.1]? with
        | some M', some t' => decide (0 < M'.2.1) && decide (t'.1.name ≠ "<init>")
        | _, _ => false)
      | none => false)) && decide (h = mz_pc t.2.2.2.1 M.2.2.1.2.2) && decide (ct ≠ 0) && decide (Cond.classLink t.1.cls ct "java/util/NoSuchElementException" ∈ mz_WS)
  | _ => false
set_option maxRecDepth 100000 in
theorem mz_hokall : (mzP.zip mzQ).all (fun q => mz_hokB q.1 q.2) = true := by decide +kernel
theorem mz_hok_at {j : Nat} {M : mzM} {t : mzT} (hM : mzP[j]? = some M) (ht : mzQ[j]? = some t) : mz_hokB M t = true := by
  refine List.all_eq_true.mp mz_hokall (M, t) (List.mem_of_getElem? (i := j) ?_)
  rw [List.getElem?_zip_eq_some]
  exact ⟨hM, ht⟩
set_option maxRecDepth 100000 in
theorem mz_maxL : mzP.all (fun M => decide (M.1 ≤ 21)) = true := by decide +kernel
theorem mz_maxL_at {j : Nat} {M : mzM} (hM : mzP[j]? = some M) : M.1 ≤ 21 := by simpa using List.all_eq_true.mp mz_maxL M (List.mem_of_getElem? hM)
theorem mz_castw : Cond.castable "java/util/NoSuchElementException" "java/util/NoSuchElementException" ∈ lw_tbl := by decide +kernel
