/-! the first heap keeps what is in common -/
def lwIb (h : List mzC) : Bool := (List.range 80).all (fun q => decide (hv h 9 q % 256 = hv h 143 q % 256)) && decide (hv h 8 1 = hv h 141 2)
set_option maxRecDepth 20000 in
theorem st_inv : (match st_pre ([] :: stT) 100000 40 0 [(0, .ref 0)] [] ([], 0, 0) with
  | some q => lwIb q.2.1
  | none => false) = true := by decide +kernel
set_option maxRecDepth 20000 in
theorem st_lwI {lo : mzL} {s : mzS} (h : st_pre ([] :: stT) 100000 40 0 [(0, .ref 0)] [] ([], 0, 0) = some (lo, s)) : lwI s.1 := by
  have q := st_inv
  rw [h] at q
  unfold lwIb at q
  simp only [Bool.and_eq_true, decide_eq_true_eq] at q
  exact ⟨q.2, fun k hk => of_decide_eq_true (List.all_eq_true.mp q.1 k (List.mem_range.mpr hk))⟩
