/-! the first heap keeps what is in common -/
def lxIb (h : List mzC) : Bool := decide (hv h 8 1 = hv h 141 2)
theorem sx_inv : (match st_pre ([] :: stT) 100000 40 0 [(0, .ref 0)] [] ([], 0, 0) with
  | some q => lxIb q.2.1
  | none => false) = true := by decide +kernel
theorem sx_lwI {lo : mzL} {s : mzS} (h : st_pre ([] :: stT) 100000 40 0 [(0, .ref 0)] [] ([], 0, 0) = some (lo, s)) : lxI s.1 := by
  have q := sx_inv
  rw [h] at q
  unfold lxIb at q
  simp only [Bool.and_eq_true, decide_eq_true_eq] at q
  exact q
