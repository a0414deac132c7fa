/-! the first heap keeps what is in common -/
def lwIb (h : List mzC) : Bool := true
set_option maxRecDepth 20000 in
theorem st_inv : (match st_pre ([] :: stT) 100000 40 0 [(0, .ref 0)] [] ([], 0, 0) with
  | some q => lwIb q.2.1
  | none => false) = true := by decide +kernel
set_option maxRecDepth 20000 in
theorem st_lwI {lo : mzL} {s : mzS} (_h : st_pre ([] :: stT) 100000 40 0 [(0, .ref 0)] [] ([], 0, 0) = some (lo, s)) : lwI s.1 := trivial
