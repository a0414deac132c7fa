/-! the heap behind the constructors -/
def stT : List (List Value) := azX.tail.map (fun l => l.map (fun c => Value.int (Int32.ofInt c)))
theorem st_some : (mz_pre ([] :: stT) 100000 40 0 [(0, .ref 0)] [] ([], 0, 0)).isSome = true := by decide +kernel
