/-! M: a small machine of my own. Instructions are resolved (fields, methods, targets by number); the heap is a list of cells; a reference r is the script (0), a static array (1, 2, 3), or the cell number r - 4. -/
/-- an instruction: op, a, b, c, targets -/
abbrev mzI : Type := Nat × Nat × Nat × Int × List (Int × Nat)
/-- a cell: 2 * class (an object, its fields), 2 * kind + 1 (an array; kinds: 0 int, 1 long, 2 byte, 3 boolean, 4 of LoopsToUnits$Held) -/
abbrev mzC : Type := Nat × List Value
/-- heap, cells made, slots made -/
abbrev mzS : Type := List mzC × Nat × Nat
abbrev mzL : Type := List (Nat × Value)
def mz_bin (a : Nat) (x y : Int32) : Option Int32 := match a with
  | 0 => some (x + y)
  | 1 => some (x - y)
  | 2 => some (x * y)
  | 3 => some (x &&& y)
  | 4 => some (x ||| y)
  | 5 => some (x ^^^ y)
  | 6 => some (x <<< (y &&& 31))
  | 7 => some (x >>> (y &&& 31))
  | 8 => some ((x.toUInt32 >>> (y.toUInt32 &&& Int32.toUInt32 31)).toInt32)
  | 9 => if y = 0 then none else some (x / y)
  | 10 => if y = 0 then none else some (x - x / y * y)
  | _ => none
def mz_un (a : Nat) (x : Int32) : Option Int32 := match a with
  | 0 => some (-x)
  | 1 => some (x.toInt8.toInt32)
  | 2 => some (x.toInt16.toInt32)
  | _ => none
def mz_cond (a : Nat) (x y : Int32) : Option Bool := match a with
  | 0 => some (decide (x = y))
  | 1 => some (decide (¬ x = y))
  | 2 => some (decide (x < y))
  | 3 => some (decide (y ≤ x))
  | 4 => some (decide (y < x))
  | 5 => some (decide (x ≤ y))
  | _ => none
def mz_tab (sw : List (Int × Nat)) (d : Nat) (k : Int) : Option Nat := if k < 0 ∨ (sw.length : Int) ≤ k then some d else (sw[k.toNat]?).map (fun q => q.2)
def mz_look : List (Int × Nat) → Nat → Int → Nat
  | [], d, _ => d
  | (a, t) :: r, d, x => if x = a then t else mz_look r d x
def mz_st1 (lo : mzL) (i : Nat) (v : Value) : mzL := (i, v) :: lo.filter (fun q => !(q.1 == i) && !(q.1 + 1 == i && q.2.category == 2))
def mz_st2 (lo : mzL) (i : Nat) (v : Value) : mzL := (i, v) :: lo.filter (fun q => !(q.1 == i) && (!(q.1 == i + 1) && !(q.1 + 1 == i && q.2.category == 2)))
def mz_up (lo : mzL) (i : Nat) (v : Value) : mzL := lo.map (fun q => if q.1 = i then (q.1, v) else q)
def mz_ld : mzL → Nat → Option Value
  | [], _ => none
  | (k, v) :: r, i => if k = i then some v else mz_ld r i
/-- a value's type: 0 int, 1 a reference, 2 long -/
def mz_ty : Value → Nat
  | .int _ => 0
  | .ref _ => 1
  | .long _ => 2
  | .retAddr _ => 3
  | _ => 4
abbrev mzR : Type := Option (Nat × mzL × List Value)
/-- instructions that touch locals and stack alone: where it goes on, locals, stack -/
def mz_o2 (a b i : Nat) (lo : mzL) (st : List Value) : mzR := match mz_ld lo a with
  | some v => if mz_ty v = b ∧ b < 3 then some (i + 1, lo, v :: st) else none
  | none => none
def mz_o3 (a b i nL : Nat) (lo : mzL) (st : List Value) : mzR := match st with
  | v :: rest => if (mz_ty v = b ∨ (mz_ty v = 3 ∧ b = 1)) ∧ b < 2 ∧ a < nL then some (i + 1, mz_st1 lo a v, rest) else none
  | _ => none
def mz_o4 (a i nL : Nat) (lo : mzL) (st : List Value) : mzR := match st with
  | .long x :: rest => if a + 1 < nL then some (i + 1, mz_st2 lo a (.long x), rest) else none
  | _ => none
def mz_o5 (a i nL : Nat) (c : Int) (lo : mzL) (st : List Value) : mzR := match mz_ld lo a with
  | some (.int x) => if a < nL then some (i + 1, mz_up lo a (.int (x + Int32.ofInt c)), st) else none
  | _ => none
def mz_o6 (a i : Nat) (lo : mzL) (st : List Value) : mzR := match st with
  | .int y :: .int x :: rest => match mz_bin a x y with
    | some z => some (i + 1, lo, .int z :: rest)
    | none => none
  | _ => none
def mz_o7 (a i : Nat) (lo : mzL) (st : List Value) : mzR := match st with
  | .int x :: rest => match mz_un a x with
    | some z => some (i + 1, lo, .int z :: rest)
    | none => none
  | _ => none
def mz_o8 (i : Nat) (lo : mzL) (st : List Value) : mzR := match st with
  | .int x :: rest => some (i + 1, lo, .long x.toInt64 :: rest)
  | _ => none
def mz_o9 (a i : Nat) (lo : mzL) (st : List Value) : mzR := match st with
  | .long y :: .long x :: rest => if a = 0 then some (i + 1, lo, .long (x &&& y) :: rest) else some (i + 1, lo, .long (x ||| y) :: rest)
  | _ => none
def mz_o10 (i : Nat) (lo : mzL) (st : List Value) : mzR := match st with
  | .int y :: .long x :: rest => some (i + 1, lo, .long (x <<< (y.toInt64 &&& 63)) :: rest)
  | _ => none
def mz_o11 (i : Nat) (lo : mzL) (st : List Value) : mzR := match st with
  | .long y :: .long x :: rest => some (i + 1, lo, .int (lg_cmp x y) :: rest)
  | _ => none
def mz_o12 (i : Nat) (lo : mzL) (st : List Value) : mzR := match st with
  | v :: rest => if mz_ty v < 2 then some (i + 1, lo, v :: v :: rest) else none
  | _ => none
def mz_o13 (i : Nat) (lo : mzL) (st : List Value) : mzR := match st with
  | v :: w :: rest => if mz_ty v < 2 ∧ mz_ty w < 2 then some (i + 1, lo, v :: w :: v :: w :: rest) else none
  | _ => none
def mz_o14 (i : Nat) (lo : mzL) (st : List Value) : mzR := match st with
  | v :: rest => if mz_ty v < 2 then some (i + 1, lo, rest) else none
  | _ => none
def mz_o15 (i : Nat) (lo : mzL) (st : List Value) : mzR := match st with
  | v :: w :: rest => if mz_ty v < 2 ∧ mz_ty w < 2 then some (i + 1, lo, v :: w :: v :: rest) else none
  | _ => none
def mz_o16 (a b i : Nat) (lo : mzL) (st : List Value) : mzR := match st with
  | .int x :: rest => match mz_cond a x 0 with
    | some true => some (b, lo, rest)
    | some false => some (i + 1, lo, rest)
    | none => none
  | _ => none
def mz_o17 (a b i : Nat) (lo : mzL) (st : List Value) : mzR := match st with
  | .int y :: .int x :: rest => match mz_cond a x y with
    | some true => some (b, lo, rest)
    | some false => some (i + 1, lo, rest)
    | none => none
  | _ => none
def mz_o19 (b : Nat) (c : Int) (sw : List (Int × Nat)) (lo : mzL) (st : List Value) : mzR := match st with
  | .int x :: rest => match mz_tab sw b (x.toInt - c) with
    | some t => some (t, lo, rest)
    | none => none
  | _ => none
def mz_o39 (b : Nat) (sw : List (Int × Nat)) (lo : mzL) (st : List Value) : mzR := match st with
  | .int x :: rest => some (mz_look sw b x.toInt, lo, rest)
  | _ => none
def mz_one (ri : mzI) (i nL : Nat) (lo : mzL) (st : List Value) : mzR := match ri.1 with
  | 0 => some (i + 1, lo, .int (Int32.ofInt ri.2.2.2.1) :: st)
  | 1 => some (i + 1, lo, .long (Int64.ofInt ri.2.2.2.1) :: st)
  | 2 => mz_o2 ri.2.1 ri.2.2.1 i lo st
  | 3 => mz_o3 ri.2.1 ri.2.2.1 i nL lo st
  | 4 => mz_o4 ri.2.1 i nL lo st
  | 5 => mz_o5 ri.2.1 i nL ri.2.2.2.1 lo st
  | 6 => mz_o6 ri.2.1 i lo st
  | 7 => mz_o7 ri.2.1 i lo st
  | 8 => mz_o8 i lo st
  | 9 => mz_o9 ri.2.1 i lo st
  | 10 => mz_o10 i lo st
  | 11 => mz_o11 i lo st
  | 12 => mz_o12 i lo st
  | 13 => mz_o13 i lo st
  | 14 => mz_o14 i lo st
  | 15 => mz_o15 i lo st
  | 16 => mz_o16 ri.2.1 ri.2.2.1 i lo st
  | 17 => mz_o17 ri.2.1 ri.2.2.1 i lo st
  | 18 => some (ri.2.2.1, lo, st)
  | 19 => mz_o19 ri.2.2.1 ri.2.2.2.1 ri.2.2.2.2 lo st
  | 39 => mz_o39 ri.2.2.1 ri.2.2.2.2 lo st
  | _ => none
def mz_get (s : mzS) (r : Nat) : Option mzC := if r < 4 then none else s.1[r - 4]?
def mz_set (s : mzS) (r : Nat) (c : mzC) : mzS := (s.1.set (r - 4) c, s.2)
/-- which values a field of kind k takes: 0 int, 1 boolean, 2 a reference -/
def mz_fit (k : Int) (v : Value) : Bool := match v with
  | .int x => k == 0 || (k == 1 && (x == 0 || x == 1))
  | .ref _ => k == 2
  | _ => false
def mz_in (i : Int32) (fs : List Value) : Option Value := if i < 0 then none else fs[i.toNatClampNeg]?
/-- what an array of tag t keeps of a value -/
def mz_nar (s : mzS) (t : Nat) (v : Value) : Option Value := match v with
  | .int x => if t = 1 then some (.int x) else if t = 5 then some (.int (x.toInt8.toInt32)) else if t = 7 then some (.int (x &&& 1)) else none
  | .long x => if t = 3 then some (.long x) else none
  | .ref r => if t = 9 then match mz_get s r with
    | some c => if c.1 = 6 then some (.ref r) else none
    | none => none else none
  | _ => none
def mz_cpy (f g : List Value) (sp dp n : Nat) : List Value := (List.range g.length).map (fun k => if dp ≤ k ∧ k < dp + n then f.getD (sp + (k - dp)) .null else g.getD k .null)
/-- fields of a new object -/
def mz_def : Nat → List Value
  | 0 => [.null, .null, .int 0, .null, .int 0, .int 0, .null, .null, .null, .null, .null, .null, .null]
  | 1 => [.null, .int 0, .int 0, .null, .null, .null, .null, .null, .int 0, .null, .null, .null, .null, .null, .null, .null, .null, .null]
  | 2 => [.int 0]
  | 3 => [.int 0, .null, .null, .null, .null, .null, .null]
  | 4 => [.null, .null, .int 0, .int 0, .null, .null]
  | 5 => [.null, .null, .int 0, .int 0, .null, .null]
  | 6 => [.null, .null, .null, .null, .null, .null, .null]
  | 7 => [.null, .null, .int 0]
  | 8 => [.null, .int 0]
  | 9 => [.null, .int 0, .int 0]
  | 10 => [.null, .null, .null, .null, .null, .null, .null, .null, .null]
  | 11 => [.null, .null, .int 0, .null, .int 0, .int 0, .int 0, .int 0, .int 0, .null, .int 0, .null, .null, .int 0, .null, .null, .null, .null, .null, .null, .int 0, .null, .null, .null, .int 0, .int 0, .null, .null, .null, .int 0, .null, .null]
  | _ => []
/-- whether an instruction of kind a is one for arrays of tag t -/
def mz_akind (a t : Nat) : Bool := (a == 0 && t == 1) || (a == 1 && t == 3) || (a == 2 && (t == 5 || t == 7)) || (a == 3 && t == 9)
abbrev mzH : Type := Option (List Value × mzS)
def mz_h20 (a b : Nat) (st : List Value) (s : mzS) : mzH := match st with
  | .ref r :: rest => match mz_get s r with
    | some c => if c.1 = 2 * b then match c.2[a]? with
      | some v => some (v :: rest, s)
      | none => none else none
    | none => none
  | _ => none
def mz_h21 (a b : Nat) (k : Int) (st : List Value) (s : mzS) : mzH := match st with
  | v :: .ref r :: rest => match mz_get s r with
    | some c => if c.1 = 2 * b ∧ a < c.2.length ∧ mz_fit k v = true then some (rest, mz_set s r (c.1, c.2.set a v)) else none
    | none => none
  | _ => none
def mz_h22 (X : List (List Value)) (a : Nat) (st : List Value) (s : mzS) : mzH := match st with
  | .int i :: .ref r :: rest => if r < 4 then match X[r]? with
      | some fs => if a = 0 then match mz_in i fs with
        | some v => some (v :: rest, s)
        | none => none else none
      | none => none
    else match mz_get s r with
    | some c => if mz_akind a c.1 = true then match mz_in i c.2 with
      | some v => some (v :: rest, s)
      | none => none else none
    | none => none
  | _ => none
def mz_h23 (a : Nat) (st : List Value) (s : mzS) : mzH := match st with
  | v :: .int i :: .ref r :: rest => match mz_get s r with
    | some c => if mz_akind a c.1 = true then match mz_in i c.2, mz_nar s c.1 v with
      | some _, some w => some (rest, mz_set s r (c.1, c.2.set i.toNatClampNeg w))
      | _, _ => none else none
    | none => none
  | _ => none
def mz_h24 (X : List (List Value)) (st : List Value) (s : mzS) : mzH := match st with
  | .ref r :: rest => if r < 4 then match X[r]? with
      | some fs => some (.int (Int32.ofNat fs.length) :: rest, s)
      | none => none
    else match mz_get s r with
    | some c => if c.1 % 2 = 1 ∧ c.1 < 10 then some (.int (Int32.ofNat c.2.length) :: rest, s) else none
    | none => none
  | _ => none
def mz_h25 (a b : Nat) (st : List Value) (s : mzS) : mzH := if a < 12 then some (.ref (4 + s.1.length) :: st, (s.1 ++ [(2 * a, mz_def a)], s.2.1 + 1, s.2.2 + b)) else none
def mz_zero (a : Nat) : Value := if a = 1 then .long 0 else .int 0
def mz_h26 (a : Nat) (st : List Value) (s : mzS) : mzH := match st with
  | .int n :: rest => if n < 0 ∨ 60000 < n.toNatClampNeg ∨ 3 < a then none else some (.ref (4 + s.1.length) :: rest, (s.1 ++ [(2 * a + 1, List.replicate n.toNatClampNeg (mz_zero a))], s.2.1 + 1, s.2.2 + n.toNatClampNeg))
  | _ => none
def mz_h27 (st : List Value) (s : mzS) : mzH := match st with
  | .int n :: rest => if n < 0 ∨ 60000 < n.toNatClampNeg then none else some (.ref (4 + s.1.length) :: rest, (s.1 ++ [(9, List.replicate n.toNatClampNeg .null)], s.2.1 + 1, s.2.2 + n.toNatClampNeg))
  | _ => none
def mz_h29 (st : List Value) (s : mzS) : mzH := match st with
  | .ref _ :: rest => if (rest.map fun v => v.category).sum ≤ 8 then some (rest, s) else none
  | _ => none
def mz_h30 (st : List Value) (s : mzS) : mzH := match st with
  | .int n :: .int dp :: .ref rd :: .int sp :: .ref rs :: rest => match mz_get s rs, mz_get s rd with
    | some f, some g => if f.1 = 1 ∧ g.1 = 1 ∧ ¬ n < 0 ∧ ¬ dp < 0 ∧ ¬ sp < 0 ∧ sp.toNatClampNeg + n.toNatClampNeg ≤ f.2.length ∧ dp.toNatClampNeg + n.toNatClampNeg ≤ g.2.length ∧ (rest.map fun v => v.category).sum ≤ 8 then some (rest, mz_set s rd (1, mz_cpy f.2 g.2 sp.toNatClampNeg dp.toNatClampNeg n.toNatClampNeg)) else none
    | _, _ => none
  | _ => none
/-- instructions on the heap; X: the script and the static arrays -/
def mz_heap (X : List (List Value)) (ri : mzI) (st : List Value) (s : mzS) : mzH := match ri.1 with
  | 20 => mz_h20 ri.2.1 ri.2.2.1 st s
  | 21 => mz_h21 ri.2.1 ri.2.2.1 ri.2.2.2.1 st s
  | 22 => mz_h22 X ri.2.1 st s
  | 23 => mz_h23 ri.2.1 st s
  | 24 => mz_h24 X st s
  | 25 => mz_h25 ri.2.1 ri.2.2.1 st s
  | 26 => mz_h26 ri.2.1 st s
  | 27 => mz_h27 st s
  | 28 => if 1 ≤ ri.2.1 ∧ ri.2.1 < 4 then some (.ref ri.2.1 :: st, s) else none
  | 29 => mz_h29 st s
  | 30 => mz_h30 st s
  | _ => none
/-- a method: locals, receiver (0: none; k + 1: an object of class k), handler (from, to, where; by instructions), code -/
abbrev mzM : Type := Nat × Nat × (Nat × Nat × Nat) × List mzI
def mz_take (n : Nat) (st : List Value) : Option (List Value × List Value) := if n ≤ st.length then some ((st.take n).reverse, st.drop n) else none
def mz_recv (k : Nat) (as : List Value) (s : mzS) : Bool := match k with
  | 0 => true
  | c + 1 => match as with
    | .ref r :: _ => match mz_get s r with
      | some t => t.1 == 2 * c
      | none => false
    | _ => false
def mz_sum (st : List Value) : Nat := (st.map fun v => v.category).sum
/-- the machine: a frame (method j, instruction i, locals, stack) run to its end: none of the outcome: it threw -/
def mz_run (P : List mzM) (X : List (List Value)) : Nat → Nat → Nat → Nat → mzL → List Value → mzS → Option (Option (Option Value) × mzS)
  | 0, _, _, _, _, _, _ => none
  | n + 1, d, j, i, lo, st, s => match P[j]? with
    | none => none
    | some M => match M.2.2.2[i]? with
      | none => none
      | some ri =>
        if ri.1 = 40 then match d, mz_take ri.2.2.1 st, P[ri.2.1]? with
          | d' + 1, some (as, rest), some M' =>
            if mz_sum rest ≤ 8 ∧ mz_sum as ≤ M'.1 ∧ mz_recv M'.2.1 as s = true then
              match mz_run P X n d' ri.2.1 0 (lv_args 0 as) [] s with
              | none => none
              | some (some none, s') => mz_run P X n d j (i + 1) lo rest s'
              | some (some (some v), s') => mz_run P X n d j (i + 1) lo (v :: rest) s'
              | some (none, s') => if M.2.2.1.1 ≤ i ∧ i < M.2.2.1.2.1 then mz_run P X n d j M.2.2.1.2.2 lo [.retAddr 0] s' else none
            else none
          | _, _, _ => none
        else if ri.1 = 41 then (if st = [] then some (some none, s) else none)
        else if ri.1 = 42 then match st with
          | [v] => if mz_ty v = ri.2.1 ∧ ri.2.1 < 3 ∧ (ri.2.2.1 = 0 ∨ v = .int 0 ∨ v = .int 1) then some (some (some v), s) else none
          | _ => none
        else if ri.1 = 43 then (if mz_sum st ≤ 8 then some (none, (s.1, s.2.1 + 1, s.2.2 + 6)) else none)
        else if ri.1 < 20 ∨ ri.1 = 39 then match mz_one ri i M.1 lo st with
          | some r => mz_run P X n d j r.1 r.2.1 r.2.2 s
          | none => none
        else match mz_heap X ri st s with
          | some r => mz_run P X n d j (i + 1) lo r.1 r.2
          | none => none
