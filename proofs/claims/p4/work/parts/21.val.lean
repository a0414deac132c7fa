/-! values of A (turned from p1's S): an int is a sum c + a1 * k1 + .. over atoms k; a value: tag (0 int, 1 reference (1000000: the cell that was made, its address an atom), 2 long made of an int, 3 an exception, 5 a long, else null), c, terms. -/
abbrev szT : Type := List (Nat × Int)
abbrev szV : Type := Nat × Int × szT
/-- locals by number (tag 9: nothing) -/
abbrev szLo : Type := List szV
/-- a frame: method, its record (locals, handler), its code, instruction, locals, stack -/
abbrev szF : Type := Nat × (Nat × Nat × Nat × Nat) × Nat × Nat × szLo × List szV
/-- what an atom is: 0 free, 2 i2b, 3 i2s, 4 'not zero', 10 + a: the operation a of M -/
abbrev szD : Type := List (Nat × szV × szV)
abbrev szR : Type := List (Int × Int)
def sz_sum (ρ : Nat → Int) : szT → Int
  | [] => 0
  | q :: r => q.2 * ρ q.1 + sz_sum ρ r
def sz_i (ρ : Nat → Int) (v : szV) : Int32 := Int32.ofInt (v.2.1 + sz_sum ρ v.2.2)
def sz_v (ρ : Nat → Int) (v : szV) : Value := match v.1 with
  | 0 => .int (sz_i ρ v)
  | 1 => .ref (if v.2.1 < 1000000 then v.2.1.toNat else (ρ 1000000).toNat)
  | 2 => .long (sz_i ρ v).toInt64
  | 3 => .retAddr 0
  | 5 => .long (Int64.ofInt (v.2.1 + sz_sum ρ v.2.2))
  | _ => .null
def sz_w (x : Int) : Int := x.bmod 4294967296
def sz_at (R : szR) (k : Nat) : Int × Int := R.getD k (-2147483648, 2147483647)
def sz_rs (R : szR) : szT → Int × Int
  | [] => (0, 0)
  | q :: r => if 0 ≤ q.2 then (q.2 * (sz_at R q.1).1 + (sz_rs R r).1, q.2 * (sz_at R q.1).2 + (sz_rs R r).2) else (q.2 * (sz_at R q.1).2 + (sz_rs R r).1, q.2 * (sz_at R q.1).1 + (sz_rs R r).2)
def sz_rg2 (lo hi : Int) : Int × Int := if lo = hi then (sz_w lo, sz_w lo) else if -2147483648 ≤ lo ∧ hi ≤ 2147483647 then (lo, hi) else (-2147483648, 2147483647)
def sz_rg1 (R : szR) (c : Int) (t : szT) : Int × Int := match t with
  | [] => (sz_w c, sz_w c)
  | q :: t => sz_rg2 (c + (sz_rs R (q :: t)).1) (c + (sz_rs R (q :: t)).2)
def sz_rg (R : szR) (v : szV) : Int × Int := sz_rg1 R v.2.1 v.2.2
def sz_k (R : szR) (v : szV) : Option Int := if (sz_rg R v).1 = (sz_rg R v).2 then some (sz_rg R v).1 else none
def sz_ins (q : Nat × Int) : szT → szT
  | [] => [q]
  | p :: t => if q.1 = p.1 then (if q.2 + p.2 = 0 then t else (p.1, q.2 + p.2) :: t) else if q.1 < p.1 then q :: p :: t else p :: sz_ins q t
def sz_add : szT → szT → szT
  | [], u => u
  | q :: t, u => sz_ins q (sz_add t u)
def sz_sc (n : Int) (t : szT) : szT := t.map (fun q => (q.1, n * q.2))
def sz_op (o : Nat) (x y : Int32) : Int32 := match o with
  | 2 => x.toInt8.toInt32
  | 3 => x.toInt16.toInt32
  | 4 => if x = 0 then 0 else 1
  | a => (mz_bin (a - 10) x y).getD 0
def sz_find : szD → Nat → szV → szV → Nat → Option Nat
  | [], _, _, _, _ => none
  | q :: r, o, x, y, k => if q.1 = o ∧ q.2.1.2 = x.2 ∧ q.2.2.2 = y.2 then some k else sz_find r o x y (k + 1)
def sz_mk (D : szD) (o : Nat) (x y : szV) : Option szV := match sz_find D o x y 0 with
  | some k => some (0, 0, [(k, 1)])
  | none => none
def sz_lt (p q : Int × Int) : Option Bool := if p.2 < q.1 then some true else if q.2 ≤ p.1 then some false else none
def sz_eq (p q : Int × Int) : Option Bool := if p.2 < q.1 ∨ q.2 < p.1 then some false else if p.1 = p.2 ∧ q.1 = q.2 ∧ p.1 = q.1 then some true else none
def sz_cat (v : szV) : Nat := if v.1 = 2 ∨ v.1 = 5 then 2 else 1
noncomputable def sz_nth {α : Type} (l : List α) : Nat → Option α := List.rec (fun _ => none) (fun a _ ih n => Nat.rec (some a) (fun m _ => ih m) n) l
/-- the kernel takes x to a numeral before it goes on -/
noncomputable def sz_fo {β : Type} (x : Nat) (f : Nat → β) : β := Nat.rec (f 0) (fun m _ => f m) (Nat.add x 1)
noncomputable def sz_fi {β : Type} (c : Int) (f : Int → β) : β := match c with
  | .ofNat n => sz_fo n (fun n => f (.ofNat n))
  | .negSucc n => sz_fo n (fun n => f (.negSucc n))
noncomputable def sz_fv {β : Type} (v : szV) (f : szV → β) : β := match v with
  | (g, c, t) => sz_fo g (fun g => sz_fi c (fun c => match t with
    | [] => f (g, c, [])
    | q :: t => f (g, c, q :: t)))
noncomputable def sz_upk {α β : Type} (z : α) (i : Nat) (v : α) : List α → (List α → β) → β := Nat.rec (fun l k => match l with
    | [] => k [v]
    | _ :: t => k (v :: t)) (fun _ ih l k => match l with
    | [] => ih [] (fun t => k (z :: t))
    | a :: t => ih t (fun t => k (a :: t))) i
noncomputable def sz_ld (lo : szLo) (i : Nat) : Option szV := sz_nth lo i
/-- no long before local i -/
noncomputable def sz_lg (lo : szLo) (i : Nat) : Bool := match i with
  | 0 => true
  | k + 1 => match sz_nth lo k with
    | some v => !(Nat.beq v.1 2) && !(Nat.beq v.1 5)
    | none => true
abbrev szO : Type := Option (Nat × szLo × List szV)
noncomputable def sz_o3 (a b i nL : Nat) (lo : szLo) (st : List szV) : szO := match st with
  | v :: rest => if (v.1 = b ∨ (v.1 = 3 ∧ b = 1)) ∧ b < 2 ∧ a < nL ∧ sz_lg lo a = true then sz_upk (9, 0, []) a v lo (fun lo => some (i + 1, lo, rest)) else none
  | _ => none
def sz_o8 (i : Nat) (lo : szLo) (st : List szV) : szO := match st with
  | x :: rest => if x.1 = 0 then some (i + 1, lo, (2, x.2.1, x.2.2) :: rest) else none
  | _ => none
def sz_o12 (i : Nat) (lo : szLo) (st : List szV) : szO := match st with
  | v :: rest => if v.1 < 2 then some (i + 1, lo, v :: v :: rest) else none
  | _ => none
def sz_o13 (i : Nat) (lo : szLo) (st : List szV) : szO := match st with
  | v :: w :: rest => if v.1 < 2 ∧ w.1 < 2 then some (i + 1, lo, v :: w :: v :: w :: rest) else none
  | _ => none
def sz_o14 (i : Nat) (lo : szLo) (st : List szV) : szO := match st with
  | v :: rest => if v.1 < 2 then some (i + 1, lo, rest) else none
  | _ => none
def sz_o15 (i : Nat) (lo : szLo) (st : List szV) : szO := match st with
  | v :: w :: rest => if v.1 < 2 ∧ w.1 < 2 then some (i + 1, lo, v :: w :: v :: rest) else none
  | _ => none
/-- slot k of width w -/
def sz_sl (w N k : Nat) : Nat := Nat.mod (Nat.shiftRight N (Nat.mul w k)) (Nat.pow 2 w)
def sz_fa (q : Nat) : Nat := Nat.mod (Nat.shiftRight q 8) 65536
def sz_fb (q : Nat) : Nat := Nat.mod (Nat.shiftRight q 24) 65536
def sz_fc (q : Nat) : Int := Int.subNatNat (Nat.shiftRight q 40) 549755813888
def sz_pk (N : Nat) : List mzI → Bool
  | [] => Nat.beq N 0
  | ri :: cs => Nat.beq ri.1 (Nat.mod N 256) && (Nat.beq ri.2.1 (sz_fa (Nat.mod N (Nat.pow 2 80))) && (Nat.beq ri.2.2.1 (sz_fb (Nat.mod N (Nat.pow 2 80))) && (decide (ri.2.2.2.1 = sz_fc (Nat.mod N (Nat.pow 2 80))) && (!(Nat.beq (Nat.mod N (Nat.pow 2 80)) 0) && sz_pk (Nat.shiftRight N 80) cs))))
def sz_tot (st : List szV) : Nat := (st.map sz_cat).sum
noncomputable def sz_args {β : Type} : List szV → (szLo → β) → β
  | [], k => k []
  | v :: vs, k => if sz_cat v = 2 then sz_args vs (fun l => k (v :: (9, 0, []) :: l)) else sz_args vs (fun l => k (v :: l))
noncomputable def sz_tk {β : Type} (n : Nat) : List szV → List szV → (List szV → List szV → β) → Option β := Nat.rec (fun st as k => some (k as st)) (fun _ ih st as k => match st with
  | [] => none
  | v :: st => ih st (v :: as) k) n
/-- the program once more: locals, receiver, handler, code -/
abbrev szM : Type := Nat × Nat × (Nat × Nat × Nat) × Nat
noncomputable def sz_take (n : Nat) (st : List szV) : Option (List szV × List szV) := sz_tk n st [] (fun as rest => (as, rest))
