/-! S: runs of M with unknown ints. An int is a sum c + a1 * k1 + .. over atoms k (whose values are in ranges); a value: tag (0 int, 1 reference, 2 long made of an int, 3 an exception, else null), c, terms. -/
abbrev szT : Type := List (Nat × Int)
abbrev szV : Type := Nat × Int × szT
/-- locals by number (tag 9: nothing) -/
abbrev szLo : Type := List szV
/-- a frame: method, its record (locals, handler), its code, instruction, locals, stack -/
abbrev szF : Type := Nat × (Nat × Nat × Nat × Nat) × Nat × Nat × szLo × List szV
/-- the heap: slots of 40 bits, cells of 64 bits, how many cells, the next slot, counters of cells and slots -/
abbrev szH : Type := Nat × Nat × Nat × Nat × Nat × Nat
/-- what an atom is: 0 free, 2 i2b, 3 i2s, 4 'not zero', 10 + a: the operation a of M -/
abbrev szD : Type := List (Nat × szV × szV)
abbrev szR : Type := List (Int × Int)
abbrev szQ : Type := szF × List szF × szH × Nat
def sz_sum (ρ : Nat → Int) : szT → Int
  | [] => 0
  | q :: r => q.2 * ρ q.1 + sz_sum ρ r
def sz_i (ρ : Nat → Int) (v : szV) : Int32 := Int32.ofInt (v.2.1 + sz_sum ρ v.2.2)
def sz_v (ρ : Nat → Int) (v : szV) : Value := match v.1 with
  | 0 => .int (sz_i ρ v)
  | 1 => .ref v.2.1.toNat
  | 2 => .long (sz_i ρ v).toInt64
  | 3 => .retAddr 0
  | _ => .null
def sz_w (x : Int) : Int := x.bmod 4294967296
def sz_at (R : szR) (k : Nat) : Int × Int := R.getD k (-2147483648, 2147483647)
def sz_rs (R : szR) : szT → Int × Int
  | [] => (0, 0)
  | q :: r => if 0 ≤ q.2 then (q.2 * (sz_at R q.1).1 + (sz_rs R r).1, q.2 * (sz_at R q.1).2 + (sz_rs R r).2) else (q.2 * (sz_at R q.1).2 + (sz_rs R r).1, q.2 * (sz_at R q.1).1 + (sz_rs R r).2)
def sz_rg2 (lo hi : Int) : Int × Int := if lo = hi then (sz_w lo, sz_w lo) else if -2147483648 ≤ lo ∧ hi ≤ 2147483647 then (lo, hi) else (-2147483648, 2147483647)
def sz_rg1 (R : szR) (c : Int) (t : szT) : Int × Int := match t with
  | [] => (sz_w c, sz_w c)
  | q :: t => sz_rg2 (c + (sz_rs R (q :: t)).1) (c + (sz_rs R (q :: t)).2)
def sz_rg (R : szR) (v : szV) : Int × Int := sz_rg1 R v.2.1 v.2.2
def sz_k (R : szR) (v : szV) : Option Int := if (sz_rg R v).1 = (sz_rg R v).2 then some (sz_rg R v).1 else none
def sz_ins (q : Nat × Int) : szT → szT
  | [] => [q]
  | p :: t => if q.1 = p.1 then (if q.2 + p.2 = 0 then t else (p.1, q.2 + p.2) :: t) else if q.1 < p.1 then q :: p :: t else p :: sz_ins q t
def sz_add : szT → szT → szT
  | [], u => u
  | q :: t, u => sz_ins q (sz_add t u)
def sz_sc (n : Int) (t : szT) : szT := t.map (fun q => (q.1, n * q.2))
def sz_op (o : Nat) (x y : Int32) : Int32 := match o with
  | 2 => x.toInt8.toInt32
  | 3 => x.toInt16.toInt32
  | 4 => if x = 0 then 0 else 1
  | a => (mz_bin (a - 10) x y).getD 0
def sz_find : szD → Nat → szV → szV → Nat → Option Nat
  | [], _, _, _, _ => none
  | q :: r, o, x, y, k => if q.1 = o ∧ q.2.1.2 = x.2 ∧ q.2.2.2 = y.2 then some k else sz_find r o x y (k + 1)
def sz_mk (D : szD) (o : Nat) (x y : szV) : Option szV := match sz_find D o x y 0 with
  | some k => some (0, 0, [(k, 1)])
  | none => none
def sz_bin2 (D : szD) (a : Nat) (x y : szV) (cx cy : Option Int) : Option szV := match cx, cy with
  | some p, some q => match mz_bin a (Int32.ofInt p) (Int32.ofInt q) with
    | some z => some (0, z.toInt, [])
    | none => none
  | _, some q => if a = 2 then (if q = 0 then some (0, 0, []) else some (0, q * x.2.1, sz_sc q x.2.2)) else if 3 ≤ a ∧ a ≤ 10 ∧ (a < 9 ∨ ¬ sz_w q = 0) then sz_mk D (10 + a) x (0, q, []) else none
  | some p, none => if a = 2 then (if p = 0 then some (0, 0, []) else some (0, p * y.2.1, sz_sc p y.2.2)) else none
  | none, none => none
def sz_bin (D : szD) (R : szR) (a : Nat) (x y : szV) : Option szV :=
  if a = 0 then some (0, x.2.1 + y.2.1, sz_add x.2.2 y.2.2)
  else if a = 1 then some (0, x.2.1 - y.2.1, sz_add x.2.2 (sz_sc (-1) y.2.2))
  else sz_bin2 D a x y (sz_k R x) (sz_k R y)
/-- an int narrowed (o: 2 or 3) -/
def sz_nrw (D : szD) (R : szR) (o : Nat) (x : szV) : Option szV :=
  if o = 2 ∧ -128 ≤ (sz_rg R x).1 ∧ (sz_rg R x).2 ≤ 127 then some (0, x.2.1, x.2.2)
  else match sz_k R x with
  | some c => some (0, (sz_op o (Int32.ofInt c) 0).toInt, [])
  | none => sz_mk D o x (0, 0, [])
def sz_un (D : szD) (R : szR) (a : Nat) (x : szV) : Option szV := match a with
  | 0 => some (0, -x.2.1, sz_sc (-1) x.2.2)
  | 1 => sz_nrw D R 2 x
  | 2 => sz_nrw D R 3 x
  | _ => none
def sz_lt (p q : Int × Int) : Option Bool := if p.2 < q.1 then some true else if q.2 ≤ p.1 then some false else none
def sz_eq (p q : Int × Int) : Option Bool := if p.2 < q.1 ∨ q.2 < p.1 then some false else if p.1 = p.2 ∧ q.1 = q.2 ∧ p.1 = q.1 then some true else none
def sz_c2 (a : Nat) (p q : Int × Int) : Option Bool := match a with
  | 0 => sz_eq p q
  | 1 => (sz_eq p q).map (fun b => !b)
  | 2 => sz_lt p q
  | 3 => (sz_lt p q).map (fun b => !b)
  | 4 => sz_lt q p
  | 5 => (sz_lt q p).map (fun b => !b)
  | _ => none
def sz_cond (R : szR) (a : Nat) (x y : szV) : Option Bool := match sz_c2 a (sz_rg R x) (sz_rg R y) with
  | some b => some b
  | none => if x.2 = y.2 ∧ a < 6 then some (a == 0 || (a == 3 || a == 5)) else none
def sz_cat (v : szV) : Nat := if v.1 = 2 then 2 else 1
noncomputable def sz_nth {α : Type} (l : List α) : Nat → Option α := List.rec (fun _ => none) (fun a _ ih n => Nat.rec (some a) (fun m _ => ih m) n) l
/-- the kernel takes x to a numeral before it goes on -/
noncomputable def sz_fo {β : Type} (x : Nat) (f : Nat → β) : β := Nat.rec (f 0) (fun m _ => f m) (Nat.add x 1)
noncomputable def sz_fi {β : Type} (c : Int) (f : Int → β) : β := match c with
  | .ofNat n => sz_fo n (fun n => f (.ofNat n))
  | .negSucc n => sz_fo n (fun n => f (.negSucc n))
noncomputable def sz_fv {β : Type} (v : szV) (f : szV → β) : β := match v with
  | (g, c, t) => sz_fo g (fun g => sz_fi c (fun c => match t with
    | [] => f (g, c, [])
    | q :: t => f (g, c, q :: t)))
noncomputable def sz_upk {α β : Type} (z : α) (i : Nat) (v : α) : List α → (List α → β) → β := Nat.rec (fun l k => match l with
    | [] => k [v]
    | _ :: t => k (v :: t)) (fun _ ih l k => match l with
    | [] => ih [] (fun t => k (z :: t))
    | a :: t => ih t (fun t => k (a :: t))) i
noncomputable def sz_ld (lo : szLo) (i : Nat) : Option szV := sz_nth lo i
/-- no long before local i -/
noncomputable def sz_lg (lo : szLo) (i : Nat) : Bool := match i with
  | 0 => true
  | k + 1 => match sz_nth lo k with
    | some v => !(Nat.beq v.1 2)
    | none => true
abbrev szO : Type := Option (Nat × szLo × List szV)
noncomputable def sz_o2 (a b i : Nat) (lo : szLo) (st : List szV) : szO := match sz_ld lo a with
  | some v => if v.1 = b ∧ b < 3 then some (i + 1, lo, v :: st) else none
  | none => none
noncomputable def sz_o3 (a b i nL : Nat) (lo : szLo) (st : List szV) : szO := match st with
  | v :: rest => if (v.1 = b ∨ (v.1 = 3 ∧ b = 1)) ∧ b < 2 ∧ a < nL ∧ sz_lg lo a = true then sz_upk (9, 0, []) a v lo (fun lo => some (i + 1, lo, rest)) else none
  | _ => none
noncomputable def sz_o4 (a i nL : Nat) (lo : szLo) (st : List szV) : szO := match st with
  | v :: rest => if v.1 = 2 ∧ a + 1 < nL ∧ sz_lg lo a = true then sz_upk (9, 0, []) a v lo (fun lo => sz_upk (9, 0, []) (a + 1) (9, 0, []) lo (fun lo => some (i + 1, lo, rest))) else none
  | _ => none
noncomputable def sz_o5 (a i nL : Nat) (c : Int) (lo : szLo) (st : List szV) : szO := match sz_ld lo a with
  | some x => if x.1 = 0 ∧ a < nL then sz_fv (0, x.2.1 + c, x.2.2) (fun v => sz_upk (9, 0, []) a v lo (fun lo => some (i + 1, lo, st))) else none
  | none => none
noncomputable def sz_o6 (D : szD) (R : szR) (a i : Nat) (lo : szLo) (st : List szV) : szO := match st with
  | y :: x :: rest => if y.1 = 0 ∧ x.1 = 0 then match sz_bin D R a x y with
    | some z => sz_fv z (fun z => some (i + 1, lo, z :: rest))
    | none => none else none
  | _ => none
noncomputable def sz_o7 (D : szD) (R : szR) (a i : Nat) (lo : szLo) (st : List szV) : szO := match st with
  | x :: rest => if x.1 = 0 then match sz_un D R a x with
    | some z => sz_fv z (fun z => some (i + 1, lo, z :: rest))
    | none => none else none
  | _ => none
def sz_o8 (i : Nat) (lo : szLo) (st : List szV) : szO := match st with
  | x :: rest => if x.1 = 0 then some (i + 1, lo, (2, x.2.1, x.2.2) :: rest) else none
  | _ => none
def sz_o11 (R : szR) (i : Nat) (lo : szLo) (st : List szV) : szO := match st with
  | y :: x :: rest => if y.1 = 2 ∧ x.1 = 2 then match sz_cond R 4 x y, sz_cond R 0 x y with
    | some true, _ => some (i + 1, lo, (0, 1, []) :: rest)
    | some false, some true => some (i + 1, lo, (0, 0, []) :: rest)
    | some false, some false => some (i + 1, lo, (0, -1, []) :: rest)
    | _, _ => none else none
  | _ => none
def sz_o12 (i : Nat) (lo : szLo) (st : List szV) : szO := match st with
  | v :: rest => if v.1 < 2 then some (i + 1, lo, v :: v :: rest) else none
  | _ => none
def sz_o13 (i : Nat) (lo : szLo) (st : List szV) : szO := match st with
  | v :: w :: rest => if v.1 < 2 ∧ w.1 < 2 then some (i + 1, lo, v :: w :: v :: w :: rest) else none
  | _ => none
def sz_o14 (i : Nat) (lo : szLo) (st : List szV) : szO := match st with
  | v :: rest => if v.1 < 2 then some (i + 1, lo, rest) else none
  | _ => none
def sz_o15 (i : Nat) (lo : szLo) (st : List szV) : szO := match st with
  | v :: w :: rest => if v.1 < 2 ∧ w.1 < 2 then some (i + 1, lo, v :: w :: v :: rest) else none
  | _ => none
def sz_jmp (b i : Nat) (lo : szLo) (rest : List szV) (q : Option Bool) : szO := match q with
  | some true => some (b, lo, rest)
  | some false => some (i + 1, lo, rest)
  | none => none
def sz_o16 (R : szR) (a b i : Nat) (lo : szLo) (st : List szV) : szO := match st with
  | x :: rest => if x.1 = 0 then sz_jmp b i lo rest (sz_cond R a x (0, 0, [])) else none
  | _ => none
def sz_o17 (R : szR) (a b i : Nat) (lo : szLo) (st : List szV) : szO := match st with
  | y :: x :: rest => if y.1 = 0 ∧ x.1 = 0 then sz_jmp b i lo rest (sz_cond R a x y) else none
  | _ => none
def sz_o19 (R : szR) (b : Nat) (c : Int) (sw : List (Int × Nat)) (lo : szLo) (st : List szV) : szO := match st with
  | x :: rest => if x.1 = 0 then (if (sz_rg R x).2 < c ∨ c + (sw.length : Int) ≤ (sz_rg R x).1 then some (b, lo, rest) else match sz_k R x with
    | some k => match mz_tab sw b (k - c) with
      | some t => some (t, lo, rest)
      | none => none
    | none => none) else none
  | _ => none
def sz_o39 (R : szR) (b : Nat) (sw : List (Int × Nat)) (lo : szLo) (st : List szV) : szO := match st with
  | x :: rest => if x.1 = 0 then match sz_k R x with
    | some k => some (mz_look sw b k, lo, rest)
    | none => none else none
  | _ => none
/-- slot k of width w -/
def sz_sl (w N k : Nat) : Nat := Nat.mod (Nat.shiftRight N (Nat.mul w k)) (Nat.pow 2 w)
def sz_ss (w N k x : Nat) : Nat := Nat.xor N (Nat.shiftLeft (Nat.xor (sz_sl w N k) x) (Nat.mul w k))
def sz_fa (q : Nat) : Nat := Nat.mod (Nat.shiftRight q 8) 65536
def sz_fb (q : Nat) : Nat := Nat.mod (Nat.shiftRight q 24) 65536
def sz_fc (q : Nat) : Int := Int.subNatNat (Nat.shiftRight q 40) 549755813888
def sz_pk (N : Nat) : List mzI → Bool
  | [] => Nat.beq N 0
  | ri :: cs => Nat.beq ri.1 (Nat.mod N 256) && (Nat.beq ri.2.1 (sz_fa (Nat.mod N (Nat.pow 2 80))) && (Nat.beq ri.2.2.1 (sz_fb (Nat.mod N (Nat.pow 2 80))) && (decide (ri.2.2.2.1 = sz_fc (Nat.mod N (Nat.pow 2 80))) && (!(Nat.beq (Nat.mod N (Nat.pow 2 80)) 0) && sz_pk (Nat.shiftRight N 80) cs))))
/-- a cell's tag, length, first slot -/
def sz_dt (d : Nat) : Nat := Nat.pred (Nat.mod d 4096)
def sz_dl (d : Nat) : Nat := Nat.mod (Nat.shiftRight d 12) 1048576
def sz_db (d : Nat) : Nat := Nat.shiftRight d 32
def sz_dd (t l b : Nat) : Nat := Nat.add (Nat.add (Nat.succ t) (Nat.mul l 4096)) (Nat.mul b 4294967296)
noncomputable def sz_nd (T : List (Int × szT)) (c : Nat) : szV :=
  bif Nat.beq (Nat.mod c 8) 1 then (0, Int.subNatNat (Nat.shiftRight c 3) 2147483648, [])
  else bif Nat.beq (Nat.mod c 8) 2 then (1, Int.ofNat (Nat.shiftRight c 3), [])
  else bif Nat.beq (Nat.mod c 8) 3 then (0, (sz_nth T (Nat.shiftRight c 3)).getD (0, []))
  else bif Nat.beq (Nat.mod c 8) 4 then (2, Int.subNatNat (Nat.shiftRight c 3) 2147483648, [])
  else bif Nat.beq (Nat.mod c 8) 5 then (2, (sz_nth T (Nat.shiftRight c 3)).getD (0, []))
  else (4, 0, [])
def sz_ix : List (Int × szT) → Int × szT → Nat → Option Nat
  | [], _, _ => none
  | q :: r, x, k => if q = x then some k else sz_ix r x (k + 1)
def sz_en2 (T : List (Int × szT)) (x : Int × szT) (a b : Nat) : Option Nat := match x.2 with
  | [] => some (Nat.add (Nat.mul 8 (sz_w x.1 + 2147483648).toNat) a)
  | _ :: _ => match sz_ix T x 0 with
    | some k => if k < 4294967296 then some (Nat.add (Nat.mul 8 k) b) else none
    | none => none
def sz_en (T : List (Int × szT)) (v : szV) : Option Nat := match v.1 with
  | 0 => sz_en2 T v.2 1 3
  | 1 => if v.2.1.toNat < 4294967296 then some (Nat.add (Nat.mul 8 v.2.1.toNat) 2) else none
  | 2 => sz_en2 T v.2 4 5
  | _ => none
def sz_df (t k : Nat) : szV := if t % 2 = 0 then (match (mz_def (t / 2))[k]? with
    | some (.int _) => (0, 0, [])
    | _ => (4, 0, [])) else if t = 3 then (2, 0, []) else if t = 9 then (4, 0, []) else (0, 0, [])
noncomputable def sz_rd2 (T : List (Int × szT)) (t k c : Nat) : szV := bif Nat.beq c 0 then sz_df t k else sz_nd T c
noncomputable def sz_rd (T : List (Int × szT)) (N t b k : Nat) : szV := sz_rd2 T t k (sz_sl 40 N (Nat.add b k))
/-- the cell of a reference: 0, if there is none -/
def sz_ce (s : szH) (r : szV) : Nat := bif Nat.beq r.1 1 && Nat.ble 4 r.2.1.toNat then sz_sl 64 s.2.1 (Nat.sub r.2.1.toNat 4) else 0
def sz_fit (R : szR) (k : Int) (v : szV) : Bool := match v.1 with
  | 0 => decide (k = 0) || (decide (k = 1) && (decide (0 ≤ (sz_rg R v).1) && decide ((sz_rg R v).2 ≤ 1)))
  | 1 => decide (k = 2)
  | _ => false
/-- an index below n -/
def sz_in (R : szR) (i : szV) (n : Nat) : Option Nat := match i.1, sz_k R i with
  | 0, some (.ofNat c) => bif Nat.blt c n then some c else none
  | _, _ => none
def sz_nar (D : szD) (R : szR) (s : szH) (t : Nat) (v : szV) : Option szV := match v.1 with
  | 0 => if t = 1 then some v else if t = 5 then sz_nrw D R 2 v else if t = 7 ∧ 0 ≤ (sz_rg R v).1 ∧ (sz_rg R v).2 ≤ 1 then some v else none
  | 2 => if t = 3 then some v else none
  | 1 => if t = 9 ∧ ¬ sz_ce s v = 0 ∧ sz_dt (sz_ce s v) = 6 then some v else none
  | _ => none
abbrev szG : Type := Option (List szV × szH)
noncomputable def sz_h20 (T : List (Int × szT)) (a b : Nat) (st : List szV) (s : szH) : szG := match st with
  | r :: rest => bif Nat.beq (Nat.mod (sz_ce s r) 4096) (Nat.succ (Nat.mul 2 b)) && Nat.blt a (sz_dl (sz_ce s r)) then sz_fv (sz_rd T s.1 (Nat.mul 2 b) (sz_db (sz_ce s r)) a) (fun v => some (v :: rest, s)) else none
  | _ => none
/-- slot 0 counts the writes (it makes terms differ in their first bits: the kernel's tables want that) -/
def sz_tick (N : Nat) : Nat := sz_ss 40 N 0 (Nat.mod (Nat.add (sz_sl 40 N 0) 1) 1099511627776)
noncomputable def sz_put (s : szH) (k : Nat) (c : Option Nat) (rest : List szV) : szG := match c, s with
  | some c, (N, E, n, x, u, w) => sz_fo (sz_tick (sz_ss 40 N k c)) (fun N => some (rest, (N, E, n, x, u, w)))
  | none, _ => none
noncomputable def sz_h21 (T : List (Int × szT)) (R : szR) (a b : Nat) (k : Int) (st : List szV) (s : szH) : szG := match st with
  | v :: r :: rest => bif Nat.beq (Nat.mod (sz_ce s r) 4096) (Nat.succ (Nat.mul 2 b)) && (Nat.blt a (sz_dl (sz_ce s r)) && sz_fit R k v) then sz_put s (Nat.add (sz_db (sz_ce s r)) a) (sz_en T v) rest else none
  | _ => none
noncomputable def sz_h22 (T : List (Int × szT)) (X : List (List szV)) (R : szR) (a : Nat) (st : List szV) (s : szH) : szG := match st with
  | i :: r :: rest => bif Nat.beq r.1 1 && Nat.blt r.2.1.toNat 4 then (match sz_nth X r.2.1.toNat with
      | some fs => (match sz_in R i fs.length with
        | some k => (match sz_nth fs k with
          | some v => if a = 0 then some (v :: rest, s) else none
          | none => none)
        | none => none)
      | none => none)
    else bif Nat.beq (sz_ce s r) 0 then none else bif mz_akind a (sz_dt (sz_ce s r)) then (match sz_in R i (sz_dl (sz_ce s r)) with
      | some k => sz_fv (sz_rd T s.1 (sz_dt (sz_ce s r)) (sz_db (sz_ce s r)) k) (fun v => some (v :: rest, s))
      | none => none) else none
  | _ => none
noncomputable def sz_h23 (D : szD) (T : List (Int × szT)) (R : szR) (a : Nat) (st : List szV) (s : szH) : szG := match st with
  | v :: i :: r :: rest => bif Nat.beq (sz_ce s r) 0 then none else bif mz_akind a (sz_dt (sz_ce s r)) then (match sz_in R i (sz_dl (sz_ce s r)), sz_nar D R s (sz_dt (sz_ce s r)) v with
      | some k, some w => sz_put s (Nat.add (sz_db (sz_ce s r)) k) (sz_en T w) rest
      | _, _ => none) else none
  | _ => none
noncomputable def sz_h24 (X : List (List szV)) (st : List szV) (s : szH) : szG := match st with
  | r :: rest => if r.1 = 1 ∧ r.2.1.toNat < 4 then (match sz_nth X r.2.1.toNat with
      | some fs => some ((0, (fs.length : Int), []) :: rest, s)
      | none => none)
    else if ¬ sz_ce s r = 0 ∧ sz_dt (sz_ce s r) % 2 = 1 ∧ sz_dt (sz_ce s r) < 10 then some ((0, (sz_dl (sz_ce s r) : Int), []) :: rest, s) else none
  | _ => none
/-- a new cell: tag, length, what the counter takes -/
noncomputable def sz_mkc (t n b : Nat) (rest : List szV) (s : szH) : szG := match s with
  | (N, E, c, x, u, w) => if n < 1048576 ∧ x < 4294967296 ∧ t < 4095 then sz_fo (4 + c) (fun r => sz_fo (sz_ss 64 E c (sz_dd t n x)) (fun E => sz_fo (c + 1) (fun c => sz_fo (x + n) (fun x => sz_fo (u + 1) (fun u => sz_fo (w + b) (fun w => some ((1, Int.ofNat r, []) :: rest, (N, E, c, x, u, w)))))))) else none
noncomputable def sz_new (R : szR) (t : Nat) (st : List szV) (s : szH) : szG := match st with
  | n :: rest => (match sz_in R n 60001 with
    | some c => sz_mkc t c c rest s
    | none => none)
  | _ => none
def sz_tot (st : List szV) : Nat := (st.map sz_cat).sum
def sz_h29 (st : List szV) (s : szH) : szG := match st with
  | r :: rest => if r.1 = 1 ∧ sz_tot rest ≤ 8 then some (rest, s) else none
  | _ => none
/-- n slots from k on -/
def sz_bl (N k n : Nat) : Nat := Nat.mod (Nat.shiftRight N (Nat.mul 40 k)) (Nat.pow 2 (Nat.mul 40 n))
def sz_cp (N sb db n : Nat) : Nat := Nat.xor N (Nat.shiftLeft (Nat.xor (sz_bl N sb n) (sz_bl N db n)) (Nat.mul 40 db))
noncomputable def sz_h30 (R : szR) (st : List szV) (s : szH) : szG := match st with
  | n :: dp :: rd :: sp :: rs :: rest => if ¬ sz_ce s rs = 0 ∧ ¬ sz_ce s rd = 0 ∧ sz_dt (sz_ce s rs) = 1 ∧ sz_dt (sz_ce s rd) = 1 then match sz_in R n 60001, sz_in R dp 60001, sz_in R sp 60001 with
    | some n, some dp, some sp => if sp + n ≤ sz_dl (sz_ce s rs) ∧ dp + n ≤ sz_dl (sz_ce s rd) ∧ sz_tot rest ≤ 8 then sz_fo (sz_tick (sz_cp s.1 (sz_db (sz_ce s rs) + sp) (sz_db (sz_ce s rd) + dp) n)) (fun N => some (rest, (N, s.2))) else none
    | _, _, _ => none else none
  | _ => none
noncomputable def sz_heap (D : szD) (T : List (Int × szT)) (R : szR) (X : List (List szV)) (op a b : Nat) (c : Int) (st : List szV) (s : szH) : szG :=
  bif Nat.beq op 20 then sz_h20 T a b st s
  else bif Nat.beq op 22 then sz_h22 T X R a st s
  else bif Nat.beq op 23 then sz_h23 D T R a st s
  else bif Nat.beq op 21 then sz_h21 T R a b c st s
  else bif Nat.beq op 24 then sz_h24 X st s
  else bif Nat.beq op 25 then (if a < 12 then sz_mkc (2 * a) (mz_def a).length b st s else none)
  else bif Nat.beq op 26 then (if 3 < a then none else sz_new R (2 * a + 1) st s)
  else bif Nat.beq op 27 then sz_new R 9 st s
  else bif Nat.beq op 28 then (if 1 ≤ a ∧ a < 4 then some ((1, Int.ofNat a, []) :: st, s) else none)
  else bif Nat.beq op 29 then sz_h29 st s
  else bif Nat.beq op 30 then sz_h30 R st s
  else none
noncomputable def sz_one (D : szD) (R : szR) (op a b : Nat) (c : Int) (i nL : Nat) (lo : szLo) (st : List szV) : szO :=
  bif Nat.beq op 2 then sz_o2 a b i lo st
  else bif Nat.beq op 0 then some (i + 1, lo, (0, c, []) :: st)
  else bif Nat.beq op 17 then sz_o17 R a b i lo st
  else bif Nat.beq op 18 then some (b, lo, st)
  else bif Nat.beq op 5 then sz_o5 a i nL c lo st
  else bif Nat.beq op 6 then sz_o6 D R a i lo st
  else bif Nat.beq op 3 then sz_o3 a b i nL lo st
  else bif Nat.beq op 16 then sz_o16 R a b i lo st
  else bif Nat.beq op 7 then sz_o7 D R a i lo st
  else bif Nat.beq op 8 then sz_o8 i lo st
  else bif Nat.beq op 12 then sz_o12 i lo st
  else bif Nat.beq op 1 then (if -2147483648 ≤ c ∧ c ≤ 2147483647 then some (i + 1, lo, (2, c, []) :: st) else none)
  else bif Nat.beq op 4 then sz_o4 a i nL lo st
  else bif Nat.beq op 11 then sz_o11 R i lo st
  else bif Nat.beq op 13 then sz_o13 i lo st
  else bif Nat.beq op 14 then sz_o14 i lo st
  else bif Nat.beq op 15 then sz_o15 i lo st
  else none
noncomputable def sz_args {β : Type} : List szV → (szLo → β) → β
  | [], k => k []
  | v :: vs, k => if sz_cat v = 2 then sz_args vs (fun l => k (v :: (9, 0, []) :: l)) else sz_args vs (fun l => k (v :: l))
noncomputable def sz_tk {β : Type} (n : Nat) : List szV → List szV → (List szV → List szV → β) → Option β := Nat.rec (fun st as k => some (k as st)) (fun _ ih st as k => match st with
  | [] => none
  | v :: st => ih st (v :: as) k) n
def sz_recv (k : Nat) (as : List szV) (s : szH) : Bool := match k with
  | 0 => true
  | c + 1 => match as with
    | r :: _ => Nat.beq (Nat.mod (sz_ce s r) 4096) (Nat.succ (Nat.mul 2 c))
    | _ => false
/-- the program once more: locals, receiver, handler, code -/
abbrev szM : Type := Nat × Nat × (Nat × Nat × Nat) × Nat
/-- 'if (x != 0) k++' and 'x != 0' as a value, in one -/
noncomputable def sz_peep (D : szD) (R : szR) (code op a b i nL : Nat) (lo : szLo) (st : List szV) : szO :=
  if op = 16 ∧ a = 0 then match st with
    | x :: rest => if x.1 = 0 ∧ sz_k R x = none then match sz_mk D 4 x (0, 0, []) with
      | some z => if Nat.mod (sz_sl 80 code (i + 1)) 256 = 5 ∧ b = i + 2 ∧ sz_fc (sz_sl 80 code (i + 1)) = 1 ∧ sz_fa (sz_sl 80 code (i + 1)) < nL ∧ ¬ sz_sl 80 code (i + 1) = 0 then match sz_ld lo (sz_fa (sz_sl 80 code (i + 1))) with
            | some u => if u.1 = 0 then sz_upk (9, 0, []) (sz_fa (sz_sl 80 code (i + 1))) (0, u.2.1, sz_add z.2.2 u.2.2) lo (fun lo => some (i + 2, lo, rest)) else none
            | none => none
          else if Nat.mod (sz_sl 80 code (i + 1)) 256 = 0 ∧ sz_fc (sz_sl 80 code (i + 1)) = 1 ∧ ¬ sz_sl 80 code (i + 1) = 0 ∧ Nat.mod (sz_sl 80 code (i + 2)) 256 = 18 ∧ sz_fb (sz_sl 80 code (i + 2)) = i + 4 ∧ Nat.mod (sz_sl 80 code (i + 3)) 256 = 0 ∧ sz_fc (sz_sl 80 code (i + 3)) = 0 ∧ ¬ sz_sl 80 code (i + 3) = 0 ∧ b = i + 3 then some (i + 4, lo, z :: rest) else none
      | none => none
      else none
    | _ => none
  else none
def sz_fin (R : szR) (op a b : Nat) (st : List szV) (s : szH) : Option (Option (Option szV) × szH) :=
  bif Nat.beq op 42 then match st with
    | [v] => if v.1 = a ∧ a < 3 ∧ (b = 0 ∨ (v.1 = 0 ∧ 0 ≤ (sz_rg R v).1 ∧ (sz_rg R v).2 ≤ 1)) then some (some (some v), s) else none
    | _ => none
  else bif Nat.beq op 41 then match st with
    | [] => some (some none, s)
    | _ => none
  else bif Nat.beq op 43 then (if sz_tot st ≤ 8 then some (none, (s.1, s.2.1, s.2.2.1, s.2.2.2.1, s.2.2.2.2.1 + 1, s.2.2.2.2.2 + 6)) else none)
  else none
noncomputable def sz_back (R : szR) (o : Option (Option szV)) (ws : List szF) (s : szH) (d : Nat) : Option (Option szQ) := match ws with
  | [] => match o with
    | some (some v) => if v.1 = 0 ∧ sz_k R v = some 1 ∧ s.2.2.2.2.1 ≤ 600002 ∧ s.2.2.2.2.2 ≤ 7302232 then some none else none
    | _ => none
  | (j, m, code, i, lo, st) :: ws => match o with
    | some none => sz_fo (i + 1) (fun i => some (some ((j, m, code, i, lo, st), ws, s, d + 1)))
    | some (some v) => sz_fo (i + 1) (fun i => some (some ((j, m, code, i, lo, v :: st), ws, s, d + 1)))
    | none => if m.2.1 ≤ i ∧ i < m.2.2.1 then some (some ((j, m, code, m.2.2.2, lo, [(3, 0, [])]), ws, s, d + 1)) else none
noncomputable def sz_take (n : Nat) (st : List szV) : Option (List szV × List szV) := sz_tk n st [] (fun as rest => (as, rest))
noncomputable def sz_call (P : List szM) (j : Nat) (m : Nat × Nat × Nat × Nat) (code i : Nat) (lo : szLo) (a : Nat) (ws : List szF) (s : szH) (d : Nat) (as : List szV) (rest : List szV) : Option (Option szQ) := match d, sz_nth P a with
  | d + 1, some (nL, rc, hd, co) => if sz_tot rest ≤ 8 ∧ sz_tot as ≤ nL ∧ sz_recv rc as s = true then sz_args as (fun lo' => some (some ((a, (nL, hd), co, 0, lo', []), (j, m, code, i, lo, rest) :: ws, s, d))) else none
  | _, _ => none
noncomputable def sz_nx (j : Nat) (m : Nat × Nat × Nat × Nat) (code : Nat) (ws : List szF) (s : szH) (d : Nat) (r : szO) : Option (Option szQ) := match r with
  | some (i, lo, st) => sz_fo i (fun i => some (some ((j, m, code, i, lo, st), ws, s, d)))
  | none => none
def sz_or2 (a b : Option (Option szQ)) : Option (Option szQ) := match a with
  | some x => some x
  | none => b
noncomputable def sz_step (P : List szM) (D : szD) (T : List (Int × szT)) (R : szR) (X : List (List szV)) (j : Nat) (m : Nat × Nat × Nat × Nat) (code i : Nat) (lo : szLo) (st : List szV) (ws : List szF) (s : szH) (d q op : Nat) : Option (Option szQ) :=
  bif Nat.beq q 0 then none
  else bif Nat.blt op 19 then sz_or2 (sz_nx j m code ws s d (sz_one D R op (sz_fa q) (sz_fb q) (sz_fc q) i m.1 lo st)) (sz_nx j m code ws s d (sz_peep D R code op (sz_fa q) (sz_fb q) i m.1 lo st))
  else bif Nat.blt op 31 then (bif Nat.blt op 20 then (match sz_nth mzP j with
      | some M => match sz_nth M.2.2.2 i with
        | some ri => sz_nx j m code ws s d (sz_o19 R (sz_fb q) (sz_fc q) ri.2.2.2.2 lo st)
        | none => none
      | none => none) else (match sz_heap D T R X op (sz_fa q) (sz_fb q) (sz_fc q) st s with
      | some (st, s) => sz_fo (i + 1) (fun i => some (some ((j, m, code, i, lo, st), ws, s, d)))
      | none => none))
  else bif Nat.beq op 40 then (match sz_take (sz_fb q) st with
      | some (as, rest) => sz_fo (sz_fa q) (fun a => sz_call P j m code i lo a ws s d as rest)
      | none => none)
  else match sz_fin R op (sz_fa q) (sz_fb q) st s with
      | some (o, s) => sz_back R o ws s d
      | none => none
def sz_pts (lo : Int) (n : Nat) : List (Int × Int) := (List.range n).map (fun (k : Nat) => (lo + (k : Int), lo + (k : Int)))
def sz_pt (R : szR) : szT → Option (Nat × List (Int × Int))
  | [] => none
  | q :: t => if (sz_at R q.1).1 < (sz_at R q.1).2 ∧ (sz_at R q.1).2 - (sz_at R q.1).1 ≤ 100 then some (q.1, sz_pts (sz_at R q.1).1 ((sz_at R q.1).2 - (sz_at R q.1).1 + 1).toNat) else sz_pt R t
def sz_or (a b : Option (Nat × List (Int × Int))) : Option (Nat × List (Int × Int)) := match a with
  | some x => some x
  | none => b
def sz_th (R : szR) (k : Nat) (t : Int) : Option (Nat × List (Int × Int)) := if (sz_at R k).1 ≤ t ∧ t ≤ (sz_at R k).2 then some (k, [((sz_at R k).1, t - 1), (t, t), (t + 1, (sz_at R k).2)].filter (fun p => decide (p.1 ≤ p.2))) else none
def sz_cut2 (R : szR) (x y : szV) : Option (Nat × List (Int × Int)) := sz_or (match sz_add x.2.2 (sz_sc (-1) y.2.2) with
  | [(k, a)] => if a = 1 then sz_th R k (y.2.1 - x.2.1) else if a = -1 then sz_th R k (x.2.1 - y.2.1) else none
  | _ => none) (sz_or (sz_pt R x.2.2) (sz_pt R y.2.2))
def sz_cut19 (R : szR) (c : Int) (n : Nat) (x : szV) : Option (Nat × List (Int × Int)) := match x.2.2 with
  | [(k, a)] => if a = 1 ∧ x.2.1 = 0 then some (k, (((sz_at R k).1, c - 1) :: (sz_pts c n ++ [(c + (n : Int), (sz_at R k).2)])).filter (fun p => decide (p.1 ≤ p.2) && (decide ((sz_at R k).1 ≤ p.1) && decide (p.2 ≤ (sz_at R k).2)))) else sz_pt R x.2.2
  | t => sz_pt R t
/-- where a run must be told apart: an atom, and ranges for it -/
noncomputable def sz_cut (R : szR) (j i op : Nat) (c : Int) (st : List szV) : Option (Nat × List (Int × Int)) := match st with
  | x :: st => match op, st with
    | 16, _ => sz_cut2 R x (0, 0, [])
    | 17, y :: _ => sz_cut2 R y x
    | 11, y :: _ => sz_cut2 R y x
    | 19, _ => (match sz_nth mzP j with
      | some M => match sz_nth M.2.2.2 i with
        | some ri => sz_cut19 R c ri.2.2.2.2.length x
        | none => none
      | none => none)
    | 6, y :: _ => sz_or (sz_pt R x.2.2) (sz_pt R y.2.2)
    | 23, y :: _ => sz_or (sz_pt R y.2.2) (sz_pt R x.2.2)
    | 30, dp :: _ :: sp :: _ => sz_or (sz_pt R x.2.2) (sz_or (sz_pt R dp.2.2) (sz_pt R sp.2.2))
    | _, _ => sz_pt R x.2.2
  | _ => none
def sz_cov (lo hi : Int) : List (Int × Int) → Bool
  | [] => decide (hi < lo)
  | p :: r => decide (p.1 ≤ lo) && sz_cov (p.2 + 1) hi r
noncomputable def sz_ex1 (P : List szM) (D : szD) (T : List (Int × szT)) (X : List (List szV)) (ih : szR → szQ → Bool) (R : szR) (j : Nat) (m : Nat × Nat × Nat × Nat) (code i : Nat) (lo : szLo) (st : List szV) (ws : List szF) (s : szH) (d q op : Nat) : Bool := match sz_step P D T R X j m code i lo st ws s d q op with
    | some none => true
    | some (some C) => ih R C
    | none => match sz_cut R j i op (sz_fc q) st with
      | some (k, ps) => sz_cov (sz_at R k).1 (sz_at R k).2 ps && ps.all (fun p => sz_fi p.1 (fun a => sz_fi p.2 (fun b => sz_upk (-2147483648, 2147483647) k (a, b) R (fun R => ih R ((j, m, code, i, lo, st), ws, s, d)))))
      | none => false
noncomputable def sz_ex (P : List szM) (D : szD) (T : List (Int × szT)) (X : List (List szV)) (n : Nat) : szR → szQ → Bool := Nat.rec (fun _ _ => false) (fun _ ih R C => match C with
  | ((j, m, code, i, lo, st), ws, s, d) => sz_fo (sz_sl 80 code i) (fun q => sz_fo (Nat.mod q 256) (fun op => sz_ex1 P D T X ih R j m code i lo st ws s d q op))) n
def sz_X (L : Nat) : List (List szV) := [(List.range L).map (fun j => (0, 0, [(j, 1)])), [1, 1, 1, 1, 0, 0, 4, 2, 2].map (fun c => (0, c, [])), [1, 1, 1, 1, 0, 0, 1, 1, 1].map (fun c => (0, c, [])), [4, 3, 4, 4, 1, 1, 10, 4, 3].map (fun c => (0, c, []))]
