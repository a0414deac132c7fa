/-! what to do next: a heuristic, of which nothing need be proved -/
noncomputable def az_z : szV := (0, 0, [])
noncomputable def az_g0 (k : Nat) : azDir := (k, 0, [], (0, 0, []), (0, 0, []), (0, (0, [])), [])
noncomputable def az_gcut (k : Nat) (ps : List (Int × Int)) : azDir := (0, k, ps, (0, 0, []), (0, 0, []), (0, (0, [])), [])
noncomputable def az_gasm (c : Int) (t : szT) : azDir := (1, 0, [], (0, c, t), (0, 0, []), (0, (0, [])), [])
noncomputable def az_gdef (o : Nat) (x y : szV) : azDir := (2, o, [], x, y, (0, (0, [])), [])
noncomputable def az_gmat (c : Nat) (ix : Int × szT) (g : Nat) : azDir := (3, g, [], (0, 0, []), (0, 0, []), (c, ix), [])
noncomputable def az_gcall (k : Nat) (b : List szV) : azDir := (4, k, [], (0, 0, []), (0, 0, []), (0, (0, [])), b)
/-- points of a range -/
noncomputable def az_pts (l : Int) (n : Nat) : List (Int × Int) := (List.range n).map (fun (k : Nat) => (l + (k : Int), l + (k : Int)))
/-- an atom of a sum is told apart, point by point -/
noncomputable def az_cpt1 (R : szR) : szT → Option azDir
  | [] => none
  | q :: t => if (sz_at R q.1).1 < (sz_at R q.1).2 ∧ (sz_at R q.1).2 - (sz_at R q.1).1 ≤ 100 then some (az_gcut q.1 (az_pts (sz_at R q.1).1 ((sz_at R q.1).2 - (sz_at R q.1).1 + 1).toNat)) else az_cpt1 R t
/-- at 0 -/
noncomputable def az_c0 (R : szR) (x : szV) : Option azDir := match x.2.2 with
  | [(k, a)] => if a = 1 then some (az_gcut k [((sz_at R k).1, -1 - x.2.1), (-x.2.1, (sz_at R k).2)]) else none
  | _ => none
noncomputable def az_civ (D : szD) (R : szR) (x : szV) : Option azDir := match x.2.2 with
  | [(k, _)] => (match az_ann D (0, 0, [(k, 1)]) with
    | [] => none
    | [_] => none
    | ps => (match ps.filter (fun p => decide (az_mx (sz_at R k).1 p.1 ≤ az_mn (sz_at R k).2 p.2)) with
      | [] => none
      | [_] => none
      | ps => some (az_gcut k ps)))
  | _ => none
noncomputable def az_kv (R : szR) (Cs : azS) (v : szV) : szV := match az_k R Cs v with
  | some c => (0, c, [])
  | none => v
noncomputable def az_hbin (D : szD) (R : szR) (Cs : azS) (a : Nat) (x y : szV) : Option azDir :=
  if a < 2 then some (az_gdef (10 + a) x y)
  else match az_k R Cs x, az_k R Cs y with
    | some _, some _ => none
    | none, some q => if a = 9 ∨ a = 10 then az_or (az_civ D R x) (az_or (if a = 10 ∧ az_lb R Cs x.2.1 x.2.2 < 0 ∧ 0 ≤ az_ub R Cs x.2.1 x.2.2 then az_c0 R x else none) (some (az_gdef (10 + a) x (0, q, []))))
      else if a = 3 ∧ q = 255 ∧ -256 ≤ az_lb R Cs x.2.1 x.2.2 ∧ az_lb R Cs x.2.1 x.2.2 < 0 ∧ 0 ≤ az_ub R Cs x.2.1 x.2.2 ∧ az_ub R Cs x.2.1 x.2.2 ≤ 255 then az_or (az_c0 R x) (some (az_gdef 13 x (0, q, [])))
      else if a = 5 ∧ az_lb R Cs x.2.1 x.2.2 < 0 ∧ 0 ≤ az_ub R Cs x.2.1 x.2.2 then az_or (az_c0 R x) (some (az_gdef 15 x (0, q, [])))
      else some (az_gdef (10 + a) x (0, q, []))
    | some p, none => if a = 6 ∧ az_ub R Cs y.2.1 y.2.2 - az_lb R Cs y.2.1 y.2.2 ≤ 9 then az_or (az_cpt1 R y.2.2) (some (az_gdef 16 (0, p, []) y)) else some (az_gdef (10 + a) (0, p, []) y)
    | none, none => if a = 5 ∧ az_lb R Cs x.2.1 x.2.2 < 0 ∧ 0 ≤ az_ub R Cs x.2.1 x.2.2 then az_or (az_c0 R x) (some (az_gdef 15 x y)) else some (az_gdef (10 + a) x y)
noncomputable def az_hcond (R : szR) (Cs : azS) (a : Nat) (x y : szV) : Option azDir :=
  if a = 2 ∨ a = 3 then some (az_gasm (x.2.1 - y.2.1) (sz_add x.2.2 (sz_sc (-1) y.2.2)))
  else if a = 4 ∨ a = 5 then some (az_gasm (x.2.1 - y.2.1 - 1) (sz_add x.2.2 (sz_sc (-1) y.2.2)))
  else if az_lb R Cs (x.2.1 - y.2.1) (sz_add x.2.2 (sz_sc (-1) y.2.2)) < 0 then some (az_gasm (x.2.1 - y.2.1) (sz_add x.2.2 (sz_sc (-1) y.2.2)))
  else some (az_gasm (x.2.1 - y.2.1 - 1) (sz_add x.2.2 (sz_sc (-1) y.2.2)))
/-- the next key that a value may be -/
noncomputable def az_hsw (l h : Int) (x : szV) : List (Int × Nat) → Option azDir
  | [] => none
  | (k, _) :: r => if k < l then az_hsw l h x r else if h < k then none else if l < k then some (az_gasm (x.2.1 - k) x.2.2) else some (az_gasm (x.2.1 - k - 1) x.2.2)
noncomputable def az_tid (C : azC) (k : Nat) : Option Nat := bif Nat.blt k C.2.1 then (bif Nat.beq C.2.2.1 0 then sz_nth C.2.2.2 k else some (Nat.pred C.2.2.1)) else none
/-- whether a slot of a pair may be meant -/
noncomputable def az_pi1 (l u : Int) (ix : Int × szT) (s : Int) : Bool := decide (l ≤ s) && (decide (s ≤ u) && (match ix.2 with
  | [(_, a)] => decide ((s - ix.1) % a = 0)
  | _ => true))
noncomputable def az_pin (c : Nat) (l u : Int) (ix : Int × szT) : Bool := sz_fi l (fun l => sz_fi u (fun u => (az_pof c).any (fun i => match sz_nth azPs i with
  | some p => (Nat.beq p.1 c && az_pi1 l u ix (Int.ofNat p.2.1)) || (Nat.beq p.2.2.2.1 c && az_pi1 l u ix (Int.ofNat p.2.2.2.2.1))
  | none => false)))
/-- a slot gets an atom, or its index is told apart -/
noncomputable def az_hmat (R : szR) (Cs : azS) (c : Nat) (C : azC) (ix : Int × szT) : Option azDir := match ix with
  | (.ofNat k, []) => (match az_tid C k with
    | some g => some (az_gmat c ix g)
    | none => none)
  | ix => (match az_pin c (az_lb R Cs ix.1 ix.2) (az_ub R Cs ix.1 ix.2) ix with
    | true => az_cpt1 R ix.2
    | false => (match az_hom R C ix with
      | none => az_cpt1 R ix.2
      | some τ => bif Nat.beq τ.1 2 then az_cpt1 R ix.2 else (match az_tid C (az_lb R Cs ix.1 ix.2).toNat with
        | some g => some (az_gmat c ix g)
        | none => none)))
noncomputable def az_hst (R : szR) (Cs : azS) (c : Nat) (C : azC) (ix : Int × szT) : Option azDir := match ix with
  | (.ofNat _, []) => none
  | ix => (match az_pof c, az_hom R C ix with
    | [], some _ => none
    | _, _ => az_cpt1 R ix.2)
/-- bindings -/
noncomputable def az_bget (k : Nat) : List (Nat × szV) → Option szV
  | [] => none
  | q :: r => bif Nat.beq q.1 k then some q.2 else az_bget k r
/-- what is bound put in; the atoms that aren't bound -/
noncomputable def az_bsum (bs : List (Nat × szV)) : szT → (Int × szT) × szT
  | [] => ((0, []), [])
  | q :: t => match az_bget q.1 bs with
    | some x => ((q.2 * x.2.1 + (az_bsum bs t).1.1, sz_add (sz_sc q.2 x.2.2) (az_bsum bs t).1.2), (az_bsum bs t).2)
    | none => ((az_bsum bs t).1, q :: (az_bsum bs t).2)
noncomputable def az_b1 (bs : List (Nat × szV)) (p v : szV) : List (Nat × szV) := match p.2.2 with
  | [(k, a)] => (match az_bget k bs with
    | some _ => bs
    | none => bif Nat.beq p.1 0 && Nat.beq v.1 0 then (if a = 1 then az_fv (0, v.2.1 - p.2.1, v.2.2) (fun x => (k, x) :: bs) else az_fv (0, (v.2.1 - p.2.1) / a, v.2.2.map (fun q => (q.1, q.2 / a))) (fun x => (k, x) :: bs)) else bs)
  | [] => bs
  | t => match az_bsum bs t with
    | (z, [(k, a)]) => bif Nat.beq p.1 0 && Nat.beq v.1 0 then (if a = 1 then az_fv (0, v.2.1 - p.2.1 - z.1, sz_add v.2.2 (sz_sc (-1) z.2)) (fun x => (k, x) :: bs) else if a = -1 then az_fv (0, p.2.1 + z.1 - v.2.1, sz_add z.2 (sz_sc (-1) v.2.2)) (fun x => (k, x) :: bs) else bs) else bs
    | _ => bs
noncomputable def az_bl : szLo → szLo → List (Nat × szV) → List (Nat × szV)
  | p :: ps, v :: vs, bs => az_bl ps vs (az_b1 bs p v)
  | _, _, bs => bs
/-- a slot without a fact, or the binding -/
noncomputable def az_bF (F : azF) : azF → List (Nat × szV) → Option (Nat × (Int × szT)) × List (Nat × szV)
  | [], bs => (none, bs)
  | q :: r, bs => match az_fget q.1 q.2.1 F with
    | some v => az_bF F r (az_b1 bs q.2.2 v)
    | none => (some (q.1, q.2.1), bs)
noncomputable def az_bls (n : Nat) (bs : List (Nat × szV)) : List szV := (List.range n).map (fun k => (az_bget k bs).getD (0, 0, []))
noncomputable def az_ids (n : Nat) : List (Nat × szV) := (List.range n).map (fun k => (k, (0, 0, [(k, 1)])))
noncomputable def az_hb (n0 : Nat) (_ : szD) (_ : szR) (_ : azS) (C : azQ) (H : azHd) : List szV := az_bls H.2.1.2.1.length (az_bF C.2.2.1 H.2.1.2.2.2.2.1 (az_bl H.2.1.2.2.2.1 C.1.2.2.2.2.1 (az_ids n0))).2
noncomputable def az_rb (n0 : Nat) (_ : szD) (_ : szR) (_ : azS) (F : azF) (v : Option szV) (p : azPo) : List szV := az_bls p.2.2.1.length (az_bF F p.2.2.2.2 (match p.1, v with
  | some (some w), some v => az_b1 (az_ids n0) w v
  | _, _ => az_ids n0)).2
/-- a contract for a call: its number, or a slot that wants a fact -/
noncomputable def az_hcall (tb : List azCon) (D : szD) (R : szR) (Cs : azS) (F : azF) (dirty : List Nat) (new : Bool) (lo : szLo) (a : Nat) : List azCon → Nat → Option azDir
  | [], _ => none
  | c :: r, k => bif Nat.beq c.1 a then (match az_bF F c.2.2.1.2.2.2.2.1 (az_bl c.2.2.1.2.2.2.1 lo []) with
      | (some s, _) => (match az_cell s.1 with
        | some C => az_or (az_hmat R Cs s.1 C s.2) (az_hcall tb D R Cs F dirty new lo a r (k + 1))
        | none => az_hcall tb D R Cs F dirty new lo a r (k + 1))
      | (none, bs) => bif az_mp D R Cs F dirty new lo (az_bls c.2.2.1.2.1.length bs) c.2.2.1 then some (az_gcall k (az_bls c.2.2.1.2.1.length bs)) else az_hcall tb D R Cs F dirty new lo a r (k + 1))
    else az_hcall tb D R Cs F dirty new lo a r (k + 1)
/-- an atom for a head's slot; slots: method, instruction, cell, slot -/
noncomputable def az_hh (hs : List (Nat × Nat × Nat)) (i : Nat) (R : szR) (Cs : azS) (F : azF) : Option azDir := match hs with
  | [] => none
  | (j, c, k) :: r => bif Nat.beq j i then (match az_fget c (Int.ofNat k, []) F with
      | some _ => az_hh r i R Cs F
      | none => (match az_cell c with
        | some C => az_hmat R Cs c C (Int.ofNat k, [])
        | none => az_hh r i R Cs F))
    else az_hh r i R Cs F
/-- slots of pairs that want facts ahead of a write to (c, k) -/
noncomputable def az_hpp (R : szR) (Cs : azS) (F : azF) (dirty : List Nat) (c k : Nat) : List Nat → Option azDir
  | [] => none
  | i :: r => match sz_nth azPs i with
    | some p => bif az_touch c k p && !(dirty.any (fun n => Nat.beq n i)) then (match az_fget p.1 (Int.ofNat p.2.1, []) F with
        | none => (match az_cell p.1 with
          | some C => az_hmat R Cs p.1 C (Int.ofNat p.2.1, [])
          | none => az_hpp R Cs F dirty c k r)
        | some _ => (match az_fget p.2.2.2.1 (Int.ofNat p.2.2.2.2.1, []) F with
          | none => (match az_cell p.2.2.2.1 with
            | some C => az_hmat R Cs p.2.2.2.1 C (Int.ofNat p.2.2.2.2.1, [])
            | none => az_hpp R Cs F dirty c k r)
          | some _ => az_hpp R Cs F dirty c k r)) else az_hpp R Cs F dirty c k r
    | none => az_hpp R Cs F dirty c k r
/-- what the pair says of its first slot grows less -/
noncomputable def az_pls (R : szR) (Cs : azS) (p : azP) (o v : szV) : Bool := match az_k R Cs o, az_k R Cs v with
  | some y, some z => decide (0 < p.2.2.1) && decide ((p.2.2.2.2.2.1 * y + p.2.2.2.2.2.2) / p.2.2.1 < (p.2.2.2.2.2.1 * z + p.2.2.2.2.2.2) / p.2.2.1)
  | _, _ => false
/-- the same for a field: a pair whose old truth gives the new one wants the field's own fact alone -/
noncomputable def az_hp2 (R : szR) (Cs : azS) (F : azF) (dirty : List Nat) (c k : Nat) (v : szV) (ids : List Nat) : Option azDir := match ids with
  | [] => none
  | i :: r => match sz_nth azPs i with
    | some p => bif (Nat.beq p.2.2.2.1 c && Nat.beq p.2.2.2.2.1 k) && !(dirty.any (fun n => Nat.beq n i)) then (match az_fget c (Int.ofNat k, []) F with
        | none => (match az_cell c with
          | some C => az_hmat R Cs c C (Int.ofNat k, [])
          | none => none)
        | some o => bif az_po2 R Cs p o v && !(az_pls R Cs p o v) then az_hp2 R Cs F dirty c k v r else az_or (az_hpp R Cs F dirty c k [i]) (az_hp2 R Cs F dirty c k v r))
      else az_or (az_hpp R Cs F dirty c k [i]) (az_hp2 R Cs F dirty c k v r)
    | none => az_hp2 R Cs F dirty c k v r
/-- source slots that want facts ahead of an arraycopy -/
noncomputable def az_hcp (R : szR) (Cs : azS) (F : azF) (cs cd : Nat) (C1 C2 : azC) (sp dp : Nat) : Nat → Option azDir
  | 0 => none
  | k + 1 => (match az_fget cs (Int.ofNat (sp + k), []) F with
    | some _ => az_hcp R Cs F cs cd C1 C2 sp dp k
    | none => bif (match az_pof cd with
        | [] => false
        | _ => true) || !(decide (az_ty C1 (sp + k) = az_ty C2 (dp + k))) then az_hmat R Cs cs C1 (Int.ofNat (sp + k), []) else az_hcp R Cs F cs cd C1 C2 sp dp k)
noncomputable def az_pre (j0 : Nat) (hs : List (Nat × Nat × Nat)) (R : szR) (Cs : azS) (C : azQ) : Option azDir := match C with
  | ((j, _, code, i, _, st), ws, F, dirty, _, _, _) => az_or (match ws, st with
    | [], [] => bif Nat.beq j j0 then az_hh hs i R Cs F else none
    | _, _ => none) (sz_fo (sz_sl 80 code i) (fun q => sz_fo (Nat.mod q 256) (fun op =>
      bif Nat.beq op 21 then (match st with
        | v :: r :: _ => (match az_cr r with
          | some c => az_hp2 R Cs F dirty c (sz_fa q) v (az_pof c)
          | none => none)
        | _ => none)
      else bif Nat.beq op 23 then (match st with
        | _ :: y :: r :: _ => (match az_cr r, az_k R Cs y with
          | some c, some (.ofNat k) => az_hpp R Cs F dirty c k (az_pof c)
          | _, _ => none)
        | _ => none)
      else bif Nat.beq op 30 then (match st with
        | n :: dp :: rd :: sp :: rs :: _ => (match az_nk R Cs n, az_nk R Cs dp, az_nk R Cs sp, az_cr rs, az_cr rd with
          | some n, some dp, some sp, some cs, some cd => (match az_cell cs, az_cell cd with
            | some C1, some C2 => az_hcp R Cs F cs cd C1 C2 sp dp n
            | _, _ => none)
          | _, _, _, _, _ => none)
        | _ => none)
      else none)))
noncomputable def az_hint (tb : List azCon) (D : szD) (R : szR) (Cs : azS) (C : azQ) : Option azDir := match C with
  | ((j, _, code, i, lo, st), _, F, dirty, new, _, _) => sz_fo (sz_sl 80 code i) (fun q => sz_fo (Nat.mod q 256) (fun op => match op, st with
    | 5, _ => (match sz_ld lo (sz_fa q) with
      | some x => some (az_gdef 10 x (0, sz_fc q, []))
      | none => none)
    | 6, y :: x :: _ => az_hbin D R Cs (sz_fa q) x y
    | 7, x :: _ => (match sz_fa q with
      | 0 => some (az_gdef 11 (0, 0, []) x)
      | 1 => some (az_gdef 2 x (0, 0, []))
      | _ => some (az_gdef 3 x (0, 0, [])))
    | 9, _ => some (az_g0 5)
    | 10, _ => some (az_g0 5)
    | 11, _ => some (az_g0 5)
    | 16, x :: _ => az_hcond R Cs (sz_fa q) x (0, 0, [])
    | 17, y :: x :: _ => az_hcond R Cs (sz_fa q) x y
    | 19, x :: _ => az_hsw (az_lb R Cs x.2.1 x.2.2) (az_ub R Cs x.2.1 x.2.2) x (az_sw j i 19)
    | 39, x :: _ => az_hsw (az_lb R Cs x.2.1 x.2.2) (az_ub R Cs x.2.1 x.2.2) x (az_sw j i 39)
    | 20, r :: _ => (match az_cr r with
      | some c => (match az_cell c with
        | some K => az_hmat R Cs c K (Int.ofNat (sz_fa q), [])
        | none => none)
      | none => none)
    | 22, y :: r :: _ => bif Nat.beq (sz_fa q) 1 then some (az_g0 5) else bif Nat.beq r.1 1 && Nat.blt r.2.1.toNat 4 then az_cpt1 R y.2.2 else (match az_cr r with
      | some c => (match az_cell c with
        | some K => az_ix R Cs y (fun ix => az_hmat R Cs c K ix)
        | none => none)
      | none => none)
    | 23, v :: y :: r :: _ => (match az_cr r with
      | some c => (match az_cell c with
        | some K => az_or (az_ix R Cs y (fun ix => az_hst R Cs c K ix)) (bif Nat.beq K.1 5 then some (az_gdef 2 v (0, 0, [])) else none)
        | none => none)
      | none => none)
    | 30, n :: dp :: _ :: sp :: _ => (match az_nk R Cs n, az_nk R Cs dp with
      | none, _ => az_cpt1 R n.2.2
      | _, none => az_cpt1 R dp.2.2
      | _, _ => az_cpt1 R sp.2.2)
    | 40, _ => (match sz_take (sz_fb q) st with
      | some (as, _) => sz_args as (fun lo' => az_hcall tb D R Cs F dirty new lo' (sz_fa q) tb 0)
      | none => none)
    | _, _ => none))
