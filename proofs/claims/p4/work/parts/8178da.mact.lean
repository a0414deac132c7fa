/-! an ACT: the reference's readAct -/
def naQ : szM := (3, 12, (0, 0, 0), szc_95)
def naMd : List (Nat × Nat) := [(141, 8), (141, 9), (141, 11), (145, 0)]
def naSR (sc : Nat) : Int × Int := bif Nat.beq sc 0 then (65, 66) else bif Nat.beq sc 1 then (0, 64) else bif Nat.beq sc 2 then (67, 127) else bif Nat.beq sc 3 then ((-128), (-1)) else (0, 0)
def naSC (sc : Nat) : azS := bif Nat.beq sc 4 then [(0, [(0, (-1)), (1, 1)])] else [((-1), [(0, 1), (1, (-1))])]
def naSF (sc : Nat) : azF := bif Nat.beq sc 4 then [] else [(143, (0, [(1, 1)]), (0, 0, [(8, 1)]))]
/-- atoms 0 how many signs, 1 where, 2 which ACT, 3 the greatest letter with '; 4 to 7 behind the first, the second OPERAND; 8 the sign -/
def coRk (kk : Nat) : szR := [(0, 80), (0, 90), ((kk : Int), (kk : Int)), ((-1), 9)]
def naC (sc kk : Nat) : azCon := (95, 9, ([azf, azf, azf, azf, azf, azf, azf, azf, azf], coRk kk ++ [(0, 90), ((-1), 9), (0, 90), ((-1), 9), naSR sc], naSC sc, [(1, 145, []), (0, 0, [(2, 1)])], moF ++ naSF sc, [], false), [], naMd, (0, 0))
noncomputable def naI (j : Nat) : Bool := az_inl j || (Nat.beq j 94 || Nat.beq j 90)
noncomputable def naD (sc f : Nat) (D : szD) (R : szR) (Cs : azS) (C : azQ) (fn : szD → szR → azS → azQ → Bool) : Bool :=
  (bif Nat.beq f 0 then az_knr szP 9 naMd 9 95 (bif y_acc sc then 52 else 91) moN [(0, 0, [(0, 1)]), (0, (bif y_acc sc then 2 else 0), [(1, 1)]), (0, 0, [(2, 1)]), (0, 0, [(3, 1)])] D R Cs C fn else az_knr szP 9 naMd 9 95 (bif y_acc sc then 52 else 91) moA [(0, 0, [(0, 1)]), (0, (bif y_acc sc then 2 else 0), [(1, 1)]), (0, 0, [(2, 1)]), (0, 0, [(3, 1)]), (0, 0, [(4, 1)]), (0, 0, [(5, 1)])] D R Cs C fn)
  || (bif Nat.beq f 0 then false else bif Nat.beq f 1 then az_knr szP 9 naMd 9 95 (bif y_acc sc then 81 else 132) moN [(0, 0, [(0, 1)]), (0, (bif y_acc sc then 2 else 1), [(4, 1)]), (0, 0, [(2, 1)]), (0, 0, [(5, 1)])] D R Cs C fn else az_knr szP 9 naMd 9 95 (bif y_acc sc then 81 else 132) moA [(0, 0, [(0, 1)]), (0, (bif y_acc sc then 2 else 1), [(4, 1)]), (0, 0, [(2, 1)]), (0, 0, [(5, 1)]), (0, 0, [(6, 1)]), (0, 0, [(7, 1)])] D R Cs C fn)
noncomputable def naS (sc f : Nat) (R : szR) (Cs : azS) (F : azF) (kok : Int × szT → Int × szT → Bool) (kf : Int × szT → Bool) : Bool := bif y_acc sc then yAc R Cs F 143 f (0, [(1, 1)]) (0, [(4, 1)]) (0, [(5, 1)]) (0, [(6, 1)]) (0, [(7, 1)]) kok kf else yAs R Cs F 143 f (0, [(1, 1)]) (0, [(4, 1)]) (0, [(6, 1)]) (0, [(7, 1)]) kok kf
noncomputable def naE (sc f : Nat) (_ : szD) (R : szR) (Cs : azS) (F : azF) (o : Option szV) : Bool := match o with
  | some _ => false
  | none => y_2 R Cs F 141 8 141 8 (fun w _ => naS sc f R Cs F (fun p g => y_eq R Cs w (-1, []) && y_2 R Cs F 141 7 141 10 (fun u x => y_eq R Cs u p && y_eq R Cs x g)) (fun z => y_eq R Cs w z))
