/-! the law by pieces: written by wip/B/genlaw.py -/
noncomputable def a2Inl (j : Nat) : Bool := az_inl j && !(Nat.beq j 144)
noncomputable def a3Inl (j : Nat) : Bool := a2Inl j || ((((Nat.beq j 42 || Nat.beq j 181) || Nat.beq j 12) || Nat.beq j 102) || Nat.beq j 52)
def lwM : List (Nat × Nat) := (List.range 163).map (fun c => (c, 0))
def lwQ : azPat := ([azf, azf], [(0, 2560), (0, 2560)], [], [(1, 0, []), (1, 4, []), (1, 145, []), (1, 166, []), (0, 0, [(1, 1)])], [], [], false)
def lwP : azPat := ([azf, azf], [(5, 2560), (0, 2555)], [((-5), [(0, 1), (1, (-1))])], [(1, 0, []), (1, 4, []), (1, 145, []), (1, 166, []), (0, 0, [(1, 1)])], [], [], false)
def lwE : azHd := (13, ([azf, azf, azf], [(0, 2560), (0, 2560), (5, 2560)], [((-5), [(2, 1), (1, (-1))])], [(1, 0, []), (1, 4, []), (1, 145, []), (1, 166, []), (0, 0, [(2, 1)])], [], [], false), (0, []), (4, 24))
def lwPcs : List Nat := [25, 42, 59, 66, 83, 111, 139, 186, 213, 250, 267, 274, 281, 288, 305, 322, 329, 346, 353, 371, 378, 395, 402, 419, 446, 453, 470, 487, 504, 521, 538, 555, 582, 609, 626, 643, 660]
def lwEs : List azHd := lwE :: lwPcs.map (fun i => (i, lwP, (0, []), (0, 0)))
def lwc0 : azCon := (0, 40, lwQ, [(some (some (0, 1, [])), [azf, azf], [(0, 2560), (0, 2560)], [], [])], lwM, (0, 0))
def lwc1 : azCon := (0, 40, lwP, [], lwM, (0, 0))
noncomputable def lwRd (D : szD) (R : szR) (Cs : azS) (C : azQ) (f : szD → szR → azS → azQ → Bool) : Bool := az_rscr D R Cs C f || az_rlen D R Cs C f
def lwK (r : Int × Int) : azCon := (0, 40, ([azf, azf, azf], [(5, 2560), (0, 2555), r], [((-5), [(0, 1), (1, (-1))])], [(1, 0, []), (1, 4, []), (1, 145, []), (1, 166, []), (0, 0, [(1, 1)])], [], [], false), [], lwM, (0, 0))
def lwKE (r : Int × Int) : azHd := (13, ([azf, azf, azf, azf], [(0, 2560), (0, 2560), r, (5, 2560)], [((-5), [(3, 1), (1, (-1))])], [(1, 0, []), (1, 4, []), (1, 145, []), (1, 166, []), (0, 0, [(3, 1)])], [], [], false), (0, []), (4, 24))
def lwK8 (r1 r2 : Int × Int) : azCon := (0, 40, ([azf, azf, azf, azf, azf, azf], [(5, 2560), (0, 2555), r1, r2, (-2147483648, 2147483647), (-2147483648, 2147483647)], [((-5), [(0, 1), (1, (-1))])], [(1, 0, []), (1, 4, []), (1, 145, []), (1, 166, []), (0, 0, [(1, 1)])], [], [], false), [], lwM, (0, 0))
def lwKE8 (r1 r2 : Int × Int) : azHd := (13, ([azf, azf, azf, azf, azf, azf, azf], [(0, 2560), (0, 2560), r1, r2, (-2147483648, 2147483647), (-2147483648, 2147483647), (5, 2560)], [((-5), [(6, 1), (1, (-1))])], [(1, 0, []), (1, 4, []), (1, 145, []), (1, 166, []), (0, 0, [(6, 1)])], [], [], false), (0, []), (4, 24))
noncomputable def lwR8 (D : szD) (R : szR) (Cs : azS) (C : azQ) (f : szD → szR → azS → azQ → Bool) : Bool := az_rk4 D R Cs C f || (az_rnz D R Cs C f || az_rwr D R Cs C f)
theorem lw_head : az_ex szP a3Inl lwc0.2.1 [] lwc0.2.2.2.2.1 (fun _ => az_pre 0 []) (az_hint []) (az_lvx szP a3Inl lwc0.2.1 [] lwc0.2.2.2.2.1 (fun _ => az_pre 0 []) (az_hint []) 400 (az_leaf lwc0 lwEs none (az_hb 2) (az_rb 2)) lwRd 3) 400 lwc0.2.2.1.1 lwc0.2.2.1.2.1 lwc0.2.2.1.2.2.1 (az_hc lwc0 (8, 0, (0, 0, 0), szc_0) (13, lwc0.2.2.1, (0, []), (0, 0))) = true := by decide +kernel
