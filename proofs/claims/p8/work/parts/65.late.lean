/-! layLate: it ends where all bounds hold for the early times -/
def lbB : azCon := (124, 3, ([], [], [], [(1, 145, []), (1, 155, [])], [], [], false), [(some (some (0, 0, [(0, 1)])), [azf], [(0, 205)], [], [])], [], (0, 0))
def lsB : azCon := (119, 2, ([azf], [(0, 9)], [], [(1, 145, []), (0, 0, [(0, 1)])], [], [], false), [(some (some (0, 0, [(1, 1)])), [azf, azf], [(0, 9), (1, 40)], [], [])], [], (0, 0))
noncomputable def llInl (j : Nat) : Bool := az_inl j && !(Nat.beq j 121)
def llQ : szM := (8, 12, (0, 0, 0), szc_125)
set_option maxRecDepth 20000 in
theorem llQ_ok : szP[125]? = some llQ := rfl
def llEI (nn : Nat) : azHd := (51, (List.replicate (3 + nn) azf, [(1, 200), ((nn : Int), (nn : Int)), (0, 2050)] ++ List.replicate nn ((-10000), 10000), [], [(1, 145, []), (0, 0, [(0, 1)]), (0, 0, [(1, 1)]), (0, 0, [(2, 1)]), (0, 0, []), (0, 0, []), (0, 0, [])], (List.range nn).map (fun (i : Nat) => (152, ((i : Int), []), (0, 0, [(3 + i, 1)]))), [], false), (0, []), (0, 0))
def llEIs : List azHd := (List.range 10).map (fun i => llEI (i + 1))
def llCI : azCon := (125, 4, ([azf, azf], [(1, 200), (0, 10)], [], [(1, 145, []), (0, 0, [(0, 1)])], [(142, (0, []), (0, 0, [(1, 1)]))], [], false), [(some none, [azf, azf], [(1, 200), (0, 10)], [], [])], [(152, 0)], (0, 0))
def llT : List azCon := [lbB, lsB, snB]
theorem llRI : az_ex szP llInl llCI.2.1 llT llCI.2.2.2.2.1 (fun _ => az_pre 125 []) (az_hint llT) (az_sleaf szP llInl llT (fun _ => az_pre 125 []) (az_hint llT) llCI llEIs (az_hb 2) (az_rb 2) none 0) 20000 llCI.2.2.1.1 llCI.2.2.1.2.1 llCI.2.2.1.2.2.1 (az_hc llCI llQ (0, llCI.2.2.1, (0, []), (0, 0))) = true := by decide +kernel
def llR6 : szR := [(1, 200), (1, 10), (0, 2050), (0, 1), (0, 9), (0, 9)]
def llD6 : szD := [azf, azf, azf, azf, azf, azf]
def llL6 : szLo := [(1, 145, []), (0, 0, [(0, 1)]), (0, 0, [(1, 1)]), (0, 0, [(2, 1)]), (0, 0, [(3, 1)]), (0, 0, [(4, 1)]), (0, 0, [(5, 1)])]
def llP6 : azS := [((-1), [(1, 1), (4, (-1))]), ((-1), [(1, 1), (5, (-1))])]
/-- the call of behind -/
def llC1 : azCon := (125, 4, (llD6 ++ [azf], llR6 ++ [((-1000000), 40)], llP6, llL6, [], [], false), [], [], (0, 0))
def llE1 : azHd := (57, (llD6 ++ [azf], llR6 ++ [((-1000000), 40)], [], llL6 ++ [(0, 0, [(6, 1)])], [], [], false), (0, []), (0, 0))
def llK1 : Nat × azCon × List szV := (55, bhC, [(0, 0, [(4, 1)]), (0, 0, [(5, 1)]), (0, 0, [(0, 1)]), (0, 0, [(6, 1)])])
theorem llR1 : az_ex szP llInl llC1.2.1 [] llC1.2.2.2.2.1 (fun _ => az_pre 125 []) (az_hint []) (az_sleaf szP llInl [] (fun _ => az_pre 125 []) (az_hint []) llC1 [llE1] (az_hb 7) (az_rb 7) (some llK1) 1000) 1000 llC1.2.2.1.1 llC1.2.2.1.2.1 llC1.2.2.1.2.2.1 (az_hc llC1 llQ (51, llC1.2.2.1, (0, []), (0, 0))) = true := by decide +kernel
/-- no bound -/
def llC2 : azCon := (125, 4, (llD6, llR6, [], llL6 ++ [(0, (-1000000), [])], [], [], false), [], [], (0, 0))
def llE2 : azHd := (87, (llD6, llR6, [], llL6, [], [], false), (0, []), (0, 0))
theorem llR2 : az_ex szP llInl llC2.2.1 [] llC2.2.2.2.2.1 (fun _ => az_pre 125 []) (az_hint []) (az_sleaf szP llInl [] (fun _ => az_pre 125 []) (az_hint []) llC2 [llE2] (az_hb 6) (az_rb 6) none 0) 1000 llC2.2.2.1.1 llC2.2.2.1.2.1 llC2.2.2.1.2.2.1 (az_hc llC2 llQ (57, llC2.2.2.1, (0, []), (0, 0))) = true := by decide +kernel
/-- a bound that holds: atoms 6 by, 7 late of o, 8 late of k -/
def llR9 : szR := llR6 ++ [((-999999), 40), ((-30000), 10000), ((-30000), 10000)]
def llC3 : azCon := (125, 4, (llD6 ++ [azf, azf, azf], llR9, [(0, [(6, (-1)), (7, (-1)), (8, 1)])], llL6 ++ [(0, 0, [(6, 1)])], [(152, (0, [(5, 1)]), (0, 0, [(7, 1)])), (152, (0, [(4, 1)]), (0, 0, [(8, 1)]))], [], false), [], [], (0, 0))
def llE3 : azHd := (87, (llD6 ++ [azf, azf, azf], llR9, [], llL6, [], [], false), (0, []), (0, 0))
theorem llR3 : az_ex szP llInl llC3.2.1 [] llC3.2.2.2.2.1 (fun _ => az_pre 125 []) (az_hint []) (az_sleaf szP llInl [] (fun _ => az_pre 125 []) (az_hint []) llC3 [llE3] (az_hb 9) (az_rb 9) none 0) 1000 llC3.2.2.1.1 llC3.2.2.1.2.1 llC3.2.2.1.2.2.1 (az_hc llC3 llQ (57, llC3.2.2.1, (0, []), (0, 0))) = true := by decide +kernel
/-- a bound that doesn't hold: atom 9 is what sooner answers -/
def snK : azCon := (121, 3, ([azf, azf, azf], [(0, 9), ((-90000), 90000), ((-90000), 90000)], [], [(1, 145, []), (0, 0, [(0, 1)]), (0, 0, [(1, 1)])], [], [], false), [(some (some (0, 0, [(2, 1)])), [azf, azf, azf], [(0, 9), ((-90000), 90000), ((-90000), 90000)], [], [])], [], (0, 0))
def llR10 : szR := llR6 ++ [((-50000), 40), ((-30000), 10000), ((-30000), 10000), ((-90000), 90000)]
def llC4 (o : Nat) : azCon := (125, 4, (llD6 ++ [azf, azf, azf, azf], llR10, [((-1), [(6, 1), (7, 1), (8, (-1))])], [(1, 145, []), (0, 0, [(0, 1)]), (0, 0, [(1, 1)]), (0, 0, [(2, 1)]), (0, 0, [(3, 1)]), (0, 0, [(4, 1)]), (0, (o : Int), []), (0, 0, [(6, 1)])], [(152, ((o : Int), []), (0, 0, [(7, 1)])), (152, (0, [(4, 1)]), (0, 0, [(8, 1)]))], [], false), [], [(152, o + 1)], (0, 0))
def llE4 (o : Nat) : azHd := (87, (llD6 ++ [azf, azf, azf, azf], llR10, [], [(1, 145, []), (0, 0, [(0, 1)]), (0, 0, [(1, 1)]), (0, 0, [(2, 1)]), (0, 1, []), (0, 0, [(4, 1)]), (0, (o : Int), [])], [(152, ((o : Int), []), (0, 0, [(9, 1)]))], [], false), (0, []), (0, 0))
def llK4 (o : Nat) : Nat × azCon × List szV := (83, snK, [(0, (o : Int), []), (0, 0, [(6, (-1)), (8, 1)]), (0, 0, [(9, 1)])])
theorem llR4s : (List.range 10).all (fun o => az_ex szP llInl (llC4 o).2.1 [] (llC4 o).2.2.2.2.1 (fun _ => az_pre 125 []) (az_hint []) (az_sleaf szP llInl [] (fun _ => az_pre 125 []) (az_hint []) (llC4 o) [llE4 o] (az_hb 10) (az_rb 10) (some (llK4 o)) 1000) 1000 (llC4 o).2.2.1.1 (llC4 o).2.2.1.2.1 (llC4 o).2.2.1.2.2.1 (az_hc (llC4 o) llQ (57, (llC4 o).2.2.1, (0, []), (0, 0)))) = true := by decide +kernel
/-- on to the next -/
def llCN : azCon := (125, 4, (llD6, llR6, llP6, llL6, [], [], false), [(some none, llD6, llR6, [], [])], [], (0, 0))
def llEN1 : azHd := (51, (llD6, llR6, [((-2), [(1, 1), (5, (-1))])], [(1, 145, []), (0, 0, [(0, 1)]), (0, 0, [(1, 1)]), (0, 0, [(2, 1)]), (0, 0, [(3, 1)]), (0, 0, [(4, 1)]), (0, 1, [(5, 1)])], [], [], false), (0, []), (0, 0))
def llEN2 : azHd := (51, (llD6, llR6, [(1, [(1, (-1)), (5, 1)]), ((-2), [(1, 1), (4, (-1))])], [(1, 145, []), (0, 0, [(0, 1)]), (0, 0, [(1, 1)]), (0, 0, [(2, 1)]), (0, 0, [(3, 1)]), (0, 1, [(4, 1)]), (0, 0, [])], [], [], false), (0, []), (0, 0))
def llEN3 : azHd := (51, (llD6, llR6, [((-1), [(3, 1)])], [(1, 145, []), (0, 0, [(0, 1)]), (0, 0, [(1, 1)]), (0, 0, [(2, 1)]), (0, 0, []), (0, 0, []), (0, 0, [])], [], [], false), (0, []), (0, 0))
theorem llRN : az_ex szP llInl llCN.2.1 [] llCN.2.2.2.2.1 (fun _ => az_pre 125 []) (az_hint []) (az_sleaf szP llInl [] (fun _ => az_pre 125 []) (az_hint []) llCN [llEN1, llEN2, llEN3] (az_hb 6) (az_rb 6) none 0) 1000 llCN.2.2.1.1 llCN.2.2.1.2.1 llCN.2.2.1.2.2.1 (az_hc llCN llQ (87, llCN.2.2.1, (0, []), (0, 0))) = true := by decide +kernel
