/-! throws: the row, and that every throw of the class is one -/
def mz_dc (w : Cond) : Bool := match w with
  | .declares _ => true
  | .castable _ _ => true
  | _ => false
def mz_at2 : List Cond := mz_at.filter vx_no
set_option maxRecDepth 100000 in
theorem mz_at2_ok : mz_at2.all (fun w => decide (w ∈ lw_tbl) && (goodWord w || mz_dc w)) = true := by decide +kernel
set_option maxRecDepth 100000 in
theorem mz_at2_ot : mz_at2.all vx_ot = true := by decide +kernel
/-- the words of a throw, seen at a later state -/
theorem mz_at2_at {s0 s : State} {args0 args : Array Value} (hT0 : ∀ w ∈ lw_tbl, w.before args0 s0 = true) (hts : ∀ w ∈ mz_WS, w.before args s = true) (hW : s0.WarmedH s.vm) : ∀ w ∈ mz_at2, w.before args s = true := by
  intro w hw
  have h := List.all_eq_true.mp mz_at2_ok w hw
  simp only [Bool.and_eq_true, Bool.or_eq_true, decide_eq_true_eq] at h
  obtain ⟨h1, h2⟩ := h
  rcases h2 with h2 | h2
  · exact hts w (List.mem_filter.mpr ⟨h1, h2⟩)
  · unfold mz_dc at h2
    split at h2
    · exact va_Nw.use rfl (va_Nw.warmD hW (va_Nw.of rfl (hT0 _ h1)))
    · exact va_Nw.use rfl (va_Nw.warmC hW (va_Nw.of rfl (hT0 _ h1)))
    · cases h2
theorem mz_at_of {s : State} {args : Array Value} (h1 : ∀ w ∈ mz_at2, w.before args s = true) (a1 : (Cond.isRef (.static Bundle.tN "UNASSIGNED_STACK" Bundle.steD)).before args s = true) (a2 : (Cond.isRef (.static Bundle.tN "SUPPRESSED_SENTINEL" Bundle.listD)).before args s = true) (a3 : (Cond.laysStatic Bundle.tN "UNASSIGNED_STACK" Bundle.steD).before args s = true) (a4 : (Cond.laysStatic Bundle.tN "SUPPRESSED_SENTINEL" Bundle.listD).before args s = true) : ∀ w ∈ mz_at, w.before args s = true := by
  intro w hw
  by_cases hn : vx_no w = true
  · exact h1 w (List.mem_filter.mpr ⟨hw, hn⟩)
  · unfold vx_no at hn
    simp only [Bool.and_eq_true, decide_eq_true_eq, Classical.not_and_iff_not_or_not, Classical.not_not] at hn
    rcases hn with ((rfl | rfl) | rfl) | rfl
    · exact a1
    · exact a2
    · exact a3
    · exact a4
section MZU
variable {p : Program} {l : Launch} {e : Env} {R : Room} {s : State} {m : MethodId} {args : Array Value} {below : List Frame} {meth : Method} {c : Code} {H : Heap} {locs : List Loc} {cells slots : Nat}
variable {mc ms : Nat} {free : Addr → Prop} {ls : Array Slot} {rest : List Value}
variable {Qc : Array Value → State → Outcome → State → Prop} {XC : String → State → State → Prop}
theorem mz_throwW {cc : ByteArray} {pc wd : Nat} (hwd : wd = 6 ∨ wd = 7) (hexec : p.tables.exec = Jvm.exec) (hb : c.code = cc) (hl : l.stackTraces = false) {text : String} {is sa : Nat} {A : Nat → Prop}
    (hown : s.vm.findClass "LoopsToUnits" = some m.cls) (hk : (Cond.classLink "LoopsToUnits" 127 mz_N).before args s = true) (hini : (Cond.initialized mz_N).before args s = true) (hstr : vk_R "LoopsToUnits" is text sa s) (hat : ∀ w ∈ mz_at2, w.before args s = true)
    (hU : vx_Zq Bundle.tN "UNASSIGNED_STACK" Bundle.steD A s s.heap) (hN : vx_Zq Bundle.tN "SUPPRESSED_SENTINEL" Bundle.listD A s s.heap) (hS : va_S A s.heap H locs) (hsize : ls.size = c.maxLocals)
    (d0 : decode cc pc = .ok (.new 127, 3)) (d3 : decode cc (pc + 3) = .ok (.dup, 1)) (d4 : (wd = 6 ∧ decode cc (pc + 4) = .ok (.ldc is, 2)) ∨ (wd = 7 ∧ decode cc (pc + 4) = .ok (.ldc_w is, 3))) (d6 : decode cc (pc + wd) = .ok (.invokespecial 131, 3)) (d9 : decode cc (pc + wd + 3) = .ok (.athrow, 1))
    (hout : ∀ x ∈ c.exceptionTable.toList, covers x (pc + wd + 3) = false)
    (hRframes : 5 < R.frames) (hRlocals : (rest.map fun v => v.category).sum + 82 ≤ R.locals) (hRcells : cells + 1 ≤ R.cells) (hRslots : slots + 6 ≤ R.slots) (hlocks : meth.locks = false)
    (hx : ∀ t : State, s.vm.Alike t.vm → H.size ≤ t.heap.size → (∀ q : Nat, q < H.size → t.heap[q]? = H[q]?) → XC mz_N s t)
    (hf : ∀ z ∈ locs, free z.base) (hc : cells + 1 ≤ mc) (hs : slots + 6 ≤ ms) :
    W p l e R s m args below meth c H locs cells slots (vx_MQ below Qc XC args s mc ms free) (F0 m pc ls rest) := by
  intro T hT X
  have htr : e.platform.stackTraces = false := (show e.platform.stackTraces = l.stackTraces by rw [X.admits.platform]).trans hl
  have Y := vx_rebase X (R' := { frames := R.frames, locals := R.locals, cells := 1, slots := 6 }) (Nat.le_refl _) (Nat.le_refl _) hRcells hRslots
  obtain ⟨s', hA⟩ : ∃ z, z = (T.setVm s.vm).setFrames (.invoking m args :: below) := ⟨_, rfl⟩
  rw [← hA] at Y
  have hvm : s'.vm = s.vm := by rw [hA]; rfl
  have hhp : s'.heap = H := by rw [hA]; exact hT
  have hW0 : s.WarmedH s'.vm := by rw [hvm]; exact State.WarmedH.refl s
  have ot : ∀ w, vx_ot w = true → w.before args s = true → w.before args s' = true := fun w h1 h2 => vx_ot_at hW0 hvm.symm h1 h2
  have hat' : ∀ w ∈ mz_at2, w.before args s' = true := fun w hw => ot w (List.all_eq_true.mp mz_at2_ot w hw) (hat w hw)
  have hk' := ot _ (by decide) hk
  have hini' := ot _ (by decide) hini
  have hU' : vx_Zq Bundle.tN "UNASSIGNED_STACK" Bundle.steD A s' s'.heap := by rw [hhp]; exact vx_Zq.moved hW0.alike (hU.kept hS.2.1)
  have hN' : vx_Zq Bundle.tN "SUPPRESSED_SENTINEL" Bundle.listD A s' s'.heap := by rw [hhp]; exact vx_Zq.moved hW0.alike (hN.kept hS.2.1)
  have h : ∀ w ∈ mz_at, w.before args s' = true := mz_at_of hat' (vx_isRefq hU'.1) (vx_isRefq hN'.1) hU'.2.word hN'.2.word
  have hown' : s'.vm.findClass "LoopsToUnits" = some m.cls := by rw [hvm]; exact hown
  have hins : (Cond.instantiable mz_N 6).before args s' = true := h _ (by simp [mz_at, mz_last])
  obtain ⟨vm₁, cX, kX, hfX, hkX, -, -, X₁, st1⟩ := Y.newCold hexec (own := "LoopsToUnits") (C := mz_N) (index := 127) (n := 6) hown' hk' hins hini'
    (g := F0 m pc ls rest) rfl (by rw [hb]; exact d0) (Nat.le_refl _) (Nat.le_refl _)
  generalize hT1 : (T.setVm vm₁).pushCell { cls := cX, slots := kX.instanceTypes.map defaultValue, vm := .none } = T1 at X₁ st1
  have hcat : (Value.ref T.heap.size).category = 1 := rfl
  have hcellA : T1.heap[T.heap.size]? = some (freshCell cX kX) := by rw [← hT1]; exact State.heap_pushCell_size _ _
  have d3' : decode c.code (pc + 3) = .ok (.dup, 1) := by rw [hb]; exact d3
  have hstr' : vk_R "LoopsToUnits" is text sa s' := vk_R.warm hW0 hstr
  obtain ⟨U, hsteps, hrun, hend, hW, hsame, ce, hce, hcv, hcl0⟩ := mz_ctor X₁ hexec htr hown' h hfX hkX hcellA (by rw [hhp, hT]; exact Nat.le_refl _) (msg := .ref sa) rfl
    (g := { method := m, pc := pc + wd, locals := ls, stack := .ref sa :: .ref T.heap.size :: .ref T.heap.size :: rest, locked := none }) rfl hsize rfl rfl (rest := rest) rfl
    (by rw [hb]; exact d6) (by rw [hb]; exact d9) hout hRframes (by simp only [List.map_cons, List.sum_cons, hcat]; show 2 * 0 + _ + 81 ≤ _; omega) hlocks
  obtain ⟨f1, f2⟩ := vx_frame hsame
  rw [hhp] at f1 f2
  have hWs : s.WarmedH U.vm := State.WarmedH.trans hW0 hW
  have hcl : s.vm.findClass mz_N = some ce.cls := by rw [hvm] at hcl0; exact hcl0
  have hall : s.sameButNew ({ U with vm := s.vm } : State) locs mc ms := by
    subst hA
    obtain ⟨e1, e2⟩ := hsame
    rw [State.setFrames_setFrames] at e1
    have h2 : (T.setVm s.vm).sameButNew ({ U with vm := s.vm } : State) [] (0 + 1) (0 + 6) := ⟨e1, e2⟩
    have h3 := X.same.trans h2
    rw [List.append_nil] at h3
    exact h3.mono hc hs
  refine ⟨U, ?_, .threw T.heap.size, hrun, hend, Or.inr ⟨T.heap.size, rfl, mz_N, ce, locs, hx U hWs.alike f1 (fun q hq => f2 q hq (fun z hz => nomatch hz)), hce, hcv, hcl, hWs, hall, hf⟩⟩
  refine st1 _ ?_
  show Steps p.tables e below (T1.setTop { method := m, pc := pc + 3, locals := ls, stack := .ref T.heap.size :: rest, locked := none }) _
  jvm_step X₁.here [X₁.here.top, hexec, d3', Value.category]
  rcases d4 with ⟨rfl, d4⟩ | ⟨rfl, d4⟩
  · exact X₁.ldcString hexec (own := "LoopsToUnits") (text := text) (index := is) (a := sa) hown' hstr'.1 hstr'.2
      (g := { method := m, pc := pc + 4, locals := ls, stack := .ref T.heap.size :: .ref T.heap.size :: rest, locked := none }) rfl (by rw [hb]; exact d4) _ hsteps
  · exact X₁.ldcStringW hexec (own := "LoopsToUnits") (text := text) (index := is) (a := sa) hown' hstr'.1 hstr'.2
      (g := { method := m, pc := pc + 4, locals := ls, stack := .ref T.heap.size :: .ref T.heap.size :: rest, locked := none }) rfl (by rw [hb]; exact d4) _ hsteps
end MZU
def mz_strs : List (Nat × String) := [(129, "no such CELL"), (137, "no such ACT, or nothing such of it"), (247, "no such ACT"), (338, "no such number of the ROW")]
def mz_thrB (t : mzT) (pc : Nat) : Bool := decide (decode t.2.1 pc = .ok (.new 127, 3)) && decide (decode t.2.1 (pc + 3) = .ok (.dup, 1)) && decide (t.1.cls = "LoopsToUnits" ∧ t.2.2.2.2.2.2 = []) &&
  mz_strs.any (fun q => (decide (decode t.2.1 (pc + 4) = .ok (.ldc q.1, 2)) && decide (decode t.2.1 (pc + 6) = .ok (.invokespecial 131, 3)) && decide (decode t.2.1 (pc + 9) = .ok (.athrow, 1))) || (decide (decode t.2.1 (pc + 4) = .ok (.ldc_w q.1, 3)) && decide (decode t.2.1 (pc + 7) = .ok (.invokespecial 131, 3)) && decide (decode t.2.1 (pc + 10) = .ok (.athrow, 1))))
set_option maxRecDepth 100000 in
theorem mz_thrall : (mzP.zip mzQ).all (fun q => (List.range q.1.2.2.2.length).all (fun i => match q.1.2.2.2[i]? with
  | some ri => !(ri.1 == 43) || mz_thrB q.2 (mz_pc q.2.2.2.2.1 i)
  | none => true)) = true := by decide +kernel
theorem mz_thrw : Cond.classLink "LoopsToUnits" 127 mz_N ∈ mz_WS ∧ Cond.initialized mz_N ∈ mz_WS := by decide +kernel
theorem mz_THR_of {l : Launch} {s0 : State} {args0 : Array Value} (hl : l.stackTraces = false) (hT0 : ∀ w ∈ lw_tbl, w.before args0 s0 = true)
    (hU : vx_Zq Bundle.tN "UNASSIGNED_STACK" Bundle.steD (fun q => s0.heap.size ≤ q) s0 s0.heap) (hN : vx_Zq Bundle.tN "SUPPRESSED_SENTINEL" Bundle.listD (fun q => s0.heap.size ≤ q) s0 s0.heap) (hstr : ∀ q ∈ mz_strs, ∃ sa, vk_R "LoopsToUnits" q.1 q.2 sa s0) : mz_THR l s0 := by
  intro j M t i ri hM ht hri h43 hok p e R s m args below meth c H locs cells slots mc ms Qc XC ls rst hFX hRf hRl hc1 hs1 hc2 hs2 hls hsum hS hx
  obtain ⟨hx0, hb, hml, hown, hts, hnm, hlk, hret, htab, hW0, hz0, hk0⟩ := id hFX
  have h1 := List.all_eq_true.mp mz_thrall (M, t) (List.mem_of_getElem? (i := j) (by rw [List.getElem?_zip_eq_some]; exact ⟨hM, ht⟩))
  have h2 := List.all_eq_true.mp h1 i (List.mem_range.mpr (List.getElem?_eq_some_iff.mp hri).1)
  dsimp only at h2
  rw [hri] at h2
  dsimp only at h2
  rw [h43] at h2
  have h3 : mz_thrB t (mz_pc t.2.2.2.1 i) = true := by simpa using h2
  unfold mz_thrB at h3
  rw [Bool.and_eq_true, Bool.and_eq_true, Bool.and_eq_true] at h3
  obtain ⟨⟨⟨g1, g2⟩, g3⟩, g4⟩ := h3
  have g1 := of_decide_eq_true g1
  have g2 := of_decide_eq_true g2
  have g3 := of_decide_eq_true g3
  obtain ⟨q, hq, g5⟩ := List.any_eq_true.mp g4
  obtain ⟨sa, hsa⟩ := hstr q hq
  rw [g3.1] at hown
  have hout : ∀ (k : Nat), ∀ x ∈ c.exceptionTable.toList, covers x k = false := by
    intro k x hxm
    have htab : c.exceptionTable.toList = tableOf t.2.2.2.2.2.2 := by
      rcases htab with ⟨-, h9⟩ | h9
      · rw [g3.1] at h9; exact absurd h9 (by decide)
      · exact h9
    rw [htab, g3.2] at hxm
    cases hxm
  have U1 : vx_Zq Bundle.tN "UNASSIGNED_STACK" Bundle.steD (fun q => s0.heap.size ≤ q) s s.heap := vx_Zq.moved hW0.alike (hU.kept (fun a ha _ => hk0 a ha))
  have N1 : vx_Zq Bundle.tN "SUPPRESSED_SENTINEL" Bundle.listD (fun q => s0.heap.size ≤ q) s s.heap := vx_Zq.moved hW0.alike (hN.kept (fun a ha _ => hk0 a ha))
  rw [Bool.or_eq_true] at g5
  rcases g5 with g5 | g5
  · rw [Bool.and_eq_true, Bool.and_eq_true] at g5
    exact mz_throwW (wd := 6) (Or.inl rfl) hx0 hb hl hown (hts _ mz_thrw.1) (hts _ mz_thrw.2) (vk_R.warm hW0 hsa) (mz_at2_at hT0 hts hW0) U1 N1 hS (hls.trans hml.symm) g1 g2 (Or.inl ⟨rfl, of_decide_eq_true g5.1.1⟩) (of_decide_eq_true g5.1.2) (of_decide_eq_true g5.2) (hout _) (by omega) (by omega) hc1 hs1 hlk hx hS.2.2 hc2 hs2
  · rw [Bool.and_eq_true, Bool.and_eq_true] at g5
    exact mz_throwW (wd := 7) (Or.inr rfl) hx0 hb hl hown (hts _ mz_thrw.1) (hts _ mz_thrw.2) (vk_R.warm hW0 hsa) (mz_at2_at hT0 hts hW0) U1 N1 hS (hls.trans hml.symm) g1 g2 (Or.inr ⟨rfl, of_decide_eq_true g5.1.1⟩) (of_decide_eq_true g5.1.2) (of_decide_eq_true g5.2) (hout _) (by omega) (by omega) hc1 hs1 hlk hx hS.2.2 hc2 hs2
