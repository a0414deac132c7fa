/-! THE CLAIM OUT OF ONE WALK OF THE LAW'S BODY. Your part is whole_start (and what it stands on); all else here is the same for every law, but numbers. -/
def R_law : String := "LoopsToUnitsLaw"
def lw_P (b : Addr) (xs : List Int32) (args : Array Value) (s : State) : Prop := args = #[.ref b] ∧ s.IntsAt b xs ∧ xs.length ≤ 2560 ∧ (Jvm.Cond.and given_1 narrow_1).before args s = true
def lw_Q (_ : Array Value) (s : State) (o : Outcome) (t : State) : Prop := o = .returned (some (.int 1)) ∧ Framed s o t [] 601024 7293034
def lw_Z (below : List Frame) (a : Array Value) (s : State) : State → Prop := fun t => ∃ o, t.status = .running ∧ Ended t below o ∧ lw_Q a s o t
/-- the law's own end, with 1 on the stack, nothing written that was there before, its room as the claim has it -/
theorem lw_ret {p : Program} {l : Launch} {e : Env} {s : State} {m : MethodId} {below : List Frame} {meth : Method} {c : Code} {b : Nat} (hx : p.tables.exec = Jvm.exec) (hb : c.code = code) (hr : meth.sig.returnType = ret) (hlocks : meth.locks = false) {pc : Nat} {H : Heap} {ls : Array Slot} (hdg : decode code pc = .ok (.ireturn, 1)) : W p l e room_1 s m #[Value.ref b] below meth c H [] 601024 7293034 (lw_Z below #[Value.ref b] s) (F0 m pc ls [.int 1]) := by
  intro T hT X
  obtain ⟨fs, hret, hrun, hended, hW, hframe⟩ := X.leave (v := some (.int 1)) (hlocks := hlocks) (fun h => by rw [hr] at h; cases h)
  have hmeth' : T.vm.method? m = some meth := X.method'
  refine ⟨T.setFrames fs, ?_, .returned (some (.int 1)), hrun, hended, rfl, ⟨_, rfl⟩, hW, hframe⟩
  jvm_step X.here [X.here.top, hx, hb, hdg, hmeth', hr, ret, narrow_b1]
  (try refine ⟨rfl, ?_⟩); (try refine ⟨rfl, ?_⟩)
  first | (intro acts; rw [hret _ acts rfl rfl rfl]) | rw [hret _ _ rfl rfl rfl]
  exact Steps.refl _
/-- what holds at the law's entry: the machine, the code, the tables' words (any of lw_tbl by 'hts w (by decide +kernel)'), the script of L ints xs at the cell b, what the Statement gives of the start (any of its parts by flat_of_before) -/
def lw_At (p : Program) (s : State) (m : MethodId) (meth : Method) (c : Code) (b L : Nat) (xs : Nat → Int32) : Prop :=
  p.tables.exec = Jvm.exec ∧ c.code = code ∧ meth.sig.returnType = ret ∧ c.maxLocals = 8 ∧ s.vm.findClass R_law = some m.cls ∧ (∀ w ∈ lw_tbl, w.before #[Value.ref b] s = true) ∧ va_X b L xs s s.heap ∧ b < s.heap.size ∧ meth.locks = false ∧ (Jvm.Cond.and given_1 narrow_1).before #[Value.ref b] s = true
/-- the script and the static arrays -/
def mz_X (L : Nat) (xs : Nat → Int32) : List (List Value) := [(List.range L).map (fun j => Value.int (xs j)), [.int 1, .int 1, .int 1, .int 1, .int 0, .int 0, .int 4, .int 2, .int 2], [.int 1, .int 1, .int 1, .int 1, .int 0, .int 0, .int 1, .int 1, .int 1], [.int 4, .int 3, .int 4, .int 4, .int 1, .int 1, .int 10, .int 4, .int 3]]
theorem mz_st_FIRST {s : State} {b : Nat} {A : Nat → Prop} (hts : ∀ w ∈ lw_tbl, w.before #[Value.ref b] s = true) (hgv : (Jvm.Cond.and given_1 narrow_1).before #[Value.ref b] s = true) (hA : ∀ a : Nat, a < s.heap.size → ¬ A a) : ∃ t, va_T .int t 9 (fun j => ([.int 1, .int 1, .int 1, .int 1, .int 0, .int 0, .int 4, .int 2, .int 2] : List Value).getD j .null) A s s.heap ∧ va_Z "LoopsToUnitsModel" "FIRST" "[I" (.ref t) A s s.heap := by
  have hs := flat_of_before _ hgv
  have hl := va_eqt (hs (.eq (.length (.static "LoopsToUnitsModel" "FIRST" "[I")) (.int 9)) (by decide +kernel))
  obtain ⟨t, ht, hT⟩ := va_Tof (tm := .static "LoopsToUnitsModel" "FIRST" "[I") (ty := .int) (N := 9) (f := fun j => ([.int 1, .int 1, .int 1, .int 1, .int 0, .int 0, .int 4, .int 2, .int 2] : List Value).getD j .null) (A := A) (by decide) (hs (.arrayOf (.static "LoopsToUnitsModel" "FIRST" "[I") .int) (by decide +kernel)) hl (fun j hj => by
    match j, hj with
    | 0, _ => exact va_eqt (hs (.eq (.elem (.static "LoopsToUnitsModel" "FIRST" "[I") (.int 0)) (.int 1)) (by decide +kernel))
    | 1, _ => exact va_eqt (hs (.eq (.elem (.static "LoopsToUnitsModel" "FIRST" "[I") (.int 1)) (.int 1)) (by decide +kernel))
    | 2, _ => exact va_eqt (hs (.eq (.elem (.static "LoopsToUnitsModel" "FIRST" "[I") (.int 2)) (.int 1)) (by decide +kernel))
    | 3, _ => exact va_eqt (hs (.eq (.elem (.static "LoopsToUnitsModel" "FIRST" "[I") (.int 3)) (.int 1)) (by decide +kernel))
    | 4, _ => exact va_eqt (hs (.eq (.elem (.static "LoopsToUnitsModel" "FIRST" "[I") (.int 4)) (.int 0)) (by decide +kernel))
    | 5, _ => exact va_eqt (hs (.eq (.elem (.static "LoopsToUnitsModel" "FIRST" "[I") (.int 5)) (.int 0)) (by decide +kernel))
    | 6, _ => exact va_eqt (hs (.eq (.elem (.static "LoopsToUnitsModel" "FIRST" "[I") (.int 6)) (.int 4)) (by decide +kernel))
    | 7, _ => exact va_eqt (hs (.eq (.elem (.static "LoopsToUnitsModel" "FIRST" "[I") (.int 7)) (.int 2)) (by decide +kernel))
    | 8, _ => exact va_eqt (hs (.eq (.elem (.static "LoopsToUnitsModel" "FIRST" "[I") (.int 8)) (.int 2)) (by decide +kernel))
    | k + 9, hj => omega) hA
  exact ⟨t, hT, va_Zref (hts (.laysStatic "LoopsToUnitsModel" "FIRST" "[I") (by decide +kernel)) (hts (.initialized "LoopsToUnitsModel") (by decide +kernel)) ht hA⟩
theorem mz_st_LOWEST {s : State} {b : Nat} {A : Nat → Prop} (hts : ∀ w ∈ lw_tbl, w.before #[Value.ref b] s = true) (hgv : (Jvm.Cond.and given_1 narrow_1).before #[Value.ref b] s = true) (hA : ∀ a : Nat, a < s.heap.size → ¬ A a) : ∃ t, va_T .int t 9 (fun j => ([.int 1, .int 1, .int 1, .int 1, .int 0, .int 0, .int 1, .int 1, .int 1] : List Value).getD j .null) A s s.heap ∧ va_Z "LoopsToUnitsModel" "LOWEST" "[I" (.ref t) A s s.heap := by
  have hs := flat_of_before _ hgv
  have hl := va_eqt (hs (.eq (.length (.static "LoopsToUnitsModel" "LOWEST" "[I")) (.int 9)) (by decide +kernel))
  obtain ⟨t, ht, hT⟩ := va_Tof (tm := .static "LoopsToUnitsModel" "LOWEST" "[I") (ty := .int) (N := 9) (f := fun j => ([.int 1, .int 1, .int 1, .int 1, .int 0, .int 0, .int 1, .int 1, .int 1] : List Value).getD j .null) (A := A) (by decide) (hs (.arrayOf (.static "LoopsToUnitsModel" "LOWEST" "[I") .int) (by decide +kernel)) hl (fun j hj => by
    match j, hj with
    | 0, _ => exact va_eqt (hs (.eq (.elem (.static "LoopsToUnitsModel" "LOWEST" "[I") (.int 0)) (.int 1)) (by decide +kernel))
    | 1, _ => exact va_eqt (hs (.eq (.elem (.static "LoopsToUnitsModel" "LOWEST" "[I") (.int 1)) (.int 1)) (by decide +kernel))
    | 2, _ => exact va_eqt (hs (.eq (.elem (.static "LoopsToUnitsModel" "LOWEST" "[I") (.int 2)) (.int 1)) (by decide +kernel))
    | 3, _ => exact va_eqt (hs (.eq (.elem (.static "LoopsToUnitsModel" "LOWEST" "[I") (.int 3)) (.int 1)) (by decide +kernel))
    | 4, _ => exact va_eqt (hs (.eq (.elem (.static "LoopsToUnitsModel" "LOWEST" "[I") (.int 4)) (.int 0)) (by decide +kernel))
    | 5, _ => exact va_eqt (hs (.eq (.elem (.static "LoopsToUnitsModel" "LOWEST" "[I") (.int 5)) (.int 0)) (by decide +kernel))
    | 6, _ => exact va_eqt (hs (.eq (.elem (.static "LoopsToUnitsModel" "LOWEST" "[I") (.int 6)) (.int 1)) (by decide +kernel))
    | 7, _ => exact va_eqt (hs (.eq (.elem (.static "LoopsToUnitsModel" "LOWEST" "[I") (.int 7)) (.int 1)) (by decide +kernel))
    | 8, _ => exact va_eqt (hs (.eq (.elem (.static "LoopsToUnitsModel" "LOWEST" "[I") (.int 8)) (.int 1)) (by decide +kernel))
    | k + 9, hj => omega) hA
  exact ⟨t, hT, va_Zref (hts (.laysStatic "LoopsToUnitsModel" "LOWEST" "[I") (by decide +kernel)) (hts (.initialized "LoopsToUnitsModel") (by decide +kernel)) ht hA⟩
theorem mz_st_HIGHEST {s : State} {b : Nat} {A : Nat → Prop} (hts : ∀ w ∈ lw_tbl, w.before #[Value.ref b] s = true) (hgv : (Jvm.Cond.and given_1 narrow_1).before #[Value.ref b] s = true) (hA : ∀ a : Nat, a < s.heap.size → ¬ A a) : ∃ t, va_T .int t 9 (fun j => ([.int 4, .int 3, .int 4, .int 4, .int 1, .int 1, .int 10, .int 4, .int 3] : List Value).getD j .null) A s s.heap ∧ va_Z "LoopsToUnitsModel" "HIGHEST" "[I" (.ref t) A s s.heap := by
  have hs := flat_of_before _ hgv
  have hl := va_eqt (hs (.eq (.length (.static "LoopsToUnitsModel" "HIGHEST" "[I")) (.int 9)) (by decide +kernel))
  obtain ⟨t, ht, hT⟩ := va_Tof (tm := .static "LoopsToUnitsModel" "HIGHEST" "[I") (ty := .int) (N := 9) (f := fun j => ([.int 4, .int 3, .int 4, .int 4, .int 1, .int 1, .int 10, .int 4, .int 3] : List Value).getD j .null) (A := A) (by decide) (hs (.arrayOf (.static "LoopsToUnitsModel" "HIGHEST" "[I") .int) (by decide +kernel)) hl (fun j hj => by
    match j, hj with
    | 0, _ => exact va_eqt (hs (.eq (.elem (.static "LoopsToUnitsModel" "HIGHEST" "[I") (.int 0)) (.int 4)) (by decide +kernel))
    | 1, _ => exact va_eqt (hs (.eq (.elem (.static "LoopsToUnitsModel" "HIGHEST" "[I") (.int 1)) (.int 3)) (by decide +kernel))
    | 2, _ => exact va_eqt (hs (.eq (.elem (.static "LoopsToUnitsModel" "HIGHEST" "[I") (.int 2)) (.int 4)) (by decide +kernel))
    | 3, _ => exact va_eqt (hs (.eq (.elem (.static "LoopsToUnitsModel" "HIGHEST" "[I") (.int 3)) (.int 4)) (by decide +kernel))
    | 4, _ => exact va_eqt (hs (.eq (.elem (.static "LoopsToUnitsModel" "HIGHEST" "[I") (.int 4)) (.int 1)) (by decide +kernel))
    | 5, _ => exact va_eqt (hs (.eq (.elem (.static "LoopsToUnitsModel" "HIGHEST" "[I") (.int 5)) (.int 1)) (by decide +kernel))
    | 6, _ => exact va_eqt (hs (.eq (.elem (.static "LoopsToUnitsModel" "HIGHEST" "[I") (.int 6)) (.int 10)) (by decide +kernel))
    | 7, _ => exact va_eqt (hs (.eq (.elem (.static "LoopsToUnitsModel" "HIGHEST" "[I") (.int 7)) (.int 4)) (by decide +kernel))
    | 8, _ => exact va_eqt (hs (.eq (.elem (.static "LoopsToUnitsModel" "HIGHEST" "[I") (.int 8)) (.int 3)) (by decide +kernel))
    | k + 9, hj => omega) hA
  exact ⟨t, hT, va_Zref (hts (.laysStatic "LoopsToUnitsModel" "HIGHEST" "[I") (by decide +kernel)) (hts (.initialized "LoopsToUnitsModel") (by decide +kernel)) ht hA⟩
