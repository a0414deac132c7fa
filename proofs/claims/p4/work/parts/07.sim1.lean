/-! instructions that touch locals and stack alone -/
section MZ1
variable {p : Program} {l : Launch} {e : Env} {R : Room} {s : State} {m : MethodId} {args : Array Value} {below : List Frame} {meth : Method} {c : Code} {H : Heap} {locs : List Loc} {cells slots : Nat} {Q : State → Prop}
variable {cc : ByteArray} {pcs : List Nat} {ls : Array Slot} {nL i w len : Nat} {y : MethodName} {ins : Instr} {ads : List Nat} {lo rlo : mzL} {st rst : List Value} {a b : Nat} {r : Nat × mzL × List Value}
/-- where it goes on -/
abbrev mz_K (p : Program) (l : Launch) (e : Env) (R : Room) (s : State) (m : MethodId) (args : Array Value) (below : List Frame) (meth : Method) (c : Code) (H : Heap) (locs : List Loc) (cells slots : Nat) (Q : State → Prop) (pcs : List Nat) (nL : Nat) (ads : List Nat) (r : Nat × mzL × List Value) : Prop :=
  ∀ (ls' : Array Slot) (rlo' : mzL) (rst' : List Value), lv_has ls' nL rlo' → mz_LR ads r.2.1 rlo' → mz_FR ads r.2.2 rst' → W p l e R s m args below meth c H locs cells slots Q (F0 m (mz_pc pcs r.1) ls' rst')
theorem mz_s0 (hx : p.tables.exec = Jvm.exec) (hb : c.code = cc) (hown : s.vm.findClass y.cls = some m.cls) (hts : ∀ w ∈ mz_WS, w.before args s = true) (hd : decode cc (mz_pc pcs i) = .ok (ins, len)) {k : Int} (hk : mz_k0 y.cls w k pcs i len ins = true)
    (hl : lv_has ls nL rlo) (hlo : mz_LR ads lo rlo) (hst : mz_FR ads st rst) (kk : mz_K p l e R s m args below meth c H locs cells slots Q pcs nL ads (i + 1, lo, .int (Int32.ofInt k) :: st)) : W p l e R s m args below meth c H locs cells slots Q (F0 m (mz_pc pcs i) ls rst) := by
  have k2 := kk ls rlo (.int (Int32.ofInt k) :: rst) hl hlo ⟨rfl, hst⟩
  dsimp only at k2
  unfold mz_k0 at hk
  split at hk
  · simp only [Bool.and_eq_true, decide_eq_true_eq] at hk
    obtain ⟨⟨h1, h2⟩, h3⟩ := hk
    subst h2
    rw [mz_nx_eq h3] at k2
    exact lv_iconst hx hb hd h1 k2
  · simp only [Bool.and_eq_true, decide_eq_true_eq] at hk
    obtain ⟨⟨h1, h2⟩, h3⟩ := hk
    subst h2
    rw [mz_nx_eq h3] at k2
    exact lv_bipush hx hb hd h1 k2
  · simp only [Bool.and_eq_true, decide_eq_true_eq] at hk
    obtain ⟨⟨h1, h2⟩, h3⟩ := hk
    subst h2
    rw [mz_nx_eq h3] at k2
    exact lv_sipush hx hb hd h1 k2
  · simp only [Bool.and_eq_true, decide_eq_true_eq] at hk
    obtain ⟨⟨h1, h2⟩, h3⟩ := hk
    subst h2
    rw [mz_nx_eq h3] at k2
    exact lv_ldc hx hb hown (hts _ (mz_wok_mem h1)) hd k2
  · simp only [Bool.and_eq_true, decide_eq_true_eq] at hk
    obtain ⟨⟨h1, h2⟩, h3⟩ := hk
    subst h2
    rw [mz_nx_eq h3] at k2
    exact lv_ldcw hx hb hown (hts _ (mz_wok_mem h1)) hd k2
  · cases hk
theorem mz_s1 (hx : p.tables.exec = Jvm.exec) (hb : c.code = cc) (hd : decode cc (mz_pc pcs i) = .ok (ins, len)) {k : Int} (hk : mz_k1 k pcs i len ins = true)
    (hl : lv_has ls nL rlo) (hlo : mz_LR ads lo rlo) (hst : mz_FR ads st rst) (kk : mz_K p l e R s m args below meth c H locs cells slots Q pcs nL ads (i + 1, lo, .long (Int64.ofInt k) :: st)) : W p l e R s m args below meth c H locs cells slots Q (F0 m (mz_pc pcs i) ls rst) := by
  have k2 := kk ls rlo (.long (Int64.ofInt k) :: rst) hl hlo ⟨rfl, hst⟩
  dsimp only at k2
  unfold mz_k1 at hk
  split at hk
  · simp only [Bool.and_eq_true, decide_eq_true_eq] at hk
    obtain ⟨⟨h1, h2⟩, h3⟩ := hk
    subst h2
    rw [mz_nx_eq h3] at k2
    exact lv_lconst hx hb hd h1 k2
  · cases hk
theorem mz_s2 (hx : p.tables.exec = Jvm.exec) (hb : c.code = cc) (hd : decode cc (mz_pc pcs i) = .ok (ins, len)) (hk : mz_k2 a b pcs i len ins = true)
    (hl : lv_has ls nL rlo) (hlo : mz_LR ads lo rlo) (hst : mz_FR ads st rst) (h : mz_o2 a b i lo st = some r) (kk : mz_K p l e R s m args below meth c H locs cells slots Q pcs nL ads r) : W p l e R s m args below meth c H locs cells slots Q (F0 m (mz_pc pcs i) ls rst) := by
  unfold mz_o2 at h
  split at h
  · rename_i v hv
    by_cases hc : mz_ty v = b ∧ b < 3
    · rw [if_pos hc] at h
      cases h
      obtain ⟨x, h1, -, h3⟩ := mz_ld_at hl hlo hv
      have k2 := kk ls rlo (x :: rst) hl hlo ⟨h1, hst⟩
      dsimp only at k2
      unfold mz_k2 at hk
      split at hk
      · simp only [Bool.and_eq_true, decide_eq_true_eq] at hk
        obtain ⟨⟨⟨q1, q2⟩, q3⟩, q4⟩ := hk
        subst q3
        rw [mz_nx_eq q4] at k2
        obtain ⟨z, rfl, rfl⟩ := mz_ty0 h1 (hc.1.trans q2)
        exact lv_iload_n hx hb hd q1 h3 k2
      · simp only [Bool.and_eq_true, decide_eq_true_eq] at hk
        obtain ⟨⟨⟨q1, q2⟩, q3⟩, q4⟩ := hk
        subst q3; subst q1
        rw [mz_nx_eq q4] at k2
        obtain ⟨z, rfl, rfl⟩ := mz_ty0 h1 (hc.1.trans q2)
        exact lv_iload hx hb hd h3 k2
      · simp only [Bool.and_eq_true, decide_eq_true_eq] at hk
        obtain ⟨⟨⟨q1, q2⟩, q3⟩, q4⟩ := hk
        subst q3
        rw [mz_nx_eq q4] at k2
        obtain ⟨z, rfl⟩ := mz_ty1 h1 (hc.1.trans q2)
        exact lv_aload_n hx hb hd q1 h3 k2
      · simp only [Bool.and_eq_true, decide_eq_true_eq] at hk
        obtain ⟨⟨⟨q1, q2⟩, q3⟩, q4⟩ := hk
        subst q3; subst q1
        rw [mz_nx_eq q4] at k2
        obtain ⟨z, rfl⟩ := mz_ty1 h1 (hc.1.trans q2)
        exact lv_aload hx hb hd h3 k2
      · simp only [Bool.and_eq_true, decide_eq_true_eq] at hk
        obtain ⟨⟨⟨q1, q2⟩, q3⟩, q4⟩ := hk
        subst q3
        rw [mz_nx_eq q4] at k2
        obtain ⟨z, rfl, rfl⟩ := mz_ty2 h1 (hc.1.trans q2)
        exact lv_lload_n hx hb hd q1 h3 k2
      · simp only [Bool.and_eq_true, decide_eq_true_eq] at hk
        obtain ⟨⟨⟨q1, q2⟩, q3⟩, q4⟩ := hk
        subst q3; subst q1
        rw [mz_nx_eq q4] at k2
        obtain ⟨z, rfl, rfl⟩ := mz_ty2 h1 (hc.1.trans q2)
        exact lv_lload hx hb hd h3 k2
      · cases hk
    · rw [if_neg hc] at h; cases h
  · cases h
theorem mz_s3 (hx : p.tables.exec = Jvm.exec) (hb : c.code = cc) (hd : decode cc (mz_pc pcs i) = .ok (ins, len)) (hk : mz_k3 a b pcs i len ins = true)
    (hl : lv_has ls nL rlo) (hlo : mz_LR ads lo rlo) (hst : mz_FR ads st rst) (h : mz_o3 a b i nL lo st = some r) (kk : mz_K p l e R s m args below meth c H locs cells slots Q pcs nL ads r) : W p l e R s m args below meth c H locs cells slots Q (F0 m (mz_pc pcs i) ls rst) := by
  unfold mz_o3 at h
  split at h
  · rename_i v rest
    cases rst with
    | nil => exact hst.elim
    | cons x rst =>
    obtain ⟨h1, hst⟩ := hst
    by_cases hc : (mz_ty v = b ∨ (mz_ty v = 3 ∧ b = 1)) ∧ b < 2 ∧ a < nL
    · rw [if_pos hc] at h
      cases h
      obtain ⟨hc1, -, hn⟩ := hc
      have k2 : ∀ ls' : Array Slot, lv_has ls' nL (mz_st1 rlo a x) → W p l e R s m args below meth c H locs cells slots Q (F0 m (mz_pc pcs (i + 1)) ls' rst) := fun ls' hl' => kk ls' _ rst hl' (mz_st1_rel hlo a h1) hst
      have hr : b = 1 → ∃ z, x = .ref z := fun q => by
        rcases hc1 with q2 | ⟨q2, -⟩
        · exact mz_ty1 h1 (q2.trans q)
        · exact mz_ty3 h1 q2
      have hi : b = 0 → ∃ z, v = .int z ∧ x = .int z := fun q => by
        rcases hc1 with q2 | ⟨-, q2⟩
        · exact mz_ty0 h1 (q2.trans q)
        · rw [q] at q2; cases q2
      unfold mz_k3 at hk
      split at hk
      · simp only [Bool.and_eq_true, decide_eq_true_eq] at hk
        obtain ⟨⟨⟨q1, q2⟩, q3⟩, q4⟩ := hk
        subst q3
        rw [mz_nx_eq q4] at k2
        obtain ⟨z, rfl, rfl⟩ := hi q2
        exact lv_istore_n hx hb hd q1 hl hn rfl k2
      · simp only [Bool.and_eq_true, decide_eq_true_eq] at hk
        obtain ⟨⟨⟨q1, q2⟩, q3⟩, q4⟩ := hk
        subst q3; subst q1
        rw [mz_nx_eq q4] at k2
        obtain ⟨z, rfl, rfl⟩ := hi q2
        exact lv_istore hx hb hd hl hn rfl k2
      · simp only [Bool.and_eq_true, decide_eq_true_eq] at hk
        obtain ⟨⟨⟨q1, q2⟩, q3⟩, q4⟩ := hk
        subst q3
        rw [mz_nx_eq q4] at k2
        obtain ⟨z, rfl⟩ := hr q2
        exact lv_astore_n hx hb hd q1 hl hn rfl k2
      · simp only [Bool.and_eq_true, decide_eq_true_eq] at hk
        obtain ⟨⟨⟨q1, q2⟩, q3⟩, q4⟩ := hk
        subst q3; subst q1
        rw [mz_nx_eq q4] at k2
        obtain ⟨z, rfl⟩ := hr q2
        exact lv_astore hx hb hd hl hn rfl k2
      · cases hk
    · rw [if_neg hc] at h; cases h
  · cases h
theorem mz_s4 (hx : p.tables.exec = Jvm.exec) (hb : c.code = cc) (hd : decode cc (mz_pc pcs i) = .ok (ins, len)) (hk : mz_k4 a pcs i len ins = true)
    (hl : lv_has ls nL rlo) (hlo : mz_LR ads lo rlo) (hst : mz_FR ads st rst) (h : mz_o4 a i nL lo st = some r) (kk : mz_K p l e R s m args below meth c H locs cells slots Q pcs nL ads r) : W p l e R s m args below meth c H locs cells slots Q (F0 m (mz_pc pcs i) ls rst) := by
  unfold mz_o4 at h
  split at h
  · rename_i v rest
    cases rst with
    | nil => exact hst.elim
    | cons x rst =>
    obtain ⟨h1, hst⟩ := hst
    have h1 : x = .long v := h1
    subst h1
    by_cases hn : a + 1 < nL
    · rw [if_pos hn] at h
      cases h
      have k2 : ∀ ls' : Array Slot, lv_has ls' nL (mz_st2 rlo a (.long v)) → W p l e R s m args below meth c H locs cells slots Q (F0 m (mz_pc pcs (i + 1)) ls' rst) := fun ls' hl' => kk ls' _ rst hl' (mz_st2_rel hlo a rfl) hst
      unfold mz_k4 at hk
      split at hk
      · simp only [Bool.and_eq_true, decide_eq_true_eq] at hk
        obtain ⟨⟨q1, q3⟩, q4⟩ := hk
        subst q3
        rw [mz_nx_eq q4] at k2
        exact lv_lstore_n hx hb hd q1 hl hn rfl k2
      · simp only [Bool.and_eq_true, decide_eq_true_eq] at hk
        obtain ⟨⟨q1, q3⟩, q4⟩ := hk
        subst q3; subst q1
        rw [mz_nx_eq q4] at k2
        exact lv_lstore hx hb hd hl hn rfl k2
      · cases hk
    · rw [if_neg hn] at h; cases h
  · cases h
theorem mz_s5 (hx : p.tables.exec = Jvm.exec) (hb : c.code = cc) (hd : decode cc (mz_pc pcs i) = .ok (ins, len)) {k : Int} (hk : mz_k5 a k pcs i len ins = true)
    (hl : lv_has ls nL rlo) (hlo : mz_LR ads lo rlo) (hst : mz_FR ads st rst) (h : mz_o5 a i nL k lo st = some r) (kk : mz_K p l e R s m args below meth c H locs cells slots Q pcs nL ads r) : W p l e R s m args below meth c H locs cells slots Q (F0 m (mz_pc pcs i) ls rst) := by
  unfold mz_o5 at h
  split at h
  · rename_i v hv
    by_cases hn : a < nL
    · rw [if_pos hn] at h
      cases h
      obtain ⟨x, h1, h2, h3⟩ := mz_ld_at hl hlo hv
      have h1 : x = .int v := h1
      subst h1
      have k2 : ∀ ls' : Array Slot, lv_has ls' nL (mz_st1 rlo a (.int (v + Int32.ofInt k))) → W p l e R s m args below meth c H locs cells slots Q (F0 m (mz_pc pcs (i + 1)) ls' rst) := fun ls' hl' => kk ls' _ rst (mz_up_has hl h3 hl') (mz_up_rel (v := .int (v + Int32.ofInt k)) (w := .int (v + Int32.ofInt k)) a rfl hlo) hst
      unfold mz_k5 at hk
      split at hk
      · simp only [Bool.and_eq_true, decide_eq_true_eq] at hk
        obtain ⟨⟨⟨q1, q2⟩, q3⟩, q4⟩ := hk
        subst q3; subst q1
        rw [mz_nx_eq q4] at k2
        obtain ⟨n, hn2⟩ := List.getElem?_of_mem (mz_ld_mem h2)
        exact lv_iinc hx hb hd hl hn2 (by rw [q2]) hn rfl k2
      · cases hk
    · rw [if_neg hn] at h; cases h
  · cases h
theorem mz_kp_eq {want : Option Instr} (h : mz_kp want pcs i len ins = true) : want = some ins ∧ len = 1 ∧ mz_pc pcs (i + 1) = mz_pc pcs i + 1 := by
  unfold mz_kp at h
  simp only [Bool.and_eq_true, decide_eq_true_eq] at h
  exact ⟨h.1.1, h.1.2, mz_nx_eq h.2⟩
theorem mz_s6 (hx : p.tables.exec = Jvm.exec) (hb : c.code = cc) (hd : decode cc (mz_pc pcs i) = .ok (ins, len)) (hk : mz_kp (mz_binI a) pcs i len ins = true)
    (hl : lv_has ls nL rlo) (hlo : mz_LR ads lo rlo) (hst : mz_FR ads st rst) (h : mz_o6 a i lo st = some r) (kk : mz_K p l e R s m args below meth c H locs cells slots Q pcs nL ads r) : W p l e R s m args below meth c H locs cells slots Q (F0 m (mz_pc pcs i) ls rst) := by
  obtain ⟨e1, rfl, e3⟩ := mz_kp_eq hk
  unfold mz_o6 at h
  split at h
  · rename_i yy xx rest
    match rst, hst with
    | v :: v2 :: rst, ⟨g1, g2, hst⟩ =>
    have g1 : v = .int yy := g1
    have g2 : v2 = .int xx := g2
    subst g1; subst g2
    split at h
    · rename_i z hz
      cases h
      have k2 := kk ls rlo (.int z :: rst) hl hlo ⟨rfl, hst⟩
      dsimp only at k2
      rw [e3] at k2
      unfold mz_bin at hz
      unfold mz_binI at e1
      split at hz <;> simp only [Option.some.injEq] at e1 <;> try subst e1
      · cases hz; exact lv_iadd hx hb hd k2
      · cases hz; exact lv_isub hx hb hd k2
      · cases hz; exact lv_imul hx hb hd k2
      · cases hz; exact lv_iand hx hb hd k2
      · cases hz; exact lv_ior hx hb hd k2
      · cases hz; exact lv_ixor hx hb hd k2
      · cases hz; exact lv_ishl hx hb hd k2
      · cases hz; exact lv_ishr hx hb hd k2
      · cases hz; exact lv_iushr hx hb hd rfl k2
      · by_cases h0 : yy = 0
        · rw [if_pos h0] at hz; cases hz
        · rw [if_neg h0] at hz; cases hz; exact lv_idiv hx hb hd h0 k2
      · by_cases h0 : yy = 0
        · rw [if_pos h0] at hz; cases hz
        · rw [if_neg h0] at hz; cases hz; exact lv_irem hx hb hd h0 k2
      · cases hz
    · cases h
  · cases h
theorem mz_s7 (hx : p.tables.exec = Jvm.exec) (hb : c.code = cc) (hd : decode cc (mz_pc pcs i) = .ok (ins, len)) (hk : mz_kp (mz_unI a) pcs i len ins = true)
    (hl : lv_has ls nL rlo) (hlo : mz_LR ads lo rlo) (hst : mz_FR ads st rst) (h : mz_o7 a i lo st = some r) (kk : mz_K p l e R s m args below meth c H locs cells slots Q pcs nL ads r) : W p l e R s m args below meth c H locs cells slots Q (F0 m (mz_pc pcs i) ls rst) := by
  obtain ⟨e1, rfl, e3⟩ := mz_kp_eq hk
  unfold mz_o7 at h
  split at h
  · rename_i xx rest
    match rst, hst with
    | v :: rst, ⟨g1, hst⟩ =>
    have g1 : v = .int xx := g1
    subst g1
    split at h
    · rename_i z hz
      cases h
      have k2 := kk ls rlo (.int z :: rst) hl hlo ⟨rfl, hst⟩
      dsimp only at k2
      rw [e3] at k2
      unfold mz_un at hz
      unfold mz_unI at e1
      split at hz <;> simp only [Option.some.injEq] at e1 <;> try subst e1
      · cases hz; exact lv_ineg hx hb hd k2
      · cases hz; exact lv_i2b hx hb hd rfl k2
      · cases hz; exact lv_i2s hx hb hd rfl k2
      · cases hz
    · cases h
  · cases h
end MZ1
