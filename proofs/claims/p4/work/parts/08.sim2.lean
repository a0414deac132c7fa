/-! instructions that touch locals and stack alone: the rest, and all of them -/
section MZ2
variable {p : Program} {l : Launch} {e : Env} {R : Room} {s : State} {m : MethodId} {args : Array Value} {below : List Frame} {meth : Method} {c : Code} {H : Heap} {locs : List Loc} {cells slots : Nat} {Q : State → Prop}
variable {cc : ByteArray} {pcs : List Nat} {ls : Array Slot} {nL i w len : Nat} {y : MethodName} {ins : Instr} {ads : List Nat} {lo rlo : mzL} {st rst : List Value} {a b : Nat} {r : Nat × mzL × List Value}
theorem mz_s8 (hx : p.tables.exec = Jvm.exec) (hb : c.code = cc) (hd : decode cc (mz_pc pcs i) = .ok (ins, len)) (hk : mz_kp (some .i2l) pcs i len ins = true)
    (hl : lv_has ls nL rlo) (hlo : mz_LR ads lo rlo) (hst : mz_FR ads st rst) (h : mz_o8 i lo st = some r) (kk : mz_K p l e R s m args below meth c H locs cells slots Q pcs nL ads r) : W p l e R s m args below meth c H locs cells slots Q (F0 m (mz_pc pcs i) ls rst) := by
  obtain ⟨e1, rfl, e3⟩ := mz_kp_eq hk
  cases e1
  unfold mz_o8 at h
  split at h
  · rename_i xx rest
    match rst, hst with
    | v :: rst, ⟨g1, hst⟩ =>
    have g1 : v = .int xx := g1
    subst g1
    cases h
    have k2 := kk ls rlo (.long xx.toInt64 :: rst) hl hlo ⟨rfl, hst⟩
    dsimp only at k2
    rw [e3] at k2
    exact lv_i2l hx hb hd rfl k2
  · cases h
theorem mz_s9 (hx : p.tables.exec = Jvm.exec) (hb : c.code = cc) (hd : decode cc (mz_pc pcs i) = .ok (ins, len)) (hk : mz_kp (if a = 0 then some .land else some .lor) pcs i len ins = true)
    (hl : lv_has ls nL rlo) (hlo : mz_LR ads lo rlo) (hst : mz_FR ads st rst) (h : mz_o9 a i lo st = some r) (kk : mz_K p l e R s m args below meth c H locs cells slots Q pcs nL ads r) : W p l e R s m args below meth c H locs cells slots Q (F0 m (mz_pc pcs i) ls rst) := by
  obtain ⟨e1, rfl, e3⟩ := mz_kp_eq hk
  unfold mz_o9 at h
  split at h
  · rename_i yy xx rest
    match rst, hst with
    | v :: v2 :: rst, ⟨g1, g2, hst⟩ =>
    have g1 : v = .long yy := g1
    have g2 : v2 = .long xx := g2
    subst g1; subst g2
    by_cases h0 : a = 0
    · rw [if_pos h0] at h e1
      cases h; cases e1
      have k2 := kk ls rlo (.long (xx &&& yy) :: rst) hl hlo ⟨rfl, hst⟩
      dsimp only at k2
      rw [e3] at k2
      exact lv_land hx hb hd k2
    · rw [if_neg h0] at h e1
      cases h; cases e1
      have k2 := kk ls rlo (.long (xx ||| yy) :: rst) hl hlo ⟨rfl, hst⟩
      dsimp only at k2
      rw [e3] at k2
      exact lv_lor hx hb hd k2
  · cases h
theorem mz_s10 (hx : p.tables.exec = Jvm.exec) (hb : c.code = cc) (hd : decode cc (mz_pc pcs i) = .ok (ins, len)) (hk : mz_kp (some .lshl) pcs i len ins = true)
    (hl : lv_has ls nL rlo) (hlo : mz_LR ads lo rlo) (hst : mz_FR ads st rst) (h : mz_o10 i lo st = some r) (kk : mz_K p l e R s m args below meth c H locs cells slots Q pcs nL ads r) : W p l e R s m args below meth c H locs cells slots Q (F0 m (mz_pc pcs i) ls rst) := by
  obtain ⟨e1, rfl, e3⟩ := mz_kp_eq hk
  cases e1
  unfold mz_o10 at h
  split at h
  · rename_i yy xx rest
    match rst, hst with
    | v :: v2 :: rst, ⟨g1, g2, hst⟩ =>
    have g1 : v = .int yy := g1
    have g2 : v2 = .long xx := g2
    subst g1; subst g2
    cases h
    have k2 := kk ls rlo (.long (xx <<< (yy.toInt64 &&& 63)) :: rst) hl hlo ⟨rfl, hst⟩
    dsimp only at k2
    rw [e3] at k2
    exact lv_lshl hx hb hd rfl k2
  · cases h
theorem mz_s11 (hx : p.tables.exec = Jvm.exec) (hb : c.code = cc) (hd : decode cc (mz_pc pcs i) = .ok (ins, len)) (hk : mz_kp (some .lcmp) pcs i len ins = true)
    (hl : lv_has ls nL rlo) (hlo : mz_LR ads lo rlo) (hst : mz_FR ads st rst) (h : mz_o11 i lo st = some r) (kk : mz_K p l e R s m args below meth c H locs cells slots Q pcs nL ads r) : W p l e R s m args below meth c H locs cells slots Q (F0 m (mz_pc pcs i) ls rst) := by
  obtain ⟨e1, rfl, e3⟩ := mz_kp_eq hk
  cases e1
  unfold mz_o11 at h
  split at h
  · rename_i yy xx rest
    match rst, hst with
    | v :: v2 :: rst, ⟨g1, g2, hst⟩ =>
    have g1 : v = .long yy := g1
    have g2 : v2 = .long xx := g2
    subst g1; subst g2
    cases h
    have k2 := kk ls rlo (.int (lg_cmp xx yy) :: rst) hl hlo ⟨rfl, hst⟩
    dsimp only at k2
    rw [e3] at k2
    exact W.lcmp hx hb hd k2
  · cases h
theorem mz_s12 (hx : p.tables.exec = Jvm.exec) (hb : c.code = cc) (hd : decode cc (mz_pc pcs i) = .ok (ins, len)) (hk : mz_kp (some .dup) pcs i len ins = true)
    (hl : lv_has ls nL rlo) (hlo : mz_LR ads lo rlo) (hst : mz_FR ads st rst) (h : mz_o12 i lo st = some r) (kk : mz_K p l e R s m args below meth c H locs cells slots Q pcs nL ads r) : W p l e R s m args below meth c H locs cells slots Q (F0 m (mz_pc pcs i) ls rst) := by
  obtain ⟨e1, rfl, e3⟩ := mz_kp_eq hk
  cases e1
  unfold mz_o12 at h
  split at h
  · rename_i xx rest
    match rst, hst with
    | v :: rst, ⟨g1, hst⟩ =>
    by_cases hc : mz_ty xx < 2
    · rw [if_pos hc] at h
      cases h
      have k2 := kk ls rlo (v :: v :: rst) hl hlo ⟨g1, g1, hst⟩
      dsimp only at k2
      rw [e3] at k2
      exact lv_dup hx hb hd (mz_tyc g1 hc) k2
    · rw [if_neg hc] at h; cases h
  · cases h
theorem mz_s13 (hx : p.tables.exec = Jvm.exec) (hb : c.code = cc) (hd : decode cc (mz_pc pcs i) = .ok (ins, len)) (hk : mz_kp (some .dup2) pcs i len ins = true)
    (hl : lv_has ls nL rlo) (hlo : mz_LR ads lo rlo) (hst : mz_FR ads st rst) (h : mz_o13 i lo st = some r) (kk : mz_K p l e R s m args below meth c H locs cells slots Q pcs nL ads r) : W p l e R s m args below meth c H locs cells slots Q (F0 m (mz_pc pcs i) ls rst) := by
  obtain ⟨e1, rfl, e3⟩ := mz_kp_eq hk
  cases e1
  unfold mz_o13 at h
  split at h
  · rename_i xx yy rest
    match rst, hst with
    | v :: v2 :: rst, ⟨g1, g2, hst⟩ =>
    by_cases hc : mz_ty xx < 2 ∧ mz_ty yy < 2
    · rw [if_pos hc] at h
      cases h
      have k2 := kk ls rlo (v :: v2 :: v :: v2 :: rst) hl hlo ⟨g1, g2, g1, g2, hst⟩
      dsimp only at k2
      rw [e3] at k2
      exact lv_dup2_11 hx hb hd (mz_tyc g1 hc.1) (mz_tyc g2 hc.2) k2
    · rw [if_neg hc] at h; cases h
  · cases h
theorem mz_s14 (hx : p.tables.exec = Jvm.exec) (hb : c.code = cc) (hd : decode cc (mz_pc pcs i) = .ok (ins, len)) (hk : mz_kp (some .pop) pcs i len ins = true)
    (hl : lv_has ls nL rlo) (hlo : mz_LR ads lo rlo) (hst : mz_FR ads st rst) (h : mz_o14 i lo st = some r) (kk : mz_K p l e R s m args below meth c H locs cells slots Q pcs nL ads r) : W p l e R s m args below meth c H locs cells slots Q (F0 m (mz_pc pcs i) ls rst) := by
  obtain ⟨e1, rfl, e3⟩ := mz_kp_eq hk
  cases e1
  unfold mz_o14 at h
  split at h
  · rename_i xx rest
    match rst, hst with
    | v :: rst, ⟨g1, hst⟩ =>
    by_cases hc : mz_ty xx < 2
    · rw [if_pos hc] at h
      cases h
      have k2 := kk ls rlo rst hl hlo hst
      dsimp only at k2
      rw [e3] at k2
      exact lv_pop hx hb hd (mz_tyc g1 hc) k2
    · rw [if_neg hc] at h; cases h
  · cases h
theorem mz_s15 (hx : p.tables.exec = Jvm.exec) (hb : c.code = cc) (hd : decode cc (mz_pc pcs i) = .ok (ins, len)) (hk : mz_kp (some .dup_x1) pcs i len ins = true)
    (hl : lv_has ls nL rlo) (hlo : mz_LR ads lo rlo) (hst : mz_FR ads st rst) (h : mz_o15 i lo st = some r) (kk : mz_K p l e R s m args below meth c H locs cells slots Q pcs nL ads r) : W p l e R s m args below meth c H locs cells slots Q (F0 m (mz_pc pcs i) ls rst) := by
  obtain ⟨e1, rfl, e3⟩ := mz_kp_eq hk
  cases e1
  unfold mz_o15 at h
  split at h
  · rename_i xx yy rest
    match rst, hst with
    | v :: v2 :: rst, ⟨g1, g2, hst⟩ =>
    by_cases hc : mz_ty xx < 2 ∧ mz_ty yy < 2
    · rw [if_pos hc] at h
      cases h
      have k2 := kk ls rlo (v :: v2 :: v :: rst) hl hlo ⟨g1, g2, g1, hst⟩
      dsimp only at k2
      rw [e3] at k2
      exact lv_dup_x1 hx hb hd (mz_tyc g1 hc.1) (mz_tyc g2 hc.2) k2
    · rw [if_neg hc] at h; cases h
  · cases h
theorem mz_s16 (hx : p.tables.exec = Jvm.exec) (hb : c.code = cc) (hd : decode cc (mz_pc pcs i) = .ok (ins, len)) (hk : mz_k16 a b pcs i len ins = true)
    (hl : lv_has ls nL rlo) (hlo : mz_LR ads lo rlo) (hst : mz_FR ads st rst) (h : mz_o16 a b i lo st = some r) (kk : mz_K p l e R s m args below meth c H locs cells slots Q pcs nL ads r) : W p l e R s m args below meth c H locs cells slots Q (F0 m (mz_pc pcs i) ls rst) := by
  unfold mz_k16 at hk
  split at hk
  · rename_i cd off
    simp only [Bool.and_eq_true, decide_eq_true_eq] at hk
    obtain ⟨⟨⟨q1, rfl⟩, q3⟩, q4⟩ := hk
    have e3 := mz_nx_eq q3
    have e4 := mz_tg_eq q4
    unfold mz_o16 at h
    split at h
    · rename_i xx rest
      match rst, hst with
      | v :: rst, ⟨g1, hst⟩ =>
      have g1 : v = .int xx := g1
      subst g1
      have kt : mz_cond a xx 0 = some true → W p l e R s m args below meth c H locs cells slots Q (F0 m (mz_pc pcs b) ls rst) := fun q => by
        rw [q] at h; cases h; exact kk ls rlo rst hl hlo hst
      have kf : mz_cond a xx 0 = some false → W p l e R s m args below meth c H locs cells slots Q (F0 m (mz_pc pcs i + 3) ls rst) := fun q => by
        rw [q] at h; cases h; rw [← e3]; exact kk ls rlo rst hl hlo hst
      clear h kk
      unfold mz_cI at q1
      split at q1 <;> (try simp only [Option.some.injEq] at q1) <;> (try subst q1)
      · exact lv_if_eq hx hb hd e4 (fun z => kt (by simp [mz_cond, z])) (fun z => kf (by simp [mz_cond, z]))
      · exact lv_if_ne hx hb hd e4 (fun z => kt (by simp [mz_cond, z])) (fun z => kf (by simp [mz_cond, z]))
      · exact lv_if_lt hx hb hd e4 (fun z => kt (by simp [mz_cond, z])) (fun z => kf (by simp only [mz_cond, z, decide_false]))
      · exact lv_if_ge hx hb hd e4 (fun z => kt (by simp [mz_cond, z])) (fun z => kf (by simp only [mz_cond, z, decide_false]))
      · exact lv_if_gt hx hb hd e4 (fun z => kt (by simp [mz_cond, z])) (fun z => kf (by simp only [mz_cond, z, decide_false]))
      · exact lv_if_le hx hb hd e4 (fun z => kt (by simp [mz_cond, z])) (fun z => kf (by simp only [mz_cond, z, decide_false]))
      · cases q1
    · cases h
  · cases hk
theorem mz_s17 (hx : p.tables.exec = Jvm.exec) (hb : c.code = cc) (hd : decode cc (mz_pc pcs i) = .ok (ins, len)) (hk : mz_k17 a b pcs i len ins = true)
    (hl : lv_has ls nL rlo) (hlo : mz_LR ads lo rlo) (hst : mz_FR ads st rst) (h : mz_o17 a b i lo st = some r) (kk : mz_K p l e R s m args below meth c H locs cells slots Q pcs nL ads r) : W p l e R s m args below meth c H locs cells slots Q (F0 m (mz_pc pcs i) ls rst) := by
  unfold mz_k17 at hk
  split at hk
  · rename_i cd off
    simp only [Bool.and_eq_true, decide_eq_true_eq] at hk
    obtain ⟨⟨⟨q1, rfl⟩, q3⟩, q4⟩ := hk
    have e3 := mz_nx_eq q3
    have e4 := mz_tg_eq q4
    unfold mz_o17 at h
    split at h
    · rename_i yy xx rest
      match rst, hst with
      | v :: v2 :: rst, ⟨g1, g2, hst⟩ =>
      have g1 : v = .int yy := g1
      have g2 : v2 = .int xx := g2
      subst g1; subst g2
      have kt : mz_cond a xx yy = some true → W p l e R s m args below meth c H locs cells slots Q (F0 m (mz_pc pcs b) ls rst) := fun q => by
        rw [q] at h; cases h; exact kk ls rlo rst hl hlo hst
      have kf : mz_cond a xx yy = some false → W p l e R s m args below meth c H locs cells slots Q (F0 m (mz_pc pcs i + 3) ls rst) := fun q => by
        rw [q] at h; cases h; rw [← e3]; exact kk ls rlo rst hl hlo hst
      clear h kk
      unfold mz_cI at q1
      split at q1 <;> (try simp only [Option.some.injEq] at q1) <;> (try subst q1)
      · exact lv_icmp_eq hx hb hd e4 (fun z => kt (by simp [mz_cond, z])) (fun z => kf (by simp [mz_cond, z]))
      · exact lv_icmp_ne hx hb hd e4 (fun z => kt (by simp [mz_cond, z])) (fun z => kf (by simp [mz_cond, z]))
      · exact lv_icmp_lt hx hb hd e4 (fun z => kt (by simp [mz_cond, z])) (fun z => kf (by simp only [mz_cond, z, decide_false]))
      · exact lv_icmp_ge hx hb hd e4 (fun z => kt (by simp [mz_cond, z])) (fun z => kf (by simp only [mz_cond, z, decide_false]))
      · exact lv_icmp_gt hx hb hd e4 (fun z => kt (by simp [mz_cond, z])) (fun z => kf (by simp only [mz_cond, z, decide_false]))
      · exact lv_icmp_le hx hb hd e4 (fun z => kt (by simp [mz_cond, z])) (fun z => kf (by simp only [mz_cond, z, decide_false]))
      · cases q1
    · cases h
  · cases hk
theorem mz_s18 (hx : p.tables.exec = Jvm.exec) (hb : c.code = cc) (hd : decode cc (mz_pc pcs i) = .ok (ins, len)) (hk : mz_k18 b pcs i len ins = true)
    (hl : lv_has ls nL rlo) (hlo : mz_LR ads lo rlo) (hst : mz_FR ads st rst) (kk : mz_K p l e R s m args below meth c H locs cells slots Q pcs nL ads (b, lo, st)) : W p l e R s m args below meth c H locs cells slots Q (F0 m (mz_pc pcs i) ls rst) := by
  unfold mz_k18 at hk
  split at hk
  · simp only [Bool.and_eq_true, decide_eq_true_eq] at hk
    obtain ⟨rfl, q4⟩ := hk
    exact lv_goto hx hb hd (mz_tg_eq q4) (kk ls rlo rst hl hlo hst)
  · cases hk
theorem mz_zip_at {i : Nat} : ∀ {os : List Int} {sw : List (Int × Nat)}, mz_zip pcs i os sw = true → ∀ {k : Nat} {q : Int × Nat}, sw[k]? = some q → ∃ o, os[k]? = some o ∧ (mz_pc pcs i : Int) + o = ((mz_pc pcs q.2 : Nat) : Int)
  | [], [], _, _, _, h => by simp at h
  | [], _ :: _, h, _, _, _ => by simp [mz_zip] at h
  | _ :: _, [], h, _, _, _ => by simp [mz_zip] at h
  | o :: os, z :: sw, h, k, q, hq => by
    simp only [mz_zip, Bool.and_eq_true] at h
    cases k with
    | zero => simp at hq; subst hq; exact ⟨o, rfl, mz_tg_eq h.1⟩
    | succ k => simp at hq; simpa using mz_zip_at h.2 hq
theorem mz_s19 (hx : p.tables.exec = Jvm.exec) (hb : c.code = cc) (hd : decode cc (mz_pc pcs i) = .ok (ins, len)) {k : Int} {sw : List (Int × Nat)} (hk : mz_k19 b k sw pcs i ins = true)
    (hl : lv_has ls nL rlo) (hlo : mz_LR ads lo rlo) (hst : mz_FR ads st rst) (h : mz_o19 b k sw lo st = some r) (kk : mz_K p l e R s m args below meth c H locs cells slots Q pcs nL ads r) : W p l e R s m args below meth c H locs cells slots Q (F0 m (mz_pc pcs i) ls rst) := by
  unfold mz_k19 at hk
  split at hk
  · rename_i d lo0 hi offs
    simp only [Bool.and_eq_true, decide_eq_true_eq] at hk
    obtain ⟨⟨⟨rfl, rfl⟩, q3⟩, q4⟩ := hk
    unfold mz_o19 at h
    split at h
    · rename_i xx rest
      match rst, hst with
      | v :: rst, ⟨g1, hst⟩ =>
      have g1 : v = .int xx := g1
      subst g1
      split at h
      · rename_i t ht
        cases h
        have k2 := kk ls rlo rst hl hlo hst
        dsimp only at k2
        unfold mz_tab at ht
        by_cases hr : xx.toInt - lo0 < 0 ∨ (sw.length : Int) ≤ xx.toInt - lo0
        · rw [if_pos hr] at ht
          cases ht
          exact lv_tableOut hx hb hd (by omega) (mz_tg_eq q3) k2
        · rw [if_neg hr] at ht
          obtain ⟨q, hq, rfl⟩ := Option.map_eq_some_iff.mp ht
          obtain ⟨o, ho, he⟩ := mz_zip_at q4 hq
          exact lv_tableIn hx hb hd (by omega) (by omega) (by rw [← Array.getElem?_toList]; exact ho) he k2
      · cases h
    · cases h
  · cases hk
theorem mz_look_at {i : Nat} {d : Int} (hd : (mz_pc pcs i : Int) + d = ((mz_pc pcs b : Nat) : Int)) (x : Int) : ∀ {ps : List (Int × Int)} {sw : List (Int × Nat)}, mz_zipL pcs i ps sw = true → (mz_pc pcs i : Int) + Op.lookupswitch.offset ps d x = ((mz_pc pcs (mz_look sw b x) : Nat) : Int)
  | [], [], _ => by simpa [mz_look, Op.lookupswitch.offset] using hd
  | [], _ :: _, h => by simp [mz_zipL] at h
  | _ :: _, [], h => by simp [mz_zipL] at h
  | (o1, o2) :: os, (z1, z2) :: sw, h => by
    simp only [mz_zipL, Bool.and_eq_true, decide_eq_true_eq] at h
    obtain ⟨⟨h1, h2⟩, h3⟩ := h
    subst h1
    rw [Op.lookupswitch.offset_cons]
    unfold mz_look
    by_cases hz : x = o1
    · subst hz
      simp only [if_true]
      exact mz_tg_eq h2
    · rw [if_neg hz, if_neg (fun q => hz q.symm)]
      exact mz_look_at hd x h3
theorem mz_s39 (hx : p.tables.exec = Jvm.exec) (hb : c.code = cc) (hd : decode cc (mz_pc pcs i) = .ok (ins, len)) {sw : List (Int × Nat)} (hk : mz_k39 b sw pcs i ins = true)
    (hl : lv_has ls nL rlo) (hlo : mz_LR ads lo rlo) (hst : mz_FR ads st rst) (h : mz_o39 b sw lo st = some r) (kk : mz_K p l e R s m args below meth c H locs cells slots Q pcs nL ads r) : W p l e R s m args below meth c H locs cells slots Q (F0 m (mz_pc pcs i) ls rst) := by
  unfold mz_k39 at hk
  split at hk
  · rename_i d ps
    rw [Bool.and_eq_true, Bool.and_eq_true] at hk
    obtain ⟨⟨q1, q2⟩, q3⟩ := hk
    unfold mz_o39 at h
    split at h
    · rename_i xx rest
      match rst, hst with
      | v :: rst, ⟨g1, hst⟩ =>
      have g1 : v = .int xx := g1
      subst g1
      cases h
      exact lv_lookup hx hb hd q3 rfl (mz_look_at (mz_tg_eq q1) xx.toInt q2) (kk ls rlo rst hl hlo hst)
    · cases h
  · cases hk
theorem mz_sim1 (hx : p.tables.exec = Jvm.exec) (hb : c.code = cc) (hown : s.vm.findClass y.cls = some m.cls) (hts : ∀ w ∈ mz_WS, w.before args s = true) (hd : decode cc (mz_pc pcs i) = .ok (ins, len)) {ri : mzI} (hk : mz_okI y pcs w i len ri ins = true) (hop : ri.1 < 20 ∨ ri.1 = 39)
    (hl : lv_has ls nL rlo) (hlo : mz_LR ads lo rlo) (hst : mz_FR ads st rst) (h : mz_one ri i nL lo st = some r) (kk : mz_K p l e R s m args below meth c H locs cells slots Q pcs nL ads r) : W p l e R s m args below meth c H locs cells slots Q (F0 m (mz_pc pcs i) ls rst) := by
  obtain ⟨op, aa, bb, k, sw⟩ := ri
  have ho : op < 20 ∨ op = 39 := hop
  unfold mz_one at h
  unfold mz_okI at hk
  dsimp only at h hk
  match op, ho, h, hk with
  | 0, _, h, hk => cases h; exact mz_s0 hx hb hown hts hd hk hl hlo hst kk
  | 1, _, h, hk => cases h; exact mz_s1 hx hb hd hk hl hlo hst kk
  | 2, _, h, hk => exact mz_s2 hx hb hd hk hl hlo hst h kk
  | 3, _, h, hk => exact mz_s3 hx hb hd hk hl hlo hst h kk
  | 4, _, h, hk => exact mz_s4 hx hb hd hk hl hlo hst h kk
  | 5, _, h, hk => exact mz_s5 hx hb hd hk hl hlo hst h kk
  | 6, _, h, hk => exact mz_s6 hx hb hd hk hl hlo hst h kk
  | 7, _, h, hk => exact mz_s7 hx hb hd hk hl hlo hst h kk
  | 8, _, h, hk => exact mz_s8 hx hb hd hk hl hlo hst h kk
  | 9, _, h, hk => exact mz_s9 hx hb hd hk hl hlo hst h kk
  | 10, _, h, hk => exact mz_s10 hx hb hd hk hl hlo hst h kk
  | 11, _, h, hk => exact mz_s11 hx hb hd hk hl hlo hst h kk
  | 12, _, h, hk => exact mz_s12 hx hb hd hk hl hlo hst h kk
  | 13, _, h, hk => exact mz_s13 hx hb hd hk hl hlo hst h kk
  | 14, _, h, hk => exact mz_s14 hx hb hd hk hl hlo hst h kk
  | 15, _, h, hk => exact mz_s15 hx hb hd hk hl hlo hst h kk
  | 16, _, h, hk => exact mz_s16 hx hb hd hk hl hlo hst h kk
  | 17, _, h, hk => exact mz_s17 hx hb hd hk hl hlo hst h kk
  | 18, _, h, hk => cases h; exact mz_s18 hx hb hd hk hl hlo hst kk
  | 19, _, h, hk => exact mz_s19 hx hb hd hk hl hlo hst h kk
  | 39, _, h, hk => exact mz_s39 hx hb hd hk hl hlo hst h kk
  | n + 20, ho, h, hk =>
    rcases ho with ho | ho
    · omega
    · have : n = 19 := by omega
      subst this
      exact mz_s39 hx hb hd hk hl hlo hst h kk
end MZ2
