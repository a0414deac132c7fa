/-! instructions on the heap: what is made, statics, copies; and all of them -/
section MZ6
variable {p : Program} {l : Launch} {e : Env} {R : Room} {s : State} {m : MethodId} {args : Array Value} {below : List Frame} {meth : Method} {c : Code} {H : Heap} {locs : List Loc} {cells slots : Nat} {Q : State → Prop}
variable {cc : ByteArray} {pcs : List Nat} {ls : Array Slot} {nL i w len : Nat} {y : MethodName} {ins : Instr} {st rst : List Value} {a b : Nat} {r : List Value × mzS}
variable {D : va_G} {A : Nat → Prop} {cA : Nat → ClassId} {xt : List Nat} {X : List (List Value)} {ws : va_W} {σ : mzS} {c0 n0 : Nat}
theorem mz_hnull : ∀ (ads : List Nat) (ci : Nat), mz_FR ads (mz_def ci) (mz_def ci) := by
  intro ads ci
  match ci with
  | 0 | 1 | 2 | 3 | 4 | 5 | 6 | 7 | 8 | 9 | 10 | 11 => simp [mz_def, mz_FR, mz_F2, mz_rel]
  | n + 12 => trivial
theorem mz_h25s (hx : p.tables.exec = Jvm.exec) (hb : c.code = cc) (hown : s.vm.findClass y.cls = some m.cls) (hts : ∀ w ∈ mz_WS, w.before args s = true) (hd : decode cc (mz_pc pcs i) = .ok (ins, len)) (hk : mz_k25 y.cls w a b pcs i len ins = true)
    (hC : mz_CT D A cA xt X s) (hP : mz_HP D A cA xt s.heap σ.1 ws H locs) (hst : mz_FR (mz_ads xt ws) st rst) (hcn : σ.2.1 = c0 + cells) (hsn : σ.2.2 = n0 + slots) (h : mz_h25 a b st σ = some r) (hRc : r.2.2.1 ≤ c0 + R.cells) (hRs : r.2.2.2 ≤ n0 + R.slots) (kk : mz_KH p l e R s m args below meth c Q pcs i ls D A cA xt ws c0 n0 r) : W p l e R s m args below meth c H locs cells slots Q (F0 m (mz_pc pcs i) ls rst) := by
  unfold mz_k25 at hk
  split at hk
  · rename_i ix
    simp only [Bool.and_eq_true, decide_eq_true_eq] at hk
    obtain ⟨⟨q1, rfl⟩, q3⟩ := hk
    cases hv : vwCl[a]? with
    | none => rw [hv] at q1; cases q1
    | some rr =>
      obtain ⟨C, T, N⟩ := rr
      rw [hv] at q1
      dsimp only at q1
      simp only [Bool.and_eq_true, decide_eq_true_eq] at q1
      obtain ⟨q4, rfl⟩ := q1
      unfold mz_h25 at h
      by_cases ha : a < 12
      · rw [if_pos ha] at h
        cases h
        dsimp only at hRc hRs
        obtain ⟨hi1, hi2⟩ := mz_inst a C T N hv
        refine va_new (fs := mz_def a) hx hb (Ts := mz_WS) hts (mz_cl a C T N hv) (mz_t0 a) (mz_tyok a C T N hv) hown (hts _ (mz_wok_mem q4)) (hts _ hi1) (hts _ hi2) hC.2.1 hP.1 hP.2.1 hP.2.2.1 hC.2.2.2.1 hv (mz_dfok a C T N hv).2 (by omega) (by omega) hd (fun q H1 p1 p2 p3 => ?_)
        rw [← mz_nx_eq q3]
        exact kk H1 locs _ (.ref q :: rst) (cells + 1) (slots + N) ⟨p1, p2, p3, mz_HR_app hP.2.2.2 ⟨rfl, mz_hnull _ a⟩⟩ ⟨[q], mz_ads_app⟩ ⟨mz_top hC.1 hP.2.2.2, by rw [mz_ads_app]; exact mz_FR.app hst _⟩ (by show σ.2.1 + 1 = _; omega) (by show σ.2.2 + N = _; omega)
      · rw [if_neg ha] at h; cases h
  · cases hk
theorem mz_rep {n : Nat} {v w : Value} {j : Nat} (h : (List.replicate n v)[j]? = some w) : w = v := by
  rw [List.getElem?_replicate] at h
  by_cases hj : j < n
  · rw [if_pos hj] at h; exact (Option.some.inj h).symm
  · rw [if_neg hj] at h; cases h
theorem mz_h26s (hx : p.tables.exec = Jvm.exec) (hb : c.code = cc) (hts : ∀ w ∈ mz_WS, w.before args s = true) (hd : decode cc (mz_pc pcs i) = .ok (ins, len)) (hk : mz_k26 a pcs i len ins = true)
    (hC : mz_CT D A cA xt X s) (hP : mz_HP D A cA xt s.heap σ.1 ws H locs) (hst : mz_FR (mz_ads xt ws) st rst) (hcn : σ.2.1 = c0 + cells) (hsn : σ.2.2 = n0 + slots) (h : mz_h26 a st σ = some r) (hRc : r.2.2.1 ≤ c0 + R.cells) (hRs : r.2.2.2 ≤ n0 + R.slots) (kk : mz_KH p l e R s m args below meth c Q pcs i ls D A cA xt ws c0 n0 r) : W p l e R s m args below meth c H locs cells slots Q (F0 m (mz_pc pcs i) ls rst) := by
  unfold mz_k26 at hk
  split at hk
  · rename_i t
    simp only [Bool.and_eq_true, decide_eq_true_eq] at hk
    obtain ⟨⟨q1, rfl⟩, q3⟩ := hk
    unfold mz_h26 at h
    split at h
    · rename_i n rest
      match rst, hst with
      | v :: rst, ⟨g1, hst⟩ =>
      have g1 : v = .int n := g1
      subst g1
      by_cases hn : n < 0 ∨ 60000 < n.toNatClampNeg ∨ 3 < a
      · rw [if_pos hn] at h; cases h
      · rw [if_neg hn] at h
        cases h
        dsimp only at hRc hRs
        have hn0 : ¬ n < 0 := fun q => hn (Or.inl q)
        have hn1 : n.toNatClampNeg ≤ 60000 := by omega
        have same : ∀ {k : Nat} {ty : FieldType} {cA' : ClassId}, (mz_tys cA)[k]? = some (cA k, ty) → (ty = .int ∨ ty = .long ∨ ty = .byte ∨ ty = .boolean) → va_K D vwCl (mz_tys cA ++ [(cA', ty)]) s → cA' = cA k := by
          intro k ty cA' hk1 hty hK
          have h1 := (hC.2.1.2 k _ hk1).2
          have h2 := (hK.2 5 (cA', ty) rfl).2
          dsimp only at h1 h2
          rcases hty with rfl | rfl | rfl | rfl <;> exact Option.some.inj (h2.symm.trans h1)
        have fin : ∀ (q : Nat) (H1 : Heap) (e' : va_E), mz_cr cA (mz_ads xt (ws ++ [(q, e')])) (2 * a + 1, List.replicate n.toNatClampNeg (mz_zero a)) e' → va_P D vwCl (ws ++ [(q, e')]) H1 → va_D A (ws ++ [(q, e')]) → va_S A s.heap H1 locs → W p l e R s m args below meth c H1 locs (cells + 1) (slots + n.toNatClampNeg) Q (F0 m (mz_pc pcs i + 2) ls (.ref q :: rst)) := by
          intro q H1 e' hcr p1 p2 p3
          rw [← mz_nx_eq q3]
          exact kk H1 locs _ (.ref q :: rst) (cells + 1) (slots + n.toNatClampNeg) ⟨p1, p2, p3, mz_HR_app hP.2.2.2 hcr⟩ ⟨[q], mz_ads_app⟩ ⟨mz_top hC.1 hP.2.2.2, by rw [mz_ads_app]; exact mz_FR.app hst _⟩ (by show σ.2.1 + 1 = _; omega) (by show σ.2.2 + n.toNatClampNeg = _; omega)
        rcases q1 with ⟨rfl, rfl⟩ | ⟨rfl, rfl⟩ | ⟨rfl, rfl⟩ | ⟨rfl, rfl⟩
        · refine va_newa (atype := .int) (a0 := (n.toNatClampNeg, .inl (fun _ => 0))) hx hb (hts _ mz_ac_int) rfl hC.2.1 hP.1 hP.2.1 hP.2.2.1 hC.2.2.2.1 (fun _ => rfl) hn0 rfl (by show _ * 4 ≤ _; omega) (by omega) (by omega) hd (fun q cA' H1 hK p1 p2 p3 => ?_)
          have e9 := same (k := 0) rfl (Or.inl rfl) hK
          subst e9
          exact fin q H1 (.inl (cA 0, n.toNatClampNeg, .inl (fun _ => 0))) ⟨Or.inl rfl, by simp, by simp, fun j v hv => mz_rep hv⟩ p1 p2 p3
        · refine va_newa (atype := .long) (a0 := (n.toNatClampNeg, .inr (.inl (fun _ => 0)))) hx hb (hts _ mz_ac_long) rfl hC.2.1 hP.1 hP.2.1 hP.2.2.1 hC.2.2.2.1 (fun _ => rfl) hn0 rfl (by show _ * 8 ≤ _; omega) (by omega) (by omega) hd (fun q cA' H1 hK p1 p2 p3 => ?_)
          have e9 := same (k := 1) rfl (Or.inr (Or.inl rfl)) hK
          subst e9
          exact fin q H1 (.inl (cA 1, n.toNatClampNeg, .inr (.inl (fun _ => 0)))) ⟨rfl, rfl, by simp, fun j v hv => mz_rep hv⟩ p1 p2 p3
        · refine va_newa (atype := .byte) (a0 := (n.toNatClampNeg, .inl (fun _ => 0))) hx hb (hts _ mz_ac_byte) rfl hC.2.1 hP.1 hP.2.1 hP.2.2.1 hC.2.2.2.1 (fun _ => rfl) hn0 rfl (by show _ * 1 ≤ _; omega) (by omega) (by omega) hd (fun q cA' H1 hK p1 p2 p3 => ?_)
          have e9 := same (k := 2) rfl (Or.inr (Or.inr (Or.inl rfl))) hK
          subst e9
          exact fin q H1 (.inl (cA 2, n.toNatClampNeg, .inl (fun _ => 0))) ⟨Or.inr (Or.inl rfl), by simp, by simp, fun j v hv => mz_rep hv⟩ p1 p2 p3
        · refine va_newa (atype := .boolean) (a0 := (n.toNatClampNeg, .inl (fun _ => 0))) hx hb (hts _ mz_ac_boolean) rfl hC.2.1 hP.1 hP.2.1 hP.2.2.1 hC.2.2.2.1 (fun _ => rfl) hn0 rfl (by show _ * 1 ≤ _; omega) (by omega) (by omega) hd (fun q cA' H1 hK p1 p2 p3 => ?_)
          have e9 := same (k := 3) rfl (Or.inr (Or.inr (Or.inr rfl))) hK
          subst e9
          exact fin q H1 (.inl (cA 3, n.toNatClampNeg, .inl (fun _ => 0))) ⟨Or.inr (Or.inr rfl), by simp, by simp, fun j v hv => mz_rep hv⟩ p1 p2 p3
    · cases h
  · cases hk
theorem mz_h27s (hx : p.tables.exec = Jvm.exec) (hb : c.code = cc) (hown : s.vm.findClass y.cls = some m.cls) (hts : ∀ w ∈ mz_WS, w.before args s = true) (hd : decode cc (mz_pc pcs i) = .ok (ins, len)) (hk : mz_k27 y.cls w pcs i len ins = true)
    (hC : mz_CT D A cA xt X s) (hP : mz_HP D A cA xt s.heap σ.1 ws H locs) (hst : mz_FR (mz_ads xt ws) st rst) (hcn : σ.2.1 = c0 + cells) (hsn : σ.2.2 = n0 + slots) (h : mz_h27 st σ = some r) (hRc : r.2.2.1 ≤ c0 + R.cells) (hRs : r.2.2.2 ≤ n0 + R.slots) (kk : mz_KH p l e R s m args below meth c Q pcs i ls D A cA xt ws c0 n0 r) : W p l e R s m args below meth c H locs cells slots Q (F0 m (mz_pc pcs i) ls rst) := by
  unfold mz_k27 at hk
  split at hk
  · simp only [Bool.and_eq_true, decide_eq_true_eq] at hk
    obtain ⟨⟨q1, rfl⟩, q3⟩ := hk
    unfold mz_h27 at h
    split at h
    · rename_i n rest
      match rst, hst with
      | v :: rst, ⟨g1, hst⟩ =>
      have g1 : v = .int n := g1
      subst g1
      by_cases hn : n < 0 ∨ 60000 < n.toNatClampNeg
      · rw [if_pos hn] at h; cases h
      · rw [if_neg hn] at h
        cases h
        dsimp only at hRc hRs
        have hn0 : ¬ n < 0 := fun q => hn (Or.inl q)
        have hn1 : n.toNatClampNeg ≤ 60000 := by omega
        refine va_newq hx hb hown (hts _ (mz_wok_mem q1)) hC.2.2.2.2 hC.2.1 hP.1 hP.2.1 hP.2.2.1 hC.2.2.2.1 hn0 rfl (by omega) (by omega) (by omega) hd (fun q cA' H1 hK p1 p2 p3 => ?_)
        have e9 : cA' = cA 4 := by
          obtain ⟨_, _, -, -, -, h1⟩ := (hC.2.1.2 4 _ rfl).2
          obtain ⟨_, _, -, -, -, h2⟩ := (hK.2 5 (cA', .object "LoopsToUnits$Held") rfl).2
          exact Option.some.inj (h2.symm.trans h1)
        subst e9
        rw [← mz_nx_eq q3]
        exact kk H1 locs _ (.ref q :: rst) (cells + 1) (slots + n.toNatClampNeg) ⟨p1, p2, p3, mz_HR_app hP.2.2.2 ⟨rfl, rfl, by simp, fun j v hv => by rw [mz_rep hv]; rfl⟩⟩ ⟨[q], mz_ads_app⟩ ⟨mz_top hC.1 hP.2.2.2, by rw [mz_ads_app]; exact mz_FR.app hst _⟩ (by show σ.2.1 + 1 = _; omega) (by show σ.2.2 + n.toNatClampNeg = _; omega)
    · cases h
  · cases hk
theorem mz_h28s (hx : p.tables.exec = Jvm.exec) (hb : c.code = cc) (hown : s.vm.findClass y.cls = some m.cls) (hts : ∀ w ∈ mz_WS, w.before args s = true) (hd : decode cc (mz_pc pcs i) = .ok (ins, len)) (hk : mz_k28 y.cls w a pcs i len ins = true)
    (hC : mz_CT D A cA xt X s) (hP : mz_HP D A cA xt s.heap σ.1 ws H locs) (hst : mz_FR (mz_ads xt ws) st rst) (hcn : σ.2.1 = c0 + cells) (hsn : σ.2.2 = n0 + slots) (h : (if 1 ≤ a ∧ a < 4 then some (Value.ref a :: st, σ) else none) = some r) (kk : mz_KH p l e R s m args below meth c Q pcs i ls D A cA xt ws c0 n0 r) : W p l e R s m args below meth c H locs cells slots Q (F0 m (mz_pc pcs i) ls rst) := by
  unfold mz_k28 at hk
  split at hk
  · simp only [Bool.and_eq_true, decide_eq_true_eq] at hk
    obtain ⟨⟨q1, rfl⟩, q3⟩ := hk
    by_cases ha : 1 ≤ a ∧ a < 4
    · rw [if_pos ha] at h
      cases h
      obtain ⟨t, t1, t2⟩ := hC.2.2.1.2 a ha.1 ha.2
      have k2 := kk H locs ws (.ref t :: rst) cells slots hP ⟨[], by simp⟩ ⟨⟨t, by unfold mz_ads; rw [List.getElem?_append_left (by rw [hC.1]; exact ha.2)]; exact t1, rfl⟩, hst⟩ hcn hsn
      rw [mz_nx_eq q3] at k2
      exact va_gets hx hb t2 hP.2.2.1 hown (hts _ (mz_wok_mem q1)) (fun _ h => h) hd k2
    · rw [if_neg ha] at h; cases h
  · cases hk
theorem mz_h29s (hx : p.tables.exec = Jvm.exec) (hb : c.code = cc) (hown : s.vm.findClass y.cls = some m.cls) (hts : ∀ w ∈ mz_WS, w.before args s = true) (hsz : ls.size = c.maxLocals) (hRf : 1 ≤ R.frames) (hRl : 200 ≤ R.locals) (hd : decode cc (mz_pc pcs i) = .ok (ins, len)) (hk : mz_k29 y.cls w pcs i len ins = true)
    (hP : mz_HP D A cA xt s.heap σ.1 ws H locs) (hst : mz_FR (mz_ads xt ws) st rst) (hcn : σ.2.1 = c0 + cells) (hsn : σ.2.2 = n0 + slots) (h : mz_h29 st σ = some r) (kk : mz_KH p l e R s m args below meth c Q pcs i ls D A cA xt ws c0 n0 r) : W p l e R s m args below meth c H locs cells slots Q (F0 m (mz_pc pcs i) ls rst) := by
  unfold mz_k29 at hk
  split at hk
  · simp only [Bool.and_eq_true, decide_eq_true_eq] at hk
    obtain ⟨⟨q1, rfl⟩, q3⟩ := hk
    unfold mz_h29 at h
    split at h
    · rename_i rr rest
      match rst, hst with
      | v :: rst, ⟨g1, hst⟩ =>
      obtain ⟨ad, -, rfl⟩ := g1
      by_cases hs8 : (rest.map fun v => v.category).sum ≤ 8
      · rw [if_pos hs8] at h
        cases h
        have k2 := kk H locs ws rst cells slots hP ⟨[], by simp⟩ hst hcn hsn
        rw [mz_nx_eq q3] at k2
        have h8 : (rst.map fun v => v.category).sum ≤ 8 := by rw [mz_FR.sum hst]; exact hs8
        have h9 := lv_room (m := m) (pc := mz_pc pcs i) (ls := ls) (rest := .ref ad :: rst) h8
        exact W.objInit hx hb hown (hts _ (mz_wok_mem q1)) (hts _ mz_oi.1) (hts _ mz_oi.2) (g := F0 m (mz_pc pcs i) ls (.ref ad :: rst)) rfl hsz rfl hd hRf (by omega) k2
      · rw [if_neg hs8] at h; cases h
    · cases h
  · cases hk
theorem mz_nfw : nativeFrameWords "java/lang/System" "arraycopy" 5 + 11 ≤ 150 := by decide +kernel
theorem mz_h30s (hx : p.tables.exec = Jvm.exec) (hb : c.code = cc) (hown : s.vm.findClass y.cls = some m.cls) (hts : ∀ w ∈ mz_WS, w.before args s = true) (hsz : ls.size = c.maxLocals) (hRf : 1 ≤ R.frames) (hRl : 200 ≤ R.locals) (hd : decode cc (mz_pc pcs i) = .ok (ins, len)) (hk : mz_k30 y.cls w pcs i len ins = true)
    (hC : mz_CT D A cA xt X s) (hP : mz_HP D A cA xt s.heap σ.1 ws H locs) (hst : mz_FR (mz_ads xt ws) st rst) (hcn : σ.2.1 = c0 + cells) (hsn : σ.2.2 = n0 + slots) (h : mz_h30 st σ = some r) (kk : mz_KH p l e R s m args below meth c Q pcs i ls D A cA xt ws c0 n0 r) : W p l e R s m args below meth c H locs cells slots Q (F0 m (mz_pc pcs i) ls rst) := by
  unfold mz_k30 at hk
  split at hk
  · simp only [Bool.and_eq_true, decide_eq_true_eq] at hk
    obtain ⟨⟨q1, rfl⟩, q3⟩ := hk
    unfold mz_h30 at h
    split at h
    · rename_i n dp rd sp rs rest
      match rst, hst with
      | v1 :: v2 :: v3 :: v4 :: v5 :: rst, ⟨g1, g2, g3, g4, g5, hst⟩ =>
      have g1 : v1 = .int n := g1
      have g2 : v2 = .int dp := g2
      have g4 : v4 = .int sp := g4
      subst g1; subst g2; subst g4
      split at h
      · rename_i cf cg hcf hcg
        obtain ⟨af, ef, rfl, gf, gfr, -⟩ := mz_gw hC.1 hP.2.2.2 hcf g5
        obtain ⟨ag, eg, rfl, gg, ggr, -⟩ := mz_gw hC.1 hP.2.2.2 hcg g3
        by_cases hq : cf.1 = 1 ∧ cg.1 = 1 ∧ ¬ n < 0 ∧ ¬ dp < 0 ∧ ¬ sp < 0 ∧ sp.toNatClampNeg + n.toNatClampNeg ≤ cf.2.length ∧ dp.toNatClampNeg + n.toNatClampNeg ≤ cg.2.length ∧ (rest.map fun v => v.category).sum ≤ 8
        · rw [if_pos hq] at h
          cases h
          obtain ⟨t1, t2, t3, t4, t5, t6, t7, t8⟩ := hq
          have ar : ∀ {cl : mzC} {ev : va_E}, cl.1 = 1 → mz_cr cA (mz_ads xt ws) cl ev → ∃ f, ev = .inl (cA 0, cl.2.length, .inl f) ∧ ∀ (j : Nat) (v : Value), cl.2[j]? = some v → v = .int (f j) := by
            intro cl ev h1 hr
            rcases ev with ⟨cl', n', f | f | f | f | f⟩ | ⟨ci, fs⟩
            · obtain ⟨-, rfl, rfl, g6⟩ := hr
              exact ⟨f, by rw [h1], g6⟩
            · have := hr.1; omega
            · exact hr.elim
            · exact hr.elim
            · have := hr.1; omega
            · have := hr.1; omega
          obtain ⟨f, rfl, hf⟩ := ar t1 gfr
          obtain ⟨g, rfl, hg⟩ := ar t2 ggr
          have h8 : (rst.map fun v => v.category).sum ≤ 8 := by rw [mz_FR.sum hst]; exact t8
          have h150 := mz_nfw
          refine va_copyi hx hb hsz.symm hown (hts _ (mz_wok_mem q1)) (hts _ mz_cpw.1) (hts _ mz_cpw.2.1) (hts _ mz_cpw.2.2) hC.2.1 hP.1 hP.2.1 hP.2.2.1 (rs - 4) (rd - 4) 0 0 (ty := .int) gf gg rfl rfl rfl t5 t4 t3 t6 t7 (fun _ _ => rfl) hRf (by omega) hd (fun H1 locs1 p1 p2 p3 => ?_)
          rw [← mz_nx_eq q3]
          refine kk H1 locs1 _ rst cells slots ⟨p1, p2, p3, mz_HR_set hP.2.2.2 gg ?_⟩ ⟨[], by rw [mz_ads_set gg]; simp⟩ (by rw [mz_ads_set gg]; exact hst) hcn hsn
          refine ⟨Or.inl rfl, by simp, by simp [mz_cpy], fun j v hv => ?_⟩
          obtain ⟨hj, rfl⟩ := mz_cpy_at hv
          unfold va_cpy
          by_cases hr : dp.toNatClampNeg ≤ j ∧ j < dp.toNatClampNeg + n.toNatClampNeg
          · rw [if_pos hr, if_pos hr]
            have hlt : sp.toNatClampNeg + (j - dp.toNatClampNeg) < cf.2.length := by omega
            rw [List.getD_eq_getElem?_getD, List.getElem?_eq_getElem hlt]
            exact hf _ _ (List.getElem?_eq_getElem hlt)
          · rw [if_neg hr, if_neg hr]
            rw [List.getD_eq_getElem?_getD, List.getElem?_eq_getElem hj]
            exact hg _ _ (List.getElem?_eq_getElem hj)
        · rw [if_neg hq] at h; cases h
      · cases h
    · cases h
  · cases hk
theorem mz_sim2 (hx : p.tables.exec = Jvm.exec) (hb : c.code = cc) (hown : s.vm.findClass y.cls = some m.cls) (hts : ∀ w ∈ mz_WS, w.before args s = true) (hnm : y.name = "<init>" → meth.name = "<init>") (hsz : ls.size = c.maxLocals) (hRf : 1 ≤ R.frames) (hRl : 200 ≤ R.locals) (hd : decode cc (mz_pc pcs i) = .ok (ins, len)) {ri : mzI} (hk : mz_okI y pcs w i len ri ins = true)
    (hC : mz_CT D A cA xt X s) (hP : mz_HP D A cA xt s.heap σ.1 ws H locs) (hst : mz_FR (mz_ads xt ws) st rst) (hcn : σ.2.1 = c0 + cells) (hsn : σ.2.2 = n0 + slots) (h : mz_heap X ri st σ = some r) (hRc : r.2.2.1 ≤ c0 + R.cells) (hRs : r.2.2.2 ≤ n0 + R.slots) (kk : mz_KH p l e R s m args below meth c Q pcs i ls D A cA xt ws c0 n0 r) : W p l e R s m args below meth c H locs cells slots Q (F0 m (mz_pc pcs i) ls rst) := by
  obtain ⟨op, aa, bb, k, sw⟩ := ri
  unfold mz_heap at h
  unfold mz_okI at hk
  dsimp only at h hk
  split at h
  · exact mz_h20s hx hb hown hts hd hk hC hP hst hcn hsn h kk
  · exact mz_h21s hx hb hown hts hnm hd hk hC hP hst hcn hsn h kk
  · exact mz_h22s hx hb hd hk hC hP hst hcn hsn h kk
  · exact mz_h23s hx hb hd hk hC hP hst hcn hsn h kk
  · exact mz_h24s hx hb hd hk hC hP hst hcn hsn h kk
  · exact mz_h25s hx hb hown hts hd hk hC hP hst hcn hsn h hRc hRs kk
  · exact mz_h26s hx hb hts hd hk hC hP hst hcn hsn h hRc hRs kk
  · exact mz_h27s hx hb hown hts hd hk hC hP hst hcn hsn h hRc hRs kk
  · exact mz_h28s hx hb hown hts hd hk hC hP hst hcn hsn h kk
  · exact mz_h29s hx hb hown hts hsz hRf hRl hd hk hP hst hcn hsn h kk
  · exact mz_h30s hx hb hown hts hsz hRf hRl hd hk hC hP hst hcn hsn h kk
  · cases h
end MZ6
