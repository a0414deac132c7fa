/-! THE SIMULATION: a run of M is a run of the JVM -/
theorem mz_lgsl : ∀ (vs : List Value), (lg_sl vs).length = (vs.map fun v => v.category).sum
  | [] => rfl
  | v :: vs => by
    have ih := mz_lgsl vs
    unfold lg_sl at ih ⊢
    rw [List.flatMap_cons, List.length_append, ih, List.map_cons, List.sum_cons]
    congr 1
    rcases lv_cat v with h | h
    · rw [h]; rfl
    · rw [h]; rfl
theorem mz_args_rel {ads : List Nat} : ∀ {as ras : List Value}, mz_FR ads as ras → ∀ k, mz_LR ads (lv_args k as) (lv_args k ras)
  | [], [], _, _ => trivial
  | v :: as, w :: ras, ⟨h1, h2⟩, k => by
    unfold lv_args
    refine ⟨⟨rfl, h1⟩, ?_⟩
    rw [h1.cat]
    exact mz_args_rel h2 _
/-- a frame's own facts -/
def mz_FX (s0 : State) (p : Program) (s : State) (m : MethodId) (args : Array Value) (meth : Method) (c : Code) (M : mzM) (t : mzT) : Prop :=
  p.tables.exec = Jvm.exec ∧ c.code = t.2.1 ∧ c.maxLocals = M.1 ∧ s.vm.findClass t.1.cls = some m.cls ∧ (∀ w ∈ mz_WS, w.before args s = true) ∧ (t.1.name = "<init>" → meth.name = "<init>") ∧ meth.locks = false ∧ meth.sig.returnType = t.2.2.1 ∧ ((t.2.2.2.2.2.2 = [] ∧ t.1.cls = "LoopsToUnitsLaw") ∨ c.exceptionTable.toList = tableOf t.2.2.2.2.2.2) ∧ s0.WarmedH s.vm ∧ s0.heap.size ≤ s.heap.size ∧ ∀ q, q < s0.heap.size → s.heap[q]? = s0.heap[q]?
/-- what is owed at a frame's last instruction -/
def mz_END (s0 : State) (D : va_G) (cA : Nat → ClassId) (xt : List Nat) (p : Program) (l : Launch) (e : Env) (R : Room) (s : State) (m : MethodId) (args : Array Value) (below : List Frame) (meth : Method) (c : Code) (Q : State → Prop) (M : mzM) (t : mzT) (adsE : List Nat) (c0 n0 : Nat) (out : Option (Option Value)) (σ' : mzS) : Prop :=
  ∀ (i' : Nat) (ri : mzI) (ls' : Array Slot) (st' rst' : List Value) (σ'' : mzS) (H' : Heap) (locs' : List Loc) (ws' : va_W) (cells' slots' : Nat), M.2.2.2[i']? = some ri → mz_fin ri st' σ'' = some (out, σ') → ls'.size = M.1 → mz_FR (mz_ads xt ws') st' rst' → mz_HP D (fun q => s0.heap.size ≤ q) cA xt s.heap σ''.1 ws' H' locs' → (∃ q, mz_ads xt ws' = adsE ++ q) → σ''.2.1 = c0 + cells' → σ''.2.2 = n0 + slots' → W p l e R s m args below meth c H' locs' cells' slots' Q (F0 m (mz_pc t.2.2.2.1 i') ls' rst')
/-- the simulation, for runs of at most n steps -/
def mz_GO (l : Launch) (s0 : State) (D : va_G) (cA : Nat → ClassId) (xt : List Nat) (X : List (List Value)) (n : Nat) : Prop :=
  ∀ (d j i : Nat) (lo : mzL) (st : List Value) (σ : mzS) (out : Option (Option Value)) (σ' : mzS) (M : mzM) (t : mzT), mz_run mzP X n d j i lo st σ = some (out, σ') → mzP[j]? = some M → mzQ[j]? = some t →
  ∀ (p : Program) (e : Env) (R : Room) (s : State) (m : MethodId) (args : Array Value) (below : List Frame) (meth : Method) (c : Code) (H : Heap) (locs : List Loc) (cells slots : Nat) (Q : State → Prop) (ws : va_W) (ls : Array Slot) (rlo : mzL) (rst : List Value) (c0 n0 : Nat) (adsE : List Nat), mz_FX s0 p s m args meth c M t → d + 10 ≤ R.frames → 200 + 40 * d ≤ R.locals → σ'.2.1 ≤ c0 + R.cells → σ'.2.2 ≤ n0 + R.slots →
    lv_has ls M.1 rlo → mz_LR (mz_ads xt ws) lo rlo → mz_FR (mz_ads xt ws) st rst → mz_HP D (fun q => s0.heap.size ≤ q) cA xt s.heap σ.1 ws H locs → (∃ q, mz_ads xt ws = adsE ++ q) → σ.2.1 = c0 + cells → σ.2.2 = n0 + slots → mz_END s0 D cA xt p l e R s m args below meth c Q M t adsE c0 n0 out σ' →
    W p l e R s m args below meth c H locs cells slots Q (F0 m (mz_pc t.2.2.2.1 i) ls rst)
def mz_wsy (M : mzM) (t : mzT) : List Cond := (if t.2.2.2.2.2.2 = [] then Cond.code t.1 t.2.1 M.1 t.2.2.1 else Cond.codeWith t.1 t.2.1 M.1 t.2.2.1 t.2.2.2.2.2.2) :: mz_WS
/-- what 'throw new NoSuchElementException(..)' owes: proved below -/
def mz_THR (l : Launch) (s0 : State) : Prop := ∀ (j : Nat) (M : mzM) (t : mzT) (i : Nat) (ri : mzI), mzP[j]? = some M → mzQ[j]? = some t → M.2.2.2[i]? = some ri → ri.1 = 43 → mz_okAt M t i = true →
  ∀ (p : Program) (e : Env) (R : Room) (s : State) (m : MethodId) (args : Array Value) (below : List Frame) (meth : Method) (c : Code) (H : Heap) (locs : List Loc) (cells slots mc ms : Nat) (Qc : Array Value → State → Outcome → State → Prop) (XC : String → State → State → Prop) (ls : Array Slot) (rst : List Value), mz_FX s0 p s m args meth c M t → 10 ≤ R.frames → 200 ≤ R.locals → cells + 1 ≤ R.cells → slots + 6 ≤ R.slots → cells + 1 ≤ mc → slots + 6 ≤ ms → ls.size = M.1 → (rst.map fun v => v.category).sum ≤ 8 → va_S (fun q => s0.heap.size ≤ q) s.heap H locs →
    (∀ t' : State, s.vm.Alike t'.vm → H.size ≤ t'.heap.size → (∀ q : Nat, q < H.size → t'.heap[q]? = H[q]?) → XC "java/util/NoSuchElementException" s t') →
    W p l e R s m args below meth c H locs cells slots (vx_MQ below Qc XC args s mc ms (fun q => s0.heap.size ≤ q)) (F0 m (mz_pc t.2.2.2.1 i) ls rst)
theorem mz_FoS {A : Nat → Prop} {s t : State} {H : Heap} {locs : List Loc} (h : va_S A s.heap H locs) (ht : t.heap = H) : va_F A s t := ⟨by rw [ht]; exact h.1, fun q h1 h2 => by rw [ht]; exact h.2.1 q h1 h2⟩
theorem mz_contract {l : Launch} {s0 : State} {D : va_G} {cA : Nat → ClassId} {xt : List Nat} {X : List (List Value)} {n : Nat} (hTHR : mz_THR l s0) (IH : mz_GO l s0 D cA xt X n) {d a : Nat} {σ s1 : mzS} {o : Option (Option Value)} {as ras : List Value} {ws : va_W} {M : mzM} {t : mzT}
    (hrun : mz_run mzP X n d a 0 (lv_args 0 as) [] σ = some (o, s1)) (hM : mzP[a]? = some M) (ht : mzQ[a]? = some t) (hY : mz_okY M t = true) (hAt : ∀ i, mz_okAt M t i = true) (hp0 : mz_pc t.2.2.2.1 0 = 0) (hav : mz_FR (mz_ads xt ws) as ras) (hfit : mz_sum as ≤ M.1) :
    vx_Met l t.1 (mz_wsy M t) (mz_rm d (s1.2.1 - σ.2.1) (s1.2.2 - σ.2.2)) (mz_Pc s0 D cA xt σ.1 ws ras) (mz_Qc s0 D cA xt s1.1 (mz_ads xt ws) o) (mz_XC s0 D cA xt s1.1 (mz_ads xt ws) o) (s1.2.1 - σ.2.1) (s1.2.2 - σ.2.2) (fun q => s0.heap.size ≤ q) := by
  obtain ⟨y, bytes, ret, pcs, wl, mws, hh⟩ := t
  have hmono := mz_mono hrun
  dsimp only at hmono hp0
  unfold mz_okY at hY
  simp only [Bool.and_eq_true] at hY
  obtain ⟨⟨⟨⟨hY1, hY2⟩, hY3⟩, hY4⟩, hY5⟩ := hY
  refine MetFree.of_bodySF (code := bytes) (maxLocals := M.1) (ret := ret) hY3 ?_ ?_
  · intro args s m h hn
    have h9 := atoms_spec (ws := mz_wsy M (y, bytes, ret, pcs, wl, mws, hh)) h _ List.mem_cons_self
    by_cases hhe : hh = []
    · rw [if_pos hhe] at h9
      obtain ⟨meth, c, h1, h2, h3, h4, h5, h6, -, -⟩ := Cond.code_spec hn h9
      exact ⟨meth, c, h1, h2, h3, h4, h5, h6⟩
    · rw [if_neg hhe] at h9
      obtain ⟨m9, meth, c, hn9, h1, h2, h3, h4, -, h5, h6, -⟩ := Cond.codeWith_spec h9
      cases hn.symm.trans hn9
      exact ⟨meth, c, h1, h2, h3, h4, h5, h6⟩
  · intro p e s m args below meth c s₁ B hml hP _
    obtain ⟨rfl, hW0, hz, hk, hPw, hDw, hHR⟩ := hP
    have hh0 : s₁.heap = s.heap := by rw [B.state]; rfl
    have hts0 := atoms_spec (ws := mz_wsy M (y, bytes, ret, pcs, wl, mws, hh)) B.pre
    have htab : c.exceptionTable.toList = tableOf hh := by
      have h9 := hts0 _ List.mem_cons_self
      by_cases hhe : hh = []
      · rw [if_pos hhe] at h9
        obtain ⟨meth9, c9, h1, h2, -, -, -, -, h7, -⟩ := Cond.code_spec B.named h9
        cases Option.some.inj (h1.symm.trans B.method)
        cases Option.some.inj (h2.symm.trans (Stand.of_body B).code)
        rw [Array.isEmpty_iff.mp h7, hhe]
        rfl
      · rw [if_neg hhe] at h9
        exact vx_table (x := y) B h9
    have hFX : mz_FX s0 p s m ras.toArray meth c M (y, bytes, ret, pcs, wl, mws, hh) :=
      ⟨B.exec, B.bytes, hml, findClass_of_methodNamed B.named, fun w hw => hts0 w (List.mem_cons_of_mem _ hw), fun hn => by rw [(name_of_methodNamed B.named B.method).1]; exact hn, B.notSynchronized, B.returns, Or.inr htab, hW0, hz, hk⟩
    have hlen : (lg_sl ras).length ≤ M.1 := by rw [mz_lgsl, mz_FR.sum hav]; exact hfit
    have hl := lv_entry ras (n := M.1) hlen
    have K : W p l e (mz_rm d (s1.2.1 - σ.2.1) (s1.2.2 - σ.2.2)) s m ras.toArray below meth c s.heap [] 0 0 (vx_MQ below (mz_Qc s0 D cA xt s1.1 (mz_ads xt ws) o) (mz_XC s0 D cA xt s1.1 (mz_ads xt ws) o) ras.toArray s (s1.2.1 - σ.2.1) (s1.2.2 - σ.2.2) (fun q => s0.heap.size ≤ q)) (entryFrame m ras.toArray M.1) := by
      rw [lg_entry_eq]
      generalize (lg_sl ras ++ List.replicate (M.1 - (lg_sl ras).length) Slot.unset).toArray = ls at hl ⊢
      have hgo := IH d a 0 (lv_args 0 as) [] σ o s1 M (y, bytes, ret, pcs, wl, mws, hh) hrun hM ht p e (mz_rm d (s1.2.1 - σ.2.1) (s1.2.2 - σ.2.2)) s m ras.toArray below meth c s.heap [] 0 0 (vx_MQ below (mz_Qc s0 D cA xt s1.1 (mz_ads xt ws) o) (mz_XC s0 D cA xt s1.1 (mz_ads xt ws) o) ras.toArray s (s1.2.1 - σ.2.1) (s1.2.2 - σ.2.2) (fun q => s0.heap.size ≤ q)) ws ls (lv_args 0 ras) [] σ.2.1 σ.2.2 (mz_ads xt ws) hFX (Nat.le_refl _) (Nat.le_refl _) (by show s1.2.1 ≤ σ.2.1 + (s1.2.1 - σ.2.1); omega) (by show s1.2.2 ≤ σ.2.2 + (s1.2.2 - σ.2.2); omega) hl (mz_args_rel hav 0) trivial ⟨hPw, hDw, va_S.rf, hHR⟩ ⟨[], by simp⟩ rfl rfl ?_
      · dsimp only at hgo
        rw [hp0] at hgo
        exact hgo
      · intro i' ri ls' st' rst' σ'' H' locs' ws' cells' slots' hri hfin hls hst' hP' hext hc' hn'
        have hok := hAt i'
        obtain ⟨hx, hb, -, hown, hts, -, hlk, hret, -, -, -, -⟩ := id hFX
        dsimp only at hb hret
        unfold mz_okAt at hok
        dsimp only at hok ⊢
        rw [hri] at hok
        dsimp only at hok
        split at hok
        · rename_i ins len hdec
          unfold mz_fin at hfin
          by_cases h41 : ri.1 = 41
          · rw [if_neg (by omega), if_pos h41] at hok
            rw [if_pos h41] at hfin
            simp only [decide_eq_true_eq] at hok
            obtain ⟨rfl, rfl, hrt⟩ := hok
            split at hfin
            · rename_i hst0
              cases hfin
              subst hst0
              cases rst' with
              | cons _ _ => exact hst'.elim
              | nil =>
              have e1 : s1.2.1 - σ.2.1 = cells' := by omega
              have e2 : s1.2.2 - σ.2.2 = slots' := by omega
              rw [e1, e2]
              exact vx_ret (W.vret hx hb (hret.trans hrt) (fun t' h' _ => ⟨⟨none, rfl, ws', rfl, by rw [h']; exact ⟨hP'.1, hP'.2.1, hP'.2.2.2, hext⟩⟩, mz_FoS hP'.2.2.1 h'⟩) hP'.2.2.1.2.2 hdec hlk)
            · cases hfin
          · rw [if_neg h41] at hfin
            by_cases h42 : ri.1 = 42
            · rw [if_neg (by omega), if_neg h41, if_pos h42] at hok
              rw [if_pos h42] at hfin
              unfold mz_k42 at hok
              rw [Bool.and_eq_true] at hok
              obtain ⟨hl1, hok⟩ := hok
              have hl1 : len = 1 := by simpa using hl1
              subst hl1
              split at hfin
              · rename_i v
                by_cases hty : mz_ty v = ri.2.1 ∧ ri.2.1 < 3 ∧ (ri.2.2.1 = 0 ∨ v = .int 0 ∨ v = .int 1)
                · rw [if_pos hty] at hfin
                  cases hfin
                  match rst', hst' with
                  | [w], ⟨hvw, _⟩ =>
                  have e1 : s1.2.1 - σ.2.1 = cells' := by omega
                  have e2 : s1.2.2 - σ.2.2 = slots' := by omega
                  rw [e1, e2]
                  have hq : ∀ w', w = w' → ∀ t' : State, t'.heap = H' → s.WarmedH t'.vm → mz_Qc s0 D cA xt s1.1 (mz_ads xt ws) (some (some v)) ras.toArray s (.returned (some w')) t' := by
                    rintro w' rfl t' h' -
                    exact ⟨⟨some w, rfl, ws', ⟨w, rfl, hvw⟩, by rw [h']; exact ⟨hP'.1, hP'.2.1, hP'.2.2.2, hext⟩⟩, mz_FoS hP'.2.2.1 h'⟩
                  split at hok
                  · simp only [Bool.and_eq_true, Bool.or_eq_true, decide_eq_true_eq] at hok
                    obtain ⟨ha0, hok⟩ := hok
                    obtain ⟨z, rfl, rfl⟩ := mz_ty0 hvw (hty.1.trans ha0)
                    rcases hok with hok | ⟨hok, hb1⟩
                    · exact vx_ret (W.iret hx hb (hret.trans hok) (hq _ rfl) hP'.2.2.1.2.2 hdec hlk)
                    · refine vx_ret (W.zret hx hb (hret.trans hok) ?_ (hq _ rfl) hP'.2.2.1.2.2 hdec hlk)
                      rcases hty.2.2 with h0 | h0 | h0
                      · omega
                      · cases h0; rfl
                      · cases h0; rfl
                  · simp only [Bool.and_eq_true, decide_eq_true_eq] at hok
                    obtain ⟨ha0, hok⟩ := hok
                    obtain ⟨z, rfl, rfl⟩ := mz_ty2 hvw (hty.1.trans ha0)
                    exact vx_ret (W.lret hx hb (hret.trans hok) (hq _ rfl) hP'.2.2.1.2.2 hdec hlk)
                  · cases hok
                · rw [if_neg hty] at hfin; cases hfin
              · cases hfin
            · rw [if_neg h42] at hfin
              by_cases h43 : ri.1 = 43
              · rw [if_pos h43] at hfin
                by_cases hs8 : mz_sum st' ≤ 8
                · rw [if_pos hs8] at hfin
                  cases hfin
                  have hsr : (rst'.map fun v => v.category).sum ≤ 8 := by rw [mz_FR.sum hst']; exact hs8
                  dsimp only at hmono
                  refine hTHR a M (y, bytes, ret, pcs, wl, mws, hh) i' ri hM ht hri h43 (hAt i') p e _ s m ras.toArray below meth c H' locs' cells' slots' _ _ _ _ ls' rst' hFX (by show 10 ≤ d + 10; omega) (by show 200 ≤ 200 + 40 * d; omega) (by show cells' + 1 ≤ σ''.2.1 + 1 - σ.2.1; omega) (by show slots' + 6 ≤ σ''.2.2 + 6 - σ.2.2; omega) (by show cells' + 1 ≤ σ''.2.1 + 1 - σ.2.1; omega) (by show slots' + 6 ≤ σ''.2.2 + 6 - σ.2.2; omega) hls hsr hP'.2.2.1 ?_
                  intro t' hvm hz' hk'
                  refine ⟨rfl, rfl, ⟨ws', hP'.1.kept (fun k x hx => hk' x.1 ((hP'.1 k x hx).lt)), hP'.2.1, hP'.2.2.2, hext⟩, ?_⟩
                  exact ⟨Nat.le_trans hP'.2.2.1.1 hz', fun q h1 h2 => by rw [hk' q (Nat.lt_of_lt_of_le h1 hP'.2.2.1.1)]; exact hP'.2.2.1.2.1 q h1 h2⟩
                · rw [if_neg hs8] at hfin; cases hfin
              · rw [if_neg h43] at hfin; cases hfin
        · cases hok
    obtain ⟨t2, a1, o2, b1, b2, b3⟩ := K s₁ hh0 (Stand.of_body B)
    exact ⟨t2, o2, a1, b1, b2, b3⟩
