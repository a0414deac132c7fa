/-! calls: what is the same for every method -/
theorem mz_heap_mono {X : List (List Value)} {ri : mzI} {st : List Value} {σ : mzS} {r : List Value × mzS} (h : mz_heap X ri st σ = some r) : σ.2.1 ≤ r.2.2.1 ∧ σ.2.2 ≤ r.2.2.2 := by
  unfold mz_heap at h
  split at h
  · unfold mz_h20 at h
    split at h
    · split at h
      · split at h
        · split at h
          · cases h; exact ⟨Nat.le_refl _, Nat.le_refl _⟩
          · cases h
        · cases h
      · cases h
    · cases h
  · unfold mz_h21 at h
    split at h
    · split at h
      · split at h
        · cases h; exact ⟨Nat.le_refl _, Nat.le_refl _⟩
        · cases h
      · cases h
    · cases h
  · unfold mz_h22 at h
    split at h
    · split at h
      · split at h
        · split at h
          · split at h
            · cases h; exact ⟨Nat.le_refl _, Nat.le_refl _⟩
            · cases h
          · cases h
        · cases h
      · split at h
        · split at h
          · split at h
            · cases h; exact ⟨Nat.le_refl _, Nat.le_refl _⟩
            · cases h
          · cases h
        · cases h
    · cases h
  · unfold mz_h23 at h
    split at h
    · split at h
      · split at h
        · split at h
          · cases h; exact ⟨Nat.le_refl _, Nat.le_refl _⟩
          · cases h
        · cases h
      · cases h
    · cases h
  · unfold mz_h24 at h
    split at h
    · split at h
      · split at h
        · cases h; exact ⟨Nat.le_refl _, Nat.le_refl _⟩
        · cases h
      · split at h
        · split at h
          · cases h; exact ⟨Nat.le_refl _, Nat.le_refl _⟩
          · cases h
        · cases h
    · cases h
  · unfold mz_h25 at h
    split at h
    · cases h; exact ⟨Nat.le_add_right _ _, Nat.le_add_right _ _⟩
    · cases h
  · unfold mz_h26 at h
    split at h
    · split at h
      · cases h
      · cases h; exact ⟨Nat.le_add_right _ _, Nat.le_add_right _ _⟩
    · cases h
  · unfold mz_h27 at h
    split at h
    · split at h
      · cases h
      · cases h; exact ⟨Nat.le_add_right _ _, Nat.le_add_right _ _⟩
    · cases h
  · split at h
    · cases h; exact ⟨Nat.le_refl _, Nat.le_refl _⟩
    · cases h
  · unfold mz_h29 at h
    split at h
    · split at h
      · cases h; exact ⟨Nat.le_refl _, Nat.le_refl _⟩
      · cases h
    · cases h
  · unfold mz_h30 at h
    split at h
    · split at h
      · split at h
        · cases h; exact ⟨Nat.le_refl _, Nat.le_refl _⟩
        · cases h
      · cases h
    · cases h
  · cases h
/-- the last instruction of a frame -/
def mz_fin (ri : mzI) (st : List Value) (s : mzS) : Option (Option (Option Value) × mzS) :=
  if ri.1 = 41 then (if st = [] then some (some none, s) else none)
  else if ri.1 = 42 then match st with
    | [v] => if mz_ty v = ri.2.1 ∧ ri.2.1 < 3 ∧ (ri.2.2.1 = 0 ∨ v = .int 0 ∨ v = .int 1) then some (some (some v), s) else none
    | _ => none
  else if ri.1 = 43 then (if mz_sum st ≤ 8 then some (none, (s.1, s.2.1 + 1, s.2.2 + 6)) else none)
  else none
/-- how a caller goes on -/
def mz_res (M : mzM) (i : Nat) (rest : List Value) (o : Option (Option Value)) : Option (Nat × List Value) := match o with
  | some none => some (i + 1, rest)
  | some (some v) => some (i + 1, v :: rest)
  | none => if M.2.2.1.1 ≤ i ∧ i < M.2.2.1.2.1 then some (M.2.2.1.2.2, [.retAddr 0]) else none
/-- one step of the machine, told apart -/
theorem mz_run_cases {P : List mzM} {X : List (List Value)} {n d j i : Nat} {lo : mzL} {st : List Value} {s : mzS} {r : Option (Option Value) × mzS} (h : mz_run P X (n + 1) d j i lo st s = some r) :
    ∃ M ri, P[j]? = some M ∧ M.2.2.2[i]? = some ri ∧
      ((ri.1 = 40 ∧ ∃ d' as rest M' o s' q, d = d' + 1 ∧ mz_take ri.2.2.1 st = some (as, rest) ∧ P[ri.2.1]? = some M' ∧ mz_sum rest ≤ 8 ∧ mz_sum as ≤ M'.1 ∧ mz_recv M'.2.1 as s = true ∧ mz_run P X n d' ri.2.1 0 (lv_args 0 as) [] s = some (o, s') ∧ mz_res M i rest o = some q ∧ mz_run P X n d j q.1 lo q.2 s' = some r) ∨
      (mz_fin ri st s = some r) ∨
      ((ri.1 < 20 ∨ ri.1 = 39) ∧ ∃ q, mz_one ri i M.1 lo st = some q ∧ mz_run P X n d j q.1 q.2.1 q.2.2 s = some r) ∨
      (ri.1 ≠ 40 ∧ ri.1 ≠ 41 ∧ ri.1 ≠ 42 ∧ ri.1 ≠ 43 ∧ ∃ q, mz_heap X ri st s = some q ∧ mz_run P X n d j (i + 1) lo q.1 q.2 = some r)) := by
  unfold mz_run at h
  split at h
  · cases h
  · rename_i M hM
    split at h
    · cases h
    · rename_i ri hri
      refine ⟨M, ri, hM, hri, ?_⟩
      by_cases h40 : ri.1 = 40
      · rw [if_pos h40] at h
        refine Or.inl ⟨h40, ?_⟩
        split at h
        · rename_i d' as rest M' htk hM'
          by_cases hc : mz_sum rest ≤ 8 ∧ mz_sum as ≤ M'.1 ∧ mz_recv M'.2.1 as s = true
          · rw [if_pos hc] at h
            split at h
            · cases h
            · rename_i s' hrun
              exact ⟨d', as, rest, M', some none, s', (i + 1, rest), rfl, htk, hM', hc.1, hc.2.1, hc.2.2, hrun, rfl, h⟩
            · rename_i v s' hrun
              exact ⟨d', as, rest, M', some (some v), s', (i + 1, v :: rest), rfl, htk, hM', hc.1, hc.2.1, hc.2.2, hrun, rfl, h⟩
            · rename_i s' hrun
              by_cases hh : M.2.2.1.1 ≤ i ∧ i < M.2.2.1.2.1
              · rw [if_pos hh] at h
                exact ⟨d', as, rest, M', none, s', (M.2.2.1.2.2, [.retAddr 0]), rfl, htk, hM', hc.1, hc.2.1, hc.2.2, hrun, by simp only [mz_res]; rw [if_pos hh], h⟩
              · rw [if_neg hh] at h; cases h
          · rw [if_neg hc] at h; cases h
        · cases h
      · rw [if_neg h40] at h
        refine Or.inr ?_
        by_cases h41 : ri.1 = 41
        · rw [if_pos h41] at h
          exact Or.inl (by unfold mz_fin; rw [if_pos h41]; exact h)
        · rw [if_neg h41] at h
          by_cases h42 : ri.1 = 42
          · rw [if_pos h42] at h
            exact Or.inl (by unfold mz_fin; rw [if_neg h41, if_pos h42]; exact h)
          · rw [if_neg h42] at h
            by_cases h43 : ri.1 = 43
            · rw [if_pos h43] at h
              exact Or.inl (by unfold mz_fin; rw [if_neg h41, if_neg h42, if_pos h43]; exact h)
            · rw [if_neg h43] at h
              refine Or.inr ?_
              by_cases h20 : ri.1 < 20 ∨ ri.1 = 39
              · rw [if_pos h20] at h
                split at h
                · rename_i q hq
                  exact Or.inl ⟨h20, q, hq, h⟩
                · cases h
              · rw [if_neg h20] at h
                split at h
                · rename_i q hq
                  exact Or.inr ⟨h40, h41, h42, h43, q, hq, h⟩
                · cases h
theorem mz_fin_mono {ri : mzI} {st : List Value} {s : mzS} {r : Option (Option Value) × mzS} (h : mz_fin ri st s = some r) : s.2.1 ≤ r.2.2.1 ∧ s.2.2 ≤ r.2.2.2 := by
  unfold mz_fin at h
  split at h
  · split at h
    · cases h; exact ⟨Nat.le_refl _, Nat.le_refl _⟩
    · cases h
  · split at h
    · split at h
      · split at h
        · cases h; exact ⟨Nat.le_refl _, Nat.le_refl _⟩
        · cases h
      · cases h
    · split at h
      · split at h
        · cases h; exact ⟨Nat.le_add_right _ _, Nat.le_add_right _ _⟩
        · cases h
      · cases h
theorem mz_mono {P : List mzM} {X : List (List Value)} : ∀ {n d j i : Nat} {lo : mzL} {st : List Value} {s : mzS} {r : Option (Option Value) × mzS}, mz_run P X n d j i lo st s = some r → s.2.1 ≤ r.2.2.1 ∧ s.2.2 ≤ r.2.2.2
  | 0, _, _, _, _, _, _, _, h => by simp [mz_run] at h
  | n + 1, d, j, i, lo, st, s, r, h => by
    obtain ⟨M, ri, -, -, h⟩ := mz_run_cases h
    rcases h with ⟨-, d', as, rest, M', o, s', q, -, -, -, -, -, -, h1, -, h2⟩ | h | ⟨-, q, -, h⟩ | ⟨-, -, -, -, q, h1, h2⟩
    · have a := mz_mono h1
      have b := mz_mono h2
      dsimp only at a
      omega
    · exact mz_fin_mono h
    · exact mz_mono h
    · have a := mz_heap_mono h1
      have b := mz_mono h2
      omega
/-- what the start gives, seen at a later state -/
theorem mz_CT_moved {D : va_G} {cA : Nat → ClassId} {xt : List Nat} {X : List (List Value)} {s0 s : State} (h : mz_CT D (fun q => s0.heap.size ≤ q) cA xt X s0) (hW : s0.WarmedH s.vm) (hz : s0.heap.size ≤ s.heap.size) (hk : ∀ q, q < s0.heap.size → s.heap[q]? = s0.heap[q]?) : mz_CT D (fun q => s0.heap.size ≤ q) cA xt X s := by
  obtain ⟨h1, h2, ⟨h3, h4⟩, h5, h6⟩ := h
  refine ⟨h1, va_K.moved hW.alike h2, ⟨fun k fs hfs => ?_, fun k k1 k2 => ?_⟩, fun q hq => Nat.le_trans hz hq, va_AO.moved hW.alike h6⟩
  · obtain ⟨t, t1, t2, t3⟩ := h3 k fs hfs
    exact ⟨t, t1, va_T.moved hW.alike (t2.kept (fun a ha _ => hk a ha)), t3⟩
  · obtain ⟨t, t1, t2⟩ := h4 k k1 k2
    exact ⟨t, t1, va_Z.moved hW.alike (t2.kept (fun a ha _ => hk a ha))⟩
/-- what a method asks for: arguments, heap -/
def mz_Pc (s0 : State) (D : va_G) (cA : Nat → ClassId) (xt : List Nat) (h : List mzC) (ws : va_W) (av : List Value) : Array Value → State → Prop :=
  va_Pc av (fun U => s0.WarmedH U.vm ∧ s0.heap.size ≤ U.heap.size ∧ (∀ q, q < s0.heap.size → U.heap[q]? = s0.heap[q]?) ∧ va_P D vwCl ws U.heap ∧ va_D (fun q => s0.heap.size ≤ q) ws ∧ mz_HR cA xt h ws)
theorem mz_blind (s0 : State) (D : va_G) (cA : Nat → ClassId) (xt : List Nat) (h : List mzC) (ws : va_W) (av : List Value) : FrameBlind (mz_Pc s0 D cA xt h ws av) := fun _ _ _ _ hp => hp
def mz_ov (ads : List Nat) (o : Option (Option Value)) (v : Option Value) : Prop := match o with
  | some none => v = none
  | some (some x) => ∃ w, v = some w ∧ mz_rel ads x w
  | none => False
/-- the world behind a method -/
def mz_B (s0 : State) (D : va_G) (cA : Nat → ClassId) (xt : List Nat) (h' : List mzC) (ads : List Nat) (ws' : va_W) (H : Heap) : Prop :=
  va_P D vwCl ws' H ∧ va_D (fun q => s0.heap.size ≤ q) ws' ∧ mz_HR cA xt h' ws' ∧ ∃ q, mz_ads xt ws' = ads ++ q
def mz_Qc (s0 : State) (D : va_G) (cA : Nat → ClassId) (xt : List Nat) (h' : List mzC) (ads : List Nat) (o : Option (Option Value)) : Array Value → State → Outcome → State → Prop := fun _ st oc t =>
  (∃ v, oc = .returned v ∧ ∃ ws', mz_ov (mz_ads xt ws') o v ∧ mz_B s0 D cA xt h' ads ws' t.heap) ∧ va_F (fun q => s0.heap.size ≤ q) st t
def mz_XC (s0 : State) (D : va_G) (cA : Nat → ClassId) (xt : List Nat) (h' : List mzC) (ads : List Nat) (o : Option (Option Value)) : String → State → State → Prop := fun E st t =>
  o = none ∧ E = "java/util/NoSuchElementException" ∧ (∃ ws', mz_B s0 D cA xt h' ads ws' t.heap) ∧ va_F (fun q => s0.heap.size ≤ q) st t
abbrev mz_rm (d mc ms : Nat) : Room := { frames := d + 10, cells := mc, slots := ms, locals := 200 + 40 * d }
theorem mz_met {l : Launch} {y : MethodName} {ws : List Cond} {rm : Room} {Pc : Array Value → State → Prop} {Qc : Array Value → State → Outcome → State → Prop} {XC : String → State → State → Prop} {mc ms : Nat} {free : Addr → Prop} (h : vx_Met l y ws rm Pc Qc XC mc ms free) (hno : ∀ E st t, ¬ XC E st t) : Met l y ws rm Pc Qc mc ms free := by
  intro p e ha hc hk s m args below hf happ hP hK
  obtain ⟨n, o, h1, h2, h3, hq⟩ := h p e ha hc hk s m args below hf happ hP hK
  refine ⟨n, o, h1, h2, h3, ?_⟩
  rcases hq with hq | ⟨q, -, E, ce, L, hx, -⟩
  · exact hq
  · exact absurd hx (hno _ _ _)
section MZG
variable {p : Program} {l : Launch} {e : Env} {R : Room} {s : State} {m : MethodId} {args : Array Value} {below : List Frame} {meth : Method} {c : Code} {H : Heap} {locs : List Loc} {cells slots : Nat} {Q : State → Prop}
variable {pc mc ms : Nat} {ls : Array Slot} {rest st0 : List Value} {A : Nat → Prop} {H0 : Heap}
theorem mz_callg {Bq : Option Value → State → Prop} (hr : va_Run p l e R s m args below meth c H locs cells slots mc ms (F0 m pc ls st0) rest (fun st oc t => (∃ v, oc = .returned v ∧ Bq v t) ∧ va_F A st t) A) (hS : va_S A H0 H locs)
    (kk : ∀ (v : Option Value) (t : State) (H1 : Heap) (locs1 : List Loc), t.heap = H1 → Bq v t → va_S A H0 H1 locs1 → W p l e R s m args below meth c H1 locs1 (cells + mc) (slots + ms) Q (F0 m (pc + 3) ls (v.toList ++ rest))) : W p l e R s m args below meth c H locs cells slots Q (F0 m pc ls st0) := by
  intro T hT X
  obtain ⟨v, st₀, t, T', L, h0, X', hL, e1, e2, ⟨⟨v', hv, hb⟩, hz, hk⟩, st⟩ := hr T hT X
  cases hv
  rw [h0] at hz hk
  obtain ⟨t2, a1, b1⟩ := kk v t T'.heap (locs ++ L) e1.symm hb
    ⟨Nat.le_trans hS.1 (by rw [e1]; exact hz), fun q h1 h2 => by rw [e1, hk q (Nat.lt_of_lt_of_le h1 hS.1) h2]; exact hS.2.1 q h1 h2, fun q hq => by
      rcases List.mem_append.mp hq with h | h
      · exact hS.2.2 q h
      · exact hL q h⟩ T' rfl X'
  exact ⟨t2, st t2 a1, b1⟩
/-- a callee that throws, and the caller's table takes it -/
theorem mz_callx {Qa : State → Outcome → State → Prop} {XC : String → State → State → Prop} {Bx : State → Prop} {E0 : String} (hr : vx_Run p l e R s m args below meth c H locs cells slots mc ms (F0 m pc ls st0) rest Qa XC A) (hno : ∀ st v t, ¬ Qa st (.returned v) t) (hXC : ∀ E st t, XC E st t → E = E0 ∧ Bx t ∧ va_F A st t) (hS : va_S A H0 H locs)
    (kk : ∀ (q : Addr) (ce : Cell) (t : State) (H1 : Heap) (locs1 : List Loc), t.heap = H1 → Bx t → va_S A H0 H1 locs1 → H1[q]? = some ce → ce.vm = .none → s.vm.findClass E0 = some ce.cls → vx_W p l e R s m args below meth c H1 locs1 (cells + mc) (slots + ms) Q (F0 m pc ls rest) q) : W p l e R s m args below meth c H locs cells slots Q (F0 m pc ls st0) := by
  intro T hT X
  rcases hr T hT X with ⟨v, st₀, t, T', L, h0, X', hL, e1, e2, hq, st⟩ | ⟨q, st₀, t, T', L, E, ce, h0, X', hL, e1, e2, hxc, hce, hcv, hcl, st⟩
  · exact absurd hq (hno _ _ _)
  · obtain ⟨rfl, hb, hz, hk⟩ := hXC _ _ _ hxc
    rw [h0] at hz hk
    obtain ⟨t2, a1, b1⟩ := kk q ce t T'.heap (locs ++ L) e1.symm hb
      ⟨Nat.le_trans hS.1 (by rw [e1]; exact hz), fun q h1 h2 => by rw [e1, hk q (Nat.lt_of_lt_of_le h1 hS.1) h2]; exact hS.2.1 q h1 h2, fun q hq => by
        rcases List.mem_append.mp hq with h | h
        · exact hS.2.2 q h
        · exact hL q h⟩ (by rw [e1]; exact hce) hcv hcl T' rfl X'
    exact ⟨t2, st.trans a1, b1⟩
end MZG
