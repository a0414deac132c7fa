/-! THE LAW: a run of M from its entry that answers 1 gives the claim's walk -/
theorem mz_known {s : State} {args : Array Value} (hgw : ∀ w ∈ mz_WS, w.before args s = true) : ∃ D : va_G, ∀ (c : Nat) (q : vw_C), vwCl[c]? = some q → u_Kn s q.1 q.2.1 q.2.2 (D.1 c) (D.2 c) := by
  have H : ∀ k : Nat, ∃ z : ClassId × (Nat → Nat), ∀ q : vw_C, vwCl[k]? = some q → u_Kn s q.1 q.2.1 q.2.2 z.1 z.2 := by
    intro k
    cases hv : vwCl[k]? with
    | none => exact ⟨((0 : Nat), fun _ => 0), fun q hq => by cases hq⟩
    | some q =>
      obtain ⟨C, T, N⟩ := q
      obtain ⟨cC, iS, h⟩ := u_known (C := C) (T := T) (N := N) (n := N) hgw (mz_cl k C T N hv) (hgw _ (mz_inst k C T N hv).1)
      exact ⟨(cC, iS), fun q hq => by cases hq; exact h⟩
  obtain ⟨f, hf⟩ := Classical.axiomOfChoice H
  exact ⟨(fun k => (f k).1, fun k => (f k).2), fun c q hq => hf c q hq⟩
theorem mz_arr {s : State} {args : Array Value} {ty : FieldType} (h : (Cond.arrayClass ty).before args s = true) (hty : ty = .int ∨ ty = .long ∨ ty = .byte ∨ ty = .boolean) : ∃ cA : ClassId, ArrOfT s cA ty ∧ va_RA s cA ty := by
  obtain ⟨c, k, comp, h1, h2, h3⟩ := Cond.arrayClass_spec h
  refine ⟨c, fun n z => ⟨fun k h => (by cases h), k, h2, comp, h3⟩, ?_⟩
  rcases hty with rfl | rfl | rfl | rfl <;> exact h1
theorem mz_ov_in : Cond.arrayOver (.object "LoopsToUnits$Held") ∈ lw_tbl := by decide +kernel
theorem mz_arrH {s : State} {args : Array Value} (h : (Cond.arrayOver (.object "LoopsToUnits$Held")).before args s = true) : ∃ cA : ClassId, ArrOfT s cA (.object "LoopsToUnits$Held") ∧ va_RA s cA (.object "LoopsToUnits$Held") := by
  obtain ⟨comp, c, k, h1, -, h3, h4, h5⟩ := Cond.arrayOver_spec h
  exact ⟨c, fun n z => ⟨fun k h => (by cases h), k, h3, comp, h4⟩, k, comp, h3, h4, h1, h5⟩
theorem mz_str {s : State} {b : Nat} (hts : ∀ w ∈ lw_tbl, w.before #[Value.ref b] s = true) (hgv : (Jvm.Cond.and given_1 narrow_1).before #[Value.ref b] s = true) : ∀ q ∈ mz_strs, ∃ sa, vk_R "LoopsToUnits" q.1 q.2 sa s := by
  have hs := flat_of_before _ hgv
  have one : ∀ (k : Nat) (tx : String), (Cond.stringRef "LoopsToUnits" k tx).before #[Value.ref b] s = true → (Cond.exactly (.string "LoopsToUnits" k) "java/lang/String").before #[Value.ref b] s = true → ∃ sa, vk_R "LoopsToUnits" k tx sa s := by
    intro k tx h1 h2
    obtain ⟨a, c, cell, kk, h3, -⟩ := Cond.exactly_spec h2
    exact ⟨a, vk_R.of h1 h3⟩
  intro q hq
  simp only [mz_strs, List.mem_cons, List.not_mem_nil, or_false] at hq
  rcases hq with rfl | rfl | rfl | rfl
  · exact one _ _ (hts _ (by decide +kernel)) (hs _ (by decide +kernel))
  · exact one _ _ (hts _ (by decide +kernel)) (hs _ (by decide +kernel))
  · exact one _ _ (hts _ (by decide +kernel)) (hs _ (by decide +kernel))
  · exact one _ _ (hts _ (by decide +kernel)) (hs _ (by decide +kernel))
theorem mz_unr {s : State} {b : Nat} {A : Nat → Prop} (hts : ∀ w ∈ lw_tbl, w.before #[Value.ref b] s = true) (hgv : (Jvm.Cond.and given_1 narrow_1).before #[Value.ref b] s = true) (hA : ∀ a : Nat, a < s.heap.size → ¬ A a) : vx_Zq Bundle.tN "UNASSIGNED_STACK" Bundle.steD A s s.heap ∧ vx_Zq Bundle.tN "SUPPRESSED_SENTINEL" Bundle.listD A s s.heap := by
  have hs := flat_of_before _ hgv
  exact ⟨vx_Zqof (hts (.laysStatic Bundle.tN "UNASSIGNED_STACK" Bundle.steD) (by decide +kernel)) (hts (.initialized Bundle.tN) (by decide +kernel)) (hs (.isRef (.static Bundle.tN "UNASSIGNED_STACK" Bundle.steD)) (by decide +kernel)) hA,
    vx_Zqof (hts (.laysStatic Bundle.tN "SUPPRESSED_SENTINEL" Bundle.listD) (by decide +kernel)) (hts (.initialized Bundle.tN) (by decide +kernel)) (hs (.isRef (.static Bundle.tN "SUPPRESSED_SENTINEL" Bundle.listD)) (by decide +kernel)) hA⟩
theorem mz_P0 : mzP[0]? = some (8, 0, (0, 0, 0), mzc_0) := rfl
theorem mz_Q0 : mzQ[0]? = some mzt_0 := rfl
theorem mz_flags {l : Launch} (h : l.flags = flags0) : l.stackTraces = false := by
  unfold Launch.stackTraces
  rw [h]
  decide +kernel
/-- what is asked of M -/
def mz_Good (L : Nat) (xs : Nat → Int32) : Prop := ∃ n d σ', mz_run mzP (mz_X L xs) n d 0 0 [(0, .ref 0)] [] ([], 0, 0) = some (some (some (.int 1)), σ') ∧ d ≤ 2000 ∧ σ'.2.1 ≤ 601024 ∧ σ'.2.2 ≤ 7293034
set_option maxHeartbeats 4000000 in
theorem mz_whole {p : Program} {e : Env} {s : State} {m : MethodId} {below : List Frame} {meth : Method} {c : Code} (l : Launch) (hflags : l.flags = flags0) {b L : Nat} {xs : Nat → Int32} (hG : mz_Good L xs) (C0 : lw_At p s m meth c b L xs) : W p l e room_1 s m #[Value.ref b] below meth c s.heap [] 0 0 (lw_Z below #[Value.ref b] s) (entryFrame m ([Value.ref b] : List Value).toArray 8) := by
  obtain ⟨n, d, σ', hrun, hd, hc1, hc2⟩ := hG
  obtain ⟨hx, hb, hr, hml, hown, hts, hX, hbl, hlocks, hgv⟩ := id C0
  have hgw : ∀ w ∈ mz_WS, w.before #[Value.ref b] s = true := fun w hw => hts w (List.mem_filter.mp hw).1
  have hA : ∀ a : Nat, a < s.heap.size → ¬ (fun q => s.heap.size ≤ q) a := fun a ha h => by
    have h : s.heap.size ≤ a := h
    omega
  obtain ⟨D, hD⟩ := mz_known hgw
  obtain ⟨cI, hI1, hI2⟩ := mz_arr (hgw _ mz_ac_int) (Or.inl rfl)
  obtain ⟨cL, hL1, hL2⟩ := mz_arr (hgw _ mz_ac_long) (Or.inr (Or.inl rfl))
  obtain ⟨cB, hB1, hB2⟩ := mz_arr (hgw _ mz_ac_byte) (Or.inr (Or.inr (Or.inl rfl)))
  obtain ⟨cZ, hZ1, hZ2⟩ := mz_arr (hgw _ mz_ac_boolean) (Or.inr (Or.inr (Or.inr rfl)))
  obtain ⟨cH, hH1, hH2⟩ := mz_arrH (hts _ mz_ov_in)
  obtain ⟨t1, T1, Z1⟩ := mz_st_FIRST hts hgv hA
  obtain ⟨t2, T2, Z2⟩ := mz_st_LOWEST hts hgv hA
  obtain ⟨t3, T3, Z3⟩ := mz_st_HIGHEST hts hgv hA
  obtain ⟨scr, hs1, hs2, hs3, hs4, hs5⟩ := hX
  have hCT : mz_CT D (fun q => s.heap.size ≤ q) (fun k => match k with | 0 => cI | 1 => cL | 2 => cB | 3 => cZ | _ => cH) [b, t1, t2, t3] (mz_X L xs) s := by
    refine ⟨rfl, ⟨hD, ?_⟩, ⟨?_, ?_⟩, fun q hq => hq, va_AO.of (hts _ mz_ov_in)⟩
    · intro k q hq
      match k, hq with
      | 0, hq => cases hq; exact ⟨hI1, hI2⟩
      | 1, hq => cases hq; exact ⟨hL1, hL2⟩
      | 2, hq => cases hq; exact ⟨hB1, hB2⟩
      | 3, hq => cases hq; exact ⟨hZ1, hZ2⟩
      | 4, hq => cases hq; exact ⟨hH1, hH2⟩
      | k + 5, hq => simp [mz_tys] at hq
    · intro k fs hfs
      match k, hfs with
      | 0, hfs =>
        cases hfs
        refine ⟨b, rfl, ⟨scr, hs1, hs2, hs3, by simp [hs4], by simp [hs4], fun j hj => ?_, hA b hbl⟩, ?_⟩
        · have hj : j < L := by simpa using hj
          rw [hs5 j hj]
          simp [hj]
        · intro v hv
          obtain ⟨j, -, rfl⟩ := List.mem_map.mp hv
          exact ⟨_, rfl⟩
      | 1, hfs =>
        cases hfs
        exact ⟨t1, rfl, T1, fun v hv => by
          simp only [List.mem_cons, List.not_mem_nil, or_false] at hv
          rcases hv with rfl | rfl | rfl | rfl | rfl | rfl | rfl | rfl | rfl <;> exact ⟨_, rfl⟩⟩
      | 2, hfs =>
        cases hfs
        exact ⟨t2, rfl, T2, fun v hv => by
          simp only [List.mem_cons, List.not_mem_nil, or_false] at hv
          rcases hv with rfl | rfl | rfl | rfl | rfl | rfl | rfl | rfl | rfl <;> exact ⟨_, rfl⟩⟩
      | 3, hfs =>
        cases hfs
        exact ⟨t3, rfl, T3, fun v hv => by
          simp only [List.mem_cons, List.not_mem_nil, or_false] at hv
          rcases hv with rfl | rfl | rfl | rfl | rfl | rfl | rfl | rfl | rfl <;> exact ⟨_, rfl⟩⟩
      | k + 4, hfs => simp [mz_X] at hfs
    · intro k k1 k2
      match k, k1, k2 with
      | 1, _, _ => exact ⟨t1, rfl, Z1⟩
      | 2, _, _ => exact ⟨t2, rfl, Z2⟩
      | 3, _, _ => exact ⟨t3, rfl, Z3⟩
  have hTHR : mz_THR l s := mz_THR_of (mz_flags hflags) hts (mz_unr hts hgv hA).1 (mz_unr hts hgv hA).2 (mz_str hts hgv)
  have hFX : mz_FX s p s m #[Value.ref b] meth c (8, 0, (0, 0, 0), mzc_0) mzt_0 :=
    ⟨hx, hb, hml, hown, hgw, fun h => absurd h (by decide), hlocks, hr, Or.inl ⟨rfl, rfl⟩, State.WarmedH.refl s, Nat.le_refl _, fun _ _ => rfl⟩
  have hl := lv_entry ([.ref b]) (n := 8) (Nat.le_of_ble_eq_true rfl)
  rw [lg_entry_eq]
  generalize (lg_sl ([.ref b]) ++ List.replicate (8 - (lg_sl ([.ref b])).length) Slot.unset).toArray = ls at hl ⊢
  have hgo := mz_main hts hCT hTHR n d 0 0 [(0, .ref 0)] [] ([], 0, 0) _ σ' _ _ hrun mz_P0 mz_Q0 p e room_1 s m #[Value.ref b] below meth c s.heap [] 0 0 (lw_Z below #[Value.ref b] s) [] ls [(0, .ref b)] [] 0 0 [b, t1, t2, t3] hFX (by show d + 10 ≤ 2048; omega) (by show 200 + 40 * d ≤ 84000; omega) (by show σ'.2.1 ≤ 0 + 601024; omega) (by show σ'.2.2 ≤ 0 + 7293034; omega) hl ⟨⟨rfl, ⟨b, rfl, rfl⟩⟩, trivial⟩ trivial
    ⟨fun k q h => by simp at h, ⟨fun i j p q h => by simp at h, fun k q h => by simp at h⟩, va_S.rf, trivial⟩ ⟨[], rfl⟩ rfl rfl ?_
  · exact hgo
  · intro i' ri ls' st' rst' σ'' H' locs' ws' cells' slots' hri hfin hls hst' hP' hext hc' hn'
    have hok := mz_oka_0.1 i'
    unfold mz_okAt at hok
    dsimp only at hok
    rw [hri] at hok
    dsimp only at hok
    split at hok
    · rename_i ins len hdec
      unfold mz_fin at hfin
      by_cases h41 : ri.1 = 41
      · rw [if_pos h41] at hfin
        split at hfin <;> cases hfin
      · rw [if_neg h41] at hfin
        by_cases h42 : ri.1 = 42
        · rw [if_pos h42] at hfin
          rw [if_neg (by omega), if_neg h41, if_pos h42] at hok
          split at hfin
          · rename_i v
            split at hfin
            · cases hfin
              match rst', hst' with
              | [w], ⟨hvw, _⟩ =>
              have hvw : w = .int 1 := hvw
              subst hvw
              unfold mz_k42 at hok
              rw [Bool.and_eq_true] at hok
              obtain ⟨hl1, hok⟩ := hok
              have hl1 : len = 1 := by simpa using hl1
              subst hl1
              split at hok
              · refine va_forget (fun q hq => hP'.2.2.1.2.2 q hq) ?_
                refine W.widen (k := 601024) (n := 7293034) (by omega) (by omega) ?_
                exact lw_ret hx hb hr hlocks hdec
              · rename_i h9
                simp only [Bool.and_eq_true, decide_eq_true_eq] at hok
                exact absurd hok.2 (by decide)
              · cases hok
            · cases hfin
          · cases hfin
        · rw [if_neg h42] at hfin
          by_cases h43 : ri.1 = 43
          · rw [if_pos h43] at hfin
            split at hfin <;> cases hfin
          · rw [if_neg h43] at hfin; cases hfin
    · cases hok
