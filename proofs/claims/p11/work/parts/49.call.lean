/-! a call by a contract -/
noncomputable def az_apk : szD → szR → szD → szR → (szD → szR → Bool) → Bool
  | [], [], D, R, k => k D R
  | d :: ds, r :: rs, D, R, k => (Nat.beq d.1 0 && (az_lo 0 d.2.1.2.2 && az_lo 0 d.2.2.2.2)) && az_snk D d (fun D => az_snk R r (fun R => az_apk ds rs D R k))
  | _, _, _, _, _ => false
theorem az_apk_ok {Cs : azS} {k : szD → szR → Bool} : ∀ {ds : szD} {rs : szR} {D : szD} {R : szR} {ρ : Nat → Int} {val : Nat → Int}, az_apk ds rs D R k = true → az_V D R Cs ρ → az_wf D R Cs → R.length + ds.length + 1 < 1000000 →
    (∀ j d r, ds[j]? = some d → rs[j]? = some r → (-2147483648 ≤ val j ∧ val j ≤ 2147483647) ∧ (r.1 ≤ val j ∧ val j ≤ r.2) ∧ (d.1 = 0 → d.2.1.1 ≠ 0 → ∃ τ, azTs[d.2.1.1 - 1]? = some τ ∧ ∃ q ∈ τ.2.2, q.1 ≤ val j ∧ val j ≤ q.2)) →
    ∃ D' R' ρ', k D' R' = true ∧ az_V D' R' Cs ρ' ∧ az_wf D' R' Cs ∧ az_ag R.length ρ ρ' ∧ R'.length = R.length + ds.length ∧ ∀ j, j < ds.length → ρ' (R.length + j) = val j
  | [], [], D, R, ρ, val, h, hV, hW, _, _ => ⟨D, R, ρ, h, hV, hW, az_ag_refl _ _, rfl, fun j hj => by cases hj⟩
  | d :: ds, r :: rs, D, R, ρ, val, h, hV, hW, hn, hv => by
    unfold az_apk at h
    rw [az_snk_eq, az_snk_eq] at h
    simp only [Bool.and_eq_true] at h
    obtain ⟨⟨h1, h2, h3⟩, h4⟩ := h
    have h1 := Nat.eq_of_beq_eq_true h1
    obtain ⟨v1, v2, v3⟩ := hv 0 d r rfl rfl
    have hl : (d :: ds).length = ds.length + 1 := rfl
    obtain ⟨a1, a2, a3⟩ := az_fresh hV hW (d := d) (p := r) (x := val 0) (by omega) v1 v2 (az_lo_le (Nat.zero_le _) h2) (az_lo_le (Nat.zero_le _) h3) (fun e => absurd h1 e) v3
    have l1 : (R ++ [r]).length = R.length + 1 := by rw [List.length_append]; rfl
    obtain ⟨D', R', ρ', b1, b2, b3, b4, b5, b6⟩ := az_apk_ok (val := fun j => val (j + 1)) h4 a1 a2 (by omega) (fun j d' r' hd hr => hv (j + 1) d' r' (by simpa using hd) (by simpa using hr))
    rw [l1] at b4 b5 b6
    refine ⟨D', R', ρ', b1, b2, b3, az_ag_trans (by omega) a3 b4, by omega, ?_⟩
    intro j hj
    match j, hj with
    | 0, _ =>
      rw [Nat.add_zero, b4.1 _ (by omega)]
      exact if_pos rfl
    | j + 1, hj =>
      have := b6 j (by omega)
      rw [show R.length + (j + 1) = R.length + 1 + j by omega]
      exact this
  | [], _ :: _, _, _, _, _, h, _, _, _, _ => by cases h
  | _ :: _, [], _, _, _, _, h, _, _, _, _ => by cases h
/-- sums that a post tells -/
noncomputable def az_asms (D : szD) (b : List szV) : azS → szR → azS → Option (Option (szR × azS))
  | [], R, Cs => some (some (R, Cs))
  | g :: r, R, Cs => bif az_lo b.length g.2 && az_lo R.length (az_sbt b g.2).2 then (match az_asm D R Cs (g.1 + (az_sbt b g.2).1) (az_sbt b g.2).2 with
    | some (R, Cs) => az_asms D b r R Cs
    | none => some none) else none
theorem az_asms_ok {D : szD} {b : List szV} {ρ ρ' : Nat → Int} (hb : az_bd b ρ ρ') : ∀ {cs : azS} {R : szR} {Cs : azS} {q : Option (szR × azS)}, az_asms D b cs R Cs = some q → az_S cs ρ' → az_V D R Cs ρ → az_wf D R Cs → ∃ R' Cs', q = some (R', Cs') ∧ az_V D R' Cs' ρ ∧ az_wf D R' Cs' ∧ R'.length = R.length
  | [], R, Cs, q, h, _, hV, hW => by
    have h : some (some (R, Cs)) = some q := h
    cases h
    exact ⟨R, Cs, rfl, hV, hW, rfl⟩
  | g :: r, R, Cs, q, h, hS, hV, hW => by
    unfold az_asms at h
    cases hc : (az_lo b.length g.2 && az_lo R.length (az_sbt b g.2).2) with
    | false => rw [hc] at h; cases h
    | true =>
      rw [hc] at h
      dsimp only [cond] at h
      rw [Bool.and_eq_true] at hc
      have e := az_sbt_ok hb hc.1
      have hg := hS g List.mem_cons_self
      obtain ⟨p, p1, p2, p3, p4⟩ := az_asm_ok hV hW (c := g.1 + (az_sbt b g.2).1) hc.2 (by omega)
      rw [p1] at h
      dsimp only at h
      obtain ⟨R2, C2, q1, q2, q3, q4⟩ := az_asms_ok hb h (fun f hf => hS f (List.mem_cons_of_mem _ hf)) p2 p3
      exact ⟨R2, C2, q1, q2, q3, by omega⟩
/-- facts that a callee leaves -/
noncomputable def az_kf (mods : List (Nat × Nat)) (q : Nat × (Int × szT) × szV) : Bool := Nat.blt q.1 azL.length && (match q.2.1 with
  | (.ofNat k, []) => Nat.blt k 1000000 && !(az_md mods q.1 k)
  | _ => !(mods.any (fun m => Nat.beq m.1 q.1)))
noncomputable def az_sbF (b : List szV) (F : azF) : azF := F.map (fun q => (q.1, q.2.1, az_sb b q.2.2))
noncomputable def az_frs (n k : Nat) : List szV := (List.range k).map (fun j => (0, 0, [(n + j, 1)]))
theorem az_HR_call {mods cmods : List (Nat × Nat)} {h0 h h' : List mzC} {ρ ρ2 ρ3 : Nat → Int} {F pF : azF} {dirty Pd : List Nat} {new Pn : Bool} {u du n : Nat} {b : List szV} (H : az_HR mods h0 ρ F dirty new u h) (H2 : az_HR cmods h ρ2 pF Pd Pn du h') (hag : az_ag n ρ ρ3) (hlF : az_loF n F = true) (hb : az_bd b ρ3 ρ2) (hM : Pn = true → new = true ∧ ρ2 1000000 = ρ 1000000)
    (hpF : pF.all (fun q => (Nat.beq q.2.2.1 0 && az_lo b.length q.2.2.2.2) && (match q.2.1.2 with
      | [] => true
      | _ => false)) = true) (hsub : cmods.all (fun m => mods.any (fun m' => Nat.beq m'.1 m.1 && (Nat.beq m'.2 0 || Nat.beq m'.2 m.2))) = true) (hPd : Pd.all (fun i => match sz_nth azPs i with
      | some p => !(az_md cmods p.1 p.2.1) && !(az_md cmods p.2.2.2.1 p.2.2.2.2.1)
      | none => true) = true) (hnn : Pn = true ∨ new = false ∨ 0 < u + du) :
    az_HR mods h0 ρ3 (az_sbF b pF ++ F.filter (az_kf cmods)) dirty (new && Pn) (u + du) h' := by
  obtain ⟨A1, A2, A3, A4, A5, A6, A7⟩ := H
  obtain ⟨B1, B2, B3, B4, B5, B6, B7⟩ := H2
  have hL := azL_len
  have hmd : ∀ c k, az_md mods c k = false → az_md cmods c k = false := by
    intro c k hf
    cases hc : az_md cmods c k with
    | false => rfl
    | true =>
      exfalso
      obtain ⟨m, m1, m2⟩ := List.any_eq_true.mp hc
      rw [Bool.and_eq_true, Bool.or_eq_true] at m2
      obtain ⟨m', q1, q2⟩ := List.any_eq_true.mp (List.all_eq_true.mp hsub m m1)
      rw [Bool.and_eq_true, Bool.or_eq_true] at q2
      have e1 := Nat.eq_of_beq_eq_true m2.1
      have e2 := Nat.eq_of_beq_eq_true q2.1
      have : az_md mods c k = true := by
        refine List.any_eq_true.mpr ⟨m', q1, ?_⟩
        rw [e2, e1, Nat.beq_refl, Bool.true_and, Bool.or_eq_true]
        rcases q2.2 with q3 | q3
        · exact Or.inl q3
        · have e3 := Nat.eq_of_beq_eq_true q3
          rw [e3]
          exact m2.2
      rw [this] at hf
      cases hf
  refine ⟨B1, ⟨?_, ?_⟩, ?_, ?_, ?_, by omega, by omega⟩
  · intro hn
    rw [Bool.and_eq_true] at hn
    obtain ⟨_, hm⟩ := hM hn.2
    rw [hag.2, ← hm]
    exact B2.1 hn.2
  · intro hn hu
    have hu0 : u = 0 := by omega
    have hd0 : du = 0 := by omega
    have hnew : new = false := by
      rcases hnn with e | e | e
      · rw [e, Bool.and_true] at hn; exact hn
      · exact e
      · omega
    rw [hag.2, A2.2 hnew hu0]
    omega
  · intro q hq
    rcases List.mem_append.mp hq with hq | hq
    · unfold az_sbF at hq
      obtain ⟨p, hp, e⟩ := List.mem_map.mp hq
      subst e
      obtain ⟨f1, f2, f3⟩ := B3 p hp
      have hall := List.all_eq_true.mp hpF p hp
      simp only [Bool.and_eq_true] at hall
      obtain ⟨⟨t1, t2⟩, t3⟩ := hall
      have t1 := Nat.eq_of_beq_eq_true t1
      have ht : p.2.1.2 = [] := by
        split at t3
        · assumption
        · cases t3
      have hix : sz_i ρ3 (0, p.2.1) = sz_i ρ2 (0, p.2.1) := by
        unfold sz_i
        dsimp only
        rw [ht]
        rfl
      have hcc : az_c ρ3 p.1 = az_c ρ2 p.1 := by
        unfold az_c
        rcases f1 with f1 | ⟨f1, hn⟩
        · rw [if_neg (by omega), if_neg (by omega)]
        · rw [if_pos f1, if_pos f1, hag.2, (hM hn).2]
      dsimp only
      rw [hix, hcc]
      refine ⟨?_, f2, ?_⟩
      · rcases f1 with f1 | ⟨f1, hn⟩
        · exact Or.inl f1
        · exact Or.inr ⟨f1, by rw [(hM hn).1, hn]; rfl⟩
      · rw [f3, sz_vi t1, sz_vi (show (az_sb b p.2.2).1 = 0 from t1), az_sb_i hb t2]
    · obtain ⟨q1, q2⟩ := List.mem_filter.mp hq
      obtain ⟨f1, f2, f3⟩ := A3 q q1
      obtain ⟨l1, l2⟩ := az_loF_at hlF q1
      unfold az_kf at q2
      rw [Bool.and_eq_true] at q2
      have hqc : q.1 < azL.length := Nat.le_of_ble_eq_true q2.1
      have e1 : sz_i ρ3 (0, q.2.1) = sz_i ρ (0, q.2.1) := az_i_ag hag (v := (0, q.2.1)) l1
      have hc1 : az_c ρ3 q.1 = q.1 := if_neg (by omega)
      have hc2 : az_c ρ q.1 = q.1 := if_neg (by omega)
      rw [e1, az_v_ag hag l2, hc1]
      rw [hc2] at f3
      refine ⟨Or.inl hqc, f2, ?_⟩
      rw [← f3]
      refine B5 _ _ hqc ?_
      have q3 := q2.2
      split at q3
      · rename_i k hk
        rw [Bool.and_eq_true] at q3
        have hk2 : (sz_i ρ (0, q.2.1)).toInt.toNat = k := by
          rw [hk, az_nat_ix (Nat.le_of_ble_eq_true q3.1), Int.toNat_natCast]
        rw [hk2]
        simpa using q3.2
      · cases hh : az_md cmods q.1 (sz_i ρ (0, q.2.1)).toInt.toNat with
        | false => rfl
        | true =>
          exfalso
          obtain ⟨m, m1, m2⟩ := List.any_eq_true.mp hh
          rw [Bool.and_eq_true] at m2
          have : cmods.any (fun m => Nat.beq m.1 q.1) = true := List.any_eq_true.mpr ⟨m, m1, m2.1⟩
          rw [this] at q3
          cases q3
  · intro i p hp hi
    by_cases hd : i ∈ Pd
    · have := List.all_eq_true.mp hPd i hd
      rw [sz_nth_eq, hp] at this
      dsimp only at this
      rw [Bool.and_eq_true] at this
      obtain ⟨x, y, x1, y1, xy⟩ := A4 i p hp hi
      obtain ⟨_, _, p3, p4⟩ := az_pt hp
      exact ⟨x, y, by rw [B5 _ _ p3 (by simpa using this.1)]; exact x1, by rw [B5 _ _ p4 (by simpa using this.2)]; exact y1, xy⟩
    · exact B4 i p hp hd
  · intro c k hc hm
    rw [B5 c k hc (hmd c k hm)]
    exact A5 c k hc hm
