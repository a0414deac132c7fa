/-! the rule of a call -/
noncomputable def az_post (D : szD) (R : szR) (Cs : azS) (j : Nat) (m : Nat × Nat × Nat × Nat) (code i : Nat) (lo : szLo) (rest : List szV) (ws : List szF) (F : azF) (dirty : List Nat) (new : Bool) (uw : Nat × Nat) (d : Nat) (b : List szV) (Pn : Bool) (cm : List (Nat × Nat)) (du : Nat × Nat) (p : azPo) (f : szD → szR → azS → azQ → Bool) : Bool :=
  (p.2.2.2.2.all (fun q => (Nat.beq q.2.2.1 0 && az_lo (b.length + (p.2.1.drop b.length).length) q.2.2.2.2) && (match q.2.1.2 with
      | [] => true
      | _ => false)) && Nat.blt (R.length + (p.2.1.drop b.length).length + 1) 1000000) && ((Nat.ble b.length p.2.1.length && Nat.beq p.2.1.length p.2.2.1.length) && az_apk (p.2.1.drop b.length) (p.2.2.1.drop b.length) D R (fun D2 R2 => match az_asms D2 (b ++ az_frs R.length (p.2.1.drop b.length).length) p.2.2.2.1 R2 Cs with
    | none => false
    | some none => true
    | some (some (R3, Cs3)) => az_flt (az_kf cm) F (fun F' => sz_fo (uw.1 + du.1) (fun u1 => sz_fo (uw.2 + du.2) (fun u2 => match p.1 with
      | some none => sz_fo (i + 1) (fun i => f D2 R3 Cs3 ((j, m, code, i, lo, rest), ws, az_sbF (b ++ az_frs R.length (p.2.1.drop b.length).length) p.2.2.2.2 ++ F', dirty, new && Pn, (u1, u2), d))
      | some (some v) => (Nat.beq v.1 0 && az_lo (b.length + (p.2.1.drop b.length).length) v.2.2) && az_fv (az_sb (b ++ az_frs R.length (p.2.1.drop b.length).length) v) (fun v => sz_fo (i + 1) (fun i => f D2 R3 Cs3 ((j, m, code, i, lo, v :: rest), ws, az_sbF (b ++ az_frs R.length (p.2.1.drop b.length).length) p.2.2.2.2 ++ F', dirty, new && Pn, (u1, u2), d)))
      | none => (if m.2.1 ≤ i ∧ i < m.2.2.1 then f D2 R3 Cs3 ((j, m, code, m.2.2.2, lo, [(3, 0, [])]), ws, az_sbF (b ++ az_frs R.length (p.2.1.drop b.length).length) p.2.2.2.2 ++ F', dirty, new && Pn, (u1, u2), d) else false))))))
noncomputable def az_rcall (P : List szM) (dm : Nat) (mods : List (Nat × Nat)) (D : szD) (R : szR) (Cs : azS) (C : azQ) (c : azCon) (b : List szV) (f : szD → szR → azS → azQ → Bool) : Bool := match C with
  | ((j, m, code, i, lo, st), ws, F, dirty, new, uw, d) => sz_fo (sz_sl 80 code i) (fun q => (!(Nat.beq q 0) && (Nat.beq (Nat.mod q 256) 40 && Nat.beq (sz_fa q) c.1)) && (match d, sz_nth P (sz_fa q), sz_take (sz_fb q) st with
    | d' + 1, some (nL, rc, _, _), some (as, rest) => (((Nat.ble c.2.1 d' && Nat.ble (d' + 1) dm) && (Nat.ble (sz_tot rest) 8 && Nat.ble (sz_tot as) nL)) && ((az_recv rc new as && az_loC R.length C) && (Nat.blt uw.1 900 && (b.all (fun x => az_lo R.length x.2.2) && rest.all (fun x => az_lo R.length x.2.2))))) && (((c.2.2.2.2.1.all (fun m => mods.any (fun m' => Nat.beq m'.1 m.1 && (Nat.beq m'.2 0 || Nat.beq m'.2 m.2))) && c.2.2.1.2.2.2.2.2.1.all (fun i => match sz_nth azPs i with
        | some p => !(az_md c.2.2.2.2.1 p.1 p.2.1) && !(az_md c.2.2.2.2.1 p.2.2.2.1 p.2.2.2.2.1)
        | none => true)) && (c.2.2.1.2.2.2.2.2.2 || (!new || Nat.blt 0 (uw.1 + c.2.2.2.2.2.1)))) && (sz_args as (fun lo' => az_mp D R Cs F dirty new lo' b c.2.2.1) && c.2.2.2.1.all (fun p => az_post D R Cs j m code i lo rest ws F dirty new uw (d' + 1) b c.2.2.1.2.2.2.2.2.2 c.2.2.2.2.1 c.2.2.2.2.2 p f)))
    | _, _, _ => false))
theorem az_len {a b u cd d dm : Nat} (h1 : a ≤ b + u) (h2 : u < 900) (h3 : cd ≤ d) (h4 : d + 1 ≤ dm) (h5 : b + 1000 * (dm + 2) < 2147483648) : a + 1000 * (cd + 2) < 2147483648 ∧ a + 1000 < 2147483648 := by omega
theorem az_frs_at (n k j : Nat) (x : szV) (h : (az_frs n k)[j]? = some x) : j < k ∧ x = (0, 0, [(n + j, 1)]) := by
  unfold az_frs at h
  rw [List.getElem?_map] at h
  by_cases hj : j < k
  · rw [List.getElem?_range hj] at h
    cases h
    exact ⟨hj, rfl⟩
  · rw [List.getElem?_eq_none (by rw [List.length_range]; omega)] at h
    cases h
theorem az_frs_len (n k : Nat) : (az_frs n k).length = k := by unfold az_frs; rw [List.length_map, List.length_range]
theorem az_rcall_at {P : List szM} (hP : sz_pkall P mzP = true) {X : List (List Value)} {Kb : Option (Option Value) → mzS → Prop} {mods : List (Nat × Nat)} {h0 : List mzC} {dm : Nat} (hlen0 : h0.length + 1000 * (dm + 2) < 2147483648) {bs : Nat × Nat} {ee : Nat} {D : szD} {R : szR} {Cs : azS} {ρ : Nat → Int} (hV : az_V D R Cs ρ) (hW : az_wf D R Cs) {C : azQ} {c : azCon} {b : List szV} (hc : ∀ (ρ1 : Nat → Int) (hh : List mzC) (args : List Value) (s2 : Nat × Nat) (d : Nat), args.length = sz_fb (sz_sl 80 C.1.2.2.1 C.1.2.2.2.1) → az_bd b ρ ρ1 → az_HM mods h0 hh → az_V c.2.2.1.1 c.2.2.1.2.1 c.2.2.1.2.2.1 ρ1 → sz_LR ρ1 c.2.2.1.2.2.2.1 (lv_args 0 args) → az_HR [] hh ρ1 c.2.2.1.2.2.2.2.1 c.2.2.1.2.2.2.2.2.1 c.2.2.1.2.2.2.2.2.2 0 hh → hh.length + 1000 * (c.2.1 + 2) < 2147483648 → c.2.1 ≤ d → mz_gg X (az_PostH c ρ1 hh s2) d c.1 0 (lv_args 0 args) [] (hh, s2)) {f : szD → szR → azS → azQ → Bool} (h : az_rcall P dm mods D R Cs C c b f = true)
    (hf : ∀ D' R' Cs' C' ρ', f D' R' Cs' C' = true → az_V D' R' Cs' ρ' → az_wf D' R' Cs' → az_ag R.length ρ ρ' → R.length ≤ R'.length → az_GG X Kb mods h0 bs ee ρ' C') : az_GG X Kb mods h0 bs ee ρ C := by
  obtain ⟨⟨j, m, code, i, lo, st⟩, ws, F, dirty, new, uw, d⟩ := C
  obtain ⟨cj, cd, cP, cQ, cm, cdu⟩ := c
  obtain ⟨PD, PR, PC, Plo, PF, Pd, Pn⟩ := cP
  intro wsM w hh s2 hF hW' hH b1 b2
  obtain ⟨j', M, i', m', stM⟩ := w
  obtain ⟨F1, F2, F3, F4, F5, F6, F7⟩ := hF
  dsimp only at F1 F2 F3 F4 F5 F6 F7 hW' hH b1 b2 ⊢
  subst F1; subst F5; subst F7
  unfold az_rcall at h
  dsimp only at h
  rw [sz_fo_eq] at h
  generalize hq : sz_sl 80 code i = q at h
  rw [Bool.and_eq_true] at h
  obtain ⟨h1, h⟩ := h
  simp only [Bool.and_eq_true] at h1
  obtain ⟨hq0, hop, hcj⟩ := h1
  have hq0 : q ≠ 0 := fun e => by rw [e] at hq0; cases hq0
  have hop := Nat.eq_of_beq_eq_true hop
  have hcj := Nat.eq_of_beq_eq_true hcj
  obtain ⟨ri, g1, g2, g3, g4, g5⟩ := sz_pk_ok F4 (i := i) (by rw [hq]; exact hq0)
  rw [hq] at g2 g3 g4 g5
  rw [sz_nth_eq] at h
  split at h
  · rename_i d' nL rc x1 x2 as rest hPa htk
    simp only [Bool.and_eq_true] at h
    obtain ⟨⟨⟨⟨k1, kd⟩, k2, k3⟩, ⟨k4, k5⟩, k6, k7, k8⟩, ⟨⟨k9, k10⟩, k11⟩, k12, k13⟩ := h
    have kd : d' + 1 ≤ dm := Nat.le_of_ble_eq_true kd
    have k1 : cd ≤ d' := Nat.le_of_ble_eq_true k1
    have k2 : sz_tot rest ≤ 8 := Nat.le_of_ble_eq_true k2
    have k3 : sz_tot as ≤ nL := Nat.le_of_ble_eq_true k3
    have k6 : uw.1 < 900 := Nat.le_of_ble_eq_true k6
    unfold az_loC az_loFr at k5
    simp only [Bool.and_eq_true] at k5
    obtain ⟨⟨lo1, lo2⟩, lo4, lo5⟩ := k5
    obtain ⟨M', p1, p2, p3, p4, p5⟩ := sz_pkall_ok hP hPa
    dsimp only at p2 p3
    unfold sz_take at htk
    obtain ⟨t1, t2⟩ := sz_tk_ok htk
    obtain ⟨lo', _, a2, a3⟩ := sz_args_eq (β := Nat) ρ as (fun _ => 0)
    rw [a2] at k12
    have hlr : sz_LR ρ lo' (lv_args 0 (as.map (sz_v ρ))) := fun k v hk h9 => by
      have := a3 0 k v hk h9
      rwa [Nat.zero_add] at this
    obtain ⟨hlenh2, hlenh⟩ := az_len hH.2.2.2.2.2.2 k6 k1 kd hlen0
    obtain ⟨ρ1, m1, m2, m3, m4, m5, m6⟩ := az_mp_ok hV hH hlenh k12 hlr
    dsimp only at m2 m3 m4 m5 m6
    have hal : (as.map (sz_v ρ)).length = sz_fb (sz_sl 80 code i) := by
      cases t2
      rw [hq, List.length_map, List.append_nil, List.length_reverse, List.length_take]
      omega
    have hval := hc ρ1 hh (as.map (sz_v ρ)) s2 (d' + ee) hal m1 hH.2.2.2.2.1 m4 m5 m6 hlenh2 (by dsimp only; omega)
    dsimp only at hval
    cases t2
    rw [show d' + 1 + ee = d' + ee + 1 by omega]
    refine az_gg_by F2 g1 (g2.trans hop) (as := (((st.take (sz_fb q)).reverse ++ []).map (sz_v ρ))) (rest := (st.drop (sz_fb q)).map (sz_v ρ)) ?_ (by rw [g3]; exact p1) (by rw [sz_totv]; exact k2) (by rw [sz_totv, ← p2]; exact k3) ?_ (by rw [g3, hcj]; exact hval) ?_
    · unfold mz_take
      rw [g4, List.length_map, if_pos t1, ← List.map_take, ← List.map_drop]
      simp
    · rw [← p3]
      exact az_recv_ok hH s2 k4
    · intro o s' hpost
      obtain ⟨p, hp, ρ2, V2, ag2, ho, HR2, c1, c2⟩ := hpost
      dsimp only at hp V2 ag2 ho HR2 c1 c2
      have hpp := List.all_eq_true.mp k13 p hp
      unfold az_post at hpp
      rw [Bool.and_eq_true, Bool.and_eq_true, Bool.and_eq_true, Bool.and_eq_true] at hpp
      obtain ⟨⟨w1, w2⟩, ⟨w3, w4⟩, w5⟩ := hpp
      have w2 : R.length + (p.2.1.drop b.length).length + 1 < 1000000 := Nat.le_of_ble_eq_true w2
      have w3 : b.length ≤ p.2.1.length := Nat.le_of_ble_eq_true w3
      have w4 : p.2.1.length = p.2.2.1.length := Nat.eq_of_beq_eq_true w4
      obtain ⟨D2, R2, ρ3, q1, q2, q3, q4, q5, q6⟩ := az_apk_ok (val := fun jj => ρ2 (b.length + jj)) w5 hV hW w2 (fun jj dd rr hd hr => by
        rw [List.getElem?_drop] at hd hr
        refine ⟨V2.2.2.2.2 _, ?_, fun hd0 hne => ?_⟩
        · have := V2.2.1 (b.length + jj)
          unfold sz_at at this
          rw [List.getD_eq_getElem?_getD, hr] at this
          exact this
        · obtain ⟨dd1, dd2, dd3⟩ := dd
          dsimp only at hd0 hne
          subst hd0
          exact V2.2.2.2.1 _ dd2 dd3 hd hne)
      have hbl : (b ++ az_frs R.length (p.2.1.drop b.length).length).length = b.length + (p.2.1.drop b.length).length := by rw [List.length_append, az_frs_len]
      have hbd : az_bd (b ++ az_frs R.length (p.2.1.drop b.length).length) ρ3 ρ2 := by
        intro k x hx
        rcases Nat.lt_or_ge k b.length with hk | hk
        · rw [List.getElem?_append_left hk] at hx
          rw [ag2.1 k (by omega), m1 k x hx, az_sum_ag q4 (List.all_eq_true.mp k7 x (List.mem_of_getElem? hx))]
        · rw [List.getElem?_append_right hk] at hx
          obtain ⟨y1, y2⟩ := az_frs_at _ _ _ _ hx
          subst y2
          have := q6 (k - b.length) y1
          rw [show b.length + (k - b.length) = k by omega] at this
          simp only [sz_sum, Int.zero_add, Int.one_mul, Int.add_zero]
          exact this.symm
      have hMM : Pn = true → new = true ∧ ρ2 1000000 = ρ 1000000 := by
        intro hn
        refine ⟨?_, by rw [ag2.2 hn]; exact m3 hn⟩
        unfold az_mp at k12
        simp only [Bool.and_eq_true] at k12
        have := k12.2.1.2
        rw [hn] at this
        simpa using this
      have hHR3 := az_HR_call (b := b ++ az_frs R.length (p.2.1.drop b.length).length) hH HR2 q4 lo5 hbd hMM (by rw [hbl]; exact w1) k9 k10 (by
        rw [Bool.or_eq_true, Bool.or_eq_true] at k11
        rcases k11 with e | e | e
        · exact Or.inl e
        · exact Or.inr (Or.inl (by simpa using e))
        · exact Or.inr (Or.inr (Nat.le_of_ble_eq_true e)))
      split at q1
      · cases q1
      · rename_i hasm
        obtain ⟨_, _, e, _⟩ := az_asms_ok hbd hasm V2.2.2.1 q2 q3
        cases e
      · rename_i R3 Cs3 hasm
        obtain ⟨R4, Cs4, e, v2, v3, v4⟩ := az_asms_ok hbd hasm V2.2.2.1 q2 q3
        cases e
        rw [az_flt_eq, sz_fo_eq, sz_fo_eq] at q1
        have fin : ∀ (i2 : Nat) (st2 : List szV) (vals : List Value), vals = st2.map (sz_v ρ3) → f D2 R3 Cs3 ((j, m, code, i2, lo, st2), ws, az_sbF (b ++ az_frs R.length (p.2.1.drop b.length).length) p.2.2.2.2 ++ F.filter (az_kf cm), dirty, new && Pn, (uw.1 + cdu.1, uw.2 + cdu.2), d' + 1) = true → mz_gg X (az_KK X Kb wsM (d' + ee + 1)) (d' + ee + 1) j i2 m' vals s' := by
          intro i2 st2 vals hvals hfe
          have := hf D2 R3 Cs3 _ ρ3 hfe v2 v3 q4 (by omega) wsM (j, M, i2, m', vals) s'.1 s'.2 ⟨rfl, F2, F3, F4, rfl, ?_, hvals⟩ (az_WR_ag q4 lo4 hW') hHR3 (by dsimp only; omega) (by dsimp only; omega)
          · rw [show d' + ee + 1 = d' + 1 + ee by omega]
            exact this
          · intro k' v' hv' h9
            rw [F6 k' v' hv' h9, az_v_ag q4 (List.all_eq_true.mp lo1 v' (List.mem_of_getElem? hv'))]
        have hrest : ∀ v' ∈ st.drop (sz_fb q), sz_v ρ v' = sz_v ρ3 v' := fun v' hv' => (az_v_ag q4 (List.all_eq_true.mp k8 v' hv')).symm
        split at q1
        · rename_i hp1
          rw [sz_fo_eq] at q1
          rw [hp1] at ho
          have ho : o = some none := ho
          subst ho
          exact ⟨_, rfl, fin _ _ _ (List.map_congr_left hrest) q1⟩
        · rename_i v hp1
          rw [hp1] at ho
          have ho : o = some (some (sz_v ρ2 v)) := ho
          subst ho
          rw [Bool.and_eq_true, Bool.and_eq_true, az_fv_eq, sz_fo_eq] at q1
          obtain ⟨⟨z1, z2⟩, z3⟩ := q1
          have z1 := Nat.eq_of_beq_eq_true z1
          refine ⟨_, rfl, fin _ _ _ ?_ z3⟩
          have hv1 : sz_v ρ2 v = sz_v ρ3 (az_sb (b ++ az_frs R.length (p.2.1.drop b.length).length) v) := by
            rw [sz_vi z1, sz_vi (show (az_sb (b ++ az_frs R.length (p.2.1.drop b.length).length) v).1 = 0 from z1), az_sb_i hbd (by rw [hbl]; exact z2)]
          have hv2 : (st.drop (sz_fb q)).map (sz_v ρ) = (st.drop (sz_fb q)).map (sz_v ρ3) := List.map_congr_left hrest
          rw [List.map_cons, ← hv1, ← hv2]
        · rename_i hp1
          rw [hp1] at ho
          have ho : o = none := ho
          subst ho
          split at q1
          · rename_i hcc
            rw [F3] at hcc q1
            refine ⟨(M.2.2.1.2.2, [.retAddr 0]), ?_, ?_⟩
            · show (if M.2.2.1.1 ≤ i ∧ i < M.2.2.1.2.1 then _ else _) = _
              rw [if_pos hcc]
            · rw [← F3] at q1
              refine fin _ [(3, 0, [])] _ rfl ?_
              rw [F3] at q1 ⊢
              exact q1
          · cases q1
  · cases h
theorem az_rcall_ok {P : List szM} (hP : sz_pkall P mzP = true) {X : List (List Value)} {Kb : Option (Option Value) → mzS → Prop} {mods : List (Nat × Nat)} {h0 : List mzC} {dm : Nat} (hlen0 : h0.length + 1000 * (dm + 2) < 2147483648) {bs : Nat × Nat} {ee : Nat} {D : szD} {R : szR} {Cs : azS} {ρ : Nat → Int} (hV : az_V D R Cs ρ) (hW : az_wf D R Cs) {C : azQ} {c : azCon} (hc : az_Valid X c) {b : List szV} {f : szD → szR → azS → azQ → Bool} (h : az_rcall P dm mods D R Cs C c b f = true)
    (hf : ∀ D' R' Cs' C' ρ', f D' R' Cs' C' = true → az_V D' R' Cs' ρ' → az_wf D' R' Cs' → az_ag R.length ρ ρ' → R.length ≤ R'.length → az_GG X Kb mods h0 bs ee ρ' C') : az_GG X Kb mods h0 bs ee ρ C := az_rcall_at hP hlen0 hV hW (fun ρ1 hh args s2 d _ _ _ => hc ρ1 hh args s2 d) h hf
