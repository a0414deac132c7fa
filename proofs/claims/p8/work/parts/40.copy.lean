/-! System.arraycopy, a new cell -/
noncomputable def az_cpf (F : azF) (cs cd sp dp : Nat) : Nat → azF
  | 0 => []
  | k + 1 => match az_fget cs (Int.ofNat (sp + k), []) F with
    | some v => bif Nat.beq v.1 0 then (cd, (Int.ofNat (dp + k), []), v) :: az_cpf F cs cd sp dp k else az_cpf F cs cd sp dp k
    | none => az_cpf F cs cd sp dp k
noncomputable def az_cpt (D : szD) (R : szR) (Cs : azS) (F : azF) (C1 C2 : azC) (cs sp dp : Nat) : Nat → Bool
  | 0 => true
  | k + 1 => (match az_ty C2 (dp + k) with
    | some τ => decide (az_ty C1 (sp + k) = some τ) || (match az_fget cs (Int.ofNat (sp + k), []) F with
      | some v => az_sub D R Cs v τ
      | none => false)
    | none => false) && az_cpt D R Cs F C1 C2 cs sp dp k
noncomputable def az_nk (R : szR) (Cs : azS) (v : szV) : Option Nat := match v.1, az_k R Cs v with
  | 0, some (.ofNat k) => some k
  | _, _ => none
noncomputable def az_h30 (D : szD) (R : szR) (Cs : azS) (mods : List (Nat × Nat)) (F : azF) (dirty : List Nat) (new : Bool) (st : List szV) : Option (List szV × azF × List Nat) := match st with
  | n :: dp :: rd :: sp :: rs :: rest => (match az_nk R Cs n, az_nk R Cs dp, az_nk R Cs sp with
    | some n, some dp, some sp => az_at new rs (fun cs C1 => az_at new rd (fun cd C2 => bif ((Nat.beq C1.1 1 && Nat.beq C2.1 1) && (Nat.ble (sp + n) C1.2.1 && Nat.ble (dp + n) C2.2.1)) && ((Nat.ble (sz_tot rest) 8 && mods.any (fun m => Nat.beq m.1 cd && Nat.beq m.2 0)) && ((!(Nat.beq cd 1000000) && Nat.blt (sp + n + (dp + n)) 1000000) && az_cpt D R Cs F C1 C2 cs sp dp n)) then
        az_flt (fun q => !(Nat.beq q.1 cd)) F (fun F' => some (rest, az_cpf F cs cd sp dp n ++ F', az_dt R Cs (az_cpf F cs cd sp dp n ++ F') (fun _ => true) (az_pof cd) dirty)) else none))
    | _, _, _ => none)
  | _ => none
theorem az_nk_ok {R : szR} {Cs : azS} {ρ : Nat → Int} (hR : sz_R R ρ) (hC : az_S Cs ρ) {v : szV} {k : Nat} (h : az_nk R Cs v = some k) : v.1 = 0 ∧ (sz_i ρ v).toInt = (k : Int) := by
  unfold az_nk at h
  split at h
  · rename_i k' h1 h2
    cases h
    exact ⟨h1, (az_k_ok hR hC h2).2.2.2.2⟩
  · cases h
theorem az_cpy_at (f g : List Value) (sp dp n k : Nat) : (mz_cpy f g sp dp n)[k]? = if k < g.length then some (if dp ≤ k ∧ k < dp + n then f.getD (sp + (k - dp)) .null else g.getD k .null) else none := by
  unfold mz_cpy
  rw [List.getElem?_map]
  by_cases h : k < g.length
  · rw [if_pos h, List.getElem?_range h]
    rfl
  · rw [if_neg h, List.getElem?_eq_none (by rw [List.length_range]; omega)]
    rfl
theorem az_cpf_mem {F : azF} {cs cd sp dp : Nat} : ∀ {n : Nat} {q : Nat × (Int × szT) × szV}, q ∈ az_cpf F cs cd sp dp n → ∃ k, k < n ∧ q.1 = cd ∧ q.2.1 = (Int.ofNat (dp + k), []) ∧ az_fget cs (Int.ofNat (sp + k), []) F = some q.2.2
  | 0, _, h => by cases h
  | n + 1, q, h => by
    unfold az_cpf at h
    split at h
    · rename_i v hv
      cases hb : Nat.beq v.1 0 with
      | true =>
        rw [hb] at h
        have h : q ∈ (cd, (Int.ofNat (dp + n), []), v) :: az_cpf F cs cd sp dp n := h
        rcases List.mem_cons.mp h with e | e
        · subst e
          exact ⟨n, by omega, rfl, rfl, hv⟩
        · obtain ⟨k, k1, k2⟩ := az_cpf_mem e
          exact ⟨k, by omega, k2⟩
      | false =>
        rw [hb] at h
        obtain ⟨k, k1, k2⟩ := az_cpf_mem h
        exact ⟨k, by omega, k2⟩
    · obtain ⟨k, k1, k2⟩ := az_cpf_mem h
      exact ⟨k, by omega, k2⟩
theorem az_cpt_at {D : szD} {R : szR} {Cs : azS} {F : azF} {C1 C2 : azC} {cs sp dp : Nat} : ∀ {n k : Nat}, az_cpt D R Cs F C1 C2 cs sp dp n = true → k < n → ∃ τ, az_ty C2 (dp + k) = some τ ∧ (az_ty C1 (sp + k) = some τ ∨ ∃ v, az_fget cs (Int.ofNat (sp + k), []) F = some v ∧ az_sub D R Cs v τ = true)
  | 0, _, _, h => by omega
  | n + 1, k, h, hk => by
    unfold az_cpt at h
    rw [Bool.and_eq_true] at h
    by_cases e : k = n
    · subst e
      have h := h.1
      split at h
      · rename_i τ hτ
        refine ⟨τ, hτ, ?_⟩
        rw [Bool.or_eq_true, decide_eq_true_eq] at h
        rcases h with h | h
        · exact Or.inl h
        · split at h
          · rename_i v hv
            exact Or.inr ⟨v, hv, h⟩
          · cases h
      · cases h
    · exact az_cpt_at h.2 (by omega)
theorem az_h30_ok {D : szD} {R : szR} {Cs : azS} {ρ : Nat → Int} {mods : List (Nat × Nat)} {h0 h : List mzC} {F F' : azF} {dirty dirty' : List Nat} {new : Bool} {u : Nat} {st st' : List szV} (hV : az_V D R Cs ρ) (H : az_HR mods h0 ρ F dirty new u h) (s2 : Nat × Nat) (e : az_h30 D R Cs mods F dirty new st = some (st', F', dirty')) : ∃ h', mz_h30 (st.map (sz_v ρ)) (h, s2) = some (st'.map (sz_v ρ), (h', s2)) ∧ az_HR mods h0 ρ F' dirty' new u h' := by
  obtain ⟨V1, V2, V3, V4, V5⟩ := id hV
  have hL := azL_len
  unfold az_h30 at e
  split at e
  · rename_i n0 dp0 rd sp0 rs rest
    split at e
    · rename_i n dp sp hn0 hdp0 hsp0
      obtain ⟨cs, C1, a1, a2, a3, e⟩ := az_at_ok e
      obtain ⟨cd, C2, b1, b2, b3, e⟩ := az_at_ok e
      cases hb : (((Nat.beq C1.1 1 && Nat.beq C2.1 1) && (Nat.ble (sp + n) C1.2.1 && Nat.ble (dp + n) C2.2.1)) && ((Nat.ble (sz_tot rest) 8 && mods.any (fun m => Nat.beq m.1 cd && Nat.beq m.2 0)) && ((!(Nat.beq cd 1000000) && Nat.blt (sp + n + (dp + n)) 1000000) && az_cpt D R Cs F C1 C2 cs sp dp n))) with
      | false => rw [hb] at e; cases e
      | true =>
        rw [hb] at e
        dsimp only [cond] at e
        rw [az_flt_eq] at e
        cases e
        simp only [Bool.and_eq_true] at hb
        obtain ⟨⟨⟨t1, t2⟩, t3, t4⟩, ⟨t5, t6⟩, ⟨t7, t8⟩, t9⟩ := hb
        have t1 := Nat.eq_of_beq_eq_true t1
        have t2 := Nat.eq_of_beq_eq_true t2
        have t3 : sp + n ≤ C1.2.1 := Nat.le_of_ble_eq_true t3
        have t4 : dp + n ≤ C2.2.1 := Nat.le_of_ble_eq_true t4
        have t5 : sz_tot st' ≤ 8 := Nat.le_of_ble_eq_true t5
        have t8 : sp + n + (dp + n) < 1000000 := Nat.le_of_ble_eq_true t8
        have hcdM : cd ≠ 1000000 := fun ee => by rw [ee] at t7; cases t7
        obtain ⟨ns, f, n1, n2, n3, n4, n5, n6, n7⟩ := az_cr_ok H a1 a2 a3 s2
        obtain ⟨nd, g, m1, m2, m3, m4, m5, m6, m7⟩ := az_cr_ok H b1 b2 b3 s2
        obtain ⟨k1, k2⟩ := az_nk_ok V2 V3 hn0
        obtain ⟨k3, k4⟩ := az_nk_ok V2 V3 hdp0
        obtain ⟨k5, k6⟩ := az_nk_ok V2 V3 hsp0
        have hmd : ∀ k, az_md mods cd k = true := by
          intro k
          obtain ⟨m, q1, q2⟩ := List.any_eq_true.mp t6
          rw [Bool.and_eq_true] at q2
          refine List.any_eq_true.mpr ⟨m, q1, ?_⟩
          rw [q2.1, q2.2]
          rfl
        have hcd : az_vc new cd := (az_cell_lt b2).imp id (fun e => ⟨e, b3 e⟩)
        have hsrc : ∀ k v, k < n → az_fget cs (Int.ofNat (sp + k), []) F = some v → f[sp + k]? = some (sz_v ρ v) := by
          intro k v hk hv
          have := (az_fact_at H.2.2.1 (by omega) hv).2
          unfold az_slot at this
          rw [n5] at this
          exact this
        have hFF : ∀ q ∈ az_cpf F cs cd sp dp n ++ F.filter (fun q => !(Nat.beq q.1 cd)), az_vc new q.1 ∧ 0 ≤ (sz_i ρ (0, q.2.1)).toInt ∧ ((q ∈ F ∧ q.1 ≠ cd) ∨ (q.1 = cd ∧ (mz_cpy f g sp dp n)[(sz_i ρ (0, q.2.1)).toInt.toNat]? = some (sz_v ρ q.2.2))) := by
          intro q hq
          rcases List.mem_append.mp hq with hq | hq
          · obtain ⟨k, x1, x2, x3, x4⟩ := az_cpf_mem hq
            rw [x2, x3, az_nat_ix (by omega)]
            refine ⟨hcd, by omega, Or.inr ⟨rfl, ?_⟩⟩
            rw [Int.toNat_natCast, az_cpy_at, if_pos (by omega), if_pos ⟨by omega, by omega⟩]
            rw [show sp + (dp + k - dp) = sp + k by omega, List.getD_eq_getElem?_getD, hsrc k _ x1 x4]
            rfl
          · obtain ⟨q1, q2⟩ := List.mem_filter.mp hq
            obtain ⟨f1, f2, f3⟩ := H.2.2.1 q q1
            refine ⟨f1, f2, Or.inl ⟨q1, fun ee => ?_⟩⟩
            rw [ee, Nat.beq_refl] at q2
            cases q2
        have hset := fun {d'} hP => az_HR_set (dirty' := d') (by omega) H b2 b3 m5 (fs' := mz_cpy f g sp dp n) (by unfold mz_cpy; rw [List.length_map, List.length_range]; exact m6) (fun k τ ht => ?_) (fun _ k hk => by rw [hmd k] at hk; cases hk) hFF hP
        · refine ⟨h.set (az_c ρ cd) (C2.1, mz_cpy f g sp dp n), ?_, hset (fun i p hp hi => ?_)⟩
          · show mz_h30 (sz_v ρ n0 :: sz_v ρ dp0 :: sz_v ρ rd :: sz_v ρ sp0 :: sz_v ρ rs :: st'.map (sz_v ρ)) (h, s2) = _
            rw [sz_vi k1, sz_vi k3, sz_vi k5, n1, m1]
            unfold mz_h30
            dsimp only
            rw [n4, m4]
            dsimp only
            have c1 : (sz_i ρ n0).toNatClampNeg = n := by show (sz_i ρ n0).toInt.toNat = n; omega
            have c2 : (sz_i ρ dp0).toNatClampNeg = dp := by show (sz_i ρ dp0).toInt.toNat = dp; omega
            have c3 : (sz_i ρ sp0).toNatClampNeg = sp := by show (sz_i ρ sp0).toInt.toNat = sp; omega
            have z : (0 : Int32).toInt = 0 := rfl
            rw [c1, c2, c3, if_pos]
            · unfold mz_set
              rw [m3, t2]
            · refine ⟨t1, t2, fun hh => ?_, fun hh => ?_, fun hh => ?_, by omega, by omega, ?_⟩
              · have := Int32.lt_iff_toInt_lt.mp hh; omega
              · have := Int32.lt_iff_toInt_lt.mp hh; omega
              · have := Int32.lt_iff_toInt_lt.mp hh; omega
              · have := sz_totv ρ st'
                unfold mz_sum at this
                rw [this]
                exact t5
          · obtain ⟨p1, p2, p3, p4⟩ := az_pt hp
            rcases az_dt_ok hp hi with ⟨d1, d2⟩ | ⟨d1, d2⟩
            · right
              refine az_pok_ok V2 V3 (new := new) ?_ p3 p4 d2
              intro q hq
              obtain ⟨f1, f2, f3⟩ := hFF q hq
              refine ⟨f1, f2, ?_⟩
              rw [az_slot_set m5]
              rcases f3 with ⟨f3, f4⟩ | ⟨f3, f4⟩
              · rw [if_neg (fun e => f4 (az_c_inj H.2.1 (by omega) f1 hcd e))]
                exact (H.2.2.1 q f3).2.2
              · rw [if_pos (by rw [f3])]
                exact f4
            · left
              have hni : i ∉ az_pof cd := fun hh => by have := d2 hh; cases this
              exact ⟨d1, fun e2 => hni (by rw [← e2]; exact p1), fun e2 => hni (by rw [← e2]; exact p2), p3, p4⟩
        · rw [az_cpy_at, if_pos (by have := az_ty_lt ht; omega)]
          by_cases hin : dp ≤ k ∧ k < dp + n
          · rw [if_pos hin]
            obtain ⟨τ', y1, y2⟩ := az_cpt_at t9 (show k - dp < n by omega)
            rw [show dp + (k - dp) = k by omega, ht] at y1
            cases y1
            rcases y2 with y2 | ⟨v, y2, y3⟩
            · obtain ⟨w, w1, w2⟩ := n7 _ _ y2
              exact ⟨w, by rw [List.getD_eq_getElem?_getD, w1]; rfl, w2⟩
            · have hs := hsrc (k - dp) v (by omega) y2
              exact ⟨sz_v ρ v, by rw [List.getD_eq_getElem?_getD, hs]; rfl, az_sub_ok V2 V3 V4 y3⟩
          · rw [if_neg hin]
            obtain ⟨w, w1, w2⟩ := m7 k τ ht
            exact ⟨w, by rw [List.getD_eq_getElem?_getD, w1]; rfl, w2⟩
    · cases e
  · cases e
