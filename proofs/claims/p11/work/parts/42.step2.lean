/-! a step of A, whole -/
noncomputable def az_one (D : szD) (R : szR) (Cs : azS) (op a b : Nat) (c : Int) (sw : List (Int × Nat)) (i nL : Nat) (lo : szLo) (st : List szV) : szO :=
  bif Nat.beq op 2 then az_o2 a b i lo st
  else bif Nat.beq op 0 then some (i + 1, lo, (0, c, []) :: st)
  else bif Nat.beq op 17 then az_o17 R Cs a b i lo st
  else bif Nat.beq op 18 then some (b, lo, st)
  else bif Nat.beq op 5 then az_o5 D R Cs a i nL c lo st
  else bif Nat.beq op 6 then az_o6 D R Cs a i lo st
  else bif Nat.beq op 3 then sz_o3 a b i nL lo st
  else bif Nat.beq op 16 then az_o16 R Cs a b i lo st
  else bif Nat.beq op 7 then az_o7 D R Cs a i lo st
  else bif Nat.beq op 8 then sz_o8 i lo st
  else bif Nat.beq op 12 then sz_o12 i lo st
  else bif Nat.beq op 1 then (if -2147483648 ≤ c ∧ c ≤ 2147483647 then some (i + 1, lo, (2, c, []) :: st) else none)
  else bif Nat.beq op 4 then az_o4 a i nL lo st
  else bif Nat.beq op 13 then sz_o13 i lo st
  else bif Nat.beq op 14 then sz_o14 i lo st
  else bif Nat.beq op 15 then sz_o15 i lo st
  else bif Nat.beq op 19 then az_o19 R Cs b c sw lo st
  else bif Nat.beq op 39 then az_o39 R Cs b sw lo st
  else none
theorem az_one_ok {D : szD} {R : szR} {Cs : azS} {ρ : Nat → Int} (hD : sz_D D ρ) (hR : sz_R R ρ) (hC : az_S Cs ρ) {lo : szLo} {m : mzL} (hl : sz_LR ρ lo m) {op a b i nL : Nat} {c : Int} {sw : List (Int × Nat)} {st : List szV} {r : Nat × szLo × List szV} (h : az_one D R Cs op a b c sw i nL lo st = some r) : (op < 20 ∨ op = 39) ∧ sz_1 ρ m (mz_one (op, a, b, c, sw) i nL m (st.map (sz_v ρ))) r := by
  unfold az_one at h
  cases h_ : Nat.beq op 2 with
  | true => rw [h_] at h; have h_ := Nat.eq_of_beq_eq_true h_; subst h_; exact ⟨by omega, az_o2_ok hl h⟩
  | false =>
  rw [h_] at h; clear h_
  cases h_ : Nat.beq op 0 with
  | true =>
    rw [h_] at h; have h_ := Nat.eq_of_beq_eq_true h_; subst h_
    have h : some (i + 1, lo, ((0, c, []) : szV) :: st) = some r := h
    cases h
    refine ⟨by omega, m, ?_, hl⟩
    show some (i + 1, m, Value.int (Int32.ofInt c) :: st.map (sz_v ρ)) = some (i + 1, m, Value.int (sz_i ρ (0, c, [])) :: st.map (sz_v ρ))
    rw [sz_i_const]
  | false =>
  rw [h_] at h; clear h_
  cases h_ : Nat.beq op 17 with
  | true => rw [h_] at h; have h_ := Nat.eq_of_beq_eq_true h_; subst h_; exact ⟨by omega, az_o17_ok hR hC hl h⟩
  | false =>
  rw [h_] at h; clear h_
  cases h_ : Nat.beq op 18 with
  | true =>
    rw [h_] at h; have h_ := Nat.eq_of_beq_eq_true h_; subst h_
    have h : some (b, lo, st) = some r := h
    cases h
    exact ⟨by omega, m, rfl, hl⟩
  | false =>
  rw [h_] at h; clear h_
  cases h_ : Nat.beq op 5 with
  | true => rw [h_] at h; have h_ := Nat.eq_of_beq_eq_true h_; subst h_; exact ⟨by omega, az_o5_ok hD hR hC hl h⟩
  | false =>
  rw [h_] at h; clear h_
  cases h_ : Nat.beq op 6 with
  | true => rw [h_] at h; have h_ := Nat.eq_of_beq_eq_true h_; subst h_; exact ⟨by omega, az_o6_ok hD hR hC hl h⟩
  | false =>
  rw [h_] at h; clear h_
  cases h_ : Nat.beq op 3 with
  | true => rw [h_] at h; have h_ := Nat.eq_of_beq_eq_true h_; subst h_; exact ⟨by omega, sz_o3_ok hl h⟩
  | false =>
  rw [h_] at h; clear h_
  cases h_ : Nat.beq op 16 with
  | true => rw [h_] at h; have h_ := Nat.eq_of_beq_eq_true h_; subst h_; exact ⟨by omega, az_o16_ok hR hC hl h⟩
  | false =>
  rw [h_] at h; clear h_
  cases h_ : Nat.beq op 7 with
  | true => rw [h_] at h; have h_ := Nat.eq_of_beq_eq_true h_; subst h_; exact ⟨by omega, az_o7_ok hD hR hC hl h⟩
  | false =>
  rw [h_] at h; clear h_
  cases h_ : Nat.beq op 8 with
  | true => rw [h_] at h; have h_ := Nat.eq_of_beq_eq_true h_; subst h_; exact ⟨by omega, sz_o8_ok hl h⟩
  | false =>
  rw [h_] at h; clear h_
  cases h_ : Nat.beq op 12 with
  | true => rw [h_] at h; have h_ := Nat.eq_of_beq_eq_true h_; subst h_; exact ⟨by omega, sz_o12_ok hl h⟩
  | false =>
  rw [h_] at h; clear h_
  cases h_ : Nat.beq op 1 with
  | true =>
    rw [h_] at h; have h_ := Nat.eq_of_beq_eq_true h_; subst h_
    dsimp only [cond] at h
    split at h
    · rename_i hc
      cases h
      refine ⟨by omega, m, ?_, hl⟩
      show some (i + 1, m, Value.long (Int64.ofInt c) :: st.map (sz_v ρ)) = some (i + 1, m, Value.long (sz_i ρ (2, c, [])).toInt64 :: st.map (sz_v ρ))
      rw [sz_i_const]
      congr 5
      rw [← Int64.toInt_inj, Int32.toInt_toInt64, sz_toInt, sz_w_id hc.1 hc.2, Int64.toInt_ofInt_of_le (by omega) (by omega)]
    · cases h
  | false =>
  rw [h_] at h; clear h_
  cases h_ : Nat.beq op 4 with
  | true => rw [h_] at h; have h_ := Nat.eq_of_beq_eq_true h_; subst h_; exact ⟨by omega, az_o4_ok hl h⟩
  | false =>
  rw [h_] at h; clear h_
  cases h_ : Nat.beq op 13 with
  | true => rw [h_] at h; have h_ := Nat.eq_of_beq_eq_true h_; subst h_; exact ⟨by omega, sz_o13_ok hl h⟩
  | false =>
  rw [h_] at h; clear h_
  cases h_ : Nat.beq op 14 with
  | true => rw [h_] at h; have h_ := Nat.eq_of_beq_eq_true h_; subst h_; exact ⟨by omega, sz_o14_ok hl h⟩
  | false =>
  rw [h_] at h; clear h_
  cases h_ : Nat.beq op 15 with
  | true => rw [h_] at h; have h_ := Nat.eq_of_beq_eq_true h_; subst h_; exact ⟨by omega, sz_o15_ok hl h⟩
  | false =>
  rw [h_] at h; clear h_
  cases h_ : Nat.beq op 19 with
  | true => rw [h_] at h; have h_ := Nat.eq_of_beq_eq_true h_; subst h_; exact ⟨by omega, az_o19_ok hR hC hl h⟩
  | false =>
  rw [h_] at h; clear h_
  cases h_ : Nat.beq op 39 with
  | true => rw [h_] at h; have h_ := Nat.eq_of_beq_eq_true h_; subst h_; exact ⟨by omega, az_o39_ok hR hC hl h⟩
  | false => rw [h_] at h; cases h
/-- an end of a method -/
noncomputable def az_fin (R : szR) (Cs : azS) (op a b : Nat) (st : List szV) (uw : Nat × Nat) : Option (Option (Option szV) × (Nat × Nat)) :=
  bif Nat.beq op 42 then (match st with
    | [v] => if (v.1 = a ∨ (v.1 = 5 ∧ a = 2)) ∧ a < 3 ∧ (b = 0 ∨ (v.1 = 0 ∧ az_nw R Cs v = true ∧ 0 ≤ az_lb R Cs v.2.1 v.2.2 ∧ az_ub R Cs v.2.1 v.2.2 ≤ 1)) then some (some (some v), uw) else none
    | _ => none)
  else bif Nat.beq op 41 then (match st with
    | [] => some (some none, uw)
    | _ => none)
  else bif Nat.beq op 43 then (if sz_tot st ≤ 8 then some (none, (uw.1 + 1, uw.2 + 6)) else none)
  else none
theorem az_fin_ok {R : szR} {Cs : azS} {ρ : Nat → Int} (hR : sz_R R ρ) (hC : az_S Cs ρ) {op a b : Nat} {c : Int} {sw : List (Int × Nat)} {st : List szV} {uw uw' : Nat × Nat} {o : Option (Option szV)} {h : List mzC} {bs s2 : Nat × Nat} (b1 : s2.1 ≤ bs.1 + uw.1) (b2 : s2.2 ≤ bs.2 + uw.2) (e : az_fin R Cs op a b st uw = some (o, uw')) : ∃ s2', mz_fin (op, a, b, c, sw) (st.map (sz_v ρ)) (h, s2) = some (o.map (fun v => v.map (sz_v ρ)), (h, s2')) ∧ s2'.1 ≤ bs.1 + uw'.1 ∧ s2'.2 ≤ bs.2 + uw'.2 ∧ uw.1 ≤ uw'.1 ∧ (uw'.1 = 0 → uw.1 = 0) := by
  unfold az_fin at e
  cases h_ : Nat.beq op 42 with
  | true =>
    rw [h_] at e; have h_ := Nat.eq_of_beq_eq_true h_; subst h_
    dsimp only [cond] at e
    split at e
    · rename_i v
      split at e
      · rename_i hc
        cases e
        refine ⟨s2, ?_, b1, b2, Nat.le_refl _, id⟩
        unfold mz_fin
        dsimp only
        rw [if_neg (by decide), if_pos rfl]
        show (if mz_ty (sz_v ρ v) = a ∧ a < 3 ∧ (b = 0 ∨ sz_v ρ v = .int 0 ∨ sz_v ρ v = .int 1) then _ else _) = _
        rw [if_pos]
        · rfl
        · refine ⟨?_, hc.2.1, ?_⟩
          · rcases hc.1 with h1 | ⟨h1, h2⟩
            · rw [sz_ty (by omega)]; exact h1
            · subst h2
              rw [sz_v5 h1]
              rfl
          · rcases hc.2.2 with h1 | ⟨h1, h2, h3, h4⟩
            · exact Or.inl h1
            · have hx := az_nw_ok hR hC h2
              have l1 := az_lb_ok hR hC v.2.1 v.2.2
              have l2 := az_ub_ok hR hC v.2.1 v.2.2
              have h4 : (sz_i ρ v).toInt = 0 ∨ (sz_i ρ v).toInt = 1 := by omega
              rw [sz_vi h1]
              rcases h4 with h4 | h4
              · exact Or.inr (Or.inl (congrArg _ (Int32.toInt_inj.mp h4)))
              · exact Or.inr (Or.inr (congrArg _ (Int32.toInt_inj.mp h4)))
      · cases e
    · cases e
  | false =>
  rw [h_] at e; clear h_
  cases h_ : Nat.beq op 41 with
  | true =>
    rw [h_] at e; have h_ := Nat.eq_of_beq_eq_true h_; subst h_
    dsimp only [cond] at e
    split at e
    · cases e
      exact ⟨s2, rfl, b1, b2, Nat.le_refl _, id⟩
    · cases e
  | false =>
  rw [h_] at e; clear h_
  cases h_ : Nat.beq op 43 with
  | true =>
    rw [h_] at e; have h_ := Nat.eq_of_beq_eq_true h_; subst h_
    dsimp only [cond] at e
    split at e
    · rename_i hc
      cases e
      refine ⟨(s2.1 + 1, s2.2 + 6), ?_, by dsimp only; omega, by dsimp only; omega, by dsimp only; omega, fun hh => by dsimp only at hh; omega⟩
      unfold mz_fin
      dsimp only
      rw [if_neg (by decide), if_neg (by decide), if_pos rfl, if_pos (by rw [sz_totv]; exact hc)]
      rfl
    · cases e
  | false =>
  rw [h_] at e; cases e
noncomputable def az_back (o : Option (Option szV)) (ws : List szF) (F : azF) (dirty : List Nat) (new : Bool) (uw : Nat × Nat) (d : Nat) : Option azQ := match ws with
  | [] => none
  | (j, m, code, i, lo, st) :: ws => match o with
    | some none => sz_fo (i + 1) (fun i => some ((j, m, code, i, lo, st), ws, F, dirty, new, uw, d + 1))
    | some (some v) => sz_fo (i + 1) (fun i => some ((j, m, code, i, lo, v :: st), ws, F, dirty, new, uw, d + 1))
    | none => if m.2.1 ≤ i ∧ i < m.2.2.1 then some ((j, m, code, m.2.2.2, lo, [(3, 0, [])]), ws, F, dirty, new, uw, d + 1) else none
noncomputable def az_recv (k : Nat) (new : Bool) (as : List szV) : Bool := match k with
  | 0 => true
  | c + 1 => match as with
    | r :: _ => (match az_at new r (fun _ C => bif Nat.beq C.1 (Nat.mul 2 c) then some () else none) with
      | some _ => true
      | none => false)
    | _ => false
noncomputable def az_call (P : List szM) (j : Nat) (m : Nat × Nat × Nat × Nat) (code i : Nat) (lo : szLo) (a : Nat) (ws : List szF) (F : azF) (dirty : List Nat) (new : Bool) (uw : Nat × Nat) (d : Nat) (as : List szV) (rest : List szV) : Option azQ := match d, sz_nth P a with
  | d + 1, some (nL, rc, hd, co) => if sz_tot rest ≤ 8 ∧ sz_tot as ≤ nL ∧ az_recv rc new as = true then sz_args as (fun lo' => some ((a, (nL, hd), co, 0, lo', []), (j, m, code, i, lo, rest) :: ws, F, dirty, new, uw, d)) else none
  | _, _ => none
noncomputable def az_nx (j : Nat) (m : Nat × Nat × Nat × Nat) (code : Nat) (ws : List szF) (F : azF) (dirty : List Nat) (new : Bool) (uw : Nat × Nat) (d : Nat) (r : szO) : Option azQ := match r with
  | some (i, lo, st) => sz_fo i (fun i => some ((j, m, code, i, lo, st), ws, F, dirty, new, uw, d))
  | none => none
noncomputable def az_sw (j i op : Nat) : List (Int × Nat) := bif Nat.beq op 19 || Nat.beq op 39 then (match sz_nth mzP j with
    | some M => (match sz_nth M.2.2.2 i with
      | some ri => ri.2.2.2.2
      | none => [])
    | none => []) else []
noncomputable def az_step (P : List szM) (inl : Nat → Bool) (mods : List (Nat × Nat)) (D : szD) (R : szR) (Cs : azS) (j : Nat) (m : Nat × Nat × Nat × Nat) (code i : Nat) (lo : szLo) (st : List szV) (ws : List szF) (F : azF) (dirty : List Nat) (new : Bool) (uw : Nat × Nat) (d q op : Nat) : Option azQ :=
  bif Nat.beq q 0 then none
  else bif Nat.blt op 20 || Nat.beq op 39 then az_nx j m code ws F dirty new uw d (az_one D R Cs op (sz_fa q) (sz_fb q) (sz_fc q) (az_sw j i op) i m.1 lo st)
  else bif Nat.blt op 31 then (match az_hp D R Cs mods F dirty new uw op (sz_fa q) (sz_fb q) (sz_fc q) st with
      | some (st, F, dirty, new, uw) => sz_fo (i + 1) (fun i => some ((j, m, code, i, lo, st), ws, F, dirty, new, uw, d))
      | none => none)
  else bif Nat.beq op 40 then (bif inl (sz_fa q) then (match sz_take (sz_fb q) st with
      | some (as, rest) => sz_fo (sz_fa q) (fun a => az_call P j m code i lo a ws F dirty new uw d as rest)
      | none => none) else none)
  else match az_fin R Cs op (sz_fa q) (sz_fb q) st uw with
      | some (o, uw) => az_back o ws F dirty new uw d
      | none => none
