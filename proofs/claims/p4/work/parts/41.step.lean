/-! a step of A -/
def az_KK (X : List (List Value)) (Kb : Option (Option Value) → mzS → Prop) : List mzW → Nat → Option (Option Value) → mzS → Prop
  | [], _, o, s => Kb o s
  | (j, M, i, lo, rest) :: ws, d, o, s => mzP[j]? = some M ∧ ∃ q, mz_res M i rest o = some q ∧ mz_gg X (az_KK X Kb ws (d + 1)) (d + 1) j q.1 lo q.2 s
/-- a call, by what is known of it -/
theorem az_gg_by {X : List (List Value)} {K K' : Option (Option Value) → mzS → Prop} {d j i : Nat} {lo : mzL} {st : List Value} {s : mzS} {M M' : mzM} {ri : mzI} {as rest : List Value} (hM : mzP[j]? = some M) (hri : M.2.2.2[i]? = some ri) (h40 : ri.1 = 40) (htk : mz_take ri.2.2.1 st = some (as, rest)) (hM' : mzP[ri.2.1]? = some M') (h1 : mz_sum rest ≤ 8) (h2 : mz_sum as ≤ M'.1) (h3 : mz_recv M'.2.1 as s = true)
    (hg : mz_gg X K' d ri.2.1 0 (lv_args 0 as) [] s) (hk : ∀ o s', K' o s' → ∃ q, mz_res M i rest o = some q ∧ mz_gg X K (d + 1) j q.1 lo q.2 s') : mz_gg X K (d + 1) j i lo st s := by
  obtain ⟨n, o, s', hr, hK'⟩ := hg
  obtain ⟨q, hq, n', o', s'', hr', hK⟩ := hk o s' hK'
  exact ⟨max n n' + 1, o', s'', mz_run_call hM hri h40 htk hM' h1 h2 h3 (mz_fuel (Nat.le_max_left _ _) hr) hq (mz_fuel (Nat.le_max_right _ _) hr'), hK⟩
theorem az_gg_call {X : List (List Value)} {Kb : Option (Option Value) → mzS → Prop} {ws : List mzW} {d j i : Nat} {lo : mzL} {st : List Value} {s : mzS} {M M' : mzM} {ri : mzI} {as rest : List Value} (hM : mzP[j]? = some M) (hri : M.2.2.2[i]? = some ri) (h40 : ri.1 = 40) (htk : mz_take ri.2.2.1 st = some (as, rest)) (hM' : mzP[ri.2.1]? = some M') (h1 : mz_sum rest ≤ 8) (h2 : mz_sum as ≤ M'.1) (h3 : mz_recv M'.2.1 as s = true)
    (hg : mz_gg X (az_KK X Kb ((j, M, i, lo, rest) :: ws) d) d ri.2.1 0 (lv_args 0 as) [] s) : mz_gg X (az_KK X Kb ws (d + 1)) (d + 1) j i lo st s := az_gg_by hM hri h40 htk hM' h1 h2 h3 hg (fun _ _ h => h.2)
def az_GG (X : List (List Value)) (Kb : Option (Option Value) → mzS → Prop) (mods : List (Nat × Nat)) (h0 : List mzC) (bs : Nat × Nat) (e : Nat) (ρ : Nat → Int) (C : azQ) : Prop := ∀ (ws : List mzW) (w : mzW) (h : List mzC) (s2 : Nat × Nat), sz_FR ρ C.1 w → sz_WR ρ C.2.1 ws → az_HR mods h0 ρ C.2.2.1 C.2.2.2.1 C.2.2.2.2.1 C.2.2.2.2.2.1.1 h → s2.1 ≤ bs.1 + C.2.2.2.2.2.1.1 → s2.2 ≤ bs.2 + C.2.2.2.2.2.1.2 → mz_gg X (az_KK X Kb ws (C.2.2.2.2.2.2 + e)) (C.2.2.2.2.2.2 + e) w.1 w.2.2.1 w.2.2.2.1 w.2.2.2.2 (h, s2)
/-- a new Draw -/
theorem az_HR_new {mods : List (Nat × Nat)} {h0 h : List mzC} {ρ : Nat → Int} {F : azF} {dirty : List Nat} (H : az_HR mods h0 ρ F dirty false 0 h) : sz_v ρ (1, 1000000, []) = .ref (4 + h.length) ∧ az_HR mods h0 ρ ((1000000, (0, []), (0, 0, [])) :: F) dirty true 1 (h ++ [(4, [.int 0])]) := by
  obtain ⟨H1, H2, H3, H4, H5, H6, H7⟩ := H
  have hL := azL_len
  have hr := H2.2 rfl rfl
  have hlen : ∀ c, c < azL.length → c < h.length := by
    intro c hc
    obtain ⟨fs, f1, _⟩ := H1 c _ (List.getElem?_eq_getElem hc)
    exact (List.getElem?_eq_some_iff.mp f1).1
  have hl162 := hlen 162 (by omega)
  have hsl : ∀ c k, c < h.length → az_slot (h ++ [(4, [.int 0])]) c k = az_slot h c k := by
    intro c k hc
    unfold az_slot
    rw [List.getElem?_append_left hc]
  refine ⟨?_, ?_, ⟨?_, ?_⟩, ?_, ?_, ?_, ?_, ?_⟩
  · show Value.ref (if (1000000 : Int) < 1000000 then _ else (ρ 1000000).toNat) = _
    rw [if_neg (by omega), hr, Nat.add_comm]
  · intro c C hC
    obtain ⟨fs, f1, f2, f3⟩ := H1 c C hC
    exact ⟨fs, by rw [List.getElem?_append_left (List.getElem?_eq_some_iff.mp f1).1]; exact f1, f2, f3⟩
  · intro _
    refine ⟨by omega, [.int 0], ?_, rfl, ?_⟩
    · rw [hr, show h.length + 4 - 4 = h.length by omega, List.getElem?_append_right (Nat.le_refl _), Nat.sub_self]
      rfl
    · intro k τ ht
      have hk := az_ty_lt ht
      have hk : k < 1 := hk
      have hk : k = 0 := by omega
      subst hk
      have e0 : az_ty (4, 1, 1, []) 0 = sz_nth azTs 0 := rfl
      rw [e0, sz_nth_eq] at ht
      have e1 : azTs[0]? = some (0, 0, [(-2147483648, 2147483647)]) := rfl
      rw [e1] at ht
      cases ht
      exact ⟨.int 0, rfl, 0, rfl, _, List.mem_singleton.mpr rfl, by decide, by decide⟩
  · intro hh; cases hh
  · intro q hq
    rcases List.mem_cons.mp hq with e | e
    · subst e
      dsimp only
      have hz : (sz_i ρ (0, ((0 : Int), ([] : szT)))).toInt = 0 := by
        rw [show sz_i ρ (0, ((0 : Int), ([] : szT))) = Int32.ofInt 0 from sz_i_const ρ 0 0]
        rfl
      refine ⟨Or.inr ⟨rfl, rfl⟩, by rw [hz]; exact Int.le_refl _, ?_⟩
      rw [hz, show az_c ρ 1000000 = (ρ 1000000).toNat - 4 from if_pos rfl, hr, show h.length + 4 - 4 = h.length by omega]
      unfold az_slot
      rw [List.getElem?_append_right (Nat.le_refl _), Nat.sub_self]
      show some (Value.int 0) = some (Value.int (sz_i ρ (0, 0, [])))
      rw [sz_i_const]
      rfl
    · obtain ⟨f1, f2, f3⟩ := H3 q e
      have hq1 : q.1 < azL.length := by
        rcases f1 with f1 | ⟨_, f1⟩
        · exact f1
        · cases f1
      refine ⟨Or.inl hq1, f2, ?_⟩
      have hc : az_c ρ q.1 = q.1 := if_neg (by omega)
      rw [hc] at f3 ⊢
      rw [hsl _ _ (hlen _ hq1)]
      exact f3
  · intro i p hp hi
    obtain ⟨x, y, x1, y1, xy⟩ := H4 i p hp hi
    obtain ⟨_, _, p3, p4⟩ := az_pt hp
    exact ⟨x, y, by rw [hsl _ _ (hlen _ p3)]; exact x1, by rw [hsl _ _ (hlen _ p4)]; exact y1, xy⟩
  · intro c k hc hm
    rw [hsl _ _ (hlen _ hc)]
    exact H5 c k hc hm
  · rw [List.length_append]; omega
  · rw [List.length_append]
    show h.length + 1 ≤ _
    omega
abbrev azH : Type := Option (List szV × azF × List Nat × Bool × (Nat × Nat))
noncomputable def az_hp (D : szD) (R : szR) (Cs : azS) (mods : List (Nat × Nat)) (F : azF) (dirty : List Nat) (new : Bool) (uw : Nat × Nat) (op a b : Nat) (c : Int) (st : List szV) : azH :=
  bif Nat.beq op 20 then (match az_h20 F new a b st with
    | some st => some (st, F, dirty, new, uw)
    | none => none)
  else bif Nat.beq op 22 then (match az_h22 R Cs F new a st with
    | some st => some (st, F, dirty, new, uw)
    | none => none)
  else bif Nat.beq op 23 then (match az_h23 D R Cs mods F dirty new a st with
    | some (st, F, dirty) => some (st, F, dirty, new, uw)
    | none => none)
  else bif Nat.beq op 21 then (match az_h21 D R Cs mods F dirty new a b c st with
    | some (st, F, dirty) => some (st, F, dirty, new, uw)
    | none => none)
  else bif Nat.beq op 24 then (match az_h24 new st with
    | some st => some (st, F, dirty, new, uw)
    | none => none)
  else bif Nat.beq op 30 then (match az_h30 D R Cs mods F dirty new st with
    | some (st, F, dirty) => some (st, F, dirty, new, uw)
    | none => none)
  else bif Nat.beq op 28 then (bif Nat.ble 1 a && Nat.blt a 4 then some ((1, Int.ofNat a, []) :: st, F, dirty, new, uw) else none)
  else bif Nat.beq op 29 then (match st with
    | r :: rest => bif Nat.beq r.1 1 && Nat.ble (sz_tot rest) 8 then some (rest, F, dirty, new, uw) else none
    | _ => none)
  else bif Nat.beq op 25 then (bif (Nat.beq a 2 && Nat.beq uw.1 0) && !new then some ((1, 1000000, []) :: st, (1000000, (0, []), (0, 0, [])) :: F, dirty, true, (1, uw.2 + b)) else none)
  else none
theorem az_hp_ok {X : List (List Value)} (hX : az_X X) {D : szD} {R : szR} {Cs : azS} {ρ : Nat → Int} (hV : az_V D R Cs ρ) {mods : List (Nat × Nat)} {h0 h : List mzC} {F F' : azF} {dirty dirty' : List Nat} {new new' : Bool} {uw uw' : Nat × Nat} {op a b : Nat} {c : Int} {sw : List (Int × Nat)} {st st' : List szV} (H : az_HR mods h0 ρ F dirty new uw.1 h) {bs s2 : Nat × Nat} (b1 : s2.1 ≤ bs.1 + uw.1) (b2 : s2.2 ≤ bs.2 + uw.2)
    (e : az_hp D R Cs mods F dirty new uw op a b c st = some (st', F', dirty', new', uw')) : ∃ h' s2', mz_heap X (op, a, b, c, sw) (st.map (sz_v ρ)) (h, s2) = some (st'.map (sz_v ρ), (h', s2')) ∧ az_HR mods h0 ρ F' dirty' new' uw'.1 h' ∧ s2'.1 ≤ bs.1 + uw'.1 ∧ s2'.2 ≤ bs.2 + uw'.2 := by
  unfold az_hp at e
  cases h_ : Nat.beq op 20 with
  | true =>
    rw [h_] at e; have h_ := Nat.eq_of_beq_eq_true h_; subst h_
    dsimp only [cond] at e
    split at e
    · rename_i z hz
      cases e
      exact ⟨h, s2, az_h20_ok H s2 hz, H, b1, b2⟩
    · cases e
  | false =>
  rw [h_] at e; clear h_
  cases h_ : Nat.beq op 22 with
  | true =>
    rw [h_] at e; have h_ := Nat.eq_of_beq_eq_true h_; subst h_
    dsimp only [cond] at e
    split at e
    · rename_i z hz
      cases e
      exact ⟨h, s2, az_h22_ok hX hV.2.1 hV.2.2.1 H s2 hz, H, b1, b2⟩
    · cases e
  | false =>
  rw [h_] at e; clear h_
  cases h_ : Nat.beq op 23 with
  | true =>
    rw [h_] at e; have h_ := Nat.eq_of_beq_eq_true h_; subst h_
    dsimp only [cond] at e
    split at e
    · rename_i z1 z2 z3 hz
      cases e
      obtain ⟨h', q1, q2⟩ := az_h23_ok hV H s2 hz
      exact ⟨h', s2, q1, q2, b1, b2⟩
    · cases e
  | false =>
  rw [h_] at e; clear h_
  cases h_ : Nat.beq op 21 with
  | true =>
    rw [h_] at e; have h_ := Nat.eq_of_beq_eq_true h_; subst h_
    dsimp only [cond] at e
    split at e
    · rename_i z1 z2 z3 hz
      cases e
      obtain ⟨h', q1, q2⟩ := az_h21_ok hV H s2 hz
      exact ⟨h', s2, q1, q2, b1, b2⟩
    · cases e
  | false =>
  rw [h_] at e; clear h_
  cases h_ : Nat.beq op 24 with
  | true =>
    rw [h_] at e; have h_ := Nat.eq_of_beq_eq_true h_; subst h_
    dsimp only [cond] at e
    split at e
    · rename_i z hz
      cases e
      exact ⟨h, s2, az_h24_ok hX H s2 hz, H, b1, b2⟩
    · cases e
  | false =>
  rw [h_] at e; clear h_
  cases h_ : Nat.beq op 30 with
  | true =>
    rw [h_] at e; have h_ := Nat.eq_of_beq_eq_true h_; subst h_
    dsimp only [cond] at e
    split at e
    · rename_i z1 z2 z3 hz
      cases e
      obtain ⟨h', q1, q2⟩ := az_h30_ok hV H s2 hz
      exact ⟨h', s2, q1, q2, b1, b2⟩
    · cases e
  | false =>
  rw [h_] at e; clear h_
  cases h_ : Nat.beq op 28 with
  | true =>
    rw [h_] at e; have h_ := Nat.eq_of_beq_eq_true h_; subst h_
    dsimp only [cond] at e
    cases hb : (Nat.ble 1 a && Nat.blt a 4) with
    | false => rw [hb] at e; cases e
    | true =>
      rw [hb] at e
      cases e
      rw [Bool.and_eq_true] at hb
      have q1 : 1 ≤ a := Nat.le_of_ble_eq_true hb.1
      have q2 : a < 4 := Nat.le_of_ble_eq_true hb.2
      refine ⟨h, s2, ?_, H, b1, b2⟩
      show (if 1 ≤ a ∧ a < 4 then some (Value.ref a :: st.map (sz_v ρ), (h, s2)) else none) = _
      rw [if_pos ⟨q1, q2⟩]
      show _ = some (Value.ref (if (Int.ofNat a) < 1000000 then (Int.ofNat a).toNat else _) :: st.map (sz_v ρ), (h, s2))
      rw [if_pos (by show ((a : Nat) : Int) < 1000000; omega)]
      rfl
  | false =>
  rw [h_] at e; clear h_
  cases h_ : Nat.beq op 29 with
  | true =>
    rw [h_] at e; have h_ := Nat.eq_of_beq_eq_true h_; subst h_
    dsimp only [cond] at e
    split at e
    · rename_i r rest
      cases hb : (Nat.beq r.1 1 && Nat.ble (sz_tot rest) 8) with
      | false => rw [hb] at e; cases e
      | true =>
        rw [hb] at e
        cases e
        rw [Bool.and_eq_true] at hb
        have q1 := Nat.eq_of_beq_eq_true hb.1
        have q2 : sz_tot st' ≤ 8 := Nat.le_of_ble_eq_true hb.2
        refine ⟨h, s2, ?_, H, b1, b2⟩
        show mz_h29 (sz_v ρ r :: st'.map (sz_v ρ)) (h, s2) = _
        have hv : ∃ n, sz_v ρ r = .ref n := ⟨_, sz_v1 q1⟩
        obtain ⟨n, hv⟩ := hv
        rw [hv]
        unfold mz_h29
        dsimp only
        have := sz_totv ρ st'
        unfold mz_sum at this
        rw [this, if_pos q2]
    · cases e
  | false =>
  rw [h_] at e; clear h_
  cases h_ : Nat.beq op 25 with
  | true =>
    rw [h_] at e; have h_ := Nat.eq_of_beq_eq_true h_; subst h_
    dsimp only [cond] at e
    cases hb : ((Nat.beq a 2 && Nat.beq uw.1 0) && !new) with
    | false => rw [hb] at e; cases e
    | true =>
      rw [hb] at e
      cases e
      simp only [Bool.and_eq_true] at hb
      obtain ⟨⟨q1, q2⟩, q3⟩ := hb
      have q1 := Nat.eq_of_beq_eq_true q1
      have q2 := Nat.eq_of_beq_eq_true q2
      have q3 : new = false := by cases new <;> simp_all
      subst q1
      subst q3
      rw [q2] at H b1
      obtain ⟨n1, n2⟩ := az_HR_new H
      refine ⟨_, (s2.1 + 1, s2.2 + b), ?_, n2, by dsimp only; omega, by dsimp only; omega⟩
      show some (Value.ref (4 + h.length) :: st.map (sz_v ρ), (h ++ [(2 * 2, mz_def 2)], s2.1 + 1, s2.2 + b)) = _
      rw [List.map_cons, n1]
      rfl
  | false =>
  rw [h_] at e; cases e
