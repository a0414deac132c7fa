/-! what is known, made finer -/
def az_T (D : szD) (ρ : Nat → Int) : Prop := ∀ k x y, D[k]? = some (0, x, y) → x.1 ≠ 0 → ∃ τ, azTs[x.1 - 1]? = some τ ∧ ∃ p ∈ τ.2.2, p.1 ≤ ρ k ∧ ρ k ≤ p.2
def az_V (D : szD) (R : szR) (Cs : azS) (ρ : Nat → Int) : Prop := sz_D D ρ ∧ sz_R R ρ ∧ az_S Cs ρ ∧ az_T D ρ ∧ ∀ k, -2147483648 ≤ ρ k ∧ ρ k ≤ 2147483647
/-- atoms below n alone -/
def az_lo (n : Nat) (t : szT) : Bool := t.all (fun q => Nat.blt q.1 n)
def az_wf (D : szD) (R : szR) (Cs : azS) : Prop := D.length = R.length ∧ R.length < 1000000 ∧ (∀ k o x y, D[k]? = some (o, x, y) → az_lo k x.2.2 = true ∧ az_lo k y.2.2 = true) ∧ ∀ f ∈ Cs, az_lo R.length f.2 = true
def az_ag (n : Nat) (ρ ρ' : Nat → Int) : Prop := (∀ k, k < n → ρ' k = ρ k) ∧ ρ' 1000000 = ρ 1000000
theorem az_lo_at {n : Nat} {t : szT} (h : az_lo n t = true) {q : Nat × Int} (hq : q ∈ t) : q.1 < n := Nat.le_of_ble_eq_true (List.all_eq_true.mp h q hq)
theorem az_lo_le {n m : Nat} (hnm : n ≤ m) {t : szT} (h : az_lo n t = true) : az_lo m t = true := List.all_eq_true.mpr (fun q hq => Nat.ble_eq_true_of_le (Nat.lt_of_lt_of_le (az_lo_at h hq) hnm))
theorem az_sum_ag {n : Nat} {ρ ρ' : Nat → Int} (h : az_ag n ρ ρ') : ∀ {t : szT}, az_lo n t = true → sz_sum ρ' t = sz_sum ρ t
  | [], _ => rfl
  | q :: t, ht => by
    unfold sz_sum
    rw [h.1 _ (az_lo_at ht List.mem_cons_self), az_sum_ag h (t := t) (List.all_eq_true.mpr (fun p hp => List.all_eq_true.mp ht p (List.mem_cons_of_mem _ hp)))]
theorem az_i_ag {n : Nat} {ρ ρ' : Nat → Int} (h : az_ag n ρ ρ') {v : szV} (hv : az_lo n v.2.2 = true) : sz_i ρ' v = sz_i ρ v := by unfold sz_i; rw [az_sum_ag h hv]
theorem az_v_ag {n : Nat} {ρ ρ' : Nat → Int} (h : az_ag n ρ ρ') {v : szV} (hv : az_lo n v.2.2 = true) : sz_v ρ' v = sz_v ρ v := by
  unfold sz_v
  rw [az_i_ag h hv, az_sum_ag h hv, h.2]
theorem az_ag_refl (n : Nat) (ρ : Nat → Int) : az_ag n ρ ρ := ⟨fun _ _ => rfl, rfl⟩
theorem az_ag_trans {n m : Nat} (hnm : n ≤ m) {ρ ρ' ρ'' : Nat → Int} (h1 : az_ag n ρ ρ') (h2 : az_ag m ρ' ρ'') : az_ag n ρ ρ'' := ⟨fun k hk => by rw [h2.1 k (by omega), h1.1 k hk], by rw [h2.2, h1.2]⟩
/-- one atom more -/
def az_up (ρ : Nat → Int) (n : Nat) (x : Int) : Nat → Int := fun k => if k = n then x else ρ k
theorem az_up_ag {ρ : Nat → Int} {n : Nat} {x : Int} (hn : n < 1000000) : az_ag n ρ (az_up ρ n x) := ⟨fun k hk => if_neg (by omega), if_neg (by omega)⟩
theorem az_fresh {D : szD} {R : szR} {Cs : azS} {ρ : Nat → Int} (hV : az_V D R Cs ρ) (hW : az_wf D R Cs) {d : Nat × szV × szV} {p : Int × Int} {x : Int} (hn : R.length + 1 < 1000000)
    (hb : -2147483648 ≤ x ∧ x ≤ 2147483647) (hp : p.1 ≤ x ∧ x ≤ p.2) (hl1 : az_lo R.length d.2.1.2.2 = true) (hl2 : az_lo R.length d.2.2.2.2 = true)
    (hd : d.1 ≠ 0 → x = (sz_op d.1 (sz_i ρ d.2.1) (sz_i ρ d.2.2)).toInt) (hT : d.1 = 0 → d.2.1.1 ≠ 0 → ∃ τ, azTs[d.2.1.1 - 1]? = some τ ∧ ∃ q ∈ τ.2.2, q.1 ≤ x ∧ x ≤ q.2) :
    az_V (D ++ [d]) (R ++ [p]) Cs (az_up ρ R.length x) ∧ az_wf (D ++ [d]) (R ++ [p]) Cs ∧ az_ag R.length ρ (az_up ρ R.length x) := by
  obtain ⟨V1, V2, V3, V4, V5⟩ := hV
  obtain ⟨W1, W2, W3, W4⟩ := hW
  have hag : az_ag R.length ρ (az_up ρ R.length x) := az_up_ag (by omega)
  have hself : az_up ρ R.length x R.length = x := if_pos rfl
  have hold : ∀ k o a b, (D ++ [d])[k]? = some (o, a, b) → (k < R.length ∧ D[k]? = some (o, a, b)) ∨ (k = R.length ∧ d = (o, a, b)) := by
    intro k o a b h
    rcases Nat.lt_or_ge k D.length with hk | hk
    · rw [List.getElem?_append_left hk] at h
      exact Or.inl ⟨by omega, h⟩
    · rw [List.getElem?_append_right hk] at h
      have hk0 : k - D.length = 0 := by
        rcases Nat.eq_zero_or_pos (k - D.length) with e | e
        · exact e
        · rw [List.getElem?_eq_none (show [d].length ≤ k - D.length from e)] at h; cases h
      rw [hk0] at h
      have h : some d = some (o, a, b) := h
      cases h
      exact Or.inr ⟨by omega, rfl⟩
  refine ⟨⟨?_, ?_, ?_, ?_, ?_⟩, ⟨?_, ?_, ?_, ?_⟩, hag⟩
  · intro k o a b h ho
    rcases hold k o a b h with ⟨hk, h⟩ | ⟨hk, h⟩
    · obtain ⟨w1, w2⟩ := W3 k o a b h
      rw [hag.1 k hk, V1 k o a b h ho, az_i_ag hag (az_lo_le (Nat.le_of_lt hk) w1), az_i_ag hag (az_lo_le (Nat.le_of_lt hk) w2)]
    · subst h
      subst hk
      rw [hself, az_i_ag hag hl1, az_i_ag hag hl2]
      exact hd ho
  · intro k
    unfold sz_at
    rw [List.getD_eq_getElem?_getD]
    rcases Nat.lt_or_ge k R.length with hk | hk
    · rw [List.getElem?_append_left hk, hag.1 k hk]
      have := V2 k
      unfold sz_at at this
      rw [List.getD_eq_getElem?_getD] at this
      exact this
    · rw [List.getElem?_append_right hk]
      rcases Nat.eq_zero_or_pos (k - R.length) with e | e
      · rw [e, show k = R.length by omega, hself]
        exact hp
      · rw [List.getElem?_eq_none (show [p].length ≤ k - R.length from e)]
        show -2147483648 ≤ az_up ρ R.length x k ∧ _
        rw [show az_up ρ R.length x k = ρ k from if_neg (by omega)]
        exact V5 k
  · intro f hf
    rw [az_sum_ag hag (W4 f hf)]
    exact V3 f hf
  · intro k a b h ha
    rcases hold k 0 a b h with ⟨hk, h⟩ | ⟨hk, h⟩
    · rw [hag.1 k hk]
      exact V4 k a b h ha
    · subst h
      subst hk
      rw [hself]
      exact hT rfl ha
  · intro k
    by_cases hk : k = R.length
    · rw [hk, hself]; exact hb
    · rw [show az_up ρ R.length x k = ρ k from if_neg hk]
      exact V5 k
  · rw [List.length_append, List.length_append, W1]; rfl
  · rw [List.length_append]; exact hn
  · intro k o a b h
    rcases hold k o a b h with ⟨hk, h⟩ | ⟨hk, h⟩
    · exact W3 k o a b h
    · subst h
      subst hk
      exact ⟨hl1, hl2⟩
  · intro f hf
    rw [List.length_append]
    exact az_lo_le (Nat.le_add_right _ _) (W4 f hf)
/-- a range made smaller -/
theorem az_upl_len {α : Type} (z v : α) : ∀ (i : Nat) (l : List α), i < l.length → (sz_upl z i v l).length = l.length
  | _, [], h => by cases h
  | 0, _ :: _, _ => rfl
  | i + 1, a :: l, h => by
    rw [sz_upl_cons]
    show (sz_upl z i v l).length + 1 = l.length + 1
    rw [az_upl_len z v i l (by simpa using h)]
theorem az_R_up {R : szR} {ρ : Nat → Int} (hB : ∀ k, -2147483648 ≤ ρ k ∧ ρ k ≤ 2147483647) (hR : sz_R R ρ) {k : Nat} {p : Int × Int} (h : p.1 ≤ ρ k ∧ ρ k ≤ p.2) : sz_R (sz_upl (-2147483648, 2147483647) k p R) ρ := by
  intro k'
  unfold sz_at
  rw [List.getD_eq_getElem?_getD]
  cases hq : (sz_upl (-2147483648, 2147483647) k p R)[k']? with
  | none => exact hB k'
  | some w =>
    show w.1 ≤ ρ k' ∧ ρ k' ≤ w.2
    rcases sz_upl_at _ _ _ _ _ _ hq with ⟨e1, e2⟩ | ⟨e1, e2 | e2⟩
    · rw [e1, e2]; exact h
    · have := hR k'
      unfold sz_at at this
      rw [List.getD_eq_getElem?_getD, e2] at this
      exact this
    · rw [e2]; exact hB k'
/-- a range by what the atom's type says -/
noncomputable def az_rng (D : szD) (k : Nat) (l h : Int) : Option (Int × Int) := match sz_nth D k with
  | some (0, (g + 1, _), _) => match sz_nth azTs g with
    | some τ => az_iv l h τ.2.2
    | none => none
  | _ => if l ≤ h then some (l, h) else none
theorem az_rng_ok {D : szD} {ρ : Nat → Int} (hT : az_T D ρ) {k : Nat} {l h : Int} (h1 : l ≤ ρ k) (h2 : ρ k ≤ h) : ∃ q, az_rng D k l h = some q ∧ q.1 ≤ ρ k ∧ ρ k ≤ q.2 := by
  unfold az_rng
  rw [sz_nth_eq]
  split
  · rename_i g a b hD
    obtain ⟨τ, t1, t2⟩ := hT k (g + 1, a) b hD (by simp)
    have t1 : azTs[g]? = some τ := t1
    rw [sz_nth_eq, t1]
    exact az_iv_ok h1 h2 t2
  · rw [if_pos (by omega)]
    exact ⟨_, rfl, h1, h2⟩
noncomputable def az_set (R : szR) (k : Nat) (q : Option (Int × Int)) : Option szR := match q with
  | none => none
  | some (l, h) => sz_fi l (fun l => sz_fi h (fun h => sz_upk (-2147483648, 2147483647) k (l, h) R (fun R => some R)))
/-- an atom of a sum that is at least 0 -/
noncomputable def az_tg1 (D : szD) (c : Int) (t : szT) (k : Nat) (R : szR) : Option szR := sz_fi (az_co k t) (fun a => sz_fi (c + (sz_rs R (az_rm k t)).2) (fun e =>
  if a = 0 ∨ R.length ≤ k then some R
  else if 0 < a then (if (sz_at R k).1 < -(e / a) then az_set R k (az_rng D k (-(e / a)) (sz_at R k).2) else some R)
  else (if e / (-a) < (sz_at R k).2 then az_set R k (az_rng D k (sz_at R k).1 (e / (-a))) else some R)))
theorem az_set_ok {R : szR} {ρ : Nat → Int} (hB : ∀ k, -2147483648 ≤ ρ k ∧ ρ k ≤ 2147483647) (hR : sz_R R ρ) {k : Nat} (hk : k < R.length) {q : Int × Int} (h : q.1 ≤ ρ k ∧ ρ k ≤ q.2) : ∃ R', az_set R k (some q) = some R' ∧ sz_R R' ρ ∧ R'.length = R.length := by
  unfold az_set
  dsimp only
  rw [sz_fi_eq, sz_fi_eq, sz_upk_eq]
  exact ⟨_, rfl, az_R_up hB hR h, az_upl_len _ _ _ _ hk⟩
theorem az_tg1_ok {D : szD} {R : szR} {ρ : Nat → Int} (hB : ∀ k, -2147483648 ≤ ρ k ∧ ρ k ≤ 2147483647) (hT : az_T D ρ) (hR : sz_R R ρ) {c : Int} {t : szT} (h : 0 ≤ c + sz_sum ρ t) (k : Nat) : ∃ R', az_tg1 D c t k R = some R' ∧ sz_R R' ρ ∧ R'.length = R.length := by
  unfold az_tg1
  rw [sz_fi_eq, sz_fi_eq]
  have h1 := az_co_rm ρ k t
  have h2 := (sz_rs_ok hR (az_rm k t)).2
  have hk := hR k
  generalize hE : c + (sz_rs R (az_rm k t)).2 = e
  generalize hA : az_co k t = a at h1
  have h3 : 0 ≤ e + a * ρ k := by omega
  split
  · exact ⟨R, rfl, hR, rfl⟩
  · rename_i h0
    have hkl : k < R.length := by omega
    have ha0 : a ≠ 0 := fun h => h0 (Or.inl h)
    split
    · rename_i ha
      split
      · have hge : -(e / a) ≤ ρ k := by
          have h4 : -(ρ k) * a ≤ e := by rw [Int.neg_mul, Int.mul_comm]; omega
          have h5 := (Int.le_ediv_iff_mul_le ha).mpr h4
          omega
        obtain ⟨q, q1, q2⟩ := az_rng_ok hT hge hk.2
        rw [q1]
        exact az_set_ok hB hR hkl q2
      · exact ⟨R, rfl, hR, rfl⟩
    · rename_i ha
      split
      · have hle : ρ k ≤ e / (-a) := by
          refine (Int.le_ediv_iff_mul_le (by omega)).mpr ?_
          rw [Int.mul_neg, Int.mul_comm]
          omega
        obtain ⟨q, q1, q2⟩ := az_rng_ok hT hk.1 hle
        rw [q1]
        exact az_set_ok hB hR hkl q2
      · exact ⟨R, rfl, hR, rfl⟩
noncomputable def az_tgs (D : szD) (c : Int) (t : szT) : szT → szR → Option szR
  | [], R => some R
  | q :: u, R => match az_tg1 D c t q.1 R with
    | some R => az_tgs D c t u R
    | none => none
theorem az_tgs_ok {D : szD} {ρ : Nat → Int} (hB : ∀ k, -2147483648 ≤ ρ k ∧ ρ k ≤ 2147483647) (hT : az_T D ρ) {c : Int} {t : szT} (h : 0 ≤ c + sz_sum ρ t) : ∀ (u : szT) (R : szR), sz_R R ρ → ∃ R', az_tgs D c t u R = some R' ∧ sz_R R' ρ ∧ R'.length = R.length
  | [], R, hR => ⟨R, rfl, hR, rfl⟩
  | q :: u, R, hR => by
    obtain ⟨R1, a1, a2, a3⟩ := az_tg1_ok hB hT hR h q.1
    obtain ⟨R2, b1, b2, b3⟩ := az_tgs_ok hB hT h u R1 a2
    refine ⟨R2, ?_, b2, by omega⟩
    unfold az_tgs
    rw [a1]
    exact b1
/-- c + t is at least 0: none, where it can't be -/
noncomputable def az_asm (D : szD) (R : szR) (Cs : azS) (c : Int) (t : szT) : Option (szR × azS) := match az_tgs D c t t R with
  | none => none
  | some R => match t with
    | [_] => some (R, Cs)
    | t => some (R, (c, t) :: Cs)
theorem az_asm_ok {D : szD} {R : szR} {Cs : azS} {ρ : Nat → Int} (hV : az_V D R Cs ρ) (hW : az_wf D R Cs) {c : Int} {t : szT} (hl : az_lo R.length t = true) (h : 0 ≤ c + sz_sum ρ t) : ∃ q, az_asm D R Cs c t = some q ∧ az_V D q.1 q.2 ρ ∧ az_wf D q.1 q.2 ∧ q.1.length = R.length := by
  obtain ⟨V1, V2, V3, V4, V5⟩ := hV
  obtain ⟨W1, W2, W3, W4⟩ := hW
  obtain ⟨R', r1, r2, r3⟩ := az_tgs_ok V5 V4 h t R V2
  unfold az_asm
  rw [r1]
  dsimp only
  have hC : az_S ((c, t) :: Cs) ρ := fun f hf => by
    rcases List.mem_cons.mp hf with e | e
    · subst e; exact h
    · exact V3 f e
  have hC2 : ∀ f ∈ (c, t) :: Cs, az_lo R'.length f.2 = true := fun f hf => by
    rw [r3]
    rcases List.mem_cons.mp hf with e | e
    · subst e; exact hl
    · exact W4 f e
  split
  · exact ⟨_, rfl, ⟨V1, r2, V3, V4, V5⟩, ⟨by rw [W1, r3], by rw [r3]; exact W2, W3, fun f hf => by rw [r3]; exact W4 f hf⟩, r3⟩
  · exact ⟨_, rfl, ⟨V1, r2, hC, V4, V5⟩, ⟨by rw [W1, r3], by rw [r3]; exact W2, W3, hC2⟩, r3⟩
