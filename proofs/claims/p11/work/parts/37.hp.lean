/-! pairs, and a write to one slot -/
noncomputable def az_asc : List (Nat × List Nat) → Nat → List Nat
  | [], _ => []
  | q :: r, c => bif Nat.beq q.1 c then q.2 else az_asc r c
noncomputable def az_pof (c : Nat) : List Nat := az_asc azPt c
/-- the table of pairs by cells is whole -/
noncomputable def az_ptok : List azP → Nat → Bool
  | [], _ => true
  | p :: r, i => ((az_pof p.1).any (fun k => Nat.beq k i) && (az_pof p.2.2.2.1).any (fun k => Nat.beq k i)) && ((Nat.blt p.1 azL.length && Nat.blt p.2.2.2.1 azL.length) && az_ptok r (i + 1))
theorem az_ptok_ok : ∀ {ps : List azP} {n : Nat}, az_ptok ps n = true → ∀ i p, ps[i]? = some p → n + i ∈ az_pof p.1 ∧ n + i ∈ az_pof p.2.2.2.1 ∧ p.1 < azL.length ∧ p.2.2.2.1 < azL.length
  | [], _, _, i, p, h => by simp at h
  | q :: ps, n, h, i, p, hp => by
    unfold az_ptok at h
    simp only [Bool.and_eq_true] at h
    obtain ⟨⟨h1, h2⟩, ⟨h3, h4⟩, h5⟩ := h
    match i, hp with
    | 0, hp =>
      cases hp
      obtain ⟨a, a1, a2⟩ := List.any_eq_true.mp h1
      obtain ⟨b, b1, b2⟩ := List.any_eq_true.mp h2
      have a2 := Nat.eq_of_beq_eq_true a2
      have b2 := Nat.eq_of_beq_eq_true b2
      subst a2
      subst b2
      exact ⟨a1, b1, Nat.le_of_ble_eq_true h3, Nat.le_of_ble_eq_true h4⟩
    | i + 1, hp =>
      have := az_ptok_ok h5 i p (by simpa using hp)
      rw [show n + (i + 1) = n + 1 + i by omega]
      exact this
theorem az_pt_ok : az_ptok azPs 0 = true := by decide +kernel
theorem az_pt {i : Nat} {p : azP} (h : azPs[i]? = some p) : i ∈ az_pof p.1 ∧ i ∈ az_pof p.2.2.2.1 ∧ p.1 < azL.length ∧ p.2.2.2.1 < azL.length := by
  have := az_ptok_ok az_pt_ok i p h
  rwa [Nat.zero_add] at this
/-- a pair that the facts show -/
noncomputable def az_pf (F : azF) (p : azP) : Option (szV × szV) := match az_fget p.1 (Int.ofNat p.2.1, []) F, az_fget p.2.2.2.1 (Int.ofNat p.2.2.2.2.1, []) F with
  | some x, some y => some (x, y)
  | _, _ => none
noncomputable def az_pc (p : azP) (x y : szV) : Int × szT := (p.2.2.1 * x.2.1 + p.2.2.2.2.2.1 * y.2.1 + p.2.2.2.2.2.2, sz_add (sz_sc p.2.2.1 x.2.2) (sz_sc p.2.2.2.2.2.1 y.2.2))
noncomputable def az_pok (R : szR) (Cs : azS) (F : azF) (p : azP) : Bool := match az_pf F p with
  | some (x, y) => ((Nat.beq x.1 0 && Nat.beq y.1 0) && (az_nw R Cs x && az_nw R Cs y)) && ((Nat.blt p.2.1 1000000 && Nat.blt p.2.2.2.2.1 1000000) && decide (0 ≤ az_lb R Cs (az_pc p x y).1 (az_pc p x y).2))
  | none => false
theorem az_pc_sum (ρ : Nat → Int) (p : azP) (x y : szV) : (az_pc p x y).1 + sz_sum ρ (az_pc p x y).2 = p.2.2.1 * (x.2.1 + sz_sum ρ x.2.2) + p.2.2.2.2.2.1 * (y.2.1 + sz_sum ρ y.2.2) + p.2.2.2.2.2.2 := by
  unfold az_pc
  rw [sz_sum_add, sz_sum_sc, sz_sum_sc, Int.mul_add, Int.mul_add]
  omega
theorem az_nat_ix {ρ : Nat → Int} {k : Nat} (hk : k < 1000000) : (sz_i ρ (0, (Int.ofNat k, []))).toInt = (k : Int) := by
  rw [show sz_i ρ (0, (Int.ofNat k, [])) = Int32.ofInt (k : Int) from sz_i_const ρ 0 _, sz_toInt]
  exact sz_w_id (by omega) (by omega)
theorem az_fact_at {ρ : Nat → Int} {h : List mzC} {new : Bool} {F : azF} (hF : az_HF ρ h new F) {c k : Nat} {v : szV} (hk : k < 1000000) (hf : az_fget c (Int.ofNat k, []) F = some v) : az_vc new c ∧ az_slot h (az_c ρ c) k = some (sz_v ρ v) := by
  obtain ⟨f1, f2, f3⟩ := hF _ (az_fget_ok hf)
  dsimp only at f1 f2 f3
  rw [az_nat_ix hk] at f3
  exact ⟨f1, f3⟩
theorem az_pok_ok {R : szR} {Cs : azS} {ρ : Nat → Int} (hR : sz_R R ρ) (hC : az_S Cs ρ) {h : List mzC} {new : Bool} {F : azF} (hF : az_HF ρ h new F) {p : azP} (h1 : p.1 < azL.length) (h2 : p.2.2.2.1 < azL.length) (hp : az_pok R Cs F p = true) : az_HP1 h p := by
  unfold az_pok at hp
  split at hp
  · rename_i x y hxy
    unfold az_pf at hxy
    split at hxy
    · rename_i x' y' hx hy
      cases hxy
      simp only [Bool.and_eq_true, decide_eq_true_eq] at hp
      obtain ⟨⟨⟨t1, t2⟩, n1, n2⟩, ⟨b1, b2⟩, hl⟩ := hp
      have hL := azL_len
      obtain ⟨_, s1⟩ := az_fact_at hF (Nat.le_of_ble_eq_true b1) hx
      obtain ⟨_, s2⟩ := az_fact_at hF (Nat.le_of_ble_eq_true b2) hy
      rw [sz_vi (Nat.eq_of_beq_eq_true t1)] at s1
      rw [sz_vi (Nat.eq_of_beq_eq_true t2)] at s2
      rw [show az_c ρ p.1 = p.1 from if_neg (by omega)] at s1
      rw [show az_c ρ p.2.2.2.1 = p.2.2.2.1 from if_neg (by omega)] at s2
      refine ⟨_, _, s1, s2, ?_⟩
      rw [az_nw_ok hR hC n1, az_nw_ok hR hC n2, ← az_pc_sum]
      have := az_lb_ok hR hC (az_pc p x y).1 (az_pc p x y).2
      omega
    · cases hxy
  · cases hp
/-- dirty pairs behind a write: sel says which are touched -/
noncomputable def az_dt (R : szR) (Cs : azS) (F : azF) (sel : azP → Bool) : List Nat → List Nat → List Nat
  | [], d => d
  | i :: r, d => match sz_nth azPs i with
    | some p => bif sel p then (bif az_pok R Cs F p then az_dt R Cs F sel r (d.filter (fun k => !(Nat.beq k i))) else az_dt R Cs F sel r (i :: d)) else az_dt R Cs F sel r d
    | none => az_dt R Cs F sel r d
theorem az_dt_ok {R : szR} {Cs : azS} {F : azF} {sel : azP → Bool} : ∀ {ids d : List Nat} {i : Nat} {p : azP}, azPs[i]? = some p → i ∉ az_dt R Cs F sel ids d → (sel p = true ∧ az_pok R Cs F p = true) ∨ (i ∉ d ∧ (i ∈ ids → sel p = false))
  | [], d, i, p, _, h => Or.inr ⟨h, fun hi => by cases hi⟩
  | n :: r, d, i, p, hp, h => by
    unfold az_dt at h
    rw [sz_nth_eq] at h
    by_cases hin : n = i
    · subst hin
      rw [hp] at h
      dsimp only at h
      cases hs : sel p with
      | false =>
        rw [hs] at h
        rcases az_dt_ok hp h with ⟨h1, h2⟩ | ⟨h1, h2⟩
        · rw [hs] at h1; cases h1
        · exact Or.inr ⟨h1, fun _ => rfl⟩
      | true =>
        rw [hs] at h
        cases hk : az_pok R Cs F p with
        | true => exact Or.inl ⟨rfl, rfl⟩
        | false =>
          rw [hk] at h
          rcases az_dt_ok hp h with ⟨h1, h2⟩ | ⟨h1, h2⟩
          · rw [hk] at h2; cases h2
          · exact absurd List.mem_cons_self h1
    · have hstep : ∀ d', (i ∉ d' → i ∉ d) → i ∉ az_dt R Cs F sel r d' → (sel p = true ∧ az_pok R Cs F p = true) ∨ (i ∉ d ∧ (i ∈ n :: r → sel p = false)) := by
        intro d' hd h
        rcases az_dt_ok hp h with h1 | ⟨h1, h2⟩
        · exact Or.inl h1
        · refine Or.inr ⟨hd h1, fun hi => ?_⟩
          rcases List.mem_cons.mp hi with e | e
          · exact absurd e.symm hin
          · exact h2 e
      split at h
      · rename_i q hq
        cases hs : sel q with
        | false => rw [hs] at h; exact hstep d id h
        | true =>
          rw [hs] at h
          cases hk : az_pok R Cs F q with
          | true =>
            rw [hk] at h
            refine hstep _ (fun hh hd => hh ?_) h
            refine List.mem_filter.mpr ⟨hd, ?_⟩
            have : Nat.beq i n = false := by
              cases hb : Nat.beq i n with
              | false => rfl
              | true => exact absurd (Nat.eq_of_beq_eq_true hb).symm hin
            rw [this]
            rfl
          | false =>
            rw [hk] at h
            exact hstep _ (fun hh hd => hh (List.mem_cons_of_mem _ hd)) h
      · exact hstep d id h
theorem az_keep_ok {R : szR} {Cs : azS} {ρ : Nat → Int} (hR : sz_R R ρ) (hC : az_S Cs ρ) {c : Nat} {ix : Int × szT} {q : Nat × (Int × szT) × szV} (h : az_keep R Cs c ix q = true) : q.1 ≠ c ∨ (sz_i ρ (0, q.2.1)).toInt ≠ (sz_i ρ (0, ix)).toInt := by
  unfold az_keep at h
  cases hb : Nat.beq q.1 c with
  | false => exact Or.inl (fun e => by rw [e] at hb; rw [Nat.beq_refl] at hb; cases hb)
  | true =>
    rw [hb] at h
    dsimp only [cond] at h
    cases hn : (az_nw R Cs (0, ix) && az_nw R Cs (0, q.2.1)) with
    | false => rw [hn] at h; cases h
    | true =>
      rw [hn] at h
      dsimp only at h
      rw [Bool.and_eq_true] at hn
      have e1 := az_nw_ok hR hC hn.1
      have e2 := az_nw_ok hR hC hn.2
      dsimp only at e1 e2
      rw [Bool.or_eq_true, decide_eq_true_eq, decide_eq_true_eq] at h
      have l1 := az_lb_ok hR hC (ix.1 - q.2.1.1) (sz_add ix.2 (sz_sc (-1) q.2.1.2))
      have l2 := az_ub_ok hR hC (ix.1 - q.2.1.1) (sz_add ix.2 (sz_sc (-1) q.2.1.2))
      rw [sz_sum_add, sz_sum_sc] at l1 l2
      right
      rw [e1, e2]
      omega
def az_touch (c k : Nat) (p : azP) : Bool := (Nat.beq p.1 c && Nat.beq p.2.1 k) || (Nat.beq p.2.2.2.1 c && Nat.beq p.2.2.2.2.1 k)

/-- a pair whose second slot is written: its old truth gives its new one -/
noncomputable def az_po2 (R : szR) (Cs : azS) (p : azP) (o v : szV) : Bool := ((Nat.beq o.1 0 && Nat.beq v.1 0) && (az_nw R Cs o && az_nw R Cs v)) && (decide (0 ≤ az_lb R Cs (p.2.2.2.2.2.1 * v.2.1 - p.2.2.2.2.2.1 * o.2.1) (sz_add (sz_sc p.2.2.2.2.2.1 v.2.2) (sz_sc (-p.2.2.2.2.2.1) o.2.2))) || (match az_k R Cs o, az_k R Cs v with
  | some y, some z => decide (0 < p.2.2.1) && decide (0 ≤ p.2.2.1 * (-((p.2.2.2.2.2.1 * y + p.2.2.2.2.2.2) / p.2.2.1)) + p.2.2.2.2.2.1 * z + p.2.2.2.2.2.2)
  | _, _ => false))
theorem az_po2_ok {R : szR} {Cs : azS} {ρ : Nat → Int} (hR : sz_R R ρ) (hC : az_S Cs ρ) {p : azP} {o v : szV} (h : az_po2 R Cs p o v = true) : (o.1 = 0 ∧ v.1 = 0) ∧ ∀ x : Int, 0 ≤ p.2.2.1 * x + p.2.2.2.2.2.1 * (sz_i ρ o).toInt + p.2.2.2.2.2.2 → 0 ≤ p.2.2.1 * x + p.2.2.2.2.2.1 * (sz_i ρ v).toInt + p.2.2.2.2.2.2 := by
  unfold az_po2 at h
  rw [Bool.and_eq_true, Bool.and_eq_true, Bool.and_eq_true, Bool.and_eq_true, Bool.or_eq_true, decide_eq_true_eq] at h
  obtain ⟨⟨⟨t1, t2⟩, n1, n2⟩, h⟩ := h
  refine ⟨⟨Nat.eq_of_beq_eq_true t1, Nat.eq_of_beq_eq_true t2⟩, fun x hx => ?_⟩
  rcases h with h | h
  · have q := Int.le_trans h (az_lb_ok hR hC (p.2.2.2.2.2.1 * v.2.1 - p.2.2.2.2.2.1 * o.2.1) (sz_add (sz_sc p.2.2.2.2.2.1 v.2.2) (sz_sc (-p.2.2.2.2.2.1) o.2.2)))
    rw [sz_sum_add, sz_sum_sc, sz_sum_sc, Int.neg_mul] at q
    rw [az_nw_ok hR hC n1, Int.mul_add] at hx
    rw [az_nw_ok hR hC n2, Int.mul_add]
    omega
  · split at h
    · rename_i y z hy hz
      rw [Bool.and_eq_true, decide_eq_true_eq, decide_eq_true_eq] at h
      obtain ⟨ha, h⟩ := h
      rw [(az_k_ok hR hC hy).2.2.2.2] at hx
      rw [(az_k_ok hR hC hz).2.2.2.2]
      generalize hE : p.2.2.2.2.2.1 * y + p.2.2.2.2.2.2 = E at h
      have e1 := Int.mul_ediv_add_emod E p.2.2.1
      have e2 := Int.emod_lt_of_pos E ha
      have hq : -(E / p.2.2.1) ≤ x := by
        apply Int.not_lt.mp
        intro hlt
        have h1 : x ≤ -(E / p.2.2.1) - 1 := by omega
        have h2 := Int.mul_le_mul_of_nonneg_left h1 (Int.le_of_lt ha)
        rw [Int.mul_sub, Int.mul_neg, Int.mul_one] at h2
        omega
      have h3 := Int.mul_le_mul_of_nonneg_left hq (Int.le_of_lt ha)
      omega
    · cases h
noncomputable def az_po3 (R : szR) (Cs : azS) (F F' : azF) (c k i : Nat) : Bool := match sz_nth azPs i with
  | some p => ((Nat.beq p.2.2.2.1 c && Nat.beq p.2.2.2.2.1 k) && !(Nat.beq p.1 c && Nat.beq p.2.1 k)) && (match az_fget c (Int.ofNat k, []) F, az_fget c (Int.ofNat k, []) F' with
    | some o, some v => az_po2 R Cs p o v
    | _, _ => false)
  | none => false
noncomputable def az_dt2 (R : szR) (Cs : azS) (F F' : azF) (c k : Nat) (dirty : List Nat) : List Nat := (az_dt R Cs F' (az_touch c k) (az_pof c) dirty).filter (fun i => dirty.any (fun n => Nat.beq n i) || !(az_po3 R Cs F F' c k i))
theorem az_dt2_nil {R : szR} {Cs : azS} {F F' : azF} {c k : Nat} {dirty : List Nat} (hp : az_pof c = []) : az_dt2 R Cs F F' c k dirty = dirty := by
  unfold az_dt2
  rw [hp]
  show dirty.filter _ = dirty
  refine List.filter_eq_self.mpr (fun i hi => ?_)
  rw [Bool.or_eq_true]
  exact Or.inl (List.any_eq_true.mpr ⟨i, hi, Nat.beq_refl i⟩)
theorem az_HR_put {D : szD} {R : szR} {Cs : azS} {ρ : Nat → Int} (hV : az_V D R Cs ρ) {mods : List (Nat × Nat)} {h0 h : List mzC} {F F' : azF} {dirty : List Nat} {new : Bool} {u : Nat} (H : az_HR mods h0 ρ F dirty new u h) {c k : Nat} {C : azC} {τ : azTy} (hc : az_cell c = some C) (hn : c = 1000000 → new = true) (ht : az_ty C k = some τ) {w : Value} (hw : az_in τ w) (hm : c ≠ 1000000 → az_md mods c k = true)
    {fs : List Value} (hr : h[az_c ρ c]? = some (C.1, fs)) (hk : k < 1000000)
    (hF : ∀ q ∈ F', (q ∈ F ∧ (q.1 ≠ c ∨ (sz_i ρ (0, q.2.1)).toInt ≠ (k : Int))) ∨ (q.1 = c ∧ (sz_i ρ (0, q.2.1)).toInt = (k : Int) ∧ sz_v ρ q.2.2 = w)) :
    az_HR mods h0 ρ F' (az_dt2 R Cs F F' c k dirty) new u (h.set (az_c ρ c) (C.1, fs.set k w)) := by
  have hcl : az_vc new c := (az_cell_lt hc).imp id (fun e => ⟨e, hn e⟩)
  have hL := azL_len
  obtain ⟨fs', g1, g2, g3⟩ := az_cell_ok H hc hn
  rw [hr] at g1
  cases g1
  have hkl : k < fs.length := by have := az_ty_lt ht; omega
  have hFF : ∀ q ∈ F', az_vc new q.1 ∧ 0 ≤ (sz_i ρ (0, q.2.1)).toInt ∧ ((q ∈ F ∧ q.1 ≠ c) ∨ (q.1 = c ∧ (fs.set k w)[(sz_i ρ (0, q.2.1)).toInt.toNat]? = some (sz_v ρ q.2.2))) := by
    intro q hq
    rcases hF q hq with ⟨h1, h2⟩ | ⟨h1, h2, h3⟩
    · obtain ⟨f1, f2, f3⟩ := H.2.2.1 q h1
      refine ⟨f1, f2, ?_⟩
      by_cases e : q.1 = c
      · refine Or.inr ⟨e, ?_⟩
        have hne : (sz_i ρ (0, q.2.1)).toInt ≠ (k : Int) := by
          rcases h2 with h2 | h2
          · exact absurd e h2
          · exact h2
        rw [List.getElem?_set_ne (by omega)]
        unfold az_slot at f3
        rw [e, hr] at f3
        exact f3
      · exact Or.inl ⟨h1, e⟩
    · refine ⟨by rw [h1]; exact hcl, by omega, Or.inr ⟨h1, ?_⟩⟩
      rw [h2, Int.toNat_natCast, List.getElem?_set_self hkl, h3]
  have hset := fun {d'} hP => az_HR_set (dirty' := d') (by omega) H hc hn hr (fs' := fs.set k w) (by rw [List.length_set]; exact g2) (fun k' τ' ht' => ?_) (fun hcM k' hmd => ?_) hFF hP
  · refine hset (fun i p hp hi => ?_)
    obtain ⟨p1, p2, p3, p4⟩ := az_pt hp
    have hslot : ∀ c' k', c' < azL.length → ¬ (c' = c ∧ k' = k) → az_slot (h.set (az_c ρ c) (C.1, fs.set k w)) c' k' = az_slot h c' k' := by
      intro c' k' hc' hne
      rw [az_slot_set hr]
      by_cases e : c' = az_c ρ c
      · have e3 : c' = c := az_c_inj H.2.1 (by omega) (Or.inl hc') hcl (by rw [show az_c ρ c' = c' from if_neg (by omega)]; exact e)
        rw [if_pos e, List.getElem?_set_ne (fun e2 => hne ⟨e3, e2.symm⟩)]
        unfold az_slot
        rw [e, hr]
      · rw [if_neg e]
    have hHF : az_HF ρ (h.set (az_c ρ c) (C.1, fs.set k w)) new F' := by
      intro q hq
      obtain ⟨f1, f2, f3⟩ := hFF q hq
      refine ⟨f1, f2, ?_⟩
      rw [az_slot_set hr]
      rcases f3 with ⟨f3, f4⟩ | ⟨f3, f4⟩
      · rw [if_neg (fun e => f4 (az_c_inj H.2.1 (by omega) f1 hcl e))]
        exact (H.2.2.1 q f3).2.2
      · rw [if_pos (by rw [f3])]
        exact f4
    by_cases hA : i ∈ az_dt R Cs F' (az_touch c k) (az_pof c) dirty
    · right
      have hno : ¬ ((dirty.any (fun n => Nat.beq n i) || !(az_po3 R Cs F F' c k i)) = true) := fun e => hi (List.mem_filter.mpr ⟨hA, e⟩)
      rw [Bool.or_eq_true, not_or] at hno
      obtain ⟨o1, o2⟩ := hno
      have hnd : i ∉ dirty := fun hd => o1 (List.any_eq_true.mpr ⟨i, hd, Nat.beq_refl i⟩)
      have o3 : az_po3 R Cs F F' c k i = true := by
        cases ho : az_po3 R Cs F F' c k i with
        | true => rfl
        | false => rw [ho] at o2; exact absurd rfl o2
      unfold az_po3 at o3
      rw [sz_nth_eq, hp] at o3
      dsimp only at o3
      rw [Bool.and_eq_true, Bool.and_eq_true, Bool.and_eq_true, Bool.not_eq_true'] at o3
      obtain ⟨⟨⟨b1, b2⟩, b3⟩, o3⟩ := o3
      have b1 := Nat.eq_of_beq_eq_true b1
      have b2 := Nat.eq_of_beq_eq_true b2
      split at o3
      · rename_i o v ho hv
        obtain ⟨⟨t1, t2⟩, hpo⟩ := az_po2_ok hV.2.1 hV.2.2.1 o3
        obtain ⟨x, y, x1, y1, xy⟩ := H.2.2.2.1 i p hp hnd
        have hcL : c < azL.length := by rw [← b1]; exact p4
        have ec : az_c ρ c = c := if_neg (by omega)
        obtain ⟨_, s1⟩ := az_fact_at H.2.2.1 hk ho
        obtain ⟨_, s2⟩ := az_fact_at hHF hk hv
        rw [ec, sz_vi t1] at s1
        rw [sz_vi t2] at s2
        have s2 : az_slot (h.set (az_c ρ c) (C.1, fs.set k w)) c k = some (.int (sz_i ρ v)) := by
          have : az_c ρ c = c := ec
          rw [this] at s2 ⊢
          exact s2
        rw [b1, b2, s1] at y1
        have ey : sz_i ρ o = y := by
          injection y1 with y1
          injection y1
        have hn1 : ¬ (p.1 = c ∧ p.2.1 = k) := by
          rintro ⟨e1, e2⟩
          rw [e1, e2, Nat.beq_refl, Nat.beq_refl] at b3
          cases b3
        refine ⟨x, sz_i ρ v, by rw [hslot _ _ p3 hn1]; exact x1, by rw [b1, b2]; exact s2, hpo x.toInt ?_⟩
        rw [ey]
        exact xy
      · cases o3
    replace hi := hA
    rcases az_dt_ok hp hi with ⟨d1, d2⟩ | ⟨d1, d2⟩
    · right
      exact az_pok_ok hV.2.1 hV.2.2.1 (new := new) (F := F') hHF p3 p4 d2
    · right
      obtain ⟨x, y, x1, y1, xy⟩ := H.2.2.2.1 i p hp d1
      have hnt : az_touch c k p = false ∨ (p.1 ≠ c ∧ p.2.2.2.1 ≠ c) := by
        by_cases e : i ∈ az_pof c
        · exact Or.inl (d2 e)
        · refine Or.inr ⟨fun e2 => e (by rw [← e2]; exact p1), fun e2 => e (by rw [← e2]; exact p2)⟩
      have hn1 : ¬ (p.1 = c ∧ p.2.1 = k) := by
        rintro ⟨e1, e2⟩
        rcases hnt with hnt | hnt
        · unfold az_touch at hnt
          rw [e1, e2, Nat.beq_refl, Nat.beq_refl] at hnt
          simp at hnt
        · exact hnt.1 e1
      have hn2 : ¬ (p.2.2.2.1 = c ∧ p.2.2.2.2.1 = k) := by
        rintro ⟨e1, e2⟩
        rcases hnt with hnt | hnt
        · unfold az_touch at hnt
          rw [e1, e2, Nat.beq_refl, Nat.beq_refl] at hnt
          simp at hnt
        · exact hnt.2 e1
      exact ⟨x, y, by rw [hslot _ _ p3 hn1]; exact x1, by rw [hslot _ _ p4 hn2]; exact y1, xy⟩
  · by_cases e : k' = k
    · subst e
      rw [ht] at ht'
      cases ht'
      exact ⟨w, List.getElem?_set_self hkl, hw⟩
    · rw [List.getElem?_set_ne (fun e2 => e e2.symm)]
      exact g3 k' τ' ht'
  · refine List.getElem?_set_ne (fun e => ?_)
    subst e
    rw [hm hcM] at hmd
    cases hmd
