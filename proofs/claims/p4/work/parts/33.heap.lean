/-! A's heap against M's: the typing G holds at all times, pairs that are not dirty, facts -/
/-- a fact: cell, index, value -/
abbrev azF : Type := List (Nat × (Int × szT) × szV)
def az_slot (h : List mzC) (c k : Nat) : Option Value := match h[c]? with
  | some q => q.2[k]?
  | none => none
def az_in (τ : azTy) (v : Value) : Prop := match τ.1 with
  | 0 => ∃ x : Int32, v = .int x ∧ ∃ p ∈ τ.2.2, p.1 ≤ x.toInt ∧ x.toInt ≤ p.2
  | 1 => ∃ x : Int64, v = .long x
  | _ => v = .ref τ.2.1
/-- the cell that was made has the number 1000000 -/
def az_c (ρ : Nat → Int) (c : Nat) : Nat := if c = 1000000 then (ρ 1000000).toNat - 4 else c
noncomputable def az_cell (c : Nat) : Option azC := bif Nat.beq c 1000000 then some (4, 1, 1, []) else sz_nth azL c
noncomputable def az_ty (C : azC) (k : Nat) : Option azTy := bif Nat.blt k C.2.1 then (bif Nat.beq C.2.2.1 0 then (match sz_nth C.2.2.2 k with
    | some g => sz_nth azTs g
    | none => none) else sz_nth azTs (Nat.pred C.2.2.1)) else none
def az_HC (h : List mzC) (r : Nat) (C : azC) : Prop := ∃ fs, h[r]? = some (C.1, fs) ∧ fs.length = C.2.1 ∧ ∀ k τ, az_ty C k = some τ → ∃ v, fs[k]? = some v ∧ az_in τ v
def az_HT (h : List mzC) : Prop := ∀ c C, azL[c]? = some C → az_HC h c C
def az_HN (ρ : Nat → Int) (h : List mzC) (new : Bool) (u : Nat) : Prop := (new = true → azL.length + 4 ≤ (ρ 1000000).toNat ∧ az_HC h ((ρ 1000000).toNat - 4) (4, 1, 1, [])) ∧ (new = false → u = 0 → (ρ 1000000).toNat = h.length + 4)
/-- a cell that is there -/
def az_vc (new : Bool) (c : Nat) : Prop := c < azL.length ∨ (c = 1000000 ∧ new = true)
def az_HF (ρ : Nat → Int) (h : List mzC) (new : Bool) (F : azF) : Prop := ∀ q ∈ F, az_vc new q.1 ∧ 0 ≤ (sz_i ρ (0, q.2.1)).toInt ∧ az_slot h (az_c ρ q.1) (sz_i ρ (0, q.2.1)).toInt.toNat = some (sz_v ρ q.2.2)
def az_HP1 (h : List mzC) (p : azP) : Prop := ∃ x y : Int32, az_slot h p.1 p.2.1 = some (.int x) ∧ az_slot h p.2.2.2.1 p.2.2.2.2.1 = some (.int y) ∧ 0 ≤ p.2.2.1 * x.toInt + p.2.2.2.2.2.1 * y.toInt + p.2.2.2.2.2.2
def az_HP (h : List mzC) (dirty : List Nat) : Prop := ∀ i p, azPs[i]? = some p → i ∉ dirty → az_HP1 h p
/-- slots that may change: cell, 0 (all) or 1 + slot -/
def az_md (mods : List (Nat × Nat)) (c k : Nat) : Bool := mods.any (fun m => Nat.beq m.1 c && (Nat.beq m.2 0 || Nat.beq m.2 (k + 1)))
def az_HM (mods : List (Nat × Nat)) (h0 h : List mzC) : Prop := ∀ c k, c < azL.length → az_md mods c k = false → az_slot h c k = az_slot h0 c k
def az_HR (mods : List (Nat × Nat)) (h0 : List mzC) (ρ : Nat → Int) (F : azF) (dirty : List Nat) (new : Bool) (u : Nat) (h : List mzC) : Prop :=
  az_HT h ∧ az_HN ρ h new u ∧ az_HF ρ h new F ∧ az_HP h dirty ∧ az_HM mods h0 h ∧ h0.length ≤ h.length ∧ h.length ≤ h0.length + u
def az_loF (n : Nat) (F : azF) : Bool := F.all (fun q => az_lo n q.2.1.2 && az_lo n q.2.2.2.2)
theorem az_loF_at {n : Nat} {F : azF} (h : az_loF n F = true) {q : Nat × (Int × szT) × szV} (hq : q ∈ F) : az_lo n q.2.1.2 = true ∧ az_lo n q.2.2.2.2 = true := by
  have := List.all_eq_true.mp h q hq
  rwa [Bool.and_eq_true] at this
theorem az_HR_ag {n : Nat} {ρ ρ' : Nat → Int} (hag : az_ag n ρ ρ') {mods : List (Nat × Nat)} {h0 h : List mzC} {F : azF} {dirty : List Nat} {new : Bool} {u : Nat} (hF : az_loF n F = true) (H : az_HR mods h0 ρ F dirty new u h) : az_HR mods h0 ρ' F dirty new u h := by
  obtain ⟨H1, H2, H3, H4, H5, H6, H7⟩ := H
  refine ⟨H1, ?_, ?_, H4, H5, H6, H7⟩
  · unfold az_HN
    rw [hag.2]
    exact H2
  · intro q hq
    obtain ⟨l1, l2⟩ := az_loF_at hF hq
    have e1 : sz_i ρ' (0, q.2.1) = sz_i ρ (0, q.2.1) := az_i_ag hag (v := (0, q.2.1)) l1
    rw [e1, az_v_ag hag l2, show az_c ρ' q.1 = az_c ρ q.1 by unfold az_c; rw [hag.2]]
    exact H3 q hq
/-- the cell of a number -/
theorem az_cell_ok {mods : List (Nat × Nat)} {h0 h : List mzC} {ρ : Nat → Int} {F : azF} {dirty : List Nat} {new : Bool} {u : Nat} (H : az_HR mods h0 ρ F dirty new u h) {c : Nat} {C : azC} (hc : az_cell c = some C) (hn : c = 1000000 → new = true) : az_HC h (az_c ρ c) C := by
  unfold az_cell at hc
  cases hb : Nat.beq c 1000000 with
  | true =>
    rw [hb] at hc
    have hb := Nat.eq_of_beq_eq_true hb
    cases hc
    unfold az_c
    rw [if_pos hb]
    exact (H.2.1.1 (hn hb)).2
  | false =>
    rw [hb] at hc
    have hb : c ≠ 1000000 := fun e => by rw [e] at hb; cases hb
    unfold az_c
    rw [if_neg hb]
    have hc : sz_nth azL c = some C := hc
    rw [sz_nth_eq] at hc
    exact H.1 c C hc
theorem az_ty_lt {C : azC} {k : Nat} {τ : azTy} (h : az_ty C k = some τ) : k < C.2.1 := by
  unfold az_ty at h
  cases hb : Nat.blt k C.2.1 with
  | true => exact Nat.le_of_ble_eq_true hb
  | false => rw [hb] at h; cases h
theorem az_slot_of {h : List mzC} {r : Nat} {C : azC} (hC : az_HC h r C) {k : Nat} {τ : azTy} (ht : az_ty C k = some τ) : ∃ v, az_slot h r k = some v ∧ az_in τ v := by
  obtain ⟨fs, h1, h2, h3⟩ := hC
  obtain ⟨v, v1, v2⟩ := h3 k τ ht
  exact ⟨v, by unfold az_slot; rw [h1]; exact v1, v2⟩
/-- a new atom for an int of a slot -/
theorem az_mat_int {D : szD} {R : szR} {Cs : azS} {ρ : Nat → Int} (hV : az_V D R Cs ρ) (hW : az_wf D R Cs) {mods : List (Nat × Nat)} {h0 h : List mzC} {F : azF} {dirty : List Nat} {new : Bool} {u : Nat} (H : az_HR mods h0 ρ F dirty new u h) (hF : az_loF R.length F = true) (hn : R.length + 1 < 1000000)
    {c : Nat} {ix : Int × szT} (hix : az_lo R.length ix.2 = true) (h0i : 0 ≤ (sz_i ρ (0, ix)).toInt) {g : Nat} {τ : azTy} (hτ : azTs[g]? = some τ) (hk : τ.1 = 0) (hnew : az_vc new c)
    {v : Value} (hs : az_slot h (az_c ρ c) (sz_i ρ (0, ix)).toInt.toNat = some v) (hin : az_in τ v) {p : Int × Int} (hp : ∀ q ∈ τ.2.2, p.1 ≤ q.1 ∧ q.2 ≤ p.2) {ann : Nat} (ha : ann = 0 ∨ ann = g + 1) :
    ∃ ρ', az_V (D ++ [(0, (ann, 0, []), (0, 0, []))]) (R ++ [p]) Cs ρ' ∧ az_wf (D ++ [(0, (ann, 0, []), (0, 0, []))]) (R ++ [p]) Cs ∧ az_ag R.length ρ ρ' ∧ az_HR mods h0 ρ' ((c, ix, (0, 0, [(R.length, 1)])) :: F) dirty new u h ∧ az_loF (R.length + 1) ((c, ix, (0, 0, [(R.length, 1)])) :: F) = true := by
  unfold az_in at hin
  rw [hk] at hin
  obtain ⟨x, hx, q, hq, hq2⟩ := hin
  have hpq := hp q hq
  obtain ⟨a1, a2, a3⟩ := az_fresh hV hW (d := (0, (ann, 0, []), (0, 0, []))) (p := p) (x := x.toInt) hn (sz_bd x) ⟨by omega, by omega⟩ rfl rfl (fun h => absurd rfl h) (fun _ hann => ⟨τ, by
    have hann : ann ≠ 0 := hann
    rcases ha with e | e
    · exact absurd e hann
    · show azTs[ann - 1]? = some τ
      rw [e]; exact hτ, q, hq, hq2⟩)
  refine ⟨_, a1, a2, a3, ?_, ?_⟩
  · obtain ⟨H1, H2, H3, H4, H5⟩ := az_HR_ag a3 hF H
    refine ⟨H1, H2, ?_, H4, H5⟩
    intro f hf
    rcases List.mem_cons.mp hf with e | e
    · subst e
      have e1 : sz_i (az_up ρ R.length x.toInt) (0, ix) = sz_i ρ (0, ix) := az_i_ag a3 (v := (0, ix)) hix
      have e2 : az_c (az_up ρ R.length x.toInt) c = az_c ρ c := by unfold az_c; rw [a3.2]
      refine ⟨hnew, by rw [e1]; exact h0i, ?_⟩
      dsimp only
      rw [e1, e2, hs, hx]
      have : sz_v (az_up ρ R.length x.toInt) (0, 0, [(R.length, 1)]) = .int x := by
        rw [sz_vi rfl]
        congr 1
        unfold sz_i
        simp only [sz_sum, az_up, if_pos, Int.zero_add, Int.one_mul, Int.add_zero, Int32.ofInt_toInt]
      rw [this]
    · exact H3 f e
  · unfold az_loF
    rw [List.all_cons, Bool.and_eq_true, Bool.and_eq_true]
    refine ⟨⟨az_lo_le (Nat.le_succ _) hix, ?_⟩, ?_⟩
    · show (Nat.blt R.length (R.length + 1) && true) = true
      rw [Bool.and_true]
      exact Nat.ble_eq_true_of_le (Nat.le_refl _)
    · exact List.all_eq_true.mpr (fun f hf => by
        obtain ⟨l1, l2⟩ := az_loF_at hF hf
        rw [az_lo_le (Nat.le_succ _) l1, az_lo_le (Nat.le_succ _) l2]
        rfl)
