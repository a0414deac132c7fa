/-! A's steps: definitions -/
/-- frame, waiting frames, facts, dirty pairs, a new cell, cells and slots made, depth -/
abbrev azQ : Type := szF × List szF × azF × List Nat × Bool × (Nat × Nat) × Nat
def az_ixeq (a b : Int × szT) : Bool := decide (a.1 = b.1) && decide (a.2 = b.2)
noncomputable def az_fget (c : Nat) (ix : Int × szT) : azF → Option szV
  | [] => none
  | q :: F => bif Nat.beq q.1 c && az_ixeq q.2.1 ix then some q.2.2 else az_fget c ix F
/-- an index: a number where it is known -/
noncomputable def az_ix {β : Type} (R : szR) (Cs : azS) (v : szV) (k : Int × szT → β) : β := match az_k R Cs v with
  | some c => sz_fi c (fun c => k (c, []))
  | none => k v.2
/-- the cell of a reference -/
def az_cr (r : szV) : Option Nat := bif Nat.beq r.1 1 then (if r.2.1 < 1000000 then (bif Nat.ble 4 r.2.1.toNat then some (Nat.sub r.2.1.toNat 4) else none) else some 1000000) else none
/-- what a slot holds: a fact, or a reference by its type -/
noncomputable def az_get (F : azF) (c : Nat) (C : azC) (ix : Int × szT) : Option szV := match az_fget c ix F with
  | some v => some v
  | none => match ix.2, ix.1 with
    | [], .ofNat k => match az_ty C k with
      | some τ => bif Nat.beq τ.1 2 && (Nat.blt τ.2.1 1000000 && Nat.blt k 1000000) then some (1, Int.ofNat τ.2.1, []) else none
      | none => none
    | _, _ => none
/-- an index whose slots are all there -/
noncomputable def az_inb (R : szR) (Cs : azS) (ix : Int × szT) (n : Nat) : Bool := decide (0 ≤ az_lb R Cs ix.1 ix.2) && decide (az_ub R Cs ix.1 ix.2 < (n : Int)) && az_nw R Cs (0, ix)
def az_subiv (l h : Int) (ps qs : List (Int × Int)) : Bool := ps.all (fun p => decide (az_mn h p.2 < az_mx l p.1) || qs.any (fun q => decide (q.1 ≤ az_mx l p.1) && decide (az_mn h p.2 ≤ q.2)))
noncomputable def az_ann (D : szD) (v : szV) : List (Int × Int) := match v.2.1, v.2.2 with
  | 0, [(k, 1)] => (match sz_nth D k with
    | some (0, (g + 1, _), _) => (match sz_nth azTs g with
      | some τ => τ.2.2
      | none => [])
    | _ => [])
  | _, _ => []
/-- a value is of a type -/
noncomputable def az_sub (D : szD) (R : szR) (Cs : azS) (v : szV) (τ : azTy) : Bool :=
  bif Nat.beq τ.1 0 then (Nat.beq v.1 0 && az_nw R Cs v) && (τ.2.2.any (fun q => decide (q.1 ≤ az_lb R Cs v.2.1 v.2.2) && decide (az_ub R Cs v.2.1 v.2.2 ≤ q.2)) || (match az_ann D v with
      | [] => false
      | ps => az_subiv (az_lb R Cs v.2.1 v.2.2) (az_ub R Cs v.2.1 v.2.2) ps τ.2.2))
  else bif Nat.beq τ.1 1 then Nat.beq v.1 2 || Nat.beq v.1 5
  else Nat.beq v.1 1 && (decide (v.2.1 = Int.ofNat τ.2.1) && Nat.blt τ.2.1 1000000)
/-- facts that a write at (c, ix) leaves -/
noncomputable def az_keep (R : szR) (Cs : azS) (c : Nat) (ix : Int × szT) (q : Nat × (Int × szT) × szV) : Bool := bif Nat.beq q.1 c then (bif az_nw R Cs (0, ix) && az_nw R Cs (0, q.2.1) then (decide (0 < az_lb R Cs (ix.1 - q.2.1.1) (sz_add ix.2 (sz_sc (-1) q.2.1.2))) || decide (az_ub R Cs (ix.1 - q.2.1.1) (sz_add ix.2 (sz_sc (-1) q.2.1.2)) < 0)) else false) else true
noncomputable def az_flt {β : Type} (f : Nat × (Int × szT) × szV → Bool) (F : azF) : (azF → β) → β := List.rec (fun k => k []) (fun q _ ih k => bif f q then ih (fun F => k (q :: F)) else ih k) F
theorem az_flt_eq {β : Type} (f : Nat × (Int × szT) × szV → Bool) : ∀ (F : azF) (k : azF → β), az_flt f F k = k (F.filter f)
  | [], _ => rfl
  | q :: F, k => by
    show (bif f q then az_flt f F (fun F => k (q :: F)) else az_flt f F k) = _
    rw [List.filter_cons]
    cases hq : f q with
    | true => exact az_flt_eq f F (fun F => k (q :: F))
    | false => exact az_flt_eq f F k
theorem az_fget_ok {c : Nat} {ix : Int × szT} {v : szV} : ∀ {F : azF}, az_fget c ix F = some v → (c, ix, v) ∈ F
  | [], h => by cases h
  | q :: F, h => by
    unfold az_fget at h
    cases hb : (Nat.beq q.1 c && az_ixeq q.2.1 ix) with
    | true =>
      rw [hb] at h
      have h : some q.2.2 = some v := h
      cases h
      rw [Bool.and_eq_true] at hb
      have h1 := Nat.eq_of_beq_eq_true hb.1
      have h2 := hb.2
      unfold az_ixeq at h2
      rw [Bool.and_eq_true, decide_eq_true_eq, decide_eq_true_eq] at h2
      have h3 : q.2.1 = ix := Prod.ext h2.1 h2.2
      rw [← h1, ← h3]
      exact List.mem_cons_self
    | false =>
      rw [hb] at h
      exact List.mem_cons_of_mem _ (az_fget_ok h)
section
variable {D : szD} {R : szR} {Cs : azS} {ρ : Nat → Int}
theorem az_ann_ok (hT : az_T D ρ) {v : szV} {p : Int × Int} {ps : List (Int × Int)} (h : az_ann D v = p :: ps) : ∃ q ∈ p :: ps, q.1 ≤ v.2.1 + sz_sum ρ v.2.2 ∧ v.2.1 + sz_sum ρ v.2.2 ≤ q.2 := by
  obtain ⟨g, c, t⟩ := v
  unfold az_ann at h
  split at h
  · rename_i k hc ht
    dsimp only at hc ht
    subst hc
    subst ht
    rw [sz_nth_eq] at h
    split at h
    · rename_i g' a b hD
      obtain ⟨τ, t1, q, hq, hq2⟩ := hT k (g' + 1, a) b hD (by simp)
      have t1 : azTs[g']? = some τ := t1
      rw [sz_nth_eq, t1] at h
      have h : τ.2.2 = p :: ps := h
      rw [h] at hq
      refine ⟨q, hq, ?_⟩
      simp only [sz_sum, Int.zero_add, Int.one_mul, Int.add_zero]
      exact hq2
    · cases h
  · cases h
theorem az_sub_ok (hR : sz_R R ρ) (hC : az_S Cs ρ) (hT : az_T D ρ) {v : szV} {τ : azTy} (h : az_sub D R Cs v τ = true) : az_in τ (sz_v ρ v) := by
  unfold az_sub at h
  unfold az_in
  cases h0 : Nat.beq τ.1 0 with
  | true =>
    rw [h0] at h
    have h0 := Nat.eq_of_beq_eq_true h0
    rw [h0]
    have h : ((Nat.beq v.1 0 && az_nw R Cs v) && _) = true := h
    rw [Bool.and_eq_true, Bool.and_eq_true] at h
    obtain ⟨⟨h1, h2⟩, h3⟩ := h
    have hv := az_nw_ok hR hC h2
    have l1 := az_lb_ok hR hC v.2.1 v.2.2
    have l2 := az_ub_ok hR hC v.2.1 v.2.2
    refine ⟨sz_i ρ v, sz_vi (Nat.eq_of_beq_eq_true h1), ?_⟩
    rw [hv]
    rw [Bool.or_eq_true] at h3
    rcases h3 with h3 | h3
    · obtain ⟨q, hq, hq2⟩ := List.any_eq_true.mp h3
      rw [Bool.and_eq_true, decide_eq_true_eq, decide_eq_true_eq] at hq2
      exact ⟨q, hq, by omega, by omega⟩
    · split at h3
      · cases h3
      · rename_i ps hne
        match hps : az_ann D v, hne with
        | [], hne => exact absurd rfl hne
        | p :: ps', _ =>
          rw [hps] at h3
          obtain ⟨q, hq, hq2⟩ := az_ann_ok hT hps
          unfold az_subiv at h3
          have := List.all_eq_true.mp h3 q hq
          rw [Bool.or_eq_true, decide_eq_true_eq] at this
          rcases this with this | this
          · exfalso
            have a1 := az_mx_le l1 hq2.1
            have a2 := az_le_mn l2 hq2.2
            omega
          · obtain ⟨r, hr, hr2⟩ := List.any_eq_true.mp this
            rw [Bool.and_eq_true, decide_eq_true_eq, decide_eq_true_eq] at hr2
            refine ⟨r, hr, ?_⟩
            have a1 := az_mx_le l1 hq2.1
            have a2 := az_le_mn l2 hq2.2
            exact ⟨by omega, by omega⟩
  | false =>
  rw [h0] at h
  cases h1 : Nat.beq τ.1 1 with
  | true =>
    rw [h1] at h
    have h1 := Nat.eq_of_beq_eq_true h1
    rw [h1]
    have h : (Nat.beq v.1 2 || Nat.beq v.1 5) = true := h
    rw [Bool.or_eq_true] at h
    rcases h with h | h
    · exact ⟨_, sz_vl (Nat.eq_of_beq_eq_true h)⟩
    · have := Nat.eq_of_beq_eq_true h
      exact ⟨_, sz_v5 this⟩
  | false =>
    rw [h1] at h
    have h : (Nat.beq v.1 1 && (decide (v.2.1 = Int.ofNat τ.2.1) && Nat.blt τ.2.1 1000000)) = true := h
    rw [Bool.and_eq_true, Bool.and_eq_true, decide_eq_true_eq] at h
    obtain ⟨e1, e2, e3⟩ := h
    have e1 := Nat.eq_of_beq_eq_true e1
    have e3 : τ.2.1 < 1000000 := Nat.le_of_ble_eq_true e3
    have hv : sz_v ρ v = .ref τ.2.1 := by
      rw [sz_v1 e1, e2, if_pos (by show ((τ.2.1 : Nat) : Int) < 1000000; omega)]
      rfl
    split
    · rename_i hh; rw [hh] at h0; cases h0
    · rename_i hh; rw [hh] at h1; cases h1
    · exact hv
end
