/-! what is known is told apart, or made more -/
noncomputable def sz_cov (lo hi : Int) : List (Int × Int) → Bool
  | [] => decide (hi < lo)
  | p :: r => decide (p.1 ≤ lo) && (if lo ≤ p.2 then sz_cov (p.2 + 1) hi r else sz_cov lo hi r)
theorem sz_cov_ok {v : Int} : ∀ {ps : List (Int × Int)} {lo hi : Int}, sz_cov lo hi ps = true → lo ≤ v → v ≤ hi → ∃ p ∈ ps, p.1 ≤ v ∧ v ≤ p.2
  | [], lo, hi, h, h1, h2 => by
    have h := of_decide_eq_true h
    omega
  | p :: ps, lo, hi, h, h1, h2 => by
    unfold sz_cov at h
    rw [Bool.and_eq_true, decide_eq_true_eq] at h
    obtain ⟨h3, h4⟩ := h
    split at h4
    · by_cases hv : v ≤ p.2
      · exact ⟨p, List.mem_cons_self, by omega, hv⟩
      · obtain ⟨q, hq, h5⟩ := sz_cov_ok h4 (by omega) h2
        exact ⟨q, List.mem_cons_of_mem _ hq, h5⟩
    · obtain ⟨q, hq, h5⟩ := sz_cov_ok h4 h1 h2
      exact ⟨q, List.mem_cons_of_mem _ hq, h5⟩
/-- ranges that hold all values of an atom -/
noncomputable def az_cov (D : szD) (R : szR) (k : Nat) (ps : List (Int × Int)) : Bool := match az_ann D (0, 0, [(k, 1)]) with
  | [] => sz_cov (sz_at R k).1 (sz_at R k).2 ps
  | iv => iv.all (fun q => sz_cov (az_mx (sz_at R k).1 q.1) (az_mn (sz_at R k).2 q.2) (ps.filter (fun p => decide (q.1 ≤ p.2) && decide (p.1 ≤ q.2))))
theorem az_cov_ok {D : szD} {R : szR} {ρ : Nat → Int} (hR : sz_R R ρ) (hT : az_T D ρ) {k : Nat} {ps : List (Int × Int)} (h : az_cov D R k ps = true) : ∃ p ∈ ps, p.1 ≤ ρ k ∧ ρ k ≤ p.2 := by
  have hk := hR k
  unfold az_cov at h
  split at h
  · exact sz_cov_ok h hk.1 hk.2
  · rename_i iv hne
    match hiv : az_ann D (0, 0, [(k, 1)]), hne with
    | [], hne => exact absurd rfl hne
    | q0 :: qs, _ =>
      rw [hiv] at h
      obtain ⟨q, hq, hq2⟩ := az_ann_ok hT hiv
      simp only [sz_sum, Int.zero_add, Int.one_mul, Int.add_zero] at hq2
      have := List.all_eq_true.mp h q hq
      obtain ⟨p, hp, hp2⟩ := sz_cov_ok this (az_mx_le hk.1 hq2.1) (az_le_mn hk.2 hq2.2)
      exact ⟨p, (List.mem_filter.mp hp).1, hp2⟩
/-- all sums that an atom is part of, once more -/
noncomputable def az_rts (D : szD) (k : Nat) : azS → szR → Option szR
  | [], R => some R
  | f :: r, R => bif f.2.any (fun q => Nat.beq q.1 k) then (match az_tgs D f.1 f.2 f.2 R with
    | some R => az_rts D k r R
    | none => none) else az_rts D k r R
theorem az_rts_ok {D : szD} {ρ : Nat → Int} (hB : ∀ k, -2147483648 ≤ ρ k ∧ ρ k ≤ 2147483647) (hT : az_T D ρ) {k : Nat} : ∀ {Cs : azS} {R : szR}, az_S Cs ρ → sz_R R ρ → ∃ R', az_rts D k Cs R = some R' ∧ sz_R R' ρ ∧ R'.length = R.length
  | [], R, _, hR => ⟨R, rfl, hR, rfl⟩
  | f :: r, R, hC, hR => by
    have hr : az_S r ρ := fun g hg => hC g (List.mem_cons_of_mem _ hg)
    unfold az_rts
    cases f.2.any (fun q => Nat.beq q.1 k) with
    | false => exact az_rts_ok hB hT hr hR
    | true =>
      obtain ⟨R1, a1, a2, a3⟩ := az_tgs_ok hB hT (hC f List.mem_cons_self) f.2 R hR
      dsimp only [cond]
      rw [a1]
      obtain ⟨R2, b1, b2, b3⟩ := az_rts_ok hB hT hr a2
      exact ⟨R2, b1, b2, by omega⟩
noncomputable def az_rcut (D : szD) (R : szR) (Cs : azS) (k : Nat) (ps : List (Int × Int)) (f : szD → szR → azS → Bool) : Bool := (Nat.blt k R.length && az_cov D R k ps) && ps.all (fun p => match az_rng D k (az_mx (sz_at R k).1 p.1) (az_mn (sz_at R k).2 p.2) with
  | none => true
  | some q => (match az_set R k (some q) with
    | none => true
    | some R => (match az_rts D k Cs R with
      | none => true
      | some R => f D R Cs)))
theorem az_rcut_ok {D : szD} {R : szR} {Cs : azS} {ρ : Nat → Int} (hV : az_V D R Cs ρ) (hW : az_wf D R Cs) {k : Nat} {ps : List (Int × Int)} {f : szD → szR → azS → Bool} (h : az_rcut D R Cs k ps f = true) : ∃ R', f D R' Cs = true ∧ az_V D R' Cs ρ ∧ az_wf D R' Cs ∧ R'.length = R.length := by
  obtain ⟨V1, V2, V3, V4, V5⟩ := hV
  obtain ⟨W1, W2, W3, W4⟩ := hW
  unfold az_rcut at h
  rw [Bool.and_eq_true, Bool.and_eq_true] at h
  obtain ⟨⟨h1, h2⟩, h3⟩ := h
  have h1 : k < R.length := Nat.le_of_ble_eq_true h1
  have hk := V2 k
  obtain ⟨p, hp, hp2⟩ := az_cov_ok V2 V4 h2
  have h4 := List.all_eq_true.mp h3 p hp
  obtain ⟨q, q1, q2⟩ := az_rng_ok V4 (az_mx_le hk.1 hp2.1) (az_le_mn hk.2 hp2.2)
  rw [q1] at h4
  dsimp only at h4
  obtain ⟨R1, a1, a2, a3⟩ := az_set_ok V5 V2 h1 q2
  rw [a1] at h4
  dsimp only at h4
  obtain ⟨R2, b1, b2, b3⟩ := az_rts_ok V5 V4 (k := k) V3 a2
  rw [b1] at h4
  exact ⟨R2, h4, ⟨V1, b2, V3, V4, V5⟩, ⟨by omega, by omega, W3, fun g hg => by rw [b3, a3]; exact W4 g hg⟩, by omega⟩
noncomputable def az_alt (D : szD) (q : Option (szR × azS)) (f : szD → szR → azS → Bool) : Bool := match q with
  | none => true
  | some (R, Cs) => f D R Cs
noncomputable def az_rasm (D : szD) (R : szR) (Cs : azS) (c : Int) (t : szT) (f : szD → szR → azS → Bool) : Bool := az_lo R.length t && (az_alt D (az_asm D R Cs c t) f && az_alt D (az_asm D R Cs (-c - 1) (sz_sc (-1) t)) f)
theorem az_lo_sc {n : Nat} {a : Int} {t : szT} (h : az_lo n t = true) : az_lo n (sz_sc a t) = true := List.all_eq_true.mpr (fun q hq => by
  unfold sz_sc at hq
  obtain ⟨p, hp, e⟩ := List.mem_map.mp hq
  subst e
  exact List.all_eq_true.mp h p hp)
theorem az_rasm_ok {D : szD} {R : szR} {Cs : azS} {ρ : Nat → Int} (hV : az_V D R Cs ρ) (hW : az_wf D R Cs) {c : Int} {t : szT} {f : szD → szR → azS → Bool} (h : az_rasm D R Cs c t f = true) : ∃ R' Cs', f D R' Cs' = true ∧ az_V D R' Cs' ρ ∧ az_wf D R' Cs' ∧ R'.length = R.length := by
  unfold az_rasm at h
  rw [Bool.and_eq_true, Bool.and_eq_true] at h
  obtain ⟨h1, h2, h3⟩ := h
  by_cases hp : 0 ≤ c + sz_sum ρ t
  · obtain ⟨q, q1, q2, q3, q4⟩ := az_asm_ok hV hW h1 hp
    rw [q1] at h2
    exact ⟨q.1, q.2, h2, q2, q3, q4⟩
  · obtain ⟨q, q1, q2, q3, q4⟩ := az_asm_ok hV hW (c := -c - 1) (t := sz_sc (-1) t) (az_lo_sc h1) (by rw [sz_sum_sc]; omega)
    rw [q1] at h3
    exact ⟨q.1, q.2, h3, q2, q3, q4⟩
