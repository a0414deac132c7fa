/-! A: what is known of atoms: definitions D, ranges R, sums that are at least 0 -/
abbrev azS : Type := List (Int × szT)
/-- types of slots: kind (0 int, 1 long, 2 a reference), the reference, intervals -/
abbrev azTy : Type := Nat × Nat × List (Int × Int)
def az_sh (t u : szT) : Bool := t.any (fun p => u.any (fun q => Nat.beq p.1 q.1))
noncomputable def az_lb1 (R : szR) (c : Int) (t : szT) : azS → Int → Int
  | [], b => b
  | f :: r, b => bif az_sh f.2 t then sz_fi (c - f.1 + (sz_rs R (sz_add t (sz_sc (-1) f.2))).1) (fun x => if b < x then az_lb1 R c t r x else az_lb1 R c t r b) else az_lb1 R c t r b
/-- a bound from below, from above -/
noncomputable def az_lb (R : szR) (Cs : azS) (c : Int) (t : szT) : Int := match t with
  | [] => c
  | q :: t => sz_fi (c + (sz_rs R (q :: t)).1) (fun b => az_lb1 R c (q :: t) Cs b)
noncomputable def az_ub (R : szR) (Cs : azS) (c : Int) (t : szT) : Int := match t with
  | [] => c
  | q :: t => -(az_lb R Cs (-c) (sz_sc (-1) (q :: t)))
def az_S (Cs : azS) (ρ : Nat → Int) : Prop := ∀ f ∈ Cs, 0 ≤ f.1 + sz_sum ρ f.2
theorem az_lb1_ok {R : szR} {ρ : Nat → Int} (hR : sz_R R ρ) {c : Int} {t : szT} : ∀ {Cs : azS} {b : Int}, az_S Cs ρ → b ≤ c + sz_sum ρ t → az_lb1 R c t Cs b ≤ c + sz_sum ρ t
  | [], _, _, hb => hb
  | f :: r, b, hC, hb => by
    have hr : az_S r ρ := fun g hg => hC g (List.mem_cons_of_mem _ hg)
    unfold az_lb1
    cases az_sh f.2 t with
    | false => exact az_lb1_ok hR hr hb
    | true =>
      dsimp only [cond]
      rw [sz_fi_eq]
      split
      · refine az_lb1_ok hR hr ?_
        have h1 := (sz_rs_ok hR (sz_add t (sz_sc (-1) f.2))).1
        rw [sz_sum_add, sz_sum_sc] at h1
        have h2 := hC f List.mem_cons_self
        omega
      · exact az_lb1_ok hR hr hb
theorem az_lb_ok {R : szR} {Cs : azS} {ρ : Nat → Int} (hR : sz_R R ρ) (hC : az_S Cs ρ) (c : Int) (t : szT) : az_lb R Cs c t ≤ c + sz_sum ρ t := by
  unfold az_lb
  match t with
  | [] => show c ≤ c + 0; omega
  | q :: t =>
    dsimp only
    rw [sz_fi_eq]
    refine az_lb1_ok hR hC ?_
    have := (sz_rs_ok hR (q :: t)).1
    omega
theorem az_ub_ok {R : szR} {Cs : azS} {ρ : Nat → Int} (hR : sz_R R ρ) (hC : az_S Cs ρ) (c : Int) (t : szT) : c + sz_sum ρ t ≤ az_ub R Cs c t := by
  unfold az_ub
  match t with
  | [] => show c + 0 ≤ c; omega
  | q :: t =>
    dsimp only
    have := az_lb_ok hR hC (-c) (sz_sc (-1) (q :: t))
    rw [sz_sum_sc] at this
    omega
/-- a sum that is an int as it stands -/
noncomputable def az_nw (R : szR) (Cs : azS) (v : szV) : Bool := decide (-2147483648 ≤ az_lb R Cs v.2.1 v.2.2) && decide (az_ub R Cs v.2.1 v.2.2 ≤ 2147483647)
theorem az_nw_ok {R : szR} {Cs : azS} {ρ : Nat → Int} (hR : sz_R R ρ) (hC : az_S Cs ρ) {v : szV} (h : az_nw R Cs v = true) : (sz_i ρ v).toInt = v.2.1 + sz_sum ρ v.2.2 := by
  unfold az_nw at h
  rw [Bool.and_eq_true, decide_eq_true_eq, decide_eq_true_eq] at h
  have h1 := az_lb_ok hR hC v.2.1 v.2.2
  have h2 := az_ub_ok hR hC v.2.1 v.2.2
  unfold sz_i
  rw [sz_toInt]
  exact sz_w_id (by omega) (by omega)
/-- a constant -/
noncomputable def az_k (R : szR) (Cs : azS) (v : szV) : Option Int := match v.2.2 with
  | [] => if -2147483648 ≤ v.2.1 ∧ v.2.1 ≤ 2147483647 then some v.2.1 else none
  | q :: t => sz_fi (az_lb R Cs v.2.1 (q :: t)) (fun l => if l = az_ub R Cs v.2.1 (q :: t) ∧ -2147483648 ≤ l ∧ l ≤ 2147483647 then some l else none)
theorem az_k_ok {R : szR} {Cs : azS} {ρ : Nat → Int} (hR : sz_R R ρ) (hC : az_S Cs ρ) {v : szV} {c : Int} (h : az_k R Cs v = some c) : v.2.1 + sz_sum ρ v.2.2 = c ∧ -2147483648 ≤ c ∧ c ≤ 2147483647 ∧ sz_i ρ v = Int32.ofInt c ∧ (sz_i ρ v).toInt = c := by
  obtain ⟨g, c0, t⟩ := v
  have key : c0 + sz_sum ρ t = c ∧ -2147483648 ≤ c ∧ c ≤ 2147483647 := by
    unfold az_k at h
    match t, h with
    | [], h =>
      dsimp only at h
      split at h
      · rename_i hh
        cases h
        exact ⟨Int.add_zero _, hh.1, hh.2⟩
      · cases h
    | q :: t, h =>
      dsimp only at h
      rw [sz_fi_eq] at h
      split at h
      · rename_i hh
        cases h
        have h1 := az_lb_ok hR hC c0 (q :: t)
        have h2 := az_ub_ok hR hC c0 (q :: t)
        exact ⟨by omega, hh.2.1, hh.2.2⟩
      · cases h
  have e : sz_i ρ (g, c0, t) = Int32.ofInt c := by unfold sz_i; rw [key.1]
  refine ⟨key.1, key.2.1, key.2.2, e, ?_⟩
  rw [e, sz_toInt]
  exact sz_w_id key.2.1 key.2.2
/-- the coefficient of an atom; the others -/
def az_co (k : Nat) : szT → Int
  | [] => 0
  | q :: t => if q.1 = k then q.2 + az_co k t else az_co k t
def az_rm (k : Nat) : szT → szT
  | [] => []
  | q :: t => if q.1 = k then az_rm k t else q :: az_rm k t
theorem az_co_rm (ρ : Nat → Int) (k : Nat) : ∀ t : szT, sz_sum ρ t = az_co k t * ρ k + sz_sum ρ (az_rm k t)
  | [] => by simp [sz_sum, az_co, az_rm]
  | q :: t => by
    unfold az_co az_rm
    have := az_co_rm ρ k t
    by_cases h : q.1 = k
    · rw [if_pos h, if_pos h]
      show q.2 * ρ q.1 + sz_sum ρ t = _
      rw [h, this, Int.add_mul]
      omega
    · rw [if_neg h, if_neg h]
      show q.2 * ρ q.1 + sz_sum ρ t = az_co k t * ρ k + (q.2 * ρ q.1 + sz_sum ρ (az_rm k t))
      rw [this]
      omega
def az_mx (a b : Int) : Int := if a < b then b else a
def az_mn (a b : Int) : Int := if b < a then b else a
theorem az_mx_le {a b x : Int} (h1 : a ≤ x) (h2 : b ≤ x) : az_mx a b ≤ x := by unfold az_mx; split <;> omega
theorem az_le_mx (a b : Int) : a ≤ az_mx a b ∧ b ≤ az_mx a b := by unfold az_mx; split <;> omega
theorem az_le_mn {a b x : Int} (h1 : x ≤ a) (h2 : x ≤ b) : x ≤ az_mn a b := by unfold az_mn; split <;> omega
theorem az_mn_le (a b : Int) : az_mn a b ≤ a ∧ az_mn a b ≤ b := by unfold az_mn; split <;> omega
/-- the parts of intervals that lie within a range -/
def az_iv (l h : Int) : List (Int × Int) → Option (Int × Int)
  | [] => none
  | p :: r => if az_mx l p.1 ≤ az_mn h p.2 then (match az_iv l h r with
      | none => some (az_mx l p.1, az_mn h p.2)
      | some q => some (az_mn q.1 (az_mx l p.1), az_mx q.2 (az_mn h p.2)))
    else az_iv l h r
theorem az_iv_ok {l h x : Int} (h1 : l ≤ x) (h2 : x ≤ h) : ∀ {ps : List (Int × Int)}, (∃ p ∈ ps, p.1 ≤ x ∧ x ≤ p.2) → ∃ q, az_iv l h ps = some q ∧ q.1 ≤ x ∧ x ≤ q.2
  | [], hp => by obtain ⟨p, hp, _⟩ := hp; cases hp
  | p :: r, hp => by
    unfold az_iv
    by_cases hh : p.1 ≤ x ∧ x ≤ p.2
    · have a1 := az_mx_le h1 hh.1
      have a2 := az_le_mn h2 hh.2
      rw [if_pos (Int.le_trans a1 a2)]
      split
      · exact ⟨_, rfl, a1, a2⟩
      · rename_i q _
        have b1 := az_mn_le q.1 (az_mx l p.1)
        have b2 := az_le_mx q.2 (az_mn h p.2)
        exact ⟨_, rfl, Int.le_trans b1.2 a1, Int.le_trans a2 b2.2⟩
    · have hp' : ∃ p ∈ r, p.1 ≤ x ∧ x ≤ p.2 := by
        obtain ⟨q, hq, hx⟩ := hp
        rcases List.mem_cons.mp hq with e | e
        · subst e; exact absurd hx hh
        · exact ⟨q, e, hx⟩
      obtain ⟨q, e1, e2, e3⟩ := az_iv_ok h1 h2 hp'
      rw [e1]
      split
      · have b1 := az_mn_le q.1 (az_mx l p.1)
        have b2 := az_le_mx q.2 (az_mn h p.2)
        exact ⟨_, rfl, Int.le_trans b1.1 e2, Int.le_trans e3 b2.1⟩
      · exact ⟨q, rfl, e2, e3⟩
