/-! acts of a loop's text: as functions; looked at by the facts -/
def o_m (t : Int → Int) (L p : Int) : Int := bif y_tb t L (p + 1) 39 39 then (bif y_tb t L (p + 2) 39 39 then 2 else 1) else 0
def o_dn (t : Int → Int) (L p : Int) : Bool := y_tb t L p 48 57 || y_tb t L p 110 110
/-- an OPERAND of ACT k may stand at p -/
def o_ok (t : Int → Int) (L k p : Int) : Bool := o_dn t L p || (y_tb t L p 97 106 && (decide (0 < o_m t L p) || decide (t p - 97 < k)))
/-- behind it -/
def o_e (t : Int → Int) (L p : Int) : Int := bif o_dn t L p then p + 1 else p + 1 + o_m t L p
/-- the greatest letter with ' -/
def o_g (t : Int → Int) (L p g : Int) : Int := bif o_dn t L p then g else if 0 < o_m t L p ∧ g < t p - 97 then t p - 97 else g
/-- ACT k at p: whether; where it goes on, or is wrong; the greatest letter with ' -/
def a_acc (t : Int → Int) (L k p g : Int) : Bool × Int × Int :=
  bif y_tb t L (p + 1) 91 91 then (bif o_ok t L k (p + 2) then (bif y_tb t L (o_e t L (p + 2)) 93 93 then (bif y_tb t L (o_e t L (p + 2) + 1) 61 61 then (bif o_ok t L k (o_e t L (p + 2) + 2) then (true, o_e t L (o_e t L (p + 2) + 2), o_g t L (o_e t L (p + 2) + 2) (o_g t L (p + 2) g)) else (false, o_e t L (p + 2) + 2, 0)) else (true, o_e t L (p + 2) + 1, o_g t L (p + 2) g)) else (false, o_e t L (p + 2), 0)) else (false, p + 2, 0)) else (false, p + 1, 0)
def a_srt (t : Int → Int) (L p : Int) : Bool := y_tb t L p 42 43 || (y_tb t L p 45 45 || y_tb t L p 60 60)
def a_sum (t : Int → Int) (L k p g : Int) : Bool × Int × Int :=
  bif o_ok t L k p then (bif a_srt t L (o_e t L p) then (bif o_ok t L k (o_e t L p + 1) then (true, o_e t L (o_e t L p + 1), o_g t L (o_e t L p + 1) (o_g t L p g)) else (false, o_e t L p + 1, 0)) else (false, o_e t L p, 0)) else (false, p, 0)
def a_act (t : Int → Int) (L k p g : Int) : Bool × Int × Int := bif y_tb t L p 65 66 then a_acc t L k p g else a_sum t L k p g
/-- n ACTS may follow, the first at p: whether they are all right; how many ACTS, or where it is wrong; the greatest letter with ' -/
def l_r (t : Int → Int) (L : Int) : Nat → Int → Int → Bool × Int × Int
  | 0, p, _ => (false, p, 0)
  | n + 1, p, g => bif (a_act t L (9 - (n : Int)) p g).1 then (if L ≤ (a_act t L (9 - (n : Int)) p g).2.1 then (true, 10 - (n : Int), (a_act t L (9 - (n : Int)) p g).2.2) else bif Nat.beq n 0 then (false, (a_act t L (9 - (n : Int)) p g).2.1, 0) else bif y_tb t L (a_act t L (9 - (n : Int)) p g).2.1 59 59 then l_r t L n ((a_act t L (9 - (n : Int)) p g).2.1 + 1) (a_act t L (9 - (n : Int)) p g).2.2 else (false, (a_act t L (9 - (n : Int)) p g).2.1, 0)) else (false, (a_act t L (9 - (n : Int)) p g).2.1, 0)
theorem l_r_succ (t : Int → Int) (L : Int) (n : Nat) (p g : Int) : l_r t L (n + 1) p g = (bif (a_act t L (9 - (n : Int)) p g).1 then (if L ≤ (a_act t L (9 - (n : Int)) p g).2.1 then (true, 10 - (n : Int), (a_act t L (9 - (n : Int)) p g).2.2) else bif Nat.beq n 0 then (false, (a_act t L (9 - (n : Int)) p g).2.1, 0) else bif y_tb t L (a_act t L (9 - (n : Int)) p g).2.1 59 59 then l_r t L n ((a_act t L (9 - (n : Int)) p g).2.1 + 1) (a_act t L (9 - (n : Int)) p g).2.2 else (false, (a_act t L (9 - (n : Int)) p g).2.1, 0)) else (false, (a_act t L (9 - (n : Int)) p g).2.1, 0)) := rfl
def l_a (r : Bool × Int × Int) : Int := bif r.1 then (if r.2.1 ≤ r.2.2 then -200 else r.2.1) else -1 - r.2.1
def l_rd (t : Int → Int) (L : Int) : Int := if L ≤ 0 then 0 else l_a (l_r t L 10 0 (-1))
theorem o_m_bd (t : Int → Int) (L p : Int) : 0 ≤ o_m t L p ∧ o_m t L p ≤ 2 ∧ (0 < o_m t L p → p + 1 + o_m t L p ≤ L) := by
  unfold o_m
  cases e1 : y_tb t L (p + 1) 39 39 with
  | false =>
    rw [cond_false]
    omega
  | true =>
    have h1 := y_tb_lt e1
    rw [cond_true]
    cases e2 : y_tb t L (p + 2) 39 39 with
    | false =>
      rw [cond_false]
      omega
    | true =>
      have h2 := y_tb_lt e2
      rw [cond_true]
      omega
theorem o_dn_lt {t : Int → Int} {L p : Int} (h : o_dn t L p = true) : p < L := by
  unfold o_dn at h
  rw [Bool.or_eq_true] at h
  rcases h with h | h
  · exact y_tb_lt h
  · exact y_tb_lt h
theorem o_e_bd {t : Int → Int} {L k p : Int} (h : o_ok t L k p = true) : p < o_e t L p ∧ o_e t L p ≤ L := by
  have hm := o_m_bd t L p
  unfold o_e
  cases e : o_dn t L p with
  | true =>
    have := o_dn_lt e
    rw [cond_true]
    omega
  | false =>
    unfold o_ok at h
    rw [e, Bool.false_or, Bool.and_eq_true] at h
    have := y_tb_lt h.1
    rw [cond_false]
    omega
theorem o_g_bd {t : Int → Int} {L k p g : Int} (h : o_ok t L k p = true) (hg : -1 ≤ g ∧ g ≤ 9) : -1 ≤ o_g t L p g ∧ o_g t L p g ≤ 9 := by
  unfold o_g
  cases e : o_dn t L p with
  | true =>
    rw [cond_true]
    exact hg
  | false =>
    unfold o_ok at h
    rw [e, Bool.false_or, Bool.and_eq_true] at h
    have h1 := h.1
    unfold y_tb at h1
    simp only [Bool.and_eq_true, decide_eq_true_eq] at h1
    rw [cond_false]
    split <;> omega
theorem a_acc_bd {t : Int → Int} {L k p g : Int} (h : y_tb t L p 65 66 = true) (hg : -1 ≤ g ∧ g ≤ 9) : (p ≤ (a_acc t L k p g).2.1 ∧ (a_acc t L k p g).2.1 ≤ L) ∧ ((a_acc t L k p g).1 = true → -1 ≤ (a_acc t L k p g).2.2 ∧ (a_acc t L k p g).2.2 ≤ 9) := by
  have h0 := y_tb_lt h
  unfold a_acc
  cases e1 : y_tb t L (p + 1) 91 91 with
  | false =>
    rw [cond_false]
    exact ⟨⟨by show p ≤ p + 1; omega, by show p + 1 ≤ L; omega⟩, fun e => by cases e⟩
  | true =>
    have h1 := y_tb_lt e1
    rw [cond_true]
    cases e2 : o_ok t L k (p + 2) with
    | false =>
      rw [cond_false]
      exact ⟨⟨by show p ≤ p + 2; omega, by show p + 2 ≤ L; omega⟩, fun e => by cases e⟩
    | true =>
      have h2 := o_e_bd e2
      have g2 := o_g_bd e2 hg
      rw [cond_true]
      cases e3 : y_tb t L (o_e t L (p + 2)) 93 93 with
      | false =>
        rw [cond_false]
        exact ⟨⟨by show p ≤ o_e t L (p + 2); omega, h2.2⟩, fun e => by cases e⟩
      | true =>
        have h3 := y_tb_lt e3
        rw [cond_true]
        cases e4 : y_tb t L (o_e t L (p + 2) + 1) 61 61 with
        | false =>
          rw [cond_false]
          exact ⟨⟨by show p ≤ o_e t L (p + 2) + 1; omega, by show o_e t L (p + 2) + 1 ≤ L; omega⟩, fun _ => g2⟩
        | true =>
          have h4 := y_tb_lt e4
          rw [cond_true]
          cases e5 : o_ok t L k (o_e t L (p + 2) + 2) with
          | false =>
            rw [cond_false]
            exact ⟨⟨by show p ≤ o_e t L (p + 2) + 2; omega, by show o_e t L (p + 2) + 2 ≤ L; omega⟩, fun e => by cases e⟩
          | true =>
            have h5 := o_e_bd e5
            rw [cond_true]
            exact ⟨⟨by show p ≤ o_e t L (o_e t L (p + 2) + 2); omega, h5.2⟩, fun _ => o_g_bd e5 g2⟩
theorem a_srt_lt {t : Int → Int} {L p : Int} (h : a_srt t L p = true) : p < L := by
  unfold a_srt at h
  rw [Bool.or_eq_true, Bool.or_eq_true] at h
  rcases h with h | h | h
  · exact y_tb_lt h
  · exact y_tb_lt h
  · exact y_tb_lt h
theorem a_sum_bd {t : Int → Int} {L k p g : Int} (h : p ≤ L) (hg : -1 ≤ g ∧ g ≤ 9) : (p ≤ (a_sum t L k p g).2.1 ∧ (a_sum t L k p g).2.1 ≤ L) ∧ ((a_sum t L k p g).1 = true → -1 ≤ (a_sum t L k p g).2.2 ∧ (a_sum t L k p g).2.2 ≤ 9) := by
  unfold a_sum
  cases e1 : o_ok t L k p with
  | false =>
    rw [cond_false]
    exact ⟨⟨Int.le_refl p, h⟩, fun e => by cases e⟩
  | true =>
    have h1 := o_e_bd e1
    have g1 := o_g_bd e1 hg
    rw [cond_true]
    cases e2 : a_srt t L (o_e t L p) with
    | false =>
      rw [cond_false]
      exact ⟨⟨by show p ≤ o_e t L p; omega, h1.2⟩, fun e => by cases e⟩
    | true =>
      have h2 := a_srt_lt e2
      rw [cond_true]
      cases e3 : o_ok t L k (o_e t L p + 1) with
      | false =>
        rw [cond_false]
        exact ⟨⟨by show p ≤ o_e t L p + 1; omega, by show o_e t L p + 1 ≤ L; omega⟩, fun e => by cases e⟩
      | true =>
        have h3 := o_e_bd e3
        rw [cond_true]
        exact ⟨⟨by show p ≤ o_e t L (o_e t L p + 1); omega, h3.2⟩, fun _ => o_g_bd e3 g1⟩
theorem a_act_bd {t : Int → Int} {L k p g : Int} (h : p ≤ L) (hg : -1 ≤ g ∧ g ≤ 9) : (p ≤ (a_act t L k p g).2.1 ∧ (a_act t L k p g).2.1 ≤ L) ∧ ((a_act t L k p g).1 = true → -1 ≤ (a_act t L k p g).2.2 ∧ (a_act t L k p g).2.2 ≤ 9) := by
  unfold a_act
  cases e : y_tb t L p 65 66 with
  | true =>
    rw [cond_true]
    exact a_acc_bd e hg
  | false =>
    rw [cond_false]
    exact a_sum_bd h hg
theorem l_r_bd {t : Int → Int} {L : Int} : ∀ (n : Nat) (p g : Int), n ≤ 10 → 0 ≤ p → p ≤ L → -1 ≤ g → g ≤ 9 → ((l_r t L n p g).1 = true → (1 ≤ (l_r t L n p g).2.1 ∧ (l_r t L n p g).2.1 ≤ 10) ∧ -1 ≤ (l_r t L n p g).2.2 ∧ (l_r t L n p g).2.2 ≤ 9) ∧ ((l_r t L n p g).1 = false → 0 ≤ (l_r t L n p g).2.1 ∧ (l_r t L n p g).2.1 ≤ L)
  | 0, p, g, _, h0, h1, _, _ => ⟨fun e => (by cases e), fun _ => ⟨h0, h1⟩⟩
  | n + 1, p, g, hn, h0, h1, g0, g1 => by
    have ha := a_act_bd (t := t) (k := 9 - (n : Int)) h1 ⟨g0, g1⟩
    have no : ∀ r : Bool × Int × Int, r = (false, (a_act t L (9 - (n : Int)) p g).2.1, 0) → (r.1 = true → (1 ≤ r.2.1 ∧ r.2.1 ≤ 10) ∧ -1 ≤ r.2.2 ∧ r.2.2 ≤ 9) ∧ (r.1 = false → 0 ≤ r.2.1 ∧ r.2.1 ≤ L) := by
      intro r hr
      subst hr
      exact ⟨fun e => (by cases e), fun _ => ⟨by show 0 ≤ (a_act t L (9 - (n : Int)) p g).2.1; omega, ha.1.2⟩⟩
    rw [l_r_succ]
    cases ho : (a_act t L (9 - (n : Int)) p g).1 with
    | false =>
      rw [cond_false]
      exact no _ rfl
    | true =>
      have hg := ha.2 ho
      rw [cond_true]
      by_cases hx : L ≤ (a_act t L (9 - (n : Int)) p g).2.1
      · rw [if_pos hx]
        exact ⟨fun _ => ⟨⟨by show 1 ≤ 10 - (n : Int); omega, by show 10 - (n : Int) ≤ 10; omega⟩, hg⟩, fun e => (by cases e)⟩
      · rw [if_neg hx]
        cases hz : Nat.beq n 0 with
        | true =>
          rw [cond_true]
          exact no _ rfl
        | false =>
          rw [cond_false]
          cases hc : y_tb t L (a_act t L (9 - (n : Int)) p g).2.1 59 59 with
          | false =>
            rw [cond_false]
            exact no _ rfl
          | true =>
            rw [cond_true]
            exact l_r_bd n _ _ (by omega) (by omega) (by omega) hg.1 hg.2
theorem l_rd_bd {t : Int → Int} {L : Int} (h0 : 0 ≤ L) (hL : L ≤ 80) : -200 ≤ l_rd t L ∧ l_rd t L ≤ 10 := by
  unfold l_rd
  split
  · omega
  · have h := l_r_bd (t := t) (L := L) 10 0 (-1) (by decide) (by decide) (by omega) (by decide) (by decide)
    unfold l_a
    cases ho : (l_r t L 10 0 (-1)).1 with
    | true =>
      have := h.1 ho
      rw [cond_true]
      split <;> omega
    | false =>
      have := h.2 ho
      rw [cond_false]
      omega
/-- the sign at p as a form -/
noncomputable def y_sg (R : szR) (Cs : azS) (F : azF) (c : Nat) (p : Int × szT) : Option (Int × szT) := match az_fget c p F with
  | none => none
  | some v => bif Nat.beq v.1 0 && (decide (0 ≤ az_lb R Cs v.2.1 v.2.2) && decide (az_ub R Cs v.2.1 v.2.2 ≤ 255)) then some v.2 else none
noncomputable def yMk (R : szR) (Cs : azS) (p g s : Int × szT) (m : Int) (kok : Int × szT → Int × szT → Bool) : Bool := y_dec R Cs (y_ad s (-97)) g (kok (y_ad p (1 + m)) g) (kok (y_ad p (1 + m)) (y_ad s (-97)))
noncomputable def yOp (R : szR) (Cs : azS) (F : azF) (c : Nat) (k p g : Int × szT) (kok : Int × szT → Int × szT → Bool) (kf : Bool) : Bool := yC R Cs F c p 48 57 (kok (y_ad p 1) g) (yC R Cs F c p 110 110 (kok (y_ad p 1) g) (yC R Cs F c p 97 106 (az_nw R Cs (0, p) && (match y_sg R Cs F c p with
  | none => false
  | some s => yC R Cs F c (y_ad p 1) 39 39 (yC R Cs F c (y_ad p 2) 39 39 (yMk R Cs p g s 2 kok) (yMk R Cs p g s 1 kok)) (y_dec R Cs k (y_ad s (-97)) kf (kok (y_ad p 1) g)))) kf))
noncomputable def ySrt (R : szR) (Cs : azS) (F : azF) (c : Nat) (p : Int × szT) (x y : Bool) : Bool := yC R Cs F c p 42 43 x (yC R Cs F c p 45 45 x (yC R Cs F c p 60 60 x y))
section
variable {D : szD} {R : szR} {Cs : azS} {ρ : Nat → Int}
theorem y_sg_ok (hV : az_V D R Cs ρ) {h : List mzC} {F : azF} (hF : az_HF ρ h false F) {c : Nat} (hc : c < 163) {p s : Int × szT} (hn : az_nw R Cs (0, p) = true) (e : y_sg R Cs F c p = some s) : y_t h c (y_n ρ p) = y_n ρ s := by
  unfold y_sg at e
  split at e
  · cases e
  · rename_i v hg
    cases h0 : (Nat.beq v.1 0 && (decide (0 ≤ az_lb R Cs v.2.1 v.2.2) && decide (az_ub R Cs v.2.1 v.2.2 ≤ 255))) with
    | false => rw [h0, cond_false] at e; cases e
    | true =>
      rw [h0, cond_true] at e
      cases e
      simp only [Bool.and_eq_true, decide_eq_true_eq] at h0
      obtain ⟨v0, l0, u0⟩ := h0
      have v0 := Nat.eq_of_beq_eq_true v0
      have a := az_lb_ok hV.2.1 hV.2.2.1 v.2.1 v.2.2
      have b := az_ub_ok hV.2.1 hV.2.2.1 v.2.1 v.2.2
      have ee : y_n ρ v.2 = v.2.1 + sz_sum ρ v.2.2 := rfl
      obtain ⟨q1, q2, q3⟩ := hF _ (az_fget_ok hg)
      dsimp only at q1 q2 q3
      have hp : (sz_i ρ (0, p)).toInt = y_n ρ p := az_nw_ok hV.2.1 hV.2.2.1 hn
      rw [hp] at q2 q3
      have hcc : az_c ρ c = c := by
        unfold az_c
        rw [if_neg (by omega)]
      rw [hcc, y_iv v0] at q3
      have ev : hv h c (y_n ρ p).toNat = y_n ρ v.2 := hv_val q3 (by omega) (by omega)
      unfold y_t
      rw [ev]
      omega
theorem yMk_ok (hV : az_V D R Cs ρ) {p g s : Int × szT} {m : Int} {kok : Int × szT → Int × szT → Bool} (e : yMk R Cs p g s m kok = true) : ∃ p' g', kok p' g' = true ∧ y_n ρ p' = y_n ρ p + 1 + m ∧ y_n ρ g' = (if y_n ρ g < y_n ρ s - 97 then y_n ρ s - 97 else y_n ρ g) := by
  unfold yMk at e
  rcases y_dec_ok hV e with ⟨a, e⟩ | ⟨a, e⟩
  · rw [y_n_ad] at a
    refine ⟨_, _, e, by rw [y_n_ad]; omega, ?_⟩
    rw [if_neg (by omega)]
  · rw [y_n_ad] at a
    refine ⟨_, _, e, by rw [y_n_ad]; omega, ?_⟩
    rw [if_pos (by omega), y_n_ad]
    omega
theorem yOp_ok (hV : az_V D R Cs ρ) {h : List mzC} {F : azF} (hF : az_HF ρ h false F) {c : Nat} (hc : c < 163) {k p g : Int × szT} {kok : Int × szT → Int × szT → Bool} {kf : Bool} (e : yOp R Cs F c k p g kok kf = true) : (o_ok (y_t h c) (ρ 0) (y_n ρ k) (y_n ρ p) = true ∧ ∃ p' g', kok p' g' = true ∧ y_n ρ p' = o_e (y_t h c) (ρ 0) (y_n ρ p) ∧ y_n ρ g' = o_g (y_t h c) (ρ 0) (y_n ρ p) (y_n ρ g)) ∨ (o_ok (y_t h c) (ρ 0) (y_n ρ k) (y_n ρ p) = false ∧ kf = true) := by
  have done : o_dn (y_t h c) (ρ 0) (y_n ρ p) = true → kok (y_ad p 1) g = true → (o_ok (y_t h c) (ρ 0) (y_n ρ k) (y_n ρ p) = true ∧ ∃ p' g', kok p' g' = true ∧ y_n ρ p' = o_e (y_t h c) (ρ 0) (y_n ρ p) ∧ y_n ρ g' = o_g (y_t h c) (ρ 0) (y_n ρ p) (y_n ρ g)) ∨ (o_ok (y_t h c) (ρ 0) (y_n ρ k) (y_n ρ p) = false ∧ kf = true) := by
    intro hd hk
    refine Or.inl ⟨by unfold o_ok; rw [hd, Bool.true_or], _, _, hk, ?_, ?_⟩
    · unfold o_e
      rw [hd, cond_true, y_n_ad]
    · unfold o_g
      rw [hd, cond_true]
  unfold yOp at e
  rcases yC_ok hV hF hc e with ⟨a, e⟩ | ⟨a, e⟩
  · exact done (by unfold o_dn; rw [a, Bool.true_or]) e
  rcases yC_ok hV hF hc e with ⟨b, e⟩ | ⟨b, e⟩
  · exact done (by unfold o_dn; rw [b, Bool.or_true]) e
  have hd : o_dn (y_t h c) (ρ 0) (y_n ρ p) = false := by
    unfold o_dn
    rw [a, b]
    rfl
  rcases yC_ok hV hF hc e with ⟨l, e⟩ | ⟨l, e⟩
  · rw [Bool.and_eq_true] at e
    obtain ⟨hn, e⟩ := e
    split at e
    · cases e
    · rename_i s hs
      have hs := y_sg_ok hV hF hc hn hs
      rcases yC_ok hV hF hc e with ⟨m1, e⟩ | ⟨m1, e⟩
      · rw [y_n_ad] at m1
        have key : ∀ m : Int, o_m (y_t h c) (ρ 0) (y_n ρ p) = m → 0 < m → yMk R Cs p g s m kok = true → (o_ok (y_t h c) (ρ 0) (y_n ρ k) (y_n ρ p) = true ∧ ∃ p' g', kok p' g' = true ∧ y_n ρ p' = o_e (y_t h c) (ρ 0) (y_n ρ p) ∧ y_n ρ g' = o_g (y_t h c) (ρ 0) (y_n ρ p) (y_n ρ g)) ∨ (o_ok (y_t h c) (ρ 0) (y_n ρ k) (y_n ρ p) = false ∧ kf = true) := by
          intro m hm hm0 e
          obtain ⟨p', g', k1, k2, k3⟩ := yMk_ok hV e
          refine Or.inl ⟨?_, p', g', k1, ?_, ?_⟩
          · unfold o_ok
            rw [hd, l, hm, decide_eq_true hm0]
            rfl
          · unfold o_e
            rw [hd, cond_false, hm, k2]
          · unfold o_g
            rw [hd, cond_false, hm, hs, k3]
            by_cases hlt : y_n ρ g < y_n ρ s - 97
            · rw [if_pos hlt, if_pos ⟨hm0, hlt⟩]
            · rw [if_neg hlt, if_neg (fun q => hlt q.2)]
        rcases yC_ok hV hF hc e with ⟨m2, e⟩ | ⟨m2, e⟩
        · rw [y_n_ad] at m2
          exact key 2 (by unfold o_m; rw [m1, m2]; rfl) (by decide) e
        · rw [y_n_ad] at m2
          exact key 1 (by unfold o_m; rw [m1, m2]; rfl) (by decide) e
      · rw [y_n_ad] at m1
        have hm : o_m (y_t h c) (ρ 0) (y_n ρ p) = 0 := by
          unfold o_m
          rw [m1]
          rfl
        rcases y_dec_ok hV e with ⟨d, e⟩ | ⟨d, e⟩
        · rw [y_n_ad] at d
          refine Or.inr ⟨?_, e⟩
          unfold o_ok
          rw [hd, l, hm, hs, decide_eq_false (by omega), decide_eq_false (by omega)]
          rfl
        · rw [y_n_ad] at d
          refine Or.inl ⟨?_, _, _, e, ?_, ?_⟩
          · unfold o_ok
            rw [hd, l, hm, hs, decide_eq_true (show y_n ρ s - 97 < y_n ρ k by omega)]
            simp
          · unfold o_e
            rw [hd, cond_false, hm, y_n_ad]
            omega
          · unfold o_g
            rw [hd, cond_false, hm, if_neg (by omega)]
  · refine Or.inr ⟨?_, e⟩
    unfold o_ok
    rw [hd, l]
    rfl
theorem ySrt_ok (hV : az_V D R Cs ρ) {h : List mzC} {F : azF} (hF : az_HF ρ h false F) {c : Nat} (hc : c < 163) {p : Int × szT} {x y : Bool} (e : ySrt R Cs F c p x y = true) : (a_srt (y_t h c) (ρ 0) (y_n ρ p) = true ∧ x = true) ∨ (a_srt (y_t h c) (ρ 0) (y_n ρ p) = false ∧ y = true) := by
  unfold ySrt at e
  unfold a_srt
  rcases yC_ok hV hF hc e with ⟨a, e⟩ | ⟨a, e⟩
  · exact Or.inl ⟨by rw [a]; rfl, e⟩
  rcases yC_ok hV hF hc e with ⟨b, e⟩ | ⟨b, e⟩
  · exact Or.inl ⟨by rw [a, b]; rfl, e⟩
  rcases yC_ok hV hF hc e with ⟨d, e⟩ | ⟨d, e⟩
  · exact Or.inl ⟨by rw [a, b, d]; rfl, e⟩
  · exact Or.inr ⟨by rw [a, b, d]; rfl, e⟩
end
