/-! numbers of a MEMORY's text: as a function; looked at by the facts -/
def y_q (t : Int → Int) (L p : Int) : Int := bif y_tb t L p 45 45 then p + 1 else p
def y_ok (t : Int → Int) (L q : Int) : Bool := y_tb t L q 48 57
def y_e (t : Int → Int) (L q : Int) : Int := bif y_tb t L (q + 1) 48 57 then (bif y_tb t L (q + 2) 48 57 then q + 3 else q + 2) else q + 1
/-- n numbers may follow, the first at p -/
def y_f (t : Int → Int) (L : Int) : Nat → Int → Int
  | 0, p => -1 - p
  | n + 1, p => bif y_ok t L (y_q t L p) then (if L ≤ y_e t L (y_q t L p) then 16 - (n : Int) else bif Nat.beq n 0 then -1 - y_e t L (y_q t L p) else bif y_tb t L (y_e t L (y_q t L p)) 44 44 then y_f t L n (y_e t L (y_q t L p) + 1) else -1 - y_e t L (y_q t L p)) else -1 - y_q t L p
theorem y_f_succ (t : Int → Int) (L : Int) (n : Nat) (p : Int) : y_f t L (n + 1) p = (bif y_ok t L (y_q t L p) then (if L ≤ y_e t L (y_q t L p) then 16 - (n : Int) else bif Nat.beq n 0 then -1 - y_e t L (y_q t L p) else bif y_tb t L (y_e t L (y_q t L p)) 44 44 then y_f t L n (y_e t L (y_q t L p) + 1) else -1 - y_e t L (y_q t L p)) else -1 - y_q t L p) := rfl
/-- what the text tells: how many, or where it is wrong -/
def y_rd (t : Int → Int) (L : Int) : Int := if L ≤ 0 then 0 else y_f t L 16 0
def y_fin (a m : Int) : Int := if a < 0 then a else if 0 ≤ m ∧ m ≤ 1 then a else -1
theorem y_tb_lt {t : Int → Int} {L p a b : Int} (h : y_tb t L p a b = true) : p < L := by
  unfold y_tb at h
  rw [Bool.and_eq_true, decide_eq_true_eq] at h
  exact h.1
theorem y_q_le {t : Int → Int} {L p : Int} (h : p ≤ L) : p ≤ y_q t L p ∧ y_q t L p ≤ L := by
  unfold y_q
  cases e : y_tb t L p 45 45 with
  | true =>
    have := y_tb_lt e
    rw [cond_true]
    omega
  | false =>
    rw [cond_false]
    omega
theorem y_e_le {t : Int → Int} {L q : Int} (h : y_ok t L q = true) : q < y_e t L q ∧ y_e t L q ≤ L := by
  have h0 : q < L := y_tb_lt h
  unfold y_e
  cases e : y_tb t L (q + 1) 48 57 with
  | false =>
    rw [cond_false]
    omega
  | true =>
    have h1 := y_tb_lt e
    rw [cond_true]
    cases e2 : y_tb t L (q + 2) 48 57 with
    | false =>
      rw [cond_false]
      omega
    | true =>
      have h2 := y_tb_lt e2
      rw [cond_true]
      omega
theorem y_f_bd {t : Int → Int} {L : Int} (hL : L ≤ 80) : ∀ (n : Nat) (p : Int), n ≤ 16 → 0 ≤ p → p ≤ L → -81 ≤ y_f t L n p ∧ y_f t L n p ≤ 16
  | 0, p, _, h0, h1 => by
    show -81 ≤ -1 - p ∧ -1 - p ≤ 16
    omega
  | n + 1, p, hn, h0, h1 => by
    have hq := y_q_le (t := t) h1
    rw [y_f_succ]
    cases ho : y_ok t L (y_q t L p) with
    | false =>
      rw [cond_false]
      omega
    | true =>
      have he := y_e_le ho
      rw [cond_true]
      by_cases hx : L ≤ y_e t L (y_q t L p)
      · rw [if_pos hx]
        omega
      · rw [if_neg hx]
        cases hz : Nat.beq n 0 with
        | true =>
          rw [cond_true]
          omega
        | false =>
          rw [cond_false]
          cases hc : y_tb t L (y_e t L (y_q t L p)) 44 44 with
          | false =>
            rw [cond_false]
            omega
          | true =>
            rw [cond_true]
            exact y_f_bd hL n _ (by omega) (by omega) (by omega)
theorem y_rd_bd {t : Int → Int} {L : Int} (h0 : 0 ≤ L) (hL : L ≤ 80) : -81 ≤ y_rd t L ∧ y_rd t L ≤ 16 := by
  unfold y_rd
  split
  · omega
  · exact y_f_bd hL 16 0 (by decide) (by omega) (by omega)
theorem y_fin_bd {a m : Int} (h : -81 ≤ a ∧ a ≤ 16) : -81 ≤ y_fin a m ∧ y_fin a m ≤ 16 := by
  unfold y_fin
  split
  · exact h
  · split
    · exact h
    · omega
noncomputable def yDg (R : szR) (Cs : azS) (F : azF) (c : Nat) (q : Int × szT) (k : Bool → Int × szT → Bool) : Bool := yC R Cs F c q 48 57 (yC R Cs F c (y_ad q 1) 48 57 (yC R Cs F c (y_ad q 2) 48 57 (k true (y_ad q 3)) (k true (y_ad q 2))) (k true (y_ad q 1))) (k false q)
noncomputable def yNu (R : szR) (Cs : azS) (F : azF) (c : Nat) (p : Int × szT) (k : Bool → Int × szT → Bool) : Bool := yC R Cs F c p 45 45 (yDg R Cs F c (y_ad p 1) k) (yDg R Cs F c p k)
noncomputable def yMe (R : szR) (Cs : azS) (F : azF) (c : Nat) (last : Bool) (x1 p : Int × szT) (fa fn : Int × szT → Bool) : Bool := yNu R Cs F c p (fun ok q => bif ok then y_dec R Cs y_L q (fa x1) (bif last then fa (y_m1 q) else yC R Cs F c q 44 44 (fn (y_ad q 1)) (fa (y_m1 q))) else fa (y_m1 q))
noncomputable def yFin (R : szR) (Cs : azS) (a m : Int × szT) (k : Int × szT → Bool) : Bool := bif y_lt R Cs a (0, []) then k a else y_le R Cs (0, []) a && (bif y_le R Cs (0, []) m && y_le R Cs m (1, []) then k a else (y_lt R Cs m (0, []) || y_le R Cs (2, []) m) && k (-1, []))
section
variable {D : szD} {R : szR} {Cs : azS} {ρ : Nat → Int}
theorem yDg_ok (hV : az_V D R Cs ρ) {h : List mzC} {F : azF} (hF : az_HF ρ h false F) {c : Nat} (hc : c < 163) {q : Int × szT} {k : Bool → Int × szT → Bool} (e : yDg R Cs F c q k = true) : ∃ q', k (y_ok (y_t h c) (ρ 0) (y_n ρ q)) q' = true ∧ y_n ρ q' = (bif y_ok (y_t h c) (ρ 0) (y_n ρ q) then y_e (y_t h c) (ρ 0) (y_n ρ q) else y_n ρ q) := by
  unfold yDg at e
  rcases yC_ok hV hF hc e with ⟨a, e⟩ | ⟨a, e⟩
  · have a : y_ok (y_t h c) (ρ 0) (y_n ρ q) = true := a
    rcases yC_ok hV hF hc e with ⟨b, e⟩ | ⟨b, e⟩
    · rw [y_n_ad] at b
      rcases yC_ok hV hF hc e with ⟨d, e⟩ | ⟨d, e⟩
      · rw [y_n_ad] at d
        refine ⟨_, by rw [a]; exact e, ?_⟩
        rw [a, cond_true, y_n_ad]
        unfold y_e
        rw [b, d, cond_true, cond_true]
      · rw [y_n_ad] at d
        refine ⟨_, by rw [a]; exact e, ?_⟩
        rw [a, cond_true, y_n_ad]
        unfold y_e
        rw [b, d, cond_true, cond_false]
    · rw [y_n_ad] at b
      refine ⟨_, by rw [a]; exact e, ?_⟩
      rw [a, cond_true, y_n_ad]
      unfold y_e
      rw [b, cond_false]
  · have a : y_ok (y_t h c) (ρ 0) (y_n ρ q) = false := a
    refine ⟨_, by rw [a]; exact e, ?_⟩
    rw [a, cond_false]
theorem yNu_ok (hV : az_V D R Cs ρ) {h : List mzC} {F : azF} (hF : az_HF ρ h false F) {c : Nat} (hc : c < 163) {p : Int × szT} {k : Bool → Int × szT → Bool} (e : yNu R Cs F c p k = true) : ∃ q', k (y_ok (y_t h c) (ρ 0) (y_q (y_t h c) (ρ 0) (y_n ρ p))) q' = true ∧ y_n ρ q' = (bif y_ok (y_t h c) (ρ 0) (y_q (y_t h c) (ρ 0) (y_n ρ p)) then y_e (y_t h c) (ρ 0) (y_q (y_t h c) (ρ 0) (y_n ρ p)) else y_q (y_t h c) (ρ 0) (y_n ρ p)) := by
  unfold yNu at e
  rcases yC_ok hV hF hc e with ⟨a, e⟩ | ⟨a, e⟩
  · have hq : y_q (y_t h c) (ρ 0) (y_n ρ p) = y_n ρ (y_ad p 1) := by
      unfold y_q
      rw [a, cond_true, y_n_ad]
    rw [hq]
    exact yDg_ok hV hF hc e
  · have hq : y_q (y_t h c) (ρ 0) (y_n ρ p) = y_n ρ p := by
      unfold y_q
      rw [a, cond_false]
    rw [hq]
    exact yDg_ok hV hF hc e
theorem yMe_ok (hV : az_V D R Cs ρ) {h : List mzC} {F : azF} (hF : az_HF ρ h false F) {c : Nat} (hc : c < 163) {n : Nat} {x1 p : Int × szT} (hx1 : y_n ρ x1 = 16 - (n : Int)) {fa fn : Int × szT → Bool} (e : yMe R Cs F c (Nat.beq n 0) x1 p fa fn = true) : (∃ a, fa a = true ∧ y_n ρ a = y_f (y_t h c) (ρ 0) (n + 1) (y_n ρ p)) ∨ (∃ q, fn q = true ∧ y_f (y_t h c) (ρ 0) (n + 1) (y_n ρ p) = y_f (y_t h c) (ρ 0) n (y_n ρ q)) := by
  unfold yMe at e
  obtain ⟨q, h1, h2⟩ := yNu_ok hV hF hc e
  try dsimp only at h1
  rw [y_f_succ]
  cases ho : y_ok (y_t h c) (ρ 0) (y_q (y_t h c) (ρ 0) (y_n ρ p)) with
  | false =>
    rw [ho, cond_false] at h1 h2
    refine Or.inl ⟨_, h1, ?_⟩
    rw [y_n_m1, h2, cond_false]
  | true =>
    rw [ho, cond_true] at h1 h2
    rw [cond_true]
    rcases y_dec_ok hV h1 with ⟨d, h1⟩ | ⟨d, h1⟩
    · rw [y_L_n, h2] at d
      refine Or.inl ⟨_, h1, ?_⟩
      rw [if_pos d, hx1]
    · rw [y_L_n, h2] at d
      rw [if_neg (by omega)]
      cases hz : Nat.beq n 0 with
      | true =>
        rw [hz, cond_true] at h1
        refine Or.inl ⟨_, h1, ?_⟩
        rw [y_n_m1, h2, cond_true]
      | false =>
        rw [hz, cond_false] at h1
        rw [cond_false]
        rcases yC_ok hV hF hc h1 with ⟨b, h1⟩ | ⟨b, h1⟩
        · rw [h2] at b
          refine Or.inr ⟨_, h1, ?_⟩
          rw [b, cond_true, y_n_ad, h2]
        · rw [h2] at b
          refine Or.inl ⟨_, h1, ?_⟩
          rw [b, cond_false, y_n_m1, h2]
theorem yFin_ok (hV : az_V D R Cs ρ) {a m : Int × szT} {k : Int × szT → Bool} (e : yFin R Cs a m k = true) : ∃ f, k f = true ∧ y_n ρ f = y_fin (y_n ρ a) (y_n ρ m) := by
  have n0 : ∀ z : Int, y_n ρ (z, []) = z := fun z => Int.add_zero z
  unfold yFin at e
  unfold y_fin
  cases h1 : y_lt R Cs a (0, []) with
  | true =>
    rw [h1, cond_true] at e
    have := y_lt_ok hV h1
    rw [n0] at this
    exact ⟨a, e, by rw [if_pos this]⟩
  | false =>
    rw [h1, cond_false, Bool.and_eq_true] at e
    obtain ⟨e0, e⟩ := e
    have e0 := y_le_ok hV e0
    rw [n0] at e0
    rw [if_neg (by omega)]
    cases h2 : (y_le R Cs (0, []) m && y_le R Cs m (1, [])) with
    | true =>
      rw [h2, cond_true] at e
      rw [Bool.and_eq_true] at h2
      have a1 := y_le_ok hV h2.1
      have a2 := y_le_ok hV h2.2
      rw [n0] at a1 a2
      exact ⟨a, e, by rw [if_pos ⟨a1, a2⟩]⟩
    | false =>
      rw [h2, cond_false, Bool.and_eq_true, Bool.or_eq_true] at e
      obtain ⟨e1, e⟩ := e
      refine ⟨_, e, ?_⟩
      rw [n0]
      rcases e1 with e1 | e1
      · have := y_lt_ok hV e1
        rw [n0] at this
        rw [if_neg (by omega)]
      · have := y_le_ok hV e1
        rw [n0] at this
        rw [if_neg (by omega)]
end
