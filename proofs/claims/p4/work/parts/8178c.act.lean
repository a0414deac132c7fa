/-! an ACT: what may stand where -/
theorem rho_6 (a b c e f g i : Int) (l : List Int) (z : Int) : rho (a :: b :: c :: e :: f :: g :: i :: l) z 6 = i := by
  show (if (6 : Nat) = 1000000 then z else (a :: b :: c :: e :: f :: g :: i :: l).getD 6 0) = i
  rw [if_neg (by decide)]
  rfl
theorem rho_7 (a b c e f g i j : Int) (l : List Int) (z : Int) : rho (a :: b :: c :: e :: f :: g :: i :: j :: l) z 7 = j := by
  show (if (7 : Nat) = 1000000 then z else (a :: b :: c :: e :: f :: g :: i :: j :: l).getD 7 0) = j
  rw [if_neg (by decide)]
  rfl
theorem rho_8 (a b c e f g i j m : Int) (l : List Int) (z : Int) : rho (a :: b :: c :: e :: f :: g :: i :: j :: m :: l) z 8 = m := by
  show (if (8 : Nat) = 1000000 then z else (a :: b :: c :: e :: f :: g :: i :: j :: m :: l).getD 8 0) = m
  rw [if_neg (by decide)]
  rfl
/-- which of two OPERANDS, the second so far behind the first, may stand there, and what is known behind them -/
def fl (t : Int → Int) (L k q off g : Int) (f : Nat) (e1 g1 e2 g2 : Int) : Prop := (f = 0 ∧ o_ok t L k q = false) ∨ ((o_ok t L k q = true ∧ e1 = o_e t L q ∧ g1 = o_g t L q g) ∧ ((f = 1 ∧ o_ok t L k (e1 + off) = false) ∨ (f = 2 ∧ o_ok t L k (e1 + off) = true ∧ e2 = o_e t L (e1 + off) ∧ g2 = o_g t L (e1 + off) g1)))
theorem fl_ex {t : Int → Int} {L k q off g : Int} (hL : L ≤ 80) (hq : 0 ≤ q) (ho : 0 ≤ off) (hg : -1 ≤ g ∧ g ≤ 9) : ∃ (f : Nat) (e1 g1 e2 g2 : Int), fl t L k q off g f e1 g1 e2 g2 ∧ f ≤ 2 ∧ (0 ≤ e1 ∧ e1 ≤ 90) ∧ (-1 ≤ g1 ∧ g1 ≤ 9) ∧ (0 ≤ e2 ∧ e2 ≤ 90) ∧ (-1 ≤ g2 ∧ g2 ≤ 9) ∧ (f ≠ 0 → o_ok t L k q = true) := by
  cases h1 : o_ok t L k q with
  | false => exact ⟨0, 0, 0, 0, 0, Or.inl ⟨rfl, h1⟩, by omega, by omega, by omega, by omega, by omega, fun e => absurd rfl e⟩
  | true =>
    have b1 := o_e_bd h1
    have c1 := o_g_bd h1 hg
    cases h2 : o_ok t L k (o_e t L q + off) with
    | false => exact ⟨1, o_e t L q, o_g t L q g, 0, 0, Or.inr ⟨⟨h1, rfl, rfl⟩, Or.inl ⟨rfl, h2⟩⟩, by omega, by omega, c1, by omega, by omega, fun _ => rfl⟩
    | true =>
      have b2 := o_e_bd h2
      have c2 := o_g_bd h2 c1
      exact ⟨2, o_e t L q, o_g t L q g, o_e t L (o_e t L q + off), o_g t L (o_e t L q + off) (o_g t L q g), Or.inr ⟨⟨h1, rfl, rfl⟩, Or.inr ⟨rfl, h2, rfl, rfl⟩⟩, by omega, by omega, c1, by omega, c2, fun _ => rfl⟩
noncomputable def yAc (R : szR) (Cs : azS) (F : azF) (c f : Nat) (p e1 g1 e2 g2 : Int × szT) (kok : Int × szT → Int × szT → Bool) (kf : Int × szT → Bool) : Bool := yC R Cs F c (y_ad p 1) 91 91 (bif Nat.beq f 0 then kf (y_ad p 2) else yC R Cs F c e1 93 93 (yC R Cs F c (y_ad e1 1) 61 61 (bif Nat.beq f 1 then kf (y_ad e1 2) else kok e2 g2) (kok (y_ad e1 1) g1)) (kf e1)) (kf (y_ad p 1))
noncomputable def yAs (R : szR) (Cs : azS) (F : azF) (c f : Nat) (p e1 e2 g2 : Int × szT) (kok : Int × szT → Int × szT → Bool) (kf : Int × szT → Bool) : Bool := bif Nat.beq f 0 then kf p else ySrt R Cs F c e1 (bif Nat.beq f 1 then kf (y_ad e1 1) else kok e2 g2) (kf e1)
section
variable {D : szD} {R : szR} {Cs : azS} {ρ : Nat → Int}
theorem yAc_ok (hV : az_V D R Cs ρ) {h : List mzC} {F : azF} (hF : az_HF ρ h false F) {c : Nat} (hc : c < 163) {f : Nat} {k g : Int} {p e1 g1 e2 g2 : Int × szT} (hfl : fl (y_t h c) (ρ 0) k (y_n ρ p + 2) 2 g f (y_n ρ e1) (y_n ρ g1) (y_n ρ e2) (y_n ρ g2)) {kok : Int × szT → Int × szT → Bool} {kf : Int × szT → Bool} (e : yAc R Cs F c f p e1 g1 e2 g2 kok kf = true) : (∃ p' g', kok p' g' = true ∧ a_acc (y_t h c) (ρ 0) k (y_n ρ p) g = (true, y_n ρ p', y_n ρ g')) ∨ (∃ z, kf z = true ∧ (a_acc (y_t h c) (ρ 0) k (y_n ρ p) g).1 = false ∧ (a_acc (y_t h c) (ρ 0) k (y_n ρ p) g).2.1 = y_n ρ z) := by
  unfold yAc at e
  unfold a_acc
  rcases yC_ok hV hF hc e with ⟨a, e⟩ | ⟨a, e⟩
  · rw [y_n_ad] at a
    rw [a, cond_true]
    rcases hfl with ⟨f0, o0⟩ | ⟨⟨o1, q1, q2⟩, hfl⟩
    · subst f0
      rw [o0, cond_false]
      exact Or.inr ⟨_, e, rfl, by rw [y_n_ad]⟩
    · have hf0 : Nat.beq f 0 = false := by
        rcases hfl with ⟨h1, _⟩ | ⟨h1, _⟩ <;> subst h1 <;> rfl
      rw [hf0, cond_false] at e
      rw [o1, cond_true, ← q1]
      rcases yC_ok hV hF hc e with ⟨b, e⟩ | ⟨b, e⟩
      · rw [b, cond_true]
        rcases yC_ok hV hF hc e with ⟨b2, e⟩ | ⟨b2, e⟩
        · rw [y_n_ad] at b2
          rw [b2, cond_true]
          rcases hfl with ⟨h1, h2⟩ | ⟨h1, h2, h3, h4⟩
          · subst h1
            rw [h2, cond_false]
            exact Or.inr ⟨_, e, rfl, by rw [y_n_ad]⟩
          · subst h1
            rw [h2, cond_true, ← q2, ← h3, ← h4]
            exact Or.inl ⟨_, _, e, rfl⟩
        · rw [y_n_ad] at b2
          rw [b2, cond_false, ← q2]
          exact Or.inl ⟨_, _, e, by rw [y_n_ad]⟩
      · rw [b, cond_false]
        exact Or.inr ⟨_, e, rfl, rfl⟩
  · rw [y_n_ad] at a
    rw [a, cond_false]
    exact Or.inr ⟨_, e, rfl, by rw [y_n_ad]⟩
theorem yAs_ok (hV : az_V D R Cs ρ) {h : List mzC} {F : azF} (hF : az_HF ρ h false F) {c : Nat} (hc : c < 163) {f : Nat} {k g : Int} {p e1 g1 e2 g2 : Int × szT} (hfl : fl (y_t h c) (ρ 0) k (y_n ρ p) 1 g f (y_n ρ e1) (y_n ρ g1) (y_n ρ e2) (y_n ρ g2)) {kok : Int × szT → Int × szT → Bool} {kf : Int × szT → Bool} (e : yAs R Cs F c f p e1 e2 g2 kok kf = true) : (∃ p' g', kok p' g' = true ∧ a_sum (y_t h c) (ρ 0) k (y_n ρ p) g = (true, y_n ρ p', y_n ρ g')) ∨ (∃ z, kf z = true ∧ (a_sum (y_t h c) (ρ 0) k (y_n ρ p) g).1 = false ∧ (a_sum (y_t h c) (ρ 0) k (y_n ρ p) g).2.1 = y_n ρ z) := by
  unfold yAs at e
  unfold a_sum
  rcases hfl with ⟨f0, o0⟩ | ⟨⟨o1, q1, q2⟩, hfl⟩
  · subst f0
    rw [o0, cond_false]
    exact Or.inr ⟨_, e, rfl, rfl⟩
  · have hf0 : Nat.beq f 0 = false := by
      rcases hfl with ⟨h1, _⟩ | ⟨h1, _⟩ <;> subst h1 <;> rfl
    rw [hf0, cond_false] at e
    rw [o1, cond_true, ← q1]
    rcases ySrt_ok hV hF hc e with ⟨b, e⟩ | ⟨b, e⟩
    · rw [b, cond_true]
      rcases hfl with ⟨h1, h2⟩ | ⟨h1, h2, h3, h4⟩
      · subst h1
        rw [h2, cond_false]
        exact Or.inr ⟨_, e, rfl, by rw [y_n_ad]⟩
      · subst h1
        rw [h2, cond_true, ← q2, ← h3, ← h4]
        exact Or.inl ⟨_, _, e, rfl⟩
    · rw [b, cond_false]
      exact Or.inr ⟨_, e, rfl, rfl⟩
end
/-- an ACT's begin: the sign is A or B (0), less, more, .. ; the last: none -/
def y_acc (sc : Nat) : Bool := Nat.beq sc 0
def caQ : szM := (6, 8, (0, 0, 0), szc_262)
def caMd : List (Nat × Nat) := [(8, 3), (10, 3), (12, 0), (13, 0), (14, 0), (15, 0)]
def caSR (sc : Nat) : Int × Int := bif Nat.beq sc 0 then (65, 66) else bif Nat.beq sc 1 then (0, 64) else bif Nat.beq sc 2 then (67, 255) else (0, 0)
def caSC (sc : Nat) : azS := bif Nat.beq sc 3 then [(0, [(0, (-1)), (1, 1)])] else [((-1), [(0, 1), (1, (-1))])]
def caSF (sc : Nat) : azF := bif Nat.beq sc 3 then [] else [(9, (0, [(1, 1)]), (0, 0, [(8, 1)]))]
/-- atoms 0 how many signs, 1 where, 2 which ACT, 3 the greatest letter with '; 4 to 7 behind the first, the second OPERAND; 8 the sign -/
def caC (sc : Nat) : azCon := (262, 9, ([azf, azf, azf, azf, azf, azf, azf, azf, azf], coR ++ [(0, 90), ((-1), 9), (0, 90), ((-1), 9), caSR sc], caSC sc, [(1, 14, []), (0, 0, [(2, 1)])], coF ++ caSF sc, [], false), [], caMd, (0, 0))
noncomputable def caI (j : Nat) : Bool := az_inl j || Nat.beq j 263
noncomputable def caD (sc f : Nat) (D : szD) (R : szR) (Cs : azS) (C : azQ) (fn : szD → szR → azS → azQ → Bool) : Bool :=
  (bif Nat.beq f 0 then az_knr szP 9 caMd 9 (bif y_acc sc then 263 else 262) (bif y_acc sc then 9 else 17) coN [(0, 0, [(0, 1)]), (0, (bif y_acc sc then 2 else 0), [(1, 1)]), (0, 0, [(2, 1)]), (0, 0, [(3, 1)])] D R Cs C fn else az_knr szP 9 caMd 9 (bif y_acc sc then 263 else 262) (bif y_acc sc then 9 else 17) coA [(0, 0, [(0, 1)]), (0, (bif y_acc sc then 2 else 0), [(1, 1)]), (0, 0, [(2, 1)]), (0, 0, [(3, 1)]), (0, 0, [(4, 1)]), (0, 0, [(5, 1)])] D R Cs C fn)
  || (bif Nat.beq f 0 then false else bif Nat.beq f 1 then az_knr szP 9 caMd 9 (bif y_acc sc then 263 else 262) (bif y_acc sc then 38 else 43) coN [(0, 0, [(0, 1)]), (0, (bif y_acc sc then 2 else 1), [(4, 1)]), (0, 0, [(2, 1)]), (0, 0, [(5, 1)])] D R Cs C fn else az_knr szP 9 caMd 9 (bif y_acc sc then 263 else 262) (bif y_acc sc then 38 else 43) coA [(0, 0, [(0, 1)]), (0, (bif y_acc sc then 2 else 1), [(4, 1)]), (0, 0, [(2, 1)]), (0, 0, [(5, 1)]), (0, 0, [(6, 1)]), (0, 0, [(7, 1)])] D R Cs C fn)
noncomputable def caS (sc f : Nat) (R : szR) (Cs : azS) (F : azF) (kok : Int × szT → Int × szT → Bool) (kf : Int × szT → Bool) : Bool := bif y_acc sc then yAc R Cs F 9 f (0, [(1, 1)]) (0, [(4, 1)]) (0, [(5, 1)]) (0, [(6, 1)]) (0, [(7, 1)]) kok kf else yAs R Cs F 9 f (0, [(1, 1)]) (0, [(4, 1)]) (0, [(6, 1)]) (0, [(7, 1)]) kok kf
noncomputable def caE (sc f : Nat) (_ : szD) (R : szR) (Cs : azS) (F : azF) (o : Option szV) : Bool := match o with
  | some v => (Nat.beq v.1 0 && az_nw R Cs v) && y_2 R Cs F 8 2 10 2 (fun u w => caS sc f R Cs F (fun p g => y_eq R Cs v.2 (1, []) && (y_eq R Cs u p && y_eq R Cs w g)) (fun z => y_eq R Cs v.2 (0, []) && y_eq R Cs u z))
  | none => false
theorem caR_0_0 : yRun caI (caC 0) [] caQ 0 8000 2 (az_yl 262 9 (fun _ _ _ _ _ _ => false) (caE 0 0)) (caD 0 0) = true := by decide +kernel
theorem caR_0_1 : yRun caI (caC 0) [] caQ 0 8000 2 (az_yl 262 9 (fun _ _ _ _ _ _ => false) (caE 0 1)) (caD 0 1) = true := by decide +kernel
theorem caR_0_2 : yRun caI (caC 0) [] caQ 0 8000 2 (az_yl 262 9 (fun _ _ _ _ _ _ => false) (caE 0 2)) (caD 0 2) = true := by decide +kernel
theorem caR_1_0 : yRun caI (caC 1) [] caQ 0 8000 2 (az_yl 262 9 (fun _ _ _ _ _ _ => false) (caE 1 0)) (caD 1 0) = true := by decide +kernel
theorem caR_1_1 : yRun caI (caC 1) [] caQ 0 8000 2 (az_yl 262 9 (fun _ _ _ _ _ _ => false) (caE 1 1)) (caD 1 1) = true := by decide +kernel
theorem caR_1_2 : yRun caI (caC 1) [] caQ 0 8000 2 (az_yl 262 9 (fun _ _ _ _ _ _ => false) (caE 1 2)) (caD 1 2) = true := by decide +kernel
theorem caR_2_0 : yRun caI (caC 2) [] caQ 0 8000 2 (az_yl 262 9 (fun _ _ _ _ _ _ => false) (caE 2 0)) (caD 2 0) = true := by decide +kernel
theorem caR_2_1 : yRun caI (caC 2) [] caQ 0 8000 2 (az_yl 262 9 (fun _ _ _ _ _ _ => false) (caE 2 1)) (caD 2 1) = true := by decide +kernel
theorem caR_2_2 : yRun caI (caC 2) [] caQ 0 8000 2 (az_yl 262 9 (fun _ _ _ _ _ _ => false) (caE 2 2)) (caD 2 2) = true := by decide +kernel
theorem caR_3_0 : yRun caI (caC 3) [] caQ 0 8000 2 (az_yl 262 9 (fun _ _ _ _ _ _ => false) (caE 3 0)) (caD 3 0) = true := by decide +kernel
set_option maxRecDepth 20000 in
theorem caD_ok {X : List (List Value)} (hX : az_X X) {Kb : Option (Option Value) → mzS → Prop} {h : List mzC} (hlen : h.length + 11000 < 2147483648) {s2 : Nat × Nat} {ee : Nat} {sc f : Nat} {D : szD} {R : szR} {Cs : azS} {ρ : Nat → Int} (hV : az_V D R Cs ρ) (hW : az_wf D R Cs) (hfl : fl (y_t h 9) (ρ 0) (ρ 2) (ρ 1 + (bif y_acc sc then 2 else 0)) (bif y_acc sc then 2 else 1) (ρ 3) f (ρ 4) (ρ 5) (ρ 6) (ρ 7)) {C : azQ} {fn : szD → szR → azS → azQ → Bool} (hr : caD sc f D R Cs C fn = true) (hf : ∀ D' R' Cs' C' ρ', fn D' R' Cs' C' = true → az_V D' R' Cs' ρ' → az_wf D' R' Cs' → az_ag R.length ρ ρ' → R.length ≤ R'.length → az_GG X Kb caMd h s2 ee ρ' C') : az_GG X Kb caMd h s2 ee ρ C := by
  have hl9 : h.length + 1000 * (9 + 2) < 2147483648 := by omega
  have tt : ∀ {hh : List mzC}, az_HM caMd h hh → y_t hh 9 = y_t h 9 := fun hM => y_t_eq hM (by decide) rfl
  unfold caD at hr
  rw [Bool.or_eq_true] at hr
  rcases hr with hr | hr
  · cases hz : Nat.beq f 0 with
    | true =>
      rw [hz, cond_true] at hr
      have f0 := Nat.eq_of_beq_eq_true hz
      subst f0
      rcases hfl with ⟨_, o0⟩ | ⟨_, ⟨h1, _⟩ | ⟨h1, _⟩⟩
      · refine az_knr_ok sz_pkall_szP hl9 hV hW ?_ hr hf
        intro ρ3 hh args s4 d4 hl hbd hM hV3 hLR H hlen3 hd4
        have b0 : ρ3 0 = (0 : Int) + (1 * ρ 0 + 0) := hbd 0 _ rfl
        have b1 : ρ3 1 = (bif y_acc sc then 2 else 0) + (1 * ρ 1 + 0) := hbd 1 _ rfl
        have b2 : ρ3 2 = (0 : Int) + (1 * ρ 2 + 0) := hbd 2 _ rfl
        refine coN_hc hX ?_ hl hV3 hLR H hlen3 hd4
        rw [tt hM, show ρ3 0 = ρ 0 by omega, show ρ3 2 = ρ 2 by omega, show ρ3 1 = ρ 1 + (bif y_acc sc then 2 else 0) by omega]
        exact o0
      · cases h1
      · cases h1
    | false =>
      rw [hz, cond_false] at hr
      rcases hfl with ⟨h1, _⟩ | ⟨⟨o1, q1, q2⟩, _⟩
      · subst h1
        cases hz
      · refine az_knr_ok sz_pkall_szP hl9 hV hW ?_ hr hf
        intro ρ3 hh args s4 d4 hl hbd hM hV3 hLR H hlen3 hd4
        have b0 : ρ3 0 = (0 : Int) + (1 * ρ 0 + 0) := hbd 0 _ rfl
        have b1 : ρ3 1 = (bif y_acc sc then 2 else 0) + (1 * ρ 1 + 0) := hbd 1 _ rfl
        have b2 : ρ3 2 = (0 : Int) + (1 * ρ 2 + 0) := hbd 2 _ rfl
        have b3 : ρ3 3 = (0 : Int) + (1 * ρ 3 + 0) := hbd 3 _ rfl
        have b4 : ρ3 4 = (0 : Int) + (1 * ρ 4 + 0) := hbd 4 _ rfl
        have b5 : ρ3 5 = (0 : Int) + (1 * ρ 5 + 0) := hbd 5 _ rfl
        have e0 : ρ3 0 = ρ 0 := by omega
        have e1 : ρ3 1 = ρ 1 + (bif y_acc sc then 2 else 0) := by omega
        have e2 : ρ3 2 = ρ 2 := by omega
        have e3 : ρ3 3 = ρ 3 := by omega
        have e4 : ρ3 4 = ρ 4 := by omega
        have e5 : ρ3 5 = ρ 5 := by omega
        refine coA_hc hX ?_ ?_ ?_ hl hV3 hLR H hlen3 hd4
        · rw [tt hM, e0, e1, e2]
          exact o1
        · rw [tt hM, e0, e1, e4]
          exact q1
        · rw [tt hM, e0, e1, e3, e5]
          exact q2
  · cases hz : Nat.beq f 0 with
    | true =>
      rw [hz, cond_true] at hr
      cases hr
    | false =>
      rw [hz, cond_false] at hr
      rcases hfl with ⟨h1, _⟩ | ⟨⟨o1, q1, q2⟩, ⟨f1, o2⟩ | ⟨f2, o2, q3, q4⟩⟩
      · subst h1
        cases hz
      · subst f1
        refine az_knr_ok sz_pkall_szP hl9 hV hW ?_ (show az_knr szP 9 caMd 9 (bif y_acc sc then 263 else 262) (bif y_acc sc then 38 else 43) coN [(0, 0, [(0, 1)]), (0, (bif y_acc sc then 2 else 1), [(4, 1)]), (0, 0, [(2, 1)]), (0, 0, [(5, 1)])] D R Cs C fn = true from hr) hf
        intro ρ3 hh args s4 d4 hl hbd hM hV3 hLR H hlen3 hd4
        have b0 : ρ3 0 = (0 : Int) + (1 * ρ 0 + 0) := hbd 0 _ rfl
        have b1 : ρ3 1 = (bif y_acc sc then 2 else 1) + (1 * ρ 4 + 0) := hbd 1 _ rfl
        have b2 : ρ3 2 = (0 : Int) + (1 * ρ 2 + 0) := hbd 2 _ rfl
        refine coN_hc hX ?_ hl hV3 hLR H hlen3 hd4
        rw [tt hM, show ρ3 0 = ρ 0 by omega, show ρ3 2 = ρ 2 by omega, show ρ3 1 = ρ 4 + (bif y_acc sc then 2 else 1) by omega]
        exact o2
      · subst f2
        refine az_knr_ok sz_pkall_szP hl9 hV hW ?_ (show az_knr szP 9 caMd 9 (bif y_acc sc then 263 else 262) (bif y_acc sc then 38 else 43) coA [(0, 0, [(0, 1)]), (0, (bif y_acc sc then 2 else 1), [(4, 1)]), (0, 0, [(2, 1)]), (0, 0, [(5, 1)]), (0, 0, [(6, 1)]), (0, 0, [(7, 1)])] D R Cs C fn = true from hr) hf
        intro ρ3 hh args s4 d4 hl hbd hM hV3 hLR H hlen3 hd4
        have b0 : ρ3 0 = (0 : Int) + (1 * ρ 0 + 0) := hbd 0 _ rfl
        have b1 : ρ3 1 = (bif y_acc sc then 2 else 1) + (1 * ρ 4 + 0) := hbd 1 _ rfl
        have b2 : ρ3 2 = (0 : Int) + (1 * ρ 2 + 0) := hbd 2 _ rfl
        have b3 : ρ3 3 = (0 : Int) + (1 * ρ 5 + 0) := hbd 3 _ rfl
        have b4 : ρ3 4 = (0 : Int) + (1 * ρ 6 + 0) := hbd 4 _ rfl
        have b5 : ρ3 5 = (0 : Int) + (1 * ρ 7 + 0) := hbd 5 _ rfl
        have e0 : ρ3 0 = ρ 0 := by omega
        have e1 : ρ3 1 = ρ 4 + (bif y_acc sc then 2 else 1) := by omega
        have e2 : ρ3 2 = ρ 2 := by omega
        have e3 : ρ3 3 = ρ 5 := by omega
        have e4 : ρ3 4 = ρ 6 := by omega
        have e5 : ρ3 5 = ρ 7 := by omega
        refine coA_hc hX ?_ ?_ ?_ hl hV3 hLR H hlen3 hd4
        · rw [tt hM, e0, e1, e2]
          exact o2
        · rw [tt hM, e0, e1, e4]
          exact q3
        · rw [tt hM, e0, e1, e3, e5]
          exact q4
theorem caS_ok {D : szD} {R : szR} {Cs : azS} {ρ : Nat → Int} (hV : az_V D R Cs ρ) {h : List mzC} {F : azF} (hF : az_HF ρ h false F) {sc f : Nat} (hacc : y_tb (y_t h 9) (ρ 0) (ρ 1) 65 66 = y_acc sc) (hfl : fl (y_t h 9) (ρ 0) (ρ 2) (ρ 1 + (bif y_acc sc then 2 else 0)) (bif y_acc sc then 2 else 1) (ρ 3) f (ρ 4) (ρ 5) (ρ 6) (ρ 7)) {kok : Int × szT → Int × szT → Bool} {kf : Int × szT → Bool} (e : caS sc f R Cs F kok kf = true) : (∃ p' g', kok p' g' = true ∧ a_act (y_t h 9) (ρ 0) (ρ 2) (ρ 1) (ρ 3) = (true, y_n ρ p', y_n ρ g')) ∨ (∃ z, kf z = true ∧ (a_act (y_t h 9) (ρ 0) (ρ 2) (ρ 1) (ρ 3)).1 = false ∧ (a_act (y_t h 9) (ρ 0) (ρ 2) (ρ 1) (ρ 3)).2.1 = y_n ρ z) := by
  unfold caS at e
  unfold a_act
  rw [hacc]
  cases ha : y_acc sc with
  | true =>
    rw [ha, cond_true] at e
    rw [ha, cond_true, cond_true] at hfl
    rw [cond_true]
    have := yAc_ok hV hF (by decide) (k := ρ 2) (g := ρ 3) (by rw [y_a, y_a, y_a, y_a, y_a]; exact hfl) e
    rw [y_a] at this
    exact this
  | false =>
    rw [ha, cond_false] at e
    rw [ha, cond_false, cond_false] at hfl
    rw [cond_false]
    have := yAs_ok hV hF (by decide) (k := ρ 2) (g := ρ 3) (g1 := (0, [(5, 1)])) (by rw [y_a, y_a, y_a, y_a, y_a]; rw [Int.add_zero] at hfl; exact hfl) e
    rw [y_a] at this
    exact this
theorem caR (sc f : Nat) (hsc : sc ≤ 3) (hf : f ≤ 2) (h3 : sc = 3 → f = 0) : yRun caI (caC sc) [] caQ 0 8000 2 (az_yl 262 9 (fun _ _ _ _ _ _ => false) (caE sc f)) (caD sc f) = true := by
  match sc, f, hsc, hf, h3 with
  | 0, 0, _, _, _ => exact caR_0_0
  | 0, 1, _, _, _ => exact caR_0_1
  | 0, 2, _, _, _ => exact caR_0_2
  | 1, 0, _, _, _ => exact caR_1_0
  | 1, 1, _, _, _ => exact caR_1_1
  | 1, 2, _, _, _ => exact caR_1_2
  | 2, 0, _, _, _ => exact caR_2_0
  | 2, 1, _, _, _ => exact caR_2_1
  | 2, 2, _, _, _ => exact caR_2_2
  | 3, 0, _, _, _ => exact caR_3_0
  | 3, f + 1, _, _, h3 => exact absurd (h3 rfl) (by omega)
  | sc + 4, _, h, _, _ => omega
  | _, f + 3, _, h, _ => omega
/-- its outcome -/
def caP (a : Bool × Int × Int) (v p' g' : Int) : Prop := (a.1 = true ∧ v = 1 ∧ p' = a.2.1 ∧ g' = a.2.2) ∨ (a.1 = false ∧ v = 0 ∧ p' = a.2.1)
def caK (h0 : List mzC) (s0 : Nat × Nat) (k : Int) (o : Option (Option Value)) (s' : mzS) : Prop := (∃ v, o = some (some (iv v)) ∧ caP (a_act (y_t h0 9) (hv h0 8 1) k (hv h0 8 2) (hv h0 10 2)) v (hv s'.1 8 2) (hv s'.1 10 2)) ∧ az_Tp s'.1 ∧ az_HM caMd h0 s'.1 ∧ s'.1.length = h0.length ∧ s'.2.1 ≤ s0.1 ∧ s'.2.2 ≤ s0.2
theorem sg_typ {h : List mzC} (hT : az_HT h) {k : Nat} (hk : k < 80) : az_slot h 9 k = some (iv (hv h 9 k)) ∧ 0 ≤ hv h 9 k ∧ hv h 9 k ≤ 255 := hv_arr hT (c := 9) (t := 1) (n := 80) (g := 27) (by decide +kernel) (by decide +kernel) hk
set_option maxRecDepth 20000 in
theorem ca_all {X : List (List Value)} (hX : az_X X) {h : List mzC} {s2 : Nat × Nat} (hlen : h.length + 11000 < 2147483648) {d : Nat} (hd : 9 ≤ d) (hT : az_Tp h) {k : Int} (hk : 0 ≤ k ∧ k ≤ 9) {lo : mzL} (hlo : az_ml lo [.ref 14, iv k]) : mz_gg X (caK h s2 k) d 262 0 lo [] (h, s2) := by
  obtain ⟨t1, t2, t3, _⟩ := rd_typ hT.1
  -- the sign
  obtain ⟨sc, x, hsc, hx, hac, h3, hxs⟩ : ∃ (sc : Nat) (x : Int), sc ≤ 3 ∧ ((caSR sc).1 ≤ x ∧ x ≤ (caSR sc).2) ∧ y_tb (y_t h 9) (hv h 8 1) (hv h 8 2) 65 66 = y_acc sc ∧ (sc = 3 → hv h 8 1 ≤ hv h 8 2) ∧ (sc ≠ 3 → hv h 8 2 < hv h 8 1 ∧ az_slot h 9 (hv h 8 2).toNat = some (iv x)) := by
    rcases Int.lt_or_le (hv h 8 2) (hv h 8 1) with hp | hp
    · have e := sg_typ hT.1 (k := (hv h 8 2).toNat) (by omega)
      have et : y_t h 9 (hv h 8 2) = hv h 9 (hv h 8 2).toNat := by
        unfold y_t
        omega
      have tb : ∀ b : Bool, (b = true ↔ 65 ≤ hv h 9 (hv h 8 2).toNat ∧ hv h 9 (hv h 8 2).toNat ≤ 66) → y_tb (y_t h 9) (hv h 8 1) (hv h 8 2) 65 66 = b := by
        intro b hb
        unfold y_tb
        rw [et, decide_eq_true hp, Bool.true_and]
        cases b with
        | true =>
          have := hb.mp rfl
          rw [decide_eq_true this.1, decide_eq_true this.2]
          rfl
        | false =>
          have : ¬ (65 ≤ hv h 9 (hv h 8 2).toNat ∧ hv h 9 (hv h 8 2).toNat ≤ 66) := fun q => by cases hb.mpr q
          by_cases q : 65 ≤ hv h 9 (hv h 8 2).toNat
          · rw [decide_eq_false (show ¬ hv h 9 (hv h 8 2).toNat ≤ 66 from fun q2 => this ⟨q, q2⟩), Bool.and_false]
          · rw [decide_eq_false q, Bool.false_and]
      by_cases h1 : hv h 9 (hv h 8 2).toNat ≤ 64
      · exact ⟨1, _, by decide, ⟨e.2.1, h1⟩, tb false ⟨fun q => (by cases q), fun q => by omega⟩, fun q => (by cases q), fun _ => ⟨hp, e.1⟩⟩
      · by_cases h2 : hv h 9 (hv h 8 2).toNat ≤ 66
        · exact ⟨0, _, by decide, ⟨by show 65 ≤ hv h 9 (hv h 8 2).toNat; omega, h2⟩, tb true ⟨fun _ => ⟨by omega, h2⟩, fun _ => rfl⟩, fun q => (by cases q), fun _ => ⟨hp, e.1⟩⟩
        · exact ⟨2, _, by decide, ⟨by show 67 ≤ hv h 9 (hv h 8 2).toNat; omega, e.2.2⟩, tb false ⟨fun q => (by cases q), fun q => by omega⟩, fun q => (by cases q), fun _ => ⟨hp, e.1⟩⟩
    · refine ⟨3, 0, by decide, ⟨Int.le_refl _, Int.le_refl _⟩, ?_, fun _ => hp, fun q => absurd rfl q⟩
      unfold y_tb
      rw [decide_eq_false (by omega)]
      rfl
  obtain ⟨f, e1, g1, e2, g2, hfl, hf2, r1, r2, r3, r4, hf0⟩ := fl_ex (t := y_t h 9) (L := hv h 8 1) (k := k) (q := hv h 8 2 + (bif y_acc sc then 2 else 0)) (off := (bif y_acc sc then 2 else 1)) (g := hv h 10 2) t1.2.2 (by cases y_acc sc <;> simp only [cond_true, cond_false] <;> omega) (by cases y_acc sc <;> simp) t3.2
  have h3f : sc = 3 → f = 0 := by
    intro h33
    rcases Nat.eq_zero_or_pos f with hz | hz
    · exact hz
    · have hq := o_e_bd (hf0 (by omega))
      have := h3 h33
      subst h33
      have e : (bif y_acc 3 then (2 : Int) else 0) = 0 := rfl
      rw [e] at hq
      omega
  refine az_goX (c := caC sc) (i0 := 0) (ρ := rho [hv h 8 1, hv h 8 2, k, hv h 10 2, e1, g1, e2, g2, x] ((h.length : Int) + 4)) sz_pkall_szP hX (tb := []) (fun _ hc => by cases hc) (q := caQ) rfl (az_wfb_ok (by unfold caC caSC; cases Nat.beq sc 3 <;> rfl)) (caR sc f hsc hf2 h3f) rfl (by show h.length + 1000 * (9 + 2) < 2147483648; omega) (rho_z _ _) hd ?_ hT ?_ ?_ ?_ ?_
  · refine rho_V (rho_free rfl _) (show rin (coR ++ [(0, 90), ((-1), 9), (0, 90), ((-1), 9), caSR sc]) [hv h 8 1, hv h 8 2, k, hv h 10 2, e1, g1, e2, g2, x] from ⟨t1.2, t2.2, hk, t3.2, r1, r2, r3, r4, hx, trivial⟩) (by show (coR ++ [(0, 90), ((-1), 9), (0, 90), ((-1), 9), caSR sc]).all _ = true; unfold caSR; cases Nat.beq sc 0 <;> cases Nat.beq sc 1 <;> cases Nat.beq sc 2 <;> rfl) (by omega) (by show 9 ≤ 1000000; decide) ?_
    show rsin _ (caSC sc)
    unfold caSC
    cases h33 : Nat.beq sc 3 with
    | true =>
      have := h3 (Nat.eq_of_beq_eq_true h33)
      rw [cond_true]
      refine ⟨?_, trivial⟩
      show (0 : Int) ≤ 0 + ((-1) * rho [hv h 8 1, hv h 8 2, k, hv h 10 2, e1, g1, e2, g2, x] _ 0 + (1 * rho [hv h 8 1, hv h 8 2, k, hv h 10 2, e1, g1, e2, g2, x] _ 1 + 0))
      rw [rho_0, rho_1]
      omega
    | false =>
      have := (hxs (fun q => by rw [q] at h33; cases h33)).1
      rw [cond_false]
      refine ⟨?_, trivial⟩
      show (0 : Int) ≤ (-1) + (1 * rho [hv h 8 1, hv h 8 2, k, hv h 10 2, e1, g1, e2, g2, x] _ 0 + ((-1) * rho [hv h 8 1, hv h 8 2, k, hv h 10 2, e1, g1, e2, g2, x] _ 1 + 0))
      rw [rho_0, rho_1]
      omega
  · show az_HF _ h false (coF ++ caSF sc)
    have hS : az_HF (rho [hv h 8 1, hv h 8 2, k, hv h 10 2, e1, g1, e2, g2, x] ((h.length : Int) + 4)) h false (caSF sc) := by
      unfold caSF
      cases h33 : Nat.beq sc 3 with
      | true =>
        rw [cond_true]
        exact HF_nil _ _
      | false =>
        have := hxs (fun q => by rw [q] at h33; cases h33)
        rw [cond_false]
        refine HF_cons (hv h 8 2).toNat x (by decide) ?_ (by omega) (lw_sv (rho_8 _ _ _ _ _ _ _ _ _ _ _)) this.2 (HF_nil _ _)
        show (0 : Int) + (1 * rho [hv h 8 1, hv h 8 2, k, hv h 10 2, e1, g1, e2, g2, x] _ 1 + 0) = _
        rw [rho_1]
        omega
    exact HF_cons 1 (hv h 8 1) (by decide) (show (1 : Int) + 0 = ((1 : Nat) : Int) by omega) (by decide) (lw_sv (rho_0 _ _ _)) t1.1 (HF_cons 2 (hv h 8 2) (by decide) (show (2 : Int) + 0 = ((2 : Nat) : Int) by omega) (by decide) (lw_sv (rho_1 _ _ _ _)) t2.1 (HF_cons 2 (hv h 10 2) (by decide) (show (2 : Int) + 0 = ((2 : Nat) : Int) by omega) (by decide) (lw_sv (rho_3 _ _ _ _ _ _)) t3.1 hS))
  · exact ml_one (r := 14) (by decide) hlo (show (0 : Int) + (1 * rho [hv h 8 1, hv h 8 2, k, hv h 10 2, e1, g1, e2, g2, x] _ 2 + 0) = k by rw [rho_2]; omega)
  · intro D R Cs C ρ1 fn hr hV1 hW1 hag hn hf
    refine caD_ok hX hlen hV1 hW1 ?_ hr hf
    rw [(hag.1 0 (by show 0 < 9; decide)).trans (rho_0 _ _ _), (hag.1 1 (by show 1 < 9; decide)).trans (rho_1 _ _ _ _), (hag.1 2 (by show 2 < 9; decide)).trans (rho_2 _ _ _ _ _), (hag.1 3 (by show 3 < 9; decide)).trans (rho_3 _ _ _ _ _ _), (hag.1 4 (by show 4 < 9; decide)).trans (rho_4 _ _ _ _ _ _ _), (hag.1 5 (by show 5 < 9; decide)).trans (rho_5 _ _ _ _ _ _ _ _), (hag.1 6 (by show 6 < 9; decide)).trans (rho_6 _ _ _ _ _ _ _ _ _), (hag.1 7 (by show 7 < 9; decide)).trans (rho_7 _ _ _ _ _ _ _ _ _ _)]
    exact hfl
  · intro D R Cs C ρ2 hl2 hV2 hW2 hag hn2
    have a0 := (hag.1 0 (by show 0 < 9; decide)).trans (rho_0 _ _ _)
    have a1 := (hag.1 1 (by show 1 < 9; decide)).trans (rho_1 _ _ _ _)
    have a2 := (hag.1 2 (by show 2 < 9; decide)).trans (rho_2 _ _ _ _ _)
    have a3 := (hag.1 3 (by show 3 < 9; decide)).trans (rho_3 _ _ _ _ _ _)
    have a4 := (hag.1 4 (by show 4 < 9; decide)).trans (rho_4 _ _ _ _ _ _ _)
    have a5 := (hag.1 5 (by show 5 < 9; decide)).trans (rho_5 _ _ _ _ _ _ _ _)
    have a6 := (hag.1 6 (by show 6 < 9; decide)).trans (rho_6 _ _ _ _ _ _ _ _ _)
    have a7 := (hag.1 7 (by show 7 < 9; decide)).trans (rho_7 _ _ _ _ _ _ _ _ _ _)
    refine az_yl_ok hV2 hl2 (fun F i lo' m h' s3 hk => by cases hk) ?_
    intro F o h' s3 hk hT' hM' hF' hl' c1 c2
    have tt : y_t h' 9 = y_t h 9 := y_t_eq hM' (by decide) rfl
    unfold caE at hk
    split at hk
    · rename_i v
      rw [Bool.and_eq_true] at hk
      obtain ⟨hk1, hk2⟩ := hk
      simp only [Bool.and_eq_true] at hk1
      have v0 := Nat.eq_of_beq_eq_true hk1.1
      obtain ⟨u, w, e, eu, ew⟩ := y_2_ok hV2 hF' (by decide) (by decide) (by decide) (by decide) hk2
      refine ⟨⟨y_n ρ2 v.2, by show some (some (sz_v ρ2 v)) = _; rw [y_iv v0], ?_⟩, hT', hM', hl', c1, c2⟩
      have q := caS_ok hV2 hF' (by rw [tt, a0, a1]; exact hac) (by rw [tt, a0, a1, a2, a3, a4, a5, a6, a7]; exact hfl) e
      rw [tt, a0, a1, a2, a3] at q
      show caP (a_act (y_t h 9) (hv h 8 1) k (hv h 8 2) (hv h 10 2)) (y_n ρ2 v.2) (hv h' 8 2) (hv h' 10 2)
      rcases q with ⟨p', g', q1, q2⟩ | ⟨z, q1, q2, q3⟩
      · simp only [Bool.and_eq_true] at q1
        obtain ⟨z1, z2, z3⟩ := q1
        have z1 := y_eq_ok hV2 z1
        have z2 := y_eq_ok hV2 z2
        have z3 := y_eq_ok hV2 z3
        rw [q2]
        exact Or.inl ⟨rfl, z1, by rw [eu, z2], by rw [ew, z3]⟩
      · simp only [Bool.and_eq_true] at q1
        obtain ⟨z1, z2⟩ := q1
        have z1 := y_eq_ok hV2 z1
        have z2 := y_eq_ok hV2 z2
        exact Or.inr ⟨q2, z1, by rw [eu, z2, q3]⟩
    · cases hk
