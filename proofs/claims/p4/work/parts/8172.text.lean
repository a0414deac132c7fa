/-! ends that are looked at by a check; signs of a text by the facts -/
noncomputable def az_yl (j0 dm : Nat) (hk : szD → szR → azS → azF → Nat → szLo → Bool) (rk : szD → szR → azS → azF → Option szV → Bool) (D : szD) (R : szR) (Cs : azS) (C : azQ) : Bool := match C with
  | ((j, _, code, i, lo, st), ws, F, dirty, new, uw, d) => (match ws with
    | _ :: _ => false
    | [] => ((Nat.beq j j0 && Nat.beq d dm) && ((dirty.isEmpty && !new) && (Nat.beq uw.1 0 && Nat.beq uw.2 0))) && ((st.isEmpty && hk D R Cs F i lo) || sz_fo (sz_sl 80 code i) (fun q => !(Nat.beq q 0) && (match az_fin R Cs (Nat.mod q 256) (sz_fa q) (sz_fb q) st uw with
      | some (some o, uw') => (Nat.beq uw'.1 0 && Nat.beq uw'.2 0) && rk D R Cs F o
      | _ => false))))
theorem az_yl_ok {X : List (List Value)} {Kb : Option (Option Value) → mzS → Prop} {mods : List (Nat × Nat)} {h0 : List mzC} {bs : Nat × Nat} {ee : Nat} {j0 dm : Nat} {hk : szD → szR → azS → azF → Nat → szLo → Bool} {rk : szD → szR → azS → azF → Option szV → Bool} {D : szD} {R : szR} {Cs : azS} {ρ : Nat → Int} (hV : az_V D R Cs ρ) {C : azQ} (h : az_yl j0 dm hk rk D R Cs C = true)
    (hh : ∀ (F : azF) (i : Nat) (lo : szLo) (m : mzL) (h' : List mzC) (s3 : Nat × Nat), hk D R Cs F i lo = true → sz_LR ρ lo m → az_Tp h' → az_HM mods h0 h' → az_HF ρ h' false F → h'.length = h0.length → s3.1 ≤ bs.1 → s3.2 ≤ bs.2 → mz_gg X Kb (dm + ee) j0 i m [] (h', s3))
    (hr : ∀ (F : azF) (o : Option szV) (h' : List mzC) (s3 : Nat × Nat), rk D R Cs F o = true → az_Tp h' → az_HM mods h0 h' → az_HF ρ h' false F → h'.length = h0.length → s3.1 ≤ bs.1 → s3.2 ≤ bs.2 → Kb (some (o.map (sz_v ρ))) (h', s3)) : az_GG X Kb mods h0 bs ee ρ C := by
  obtain ⟨⟨j, m, code, i, lo, st⟩, ws, F, dirty, new, uw, d⟩ := C
  intro wsM w hh2 s2 hF hW' hH b1 b2
  obtain ⟨j', M, i', m', stM⟩ := w
  obtain ⟨F1, F2, F3, F4, F5, F6, F7⟩ := hF
  dsimp only at F1 F2 F3 F4 F5 F6 F7 hW' hH b1 b2 ⊢
  subst F1; subst F5; subst F7
  unfold az_yl at h
  dsimp only at h
  split at h
  · cases h
  · match wsM, hW' with
    | [], _ =>
    rw [Bool.and_eq_true] at h
    obtain ⟨hA, hB⟩ := h
    simp only [Bool.and_eq_true, Bool.not_eq_true'] at hA
    obtain ⟨⟨hj, hd⟩, ⟨hdi, hn⟩, hu1, hu2⟩ := hA
    have hj := Nat.eq_of_beq_eq_true hj
    have hd := Nat.eq_of_beq_eq_true hd
    have hu1 := Nat.eq_of_beq_eq_true hu1
    have hu2 := Nat.eq_of_beq_eq_true hu2
    have hdi : dirty = [] := List.isEmpty_iff.mp hdi
    subst hj; subst hd; subst hdi; subst hn
    have hl : hh2.length = h0.length := by
      have := hH.2.2.2.2.2
      omega
    have hT : az_Tp hh2 := ⟨hH.1, hH.2.2.2.1⟩
    have hM : az_HM mods h0 hh2 := hH.2.2.2.2.1
    have hFF : az_HF ρ hh2 false F := hH.2.2.1
    rw [Bool.or_eq_true] at hB
    rcases hB with hB | hB
    · rw [Bool.and_eq_true] at hB
      obtain ⟨hs, hk1⟩ := hB
      have hs : st = [] := List.isEmpty_iff.mp hs
      subst hs
      exact mz_gg_mono (fun o s hx => hx) (hh F i lo m' hh2 s2 hk1 F6 hT hM hFF hl (by omega) (by omega))
    · rw [sz_fo_eq] at hB
      generalize hq : sz_sl 80 code i = q at hB
      rw [Bool.and_eq_true] at hB
      obtain ⟨hq0, hB⟩ := hB
      have hq0 : q ≠ 0 := fun e => by rw [e] at hq0; cases hq0
      obtain ⟨ri, g1, g2, g3, g4, g5⟩ := sz_pk_ok F4 (i := i) (by rw [hq]; exact hq0)
      rw [hq] at g2 g3 g4 g5
      have hri : ri = (Nat.mod q 256, sz_fa q, sz_fb q, sz_fc q, ri.2.2.2.2) := by rw [← g2, ← g3, ← g4, ← g5]
      split at hB
      · rename_i o uw' hfin
        simp only [Bool.and_eq_true] at hB
        obtain ⟨⟨u1, u2⟩, hrk⟩ := hB
        have u1 := Nat.eq_of_beq_eq_true u1
        have u2 := Nat.eq_of_beq_eq_true u2
        obtain ⟨t2, l1, l2, l3, l4, l5⟩ := az_fin_ok (c := sz_fc q) (sw := ri.2.2.2.2) (h := hh2) hV.2.1 hV.2.2.1 b1 b2 hfin
        rw [← hri] at l1
        refine mz_gg_fin F2 g1 l1 ?_
        have fin := hr F o hh2 t2 hrk hT hM hFF hl (by omega) (by omega)
        exact fin
      · cases hB
/-- forms as numbers -/
def y_n (ρ : Nat → Int) (p : Int × szT) : Int := p.1 + sz_sum ρ p.2
noncomputable def y_le (R : szR) (Cs : azS) (p q : Int × szT) : Bool := decide (0 ≤ az_lb R Cs (q.1 - p.1) (sz_add q.2 (sz_sc (-1) p.2)))
noncomputable def y_lt (R : szR) (Cs : azS) (p q : Int × szT) : Bool := decide (0 ≤ az_lb R Cs (q.1 - p.1 - 1) (sz_add q.2 (sz_sc (-1) p.2)))
noncomputable def y_eq (R : szR) (Cs : azS) (p q : Int × szT) : Bool := y_le R Cs p q && y_le R Cs q p
def y_L : Int × szT := (0, [(0, 1)])
def y_ad (p : Int × szT) (n : Int) : Int × szT := (p.1 + n, p.2)
def y_m1 (p : Int × szT) : Int × szT := (-1 - p.1, sz_sc (-1) p.2)
/-- p at most q: x, else y -/
noncomputable def y_dec (R : szR) (Cs : azS) (p q : Int × szT) (x y : Bool) : Bool := bif y_le R Cs p q then x else bif y_lt R Cs q p then y else false
theorem y_L_n (ρ : Nat → Int) : y_n ρ y_L = ρ 0 := by
  show (0 : Int) + (1 * ρ 0 + 0) = ρ 0
  omega
theorem y_n_ad (ρ : Nat → Int) (p : Int × szT) (n : Int) : y_n ρ (y_ad p n) = y_n ρ p + n := by
  unfold y_n y_ad
  dsimp only
  omega
theorem y_n_m1 (ρ : Nat → Int) (p : Int × szT) : y_n ρ (y_m1 p) = -1 - y_n ρ p := by
  unfold y_n y_m1
  dsimp only
  rw [sz_sum_sc]
  omega
section
variable {D : szD} {R : szR} {Cs : azS} {ρ : Nat → Int}
theorem y_le_ok (hV : az_V D R Cs ρ) {p q : Int × szT} (h : y_le R Cs p q = true) : y_n ρ p ≤ y_n ρ q := by
  unfold y_le at h
  have h := of_decide_eq_true h
  have k := az_lb_ok hV.2.1 hV.2.2.1 (q.1 - p.1) (sz_add q.2 (sz_sc (-1) p.2))
  rw [sz_sum_add, sz_sum_sc] at k
  unfold y_n
  omega
theorem y_lt_ok (hV : az_V D R Cs ρ) {p q : Int × szT} (h : y_lt R Cs p q = true) : y_n ρ p < y_n ρ q := by
  unfold y_lt at h
  have h := of_decide_eq_true h
  have k := az_lb_ok hV.2.1 hV.2.2.1 (q.1 - p.1 - 1) (sz_add q.2 (sz_sc (-1) p.2))
  rw [sz_sum_add, sz_sum_sc] at k
  unfold y_n
  omega
theorem y_eq_ok (hV : az_V D R Cs ρ) {p q : Int × szT} (h : y_eq R Cs p q = true) : y_n ρ p = y_n ρ q := by
  unfold y_eq at h
  rw [Bool.and_eq_true] at h
  exact Int.le_antisymm (y_le_ok hV h.1) (y_le_ok hV h.2)
theorem y_dec_ok (hV : az_V D R Cs ρ) {p q : Int × szT} {x y : Bool} (h : y_dec R Cs p q x y = true) : (y_n ρ p ≤ y_n ρ q ∧ x = true) ∨ (y_n ρ q < y_n ρ p ∧ y = true) := by
  unfold y_dec at h
  cases h1 : y_le R Cs p q with
  | true =>
    rw [h1, cond_true] at h
    exact Or.inl ⟨y_le_ok hV h1, h⟩
  | false =>
    rw [h1, cond_false] at h
    cases h2 : y_lt R Cs q p with
    | true =>
      rw [h2, cond_true] at h
      exact Or.inr ⟨y_lt_ok hV h2, h⟩
    | false =>
      rw [h2, cond_false] at h
      cases h
/-- a value against a value -/
noncomputable def y_v (R : szR) (Cs : azS) (v w : szV) : Bool := bif Nat.beq v.1 0 then Nat.beq w.1 0 && y_eq R Cs v.2 w.2 else Nat.beq v.1 1 && (Nat.beq w.1 1 && (decide (v.2.1 = w.2.1) && decide (v.2.1 < 1000000)))
theorem y_iv {v : szV} (h : v.1 = 0) : sz_v ρ v = iv (y_n ρ v.2) := by
  obtain ⟨g, c, t⟩ := v
  dsimp only at h
  subst h
  exact sz_v_iv ρ c t
theorem y_v_ok (hV : az_V D R Cs ρ) {v w : szV} (h : y_v R Cs v w = true) : sz_v ρ v = sz_v ρ w ∧ w.1 < 9 := by
  unfold y_v at h
  cases h0 : Nat.beq v.1 0 with
  | true =>
    rw [h0, cond_true, Bool.and_eq_true] at h
    have a := Nat.eq_of_beq_eq_true h0
    have b := Nat.eq_of_beq_eq_true h.1
    refine ⟨?_, by omega⟩
    rw [y_iv a, y_iv b, y_eq_ok hV h.2]
  | false =>
    rw [h0, cond_false] at h
    simp only [Bool.and_eq_true, decide_eq_true_eq] at h
    obtain ⟨a, b, c, e⟩ := h
    have a := Nat.eq_of_beq_eq_true a
    have b := Nat.eq_of_beq_eq_true b
    obtain ⟨g, c1, t1⟩ := v
    obtain ⟨g2, c2, t2⟩ := w
    dsimp only at a b c e ⊢
    subst a; subst b; subst c
    exact ⟨by rw [sz_v_ref ρ e, sz_v_ref ρ e], by decide⟩
/-- locals -/
noncomputable def y_lo (R : szR) (Cs : azS) : List szV → szLo → Bool
  | [], _ => true
  | v :: vs, w :: ws => y_v R Cs v w && y_lo R Cs vs ws
  | _ :: _, [] => false
theorem y_lo1 (hV : az_V D R Cs ρ) : ∀ {ps : List szV} {lo : szLo}, y_lo R Cs ps lo = true → ∀ (k : Nat) (v : szV), ps[k]? = some v → ∃ w, lo[k]? = some w ∧ w.1 < 9 ∧ sz_v ρ v = sz_v ρ w
  | [], _, _, k, v, hk => by simp at hk
  | p :: ps, [], h, _, _, _ => by cases h
  | p :: ps, w :: ws, h, 0, v, hk => by
    have h : (y_v R Cs p w && y_lo R Cs ps ws) = true := h
    rw [Bool.and_eq_true] at h
    have hk : some p = some v := hk
    cases hk
    obtain ⟨a, b⟩ := y_v_ok hV h.1
    exact ⟨w, rfl, b, a⟩
  | p :: ps, w :: ws, h, k + 1, v, hk => by
    have h : (y_v R Cs p w && y_lo R Cs ps ws) = true := h
    rw [Bool.and_eq_true] at h
    exact y_lo1 hV h.2 k v hk
theorem y_lo_ok (hV : az_V D R Cs ρ) {ps : List szV} {lo : szLo} (h : y_lo R Cs ps lo = true) {m : mzL} (hl : sz_LR ρ lo m) : az_ml m (ps.map (sz_v ρ)) := by
  intro k v hk
  rw [List.getElem?_map] at hk
  cases hp : ps[k]? with
  | none => rw [hp] at hk; cases hk
  | some p =>
    rw [hp] at hk
    cases hk
    obtain ⟨w, a, b, e⟩ := y_lo1 hV h k p hp
    have := hl k w a b
    rw [this, ← e]
/-- facts at known slots -/
noncomputable def y_fs (R : szR) (Cs : azS) (F : azF) : List (Nat × Nat × szV) → Bool
  | [] => true
  | q :: r => (match az_fget q.1 ((q.2.1 : Int), []) F with
    | some v => (Nat.blt q.1 163 && Nat.blt q.2.1 1000000) && y_v R Cs q.2.2 v
    | none => false) && y_fs R Cs F r
theorem y_fs_ok (hV : az_V D R Cs ρ) {h : List mzC} {F : azF} (hF : az_HF ρ h false F) : ∀ {l : List (Nat × Nat × szV)}, y_fs R Cs F l = true → ∀ q ∈ l, az_slot h q.1 q.2.1 = some (sz_v ρ q.2.2)
  | [], _, q, hq => by cases hq
  | p :: l, h, q, hq => by
    have h : ((match az_fget p.1 ((p.2.1 : Int), []) F with
      | some v => (Nat.blt p.1 163 && Nat.blt p.2.1 1000000) && y_v R Cs p.2.2 v
      | none => false) && y_fs R Cs F l) = true := h
    rw [Bool.and_eq_true] at h
    obtain ⟨h1, h2⟩ := h
    rcases List.mem_cons.mp hq with e | e
    · subst e
      split at h1
      · rename_i v hg
        simp only [Bool.and_eq_true] at h1
        obtain ⟨⟨c1, c2⟩, c3⟩ := h1
        have c1 : q.1 < 163 := Nat.le_of_ble_eq_true c1
        have c2 : q.2.1 < 1000000 := Nat.le_of_ble_eq_true c2
        rw [(y_v_ok hV c3).1]
        exact HF_get hF c1 c2 (az_fget_ok hg)
      · cases h1
    · exact y_fs_ok hV hF h2 q e
/-- a slot's number -/
theorem y_hv (hV : az_V D R Cs ρ) {h : List mzC} {F : azF} (hF : az_HF ρ h false F) {c k : Nat} (hc : c < 163) (hk : k < 1000000) {u : szV} (hg : az_fget c ((k : Int), []) F = some u) (h0 : u.1 = 0) (hn : az_nw R Cs u = true) : hv h c k = y_n ρ u.2 := by
  have e := HF_get hF hc hk (az_fget_ok hg)
  rw [y_iv h0] at e
  have b1 := az_nw_ok hV.2.1 hV.2.2.1 hn
  have b2 := sz_bd (sz_i ρ u)
  have b3 : (sz_i ρ u).toInt = y_n ρ u.2 := b1
  exact hv_val e (by omega) (by omega)
/-- a sign's range -/
noncomputable def y_rg (R : szR) (Cs : azS) (v : szV) : Option (Int × Int) := bif Nat.beq v.1 0 then sz_fi (az_lb R Cs v.2.1 v.2.2) (fun l => sz_fi (az_ub R Cs v.2.1 v.2.2) (fun u => if 0 ≤ l ∧ u ≤ 255 then some (l, u) else if -256 ≤ l ∧ u < 0 then some (l + 256, u + 256) else none)) else none
theorem y_rg_ok (hV : az_V D R Cs ρ) {v : szV} {l u : Int} (h : y_rg R Cs v = some (l, u)) : v.1 = 0 ∧ (-256 ≤ y_n ρ v.2 ∧ y_n ρ v.2 ≤ 255) ∧ l ≤ y_n ρ v.2 % 256 ∧ y_n ρ v.2 % 256 ≤ u := by
  unfold y_rg at h
  cases h0 : Nat.beq v.1 0 with
  | false =>
    rw [h0, cond_false] at h
    cases h
  | true =>
    rw [h0, cond_true, sz_fi_eq, sz_fi_eq] at h
    have a := az_lb_ok hV.2.1 hV.2.2.1 v.2.1 v.2.2
    have b := az_ub_ok hV.2.1 hV.2.2.1 v.2.1 v.2.2
    have e : y_n ρ v.2 = v.2.1 + sz_sum ρ v.2.2 := rfl
    refine ⟨Nat.eq_of_beq_eq_true h0, ?_⟩
    split at h
    · cases h
      omega
    · split at h
      · cases h
        omega
      · cases h
/-- whether the sign at p lies within a .. b -/
def y_tb (t : Int → Int) (L p a b : Int) : Bool := decide (p < L) && (decide (a ≤ t p) && decide (t p ≤ b))
def y_t (h : List mzC) (c : Nat) : Int → Int := fun p => hv h c p.toNat % 256
noncomputable def yC (R : szR) (Cs : azS) (F : azF) (c : Nat) (p : Int × szT) (a b : Int) (x y : Bool) : Bool := y_dec R Cs y_L p y (az_nw R Cs (0, p) && (match az_fget c p F with
  | none => false
  | some v => (match y_rg R Cs v with
    | none => false
    | some (l, u) => bif decide (a ≤ l) && decide (u ≤ b) then x else bif decide (u < a) || decide (b < l) then y else false)))
theorem yC_ok (hV : az_V D R Cs ρ) {h : List mzC} {F : azF} (hF : az_HF ρ h false F) {c : Nat} (hc : c < 163) {p : Int × szT} {a b : Int} {x y : Bool} (e : yC R Cs F c p a b x y = true) : (y_tb (y_t h c) (ρ 0) (y_n ρ p) a b = true ∧ x = true) ∨ (y_tb (y_t h c) (ρ 0) (y_n ρ p) a b = false ∧ y = true) := by
  unfold yC at e
  rcases y_dec_ok hV e with ⟨h1, h2⟩ | ⟨h1, h2⟩
  · refine Or.inr ⟨?_, h2⟩
    rw [y_L_n] at h1
    unfold y_tb
    rw [decide_eq_false (by omega)]
    rfl
  · rw [y_L_n] at h1
    rw [Bool.and_eq_true] at h2
    obtain ⟨hnw, h2⟩ := h2
    split at h2
    · cases h2
    · rename_i v hg
      split at h2
      · cases h2
      · rename_i l u hr
        obtain ⟨v0, vb, vl, vu⟩ := y_rg_ok hV hr
        obtain ⟨q1, q2, q3⟩ := hF _ (az_fget_ok hg)
        dsimp only at q1 q2 q3
        have hp : (sz_i ρ (0, p)).toInt = y_n ρ p := az_nw_ok hV.2.1 hV.2.2.1 hnw
        rw [hp] at q2 q3
        have hcc : az_c ρ c = c := by
          unfold az_c
          rw [if_neg (by omega)]
        rw [hcc, y_iv v0] at q3
        have ev : hv h c (y_n ρ p).toNat = y_n ρ v.2 := hv_val q3 (by omega) (by omega)
        have et : y_t h c (y_n ρ p) = y_n ρ v.2 % 256 := by
          unfold y_t
          rw [ev]
        unfold y_tb
        rw [et, decide_eq_true h1, Bool.true_and]
        cases hc1 : (decide (a ≤ l) && decide (u ≤ b)) with
        | true =>
          rw [hc1, cond_true] at h2
          simp only [Bool.and_eq_true, decide_eq_true_eq] at hc1
          refine Or.inl ⟨?_, h2⟩
          rw [decide_eq_true (by omega), decide_eq_true (by omega)]
          rfl
        | false =>
          rw [hc1, cond_false] at h2
          cases hc2 : (decide (u < a) || decide (b < l)) with
          | false =>
            rw [hc2, cond_false] at h2
            cases h2
          | true =>
            rw [hc2, cond_true] at h2
            simp only [Bool.or_eq_true, decide_eq_true_eq] at hc2
            refine Or.inr ⟨?_, h2⟩
            rcases hc2 with hc2 | hc2
            · rw [decide_eq_false (show ¬ a ≤ y_n ρ v.2 % 256 by omega)]
              rfl
            · rw [decide_eq_false (show ¬ y_n ρ v.2 % 256 ≤ b by omega), Bool.and_false]
end
theorem y_t_eq {mods : List (Nat × Nat)} {h h' : List mzC} (hM : az_HM mods h h') {c : Nat} (hc : c < 163) (hm : mods.all (fun m => !(Nat.beq m.1 c)) = true) : y_t h' c = y_t h c := by
  funext p
  unfold y_t
  rw [HM_hv hM hc]
  unfold az_md
  rw [List.any_eq_false]
  intro m hm'
  have := List.all_eq_true.mp hm m hm'
  rw [Bool.not_eq_true'] at this
  rw [this]
  simp
/-- a call whose outcome is known, wherever it stands -/
noncomputable def az_knr (P : List szM) (dm : Nat) (mods : List (Nat × Nat)) (n0 jj pc : Nat) (c : azCon) (b : List szV) (D : szD) (R : szR) (Cs : azS) (C : azQ) (f : szD → szR → azS → azQ → Bool) : Bool := match C with
  | ((j, m, code, i, lo, st), ws, F, dirty, new, uw, d) => ((Nat.beq j jj && Nat.beq i pc) && (Nat.ble n0 R.length && Nat.beq (sz_fb (sz_sl 80 code i)) c.2.2.1.2.2.2.1.length)) && az_rcall P dm mods D R Cs ((j, m, code, i, lo, st), ws, F, dirty, new, uw, d) c b f
theorem az_knr_ok {P : List szM} (hP : sz_pkall P mzP = true) {X : List (List Value)} {Kb : Option (Option Value) → mzS → Prop} {mods : List (Nat × Nat)} {h0 : List mzC} {dm : Nat} (hlen0 : h0.length + 1000 * (dm + 2) < 2147483648) {bs : Nat × Nat} {ee : Nat} {D : szD} {R : szR} {Cs : azS} {ρ : Nat → Int} (hV : az_V D R Cs ρ) (hW : az_wf D R Cs) {C : azQ} {n0 jj pc : Nat} {c : azCon} {b : List szV} (hc : ∀ (ρ1 : Nat → Int) (hh : List mzC) (args : List Value) (s2 : Nat × Nat) (d : Nat), args.length = c.2.2.1.2.2.2.1.length → az_bd b ρ ρ1 → az_HM mods h0 hh → az_V c.2.2.1.1 c.2.2.1.2.1 c.2.2.1.2.2.1 ρ1 → sz_LR ρ1 c.2.2.1.2.2.2.1 (lv_args 0 args) → az_HR [] hh ρ1 c.2.2.1.2.2.2.2.1 c.2.2.1.2.2.2.2.2.1 c.2.2.1.2.2.2.2.2.2 0 hh → hh.length + 1000 * (c.2.1 + 2) < 2147483648 → c.2.1 ≤ d → mz_gg X (az_PostH c ρ1 hh s2) d c.1 0 (lv_args 0 args) [] (hh, s2)) {f : szD → szR → azS → azQ → Bool} (h : az_knr P dm mods n0 jj pc c b D R Cs C f = true)
    (hf : ∀ D' R' Cs' C' ρ', f D' R' Cs' C' = true → az_V D' R' Cs' ρ' → az_wf D' R' Cs' → az_ag R.length ρ ρ' → R.length ≤ R'.length → az_GG X Kb mods h0 bs ee ρ' C') : az_GG X Kb mods h0 bs ee ρ C := by
  obtain ⟨⟨j, m, code, i, lo, st⟩, ws, F, dirty, new, uw, d⟩ := C
  unfold az_knr at h
  dsimp only at h
  rw [Bool.and_eq_true] at h
  obtain ⟨h1, h2⟩ := h
  simp only [Bool.and_eq_true] at h1
  have ha := Nat.eq_of_beq_eq_true h1.2.2
  exact az_rcall_at hP hlen0 hV hW (fun ρ1 hh args s3 d b0 b1 b2 b3 b4 b5 b6 b7 => hc ρ1 hh args s3 d (b0.trans ha) b1 b2 b3 b4 b5 b6 b7) h2 hf
/-- what a contract with one post without atoms of its own asks -/
theorem y_post {c : azCon} {ρ : Nat → Int} {h : List mzC} {s2 : Nat × Nat} {v : szV} {FP : azF} (hp : (some (some v), c.2.2.1.1, c.2.2.1.2.1, c.2.2.1.2.2.1, FP) ∈ c.2.2.2.1) (hc0 : c.2.2.1.2.2.2.2.2 = ([], false)) (hc1 : c.2.2.2.2.2 = (0, 0)) (hV : az_V c.2.2.1.1 c.2.2.1.2.1 c.2.2.1.2.2.1 ρ) (hz : (ρ 1000000).toNat = h.length + 4) {h' : List mzC} {s3 : Nat × Nat} (hT : az_Tp h') (hM : az_HM c.2.2.2.2.1 h h') (hF : az_HF ρ h' false FP) (hl : h'.length = h.length) (b1 : s3.1 ≤ s2.1) (b2 : s3.2 ≤ s2.2) {o : Option (Option Value)} (ho : o = some (some (sz_v ρ v))) : az_PostH c ρ h s2 o (h', s3) := by
  have e1 : c.2.2.1.2.2.2.2.2.1 = [] := by rw [hc0]
  have e2 : c.2.2.1.2.2.2.2.2.2 = false := by rw [hc0]
  have e3 : c.2.2.2.2.2.1 = 0 := by rw [hc1]
  have e4 : c.2.2.2.2.2.2 = 0 := by rw [hc1]
  refine ⟨_, hp, ρ, hV, ⟨fun _ _ => rfl, fun _ => rfl⟩, ho, ?_, by rw [e3]; exact b1, by rw [e4]; exact b2⟩
  rw [e1, e2, e3]
  exact ⟨hT.1, ⟨(fun e => by cases e), fun _ _ => by rw [hz, hl]⟩, hF, hT.2, hM, by rw [hl]; exact Nat.le_refl _, by rw [hl]; exact Nat.le_refl _⟩
/-- a run with a rule and ends of one's own -/
noncomputable def yRun (inl : Nat → Bool) (c : azCon) (tb : List azCon) (q : szM) (i0 n k : Nat) (leaf : szD → szR → azS → azQ → Bool) (rd : szD → szR → azS → azQ → (szD → szR → azS → azQ → Bool) → Bool) : Bool := az_ex szP inl c.2.1 tb c.2.2.2.2.1 (fun _ => az_pre c.1 []) (az_hint tb) (az_lvx szP inl c.2.1 tb c.2.2.2.2.1 (fun _ => az_pre c.1 []) (az_hint tb) n leaf rd k) n c.2.2.1.1 c.2.2.1.2.1 c.2.2.1.2.2.1 (az_hc c q (i0, c.2.2.1, (0, []), (0, 0)))
noncomputable def yNo (_ : szD) (_ : szR) (_ : azS) (_ : azQ) (_ : szD → szR → azS → azQ → Bool) : Bool := false
noncomputable def yInl (j : Nat) : Bool := az_inl j || (Nat.beq j 268 || Nat.beq j 97)
