/-! where a run ends: the method's end against a post, a head; contracts are valid -/
/-- the first n of a binding are the atoms themselves -/
def az_idb : Nat → Nat → List szV → Bool
  | 0, _, _ => true
  | n + 1, k, x :: b => decide (x = (0, 0, [(k, 1)])) && az_idb n (k + 1) b
  | _ + 1, _, [] => false
theorem az_idb_ok : ∀ {n k : Nat} {b : List szV}, az_idb n k b = true → ∀ j, j < n → b[j]? = some (0, 0, [(k + j, 1)])
  | 0, _, _, _, j, hj => by omega
  | n + 1, k, x :: b, h, j, hj => by
    unfold az_idb at h
    rw [Bool.and_eq_true, decide_eq_true_eq] at h
    match j, hj with
    | 0, _ => rw [h.1]; rfl
    | j + 1, hj =>
      have := az_idb_ok h.2 j (by omega)
      rw [show k + (j + 1) = k + 1 + j by omega]
      simpa using this
  | _ + 1, _, [], h, _, _ => by cases h
theorem az_idb_bd {n : Nat} {b : List szV} {ρ ρ' : Nat → Int} (h : az_idb n 0 b = true) (hb : az_bd b ρ ρ') : ∀ k, k < n → ρ' k = ρ k := by
  intro k hk
  have := az_idb_ok h k hk
  rw [Nat.zero_add] at this
  rw [hb k _ this]
  simp only [sz_sum, Int.zero_add, Int.one_mul, Int.add_zero]
/-- what is told of the outcome holds -/
noncomputable def az_lp (c : azCon) (D : szD) (R : szR) (Cs : azS) (F : azF) (dirty : List Nat) (new : Bool) (vs ps : List szV) (p : azPo) (b : List szV) : Bool := az_mp D R Cs F dirty new vs b (p.2.1, p.2.2.1, p.2.2.2.1, ps, p.2.2.2.2, c.2.2.1.2.2.2.2.2.1, c.2.2.1.2.2.2.2.2.2) && az_idb c.2.2.1.2.1.length 0 b
/-- one heap relation out of two -/
theorem az_HR_two {mods : List (Nat × Nat)} {h0 h : List mzC} {ρ ρ' : Nat → Int} {F F' : azF} {dirty dirty' : List Nat} {new new' : Bool} {u u' : Nat} (H : az_HR mods h0 ρ F dirty new u h) (H' : az_HR [] h ρ' F' dirty' new' 0 h) (hu : u ≤ u') : az_HR mods h0 ρ' F' dirty' new' u' h := by
  obtain ⟨A1, A2, A3, A4, A5, A6, A7⟩ := H
  obtain ⟨B1, B2, B3, B4, B5, B6, B7⟩ := H'
  exact ⟨B1, ⟨B2.1, fun hn _ => B2.2 hn rfl⟩, B3, B4, A5, A6, by omega⟩
theorem az_lp_ok {c : azCon} {D : szD} {R : szR} {Cs : azS} {ρ : Nat → Int} (hV : az_V D R Cs ρ) {h0 h : List mzC} {F : azF} {dirty : List Nat} {new : Bool} {u : Nat} (H : az_HR c.2.2.2.2.1 h0 ρ F dirty new u h) (hu : u ≤ c.2.2.2.2.2.1) (hlen : h.length + 1000 < 2147483648) {vs ps : List szV} {p : azPo} {b : List szV} (e : az_lp c D R Cs F dirty new vs ps p b = true) {m : mzL} (hl : sz_LR ρ vs m) :
    ∃ ρ', az_V p.2.1 p.2.2.1 p.2.2.2.1 ρ' ∧ ((∀ k, k < c.2.2.1.2.1.length → ρ' k = ρ k) ∧ (c.2.2.1.2.2.2.2.2.2 = true → ρ' 1000000 = ρ 1000000)) ∧ sz_LR ρ' ps m ∧ az_HR c.2.2.2.2.1 h0 ρ' p.2.2.2.2 c.2.2.1.2.2.2.2.2.1 c.2.2.1.2.2.2.2.2.2 c.2.2.2.2.2.1 h := by
  unfold az_lp at e
  rw [Bool.and_eq_true] at e
  obtain ⟨ρ', m1, m2, m3, m4, m5, m6⟩ := az_mp_ok hV H hlen e.1 hl
  exact ⟨ρ', m4, ⟨az_idb_bd e.2 m1, m3⟩, m5, az_HR_two H m6 hu⟩
theorem az_len2 {a b u d : Nat} (h1 : a ≤ b + u) (h2 : u < 900) (h3 : b + 1000 * (d + 2) < 2147483648) : a + 1000 < 2147483648 := by
  have h4 : 1000 * 2 ≤ 1000 * (d + 2) := Nat.mul_le_mul_left 1000 (Nat.le_add_left 2 d)
  generalize 1000 * (d + 2) = z at h3 h4
  omega
noncomputable def az_lret (c : azCon) (rb : szD → szR → azS → azF → Option szV → azPo → List szV) (D : szD) (R : szR) (Cs : azS) (C : azQ) : Bool := match C with
  | ((_, _, code, i, _, st), ws, F, dirty, new, uw, _) => (match ws with
    | _ :: _ => false
    | [] => sz_fo (sz_sl 80 code i) (fun q => (!(Nat.beq q 0) && Nat.blt c.2.2.2.2.2.1 900) && (match az_fin R Cs (Nat.mod q 256) (sz_fa q) (sz_fb q) st uw with
      | none => false
      | some (o, uw) => (Nat.ble uw.1 c.2.2.2.2.2.1 && Nat.ble uw.2 c.2.2.2.2.2.2) && c.2.2.2.1.any (fun p => match o, p.1 with
        | some none, some none => az_lp c D R Cs F dirty new [] [] p (rb D R Cs F none p)
        | some (some v), some (some w) => (Nat.blt w.1 9 && Nat.blt v.1 9) && az_lp c D R Cs F dirty new [v] [w] p (rb D R Cs F (some v) p)
        | none, none => az_lp c D R Cs F dirty new [] [] p (rb D R Cs F none p)
        | _, _ => false))))
theorem az_lret_ok {X : List (List Value)} {c : azCon} {rb : szD → szR → azS → azF → Option szV → azPo → List szV} {ρE : Nat → Int} {h0 : List mzC} (hlen0 : h0.length + 1000 * (c.2.1 + 2) < 2147483648) {bs : Nat × Nat} {ee : Nat} {D : szD} {R : szR} {Cs : azS} {ρ : Nat → Int} (hV : az_V D R Cs ρ) (hE : (∀ k, k < c.2.2.1.2.1.length → ρ k = ρE k) ∧ (c.2.2.1.2.2.2.2.2.2 = true → ρ 1000000 = ρE 1000000)) {C : azQ} (h : az_lret c rb D R Cs C = true) : az_GG X (az_PostH c ρE h0 bs) c.2.2.2.2.1 h0 bs ee ρ C := by
  obtain ⟨⟨j, m, code, i, lo, st⟩, ws, F, dirty, new, uw, d⟩ := C
  intro wsM w hh s2 hF hW' hH b1 b2
  obtain ⟨j', M, i', m', stM⟩ := w
  obtain ⟨F1, F2, F3, F4, F5, F6, F7⟩ := hF
  dsimp only at F1 F2 F3 F4 F5 F6 F7 hW' hH b1 b2 ⊢
  subst F1; subst F5; subst F7
  unfold az_lret at h
  dsimp only at h
  split at h
  · cases h
  · match wsM, hW' with
    | [], _ =>
    rw [sz_fo_eq] at h
    generalize hq : sz_sl 80 code i = q at h
    rw [Bool.and_eq_true, Bool.and_eq_true] at h
    obtain ⟨⟨hq0, hdu⟩, h⟩ := h
    have hdu : c.2.2.2.2.2.1 < 900 := Nat.le_of_ble_eq_true hdu
    have hq0 : q ≠ 0 := fun e => by rw [e] at hq0; cases hq0
    obtain ⟨ri, g1, g2, g3, g4, g5⟩ := sz_pk_ok F4 (i := i) (by rw [hq]; exact hq0)
    rw [hq] at g2 g3 g4 g5
    have hri : ri = (Nat.mod q 256, sz_fa q, sz_fb q, sz_fc q, ri.2.2.2.2) := by rw [← g2, ← g3, ← g4, ← g5]
    split at h
    · cases h
    · rename_i o uw' hfin
      rw [Bool.and_eq_true, Bool.and_eq_true] at h
      obtain ⟨⟨u1, u2⟩, h⟩ := h
      have u1 : uw'.1 ≤ c.2.2.2.2.2.1 := Nat.le_of_ble_eq_true u1
      have u2 : uw'.2 ≤ c.2.2.2.2.2.2 := Nat.le_of_ble_eq_true u2
      obtain ⟨t2, l1, l2, l3, l4, l5⟩ := az_fin_ok (c := sz_fc q) (sw := ri.2.2.2.2) (h := hh) hV.2.1 hV.2.2.1 b1 b2 hfin
      rw [← hri] at l1
      refine mz_gg_fin F2 g1 l1 ?_
      obtain ⟨p, hp, hp2⟩ := List.any_eq_true.mp h
      have hlen : hh.length + 1000 < 2147483648 := az_len2 hH.2.2.2.2.2.2 (Nat.lt_of_le_of_lt (Nat.le_trans l4 u1) hdu) hlen0
      have hu : uw.1 ≤ c.2.2.2.2.2.1 := Nat.le_trans l4 u1
      show az_PostH c ρE h0 bs _ _
      have fin : ∀ (vs ps : List szV) (b : List szV) (mm : mzL), az_lp c D R Cs F dirty new vs ps p b = true → sz_LR ρ vs mm → (∀ ρ', sz_LR ρ' ps mm → o.map (fun v => v.map (sz_v ρ)) = p.1.map (fun v => v.map (sz_v ρ'))) → az_PostH c ρE h0 bs (o.map (fun v => v.map (sz_v ρ))) (hh, t2) := by
        intro vs ps b mm he hl ho
        obtain ⟨ρ', v1, v2, v3, v4⟩ := az_lp_ok hV hH hu hlen he hl
        refine ⟨p, hp, ρ', v1, ⟨fun k hk => by rw [v2.1 k hk, hE.1 k hk], fun hn => by rw [v2.2 hn, hE.2 hn]⟩, ho ρ' v3, v4, ?_, ?_⟩
        · dsimp only; omega
        · dsimp only; omega
      split at hp2
      · rename_i hpo
        exact fin [] [] _ [] hp2 (fun k v hv => by simp at hv) (fun ρ' _ => by rw [hpo]; rfl)
      · rename_i v w hpo
        rw [Bool.and_eq_true, Bool.and_eq_true] at hp2
        refine fin [v] [w] _ [(0, sz_v ρ v)] hp2.2 ?_ ?_
        · intro k x hx h9
          match k, hx with
          | 0, hx => cases hx; rfl
          | k + 1, hx => simp at hx
        · intro ρ' hl
          have := hl 0 w rfl (Nat.le_of_ble_eq_true hp2.1.1)
          have e : sz_v ρ v = sz_v ρ' w := by
            have h2 : mz_ld [(0, sz_v ρ v)] 0 = some (sz_v ρ v) := rfl
            rw [h2] at this
            exact Option.some.inj this
          rw [hpo]
          show some (some (sz_v ρ v)) = some (some (sz_v ρ' w))
          rw [e]
      · rename_i hpo
        exact fin [] [] _ [] hp2 (fun k v hv => by simp at hv) (fun ρ' _ => by rw [hpo]; rfl)
      · cases hp2
