/-! new atoms: what an operation gives, what a slot holds -/
noncomputable def az_snk {α β : Type} (l : List α) (a : α) : (List α → β) → β := List.rec (fun k => k [a]) (fun x _ ih k => ih (fun t => k (x :: t))) l
theorem az_snk_eq {α β : Type} (a : α) : ∀ (l : List α) (k : List α → β), az_snk l a k = k (l ++ [a])
  | [], _ => rfl
  | x :: l, k => az_snk_eq a l (fun t => k (x :: t))
def az_loFr (n : Nat) (f : szF) : Bool := f.2.2.2.2.1.all (fun v => az_lo n v.2.2) && f.2.2.2.2.2.all (fun v => az_lo n v.2.2)
def az_loC (n : Nat) (C : azQ) : Bool := az_loFr n C.1 && (C.2.1.all (az_loFr n) && az_loF n C.2.2.1)
theorem az_FR_ag {n : Nat} {ρ ρ' : Nat → Int} (hag : az_ag n ρ ρ') {f : szF} {w : mzW} (h : az_loFr n f = true) (hF : sz_FR ρ f w) : sz_FR ρ' f w := by
  unfold az_loFr at h
  rw [Bool.and_eq_true] at h
  obtain ⟨F1, F2, F3, F4, F5, F6, F7⟩ := hF
  refine ⟨F1, F2, F3, F4, F5, ?_, ?_⟩
  · intro k v hv h9
    rw [F6 k v hv h9, az_v_ag hag (List.all_eq_true.mp h.1 v (List.mem_of_getElem? hv))]
  · rw [F7]
    exact List.map_congr_left (fun v hv => (az_v_ag hag (List.all_eq_true.mp h.2 v hv)).symm)
theorem az_WR_ag {n : Nat} {ρ ρ' : Nat → Int} (hag : az_ag n ρ ρ') : ∀ {fs : List szF} {ws : List mzW}, fs.all (az_loFr n) = true → sz_WR ρ fs ws → sz_WR ρ' fs ws
  | [], [], _, _ => trivial
  | f :: fs, w :: ws, h, hW => by
    rw [List.all_cons, Bool.and_eq_true] at h
    exact ⟨az_FR_ag hag h.1 hW.1, az_WR_ag hag h.2 hW.2⟩
  | [], _ :: _, _, hW => by cases hW
  | _ :: _, [], _, hW => by cases hW
theorem az_GG_ag {X : List (List Value)} {Kb : Option (Option Value) → mzS → Prop} {mods : List (Nat × Nat)} {h0 : List mzC} {bs : Nat × Nat} {ee n : Nat} {ρ ρ' : Nat → Int} (hag : az_ag n ρ ρ') {C : azQ} (h : az_loC n C = true) (hg : az_GG X Kb mods h0 bs ee ρ' C) : az_GG X Kb mods h0 bs ee ρ C := by
  unfold az_loC at h
  rw [Bool.and_eq_true, Bool.and_eq_true] at h
  intro ws w hh s2 hF hW hH b1 b2
  exact hg ws w hh s2 (az_FR_ag hag h.1 hF) (az_WR_ag hag h.2.1 hW) (az_HR_ag hag h.2.2 hH) b1 b2
/-- a value's range -/
noncomputable def az_rgv (R : szR) (Cs : azS) (v : szV) : Int × Int := bif az_nw R Cs v then (az_lb R Cs v.2.1 v.2.2, az_ub R Cs v.2.1 v.2.2) else (-2147483648, 2147483647)
theorem az_rgv_ok {R : szR} {Cs : azS} {ρ : Nat → Int} (hR : sz_R R ρ) (hC : az_S Cs ρ) (v : szV) : (az_rgv R Cs v).1 ≤ (sz_i ρ v).toInt ∧ (sz_i ρ v).toInt ≤ (az_rgv R Cs v).2 := by
  unfold az_rgv
  cases h : az_nw R Cs v with
  | false => exact sz_bd _
  | true =>
    rw [az_nw_ok hR hC h]
    exact ⟨az_lb_ok hR hC _ _, az_ub_ok hR hC _ _⟩
/-- what is known of an or: at least as large as the first -/
noncomputable def az_orS (R : szR) (Cs : azS) (o n : Nat) (x y : szV) : azS := bif Nat.beq o 14 && ((az_nw R Cs x && az_nw R Cs y) && ((decide (0 ≤ az_lb R Cs x.2.1 x.2.2) && decide (0 ≤ az_lb R Cs y.2.1 y.2.2)) && az_lo (n + 1) (sz_add (sz_sc (-1) x.2.2) [(n, 1)]))) then (-x.2.1, sz_add (sz_sc (-1) x.2.2) [(n, 1)]) :: Cs else Cs
noncomputable def az_rdef (D : szD) (R : szR) (Cs : azS) (C : azQ) (o : Nat) (x y : szV) (f : szD → szR → azS → Bool) : Bool := ((az_lo R.length x.2.2 && az_lo R.length y.2.2) && (az_loC R.length C && (Nat.blt (R.length + 1) 1000000 && !(Nat.beq o 0)))) && sz_fi (az_opr o (az_rgv R Cs x).1 (az_rgv R Cs x).2 (az_rgv R Cs y).1 (az_rgv R Cs y).2).1 (fun l => sz_fi (az_opr o (az_rgv R Cs x).1 (az_rgv R Cs x).2 (az_rgv R Cs y).1 (az_rgv R Cs y).2).2 (fun h => az_fv x (fun x => az_fv y (fun y => az_snk D (o, x, y) (fun D => az_snk R (l, h) (fun R' => bif Nat.beq o 14 then f D R' (az_orS R Cs o R.length x y) else f D R' Cs))))))
theorem az_orS_ok {D : szD} {R : szR} {Cs : azS} {ρ : Nat → Int} (hV : az_V D R Cs ρ) (hW : az_wf D R Cs) {D' : szD} {R' : szR} {ρ' : Nat → Int} {x y : szV} (hV' : az_V D' R' Cs ρ') (hW' : az_wf D' R' Cs) (hag : az_ag R.length ρ ρ') (hl : R'.length = R.length + 1) (hx : az_lo R.length x.2.2 = true) (hn : ρ' R.length = (sz_op 14 (sz_i ρ x) (sz_i ρ y)).toInt) : az_V D' R' (az_orS R Cs 14 R.length x y) ρ' ∧ az_wf D' R' (az_orS R Cs 14 R.length x y) := by
  unfold az_orS
  cases hc : (Nat.beq 14 14 && ((az_nw R Cs x && az_nw R Cs y) && ((decide (0 ≤ az_lb R Cs x.2.1 x.2.2) && decide (0 ≤ az_lb R Cs y.2.1 y.2.2)) && az_lo (R.length + 1) (sz_add (sz_sc (-1) x.2.2) [(R.length, 1)])))) with
  | false => exact ⟨hV', hW'⟩
  | true =>
    simp only [Bool.and_eq_true, decide_eq_true_eq] at hc
    obtain ⟨_, ⟨n1, n2⟩, ⟨l1, l2⟩, l3⟩ := hc
    have e1 := az_nw_ok hV.2.1 hV.2.2.1 n1
    have e2 := az_nw_ok hV.2.1 hV.2.2.1 n2
    have b1 := az_lb_ok hV.2.1 hV.2.2.1 x.2.1 x.2.2
    have b2 := az_lb_ok hV.2.1 hV.2.2.1 y.2.1 y.2.2
    have ho := (az_or_bd (sz_i ρ x) (sz_i ρ y) (by omega) (by omega)).1
    have e3 : sz_op 14 (sz_i ρ x) (sz_i ρ y) = sz_i ρ x ||| sz_i ρ y := rfl
    rw [e3] at hn
    refine ⟨⟨hV'.1, hV'.2.1, ?_, hV'.2.2.2⟩, hW'.1, hW'.2.1, hW'.2.2.1, ?_⟩
    · intro f hf
      rcases List.mem_cons.mp hf with e | e
      · subst e
        dsimp only
        rw [sz_sum_add, sz_sum_sc, az_sum_ag hag hx]
        have e4 : sz_sum ρ' [(R.length, 1)] = ρ' R.length := by simp [sz_sum]
        rw [e4]
        omega
      · exact hV'.2.2.1 f e
    · intro f hf
      rcases List.mem_cons.mp hf with e | e
      · subst e
        rw [hl]
        exact l3
      · exact hW'.2.2.2 f e
theorem az_rdef_ok {D : szD} {R : szR} {Cs : azS} {ρ : Nat → Int} (hV : az_V D R Cs ρ) (hW : az_wf D R Cs) {C : azQ} {o : Nat} {x y : szV} {f : szD → szR → azS → Bool} (h : az_rdef D R Cs C o x y f = true) : ∃ D' R' Cs' ρ', f D' R' Cs' = true ∧ az_V D' R' Cs' ρ' ∧ az_wf D' R' Cs' ∧ az_ag R.length ρ ρ' ∧ R'.length = R.length + 1 ∧ az_loC R.length C = true := by
  unfold az_rdef at h
  rw [sz_fi_eq, sz_fi_eq, az_fv_eq, az_fv_eq, az_snk_eq, az_snk_eq] at h
  rw [Bool.and_eq_true] at h
  obtain ⟨h, h6⟩ := h
  simp only [Bool.and_eq_true] at h
  obtain ⟨⟨h1, h2⟩, h3, h4, h5⟩ := h
  have h4 : R.length + 1 < 1000000 := Nat.le_of_ble_eq_true h4
  have h5 : o ≠ 0 := fun e => by rw [e] at h5; cases h5
  have r1 := az_rgv_ok hV.2.1 hV.2.2.1 x
  have r2 := az_rgv_ok hV.2.1 hV.2.2.1 y
  obtain ⟨a1, a2, a3⟩ := az_fresh hV hW (d := (o, x, y)) (x := (sz_op o (sz_i ρ x) (sz_i ρ y)).toInt) h4 (sz_bd _) (az_opr_ok (o := o) r1.1 r1.2 r2.1 r2.2) h1 h2 (fun _ => rfl) (fun e => absurd e h5)
  have hl : (R ++ [az_opr o (az_rgv R Cs x).1 (az_rgv R Cs x).2 (az_rgv R Cs y).1 (az_rgv R Cs y).2]).length = R.length + 1 := by rw [List.length_append]; rfl
  cases ho : Nat.beq o 14 with
  | false =>
    rw [ho] at h6
    exact ⟨_, _, _, _, h6, a1, a2, a3, hl, h3⟩
  | true =>
    rw [ho] at h6
    have ho := Nat.eq_of_beq_eq_true ho
    subst ho
    obtain ⟨c1, c2⟩ := az_orS_ok (x := x) (y := y) hV hW a1 a2 a3 hl h1 (by unfold az_up; rw [if_pos rfl])
    exact ⟨_, _, _, _, h6, c1, c2, a3, hl, h3⟩
def az_hull : List (Int × Int) → Option (Int × Int)
  | [] => none
  | [p] => some p
  | p :: r => match az_hull r with
    | none => some p
    | some q => some (az_mn p.1 q.1, az_mx p.2 q.2)
theorem az_hull_ok : ∀ {ps : List (Int × Int)} {p : Int × Int}, az_hull ps = some p → ∀ q ∈ ps, p.1 ≤ q.1 ∧ q.2 ≤ p.2
  | [], _, h, _, _ => by cases h
  | [a], p, h, q, hq => by
    have h : some a = some p := h
    cases h
    rw [List.mem_singleton] at hq
    subst hq
    exact ⟨Int.le_refl _, Int.le_refl _⟩
  | a :: b :: r, p, h, q, hq => by
    unfold az_hull at h
    split at h
    · rename_i hn
      exfalso
      unfold az_hull at hn
      match r, hn with
      | [], hn => cases hn
      | c :: r, hn =>
        dsimp only at hn
        split at hn <;> cases hn
    · rename_i p' hp'
      cases h
      have m1 := az_mn_le a.1 p'.1
      have m2 := az_le_mx a.2 p'.2
      rcases List.mem_cons.mp hq with e | e
      · subst e
        exact ⟨m1.1, m2.1⟩
      · have := az_hull_ok hp' q e
        exact ⟨Int.le_trans m1.2 this.1, Int.le_trans this.2 m2.2⟩
/-- the type of what an index means -/
noncomputable def az_mty (R : szR) (Cs : azS) (C : azC) (ix : Int × szT) : Option azTy := match ix with
  | (.ofNat k, []) => bif Nat.blt k 1000000 then az_ty C k else none
  | ix => bif az_inb R Cs ix C.2.1 then az_hom R C ix else none
theorem az_mty_ok {R : szR} {Cs : azS} {ρ : Nat → Int} (hR : sz_R R ρ) (hC : az_S Cs ρ) {C : azC} {ix : Int × szT} {τ : azTy} (h : az_mty R Cs C ix = some τ) : 0 ≤ (sz_i ρ (0, ix)).toInt ∧ az_ty C (sz_i ρ (0, ix)).toInt.toNat = some τ := by
  unfold az_mty at h
  split at h
  · rename_i k
    cases hb : Nat.blt k 1000000 with
    | false => rw [hb] at h; cases h
    | true =>
      rw [hb] at h
      rw [az_nat_ix (Nat.le_of_ble_eq_true hb), Int.toNat_natCast]
      exact ⟨by omega, h⟩
  · cases hb : az_inb R Cs ix C.2.1 with
    | false => rw [hb] at h; cases h
    | true =>
      rw [hb] at h
      unfold az_inb at hb
      simp only [Bool.and_eq_true, decide_eq_true_eq] at hb
      obtain ⟨⟨i1, i2⟩, i3⟩ := hb
      have hx := az_nw_ok hR hC i3
      dsimp only at hx
      have l1 := az_lb_ok hR hC ix.1 ix.2
      have l2 := az_ub_ok hR hC ix.1 ix.2
      have ht := az_hom_ok hR h (by omega) (by omega)
      rw [← hx] at ht
      exact ⟨by omega, ht⟩
/-- pairs whose slots have facts now -/
noncomputable def az_prs (D : szD) (F : azF) (dirty : List Nat) (c : Nat) : List Nat → szR → azS → Option (szR × azS)
  | [], R, Cs => some (R, Cs)
  | i :: r, R, Cs => match sz_nth azPs i with
    | some p => (match az_pf F p with
      | some (x, y) => bif ((Nat.beq x.1 0 && Nat.beq y.1 0) && (az_nw R Cs x && az_nw R Cs y)) && ((!(dirty.any (fun k => Nat.beq k i)) && az_lo R.length (az_pc p x y).2) && ((Nat.blt p.2.1 1000000 && Nat.blt p.2.2.2.2.1 1000000) && !(decide (0 ≤ az_lb R Cs (az_pc p x y).1 (az_pc p x y).2)))) then (match az_asm D R Cs (az_pc p x y).1 (az_pc p x y).2 with
          | some (R, Cs) => az_prs D F dirty c r R Cs
          | none => none) else az_prs D F dirty c r R Cs
      | none => az_prs D F dirty c r R Cs)
    | none => az_prs D F dirty c r R Cs
theorem az_prs_ok {D : szD} {ρ : Nat → Int} {mods : List (Nat × Nat)} {h0 h : List mzC} {F : azF} {dirty : List Nat} {new : Bool} {u c : Nat} (H : az_HR mods h0 ρ F dirty new u h) : ∀ {ids : List Nat} {R : szR} {Cs : azS}, az_V D R Cs ρ → az_wf D R Cs → ∃ R' Cs', az_prs D F dirty c ids R Cs = some (R', Cs') ∧ az_V D R' Cs' ρ ∧ az_wf D R' Cs' ∧ R'.length = R.length
  | [], R, Cs, hV, hW => ⟨R, Cs, rfl, hV, hW, rfl⟩
  | i :: r, R, Cs, hV, hW => by
    unfold az_prs
    rw [sz_nth_eq]
    split
    · rename_i p hp
      split
      · rename_i x y hxy
        cases hb : (((Nat.beq x.1 0 && Nat.beq y.1 0) && (az_nw R Cs x && az_nw R Cs y)) && ((!(dirty.any (fun k => Nat.beq k i)) && az_lo R.length (az_pc p x y).2) && ((Nat.blt p.2.1 1000000 && Nat.blt p.2.2.2.2.1 1000000) && !(decide (0 ≤ az_lb R Cs (az_pc p x y).1 (az_pc p x y).2))))) with
        | false => exact az_prs_ok H hV hW
        | true =>
          simp only [Bool.and_eq_true] at hb
          obtain ⟨⟨⟨t1, t2⟩, n1, n2⟩, ⟨t3, t4⟩, ⟨t5, t6⟩, _⟩ := hb
          have hnd : i ∉ dirty := fun hi => by
            have : dirty.any (fun k => Nat.beq k i) = true := List.any_eq_true.mpr ⟨i, hi, Nat.beq_refl i⟩
            rw [this] at t3
            cases t3
          obtain ⟨_, _, p3, p4⟩ := az_pt hp
          obtain ⟨X, Y, x1, y1, xy⟩ := H.2.2.2.1 i p hp hnd
          have hL := azL_len
          unfold az_pf at hxy
          split at hxy
          · rename_i x' y' hx hy
            cases hxy
            obtain ⟨_, s1⟩ := az_fact_at H.2.2.1 (Nat.le_of_ble_eq_true t5) hx
            obtain ⟨_, s2⟩ := az_fact_at H.2.2.1 (Nat.le_of_ble_eq_true t6) hy
            rw [show az_c ρ p.1 = p.1 from if_neg (by omega), x1, sz_vi (Nat.eq_of_beq_eq_true t1)] at s1
            rw [show az_c ρ p.2.2.2.1 = p.2.2.2.1 from if_neg (by omega), y1, sz_vi (Nat.eq_of_beq_eq_true t2)] at s2
            have e1 : X = sz_i ρ x := by injection s1 with e; injection e
            have e2 : Y = sz_i ρ y := by injection s2 with e; injection e
            rw [e1, e2, az_nw_ok hV.2.1 hV.2.2.1 n1, az_nw_ok hV.2.1 hV.2.2.1 n2, ← az_pc_sum] at xy
            obtain ⟨q, q1, q2, q3, q4⟩ := az_asm_ok hV hW t4 xy
            dsimp only [cond]
            rw [q1]
            obtain ⟨R2, C2, b1, b2, b3, b4⟩ := az_prs_ok H (ids := r) q2 q3
            exact ⟨R2, C2, b1, b2, b3, by omega⟩
          · cases hxy
      · exact az_prs_ok H hV hW
    · exact az_prs_ok H hV hW
noncomputable def az_rmat (D : szD) (R : szR) (Cs : azS) (C : azQ) (c : Nat) (ix : Int × szT) (g : Nat) (f : szD → szR → azS → azQ → Bool) : Bool := match C with
  | (fr, ws, F, dirty, new, uw, d) => ((!(Nat.beq c 1000000) || new) && (az_lo R.length ix.2 && (az_loC R.length C && Nat.blt (R.length + 1) 1000000))) && (match az_cell c with
    | some K => (match az_mty R Cs K ix with
      | some τ => (match az_hull τ.2.2 with
        | some (l, h) => (Nat.beq τ.1 0 && decide (sz_nth azTs g = some τ)) && az_snk D (0, ((match τ.2.2 with
            | [_] => 0
            | _ => g + 1), 0, []), (0, 0, [])) (fun D => az_snk R (l, h) (fun R2 => match az_prs D ((c, ix, (0, 0, [(R.length, 1)])) :: F) dirty c (az_pof c) R2 Cs with
          | some (R2, Cs) => sz_fo R.length (fun n => f D R2 Cs (fr, ws, (c, ix, (0, 0, [(n, 1)])) :: F, dirty, new, uw, d))
          | none => true))
        | none => false)
      | none => false)
    | none => false)
theorem az_rmat_ok {X : List (List Value)} {Kb : Option (Option Value) → mzS → Prop} {mods : List (Nat × Nat)} {h0 : List mzC} {bs : Nat × Nat} {ee : Nat} {D : szD} {R : szR} {Cs : azS} {ρ : Nat → Int} (hV : az_V D R Cs ρ) (hW : az_wf D R Cs) {C : azQ} {c : Nat} {ix : Int × szT} {g : Nat} {f : szD → szR → azS → azQ → Bool} (h : az_rmat D R Cs C c ix g f = true)
    (hf : ∀ D' R' Cs' C' ρ', f D' R' Cs' C' = true → az_V D' R' Cs' ρ' → az_wf D' R' Cs' → az_ag R.length ρ ρ' → R.length ≤ R'.length → az_GG X Kb mods h0 bs ee ρ' C') : az_GG X Kb mods h0 bs ee ρ C := by
  obtain ⟨fr, ws, F, dirty, new, uw, d⟩ := C
  intro wsM w hh s2 hF hW' hH b1 b2
  dsimp only at hF hW' hH b1 b2 ⊢
  unfold az_rmat at h
  dsimp only at h
  rw [Bool.and_eq_true] at h
  obtain ⟨h1, h2⟩ := h
  simp only [Bool.and_eq_true] at h1
  obtain ⟨c1, c2, c3, c4⟩ := h1
  have c4 : R.length + 1 < 1000000 := Nat.le_of_ble_eq_true c4
  have hn : c = 1000000 → new = true := fun e => by rw [e] at c1; simpa using c1
  split at h2
  · rename_i K hK
    split at h2
    · rename_i τ hτ
      split at h2
      · rename_i l hhi hull
        rw [Bool.and_eq_true, Bool.and_eq_true, decide_eq_true_eq, sz_nth_eq] at h2
        obtain ⟨⟨k0, kg⟩, h3⟩ := h2
        rw [az_snk_eq, az_snk_eq] at h3
        have k0 := Nat.eq_of_beq_eq_true k0
        obtain ⟨m1, m2⟩ := az_mty_ok hV.2.1 hV.2.2.1 hτ
        obtain ⟨v, v1, v2⟩ := az_slot_of (az_cell_ok hH hK hn) m2
        have hcl : az_vc new c := (az_cell_lt hK).imp id (fun e => ⟨e, hn e⟩)
        have lo3 := c3
        unfold az_loC at lo3
        rw [Bool.and_eq_true, Bool.and_eq_true] at lo3
        obtain ⟨ρ', a1, a2, a3, a4, a5⟩ := az_mat_int hV hW hH lo3.2.2 c4 c2 m1 kg k0 hcl v1 v2 (p := (l, hhi)) (az_hull_ok hull) (ann := (match τ.2.2 with
            | [_] => 0
            | _ => g + 1)) (by split <;> simp)
        obtain ⟨R2, C2, p1, p2, p3, p4⟩ := az_prs_ok (c := c) a4 (ids := az_pof c) a1 a2
        rw [p1] at h3
        dsimp only at h3
        rw [sz_fo_eq] at h3
        rw [List.length_append] at p4
        exact hf _ _ _ _ ρ' h3 p2 p3 a3 (by omega) wsM w hh s2 (az_FR_ag a3 lo3.1 hF) (az_WR_ag a3 lo3.2.1 hW') a4 b1 b2
      · cases h2
    · cases h2
  · cases h2
