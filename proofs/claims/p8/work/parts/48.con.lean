/-! contracts: what is asked, what comes back -/
/-- D, R, sums, locals, facts, dirty pairs, a new cell -/
abbrev azPat : Type := szD × szR × azS × szLo × azF × List Nat × Bool
/-- outcome, D, R, sums, facts -/
abbrev azPo : Type := Option (Option szV) × szD × szR × azS × azF
/-- method, depth, pattern, posts, slots that may change, cells and slots made -/
abbrev azCon : Type := Nat × Nat × azPat × List azPo × List (Nat × Nat) × (Nat × Nat)
def az_PostH (c : azCon) (ρ : Nat → Int) (h : List mzC) (s2 : Nat × Nat) (o : Option (Option Value)) (s' : mzS) : Prop := ∃ p ∈ c.2.2.2.1, ∃ ρ', az_V p.2.1 p.2.2.1 p.2.2.2.1 ρ' ∧ ((∀ k, k < c.2.2.1.2.1.length → ρ' k = ρ k) ∧ (c.2.2.1.2.2.2.2.2.2 = true → ρ' 1000000 = ρ 1000000)) ∧ o = p.1.map (fun v => v.map (sz_v ρ')) ∧ az_HR c.2.2.2.2.1 h ρ' p.2.2.2.2 c.2.2.1.2.2.2.2.2.1 c.2.2.1.2.2.2.2.2.2 c.2.2.2.2.2.1 s'.1 ∧ s'.2.1 ≤ s2.1 + c.2.2.2.2.2.1 ∧ s'.2.2 ≤ s2.2 + c.2.2.2.2.2.2
def az_Valid (X : List (List Value)) (c : azCon) : Prop := ∀ (ρ : Nat → Int) (h : List mzC) (args : List Value) (s2 : Nat × Nat) (d : Nat), az_V c.2.2.1.1 c.2.2.1.2.1 c.2.2.1.2.2.1 ρ → sz_LR ρ c.2.2.1.2.2.2.1 (lv_args 0 args) → az_HR [] h ρ c.2.2.1.2.2.2.2.1 c.2.2.1.2.2.2.2.2.1 c.2.2.1.2.2.2.2.2.2 0 h → h.length + 1000 * (c.2.1 + 2) < 2147483648 → c.2.1 ≤ d → mz_gg X (az_PostH c ρ h s2) d c.1 0 (lv_args 0 args) [] (h, s2)
/-- atoms put in: a sum, a value -/
noncomputable def az_sbt (b : List szV) : szT → Int × szT
  | [] => (0, [])
  | q :: t => match sz_nth b q.1 with
    | some x => (q.2 * x.2.1 + (az_sbt b t).1, sz_add (sz_sc q.2 x.2.2) (az_sbt b t).2)
    | none => (0, [])
noncomputable def az_sb (b : List szV) (v : szV) : szV := (v.1, v.2.1 + (az_sbt b v.2.2).1, (az_sbt b v.2.2).2)
/-- b's forms have the values of the atoms -/
def az_bd (b : List szV) (ρ ρ' : Nat → Int) : Prop := ∀ k x, b[k]? = some x → ρ' k = x.2.1 + sz_sum ρ x.2.2
theorem az_sbt_ok {b : List szV} {ρ ρ' : Nat → Int} (hb : az_bd b ρ ρ') : ∀ {t : szT}, az_lo b.length t = true → (az_sbt b t).1 + sz_sum ρ (az_sbt b t).2 = sz_sum ρ' t
  | [], _ => rfl
  | q :: t, h => by
    have hq := az_lo_at h List.mem_cons_self
    have ht : az_lo b.length t = true := List.all_eq_true.mpr (fun p hp => List.all_eq_true.mp h p (List.mem_cons_of_mem _ hp))
    have ih := az_sbt_ok hb ht
    unfold az_sbt
    rw [sz_nth_eq, List.getElem?_eq_getElem hq]
    dsimp only
    rw [sz_sum_add, sz_sum_sc]
    show _ = q.2 * ρ' q.1 + sz_sum ρ' t
    rw [hb q.1 _ (List.getElem?_eq_getElem hq), Int.mul_add, ← ih]
    omega
theorem az_sb_i {b : List szV} {ρ ρ' : Nat → Int} (hb : az_bd b ρ ρ') {v : szV} (h : az_lo b.length v.2.2 = true) : sz_i ρ (az_sb b v) = sz_i ρ' v := by
  have := az_sbt_ok hb h
  unfold sz_i az_sb
  dsimp only
  congr 1
  omega
theorem az_sb_v {b : List szV} {ρ ρ' : Nat → Int} (hb : az_bd b ρ ρ') (hM : ρ' 1000000 = ρ 1000000) {v : szV} (h : az_lo b.length v.2.2 = true) (hr : v.1 = 1 → v.2.2 = []) : sz_v ρ (az_sb b v) = sz_v ρ' v := by
  have e1 := az_sb_i hb h
  have e2 := az_sbt_ok hb h
  obtain ⟨g, c, t⟩ := v
  have hg : (az_sb b (g, c, t)).1 = g := rfl
  match g, hr with
  | 0, _ => rw [sz_vi hg, sz_vi rfl, e1]
  | 1, hr =>
    have ht : t = [] := hr rfl
    subst ht
    have hc : (az_sb b (1, c, [])).2.1 = c := Int.add_zero c
    rw [sz_v1 hg, sz_v1 rfl, hc, hM]
  | 2, _ => rw [sz_vl hg, sz_vl rfl, e1]
  | 3, _ => rw [sz_vj hg, sz_vj rfl]
  | 4, _ =>
    show Value.null = Value.null
    rfl
  | 5, _ =>
    dsimp only at e2
    have hc : (az_sb b (5, c, t)).2.1 + sz_sum ρ (az_sb b (5, c, t)).2.2 = c + sz_sum ρ' t := by
      show c + (az_sbt b t).1 + sz_sum ρ (az_sbt b t).2 = _
      omega
    rw [sz_v5 hg, sz_v5 rfl, hc]
  | n + 6, _ =>
    show Value.null = Value.null
    rfl
/-- a pattern's value against a value -/
noncomputable def az_mv (R : szR) (Cs : azS) (b : List szV) (new : Bool) (p v : szV) : Bool :=
  bif Nat.beq p.1 0 then (Nat.beq v.1 0 && az_lo b.length p.2.2) && ((decide ((az_sb b p).2.1 = v.2.1) && decide ((az_sb b p).2.2 = v.2.2)) || (match az_k R Cs (az_sb b p), az_k R Cs v with
    | some x, some y => decide (x = y)
    | _, _ => false))
  else bif Nat.beq p.1 1 then Nat.beq v.1 1 && (decide (v.2.1 = p.2.1) && (decide (p.2.1 < 1000000) || new)) else false
theorem az_mv_ok {R : szR} {Cs : azS} {b : List szV} {ρ ρ' : Nat → Int} (hR : sz_R R ρ) (hC : az_S Cs ρ) (hb : az_bd b ρ ρ') {new : Bool} (hM : new = true → ρ' 1000000 = ρ 1000000) {p v : szV} (h : az_mv R Cs b new p v = true) : sz_v ρ' p = sz_v ρ v := by
  unfold az_mv at h
  cases h0 : Nat.beq p.1 0 with
  | true =>
    rw [h0] at h
    dsimp only [cond] at h
    have h0 := Nat.eq_of_beq_eq_true h0
    rw [Bool.and_eq_true, Bool.and_eq_true] at h
    obtain ⟨⟨h1, h2⟩, h3⟩ := h
    have h1 := Nat.eq_of_beq_eq_true h1
    have e := az_sb_i hb h2
    rw [sz_vi h0, sz_vi h1]
    congr 1
    rw [← e]
    rw [Bool.or_eq_true] at h3
    rcases h3 with h3 | h3
    · rw [Bool.and_eq_true, decide_eq_true_eq, decide_eq_true_eq] at h3
      unfold sz_i
      rw [h3.1, h3.2]
    · split at h3
      · rename_i x y hx hy
        rw [decide_eq_true_eq] at h3
        rw [(az_k_ok hR hC hx).2.2.2.1, (az_k_ok hR hC hy).2.2.2.1, h3]
      · cases h3
  | false =>
  rw [h0] at h
  dsimp only [cond] at h
  cases h1 : Nat.beq p.1 1 with
  | false => rw [h1] at h; cases h
  | true =>
    rw [h1] at h
    dsimp only at h
    have h1 := Nat.eq_of_beq_eq_true h1
    simp only [Bool.and_eq_true, Bool.or_eq_true, decide_eq_true_eq] at h
    obtain ⟨h2, h3, h4⟩ := h
    have h2 := Nat.eq_of_beq_eq_true h2
    rw [sz_v1 h1, sz_v1 h2, h3]
    rcases h4 with h4 | h4
    · rw [if_pos h4, if_pos h4]
    · rw [hM h4]
/-- locals of a pattern -/
noncomputable def az_mlo (R : szR) (Cs : azS) (b : List szV) (new : Bool) : szLo → szLo → Bool
  | [], _ => true
  | p :: ps, [] => Nat.ble 9 p.1 && az_mlo R Cs b new ps []
  | p :: ps, v :: vs => (Nat.ble 9 p.1 || (az_mv R Cs b new p v && Nat.blt v.1 9)) && az_mlo R Cs b new ps vs
theorem az_mlo_ok {R : szR} {Cs : azS} {b : List szV} {ρ ρ' : Nat → Int} (hR : sz_R R ρ) (hC : az_S Cs ρ) (hb : az_bd b ρ ρ') {new : Bool} (hM : new = true → ρ' 1000000 = ρ 1000000) : ∀ {ps vs : szLo}, az_mlo R Cs b new ps vs = true → ∀ (k : Nat) (p : szV), ps[k]? = some p → p.1 < 9 → ∃ v, vs[k]? = some v ∧ v.1 < 9 ∧ sz_v ρ' p = sz_v ρ v
  | [], _, _, k, p, hp, _ => by simp at hp
  | q :: ps, [], h, k, p, hp, h9 => by
    unfold az_mlo at h
    rw [Bool.and_eq_true] at h
    match k, hp with
    | 0, hp =>
      cases hp
      have := Nat.le_of_ble_eq_true h.1
      omega
    | k + 1, hp =>
      obtain ⟨v, hv, _⟩ := az_mlo_ok hR hC hb hM h.2 k p (by simpa using hp) h9
      simp at hv
  | q :: ps, w :: vs, h, k, p, hp, h9 => by
    unfold az_mlo at h
    rw [Bool.and_eq_true, Bool.or_eq_true] at h
    match k, hp with
    | 0, hp =>
      cases hp
      rcases h.1 with h1 | h1
      · have := Nat.le_of_ble_eq_true h1
        omega
      · rw [Bool.and_eq_true] at h1
        exact ⟨w, rfl, Nat.le_of_ble_eq_true h1.2, az_mv_ok hR hC hb hM h1.1⟩
    | k + 1, hp =>
      obtain ⟨v, hv, h1⟩ := az_mlo_ok hR hC hb hM h.2 k p (by simpa using hp) h9
      exact ⟨v, by simpa using hv, h1⟩
/-- the binding is within what the pattern says of its atoms -/
noncomputable def az_mr (D : szD) (R : szR) (Cs : azS) : List szV → szD → szR → Bool
  | [], [], [] => true
  | x :: b, (o, (g, _), _) :: DP, r :: RP => ((Nat.beq x.1 0 && Nat.beq o 0) && (az_nw R Cs x && (decide (r.1 ≤ az_lb R Cs x.2.1 x.2.2) && decide (az_ub R Cs x.2.1 x.2.2 ≤ r.2)))) && ((match g with
      | 0 => true
      | g + 1 => (match sz_nth azTs g with
        | some τ => Nat.beq τ.1 0 && az_sub D R Cs x τ
        | none => false)) && az_mr D R Cs b DP RP)
  | _, _, _ => false
theorem az_mr_ok {D : szD} {R : szR} {Cs : azS} {ρ : Nat → Int} (hV : az_V D R Cs ρ) : ∀ {b : List szV} {DP : szD} {RP : szR}, az_mr D R Cs b DP RP = true → b.length = DP.length ∧ b.length = RP.length ∧ (∀ (k o : Nat) (x y : szV), DP[k]? = some (o, x, y) → o = 0) ∧ ∀ (k : Nat) (v : szV), b[k]? = some v → (-2147483648 ≤ v.2.1 + sz_sum ρ v.2.2 ∧ v.2.1 + sz_sum ρ v.2.2 ≤ 2147483647) ∧ ((sz_at RP k).1 ≤ v.2.1 + sz_sum ρ v.2.2 ∧ v.2.1 + sz_sum ρ v.2.2 ≤ (sz_at RP k).2) ∧ ∀ (x y : szV), DP[k]? = some (0, x, y) → x.1 ≠ 0 → ∃ τ, azTs[x.1 - 1]? = some τ ∧ ∃ p ∈ τ.2.2, p.1 ≤ v.2.1 + sz_sum ρ v.2.2 ∧ v.2.1 + sz_sum ρ v.2.2 ≤ p.2
  | [], [], [], _ => ⟨rfl, rfl, fun k o x y h => by simp at h, fun k v h => by simp at h⟩
  | x :: b, (o, (g, gg), yy) :: DP, r :: RP, h => by
    unfold az_mr at h
    simp only [Bool.and_eq_true, decide_eq_true_eq] at h
    obtain ⟨⟨⟨h1, h2⟩, h3, h4, h5⟩, h6, h7⟩ := h
    obtain ⟨i1, i2, i3, i4⟩ := az_mr_ok hV h7
    have h2 := Nat.eq_of_beq_eq_true h2
    have hx := az_nw_ok hV.2.1 hV.2.2.1 h3
    have hxb := sz_bd (sz_i ρ x)
    have l1 := az_lb_ok hV.2.1 hV.2.2.1 x.2.1 x.2.2
    have l2 := az_ub_ok hV.2.1 hV.2.2.1 x.2.1 x.2.2
    refine ⟨congrArg (· + 1) i1, congrArg (· + 1) i2, ?_, ?_⟩
    · intro k o' x' y' hk
      match k, hk with
      | 0, hk => cases hk; exact h2
      | k + 1, hk => exact i3 k o' x' y' (by simpa using hk)
    · intro k v hk
      match k, hk with
      | 0, hk =>
        cases hk
        refine ⟨by omega, ⟨Int.le_trans h4 l1, Int.le_trans l2 h5⟩, ?_⟩
        intro x' y' hd hne
        cases hd
        match g, hne, h6 with
        | 0, hne, _ => exact absurd rfl hne
        | g + 1, _, h6 =>
          dsimp only at h6
          rw [sz_nth_eq] at h6
          split at h6
          · rename_i τ hτ
            rw [Bool.and_eq_true] at h6
            have := az_sub_ok hV.2.1 hV.2.2.1 hV.2.2.2.1 h6.2
            unfold az_in at this
            rw [Nat.eq_of_beq_eq_true h6.1] at this
            obtain ⟨z, hz, p, hp, hp2⟩ := this
            rw [sz_vi (Nat.eq_of_beq_eq_true h1)] at hz
            have hz : sz_i ρ x = z := by injection hz
            rw [← hz, hx] at hp2
            exact ⟨τ, hτ, p, hp, hp2⟩
          · cases h6
      | k + 1, hk =>
        have := i4 k v (by simpa using hk)
        exact this
  | [], [], _ :: _, h => by cases h
  | [], _ :: _, _, h => by cases h
  | _ :: _, [], _, h => by cases h
  | _ :: _, _ :: _, [], h => by cases h
noncomputable def az_mc (R : szR) (Cs : azS) (b : List szV) (cs : azS) : Bool := cs.all (fun f => az_lo b.length f.2 && decide (0 ≤ az_lb R Cs (f.1 + (az_sbt b f.2).1) (az_sbt b f.2).2))
theorem az_mc_ok {R : szR} {Cs : azS} {b : List szV} {ρ ρ' : Nat → Int} (hR : sz_R R ρ) (hC : az_S Cs ρ) (hb : az_bd b ρ ρ') {cs : azS} (h : az_mc R Cs b cs = true) : az_S cs ρ' := by
  intro f hf
  have := List.all_eq_true.mp h f hf
  rw [Bool.and_eq_true, decide_eq_true_eq] at this
  have e := az_sbt_ok hb this.1
  have l := az_lb_ok hR hC (f.1 + (az_sbt b f.2).1) (az_sbt b f.2).2
  omega
noncomputable def az_mF (R : szR) (Cs : azS) (b : List szV) (new : Bool) (F : azF) (FP : azF) : Bool := FP.all (fun q => ((Nat.blt q.1 azL.length || (Nat.beq q.1 1000000 && new)) && (match q.2.1.2 with
  | [] => true
  | _ => false)) && (match az_fget q.1 q.2.1 F with
    | some v => az_mv R Cs b new q.2.2 v
    | none => false))
/-- the values that a pattern's atoms have -/
def az_rp (b : List szV) (ρ : Nat → Int) (m : Int) : Nat → Int := fun k => if k = 1000000 then m else match b[k]? with
  | some x => x.2.1 + sz_sum ρ x.2.2
  | none => 0
/-- a state serves a pattern -/
noncomputable def az_mp (D : szD) (R : szR) (Cs : azS) (F : azF) (dirty : List Nat) (new : Bool) (lo : szLo) (b : List szV) (P : azPat) : Bool := ((az_mr D R Cs b P.1 P.2.1 && az_mc R Cs b P.2.2.1) && (az_mlo R Cs b P.2.2.2.2.2.2 P.2.2.2.1 lo && az_mF R Cs b P.2.2.2.2.2.2 F P.2.2.2.2.1)) && ((dirty.all (fun i => P.2.2.2.2.2.1.any (fun k => Nat.beq k i)) && (!P.2.2.2.2.2.2 || new)) && Nat.blt b.length 1000000)
theorem az_mp_ok {D : szD} {R : szR} {Cs : azS} {ρ : Nat → Int} (hV : az_V D R Cs ρ) {mods : List (Nat × Nat)} {h0 h : List mzC} {F : azF} {dirty : List Nat} {new : Bool} {u : Nat} (H : az_HR mods h0 ρ F dirty new u h) (hlen : h.length + 1000 < 2147483648) {lo : szLo} {b : List szV} {P : azPat} (e : az_mp D R Cs F dirty new lo b P = true) {m : mzL} (hl : sz_LR ρ lo m) :
    ∃ ρ', az_bd b ρ ρ' ∧ b.length = P.2.1.length ∧ (P.2.2.2.2.2.2 = true → ρ' 1000000 = ρ 1000000) ∧ az_V P.1 P.2.1 P.2.2.1 ρ' ∧ sz_LR ρ' P.2.2.2.1 m ∧ az_HR [] h ρ' P.2.2.2.2.1 P.2.2.2.2.2.1 P.2.2.2.2.2.2 0 h := by
  obtain ⟨DP, RP, CP, loP, FP, dP, nP⟩ := P
  unfold az_mp at e
  simp only [Bool.and_eq_true] at e
  obtain ⟨⟨⟨e1, e2⟩, e3, e4⟩, ⟨e5, e6⟩, e7⟩ := e
  have e7 : b.length < 1000000 := Nat.le_of_ble_eq_true e7
  obtain ⟨V1, V2, V3, V4, V5⟩ := id hV
  obtain ⟨r1, r2, r3, r4⟩ := az_mr_ok hV e1
  have hL := azL_len
  have hnew : nP = true → new = true := fun hn => by rw [hn] at e6; simpa using e6
  have hmb : -2147483648 ≤ (if nP = true then ρ 1000000 else (h.length : Int) + 4) ∧ (if nP = true then ρ 1000000 else (h.length : Int) + 4) ≤ 2147483647 := by
    split
    · exact V5 _
    · omega
  have hbd : az_bd b ρ (az_rp b ρ (if nP = true then ρ 1000000 else (h.length : Int) + 4)) := by
    intro k x hx
    have : k < b.length := (List.getElem?_eq_some_iff.mp hx).1
    unfold az_rp
    rw [if_neg (by omega), hx]
  have hM : az_rp b ρ (if nP = true then ρ 1000000 else (h.length : Int) + 4) 1000000 = (if nP = true then ρ 1000000 else (h.length : Int) + 4) := if_pos rfl
  generalize hρ : az_rp b ρ (if nP = true then ρ 1000000 else (h.length : Int) + 4) = ρ' at hbd hM
  have hMn : nP = true → ρ' 1000000 = ρ 1000000 := fun hn => by rw [hM, if_pos hn]
  have hout : ∀ k, b[k]? = none → k ≠ 1000000 → ρ' k = 0 := by
    intro k hk hne
    rw [← hρ]
    unfold az_rp
    rw [if_neg hne, hk]
  have hB : ∀ k, -2147483648 ≤ ρ' k ∧ ρ' k ≤ 2147483647 := by
    intro k
    cases hk : b[k]? with
    | some x => rw [hbd k x hk]; exact (r4 k x hk).1
    | none =>
      by_cases hne : k = 1000000
      · rw [hne, hM]; exact hmb
      · rw [hout k hk hne]; omega
  refine ⟨ρ', hbd, r2, hMn, ⟨?_, ?_, az_mc_ok V2 V3 hbd e2, ?_, hB⟩, ?_, H.1, ⟨?_, ?_⟩, ?_, ?_, fun _ _ _ _ => rfl, Nat.le_refl _, Nat.le_refl _⟩
  · intro k o x y hk ho
    exact absurd (r3 k o x y hk) ho
  · intro k
    cases hk : b[k]? with
    | some x => rw [hbd k x hk]; exact (r4 k x hk).2.1
    | none =>
      have hge : RP.length ≤ k := by
        have := List.getElem?_eq_none_iff.mp hk
        omega
      unfold sz_at
      rw [List.getD_eq_getElem?_getD, List.getElem?_eq_none hge]
      exact hB k
  · intro k x y hk hne
    have hlt : k < b.length := by
      have h5 : k < DP.length := (List.getElem?_eq_some_iff.mp hk).1
      have h6 : b.length = DP.length := r1
      omega
    rw [hbd k _ (List.getElem?_eq_getElem hlt)]
    exact (r4 k _ (List.getElem?_eq_getElem hlt)).2.2 x y hk hne
  · intro k v hv h9
    obtain ⟨w, w1, w2, w3⟩ := az_mlo_ok V2 V3 hbd hMn e3 k v hv h9
    rw [hl k w w1 w2, w3]
  · intro hn
    rw [hMn hn]
    exact H.2.1.1 (hnew hn)
  · intro hn _
    dsimp only at hn
    rw [hM, hn, if_neg (by decide)]
    omega
  · intro q hq
    have := List.all_eq_true.mp e4 q hq
    simp only [Bool.and_eq_true] at this
    obtain ⟨⟨t1, t2⟩, t3⟩ := this
    split at t3
    · rename_i v hv
      obtain ⟨f1, f2, f3⟩ := H.2.2.1 _ (az_fget_ok hv)
      dsimp only at f1 f2 f3
      have hix : sz_i ρ' (0, q.2.1) = sz_i ρ (0, q.2.1) := by
        have ht : q.2.1.2 = [] := by
          split at t2
          · assumption
          · cases t2
        unfold sz_i
        dsimp only
        rw [ht]
        rfl
      rw [hix]
      rw [Bool.or_eq_true, Bool.and_eq_true] at t1
      have hvc : az_vc nP q.1 := by
        rcases t1 with t1 | t1
        · exact Or.inl (Nat.le_of_ble_eq_true t1)
        · exact Or.inr ⟨Nat.eq_of_beq_eq_true t1.1, t1.2⟩
      have hcc : az_c ρ' q.1 = az_c ρ q.1 := by
        unfold az_c
        rcases hvc with hvc | ⟨hvc, hn⟩
        · rw [if_neg (by omega), if_neg (by omega)]
        · rw [if_pos hvc, if_pos hvc, hMn hn]
      refine ⟨hvc, f2, ?_⟩
      rw [hcc, f3, az_mv_ok V2 V3 hbd hMn t3]
    · cases t3
  · intro i p hp hi
    refine H.2.2.2.1 i p hp (fun hd => hi ?_)
    have := List.all_eq_true.mp e5 i hd
    obtain ⟨k, k1, k2⟩ := List.any_eq_true.mp this
    rw [← Nat.eq_of_beq_eq_true k2]
    exact k1
