/-! what 'behind' answers is a function of the numbers -/
def bhB : azCon := (122, 3, ([(0, (0, 0, []), (0, 0, [])), (0, (0, 0, []), (0, 0, [])), (0, (0, 0, []), (0, 0, []))], [(0, 9), (0, 9), (1, 200)], [], [(1, 145, []), (0, 0, [(0, 1)]), (0, 0, [(1, 1)]), (0, 0, [(2, 1)])], [], [], false), [(some (some (0, 0, [(3, 1)])), [(0, (0, 0, []), (0, 0, [])), (0, (0, 0, []), (0, 0, [])), (0, (0, 0, []), (0, 0, [])), (0, (0, 0, []), (0, 0, []))], [(0, 9), (0, 9), (1, 200), ((-1000000), 40)], [], [])], [], (0, 0))
/-- its value is known -/
def bhC : azCon := (122, 3, ([(0, (0, 0, []), (0, 0, [])), (0, (0, 0, []), (0, 0, [])), (0, (0, 0, []), (0, 0, [])), (0, (0, 0, []), (0, 0, []))], [(0, 9), (0, 9), (1, 200), ((-1000000), 40)], [], [(1, 145, []), (0, 0, [(0, 1)]), (0, 0, [(1, 1)]), (0, 0, [(2, 1)])], [], [], false), [(some (some (0, 0, [(3, 1)])), [(0, (0, 0, []), (0, 0, [])), (0, (0, 0, []), (0, 0, [])), (0, (0, 0, []), (0, 0, [])), (0, (0, 0, []), (0, 0, []))], [(0, 9), (0, 9), (1, 200), ((-1000000), 40)], [], [])], [], (0, 0))
def bh (X : List (List Value)) (h : List mzC) (k o g v : Int) : Prop := ∃ n, mz_run mzP X n 3 122 0 (lv_args 0 [.ref 145, iv k, iv o, iv g]) [] (h, (0, 0)) = some (some (some (iv v)), (h, (0, 0)))
set_option maxRecDepth 20000 in
theorem bh_args (k o g : Int) : mr_st 145 146 [.ref 145, iv k, iv o, iv g] := mr_cons (fun r e => by cases e; exact Or.inl rfl) (mr_cons (mr_int _) (mr_cons (mr_int _) (mr_cons (mr_int _) (fun v hv => by cases hv))))
set_option maxRecDepth 20000 in
theorem bh_ex {X : List (List Value)} (hB : az_Valid X bhB) {h : List mzC} (hT : az_Tp h) (hlen : h.length + 5000 < 2147483648) {k o g : Int} (hk : 0 ≤ k ∧ k ≤ 9) (ho : 0 ≤ o ∧ o ≤ 9) (hg : 1 ≤ g ∧ g ≤ 200) : ∃ v, -1000000 ≤ v ∧ v ≤ 40 ∧ bh X h k o g v := by
  have hV : az_V bhB.2.2.1.1 bhB.2.2.1.2.1 bhB.2.2.1.2.2.1 (rho [k, o, g] ((h.length : Int) + 4)) := rho_V (rho_free rfl _) ⟨hk, ho, hg, trivial⟩ rfl (by omega) (by decide) trivial
  have hL : sz_LR (rho [k, o, g] ((h.length : Int) + 4)) bhB.2.2.1.2.2.2.1 (lv_args 0 [.ref 145, iv k, iv o, iv g]) := by
    intro i v hi _
    match i, hi with
    | 0, hi => cases hi; rw [sz_v_ref _ (by decide)]; rfl
    | 1, hi => cases hi; rw [sz_v_iv]; simp [sz_sum, rho]; rfl
    | 2, hi => cases hi; rw [sz_v_iv]; simp [sz_sum, rho]; rfl
    | 3, hi => cases hi; rw [sz_v_iv]; simp [sz_sum, rho]; rfl
    | i + 4, hi => simp [bhB] at hi
  have hH : az_HR [] h (rho [k, o, g] ((h.length : Int) + 4)) bhB.2.2.1.2.2.2.2.1 bhB.2.2.1.2.2.2.2.2.1 bhB.2.2.1.2.2.2.2.2.2 0 h := ⟨hT.1, ⟨(fun e => by cases e), fun _ _ => by unfold rho; rw [if_pos rfl]; omega⟩, (fun q hq => by cases hq), hT.2, fun _ _ _ _ => rfl, Nat.le_refl _, Nat.le_refl _⟩
  obtain ⟨n, o', s', hr, p, hp, ρ', v1, ag, ho', HR', c1, c2⟩ := hB _ h [.ref 145, iv k, iv o, iv g] (0, 0) 3 hV hL hH (by show h.length + 1000 * (3 + 2) < 2147483648; omega) (Nat.le_refl 3)
  have hp : p = (some (some (0, 0, [(3, 1)])), [(0, (0, 0, []), (0, 0, [])), (0, (0, 0, []), (0, 0, [])), (0, (0, 0, []), (0, 0, [])), (0, (0, 0, []), (0, 0, []))], [(0, 9), (0, 9), (1, 200), ((-1000000), 40)], [], []) := List.mem_singleton.mp hp
  subst hp
  have hv := v1.2.1 3
  have hv : -1000000 ≤ ρ' 3 ∧ ρ' 3 ≤ 40 := hv
  have ho' : o' = some (some (sz_v ρ' (0, 0, [(3, 1)]))) := ho'
  have e : sz_v ρ' (0, 0, [(3, 1)]) = iv (ρ' 3) := by
    rw [sz_v_iv]
    simp [sz_sum]
  rw [e] at ho'
  subst ho'
  obtain ⟨a1, _⟩ := mr_ok hT.1 rfl rfl (0, 0) (Nat.le_refl 3) (by decide) (bh_args k o g) hr
  subst a1
  exact ⟨ρ' 3, hv.1, hv.2, n, hr⟩
set_option maxRecDepth 20000 in
theorem bh_to {X : List (List Value)} {h h' : List mzC} (hT : az_HT h) (e1 : h'[141]? = h[141]?) (e2 : h'[142]? = h[142]?) {k o g v : Int} (hb : bh X h k o g v) : bh X h' k o g v := by
  obtain ⟨n, hr⟩ := hb
  exact ⟨n, (mr_ok hT e1 e2 (0, 0) (Nat.le_refl 3) (by decide) (bh_args k o g) hr).2⟩
set_option maxRecDepth 20000 in
theorem bh_fun {X : List (List Value)} {h : List mzC} {k o g v w : Int} (h1 : bh X h k o g v) (h2 : bh X h k o g w) : iv v = iv w := by
  obtain ⟨n, r1⟩ := h1
  obtain ⟨m, r2⟩ := h2
  have a := mz_fuel (Nat.le_max_left n m) r1
  have b := mz_fuel (Nat.le_max_right n m) r2
  rw [a] at b
  have b := (Prod.mk.inj (Option.some.inj b)).1
  exact Option.some.inj (Option.some.inj b)
set_option maxRecDepth 20000 in
/-- four arguments, by their locals -/
theorem args4 {args : List Value} (hl : args.length = 4) {a b c d : Value} (ha : a.category = 1) (hb : b.category = 1) (hc : c.category = 1) (h : az_ml (lv_args 0 args) [a, b, c, d]) : args = [a, b, c, d] := by
  match args, hl with
  | [w, x, y, z], _ =>
  have e0 : w = a := Option.some.inj (h 0 a rfl)
  subst e0
  have e1 := h 1 b rfl
  simp only [lv_args, ha] at e1
  have e1 : x = b := Option.some.inj e1
  subst e1
  have e2 := h 2 c rfl
  simp only [lv_args, ha, hb] at e2
  have e2 : y = c := Option.some.inj e2
  subst e2
  have e3 := h 3 d rfl
  simp only [lv_args, ha, hb, hc] at e3
  have e3 : z = d := Option.some.inj e3
  rw [e3]
set_option maxRecDepth 20000 in
/-- the call of 'behind' with a known value -/
theorem bh_kn {X : List (List Value)} {h : List mzC} (hT : az_HT h) {k o g v : Int} (hb : bh X h k o g v) {ρ1 : Nat → Int} {hh : List mzC} {args : List Value} {s2 : Nat × Nat} {d : Nat} (r0 : ρ1 0 = k) (r1 : ρ1 1 = o) (r2 : ρ1 2 = g) (r3 : ρ1 3 = v) (hl : args.length = 4) (e1 : hh[141]? = h[141]?) (e2 : hh[142]? = h[142]?) (hV : az_V bhC.2.2.1.1 bhC.2.2.1.2.1 bhC.2.2.1.2.2.1 ρ1) (hL : sz_LR ρ1 bhC.2.2.1.2.2.2.1 (lv_args 0 args)) (hH : az_HR [] hh ρ1 bhC.2.2.1.2.2.2.2.1 bhC.2.2.1.2.2.2.2.2.1 bhC.2.2.1.2.2.2.2.2.2 0 hh) (hd : 3 ≤ d) : mz_gg X (az_PostH bhC ρ1 hh s2) d 122 0 (lv_args 0 args) [] (hh, s2) := by
  have hm := az_LR_ml (pat := bhC.2.2.1.2.2.2.1) rfl hL
  have e : bhC.2.2.1.2.2.2.1.map (sz_v ρ1) = [.ref 145, iv k, iv o, iv g] := by
    show [sz_v ρ1 (1, 145, []), sz_v ρ1 (0, 0, [(0, 1)]), sz_v ρ1 (0, 0, [(1, 1)]), sz_v ρ1 (0, 0, [(2, 1)])] = _
    rw [sz_v_ref _ (by decide), sz_v_iv, sz_v_iv, sz_v_iv, ← r0, ← r1, ← r2]
    simp [sz_sum]
  rw [e] at hm
  have ha := args4 hl rfl rfl rfl hm
  subst ha
  obtain ⟨n, hr⟩ := hb
  have := (mr_ok hT e1 e2 s2 hd (by decide) (bh_args k o g) hr).2
  refine ⟨n, _, _, this, _, List.mem_singleton.mpr rfl, ρ1, hV, ⟨fun _ _ => rfl, fun _ => rfl⟩, ?_, hH, Nat.le_refl _, Nat.le_refl _⟩
  show some (some (iv v)) = some (some (sz_v ρ1 (0, 0, [(3, 1)])))
  rw [sz_v_iv, ← r3]
  simp [sz_sum]
