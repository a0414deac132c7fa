/-! planOf -/
set_option maxRecDepth 20000 in
theorem g_ld {X : List (List Value)} {K : Option (Option Value) → mzS → Prop} {d j i : Nat} {lo : mzL} {st : List Value} {s : mzS} {M : mzM} {a b : Nat} {v : Value} (hM : mzP[j]? = some M) (hri : M.2.2.2[i]? = some (2, a, b, 0, [])) (hv : mz_ld lo a = some v) (ht : mz_ty v = b) (hb : b < 3) (hg : mz_gg X K d j (i + 1) lo (v :: st) s) : mz_gg X K d j i lo st s := by
  refine mz_gg_one hM hri (Or.inl (by show 2 < 20; decide)) (q := (i + 1, lo, v :: st)) ?_ hg
  show mz_o2 a b i lo st = _
  unfold mz_o2
  rw [hv]
  dsimp only
  rw [if_pos ⟨ht, hb⟩]
set_option maxRecDepth 20000 in
theorem recv_m {h : List mzC} (hT : az_HT h) (as : List Value) (s2 : Nat × Nat) : mz_recv 12 (.ref 145 :: as) (h, s2) = true := by
  obtain ⟨fs, f1, _⟩ := hT 141 _ azL_141
  show (match mz_get (h, s2) 145 with
    | some t => t.1 == 2 * 11
    | none => false) = true
  have : mz_get (h, s2) 145 = some (22, fs) := by
    unfold mz_get
    rw [if_neg (by decide)]
    exact f1
  rw [this]
  rfl
def cnt (S : Int) : Nat → Nat
  | 0 => 0
  | j + 1 => cnt S j + (if S / 2 ^ j % 2 = 1 then 1 else 0)
set_option maxRecDepth 20000 in
theorem cnt_all {S : Int} : ∀ {n : Nat}, (∀ j, j < n → bt S j) → cnt S n = n
  | 0, _ => rfl
  | n + 1, h => by
    show cnt S n + _ = n + 1
    rw [cnt_all (fun j hj => h j (by omega)), if_pos (show S / 2 ^ n % 2 = 1 from h n (by omega))]
set_option maxRecDepth 20000 in
theorem cnt_eq {S S' : Int} : ∀ {n : Nat}, (∀ j, j < n → (bt S' j ↔ bt S j)) → cnt S' n = cnt S n
  | 0, _ => rfl
  | n + 1, h => by
    show cnt S' n + _ = cnt S n + _
    rw [cnt_eq (fun j hj => h j (by omega))]
    have := h n (by omega)
    unfold bt at this
    by_cases hb : S / 2 ^ n % 2 = 1
    · rw [if_pos hb, if_pos (this.mpr hb)]
    · rw [if_neg hb, if_neg (fun q => hb (this.mp q))]
set_option maxRecDepth 20000 in
theorem cnt_add {S S' : Int} {k : Nat} (hk0 : ¬ bt S k) : ∀ {n : Nat}, k < n → (∀ j, j < n → (bt S' j ↔ (bt S j ∨ j = k))) → cnt S' n = cnt S n + 1
  | 0, hk, _ => by omega
  | n + 1, hk, h => by
    show cnt S' n + _ = cnt S n + _ + 1
    by_cases hn : k = n
    · subst hn
      rw [cnt_eq (fun j hj => by
        have := h j (by omega)
        constructor
        · intro q
          rcases this.mp q with q | q
          · exact q
          · omega
        · intro q; exact this.mpr (Or.inl q))]
      rw [if_neg (show ¬ S / 2 ^ k % 2 = 1 from hk0), if_pos (show S' / 2 ^ k % 2 = 1 from (h k (by omega)).mpr (Or.inr rfl))]
    · rw [cnt_add hk0 (by omega) (fun j hj => h j (by omega))]
      have := h n (by omega)
      unfold bt at this
      by_cases hb : S / 2 ^ n % 2 = 1
      · rw [if_pos hb, if_pos (this.mpr (Or.inl hb))]
      · rw [if_neg hb, if_neg (fun q => by
          rcases this.mp q with q | q
          · exact hb q
          · omega)]
set_option maxRecDepth 20000 in
theorem cnt_zero : ∀ {n : Nat}, cnt 0 n = 0
  | 0 => rfl
  | n + 1 => by
    show cnt 0 n + _ = 0
    rw [cnt_zero, if_neg (by rw [Int.zero_ediv]; decide)]
def plQ : szM := (5, 12, (0, 0, 0), szc_143)
set_option maxRecDepth 20000 in
theorem plQ_ok : szP[143]? = some plQ := rfl
def plM : mzM := (5, 12, (0, 0, 0), mzc_143)
set_option maxRecDepth 20000 in
theorem plM_ok : mzP[143]? = some plM := rfl
set_option maxRecDepth 20000 in
theorem poM_ok : mzP[142]? = some (7, 12, (0, 0, 0), mzc_142) := rfl
/-- the begin: atoms 0 gap, 1 how many acts -/
def plC0 : azCon := (143, 5, ([azf, azf], [(1, 200), (0, 10)], [], [(1, 145, []), (0, 0, [(0, 1)])], [(142, (0, []), (0, 0, [(1, 1)]))], [], false), [(some (some (0, 1, [])), [azf, azf], [(1, 200), (0, 10)], [], [])], [(141, 21)], (0, 0))
def plE0 : azHd := (15, ([azf, azf], [(1, 200), (1, 10)], [], [(1, 145, []), (0, 0, [(0, 1)]), (0, 0, []), (0, (-1), []), (0, 0, [])], [(141, (20, []), (0, 0, []))], [], false), (0, []), (0, 0))
theorem plR0 : az_ex szP az_inl plC0.2.1 [] plC0.2.2.2.2.1 (fun _ => az_pre 143 []) (az_hint []) (az_sleaf szP az_inl [] (fun _ => az_pre 143 []) (az_hint []) plC0 [plE0] (az_hb 2) (az_rb 2) none 0) 1000 plC0.2.2.1.1 plC0.2.2.1.2.1 plC0.2.2.1.2.2.1 (az_hc plC0 plQ (0, plC0.2.2.1, (0, []), (0, 0))) = true := by decide +kernel
/-- which is next: atoms 0 gap, 1 how many acts, 2 how many are put, 3 the next, 4 what is put, 5, 6 a bit -/
def plR1 (k : Nat) (b : Bool) : szR := [(1, 200), ((k : Int) + 1, 10), (0, 9), ((-1), 9), (0, 1023), (0, 1023), bif b then (1, 1) else (0, 0)]
def plC1 (k : Nat) (b : Bool) : azCon := (143, 5, ([azf, azf, azf, azf, azf, (17, (0, 0, [(4, 1)]), (0, (k : Int), [])), (13, (0, 0, [(5, 1)]), (0, 1, []))], plR1 k b, [], [(1, 145, []), (0, 0, [(0, 1)]), (0, 0, [(2, 1)]), (0, 0, [(3, 1)]), (0, (k : Int), [])], [(142, (0, []), (0, 0, [(1, 1)])), (141, (20, []), (0, 0, [(4, 1)]))], [], false), [], [], (0, 0))
def plD7 : szD := [azf, azf, azf, azf, azf, azf, azf]
def plE1 (k : Nat) (b : Bool) (Cs : azS) (v : szV) : azHd := (15, (plD7, plR1 k b, Cs, [(1, 145, []), (0, 0, [(0, 1)]), (0, 0, [(2, 1)]), v, (0, (k : Int) + 1, [])], [], [], false), (0, []), (0, 0))
def plE1s (k : Nat) (b : Bool) : List azHd := bif b then [plE1 k b [] (0, 0, [(3, 1)])] else [plE1 k b [(0, [(3, 1)])] (0, 0, [(3, 1)]), plE1 k b [] (0, (k : Int), [])]
theorem plR1s : (List.range 10).all (fun k => [true, false].all (fun b => az_ex szP az_inl (plC1 k b).2.1 [] (plC1 k b).2.2.2.2.1 (fun _ => az_pre 143 []) (az_hint []) (az_sleaf szP az_inl [] (fun _ => az_pre 143 []) (az_hint []) (plC1 k b) (plE1s k b) (az_hb 7) (az_rb 7) none 0) 1000 (plC1 k b).2.2.1.1 (plC1 k b).2.2.1.2.1 (plC1 k b).2.2.1.2.2.1 (az_hc (plC1 k b) plQ (15, (plC1 k b).2.2.1, (0, []), (0, 0))))) = true := by decide +kernel
/-- all are looked at -/
def plC2 : azCon := (143, 5, ([azf, azf, azf, azf], [(1, 200), (1, 10), (0, 9), ((-1), 9)], [], [(1, 145, []), (0, 0, [(0, 1)]), (0, 0, [(2, 1)]), (0, 0, [(3, 1)]), (0, 0, [(1, 1)])], [(142, (0, []), (0, 0, [(1, 1)]))], [], false), [], [], (0, 0))
def plE2 : azHd := (41, ([azf, azf, azf, azf], [(1, 200), (1, 10), (0, 9), ((-1), 9)], [], [(1, 145, []), (0, 0, [(0, 1)]), (0, 0, [(2, 1)]), (0, 0, [(3, 1)])], [], [], false), (0, []), (0, 0))
theorem plR2 : az_ex szP az_inl plC2.2.1 [] plC2.2.2.2.2.1 (fun _ => az_pre 143 []) (az_hint []) (az_sleaf szP az_inl [] (fun _ => az_pre 143 []) (az_hint []) plC2 [plE2] (az_hb 4) (az_rb 4) none 0) 1000 plC2.2.2.1.1 plC2.2.2.1.2.1 plC2.2.2.1.2.2.1 (az_hc plC2 plQ (15, plC2.2.2.1, (0, []), (0, 0))) = true := by decide +kernel
def plC3 : azCon := (143, 5, ([], [], [], [(1, 145, [])], [], [], false), [(some (some (0, 0, [])), [], [], [], [])], [], (0, 0))
theorem plR3 : az_ex szP az_inl plC3.2.1 [] plC3.2.2.2.2.1 (fun _ => az_pre 143 []) (az_hint []) (az_sleaf szP az_inl [] (fun _ => az_pre 143 []) (az_hint []) plC3 [] (az_hb 0) (az_rb 0) none 0) 1000 plC3.2.2.1.1 plC3.2.2.1.2.1 plC3.2.2.1.2.2.1 (az_hc plC3 plQ (46, plC3.2.2.1, (0, []), (0, 0))) = true := by decide +kernel
/-- one more is put: atoms 0 gap, 1 how many acts, 2 how many were put -/
def plC4 : azCon := (143, 5, ([azf, azf, azf], [(1, 200), (1, 10), (0, 9)], [], [(1, 145, []), (0, 0, [(0, 1)]), (0, 0, [(2, 1)])], [(142, (0, []), (0, 0, [(1, 1)]))], [], false), [(some (some (0, 1, [])), [azf, azf, azf], [(1, 200), (1, 10), (0, 9)], [], [])], [], (0, 0))
def plE4 : azHd := (15, ([azf, azf, azf], [(1, 200), (1, 10), (0, 9)], [((-2), [(1, 1), (2, (-1))])], [(1, 145, []), (0, 0, [(0, 1)]), (0, 1, [(2, 1)]), (0, (-1), []), (0, 0, [])], [], [], false), (0, []), (0, 0))
theorem plR4 : az_ex szP az_inl plC4.2.1 [] plC4.2.2.2.2.1 (fun _ => az_pre 143 []) (az_hint []) (az_sleaf szP az_inl [] (fun _ => az_pre 143 []) (az_hint []) plC4 [plE4] (az_hb 3) (az_rb 3) none 0) 1000 plC4.2.2.1.1 plC4.2.2.1.2.1 plC4.2.2.1.2.2.1 (az_hc plC4 plQ (48, plC4.2.2.1, (0, []), (0, 0))) = true := by decide +kernel
