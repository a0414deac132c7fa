/-! operations on ints by what is known -/
noncomputable def az_try (R : szR) (Cs : azS) (v : szV) : Option szV := bif az_nw R Cs v then some v else none
def az_or {α : Type} (a b : Option α) : Option α := match a with
  | some x => some x
  | none => b
/-- y is q; x is p; neither is known -/
noncomputable def az_bc (D : szD) (R : szR) (Cs : azS) (a : Nat) (x : szV) (q : Int) : Option szV :=
  if a = 2 then (if q = 0 then some (0, 0, []) else az_or (az_try R Cs (0, q * x.2.1, sz_sc q x.2.2)) (sz_mk D 12 x (0, q, [])))
  else if (a = 9 ∨ a = 10) ∧ 0 < q ∧ az_nw R Cs x = true ∧ (az_lb R Cs x.2.1 x.2.2).tdiv q = (az_ub R Cs x.2.1 x.2.2).tdiv q then
    (if a = 9 then some (0, (az_lb R Cs x.2.1 x.2.2).tdiv q, []) else some (0, x.2.1 - (az_lb R Cs x.2.1 x.2.2).tdiv q * q, x.2.2))
  else if a = 3 ∧ q = 255 ∧ 0 ≤ az_lb R Cs x.2.1 x.2.2 ∧ az_ub R Cs x.2.1 x.2.2 ≤ 255 then some (0, x.2.1, x.2.2)
  else if a = 3 ∧ q = 255 ∧ -256 ≤ az_lb R Cs x.2.1 x.2.2 ∧ az_ub R Cs x.2.1 x.2.2 < 0 then some (0, x.2.1 + 256, x.2.2)
  else if 2 < a ∧ a ≤ 10 ∧ (a < 9 ∨ ¬ q = 0) then sz_mk D (10 + a) x (0, q, []) else none
noncomputable def az_cb (D : szD) (R : szR) (Cs : azS) (a : Nat) (p : Int) (y : szV) : Option szV :=
  if a = 2 then (if p = 0 then some (0, 0, []) else az_or (az_try R Cs (0, p * y.2.1, sz_sc p y.2.2)) (sz_mk D 12 (0, p, []) y))
  else if 2 < a ∧ a ≤ 10 ∧ (a < 9 ∨ (az_nw R Cs y = true ∧ 1 ≤ az_lb R Cs y.2.1 y.2.2)) then sz_mk D (10 + a) (0, p, []) y else none
noncomputable def az_bb (D : szD) (R : szR) (Cs : azS) (a : Nat) (x y : szV) : Option szV :=
  if 2 ≤ a ∧ a ≤ 10 ∧ (a < 9 ∨ (az_nw R Cs y = true ∧ 1 ≤ az_lb R Cs y.2.1 y.2.2)) then sz_mk D (10 + a) x y else none
noncomputable def az_bin (D : szD) (R : szR) (Cs : azS) (a : Nat) (x y : szV) : Option szV :=
  if a = 0 then az_or (az_try R Cs (0, x.2.1 + y.2.1, sz_add x.2.2 y.2.2)) (sz_mk D 10 x y)
  else if a = 1 then az_or (az_try R Cs (0, x.2.1 - y.2.1, sz_add x.2.2 (sz_sc (-1) y.2.2))) (sz_mk D 11 x y)
  else match az_k R Cs x, az_k R Cs y with
    | some p, some q => (match mz_bin a (Int32.ofInt p) (Int32.ofInt q) with
      | some z => some (0, z.toInt, [])
      | none => none)
    | none, some q => az_bc D R Cs a x q
    | some p, none => az_cb D R Cs a p y
    | none, none => az_bb D R Cs a x y
noncomputable def az_nrw (D : szD) (R : szR) (Cs : azS) (o : Nat) (l h : Int) (x : szV) : Option szV :=
  if l ≤ az_lb R Cs x.2.1 x.2.2 ∧ az_ub R Cs x.2.1 x.2.2 ≤ h then some (0, x.2.1, x.2.2)
  else match az_k R Cs x with
  | some c => some (0, (sz_op o (Int32.ofInt c) 0).toInt, [])
  | none => sz_mk D o x (0, 0, [])
noncomputable def az_un (D : szD) (R : szR) (Cs : azS) (a : Nat) (x : szV) : Option szV := match a with
  | 0 => az_or (az_try R Cs (0, -x.2.1, sz_sc (-1) x.2.2)) (sz_mk D 11 (0, 0, []) x)
  | 1 => az_nrw D R Cs 2 (-128) 127 x
  | 2 => az_nrw D R Cs 3 (-32768) 32767 x
  | _ => none
theorem az_try_ok {R : szR} {Cs : azS} {v z : szV} (h : az_try R Cs v = some z) : z = v := by
  unfold az_try at h
  cases hn : az_nw R Cs v with
  | true => rw [hn] at h; cases h; rfl
  | false => rw [hn] at h; cases h
theorem az_or_ok {α : Type} {a b : Option α} {x : α} (h : az_or a b = some x) : a = some x ∨ b = some x := by
  unfold az_or at h
  split at h
  · exact Or.inl h
  · exact Or.inr h
theorem az_tdiv {x : Int32} {q : Int} (h1 : 0 < q) (h2 : q ≤ 2147483647) : (x / Int32.ofInt q).toInt = x.toInt.tdiv q ∧ Int32.ofInt q ≠ 0 := by
  have hc : (Int32.ofInt q).toInt = q := by rw [sz_toInt]; exact sz_w_id (by omega) h2
  have hne : Int32.ofInt q ≠ 0 := fun h => by
    rw [h] at hc
    have : (0 : Int32).toInt = 0 := rfl
    omega
  have hm : Int32.ofInt q ≠ -1 := fun h => by
    rw [h] at hc
    have : (-1 : Int32).toInt = -1 := rfl
    omega
  exact ⟨by rw [Int32.toInt_div_of_ne_right _ _ hm, hc], hne⟩
section
variable {D : szD} {R : szR} {Cs : azS} {ρ : Nat → Int}
theorem az_mk_bin (hD : sz_D D ρ) {a : Nat} {x y z : szV} (ha : a ≤ 10) (h9 : 9 ≤ a → sz_i ρ y ≠ 0) (h : sz_mk D (10 + a) x y = some z) : z.1 = 0 ∧ mz_bin a (sz_i ρ x) (sz_i ρ y) = some (sz_i ρ z) := by
  obtain ⟨h4, h5⟩ := sz_mk_ok hD (by omega) h
  refine ⟨h4, ?_⟩
  rw [h5]
  unfold sz_op
  match a, ha, h9 with
  | 0, _, _ => rfl
  | 1, _, _ => rfl
  | 2, _, _ => rfl
  | 3, _, _ => rfl
  | 4, _, _ => rfl
  | 5, _, _ => rfl
  | 6, _, _ => rfl
  | 7, _, _ => rfl
  | 8, _, _ => rfl
  | 9, _, h9 => simp [mz_bin, h9 (by decide)]
  | 10, _, h9 => simp [mz_bin, h9 (by decide)]
theorem az_ne0 (hR : sz_R R ρ) (hC : az_S Cs ρ) {y : szV} (h1 : az_nw R Cs y = true) (h2 : 1 ≤ az_lb R Cs y.2.1 y.2.2) : sz_i ρ y ≠ 0 := fun h => by
  have h3 := az_nw_ok hR hC h1
  have h4 := az_lb_ok hR hC y.2.1 y.2.2
  rw [h] at h3
  have : (0 : Int32).toInt = 0 := rfl
  omega
theorem az_and255 (x : Int32) : (x &&& Int32.ofInt 255).toInt = ((x.toBitVec.toNat % 256 : Nat) : Int) := by
  have h1 : (x &&& Int32.ofInt 255).toBitVec.toNat = x.toBitVec.toNat % 256 := by
    rw [Int32.toBitVec_and, BitVec.toNat_and]
    show x.toBitVec.toNat &&& 255 = _
    exact Nat.and_two_pow_sub_one_eq_mod _ 8
  show (x &&& Int32.ofInt 255).toBitVec.toInt = _
  rw [BitVec.toInt_eq_toNat_of_lt (by rw [h1]; omega), h1]
theorem az_nat (x : Int32) : x.toInt = (if 2 * x.toBitVec.toNat < 4294967296 then (x.toBitVec.toNat : Int) else (x.toBitVec.toNat : Int) - 4294967296) := by
  show x.toBitVec.toInt = _
  rw [BitVec.toInt_eq_toNat_cond]
  rfl
theorem az_and_mask {x : Int32} (h1 : 0 ≤ x.toInt) (h2 : x.toInt ≤ 255) : x &&& Int32.ofInt 255 = x := by
  rw [← Int32.toInt_inj, az_and255]
  have := az_nat x
  have hl := x.toBitVec.isLt
  split at this <;> omega
theorem az_and_255 {x : Int32} (h1 : -256 ≤ x.toInt) (h2 : x.toInt < 0) : (x &&& Int32.ofInt 255).toInt = x.toInt + 256 := by
  rw [az_and255]
  have := az_nat x
  have hl := x.toBitVec.isLt
  split at this <;> omega
theorem az_bc_ok (hD : sz_D D ρ) (hR : sz_R R ρ) (hC : az_S Cs ρ) {a : Nat} {x y z : szV} {q : Int} (hq : az_k R Cs y = some q) (h : az_bc D R Cs a x q = some z) : z.1 = 0 ∧ mz_bin a (sz_i ρ x) (sz_i ρ y) = some (sz_i ρ z) := by
  obtain ⟨k1, k2, k3, k4, k5⟩ := az_k_ok hR hC hq
  have hq' : sz_i ρ (0, q, []) = sz_i ρ y := by rw [sz_i_const, k4]
  unfold az_bc at h
  split at h
  · rename_i ha
    subst ha
    rw [k4]
    split at h
    · rename_i hq0
      cases h
      rw [hq0, sz_i_const]
      refine ⟨rfl, ?_⟩
      show some (sz_i ρ x * Int32.ofInt 0) = some (Int32.ofInt 0)
      rw [show Int32.ofInt 0 = 0 from rfl, Int32.mul_zero]
    · rcases az_or_ok h with h | h
      · cases az_try_ok h
        refine ⟨rfl, ?_⟩
        simp only [mz_bin, sz_i, sz_sum_sc, ← Int32.ofInt_mul]
        congr 2
        rw [← Int.mul_add, Int.mul_comm]
      · have := az_mk_bin hD (a := 2) (by decide) (by omega) h
        rw [hq', k4] at this
        exact this
  split at h
  · rename_i hh
    obtain ⟨ha, hq0, hx, hd⟩ := hh
    obtain ⟨d1, d2⟩ := az_tdiv (x := sz_i ρ x) hq0 k3
    have hX := az_nw_ok hR hC hx
    have l1 := az_lb_ok hR hC x.2.1 x.2.2
    have l2 := az_ub_ok hR hC x.2.1 x.2.2
    have t1 := Int.tdiv_le_tdiv hq0 l1
    have t2 := Int.tdiv_le_tdiv hq0 l2
    rw [← hX] at t1 t2
    have hdiv : (sz_i ρ x / Int32.ofInt q).toInt = (az_lb R Cs x.2.1 x.2.2).tdiv q := by
      rw [d1]
      omega
    rw [k4]
    split at h
    · rename_i h9
      subst h9
      cases h
      refine ⟨rfl, ?_⟩
      rw [sz_i_const]
      show (if Int32.ofInt q = 0 then none else some (sz_i ρ x / Int32.ofInt q)) = _
      rw [if_neg d2]
      congr 1
      rw [← Int32.toInt_inj, hdiv, sz_toInt, ← hdiv]
      exact (sz_w_id (sz_bd _).1 (sz_bd _).2).symm
    · rename_i h9
      have ha : a = 10 := by omega
      subst ha
      cases h
      refine ⟨rfl, ?_⟩
      show (if Int32.ofInt q = 0 then none else some (sz_i ρ x - sz_i ρ x / Int32.ofInt q * Int32.ofInt q)) = _
      rw [if_neg d2]
      congr 1
      have e : sz_i ρ x / Int32.ofInt q = Int32.ofInt ((az_lb R Cs x.2.1 x.2.2).tdiv q) := by rw [← hdiv, Int32.ofInt_toInt]
      rw [e]
      unfold sz_i
      rw [← Int32.ofInt_mul, ← Int32.ofInt_sub]
      congr 1
      dsimp only
      omega
  split at h
  · rename_i hh
    obtain ⟨ha, h0, h1, h2⟩ := hh
    subst ha
    subst h0
    cases h
    refine ⟨rfl, ?_⟩
    have l1 := az_lb_ok hR hC x.2.1 x.2.2
    have l2 := az_ub_ok hR hC x.2.1 x.2.2
    have hX : (sz_i ρ x).toInt = x.2.1 + sz_sum ρ x.2.2 := by
      unfold sz_i
      rw [sz_toInt]
      exact sz_w_id (by omega) (by omega)
    rw [k4]
    show some (sz_i ρ x &&& Int32.ofInt 255) = _
    rw [az_and_mask (by omega) (by omega)]
    rfl
  split at h
  · rename_i hh
    obtain ⟨ha, h0, h1, h2⟩ := hh
    subst ha
    subst h0
    cases h
    refine ⟨rfl, ?_⟩
    have l1 := az_lb_ok hR hC x.2.1 x.2.2
    have l2 := az_ub_ok hR hC x.2.1 x.2.2
    have hX : (sz_i ρ x).toInt = x.2.1 + sz_sum ρ x.2.2 := by
      unfold sz_i
      rw [sz_toInt]
      exact sz_w_id (by omega) (by omega)
    rw [k4]
    show some (sz_i ρ x &&& Int32.ofInt 255) = _
    congr 1
    rw [← Int32.toInt_inj, az_and_255 (by omega) (by omega), hX]
    unfold sz_i
    rw [sz_toInt]
    dsimp only
    rw [sz_w_id (by omega) (by omega)]
    omega
  split at h
  · rename_i hh
    have := az_mk_bin hD hh.2.1 (fun h9 h0 => ?_) h
    · rw [hq'] at this
      exact this
    · rw [hq'] at h0
      rw [h0] at k5
      have : (0 : Int32).toInt = 0 := rfl
      omega
  · cases h
theorem az_cb_ok (hD : sz_D D ρ) (hR : sz_R R ρ) (hC : az_S Cs ρ) {a : Nat} {x y z : szV} {p : Int} (hp : az_k R Cs x = some p) (h : az_cb D R Cs a p y = some z) : z.1 = 0 ∧ mz_bin a (sz_i ρ x) (sz_i ρ y) = some (sz_i ρ z) := by
  obtain ⟨k1, k2, k3, k4, k5⟩ := az_k_ok hR hC hp
  have hp' : sz_i ρ (0, p, []) = sz_i ρ x := by rw [sz_i_const, k4]
  unfold az_cb at h
  split at h
  · rename_i ha
    subst ha
    rw [k4]
    split at h
    · rename_i hq0
      cases h
      rw [hq0, sz_i_const]
      refine ⟨rfl, ?_⟩
      show some (Int32.ofInt 0 * sz_i ρ y) = some (Int32.ofInt 0)
      rw [show Int32.ofInt 0 = 0 from rfl, Int32.zero_mul]
    · rcases az_or_ok h with h | h
      · cases az_try_ok h
        refine ⟨rfl, ?_⟩
        simp only [mz_bin, sz_i, sz_sum_sc, ← Int32.ofInt_mul]
        congr 2
        rw [← Int.mul_add]
      · have := az_mk_bin hD (a := 2) (by decide) (by omega) h
        rw [hp', k4] at this
        exact this
  split at h
  · rename_i hh
    have := az_mk_bin hD hh.2.1 (fun h9 => ?_) h
    · rw [hp'] at this
      exact this
    · rcases hh.2.2 with h8 | ⟨h1, h2⟩
      · omega
      · exact az_ne0 hR hC h1 h2
  · cases h
theorem az_bin_ok (hD : sz_D D ρ) (hR : sz_R R ρ) (hC : az_S Cs ρ) {a : Nat} {x y z : szV} (h : az_bin D R Cs a x y = some z) : z.1 = 0 ∧ mz_bin a (sz_i ρ x) (sz_i ρ y) = some (sz_i ρ z) := by
  unfold az_bin at h
  split at h
  · rename_i ha
    subst ha
    rcases az_or_ok h with h | h
    · cases az_try_ok h
      refine ⟨rfl, ?_⟩
      simp only [mz_bin, sz_i, sz_sum_add, ← Int32.ofInt_add]
      congr 2; omega
    · exact az_mk_bin hD (a := 0) (by decide) (by omega) h
  split at h
  · rename_i ha
    subst ha
    rcases az_or_ok h with h | h
    · cases az_try_ok h
      refine ⟨rfl, ?_⟩
      simp only [mz_bin, sz_i, sz_sum_add, sz_sum_sc, ← Int32.ofInt_sub]
      congr 2; omega
    · exact az_mk_bin hD (a := 1) (by decide) (by omega) h
  split at h
  · rename_i p q hp hq
    rw [(az_k_ok hR hC hp).2.2.2.1, (az_k_ok hR hC hq).2.2.2.1]
    split at h
    · rename_i w hw
      cases h
      refine ⟨rfl, ?_⟩
      rw [hw, sz_i_const, Int32.ofInt_toInt]
    · cases h
  · rename_i q hp hq
    exact az_bc_ok hD hR hC hq h
  · rename_i p hp hq
    exact az_cb_ok hD hR hC hp h
  · unfold az_bb at h
    split at h
    · rename_i hh
      refine az_mk_bin hD hh.2.1 (fun h9 => ?_) h
      rcases hh.2.2 with h8 | ⟨h1, h2⟩
      · omega
      · exact az_ne0 hR hC h1 h2
    · cases h
theorem az_nrw_ok (hD : sz_D D ρ) (hR : sz_R R ρ) (hC : az_S Cs ρ) {o : Nat} {l h : Int} (ho : (o = 2 ∧ l = -128 ∧ h = 127) ∨ (o = 3 ∧ l = -32768 ∧ h = 32767)) {x z : szV} (hb : az_nrw D R Cs o l h x = some z) : z.1 = 0 ∧ sz_i ρ z = sz_op o (sz_i ρ x) 0 := by
  unfold az_nrw at hb
  split at hb
  · rename_i hh
    cases hb
    refine ⟨rfl, ?_⟩
    have l1 := az_lb_ok hR hC x.2.1 x.2.2
    have l2 := az_ub_ok hR hC x.2.1 x.2.2
    have hX : (sz_i ρ x).toInt = x.2.1 + sz_sum ρ x.2.2 := by
      unfold sz_i
      rw [sz_toInt]
      exact sz_w_id (by omega) (by omega)
    have e : sz_i ρ (0, x.2.1, x.2.2) = sz_i ρ x := rfl
    rw [e]
    rcases ho with ⟨h1, h2, h3⟩ | ⟨h1, h2, h3⟩
    · subst h1
      show sz_i ρ x = (sz_i ρ x).toInt8.toInt32
      rw [← Int32.toInt_inj, Int8.toInt_toInt32, Int32.toInt_toInt8]
      rw [Int.bmod_eq_of_le (by omega) (by omega)]
    · subst h1
      show sz_i ρ x = (sz_i ρ x).toInt16.toInt32
      rw [← Int32.toInt_inj, Int16.toInt_toInt32, Int32.toInt_toInt16]
      rw [Int.bmod_eq_of_le (by omega) (by omega)]
  split at hb
  · rename_i c hc
    cases hb
    refine ⟨rfl, ?_⟩
    rw [(az_k_ok hR hC hc).2.2.2.1, sz_i_const, Int32.ofInt_toInt]
  · obtain ⟨h1, h2⟩ := sz_mk_ok hD (by omega) hb
    refine ⟨h1, ?_⟩
    rw [h2, sz_i_const]
    rfl
theorem az_un_ok (hD : sz_D D ρ) (hR : sz_R R ρ) (hC : az_S Cs ρ) {a : Nat} {x z : szV} (hb : az_un D R Cs a x = some z) : z.1 = 0 ∧ mz_un a (sz_i ρ x) = some (sz_i ρ z) := by
  unfold az_un at hb
  split at hb
  · rcases az_or_ok hb with h | h
    · cases az_try_ok h
      refine ⟨rfl, ?_⟩
      show some (-(sz_i ρ x)) = some (sz_i ρ _)
      congr 1
      unfold sz_i
      rw [← Int32.ofInt_neg, sz_sum_sc]
      congr 1
      dsimp only
      omega
    · obtain ⟨h1, h2⟩ := az_mk_bin hD (a := 1) (by decide) (by omega) h
      refine ⟨h1, ?_⟩
      rw [← h2, sz_i_const]
      show some (-(sz_i ρ x)) = some (Int32.ofInt 0 - sz_i ρ x)
      rw [show Int32.ofInt 0 = 0 from rfl, Int32.zero_sub]
  · obtain ⟨h1, h2⟩ := az_nrw_ok hD hR hC (Or.inl ⟨rfl, rfl, rfl⟩) hb
    exact ⟨h1, congrArg some h2.symm⟩
  · obtain ⟨h1, h2⟩ := az_nrw_ok hD hR hC (Or.inr ⟨rfl, rfl, rfl⟩) hb
    exact ⟨h1, congrArg some h2.symm⟩
  · cases hb
end
/-! comparisons -/
def az_c2 (a : Nat) (l h : Int) : Option Bool := match a with
  | 0 => if l = 0 ∧ h = 0 then some true else if 0 < l ∨ h < 0 then some false else none
  | 1 => if l = 0 ∧ h = 0 then some false else if 0 < l ∨ h < 0 then some true else none
  | 2 => if h < 0 then some true else if 0 ≤ l then some false else none
  | 3 => if 0 ≤ l then some true else if h < 0 then some false else none
  | 4 => if 0 < l then some true else if h ≤ 0 then some false else none
  | 5 => if h ≤ 0 then some true else if 0 < l then some false else none
  | _ => none
noncomputable def az_cond (R : szR) (Cs : azS) (a : Nat) (x y : szV) : Option Bool :=
  bif az_nw R Cs x && az_nw R Cs y then az_c2 a (az_lb R Cs (x.2.1 - y.2.1) (sz_add x.2.2 (sz_sc (-1) y.2.2))) (az_ub R Cs (x.2.1 - y.2.1) (sz_add x.2.2 (sz_sc (-1) y.2.2))) else none
theorem az_c2_ok {a : Nat} {l h : Int} {x y : Int32} (h1 : l ≤ x.toInt - y.toInt) (h2 : x.toInt - y.toInt ≤ h) {b : Bool} (hb : az_c2 a l h = some b) : mz_cond a x y = some b := by
  have e : ∀ {u v : Int32}, u.toInt = v.toInt ↔ u = v := fun {u v} => Int32.toInt_inj
  unfold az_c2 at hb
  split at hb
  · split at hb
    · cases hb; show some (decide (x = y)) = _; rw [decide_eq_true (e.mp (by omega))]
    · split at hb
      · cases hb; show some (decide (x = y)) = _; rw [decide_eq_false (fun hh => by rw [hh] at h1 h2; omega)]
      · cases hb
  · split at hb
    · cases hb; show some (decide (¬ x = y)) = _; rw [decide_eq_false (show ¬ ¬ x = y from fun hh => hh (e.mp (by omega)))]
    · split at hb
      · cases hb; show some (decide (¬ x = y)) = _; rw [decide_eq_true (show ¬ x = y from fun hh => by rw [hh] at h1 h2; omega)]
      · cases hb
  · split at hb
    · cases hb; show some (decide (x < y)) = _; rw [decide_eq_true (Int32.lt_iff_toInt_lt.mpr (by omega))]
    · split at hb
      · cases hb; show some (decide (x < y)) = _; rw [decide_eq_false (fun hh => by have := Int32.lt_iff_toInt_lt.mp hh; omega)]
      · cases hb
  · split at hb
    · cases hb; show some (decide (y ≤ x)) = _; rw [decide_eq_true (Int32.le_iff_toInt_le.mpr (by omega))]
    · split at hb
      · cases hb; show some (decide (y ≤ x)) = _; rw [decide_eq_false (fun hh => by have := Int32.le_iff_toInt_le.mp hh; omega)]
      · cases hb
  · split at hb
    · cases hb; show some (decide (y < x)) = _; rw [decide_eq_true (Int32.lt_iff_toInt_lt.mpr (by omega))]
    · split at hb
      · cases hb; show some (decide (y < x)) = _; rw [decide_eq_false (fun hh => by have := Int32.lt_iff_toInt_lt.mp hh; omega)]
      · cases hb
  · split at hb
    · cases hb; show some (decide (x ≤ y)) = _; rw [decide_eq_true (Int32.le_iff_toInt_le.mpr (by omega))]
    · split at hb
      · cases hb; show some (decide (x ≤ y)) = _; rw [decide_eq_false (fun hh => by have := Int32.le_iff_toInt_le.mp hh; omega)]
      · cases hb
  · cases hb
theorem az_cond_ok {R : szR} {Cs : azS} {ρ : Nat → Int} (hR : sz_R R ρ) (hC : az_S Cs ρ) {a : Nat} {x y : szV} {b : Bool} (h : az_cond R Cs a x y = some b) : mz_cond a (sz_i ρ x) (sz_i ρ y) = some b := by
  unfold az_cond at h
  cases hn : az_nw R Cs x && az_nw R Cs y with
  | false => rw [hn] at h; cases h
  | true =>
    rw [hn] at h
    rw [Bool.and_eq_true] at hn
    have h1 := az_nw_ok hR hC hn.1
    have h2 := az_nw_ok hR hC hn.2
    have h3 := az_lb_ok hR hC (x.2.1 - y.2.1) (sz_add x.2.2 (sz_sc (-1) y.2.2))
    have h4 := az_ub_ok hR hC (x.2.1 - y.2.1) (sz_add x.2.2 (sz_sc (-1) y.2.2))
    rw [sz_sum_add, sz_sum_sc] at h3 h4
    exact az_c2_ok (by omega) (by omega) h
