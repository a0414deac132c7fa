/-! runs that end at a known state -/
noncomputable def sz_exh (P : List szM) (D : szD) (T : List (Int × szT)) (X : List (List szV)) (hk : szR → szQ → Bool) (n : Nat) : szR → szQ → Bool := Nat.rec (fun _ _ => false) (fun _ ih R C => match C with
  | ((j, m, code, i, lo, st), ws, s, d) => bif hk R ((j, m, code, i, lo, st), ws, s, d) then true else sz_fo (sz_sl 80 code i) (fun q => sz_fo (Nat.mod q 256) (fun op => sz_ex1 P D T X ih R j m code i lo st ws s d q op))) n
theorem sz_exh_ok {P : List szM} (hP : sz_pkall P mzP = true) {D : szD} {T : List (Int × szT)} {ρ : Nat → Int} {X : List (List szV)} {hk : szR → szQ → Bool} (hD : sz_D D ρ) (hB : ∀ k, -2147483648 ≤ ρ k ∧ ρ k ≤ 2147483647) (hh : ∀ R C, hk R C = true → sz_R R ρ → sz_GG T ρ X C) : ∀ (n : Nat) (R : szR) (C : szQ), sz_exh P D T X hk n R C = true → sz_R R ρ → sz_GG T ρ X C
  | 0, _, _, h, _ => by cases h
  | n + 1, R, ((j, m, code, i, lo, st), ws, s, d), h, hR => by
    have h : (bif hk R ((j, m, code, i, lo, st), ws, s, d) then true else sz_ex1 P D T X (sz_exh P D T X hk n) R j m code i lo st ws s d (sz_sl 80 code i) (Nat.mod (sz_sl 80 code i) 256)) = true := h
    cases hc : hk R ((j, m, code, i, lo, st), ws, s, d) with
    | true => exact hh _ _ hc hR
    | false =>
    rw [hc] at h
    have h : sz_ex1 P D T X (sz_exh P D T X hk n) R j m code i lo st ws s d (sz_sl 80 code i) (Nat.mod (sz_sl 80 code i) 256) = true := h
    unfold sz_ex1 at h
    split at h
    · rename_i he
      exact sz_step_ok hP hD hR he (fun C hC => by cases hC)
    · rename_i C he
      exact sz_step_ok hP hD hR he (fun C' hC => by cases hC; exact sz_exh_ok hP hD hB hh n R C h hR)
    · split at h
      · rename_i k ps _
        rw [Bool.and_eq_true] at h
        obtain ⟨p, hp, hv⟩ := sz_cov_ok h.1 (hR k).1 (hR k).2
        have h2 := List.all_eq_true.mp h.2 p hp
        rw [sz_fi_eq, sz_fi_eq, sz_upk_eq] at h2
        exact sz_exh_ok hP hD hB hh n _ _ h2 (sz_R_up hB hR hv)
      · cases h
/-- slots that are told to hold an atom: slot, kind (3 int, 5 long); the n-th holds the atom 6 + n -/
abbrev szA : Type := List (Nat × Nat)
noncomputable def sz_abs : szA → Nat → Nat → Nat
  | [], _, N => N
  | q :: A, n, N => sz_fo (sz_ss 40 N q.1 (Nat.add (Nat.mul 8 n) q.2)) (fun N => sz_abs A (n + 1) N)
theorem sz_abs_sl : ∀ {A : szA} {n N k : Nat}, (∀ q ∈ A, q.2 < 8) → n + A.length ≤ 1000 → (∀ q ∈ A, q.1 ≠ k) → sz_sl 40 (sz_abs A n N) k = sz_sl 40 N k
  | [], _, _, _, _, _, _ => rfl
  | q :: A, n, N, k, h1, h2, h3 => by
    have e : sz_abs (q :: A) n N = sz_abs A (n + 1) (sz_ss 40 N q.1 (8 * n + q.2)) := rfl
    have hl : (q :: A).length = A.length + 1 := rfl
    have hq := h1 q List.mem_cons_self
    rw [e, sz_abs_sl (fun p hp => h1 p (List.mem_cons_of_mem _ hp)) (by omega) (fun p hp => h3 p (List.mem_cons_of_mem _ hp)), sz_sl_ss (show 8 * n + q.2 < 2 ^ 40 by omega), if_neg (fun hk => h3 q List.mem_cons_self hk.symm)]
noncomputable def sz_lok (T : List (Int × szT)) (N : Nat) : szA → Bool
  | [] => true
  | q :: A => !(Nat.beq (sz_sl 40 N q.1) 0) && (Nat.beq (sz_nd T (sz_sl 40 N q.1)).1 (bif Nat.beq q.2 3 then 0 else 2) && sz_lok T N A)
theorem sz_lok_ok {T : List (Int × szT)} {N : Nat} : ∀ {A : szA}, sz_lok T N A = true → ∀ q ∈ A, sz_sl 40 N q.1 ≠ 0 ∧ (sz_nd T (sz_sl 40 N q.1)).1 = (bif Nat.beq q.2 3 then 0 else 2)
  | [], _, _, hq => by cases hq
  | p :: A, h, q, hq => by
    unfold sz_lok at h
    rw [Bool.and_eq_true, Bool.and_eq_true] at h
    obtain ⟨h1, h2, h3⟩ := h
    rcases List.mem_cons.mp hq with hq | hq
    · subst hq
      refine ⟨fun h0 => ?_, Nat.eq_of_beq_eq_true h2⟩
      rw [h0] at h1
      cases h1
    · exact sz_lok_ok h3 q hq
/-- the n-th holds it -/
def sz_lst (N x : Nat) : szA → Nat → Bool
  | [], _ => true
  | q :: A, n => Nat.beq (sz_sl 40 N q.1) (8 * n + q.2) && ((Nat.beq q.2 3 || Nat.beq q.2 5) && (Nat.blt 0 q.1 && (Nat.blt q.1 x && sz_lst N x A (n + 1))))
theorem sz_lst_ok {N x : Nat} : ∀ {A : szA} {n : Nat}, sz_lst N x A n = true → ∀ t q, A[t]? = some q → sz_sl 40 N q.1 = 8 * (n + t) + q.2 ∧ (q.2 = 3 ∨ q.2 = 5) ∧ 0 < q.1 ∧ q.1 < x
  | [], _, _, _, _, hq => by simp at hq
  | p :: A, n, h, t, q, hq => by
    unfold sz_lst at h
    simp only [Bool.and_eq_true, Bool.or_eq_true] at h
    obtain ⟨h1, h2, h3, h4, h5⟩ := h
    match t, hq with
    | 0, hq =>
      cases hq
      exact ⟨Nat.eq_of_beq_eq_true h1, h2.imp Nat.eq_of_beq_eq_true Nat.eq_of_beq_eq_true, Nat.le_of_ble_eq_true h3, Nat.le_of_ble_eq_true h4⟩
    | t + 1, hq =>
      have := sz_lst_ok h5 t q (by simpa using hq)
      rw [show n + (t + 1) = n + 1 + t by omega]
      exact this
/-- no other slot holds a form -/
noncomputable def sz_scan (A : List Nat) (n : Nat) : Nat → Nat → Bool := Nat.rec (fun _ _ => true) (fun _ ih N k => bif (Nat.beq (Nat.mod N 8) 3 || Nat.beq (Nat.mod N 8) 5) && !(A.any (fun q => Nat.beq q k)) then false else sz_fo (Nat.shiftRight N 40) (fun N => sz_fo (Nat.add k 1) (fun k => ih N k))) n
theorem sz_scan_ok {A : List Nat} : ∀ {n N k : Nat}, sz_scan A n N k = true → ∀ t, t < n → (sz_sl 40 N t % 8 = 3 ∨ sz_sl 40 N t % 8 = 5) → k + t ∈ A
  | 0, _, _, _, _, ht, _ => by omega
  | n + 1, N, k, h, t, ht, hc => by
    have h : (bif (Nat.beq (Nat.mod N 8) 3 || Nat.beq (Nat.mod N 8) 5) && !(A.any (fun q => Nat.beq q k)) then false else sz_scan A n (Nat.shiftRight N 40) (k + 1)) = true := h
    cases hb : ((Nat.beq (Nat.mod N 8) 3 || Nat.beq (Nat.mod N 8) 5) && !(A.any (fun q => Nat.beq q k))) with
    | true => rw [hb] at h; cases h
    | false =>
    rw [hb] at h
    have h : sz_scan A n (Nat.shiftRight N 40) (k + 1) = true := h
    match t, ht, hc with
    | 0, _, hc =>
      have e : sz_sl 40 N 0 % 8 = Nat.mod N 8 := by
        show (N >>> 0 % 2 ^ 40) % 8 = N % 8
        rw [Nat.shiftRight_zero]
        omega
      rw [e] at hc
      have h8 : (Nat.beq (Nat.mod N 8) 3 || Nat.beq (Nat.mod N 8) 5) = true := by
        rcases hc with hc | hc
        · rw [hc]; rfl
        · rw [hc]; rfl
      rw [h8, Bool.true_and] at hb
      have hb : A.any (fun q => Nat.beq q k) = true := by
        cases hA : A.any (fun q => Nat.beq q k) with
        | true => rfl
        | false => rw [hA] at hb; cases hb
      obtain ⟨q, hq, hqk⟩ := List.any_eq_true.mp hb
      have := Nat.eq_of_beq_eq_true hqk
      subst this
      exact hq
    | t + 1, ht, hc =>
      have e : sz_sl 40 N (t + 1) = sz_sl 40 (Nat.shiftRight N 40) t := by
        show (N >>> (40 * (t + 1))) % 2 ^ 40 = ((N >>> 40) >>> (40 * t)) % 2 ^ 40
        rw [← Nat.shiftRight_add]
        congr 2
        omega
      rw [e] at hc
      have := sz_scan_ok h t (by omega) hc
      rw [show k + (t + 1) = k + 1 + t by omega]
      exact this
def sz_low (v : szV) : Bool := v.2.2.all (fun e => decide (e.1 < 5))
def sz_lowF (f : szF) : Bool := f.2.2.2.2.1.all sz_low && f.2.2.2.2.2.all sz_low
/-- what is asked of a known state by itself -/
noncomputable def sz_stat (A : szA) (H : szQ) : Bool := (sz_lowF H.1 && H.2.1.all sz_lowF) && (sz_lst H.2.2.1.1 H.2.2.1.2.2.2.1 A 0 && sz_scan (A.map (fun q => q.1)) H.2.2.1.2.2.2.1 H.2.2.1.1 0)
def sz_eF (f g : szF) : Bool := Nat.beq f.1 g.1 && (decide (f.2.1 = g.2.1) && (Nat.beq f.2.2.1 g.2.2.1 && (Nat.beq f.2.2.2.1 g.2.2.2.1 && (decide (f.2.2.2.2.1 = g.2.2.2.2.1) && decide (f.2.2.2.2.2 = g.2.2.2.2.2)))))
theorem sz_eF_ok {f g : szF} (h : sz_eF f g = true) : f = g := by
  obtain ⟨a1, a2, a3, a4, a5, a6⟩ := f
  obtain ⟨b1, b2, b3, b4, b5, b6⟩ := g
  unfold sz_eF at h
  simp only [Bool.and_eq_true, decide_eq_true_eq] at h
  obtain ⟨h1, h2, h3, h4, h5, h6⟩ := h
  rw [Nat.eq_of_beq_eq_true h1, h2, Nat.eq_of_beq_eq_true h3, Nat.eq_of_beq_eq_true h4, h5, h6]
def sz_eFs : List szF → List szF → Bool
  | [], [] => true
  | f :: fs, g :: gs => sz_eF f g && sz_eFs fs gs
  | _, _ => false
theorem sz_eFs_ok : ∀ {fs gs : List szF}, sz_eFs fs gs = true → fs = gs
  | [], [], _ => rfl
  | f :: fs, g :: gs, h => by
    unfold sz_eFs at h
    rw [Bool.and_eq_true] at h
    rw [sz_eF_ok h.1, sz_eFs_ok h.2]
  | [], _ :: _, h => by cases h
  | _ :: _, [], h => by cases h
/-- a state is the known one, but for what is told -/
noncomputable def sz_hk (T : List (Int × szT)) (A : szA) (a b : Int) (H : szQ) (R : szR) (C : szQ) : Bool :=
  Nat.beq C.1.1 H.1.1 && (Nat.beq C.1.2.2.2.1 H.1.2.2.2.1 && (sz_eF C.1 H.1 && (sz_eFs C.2.1 H.2.1 && (decide (C.2.2.1.2 = H.2.2.1.2) && (Nat.beq C.2.2.2 H.2.2.2 && (decide (a ≤ (sz_at R 2).1) && (decide ((sz_at R 2).2 ≤ b) && (sz_lok T C.2.2.1.1 A && Nat.beq (sz_abs A 0 (sz_ss 40 C.2.2.1.1 0 0)) H.2.2.1.1))))))))
section
variable {ρ ρ' : Nat → Int}
theorem sz_v_low (hlow : ∀ k, k < 5 → ρ' k = ρ k) {v : szV} (h : sz_low v = true) : sz_v ρ' v = sz_v ρ v := by
  have : sz_i ρ' v = sz_i ρ v := by unfold sz_i; rw [sz_sum_congr hlow _ h]
  unfold sz_v
  rw [this]
theorem sz_v_cst {v : szV} (h : v.2.2 = []) : sz_v ρ' v = sz_v ρ v := by
  have : sz_i ρ' v = sz_i ρ v := by unfold sz_i; rw [h]; rfl
  unfold sz_v
  rw [this]
theorem sz_FR_low (hlow : ∀ k, k < 5 → ρ' k = ρ k) {f : szF} {w : mzW} (h : sz_lowF f = true) (hF : sz_FR ρ f w) : sz_FR ρ' f w := by
  unfold sz_lowF at h
  rw [Bool.and_eq_true] at h
  obtain ⟨F1, F2, F3, F4, F5, F6, F7⟩ := hF
  refine ⟨F1, F2, F3, F4, F5, ?_, ?_⟩
  · intro k v hv h9
    rw [F6 k v hv h9, sz_v_low hlow (List.all_eq_true.mp h.1 v (List.mem_of_getElem? hv))]
  · rw [F7]
    exact List.map_congr_left (fun v hv => (sz_v_low hlow (List.all_eq_true.mp h.2 v hv)).symm)
theorem sz_WR_low (hlow : ∀ k, k < 5 → ρ' k = ρ k) : ∀ {fs : List szF} {ws : List mzW}, fs.all sz_lowF = true → sz_WR ρ fs ws → sz_WR ρ' fs ws
  | [], [], _, _ => trivial
  | f :: fs, w :: ws, h, hW => by
    rw [List.all_cons, Bool.and_eq_true] at h
    exact ⟨sz_FR_low hlow h.1 hW.1, sz_WR_low hlow h.2 hW.2⟩
  | [], _ :: _, _, hW => by cases hW
  | _ :: _, [], _, hW => by cases hW
theorem sz_df_cst (t k : Nat) : (sz_df t k).2.2 = [] := by
  unfold sz_df
  split
  · split <;> rfl
  · split
    · rfl
    · split <;> rfl
theorem sz_nd_cst {T : List (Int × szT)} {c : Nat} (h3 : c % 8 ≠ 3) (h5 : c % 8 ≠ 5) : (sz_nd T c).2.2 = [] := by
  unfold sz_nd
  cases h_ : Nat.beq (Nat.mod c 8) 1 with
  | true => rfl
  | false =>
  cases h_ : Nat.beq (Nat.mod c 8) 2 with
  | true => rfl
  | false =>
  cases h_ : Nat.beq (Nat.mod c 8) 3 with
  | true => exact absurd (Nat.eq_of_beq_eq_true h_) h3
  | false =>
  cases h_ : Nat.beq (Nat.mod c 8) 4 with
  | true => rfl
  | false =>
  cases h_ : Nat.beq (Nat.mod c 8) 5 with
  | true => exact absurd (Nat.eq_of_beq_eq_true h_) h5
  | false => rfl
end
