/-! instructions on the heap of S -/
def sz_2 (T : List (Int × szT)) (ρ : Nat → Int) (q : mzH) (r : List szV × szH) : Prop := ∃ h', q = some (r.1.map (sz_v ρ), (h', r.2.2.2.2.2)) ∧ sz_HR T ρ r.2 h'
theorem sz_tag_ok {d b : Nat} (h : Nat.beq (Nat.mod d 4096) (Nat.succ (Nat.mul 2 b)) = true) : d ≠ 0 ∧ sz_dt d = 2 * b := by
  have h := Nat.eq_of_beq_eq_true h
  refine ⟨fun h0 => ?_, ?_⟩
  · rw [h0] at h
    cases h
  · unfold sz_dt
    rw [h]
    rfl
theorem sz_fit_ok {R : szR} {ρ : Nat → Int} (hR : sz_R R ρ) {k : Int} {v : szV} (h : sz_fit R k v = true) : mz_fit k (sz_v ρ v) = true := by
  unfold sz_fit at h
  split at h
  · rename_i h0
    rw [sz_vi h0]
    simp only [Bool.or_eq_true, Bool.and_eq_true, decide_eq_true_eq] at h
    unfold mz_fit
    simp only [Bool.or_eq_true, Bool.and_eq_true, beq_iff_eq]
    rcases h with h | ⟨h1, h2, h3⟩
    · exact Or.inl h
    · refine Or.inr ⟨h1, ?_⟩
      have := sz_rg_ok hR v
      have : (sz_i ρ v).toInt = 0 ∨ (sz_i ρ v).toInt = 1 := by omega
      rcases this with h | h
      · exact Or.inl (Int32.toInt_inj.mp h)
      · exact Or.inr (Int32.toInt_inj.mp h)
  · rename_i h0
    rw [sz_vr h0]
    simpa [mz_fit] using h
  · cases h
theorem sz_in_ok {R : szR} {ρ : Nat → Int} (hR : sz_R R ρ) {i : szV} {n k : Nat} (h : sz_in R i n = some k) : i.1 = 0 ∧ k < n ∧ ¬ sz_i ρ i < 0 ∧ (sz_i ρ i).toNatClampNeg = k := by
  unfold sz_in at h
  split at h
  · rename_i c h0 hk
    cases hb : Nat.blt c n with
    | false => rw [hb] at h; cases h
    | true =>
      rw [hb] at h
      have h : some c = some k := h
      cases h
      have h2 := (sz_k_ok hR hk).2
      refine ⟨h0, Nat.le_of_ble_eq_true hb, fun hlt => ?_, ?_⟩
      · have := Int32.lt_iff_toInt_lt.mp hlt
        rw [h2] at this
        have h3 : (0 : Int32).toInt = 0 := rfl
        have h4 : (Int.ofNat k) = (k : Int) := rfl
        omega
      · show (sz_i ρ i).toInt.toNat = k
        rw [h2]
        rfl
  · cases h
theorem sz_mzin {ρ : Nat → Int} {i : szV} {k : Nat} {fs : List Value} (h : ¬ sz_i ρ i < 0 ∧ (sz_i ρ i).toNatClampNeg = k) : mz_in (sz_i ρ i) fs = fs[k]? := by
  unfold mz_in
  rw [if_neg h.1, h.2]
section
variable {D : szD} {T : List (Int × szT)} {R : szR} {ρ : Nat → Int} {X : List (List szV)} {s : szH} {h : List mzC} {st : List szV} {a b : Nat} {c : Int} {r : List szV × szH}
theorem sz_h20_ok (H : sz_HR T ρ s h) (e : sz_h20 T a b st s = some r) : sz_2 T ρ (mz_h20 a b (st.map (sz_v ρ)) (h, s.2.2.2.2)) r := by
  unfold sz_h20 at e
  split at e
  · rename_i q rest
    cases hc : (Nat.beq (Nat.mod (sz_ce s q) 4096) (Nat.succ (Nat.mul 2 b)) && Nat.blt a (sz_dl (sz_ce s q))) with
    | false => rw [hc] at e; cases e
    | true =>
      rw [hc] at e
      rw [sz_fv_eq] at e
      have e : some (sz_rd T s.1 (Nat.mul 2 b) (sz_db (sz_ce s q)) a :: rest, s) = some r := e
      cases e
      rw [Bool.and_eq_true] at hc
      obtain ⟨h0, h1⟩ := sz_tag_ok hc.1
      have h2 : a < sz_dl (sz_ce s q) := Nat.le_of_ble_eq_true hc.2
      obtain ⟨fs, g1, _, _, _, _, g5⟩ := sz_get_ok H h0 s.2.2.2.2
      refine ⟨h, ?_, H⟩
      show mz_h20 a b (sz_v ρ q :: rest.map (sz_v ρ)) (h, s.2.2.2.2) = _
      rw [sz_vr (sz_ce_at h0).1]
      unfold mz_h20
      dsimp only
      rw [g1]
      dsimp only
      rw [if_pos h1, g5 a h2, h1]
      rfl
  · cases e
theorem sz_put_ok (H : sz_HR T ρ s h) {q : szV} (h0 : sz_ce s q ≠ 0) {k : Nat} (hk : k < sz_dl (sz_ce s q)) {v : szV} {rest : List szV} (e : sz_put s (Nat.add (sz_db (sz_ce s q)) k) (sz_en T v) rest = some r) : ∃ fs, h[q.2.1.toNat - 4]? = some (sz_dt (sz_ce s q), fs) ∧ r.1 = rest ∧ r.2.2 = s.2 ∧ sz_HR T ρ r.2 (h.set (q.2.1.toNat - 4) (sz_dt (sz_ce s q), fs.set k (sz_v ρ v))) := by
  obtain ⟨fs, _, g2, _⟩ := sz_get_ok H h0 s.2.2.2.2
  refine ⟨fs, g2, ?_⟩
  cases he : sz_en T v with
  | none => rw [he] at e; cases e
  | some cc =>
    rw [he] at e
    have e : some (rest, (sz_tick (sz_ss 40 s.1 (Nat.add (sz_db (sz_ce s q)) k) cc), s.2)) = some r := e
    cases e
    obtain ⟨c1, c2, c3⟩ := sz_en_ok ρ he
    refine ⟨rfl, rfl, ?_⟩
    have := sz_HR_put H h0 hk c1 c2 g2
    rw [c3] at this
    exact this
theorem sz_h21_ok (hR : sz_R R ρ) (H : sz_HR T ρ s h) (e : sz_h21 T R a b c st s = some r) : sz_2 T ρ (mz_h21 a b c (st.map (sz_v ρ)) (h, s.2.2.2.2)) r := by
  unfold sz_h21 at e
  split at e
  · rename_i v q rest
    cases hc : (Nat.beq (Nat.mod (sz_ce s q) 4096) (Nat.succ (Nat.mul 2 b)) && (Nat.blt a (sz_dl (sz_ce s q)) && sz_fit R c v)) with
    | false => rw [hc] at e; cases e
    | true =>
      rw [hc] at e
      have e : sz_put s (Nat.add (sz_db (sz_ce s q)) a) (sz_en T v) rest = some r := e
      rw [Bool.and_eq_true, Bool.and_eq_true] at hc
      obtain ⟨h0, h1⟩ := sz_tag_ok hc.1
      have h2 : a < sz_dl (sz_ce s q) := Nat.le_of_ble_eq_true hc.2.1
      obtain ⟨fs, g1, g2, g3, _⟩ := sz_get_ok H h0 s.2.2.2.2
      obtain ⟨fs', k1, k2, k3, k4⟩ := sz_put_ok H h0 h2 e
      rw [g2] at k1
      cases k1
      refine ⟨_, ?_, k4⟩
      rw [k2]
      show mz_h21 a b c (sz_v ρ v :: sz_v ρ q :: rest.map (sz_v ρ)) (h, s.2.2.2.2) = _
      rw [sz_vr (sz_ce_at h0).1]
      unfold mz_h21
      dsimp only
      rw [g1]
      dsimp only
      rw [if_pos ⟨h1, by omega, sz_fit_ok hR hc.2.2⟩, k3]
      rfl
  · cases e
theorem sz_h22_ok (hR : sz_R R ρ) (H : sz_HR T ρ s h) (e : sz_h22 T X R a st s = some r) : sz_2 T ρ (mz_h22 (X.map (fun l => l.map (sz_v ρ))) a (st.map (sz_v ρ)) (h, s.2.2.2.2)) r := by
  unfold sz_h22 at e
  split at e
  · rename_i i q rest
    cases hc : (Nat.beq q.1 1 && Nat.blt q.2.1.toNat 4) with
    | true =>
      rw [hc] at e
      rw [Bool.and_eq_true] at hc
      have hq : q.1 = 1 := Nat.eq_of_beq_eq_true hc.1
      have hlt : q.2.1.toNat < 4 := Nat.le_of_ble_eq_true hc.2
      dsimp only [cond] at e
      rw [sz_nth_eq] at e
      split at e
      · rename_i fs hfs
        split at e
        · rename_i k hk
          rw [sz_nth_eq] at e
          split at e
          · rename_i v hv
            split at e
            · rename_i ha
              cases e
              obtain ⟨i0, i1, i2⟩ := sz_in_ok hR hk
              refine ⟨h, ?_, H⟩
              show mz_h22 _ a (sz_v ρ i :: sz_v ρ q :: rest.map (sz_v ρ)) (h, s.2.2.2.2) = _
              rw [sz_vi i0, sz_vr hq]
              unfold mz_h22
              dsimp only
              rw [if_pos hlt, List.getElem?_map, hfs]
              dsimp only [Option.map]
              rw [if_pos ha, sz_mzin i2, List.getElem?_map, hv]
              rfl
            · cases e
          · cases e
        · cases e
      · cases e
    | false =>
      rw [hc] at e
      dsimp only [cond] at e
      cases h0 : Nat.beq (sz_ce s q) 0 with
      | true => rw [h0] at e; cases e
      | false =>
        rw [h0] at e
        have h0 : sz_ce s q ≠ 0 := fun h1 => by rw [h1] at h0; cases h0
        dsimp only at e
        cases hk : mz_akind a (sz_dt (sz_ce s q)) with
        | false => rw [hk] at e; cases e
        | true =>
          rw [hk] at e
          dsimp only at e
          split at e
          · rename_i k hin
            rw [sz_fv_eq] at e
            cases e
            obtain ⟨i0, i1, i2⟩ := sz_in_ok hR hin
            obtain ⟨fs, g1, _, _, _, _, g5⟩ := sz_get_ok H h0 s.2.2.2.2
            refine ⟨h, ?_, H⟩
            show mz_h22 _ a (sz_v ρ i :: sz_v ρ q :: rest.map (sz_v ρ)) (h, s.2.2.2.2) = _
            rw [sz_vi i0, sz_vr (sz_ce_at h0).1]
            unfold mz_h22
            dsimp only
            rw [if_neg (show ¬ q.2.1.toNat < 4 from Nat.not_lt.mpr (sz_ce_at h0).2.1), g1]
            dsimp only
            rw [if_pos hk, sz_mzin i2, g5 k i1]
            rfl
          · cases e
  · cases e
theorem sz_nar_ok (hD : sz_D D ρ) (hR : sz_R R ρ) (H : sz_HR T ρ s h) {t : Nat} {v w : szV} (e : sz_nar D R s t v = some w) : mz_nar (h, s.2.2.2.2) t (sz_v ρ v) = some (sz_v ρ w) := by
  unfold sz_nar at e
  split at e
  · rename_i h0
    rw [sz_vi h0]
    unfold mz_nar
    dsimp only
    split at e
    · rename_i ht
      cases e
      rw [if_pos ht, sz_vi h0]
    · rename_i ht
      rw [if_neg ht]
      split at e
      · rename_i ht
        obtain ⟨w0, w1⟩ := sz_nrw_ok hD hR (Or.inl rfl) e
        rw [if_pos ht, sz_vi w0, w1]
        rfl
      · rename_i ht
        rw [if_neg ht]
        split at e
        · rename_i hc
          cases e
          have := sz_rg_ok hR v
          have h2 : (sz_i ρ v).toInt = 0 ∨ (sz_i ρ v).toInt = 1 := by omega
          rw [if_pos hc.1, sz_vi h0]
          have h2 : sz_i ρ v = 0 ∨ sz_i ρ v = 1 := by
            rcases h2 with h2 | h2
            · exact Or.inl (Int32.toInt_inj.mp h2)
            · exact Or.inr (Int32.toInt_inj.mp h2)
          rcases h2 with h2 | h2 <;> rw [h2] <;> rfl
        · cases e
  · rename_i h0
    split at e
    · rename_i ht
      cases e
      rw [sz_vl h0]
      unfold mz_nar
      dsimp only
      rw [if_pos ht]
    · cases e
  · rename_i h0
    split at e
    · rename_i ht
      cases e
      obtain ⟨fs, g1, _⟩ := sz_get_ok H ht.2.1 s.2.2.2.2
      rw [sz_vr h0]
      unfold mz_nar
      dsimp only
      rw [if_pos ht.1, g1]
      dsimp only
      rw [if_pos ht.2.2]
    · cases e
  · cases e
theorem sz_h23_ok (hD : sz_D D ρ) (hR : sz_R R ρ) (H : sz_HR T ρ s h) (e : sz_h23 D T R a st s = some r) : sz_2 T ρ (mz_h23 a (st.map (sz_v ρ)) (h, s.2.2.2.2)) r := by
  unfold sz_h23 at e
  split at e
  · rename_i v i q rest
    cases h0 : Nat.beq (sz_ce s q) 0 with
    | true => rw [h0] at e; cases e
    | false =>
      rw [h0] at e
      have h0 : sz_ce s q ≠ 0 := fun h1 => by rw [h1] at h0; cases h0
      dsimp only [cond] at e
      cases hk : mz_akind a (sz_dt (sz_ce s q)) with
      | false => rw [hk] at e; cases e
      | true =>
        rw [hk] at e
        dsimp only at e
        split at e
        · rename_i k w hin hw
          obtain ⟨i0, i1, i2⟩ := sz_in_ok hR hin
          obtain ⟨fs, g1, g2, g3, _⟩ := sz_get_ok H h0 s.2.2.2.2
          obtain ⟨fs', k1, k2, k3, k4⟩ := sz_put_ok H h0 i1 e
          rw [g2] at k1
          cases k1
          refine ⟨_, ?_, k4⟩
          rw [k2]
          show mz_h23 a (sz_v ρ v :: sz_v ρ i :: sz_v ρ q :: rest.map (sz_v ρ)) (h, s.2.2.2.2) = _
          rw [sz_vi i0, sz_vr (sz_ce_at h0).1]
          unfold mz_h23
          dsimp only
          rw [g1]
          dsimp only
          have hlt : fs[k]? = some fs[k] := List.getElem?_eq_getElem (by omega)
          rw [if_pos hk, sz_mzin i2, sz_nar_ok hD hR H hw, hlt, i2.2, k3]
          rfl
        · cases e
  · cases e
theorem sz_h24_ok (H : sz_HR T ρ s h) (e : sz_h24 X st s = some r) : sz_2 T ρ (mz_h24 (X.map (fun l => l.map (sz_v ρ))) (st.map (sz_v ρ)) (h, s.2.2.2.2)) r := by
  have hn : ∀ n : Nat, Int32.ofInt (n : Int) = Int32.ofNat n := fun n => by simp [Int32.ofInt_eq_ofNat]
  unfold sz_h24 at e
  split at e
  · rename_i q rest
    split at e
    · rename_i hc
      rw [sz_nth_eq] at e
      split at e
      · rename_i fs hfs
        cases e
        refine ⟨h, ?_, H⟩
        show mz_h24 _ (sz_v ρ q :: rest.map (sz_v ρ)) (h, s.2.2.2.2) = some (Value.int (sz_i ρ (0, (fs.length : Int), [])) :: rest.map (sz_v ρ), _)
        rw [sz_vr hc.1, sz_i_const, hn]
        unfold mz_h24
        dsimp only
        rw [if_pos hc.2, List.getElem?_map, hfs]
        dsimp only [Option.map]
        rw [List.length_map]
      · cases e
    · split at e
      · rename_i hc
        cases e
        obtain ⟨fs, g1, _, g3, _⟩ := sz_get_ok H hc.1 s.2.2.2.2
        refine ⟨h, ?_, H⟩
        show mz_h24 _ (sz_v ρ q :: rest.map (sz_v ρ)) (h, s.2.2.2.2) = some (Value.int (sz_i ρ (0, (sz_dl (sz_ce s q) : Int), [])) :: rest.map (sz_v ρ), _)
        rw [sz_vr (sz_ce_at hc.1).1, sz_i_const, hn]
        unfold mz_h24
        dsimp only
        rw [if_neg (show ¬ q.2.1.toNat < 4 from Nat.not_lt.mpr (sz_ce_at hc.1).2.1), g1]
        dsimp only
        rw [if_pos hc.2, g3]
      · cases e
  · cases e
theorem sz_df_def {ρ : Nat → Int} {a : Nat} (ha : a < 12) : ∀ k, k < (mz_def a).length → (mz_def a)[k]? = some (sz_v ρ (sz_df (2 * a) k)) := by
  have hz : ∀ g : Nat, sz_i ρ (g, 0, []) = 0 := fun g => by rw [sz_i_const]; rfl
  intro k hk
  have he : sz_df (2 * a) k = match (mz_def a)[k]? with
    | some (.int _) => (0, 0, [])
    | _ => (4, 0, []) := by
    unfold sz_df
    rw [if_pos (by omega), show 2 * a / 2 = a by omega]
    rfl
  have hall : ∀ v ∈ mz_def a, v = .null ∨ v = .int 0 := by
    match a, ha with
    | 0, _ => simp [mz_def]
    | 1, _ => simp [mz_def]
    | 2, _ => simp [mz_def]
    | 3, _ => simp [mz_def]
    | 4, _ => simp [mz_def]
    | 5, _ => simp [mz_def]
    | 6, _ => simp [mz_def]
    | 7, _ => simp [mz_def]
    | 8, _ => simp [mz_def]
    | 9, _ => simp [mz_def]
    | 10, _ => simp [mz_def]
    | 11, _ => simp [mz_def]
  rw [he]
  have hg : (mz_def a)[k]? = some (mz_def a)[k] := List.getElem?_eq_getElem hk
  rw [hg]
  rcases hall _ (List.getElem_mem hk) with h | h
  · rw [h]; rfl
  · rw [h]
    show some (Value.int 0) = some (Value.int (sz_i ρ (0, 0, [])))
    rw [hz]
theorem sz_mkc_ok (H : sz_HR T ρ s h) {t n : Nat} {rest : List szV} {fs : List Value} (hl : fs.length = n) (hf : ∀ k, k < n → fs[k]? = some (sz_v ρ (sz_df t k))) (e : sz_mkc t n b rest s = some r) : r.1.map (sz_v ρ) = Value.ref (4 + h.length) :: rest.map (sz_v ρ) ∧ r.2.2.2.2.2 = (s.2.2.2.2.1 + 1, s.2.2.2.2.2 + b) ∧ sz_HR T ρ r.2 (h ++ [(t, fs)]) := by
  obtain ⟨N, E, c, x, u, w⟩ := s
  unfold sz_mkc at e
  dsimp only at e
  split at e
  · rename_i hc
    simp only [sz_fo_eq] at e
    cases e
    refine ⟨?_, rfl, sz_HR_new H hc.2.2 hc.1 hc.2.1 hl hf _ _⟩
    have : h.length = c := H.1
    rw [this]
    rfl
  · cases e
theorem sz_new_ok (hR : sz_R R ρ) (H : sz_HR T ρ s h) {t : Nat} {z : Value} (hz : ∀ k, sz_v ρ (sz_df t k) = z) (e : sz_new R t st s = some r) : ∃ n rest, st.map (sz_v ρ) = Value.int n :: rest ∧ ¬ (n < 0 ∨ 60000 < n.toNatClampNeg) ∧ r.1.map (sz_v ρ) = Value.ref (4 + h.length) :: rest ∧ r.2.2.2.2.2 = (s.2.2.2.2.1 + 1, s.2.2.2.2.2 + n.toNatClampNeg) ∧ sz_HR T ρ r.2 (h ++ [(t, List.replicate n.toNatClampNeg z)]) := by
  unfold sz_new at e
  split at e
  · rename_i n rest
    split at e
    · rename_i k hk
      obtain ⟨i0, i1, i2⟩ := sz_in_ok hR hk
      refine ⟨sz_i ρ n, rest.map (sz_v ρ), ?_, ?_, ?_⟩
      · show sz_v ρ n :: _ = _
        rw [sz_vi i0]
      · rw [i2.2]
        rintro (h1 | h1)
        · exact i2.1 h1
        · omega
      · rw [i2.2]
        refine sz_mkc_ok H (List.length_replicate ..) ?_ e
        intro j hj
        rw [List.getElem?_replicate, if_pos hj, hz]
    · cases e
  · cases e
theorem sz_h29_ok (H : sz_HR T ρ s h) (e : sz_h29 st s = some r) : sz_2 T ρ (mz_h29 (st.map (sz_v ρ)) (h, s.2.2.2.2)) r := by
  unfold sz_h29 at e
  split at e
  · rename_i q rest
    split at e
    · rename_i hc
      cases e
      refine ⟨h, ?_, H⟩
      show mz_h29 (sz_v ρ q :: rest.map (sz_v ρ)) (h, s.2.2.2.2) = _
      rw [sz_vr hc.1]
      unfold mz_h29
      dsimp only
      rw [if_pos (by have := sz_totv ρ rest; unfold mz_sum at this; rw [this]; exact hc.2)]
    · cases e
  · cases e
theorem sz_HR_cp (H : sz_HR T ρ s h) {p q : szV} (hp : sz_ce s p ≠ 0) (hq : sz_ce s q ≠ 0) (tp : sz_dt (sz_ce s p) = 1) (tq : sz_dt (sz_ce s q) = 1) {sp dp n : Nat} (h1 : sp + n ≤ sz_dl (sz_ce s p)) (h2 : dp + n ≤ sz_dl (sz_ce s q)) {f g : List Value} (hf : h[p.2.1.toNat - 4]? = some (1, f)) (hg : h[q.2.1.toNat - 4]? = some (1, g)) :
    sz_HR T ρ (sz_tick (sz_cp s.1 (sz_db (sz_ce s p) + sp) (sz_db (sz_ce s q) + dp) n), s.2) (h.set (q.2.1.toNat - 4) (1, mz_cpy f g sp dp n)) := by
  obtain ⟨e1, e2, e3⟩ := sz_ce_at hp
  obtain ⟨f1, f2, f3⟩ := sz_ce_at hq
  rw [e3] at hp tp h1 ⊢
  rw [f3] at hq tq h2 ⊢
  obtain ⟨H1, H2, H3, H4, H5⟩ := H
  generalize p.2.1.toNat - 4 = p0 at *
  generalize q.2.1.toNat - 4 = q0 at *
  obtain ⟨fs, a1, a2, a3, a4, a5⟩ := H4 p0 hp
  obtain ⟨gs, b1, b2, b3, b4, b5⟩ := H4 q0 hq
  rw [tp, hf] at a1
  rw [tq, hg] at b1
  cases a1
  cases b1
  rw [tp] at a5
  rw [tq] at b5
  have hN : ∀ k, k ≠ 0 → sz_sl 40 (sz_tick (sz_cp s.1 (sz_db (sz_sl 64 s.2.1 p0) + sp) (sz_db (sz_sl 64 s.2.1 q0) + dp) n)) k = if sz_db (sz_sl 64 s.2.1 q0) + dp ≤ k ∧ k < sz_db (sz_sl 64 s.2.1 q0) + dp + n then sz_sl 40 s.1 (sz_db (sz_sl 64 s.2.1 p0) + sp + (k - (sz_db (sz_sl 64 s.2.1 q0) + dp))) else sz_sl 40 s.1 k := by
    intro k hk
    rw [sz_sl_tick hk, sz_cp_sl]
  refine ⟨by rw [List.length_set]; exact H1, H2, ?_, ?_, H5⟩
  · intro k hk
    dsimp only at hk ⊢
    rw [hN k (by omega), if_neg (by omega)]
    exact H3 k hk
  · intro r1 hr1
    dsimp only at hr1 ⊢
    by_cases hr : r1 = q0
    · subst hr
      have hlt : r1 < h.length := (List.getElem?_eq_some_iff.mp hg).1
      refine ⟨mz_cpy f g sp dp n, by rw [List.getElem?_set_self hlt, tq], by unfold mz_cpy; rw [List.length_map, List.length_range]; exact b2, b3, b4, ?_⟩
      intro k hk
      rw [tq]
      unfold mz_cpy
      rw [List.getElem?_map, List.getElem?_range (by omega)]
      show some (if dp ≤ k ∧ k < dp + n then _ else _) = some (sz_v ρ (sz_rd2 T 1 k (sz_sl 40 _ (sz_db (sz_sl 64 s.2.1 r1) + k))))
      rw [hN _ (by omega)]
      by_cases hc : dp ≤ k ∧ k < dp + n
      · rw [if_pos hc, if_pos (by omega), List.getD_eq_getElem?_getD, a5 _ (by omega)]
        have e : sz_db (sz_sl 64 s.2.1 p0) + sp + (sz_db (sz_sl 64 s.2.1 r1) + k - (sz_db (sz_sl 64 s.2.1 r1) + dp)) = sz_db (sz_sl 64 s.2.1 p0) + (sp + (k - dp)) := by omega
        rw [e]
        show some (sz_v ρ (sz_rd2 T 1 (sp + (k - dp)) _)) = _
        rfl
      · rw [if_neg hc, if_neg (by omega), List.getD_eq_getElem?_getD, b5 _ (by omega)]
        rfl
    · obtain ⟨fs2, q1, q2, q3, q4, q5⟩ := H4 r1 hr1
      have hd := H5 r1 q0 hr1 hq hr
      refine ⟨fs2, by rw [List.getElem?_set_ne (by omega)]; exact q1, q2, q3, q4, ?_⟩
      intro k hk
      have hq := hN (sz_db (sz_sl 64 s.2.1 r1) + k) (by omega)
      rw [if_neg (by omega)] at hq
      rw [sz_rd_eq hq]
      exact q5 k hk
theorem sz_h30_ok (hR : sz_R R ρ) (H : sz_HR T ρ s h) (e : sz_h30 R st s = some r) : sz_2 T ρ (mz_h30 (st.map (sz_v ρ)) (h, s.2.2.2.2)) r := by
  unfold sz_h30 at e
  split at e
  · rename_i n dp rd sp rs rest
    split at e
    · rename_i hc
      obtain ⟨c1, c2, c3, c4⟩ := hc
      split at e
      · rename_i kn kd ks hn hd hs
        split at e
        · rename_i hc
          rw [sz_fo_eq] at e
          cases e
          obtain ⟨n0, n1, n2⟩ := sz_in_ok hR hn
          obtain ⟨d0, d1, d2⟩ := sz_in_ok hR hd
          obtain ⟨s0, s1, s2⟩ := sz_in_ok hR hs
          obtain ⟨f, g1, g2, g3, _⟩ := sz_get_ok H c1 s.2.2.2.2
          obtain ⟨g, k1, k2, k3, _⟩ := sz_get_ok H c2 s.2.2.2.2
          rw [c3] at g1 g2
          rw [c4] at k1 k2
          refine ⟨_, ?_, sz_HR_cp H c1 c2 c3 c4 hc.1 hc.2.1 g2 k2⟩
          show mz_h30 (sz_v ρ n :: sz_v ρ dp :: sz_v ρ rd :: sz_v ρ sp :: sz_v ρ rs :: rest.map (sz_v ρ)) (h, s.2.2.2.2) = _
          rw [sz_vi n0, sz_vi d0, sz_vi s0, sz_vr (sz_ce_at c1).1, sz_vr (sz_ce_at c2).1]
          unfold mz_h30
          dsimp only
          rw [g1, k1]
          dsimp only
          rw [n2.2, d2.2, s2.2, if_pos ⟨rfl, rfl, n2.1, d2.1, s2.1, by omega, by omega, by have := sz_totv ρ rest; unfold mz_sum at this; rw [this]; exact hc.2.2⟩]
          rfl
        · cases e
      · cases e
    · cases e
  · cases e
end
