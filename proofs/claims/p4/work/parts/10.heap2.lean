/-! instructions on the heap -/
section MZ4
variable {p : Program} {l : Launch} {e : Env} {R : Room} {s : State} {m : MethodId} {args : Array Value} {below : List Frame} {meth : Method} {c : Code} {H : Heap} {locs : List Loc} {cells slots : Nat} {Q : State → Prop}
variable {cc : ByteArray} {pcs : List Nat} {ls : Array Slot} {nL i w len : Nat} {y : MethodName} {ins : Instr} {st rst : List Value} {a b : Nat} {r : List Value × mzS}
variable {D : va_G} {A : Nat → Prop} {cA : Nat → ClassId} {xt : List Nat} {X : List (List Value)} {ws : va_W} {σ : mzS} {c0 n0 : Nat}
theorem mz_fits {k : Int} {d : String} {ads : List Nat} {v x : Value} {ty : FieldType} (hd : parseFieldDescriptor d = some ty) (hk : mz_kd k d = true) (hf : mz_fit k v = true) (hr : mz_rel ads v x) : narrow ty x = x ∧ fits ty x = true := by
  unfold mz_kd at hk
  rw [hd] at hk
  cases v with
  | int z =>
    have hr : x = .int z := hr
    subst hr
    simp only [mz_fit, Bool.or_eq_true, Bool.and_eq_true, beq_iff_eq] at hf
    cases ty <;> simp at hk
    all_goals first
      | exact ⟨rfl, rfl⟩
      | (exfalso; rcases hf with h | ⟨h, -⟩ <;> omega)
      | (rcases hf with h | ⟨_, rfl | rfl⟩ <;> first | omega | decide)
  | ref z =>
    obtain ⟨a, -, rfl⟩ := hr
    simp only [mz_fit, beq_iff_eq] at hf
    cases ty <;> simp at hk
    all_goals first
      | exact ⟨rfl, rfl⟩
      | (exfalso; omega)
  | long _ => simp [mz_fit] at hf
  | float _ => simp [mz_fit] at hf
  | double _ => simp [mz_fit] at hf
  | null => simp [mz_fit] at hf
  | retAddr _ => simp [mz_fit] at hf
theorem mz_h21s (hx : p.tables.exec = Jvm.exec) (hb : c.code = cc) (hown : s.vm.findClass y.cls = some m.cls) (hts : ∀ w ∈ mz_WS, w.before args s = true) (hnm : y.name = "<init>" → meth.name = "<init>") (hd : decode cc (mz_pc pcs i) = .ok (ins, len)) {k : Int} (hk : mz_k21 y.cls y.name w a b k pcs i len ins = true)
    (hC : mz_CT D A cA xt X s) (hP : mz_HP D A cA xt s.heap σ.1 ws H locs) (hst : mz_FR (mz_ads xt ws) st rst) (hcn : σ.2.1 = c0 + cells) (hsn : σ.2.2 = n0 + slots) (h : mz_h21 a b k st σ = some r) (kk : mz_KH p l e R s m args below meth c Q pcs i ls D A cA xt ws c0 n0 r) : W p l e R s m args below meth c H locs cells slots Q (F0 m (mz_pc pcs i) ls rst) := by
  unfold mz_k21 at hk
  split at hk
  · rename_i ix
    simp only [Bool.and_eq_true, decide_eq_true_eq] at hk
    obtain ⟨⟨q1, rfl⟩, q3⟩ := hk
    unfold mz_h21 at h
    split at h
    · rename_i vv rr rest
      match rst, hst with
      | v1 :: v :: rst, ⟨g0, g1, hst⟩ =>
      split at h
      · rename_i cell hcell
        obtain ⟨ad, e, rfl, g2, g3, -⟩ := mz_gw hC.1 hP.2.2.2 hcell g1
        by_cases ht : cell.1 = 2 * b ∧ a < cell.2.length ∧ mz_fit k vv = true
        · rw [if_pos ht] at h
          cases h
          obtain ⟨ht, hal, hfit⟩ := ht
          rcases e with ⟨cl, n, f | f | f | f | f⟩ | ⟨ci, fs⟩
          · rcases g3.1 with q | q | q <;> omega
          · have := g3.1; omega
          · exact g3.elim
          · exact g3.elim
          · have := g3.1; omega
          · obtain ⟨g4, g5⟩ := g3
            have hci : ci = b := by omega
            subst hci
            unfold mz_fld at q1
            cases hv : vwCl[ci]? with
            | none => rw [hv] at q1; cases q1
            | some rr2 =>
              obtain ⟨C, T, N⟩ := rr2
              rw [hv] at q1
              dsimp only at q1
              by_cases hN : a < N
              · rw [if_pos hN] at q1
                dsimp only at q1
                simp only [Bool.and_eq_true, Bool.or_eq_true, Bool.not_eq_true', decide_eq_true_eq] at q1
                obtain ⟨⟨q5, q6⟩, q7⟩ := q1
                have hdesc := mz_tyok ci C T N hv a hN
                obtain ⟨hn, hf⟩ := mz_fits hdesc q6 hfit g0
                have k2 : ∀ (H1 : Heap) (locs1 : List Loc), va_P D vwCl (ws.set (rr - 4) (ad, .inr (ci, fs.set a v1))) H1 → va_D A (ws.set (rr - 4) (ad, .inr (ci, fs.set a v1))) → va_S A s.heap H1 locs1 → W p l e R s m args below meth c H1 locs1 cells slots Q (F0 m (mz_pc pcs i + 3) ls rst) := by
                  intro H1 locs1 p1 p2 p3
                  rw [← mz_nx_eq q3]
                  refine kk H1 locs1 _ rst cells slots ⟨p1, p2, p3, ?_⟩ ⟨[], by rw [mz_ads_set g2]; simp⟩ (by rw [mz_ads_set g2]; exact hst) hcn hsn
                  exact mz_HR_set hP.2.2.2 g2 ⟨ht, mz_F2.set g0 g5 a⟩
                have hal' : a < fs.length := by rw [← g5.len]; exact hal
                cases hfin : (T a).2.2.2 with
                | false => exact va_put hx hb (Ts := mz_WS) hts (mz_cl ci C T N hv) (mz_t0 ci) (mz_tyok ci C T N hv) (mz_nmok ci C T N hv) hown hC.2.1 hP.1 hP.2.1 hP.2.2.1 (rr - 4) g2 hv a hN (hts _ (mz_wok_mem q5)) (fun _ h => h) hfin hdesc hn hf hal' hd k2
                | true =>
                  rcases q7 with q7 | ⟨q7, q8⟩
                  · rw [hfin] at q7; cases q7
                  · exact va_putF hx hb (Ts := mz_WS) hts (mz_cl ci C T N hv) (mz_t0 ci) (mz_tyok ci C T N hv) (mz_nmok ci C T N hv) hown hC.2.1 hP.1 hP.2.1 hP.2.2.1 (rr - 4) g2 hv a hN (hts _ (mz_wok_mem q5)) (fun _ h => h) hfin (hnm q7) q8 hdesc hn hf hal' hd k2
              · rw [if_neg hN] at q1; cases q1
        · rw [if_neg ht] at h; cases h
      · cases h
    · cases h
  · cases hk
theorem mz_akind_eq {a t : Nat} (h : mz_akind a t = true) : (a = 0 ∧ t = 1) ∨ (a = 1 ∧ t = 3) ∨ (a = 2 ∧ (t = 5 ∨ t = 7)) ∨ (a = 3 ∧ t = 9) := by
  simp only [mz_akind, Bool.or_eq_true, Bool.and_eq_true, beq_iff_eq] at h
  omega
theorem mz_h22s (hx : p.tables.exec = Jvm.exec) (hb : c.code = cc) (hd : decode cc (mz_pc pcs i) = .ok (ins, len)) (hk : mz_kp (mz_aldI a) pcs i len ins = true)
    (hC : mz_CT D A cA xt X s) (hP : mz_HP D A cA xt s.heap σ.1 ws H locs) (hst : mz_FR (mz_ads xt ws) st rst) (hcn : σ.2.1 = c0 + cells) (hsn : σ.2.2 = n0 + slots) (h : mz_h22 X a st σ = some r) (kk : mz_KH p l e R s m args below meth c Q pcs i ls D A cA xt ws c0 n0 r) : W p l e R s m args below meth c H locs cells slots Q (F0 m (mz_pc pcs i) ls rst) := by
  obtain ⟨e1, rfl, e3⟩ := mz_kp_eq hk
  unfold mz_h22 at h
  split at h
  · rename_i ii rr rest
    match rst, hst with
    | v1 :: v :: rst, ⟨g0, g1, hst⟩ =>
    have g0 : v1 = .int ii := g0
    subst g0
    by_cases h4 : rr < 4
    · rw [if_pos h4] at h
      split at h
      · rename_i fs hfs
        by_cases ha : a = 0
        · subst ha
          rw [if_pos rfl] at h
          split at h
          · rename_i z hz
            cases h
            obtain ⟨hin, hat⟩ := mz_in_eq hz
            obtain ⟨t, t1, t2, t3⟩ := hC.2.2.1.1 rr fs hfs
            obtain ⟨ad, g2, rfl⟩ := g1
            have : t = ad := by
              unfold mz_ads at g2
              rw [List.getElem?_append_left (by rw [hC.1]; exact h4), t1] at g2
              exact Option.some.inj g2
            subst this
            obtain ⟨zx, rfl⟩ := t3 z (List.mem_of_getElem? hat)
            have k2 := kk H locs ws (.int zx :: rst) cells slots hP ⟨[], by simp⟩ ⟨rfl, hst⟩ hcn hsn
            rw [e3] at k2
            cases e1
            exact va_ti hx hb t2 hP.2.2.1 hin (by rw [List.getD_eq_getElem?_getD, hat]; rfl) hd k2
          · cases h
        · rw [if_neg ha] at h; cases h
      · cases h
    · rw [if_neg h4] at h
      split at h
      · rename_i cell hcell
        obtain ⟨ad, e, rfl, g2, g3, -⟩ := mz_gw hC.1 hP.2.2.2 hcell g1
        by_cases ht : mz_akind a cell.1 = true
        · rw [if_pos ht] at h
          have ht := mz_akind_eq ht
          split at h
          · rename_i z hz
            cases h
            obtain ⟨hin, hat⟩ := mz_in_eq hz
            rcases e with ⟨cl, n, f | f | f | f | f⟩ | ⟨ci, fs⟩
            · obtain ⟨g4, rfl, rfl, g6⟩ := g3
              have hz2 := g6 _ _ hat
              subst hz2
              have k2 := kk H locs ws (.int (f ii.toNatClampNeg) :: rst) cells slots hP ⟨[], by simp⟩ ⟨rfl, hst⟩ hcn hsn
              rw [e3] at k2
              rcases ht with ⟨rfl, t1⟩ | ⟨rfl, t1⟩ | ⟨rfl, t1 | t1⟩ | ⟨rfl, t1⟩
              · cases e1
                rw [t1] at g2
                exact va_iald hx hb hC.2.1 hP.1 (rr - 4) 0 g2 rfl hin hd k2
              · omega
              · cases e1
                rw [t1] at g2
                exact va_bald hx hb hC.2.1 hP.1 (rr - 4) 2 g2 rfl hin hd k2
              · cases e1
                rw [t1] at g2
                exact va_zald hx hb hC.2.1 hP.1 (rr - 4) 3 g2 rfl hin hd k2
              · omega
            · obtain ⟨g4, rfl, rfl, g6⟩ := g3
              have hz2 := g6 _ _ hat
              subst hz2
              have k2 := kk H locs ws (.long (f ii.toNatClampNeg) :: rst) cells slots hP ⟨[], by simp⟩ ⟨rfl, hst⟩ hcn hsn
              rw [e3] at k2
              rcases ht with ⟨rfl, t1⟩ | ⟨rfl, t1⟩ | ⟨rfl, t1 | t1⟩ | ⟨rfl, t1⟩
              · omega
              · cases e1
                exact va_lald hx hb hC.2.1 hP.1 (rr - 4) 1 g2 rfl hin hd k2
              · omega
              · omega
              · omega
            · exact g3.elim
            · exact g3.elim
            · obtain ⟨g4, rfl, rfl, g6⟩ := g3
              have hz2 := g6 _ _ hat
              have k2 := kk H locs ws (va_rf (f ii.toNatClampNeg) :: rst) cells slots hP ⟨[], by simp⟩ ⟨hz2, hst⟩ hcn hsn
              rw [e3] at k2
              rcases ht with ⟨rfl, t1⟩ | ⟨rfl, t1⟩ | ⟨rfl, t1 | t1⟩ | ⟨rfl, t1⟩
              · omega
              · omega
              · omega
              · omega
              · cases e1
                exact va_aldq hx hb hC.2.1 hP.1 (rr - 4) 4 g2 rfl hin hd k2
            · have := g3.1; omega
          · cases h
        · rw [if_neg ht] at h; cases h
      · cases h
  · cases h
end MZ4
