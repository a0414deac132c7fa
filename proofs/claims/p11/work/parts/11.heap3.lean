/-! instructions on the heap: the rest, and all of them -/
theorem mz_set_at {l : List Value} {k j : Nat} {w v : Value} (h : (l.set k w)[j]? = some v) : (j = k ∧ v = w) ∨ (j ≠ k ∧ l[j]? = some v) := by
  rw [List.getElem?_set] at h
  by_cases hj : k = j
  · rw [if_pos hj] at h
    by_cases hl : k < l.length
    · rw [if_pos hl] at h; exact Or.inl ⟨hj.symm, (Option.some.inj h).symm⟩
    · rw [if_neg hl] at h; cases h
  · rw [if_neg hj] at h; exact Or.inr ⟨fun q => hj q.symm, h⟩
theorem mz_cpy_at {F G : List Value} {sp dp n j : Nat} {v : Value} (h : (mz_cpy F G sp dp n)[j]? = some v) : j < G.length ∧ v = if dp ≤ j ∧ j < dp + n then F.getD (sp + (j - dp)) .null else G.getD j .null := by
  unfold mz_cpy at h
  rw [List.getElem?_map] at h
  obtain ⟨q, h1, h2⟩ := Option.map_eq_some_iff.mp h
  obtain ⟨h3, h4⟩ := List.getElem?_eq_some_iff.mp h1
  rw [List.getElem_range] at h4
  subst h4
  exact ⟨by simpa using h3, h2.symm⟩
section MZ5
variable {p : Program} {l : Launch} {e : Env} {R : Room} {s : State} {m : MethodId} {args : Array Value} {below : List Frame} {meth : Method} {c : Code} {H : Heap} {locs : List Loc} {cells slots : Nat} {Q : State → Prop}
variable {cc : ByteArray} {pcs : List Nat} {ls : Array Slot} {nL i w len : Nat} {y : MethodName} {ins : Instr} {st rst : List Value} {a b : Nat} {r : List Value × mzS}
variable {D : va_G} {A : Nat → Prop} {cA : Nat → ClassId} {xt : List Nat} {X : List (List Value)} {ws : va_W} {σ : mzS} {c0 n0 : Nat}
theorem mz_h23s (hx : p.tables.exec = Jvm.exec) (hb : c.code = cc) (hd : decode cc (mz_pc pcs i) = .ok (ins, len)) (hk : mz_kp (mz_astI a) pcs i len ins = true)
    (hC : mz_CT D A cA xt X s) (hP : mz_HP D A cA xt s.heap σ.1 ws H locs) (hst : mz_FR (mz_ads xt ws) st rst) (hcn : σ.2.1 = c0 + cells) (hsn : σ.2.2 = n0 + slots) (h : mz_h23 a st σ = some r) (kk : mz_KH p l e R s m args below meth c Q pcs i ls D A cA xt ws c0 n0 r) : W p l e R s m args below meth c H locs cells slots Q (F0 m (mz_pc pcs i) ls rst) := by
  obtain ⟨e1, rfl, e3⟩ := mz_kp_eq hk
  unfold mz_h23 at h
  split at h
  · rename_i vv ii rr rest
    match rst, hst with
    | v2 :: v1 :: v :: rst, ⟨g00, g0, g1, hst⟩ =>
    have g0 : v1 = .int ii := g0
    subst g0
    split at h
    · rename_i cell hcell
      obtain ⟨ad, ev, rfl, g2, g3, -⟩ := mz_gw hC.1 hP.2.2.2 hcell g1
      by_cases ht : mz_akind a cell.1 = true
      · rw [if_pos ht] at h
        have ht := mz_akind_eq ht
        split at h
        · rename_i z zz hz hnar
          cases h
          obtain ⟨hin, hat⟩ := mz_in_eq hz
          have fin : ∀ (e' : va_E), mz_cr cA (mz_ads xt ws) (cell.1, cell.2.set ii.toNatClampNeg zz) e' → ∀ (H1 : Heap) (locs1 : List Loc), va_P D vwCl (ws.set (rr - 4) (ad, e')) H1 → va_D A (ws.set (rr - 4) (ad, e')) → va_S A s.heap H1 locs1 → W p l e R s m args below meth c H1 locs1 cells slots Q (F0 m (mz_pc pcs i + 1) ls rst) := by
            intro e' hcr H1 locs1 p1 p2 p3
            rw [← e3]
            exact kk H1 locs1 _ rst cells slots ⟨p1, p2, p3, mz_HR_set hP.2.2.2 g2 hcr⟩ ⟨[], by rw [mz_ads_set g2]; simp⟩ (by rw [mz_ads_set g2]; exact hst) hcn hsn
          rcases ev with ⟨cl, n, f | f | f | f | f⟩ | ⟨ci, fs⟩
          · obtain ⟨g4, rfl, rfl, g6⟩ := g3
            have hvv : ∃ x, vv = .int x ∧ v2 = .int x := by
              cases vv <;> simp only [mz_nar] at hnar
              · exact ⟨_, rfl, g00⟩
              · rw [if_neg (by omega)] at hnar; cases hnar
              · cases hnar
              · cases hnar
              · cases hnar
              · rw [if_neg (by omega)] at hnar; cases hnar
              · cases hnar
            obtain ⟨x, rfl, rfl⟩ := hvv
            simp only [mz_nar] at hnar
            have cr : ∀ x' : Int32, zz = .int x' → mz_cr cA (mz_ads xt ws) (cell.1, cell.2.set ii.toNatClampNeg zz) (.inl (cA (cell.1 / 2), cell.2.length, .inl (upd f ii.toNatClampNeg x'))) := by
              rintro x' rfl
              refine ⟨g4, rfl, by simp, fun j v hv => ?_⟩
              rcases mz_set_at hv with ⟨rfl, rfl⟩ | ⟨hj, hv⟩
              · simp [upd]
              · rw [g6 j v hv]; simp [upd, hj]
            rcases ht with ⟨rfl, t1⟩ | ⟨rfl, t1⟩ | ⟨rfl, t1 | t1⟩ | ⟨rfl, t1⟩
            · cases e1
              rw [if_pos t1] at hnar
              have f2 := fin _ (cr x (Option.some.inj hnar).symm)
              rw [t1] at g2 f2
              exact va_iast hx hb hC.2.1 hP.1 hP.2.1 hP.2.2.1 (rr - 4) 0 g2 rfl hin hd f2
            · omega
            · cases e1
              rw [if_neg (by omega), if_pos t1] at hnar
              have f2 := fin _ (cr (vp_nar .byte x) (by rw [vp_nar_byte]; exact (Option.some.inj hnar).symm))
              rw [t1] at g2 f2
              exact va_bast hx hb hC.2.1 hP.1 hP.2.1 hP.2.2.1 (rr - 4) 2 g2 rfl hin hd f2
            · cases e1
              rw [if_neg (by omega), if_neg (by omega), if_pos t1] at hnar
              have f2 := fin _ (cr (vp_nar .boolean x) (Option.some.inj hnar).symm)
              rw [t1] at g2 f2
              exact va_zast hx hb hC.2.1 hP.1 hP.2.1 hP.2.2.1 (rr - 4) 3 g2 rfl hin hd f2
            · omega
          · obtain ⟨g4, rfl, rfl, g6⟩ := g3
            have hvv : ∃ x, vv = .long x ∧ v2 = .long x ∧ zz = .long x := by
              cases vv <;> simp only [mz_nar] at hnar
              · rw [if_neg (by omega), if_neg (by omega), if_neg (by omega)] at hnar; cases hnar
              · rw [if_pos g4] at hnar; exact ⟨_, rfl, g00, (Option.some.inj hnar).symm⟩
              · cases hnar
              · cases hnar
              · cases hnar
              · rw [if_neg (by omega)] at hnar; cases hnar
              · cases hnar
            obtain ⟨x, rfl, rfl, rfl⟩ := hvv
            have f2 := fin (.inl (cA 1, cell.2.length, .inr (.inl (vp_updL f ii.toNatClampNeg x)))) (by
              refine ⟨g4, rfl, by simp, fun j v hv => ?_⟩
              rcases mz_set_at hv with ⟨rfl, rfl⟩ | ⟨hj, hv⟩
              · simp [vp_updL]
              · rw [g6 j v hv]; simp [vp_updL, hj])
            rcases ht with ⟨rfl, t1⟩ | ⟨rfl, t1⟩ | ⟨rfl, t1 | t1⟩ | ⟨rfl, t1⟩
            · omega
            · cases e1
              exact va_last hx hb hC.2.1 hP.1 hP.2.1 hP.2.2.1 (rr - 4) 1 g2 rfl hin hd f2
            · omega
            · omega
            · omega
          · exact g3.elim
          · exact g3.elim
          · obtain ⟨g4, rfl, rfl, g6⟩ := g3
            have hvv : ∃ (k : Nat) (c2 : mzC), vv = .ref k ∧ zz = .ref k ∧ mz_get σ k = some c2 ∧ c2.1 = 6 := by
              cases vv <;> simp only [mz_nar] at hnar
              · rw [if_neg (by omega), if_neg (by omega), if_neg (by omega)] at hnar; cases hnar
              · rw [if_neg (by omega)] at hnar; cases hnar
              · cases hnar
              · cases hnar
              · cases hnar
              · rename_i k
                rw [if_pos g4] at hnar
                split at hnar
                · rename_i c2 hc2
                  by_cases h6 : c2.1 = 6
                  · rw [if_pos h6] at hnar; exact ⟨k, c2, rfl, (Option.some.inj hnar).symm, hc2, h6⟩
                  · rw [if_neg h6] at hnar; cases hnar
                · cases hnar
              · cases hnar
            obtain ⟨k, c2, rfl, rfl, hc2, h6⟩ := hvv
            obtain ⟨ak, ek, rfl, gk, gkr, -⟩ := mz_gw hC.1 hP.2.2.2 hc2 g00
            have hek : ∃ vs, ek = .inr (3, vs) := by
              rcases ek with ⟨cl, n, f' | f' | f' | f' | f'⟩ | ⟨ci, fs⟩
              · rcases gkr.1 with q | q | q <;> omega
              · have := gkr.1; omega
              · exact gkr.elim
              · exact gkr.elim
              · have := gkr.1; omega
              · have := gkr.1
                have : ci = 3 := by omega
                subst this
                exact ⟨fs, rfl⟩
            obtain ⟨vs, rfl⟩ := hek
            have f2 := fin (.inl (cA 4, cell.2.length, .inr (.inr (.inr (.inr (va_up f ii.toNatClampNeg (some ak))))))) (by
              refine ⟨g4, rfl, by simp, fun j v hv => ?_⟩
              rcases mz_set_at hv with ⟨rfl, rfl⟩ | ⟨hj, hv⟩
              · simpa [va_up, va_rf] using g00
              · simpa [va_up, hj] using g6 j v hv)
            rcases ht with ⟨rfl, t1⟩ | ⟨rfl, t1⟩ | ⟨rfl, t1 | t1⟩ | ⟨rfl, t1⟩
            · omega
            · omega
            · omega
            · omega
            · cases e1
              exact va_astq hx hb hC.2.1 hP.1 hP.2.1 hP.2.2.1 (rr - 4) 4 (k - 4) 3 (r := (RX3, TX3, 7)) g2 rfl gk rfl hin hd f2
          · have := g3.1; omega
        · cases h
      · rw [if_neg ht] at h; cases h
    · cases h
  · cases h
theorem mz_h24s (hx : p.tables.exec = Jvm.exec) (hb : c.code = cc) (hd : decode cc (mz_pc pcs i) = .ok (ins, len)) (hk : mz_kp (some .arraylength) pcs i len ins = true)
    (hC : mz_CT D A cA xt X s) (hP : mz_HP D A cA xt s.heap σ.1 ws H locs) (hst : mz_FR (mz_ads xt ws) st rst) (hcn : σ.2.1 = c0 + cells) (hsn : σ.2.2 = n0 + slots) (h : mz_h24 X st σ = some r) (kk : mz_KH p l e R s m args below meth c Q pcs i ls D A cA xt ws c0 n0 r) : W p l e R s m args below meth c H locs cells slots Q (F0 m (mz_pc pcs i) ls rst) := by
  obtain ⟨e1, rfl, e3⟩ := mz_kp_eq hk
  cases e1
  unfold mz_h24 at h
  split at h
  · rename_i rr rest
    match rst, hst with
    | v :: rst, ⟨g1, hst⟩ =>
    by_cases h4 : rr < 4
    · rw [if_pos h4] at h
      split at h
      · rename_i fs hfs
        cases h
        obtain ⟨t, t1, t2, t3⟩ := hC.2.2.1.1 rr fs hfs
        obtain ⟨ad, g2, rfl⟩ := g1
        have : t = ad := by
          unfold mz_ads at g2
          rw [List.getElem?_append_left (by rw [hC.1]; exact h4), t1] at g2
          exact Option.some.inj g2
        subst this
        have k2 := kk H locs ws (.int (Int32.ofNat fs.length) :: rst) cells slots hP ⟨[], by simp⟩ ⟨rfl, hst⟩ hcn hsn
        rw [e3] at k2
        exact va_tlen hx hb t2 hP.2.2.1 rfl hd k2
      · cases h
    · rw [if_neg h4] at h
      split at h
      · rename_i cell hcell
        obtain ⟨ad, ev, rfl, g2, g3, -⟩ := mz_gw hC.1 hP.2.2.2 hcell g1
        by_cases ht : cell.1 % 2 = 1 ∧ cell.1 < 10
        · rw [if_pos ht] at h
          cases h
          have k2 := kk H locs ws (.int (Int32.ofNat cell.2.length) :: rst) cells slots hP ⟨[], by simp⟩ ⟨rfl, hst⟩ hcn hsn
          rw [e3] at k2
          rcases ev with ⟨cl, n, f | f | f | f | f⟩ | ⟨ci, fs⟩
          · obtain ⟨g4, rfl, rfl, g6⟩ := g3
            rcases g4 with t1 | t1 | t1
            · rw [t1] at g2
              exact va_alen hx hb hC.2.1 hP.1 (rr - 4) 0 g2 rfl rfl hd k2
            · rw [t1] at g2
              exact va_alen hx hb hC.2.1 hP.1 (rr - 4) 2 g2 rfl rfl hd k2
            · rw [t1] at g2
              exact va_alen hx hb hC.2.1 hP.1 (rr - 4) 3 g2 rfl rfl hd k2
          · obtain ⟨g4, rfl, rfl, g6⟩ := g3
            exact va_alen hx hb hC.2.1 hP.1 (rr - 4) 1 g2 rfl rfl hd k2
          · exact g3.elim
          · exact g3.elim
          · obtain ⟨g4, rfl, rfl, g6⟩ := g3
            exact va_alen hx hb hC.2.1 hP.1 (rr - 4) 4 g2 rfl rfl hd k2
          · have := g3.1; omega
        · rw [if_neg ht] at h; cases h
      · cases h
  · cases h
end MZ5
