/-! the heap of M beside the JVM's -/
def mz_tys (cA : Nat → ClassId) : List (ClassId × FieldType) := [(cA 0, .int), (cA 1, .long), (cA 2, .byte), (cA 3, .boolean), (cA 4, .object "LoopsToUnits$Held")]
/-- a cell of M beside a thing of the kit's worlds -/
def mz_cr (cA : Nat → ClassId) (ads : List Nat) (c : mzC) (e : va_E) : Prop := match e with
  | .inr (ci, fs) => c.1 = 2 * ci ∧ mz_FR ads c.2 fs
  | .inl (cl, n, .inl f) => (c.1 = 1 ∨ c.1 = 5 ∨ c.1 = 7) ∧ cl = cA (c.1 / 2) ∧ n = c.2.length ∧ ∀ (j : Nat) (v : Value), c.2[j]? = some v → v = .int (f j)
  | .inl (cl, n, .inr (.inl f)) => c.1 = 3 ∧ cl = cA 1 ∧ n = c.2.length ∧ ∀ (j : Nat) (v : Value), c.2[j]? = some v → v = .long (f j)
  | .inl (cl, n, .inr (.inr (.inr (.inr f)))) => c.1 = 9 ∧ cl = cA 4 ∧ n = c.2.length ∧ ∀ (j : Nat) (v : Value), c.2[j]? = some v → mz_rel ads v (va_rf (f j))
  | _ => False
theorem mz_cr.app {cA : Nat → ClassId} {ads : List Nat} {c : mzC} {e : va_E} (h : mz_cr cA ads c e) (q : List Nat) : mz_cr cA (ads ++ q) c e := by
  rcases e with ⟨cl, n, f | f | f | f | f⟩ | ⟨ci, fs⟩
  · exact h
  · exact h
  · exact h
  · exact h
  · exact ⟨h.1, h.2.1, h.2.2.1, fun j v hv => (h.2.2.2 j v hv).app q⟩
  · exact ⟨h.1, mz_FR.app h.2 q⟩
abbrev mz_ads (xt : List Nat) (ws : va_W) : List Nat := xt ++ ws.map Prod.fst
abbrev mz_HR (cA : Nat → ClassId) (xt : List Nat) (h : List mzC) (ws : va_W) : Prop := mz_F2 (fun c q => mz_cr cA (mz_ads xt ws) c q.2) h ws
/-- M's heap h lies in the JVM's heap H as the world ws -/
def mz_HP (D : va_G) (A : Nat → Prop) (cA : Nat → ClassId) (xt : List Nat) (H0 : Heap) (h : List mzC) (ws : va_W) (H : Heap) (locs : List Loc) : Prop := va_P D vwCl ws H ∧ va_D A ws ∧ va_S A H0 H locs ∧ mz_HR cA xt h ws
/-- the script and the static arrays -/
def mz_EX (xt : List Nat) (X : List (List Value)) (A : Nat → Prop) (U : State) (H : Heap) : Prop :=
  (∀ (k : Nat) (fs : List Value), X[k]? = some fs → ∃ t, xt[k]? = some t ∧ va_T .int t fs.length (fun j => fs.getD j .null) A U H ∧ ∀ v ∈ fs, ∃ x, v = Value.int x) ∧
  ∀ k, 1 ≤ k → k < 4 → ∃ t, xt[k]? = some t ∧ va_Z "LoopsToUnitsModel" (mz_sn k) "[I" (.ref t) A U H
/-- what stays as it is while a method runs -/
def mz_CT (D : va_G) (A : Nat → Prop) (cA : Nat → ClassId) (xt : List Nat) (X : List (List Value)) (s : State) : Prop :=
  xt.length = 4 ∧ va_K D vwCl (mz_tys cA) s ∧ mz_EX xt X A s s.heap ∧ (∀ q, s.heap.size ≤ q → A q) ∧ va_AO "LoopsToUnits$Held" s
theorem mz_gw {cA : Nat → ClassId} {xt : List Nat} {s : mzS} {ws : va_W} {r : Nat} {c : mzC} {w : Value} (hxt : xt.length = 4) (hR : mz_HR cA xt s.1 ws) (hg : mz_get s r = some c) (hw : mz_rel (mz_ads xt ws) (.ref r) w) :
    ∃ a e, w = .ref a ∧ ws[r - 4]? = some (a, e) ∧ mz_cr cA (mz_ads xt ws) c e ∧ 4 ≤ r := by
  unfold mz_get at hg
  by_cases h4 : r < 4
  · rw [if_pos h4] at hg; cases hg
  · rw [if_neg h4] at hg
    obtain ⟨⟨a, e⟩, h1, h2⟩ := mz_F2.get hR hg
    obtain ⟨a', h3, rfl⟩ := hw
    rw [List.getElem?_append_right (by omega), hxt, List.getElem?_map, h1] at h3
    cases h3
    exact ⟨a, e, rfl, h1, h2, by omega⟩
theorem mz_ads_set {xt : List Nat} {ws : va_W} {q a : Nat} {e e' : va_E} (h : ws[q]? = some (a, e)) : mz_ads xt (ws.set q (a, e')) = mz_ads xt ws := by
  unfold mz_ads
  congr 1
  rw [List.map_set]
  apply List.ext_getElem?
  intro j
  rw [List.getElem?_set]
  by_cases hj : q = j
  · subst hj
    rw [if_pos rfl, List.getElem?_map, h, if_pos (by rw [List.length_map]; exact (List.getElem?_eq_some_iff.mp h).1)]
    rfl
  · rw [if_neg hj]
theorem mz_HR_set {cA : Nat → ClassId} {xt : List Nat} {s : mzS} {ws : va_W} {r a : Nat} {c : mzC} {e e' : va_E} (hR : mz_HR cA xt s.1 ws) (h : ws[r - 4]? = some (a, e)) (hc : mz_cr cA (mz_ads xt ws) c e') : mz_HR cA xt (mz_set s r c).1 (ws.set (r - 4) (a, e')) := by
  unfold mz_HR mz_set
  rw [mz_ads_set h]
  exact mz_F2.set (P := fun c q => mz_cr cA (mz_ads xt ws) c q.2) (b := (a, e')) hc hR (r - 4)
theorem mz_ads_app {xt : List Nat} {ws : va_W} {q : Nat} {e : va_E} : mz_ads xt (ws ++ [(q, e)]) = mz_ads xt ws ++ [q] := by
  unfold mz_ads
  rw [List.map_append, List.append_assoc]
  rfl
theorem mz_HR_app {cA : Nat → ClassId} {xt : List Nat} {h : List mzC} {ws : va_W} {q : Nat} {c : mzC} {e : va_E} (hR : mz_HR cA xt h ws) (hc : mz_cr cA (mz_ads xt (ws ++ [(q, e)])) c e) : mz_HR cA xt (h ++ [c]) (ws ++ [(q, e)]) := by
  unfold mz_HR
  refine mz_F2.app (k := [c]) (k' := [(q, e)]) ⟨hc, trivial⟩ ?_
  rw [mz_ads_app]
  exact mz_F2.mono (fun _ _ h => h.app _) hR
theorem mz_top {cA : Nat → ClassId} {xt : List Nat} {h : List mzC} {ws : va_W} {q : Nat} {e : va_E} (hxt : xt.length = 4) (hR : mz_HR cA xt h ws) : mz_rel (mz_ads xt (ws ++ [(q, e)])) (.ref (4 + h.length)) (.ref q) := by
  refine ⟨q, ?_, rfl⟩
  have hlen := hR.len
  rw [mz_ads_app]
  unfold mz_ads
  rw [List.getElem?_append_right (by simp; omega)]
  simp [hxt, hlen]
/-- a read of an array of ints, of longs, of references -/
theorem mz_in_eq {i : Int32} {fs : List Value} {v : Value} (h : mz_in i fs = some v) : vp_in i fs.length ∧ fs[i.toNatClampNeg]? = some v := by
  unfold mz_in at h
  by_cases h0 : i < 0
  · rw [if_pos h0] at h; cases h
  · rw [if_neg h0] at h
    refine ⟨?_, h⟩
    rintro (q | q)
    · exact h0 q
    · exact absurd (List.getElem?_eq_some_iff.mp h).1 (by omega)
section MZ3
variable {p : Program} {l : Launch} {e : Env} {R : Room} {s : State} {m : MethodId} {args : Array Value} {below : List Frame} {meth : Method} {c : Code} {H : Heap} {locs : List Loc} {cells slots : Nat} {Q : State → Prop}
variable {cc : ByteArray} {pcs : List Nat} {ls : Array Slot} {nL i w len : Nat} {y : MethodName} {ins : Instr} {st rst : List Value} {a b : Nat} {r : List Value × mzS}
variable {D : va_G} {A : Nat → Prop} {cA : Nat → ClassId} {xt : List Nat} {X : List (List Value)} {ws : va_W} {σ : mzS} {c0 n0 : Nat}
/-- where it goes on -/
abbrev mz_KH (p : Program) (l : Launch) (e : Env) (R : Room) (s : State) (m : MethodId) (args : Array Value) (below : List Frame) (meth : Method) (c : Code) (Q : State → Prop) (pcs : List Nat) (i : Nat) (ls : Array Slot) (D : va_G) (A : Nat → Prop) (cA : Nat → ClassId) (xt : List Nat) (ws : va_W) (c0 n0 : Nat) (r : List Value × mzS) : Prop :=
  ∀ (H' : Heap) (locs' : List Loc) (ws' : va_W) (rst' : List Value) (cells' slots' : Nat), mz_HP D A cA xt s.heap r.2.1 ws' H' locs' → (∃ q, mz_ads xt ws' = mz_ads xt ws ++ q) → mz_FR (mz_ads xt ws') r.1 rst' → r.2.2.1 = c0 + cells' → r.2.2.2 = n0 + slots' → W p l e R s m args below meth c H' locs' cells' slots' Q (F0 m (mz_pc pcs (i + 1)) ls rst')
theorem mz_h20s (hx : p.tables.exec = Jvm.exec) (hb : c.code = cc) (hown : s.vm.findClass y.cls = some m.cls) (hts : ∀ w ∈ mz_WS, w.before args s = true) (hd : decode cc (mz_pc pcs i) = .ok (ins, len)) (hk : mz_k20 y.cls w a b pcs i len ins = true)
    (hC : mz_CT D A cA xt X s) (hP : mz_HP D A cA xt s.heap σ.1 ws H locs) (hst : mz_FR (mz_ads xt ws) st rst) (hcn : σ.2.1 = c0 + cells) (hsn : σ.2.2 = n0 + slots) (h : mz_h20 a b st σ = some r) (kk : mz_KH p l e R s m args below meth c Q pcs i ls D A cA xt ws c0 n0 r) : W p l e R s m args below meth c H locs cells slots Q (F0 m (mz_pc pcs i) ls rst) := by
  unfold mz_k20 at hk
  split at hk
  · rename_i k
    simp only [Bool.and_eq_true, decide_eq_true_eq] at hk
    obtain ⟨⟨q1, rfl⟩, q3⟩ := hk
    unfold mz_h20 at h
    split at h
    · rename_i rr rest
      match rst, hst with
      | v :: rst, ⟨g1, hst⟩ =>
      split at h
      · rename_i cell hcell
        obtain ⟨ad, e, rfl, g2, g3, -⟩ := mz_gw hC.1 hP.2.2.2 hcell g1
        by_cases ht : cell.1 = 2 * b
        · rw [if_pos ht] at h
          split at h
          · rename_i z hz
            cases h
            rcases e with ⟨cl, n, f | f | f | f | f⟩ | ⟨ci, fs⟩
            · rcases g3.1 with q | q | q <;> omega
            · have := g3.1; omega
            · exact g3.elim
            · exact g3.elim
            · have := g3.1; omega
            · obtain ⟨g4, g5⟩ := g3
              have hci : ci = b := by omega
              subst hci
              obtain ⟨x, hx1, hx2⟩ := g5.get hz
              unfold mz_fld at q1
              cases hv : vwCl[ci]? with
              | none => rw [hv] at q1; cases q1
              | some rr =>
                obtain ⟨C, T, N⟩ := rr
                rw [hv] at q1
                dsimp only at q1
                by_cases hN : a < N
                · rw [if_pos hN] at q1
                  dsimp only at q1
                  have k2 := kk H locs ws (x :: rst) cells slots hP ⟨[], by simp⟩ ⟨hx2, hst⟩ hcn hsn
                  rw [mz_nx_eq q3] at k2
                  exact va_get hx hb (Ts := mz_WS) hts (mz_cl ci C T N hv) hown hC.2.1 hP.1 (rr - 4) g2 hv a hN (hts _ (mz_wok_mem q1)) (fun _ h => h) hx1 hd k2
                · rw [if_neg hN] at q1; cases q1
          · cases h
        · rw [if_neg ht] at h; cases h
      · cases h
    · cases h
  · cases hk
end MZ3
