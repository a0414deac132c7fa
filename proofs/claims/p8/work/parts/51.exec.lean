/-! runs of A -/
/-- what is done where no step can be: kind (0 cut, 1 a sum told apart, 2 an operation's atom, 3 a slot's atom, 4 a call, 5 a long), a number, ranges, values, a slot, a binding -/
abbrev azDir : Type := Nat × Nat × List (Int × Int) × szV × szV × (Nat × (Int × szT)) × List szV
noncomputable def az_do (P : List szM) (dm : Nat) (tb : List azCon) (mods : List (Nat × Nat)) (D : szD) (R : szR) (Cs : azS) (C : azQ) (g : azDir) (f : szD → szR → azS → azQ → Bool) : Bool := match g with
  | (0, k, ps, _) => az_rcut D R Cs k ps (fun D R Cs => f D R Cs C)
  | (1, _, _, x, _) => az_rasm D R Cs x.2.1 x.2.2 (fun D R Cs => f D R Cs C)
  | (2, o, _, x, y, _) => az_rdef D R Cs C o x y (fun D R Cs => f D R Cs C)
  | (3, k, _, _, _, s, _) => az_rmat D R Cs C s.1 s.2 k f
  | (4, k, _, _, _, _, b) => (match sz_nth tb k with
    | some c => az_rcall P dm mods D R Cs C c b f
    | none => false)
  | (5, _) => az_rlng D R Cs C f
  | _ => false
theorem az_do_ok {P : List szM} (hP : sz_pkall P mzP = true) {X : List (List Value)} {Kb : Option (Option Value) → mzS → Prop} {mods : List (Nat × Nat)} {h0 : List mzC} {dm : Nat} (hlen0 : h0.length + 1000 * (dm + 2) < 2147483648) {bs : Nat × Nat} {ee : Nat} {tb : List azCon} (htb : ∀ c ∈ tb, az_Valid X c) {D : szD} {R : szR} {Cs : azS} {ρ : Nat → Int} (hV : az_V D R Cs ρ) (hW : az_wf D R Cs) {C : azQ} {g : azDir} {f : szD → szR → azS → azQ → Bool} (h : az_do P dm tb mods D R Cs C g f = true)
    (hf : ∀ D' R' Cs' C' ρ', f D' R' Cs' C' = true → az_V D' R' Cs' ρ' → az_wf D' R' Cs' → az_ag R.length ρ ρ' → R.length ≤ R'.length → az_GG X Kb mods h0 bs ee ρ' C') : az_GG X Kb mods h0 bs ee ρ C := by
  unfold az_do at h
  split at h
  · obtain ⟨R', a1, a2, a3, a4⟩ := az_rcut_ok hV hW h
    exact hf _ _ _ _ ρ a1 a2 a3 (az_ag_refl _ _) (by omega)
  · obtain ⟨R', Cs', a1, a2, a3, a4⟩ := az_rasm_ok hV hW h
    exact hf _ _ _ _ ρ a1 a2 a3 (az_ag_refl _ _) (by omega)
  · obtain ⟨D', R', Cs', ρ', a1, a2, a3, a4, a5, a6⟩ := az_rdef_ok hV hW h
    exact az_GG_ag a4 a6 (hf _ _ _ _ ρ' a1 a2 a3 a4 (by omega))
  · exact az_rmat_ok hV hW h hf
  · split at h
    · rename_i c hc
      rw [sz_nth_eq] at hc
      exact az_rcall_ok hP hlen0 hV hW (htb c (List.mem_of_getElem? hc)) h hf
    · cases h
  · exact az_rlng_ok hV hW h hf
  · cases h
/-- ops that want neither a leaf nor a word ahead: within a statement, or within a call -/
noncomputable def az_fp (st : List szV) (ws : List szF) (op : Nat) : Bool := Nat.blt op 16 && (match st with
  | _ :: _ => true
  | [] => (match ws with
    | _ :: _ => true
    | [] => false))
noncomputable def az_go1 (P : List szM) (inl : Nat → Bool) (dm : Nat) (tb : List azCon) (mods : List (Nat × Nat)) (hint : szD → szR → azS → azQ → Option azDir) (ih : szD → szR → azS → azQ → Bool) (D : szD) (R : szR) (Cs : azS) (j : Nat) (m : Nat × Nat × Nat × Nat) (code i : Nat) (lo : szLo) (st : List szV) (ws : List szF) (F : azF) (dirty : List Nat) (new : Bool) (uw : Nat × Nat) (d q op : Nat) : Bool := match az_step P inl mods D R Cs j m code i lo st ws F dirty new uw d q op with
    | some C' => ih D R Cs C'
    | none => (match hint D R Cs ((j, m, code, i, lo, st), ws, F, dirty, new, uw, d) with
      | some g => az_do P dm tb mods D R Cs ((j, m, code, i, lo, st), ws, F, dirty, new, uw, d) g ih
      | none => false)
noncomputable def az_ex1 (P : List szM) (inl : Nat → Bool) (dm : Nat) (tb : List azCon) (mods : List (Nat × Nat)) (pre hint : szD → szR → azS → azQ → Option azDir) (leaf : szD → szR → azS → azQ → Bool) (ih : szD → szR → azS → azQ → Bool) (D : szD) (R : szR) (Cs : azS) (C : azQ) : Bool := match C with
  | ((j, m, code, i, lo, st), ws, F, dirty, new, uw, d) => sz_fo (sz_sl 80 code i) (fun q => sz_fo (Nat.mod q 256) (fun op => bif az_fp st ws op then az_go1 P inl dm tb mods hint ih D R Cs j m code i lo st ws F dirty new uw d q op else bif leaf D R Cs ((j, m, code, i, lo, st), ws, F, dirty, new, uw, d) then true else (match pre D R Cs ((j, m, code, i, lo, st), ws, F, dirty, new, uw, d) with
    | some g => az_do P dm tb mods D R Cs ((j, m, code, i, lo, st), ws, F, dirty, new, uw, d) g ih
    | none => az_go1 P inl dm tb mods hint ih D R Cs j m code i lo st ws F dirty new uw d q op)))
noncomputable def az_ex (P : List szM) (inl : Nat → Bool) (dm : Nat) (tb : List azCon) (mods : List (Nat × Nat)) (pre hint : szD → szR → azS → azQ → Option azDir) (leaf : szD → szR → azS → azQ → Bool) (n : Nat) : szD → szR → azS → azQ → Bool := Nat.rec (fun _ _ _ _ => false) (fun _ ih D R Cs C => az_ex1 P inl dm tb mods pre hint leaf ih D R Cs C) n
theorem az_ex_ok {P : List szM} (hP : sz_pkall P mzP = true) {inl : Nat → Bool} {X : List (List Value)} (hX : az_X X) {Kb : Option (Option Value) → mzS → Prop} {mods : List (Nat × Nat)} {h0 : List mzC} {dm : Nat} (hlen0 : h0.length + 1000 * (dm + 2) < 2147483648) {bs : Nat × Nat} {ee : Nat} {tb : List azCon} (htb : ∀ c ∈ tb, az_Valid X c) {pre hint : szD → szR → azS → azQ → Option azDir} {leaf : szD → szR → azS → azQ → Bool} {n0 : Nat} {ρ0 : Nat → Int}
    (hleaf : ∀ D R Cs C ρ, leaf D R Cs C = true → az_V D R Cs ρ → az_wf D R Cs → az_ag n0 ρ0 ρ → az_GG X Kb mods h0 bs ee ρ C) : ∀ (n : Nat) (D : szD) (R : szR) (Cs : azS) (C : azQ) (ρ : Nat → Int), az_ex P inl dm tb mods pre hint leaf n D R Cs C = true → az_V D R Cs ρ → az_wf D R Cs → az_ag n0 ρ0 ρ → n0 ≤ R.length → az_GG X Kb mods h0 bs ee ρ C
  | 0, _, _, _, _, _, h, _, _, _, _ => by cases h
  | n + 1, D, R, Cs, C, ρ, h, hV, hW, hag, hn => by
    have h : az_ex1 P inl dm tb mods pre hint leaf (az_ex P inl dm tb mods pre hint leaf n) D R Cs C = true := h
    obtain ⟨⟨j, m, code, i, lo, st⟩, ws, F, dirty, new, uw, d⟩ := C
    unfold az_ex1 at h
    dsimp only at h
    rw [sz_fo_eq, sz_fo_eq] at h
    have hdo : ∀ g, az_do P dm tb mods D R Cs ((j, m, code, i, lo, st), ws, F, dirty, new, uw, d) g (az_ex P inl dm tb mods pre hint leaf n) = true → az_GG X Kb mods h0 bs ee ρ ((j, m, code, i, lo, st), ws, F, dirty, new, uw, d) := fun g h => az_do_ok hP hlen0 htb hV hW h (fun D' R' Cs' C' ρ' hf' hV' hW' hag' hle => az_ex_ok hP hX hlen0 htb hleaf n D' R' Cs' C' ρ' hf' hV' hW' (az_ag_trans hn hag hag') (Nat.le_trans hn hle))
    have hgo : az_go1 P inl dm tb mods hint (az_ex P inl dm tb mods pre hint leaf n) D R Cs j m code i lo st ws F dirty new uw d (sz_sl 80 code i) (Nat.mod (sz_sl 80 code i) 256) = true → az_GG X Kb mods h0 bs ee ρ ((j, m, code, i, lo, st), ws, F, dirty, new, uw, d) := by
      intro h
      unfold az_go1 at h
      split at h
      · rename_i C' he
        exact az_step_ok hP hX hV he (az_ex_ok hP hX hlen0 htb hleaf n D R Cs C' ρ h hV hW hag hn)
      · split at h
        · exact hdo _ h
        · cases h
    cases hfp : az_fp st ws (Nat.mod (sz_sl 80 code i) 256) with
    | true =>
      rw [hfp] at h
      exact hgo h
    | false =>
      rw [hfp] at h
      dsimp only [cond] at h
      cases hl : leaf D R Cs ((j, m, code, i, lo, st), ws, F, dirty, new, uw, d) with
      | true => exact hleaf D R Cs ((j, m, code, i, lo, st), ws, F, dirty, new, uw, d) ρ hl hV hW hag
      | false =>
        rw [hl] at h
        dsimp only [cond] at h
        split at h
        · exact hdo _ h
        · exact hgo h
