/-! the law's loop -/
set_option maxRecDepth 20000 in
theorem lw_loc (ρ : Nat → Int) (k : Nat) : ([(1, 0, []), (1, 4, []), (1, 145, []), (1, 166, []), (0, 0, [(k, 1)])] : szLo).map (sz_v ρ) = [.ref 0, .ref 4, .ref 145, .ref 166, iv (ρ k)] := by
  rw [List.map_cons, List.map_cons, List.map_cons, List.map_cons, List.map_cons, List.map_nil, sz_v_ref ρ (show (0 : Int) < 1000000 by decide), sz_v_ref ρ (show (4 : Int) < 1000000 by decide), sz_v_ref ρ (show (145 : Int) < 1000000 by decide), sz_v_ref ρ (show (166 : Int) < 1000000 by decide), sz_v_iv, show (0 : Int) + sz_sum ρ [(k, 1)] = ρ k by simp [sz_sum]]
  rfl
set_option maxRecDepth 20000 in
theorem rho_0 (a : Int) (l : List Int) (z : Int) : rho (a :: l) z 0 = a := by
  show (if (0 : Nat) = 1000000 then z else (a :: l).getD 0 0) = a
  rw [if_neg (by decide)]
  rfl
set_option maxRecDepth 20000 in
theorem rho_1 (a b : Int) (l : List Int) (z : Int) : rho (a :: b :: l) z 1 = b := by
  show (if (1 : Nat) = 1000000 then z else (a :: b :: l).getD 1 0) = b
  rw [if_neg (by decide)]
  rfl
set_option maxRecDepth 20000 in
theorem rho_2 (a b c : Int) (l : List Int) (z : Int) : rho (a :: b :: c :: l) z 2 = c := by
  show (if (2 : Nat) = 1000000 then z else (a :: b :: c :: l).getD 2 0) = c
  rw [if_neg (by decide)]
  rfl
set_option maxRecDepth 20000 in
theorem rho_z (l : List Int) (z : Int) : rho l z 1000000 = z := by
  show (if (1000000 : Nat) = 1000000 then z else l.getD 1000000 0) = z
  rw [if_pos rfl]
set_option maxRecDepth 20000 in
theorem rho_3 (a b c e : Int) (l : List Int) (z : Int) : rho (a :: b :: c :: e :: l) z 3 = e := by
  show (if (3 : Nat) = 1000000 then z else (a :: b :: c :: e :: l).getD 3 0) = e
  rw [if_neg (by decide)]
  rfl
set_option maxRecDepth 20000 in
theorem lw_sv {ρ : Nat → Int} {a : Nat} {x : Int} (h : ρ a = x) : sz_v ρ (0, 0, [(a, 1)]) = iv x := by
  rw [sz_v_iv, show (0 : Int) + sz_sum ρ [(a, 1)] = ρ a by simp [sz_sum], h]
set_option maxRecDepth 20000 in
theorem rho_4 (a b c e f : Int) (l : List Int) (z : Int) : rho (a :: b :: c :: e :: f :: l) z 4 = f := by
  show (if (4 : Nat) = 1000000 then z else (a :: b :: c :: e :: f :: l).getD 4 0) = f
  rw [if_neg (by decide)]
  rfl
set_option maxRecDepth 20000 in
theorem rho_5 (a b c e f g : Int) (l : List Int) (z : Int) : rho (a :: b :: c :: e :: f :: g :: l) z 5 = g := by
  show (if (5 : Nat) = 1000000 then z else (a :: b :: c :: e :: f :: g :: l).getD 5 0) = g
  rw [if_neg (by decide)]
  rfl
/-- what class and reference have in common at the begin of a round -/
def lwI (h : List mzC) : Prop := True
def lwF (a : Nat) : azF := []
set_option maxRecDepth 20000 in
theorem lwF_of {ρ : Nat → Int} {h : List mzC} {a : Nat} (_hT : az_Tp h) (_hI : lwI h) : az_HF ρ h false (lwF a) := HF_nil _ _
set_option maxRecDepth 20000 in
theorem lwF_to {ρ : Nat → Int} {h : List mzC} {a : Nat} (_hF : az_HF ρ h false (lwF a)) : lwI h := trivial
/-- the next round -/
def lwNx (X : List (List Value)) (Kb : Option (Option Value) → mzS → Prop) (d : Nat) (i : Int) (h : List mzC) (s2 : Nat × Nat) : Prop := ∀ (i' : Int) (h' : List mzC) (s3 : Nat × Nat) (lo' : mzL), i + 5 ≤ i' → i' ≤ 2560 → az_Tp h' → lwI h' → h'.length ≤ h.length + 4 → s3.1 ≤ s2.1 + 4 → s3.2 ≤ s2.2 + 24 → az_ml lo' [.ref 0, .ref 4, .ref 145, .ref 166, iv i'] → mz_gg X Kb d 0 13 lo' [] (h', s3)
set_option maxRecDepth 20000 in
theorem lw_one {X : List (List Value)} (hX : az_X X) {L : Int} (hS : az_scr X L) {tb : List azCon} (htb : ∀ c ∈ tb, az_Valid X c) {pc : Nat} (h1 : az_ex szP a3Inl lwc1.2.1 tb lwc1.2.2.2.2.1 (fun _ => az_pre 0 []) (az_hint tb) (az_lvx szP a3Inl lwc1.2.1 tb lwc1.2.2.2.2.1 (fun _ => az_pre 0 []) (az_hint tb) 1500 (az_leaf lwc1 [lwE] none (az_hb 2) (az_rb 2)) lwRd 9) 1500 lwc1.2.2.1.1 lwc1.2.2.1.2.1 lwc1.2.2.1.2.2.1 (az_hc lwc1 (8, 0, (0, 0, 0), szc_0) (pc, lwc1.2.2.1, (0, []), (0, 0))) = true) {Kb : Option (Option Value) → mzS → Prop} {d : Nat} (hd : 40 ≤ d) {i : Int} {h : List mzC} {s2 : Nat × Nat} {lo : mzL} (hi0 : 0 ≤ i) (hiL : i + 5 ≤ L) (hL : L ≤ 2560) (hT : az_Tp h) (hI : lwI h) (hlen : h.length ≤ 100000) (hlo : az_ml lo [.ref 0, .ref 4, .ref 145, .ref 166, iv i]) (hN : lwNx X Kb d i h s2) : mz_gg X Kb d 0 pc lo [] (h, s2) := by
  have hV : az_V lwc1.2.2.1.1 lwc1.2.2.1.2.1 lwc1.2.2.1.2.2.1 (rho [L, i] ((h.length : Int) + 4)) := by
    refine rho_V (rho_free rfl _) ⟨⟨by omega, by omega⟩, ⟨by omega, by omega⟩, trivial⟩ rfl ⟨by omega, by omega⟩ (by decide) ⟨?_, trivial⟩
    show (0 : Int) ≤ (-5) + (1 * rho [L, i] _ 0 + ((-1) * rho [L, i] _ 1 + 0))
    rw [rho_0, rho_1]
    omega
  refine az_goF sz_pkall_szP hX htb (c := lwc1) (q := (8, 0, (0, 0, 0), szc_0)) rfl (az_wfb_ok (by decide +kernel)) h1 rfl (by decide +kernel) (Kb := Kb) (ρ := rho [L, i] ((h.length : Int) + 4)) (by show h.length + 1000 * (40 + 2) < 2147483648; omega) (rho_z _ _) hd hV hT (show az_HF _ h false (lwF 2) from lwF_of hT hI) ?_ ?_ ?_ ?_
  · have e := lw_loc (rho [L, i] ((h.length : Int) + 4)) 1
    rw [rho_1] at e
    show az_ml lo (([(1, 0, []), (1, 4, []), (1, 145, []), (1, 166, []), (0, 0, [(1, 1)])] : szLo).map (sz_v (rho [L, i] ((h.length : Int) + 4))))
    rw [e]
    exact hlo
  · intro D R Cs C ρ1 f hr hV1 hW1 hag hn hf
    have h0 : ρ1 0 = L := (hag.1 0 (by decide)).trans (rho_0 _ _ _)
    unfold lwRd at hr
    rw [Bool.or_eq_true] at hr
    rcases hr with hr | hr
    · exact az_rscr_ok hS h0 hV1 hW1 hr hf
    · exact az_rlen_ok hS h0 hV1 hW1 hr hf
  · intro p hp
    have hp : p ∈ ([] : List azPo) := hp
    cases hp
  · intro E hE ρ' h' s3 lo' hV' hag hT' hF' hl c1 c2 hlo'
    have hE := List.mem_singleton.mp hE
    subst hE
    have a1 : ρ' 1 = i := (hag 1 (by decide)).trans (rho_1 _ _ _ _)
    have r2 : (5 : Int) ≤ ρ' 2 ∧ ρ' 2 ≤ 2560 := hV'.2.1 2
    have sx : (0 : Int) ≤ (-5) + (1 * ρ' 2 + ((-1) * ρ' 1 + 0)) := hV'.2.2.1 _ (List.Mem.head _)
    have hlo2 : az_ml lo' (([(1, 0, []), (1, 4, []), (1, 145, []), (1, 166, []), (0, 0, [(2, 1)])] : szLo).map (sz_v ρ')) := hlo'
    rw [lw_loc] at hlo2
    exact hN (ρ' 2) h' s3 lo' (by omega) r2.2 hT' (lwF_to (show az_HF ρ' h' false (lwF 3) from hF')) hl c1 c2 hlo2
set_option maxRecDepth 20000 in
theorem lw_kone {X : List (List Value)} (hX : az_X X) {L : Int} (hS : az_scr X L) {r : Int × Int} {pc : Nat} {tb : List azCon} (htb : ∀ c ∈ tb, az_Valid X c) (h1 : az_ex szP a3Inl (lwK r).2.1 tb (lwK r).2.2.2.2.1 (fun _ => az_pre 0 []) (az_hint tb) (az_lvx szP a3Inl (lwK r).2.1 tb (lwK r).2.2.2.2.1 (fun _ => az_pre 0 []) (az_hint tb) 1500 (az_leaf (lwK r) [lwKE r] none (az_hb 3) (az_rb 3)) az_rkn 3) 1500 (lwK r).2.2.1.1 (lwK r).2.2.1.2.1 (lwK r).2.2.1.2.2.1 (az_hc (lwK r) (8, 0, (0, 0, 0), szc_0) (pc, (lwK r).2.2.1, (0, []), (0, 0))) = true) (hri : ([(5, 2560), (0, 2555), r] : szR).all (fun p => decide (-2147483648 ≤ p.1) && decide (p.2 ≤ 2147483647)) = true) {Kb : Option (Option Value) → mzS → Prop} {d : Nat} (hd : 40 ≤ d) {i : Int} {h : List mzC} {s2 : Nat × Nat} {lo : mzL} (hi0 : 0 ≤ i) (hiL : i + 5 ≤ L) (hL : L ≤ 2560) (hT : az_Tp h) (hI : lwI h) (hlen : h.length ≤ 100000) (hlo : az_ml lo [.ref 0, .ref 4, .ref 145, .ref 166, iv i]) (hN : lwNx X Kb d i h s2) {x : Int32} (hx : ∀ fs, X[0]? = some fs → fs[(i + 1).toNat]? = some (.int x)) (hxr : r.1 ≤ x.toInt ∧ x.toInt ≤ r.2) : mz_gg X Kb d 0 pc lo [] (h, s2) := by
  have hV : az_V (lwK r).2.2.1.1 (lwK r).2.2.1.2.1 (lwK r).2.2.1.2.2.1 (rho [L, i, x.toInt] ((h.length : Int) + 4)) := by
    refine rho_V (rho_free rfl _) ⟨⟨by omega, by omega⟩, ⟨by omega, by omega⟩, hxr, trivial⟩ hri ⟨by omega, by omega⟩ (by show 3 ≤ 1000000; decide) ⟨?_, trivial⟩
    show (0 : Int) ≤ (-5) + (1 * rho [L, i, x.toInt] _ 0 + ((-1) * rho [L, i, x.toInt] _ 1 + 0))
    rw [rho_0, rho_1]
    omega
  refine az_goF sz_pkall_szP hX htb (c := lwK r) (q := (8, 0, (0, 0, 0), szc_0)) rfl (az_wfb_ok rfl) h1 rfl rfl (Kb := Kb) (ρ := rho [L, i, x.toInt] ((h.length : Int) + 4)) (by show h.length + 1000 * (40 + 2) < 2147483648; omega) (rho_z _ _) hd hV hT (show az_HF _ h false (lwF 3) from lwF_of hT hI) ?_ ?_ ?_ ?_
  · have e := lw_loc (rho [L, i, x.toInt] ((h.length : Int) + 4)) 1
    rw [rho_1] at e
    show az_ml lo (([(1, 0, []), (1, 4, []), (1, 145, []), (1, 166, []), (0, 0, [(1, 1)])] : szLo).map (sz_v (rho [L, i, x.toInt] ((h.length : Int) + 4))))
    rw [e]
    exact hlo
  · intro D R Cs C ρ1 f hr hV1 hW1 hag hn hf
    have h1 : ρ1 1 = i := (hag.1 1 (by show 1 < 3; decide)).trans (rho_1 _ _ _ _)
    have h2 : ρ1 2 = x.toInt := (hag.1 2 (by show 2 < 3; decide)).trans (rho_2 _ _ _ _ _)
    exact az_rkn_ok hS (x := x) (by omega) (by omega) (by omega) h2 (by rw [h1]; exact hx) hV1 hW1 hr hf
  · intro p hp
    have hp : p ∈ ([] : List azPo) := hp
    cases hp
  · intro E hE ρ' h' s3 lo' hV' hag hT' hF' hl c1 c2 hlo'
    have hE := List.mem_singleton.mp hE
    subst hE
    have a1 : ρ' 1 = i := (hag 1 (by show 1 < 3; decide)).trans (rho_1 _ _ _ _)
    have r2 : (5 : Int) ≤ ρ' 3 ∧ ρ' 3 ≤ 2560 := hV'.2.1 3
    have sx : (0 : Int) ≤ (-5) + (1 * ρ' 3 + ((-1) * ρ' 1 + 0)) := hV'.2.2.1 _ (List.Mem.head _)
    have hlo2 : az_ml lo' (([(1, 0, []), (1, 4, []), (1, 145, []), (1, 166, []), (0, 0, [(3, 1)])] : szLo).map (sz_v ρ')) := hlo'
    rw [lw_loc] at hlo2
    exact hN (ρ' 3) h' s3 lo' (by omega) r2.2 hT' (lwF_to (show az_HF ρ' h' false (lwF 4) from hF')) hl c1 c2 hlo2
set_option maxRecDepth 20000 in
theorem lw_k8 {X : List (List Value)} (hX : az_X X) {L : Int} (hS : az_scr X L) {r1 r2 : Int × Int} {pc : Nat} {tb : List azCon} (htb : ∀ c ∈ tb, az_Valid X c) (h1 : az_exw szP a3Inl (lwK8 r1 r2).2.1 tb (lwK8 r1 r2).2.2.2.2.1 (fun _ => az_pre 0 []) (az_hint tb) (az_lvw szP a3Inl (lwK8 r1 r2).2.1 tb (lwK8 r1 r2).2.2.2.2.1 (fun _ => az_pre 0 []) (az_hint tb) 1500 (az_leaf (lwK8 r1 r2) [lwKE8 r1 r2] none (az_hb 6) (az_rb 6)) lwR8 100) 1500 (lwK8 r1 r2).2.2.1.1 (lwK8 r1 r2).2.2.1.2.1 (lwK8 r1 r2).2.2.1.2.2.1 (az_hc (lwK8 r1 r2) (8, 0, (0, 0, 0), szc_0) (pc, (lwK8 r1 r2).2.2.1, (0, []), (0, 0))) = true) (hri : ([(5, 2560), (0, 2555), r1, r2, (-2147483648, 2147483647), (-2147483648, 2147483647)] : szR).all (fun p => decide (-2147483648 ≤ p.1) && decide (p.2 ≤ 2147483647)) = true) {Kb : Option (Option Value) → mzS → Prop} {d : Nat} (hd : 40 ≤ d) {i : Int} {h : List mzC} {s2 : Nat × Nat} {lo : mzL} (hi0 : 0 ≤ i) (hiL : i + 5 ≤ L) (hL : L ≤ 2560) (hT : az_Tp h) (hI : lwI h) (hlen : h.length ≤ 100000) (hlo : az_ml lo [.ref 0, .ref 4, .ref 145, .ref 166, iv i]) (hN : lwNx X Kb d i h s2) {x1 x2 x3 x4 : Int32} (hx1 : ∀ fs, X[0]? = some fs → fs[(i + (1 : Nat)).toNat]? = some (.int x1)) (hx2 : ∀ fs, X[0]? = some fs → fs[(i + (2 : Nat)).toNat]? = some (.int x2)) (hx3 : ∀ fs, X[0]? = some fs → fs[(i + (3 : Nat)).toNat]? = some (.int x3)) (hx4 : ∀ fs, X[0]? = some fs → fs[(i + (4 : Nat)).toNat]? = some (.int x4)) (hr1 : r1.1 ≤ x1.toInt ∧ x1.toInt ≤ r1.2) (hr2 : r2.1 ≤ x2.toInt ∧ x2.toInt ≤ r2.2) : mz_gg X Kb d 0 pc lo [] (h, s2) := by
  have hV : az_V (lwK8 r1 r2).2.2.1.1 (lwK8 r1 r2).2.2.1.2.1 (lwK8 r1 r2).2.2.1.2.2.1 (rho [L, i, x1.toInt, x2.toInt, x3.toInt, x4.toInt] ((h.length : Int) + 4)) := by
    refine rho_V (rho_free rfl _) ⟨⟨by omega, by omega⟩, ⟨by omega, by omega⟩, hr1, hr2, sz_bd x3, sz_bd x4, trivial⟩ hri ⟨by omega, by omega⟩ (by show 6 ≤ 1000000; decide) ⟨?_, trivial⟩
    show (0 : Int) ≤ (-5) + (1 * rho [L, i, x1.toInt, x2.toInt, x3.toInt, x4.toInt] _ 0 + ((-1) * rho [L, i, x1.toInt, x2.toInt, x3.toInt, x4.toInt] _ 1 + 0))
    rw [rho_0, rho_1]
    omega
  refine az_goW sz_pkall_szP hX htb (c := lwK8 r1 r2) (q := (8, 0, (0, 0, 0), szc_0)) rfl (az_wfb_ok rfl) h1 rfl rfl (Kb := Kb) (ρ := rho [L, i, x1.toInt, x2.toInt, x3.toInt, x4.toInt] ((h.length : Int) + 4)) (by show h.length + 1000 * (40 + 2) < 2147483648; omega) (rho_z _ _) hd hV hT (show az_HF _ h false (lwF 3) from lwF_of hT hI) ?_ ?_ ?_ ?_
  · have e := lw_loc (rho [L, i, x1.toInt, x2.toInt, x3.toInt, x4.toInt] ((h.length : Int) + 4)) 1
    rw [rho_1] at e
    show az_ml lo (([(1, 0, []), (1, 4, []), (1, 145, []), (1, 166, []), (0, 0, [(1, 1)])] : szLo).map (sz_v (rho [L, i, x1.toInt, x2.toInt, x3.toInt, x4.toInt] ((h.length : Int) + 4))))
    rw [e]
    exact hlo
  · intro D R Cs C ρ1 f hr hV1 hW1 hag hn hf
    have h1 : ρ1 1 = i := (hag.1 1 (by show 1 < 6; decide)).trans (rho_1 _ _ _ _)
    have hx : ∀ c : Nat, 1 ≤ c → c ≤ 4 → ∃ x : Int32, ρ1 (c + 1) = x.toInt ∧ ∀ fs, X[0]? = some fs → fs[(ρ1 1 + c).toNat]? = some (.int x) := by
      rw [h1]
      intro c c1 c4
      match c, c1, c4 with
      | 0, c1, _ => omega
      | 1, _, _ => exact ⟨x1, (hag.1 2 (by show 2 < 6; decide)).trans (rho_2 _ _ _ _ _), hx1⟩
      | 2, _, _ => exact ⟨x2, (hag.1 3 (by show 3 < 6; decide)).trans (rho_3 _ _ _ _ _ _), hx2⟩
      | 3, _, _ => exact ⟨x3, (hag.1 4 (by show 4 < 6; decide)).trans (rho_4 _ _ _ _ _ _ _), hx3⟩
      | 4, _, _ => exact ⟨x4, (hag.1 5 (by show 5 < 6; decide)).trans (rho_5 _ _ _ _ _ _ _ _), hx4⟩
      | c + 5, _, c4 => omega
    unfold lwR8 at hr
    rw [Bool.or_eq_true, Bool.or_eq_true] at hr
    rcases hr with hr | hr | hr
    · exact az_rk4_ok hS (by omega) (by omega) (by omega) hx hV1 hW1 hr hf
    · exact az_rnz_ok hV1 hW1 hr hf
    · exact az_rwr_ok hV1 hW1 hr hf
  · intro p hp
    have hp : p ∈ ([] : List azPo) := hp
    cases hp
  · intro E hE ρ' h' s3 lo' hV' hag hT' hF' hl c1 c2 hlo'
    have hE := List.mem_singleton.mp hE
    subst hE
    have a1 : ρ' 1 = i := (hag 1 (by show 1 < 6; decide)).trans (rho_1 _ _ _ _)
    have r2 : (5 : Int) ≤ ρ' 6 ∧ ρ' 6 ≤ 2560 := hV'.2.1 6
    have sx : (0 : Int) ≤ (-5) + (1 * ρ' 6 + ((-1) * ρ' 1 + 0)) := hV'.2.2.1 _ (List.Mem.head _)
    have hlo2 : az_ml lo' (([(1, 0, []), (1, 4, []), (1, 145, []), (1, 166, []), (0, 0, [(6, 1)])] : szLo).map (sz_v ρ')) := hlo'
    rw [lw_loc] at hlo2
    exact hN (ρ' 6) h' s3 lo' (by omega) r2.2 hT' (lwF_to (show az_HF ρ' h' false (lwF 4) from hF')) hl c1 c2 hlo2
def lwKb (o : Option (Option Value)) (s : mzS) : Prop := o = some (some (.int 1)) ∧ s.2.1 ≤ 601024 ∧ s.2.2 ≤ 7293034
set_option maxRecDepth 20000 in
theorem lw_loop {X : List (List Value)} (hX : az_X X) {L : Int} (hL0 : 0 ≤ L) (hL : L ≤ 2560) (hS : az_scr X L) {d : Nat} (hd : 40 ≤ d) (hC : ∀ {Kb : Option (Option Value) → mzS → Prop} {i : Int} {h : List mzC} {s2 : Nat × Nat} {lo : mzL}, 0 ≤ i → i + 5 ≤ L → az_Tp h → lwI h → h.length ≤ 100000 → az_ml lo [.ref 0, .ref 4, .ref 145, .ref 166, iv i] → lwNx X Kb d i h s2 → ∀ pc ∈ lwPcs, mz_gg X Kb d 0 pc lo [] (h, s2)) : ∀ (n : Nat) (i : Int) (lo : mzL) (h : List mzC) (s2 : Nat × Nat), 2560 - i < (n : Int) → 0 ≤ i → i ≤ 2560 → az_Tp h → lwI h → (h.length : Int) ≤ 10000 + i → (s2.1 : Int) ≤ 590000 + i → (s2.2 : Int) ≤ 7200000 + 5 * i → az_ml lo [.ref 0, .ref 4, .ref 145, .ref 166, iv i] → mz_gg X lwKb d 0 13 lo [] (h, s2)
  | 0, i, _, _, _, hn, _, hi, _, _, _, _, _, _ => by omega
  | n + 1, i, lo, h, s2, hn, hi0, hi, hT, hI, b1, b2, b3, hlo => by
    have hN : ∀ (h2 : List mzC) (s4 : Nat × Nat), h2.length ≤ h.length → s4.1 ≤ s2.1 → s4.2 ≤ s2.2 → lwNx X lwKb d i h2 s4 := by
      intro h2 s4 q1 q2 q3 i' h' s3 lo' j1 j2 j3 jI j4 j5 j6 j7
      exact lw_loop hX hL0 hL hS hd hC n i' lo' h' s3 (by omega) (by omega) j2 j3 jI (by omega) (by omega) (by omega) j7
    have hV : az_V lwc0.2.2.1.1 lwc0.2.2.1.2.1 lwc0.2.2.1.2.2.1 (rho [L, i] ((h.length : Int) + 4)) := rho_V (rho_free rfl _) ⟨⟨hL0, hL⟩, ⟨hi0, hi⟩, trivial⟩ rfl ⟨by omega, by omega⟩ (by decide) trivial
    refine az_goF sz_pkall_szP hX (tb := []) (fun _ h => by cases h) (c := lwc0) (q := (8, 0, (0, 0, 0), szc_0)) rfl (az_wfb_ok (by decide +kernel)) lw_head rfl (by decide +kernel) (Kb := lwKb) (ρ := rho [L, i] ((h.length : Int) + 4)) (by show h.length + 1000 * (40 + 2) < 2147483648; omega) (rho_z _ _) hd hV hT (show az_HF _ h false (lwF 2) from lwF_of hT hI) ?_ ?_ ?_ ?_
    · have e := lw_loc (rho [L, i] ((h.length : Int) + 4)) 1
      rw [rho_1] at e
      show az_ml lo (([(1, 0, []), (1, 4, []), (1, 145, []), (1, 166, []), (0, 0, [(1, 1)])] : szLo).map (sz_v (rho [L, i] ((h.length : Int) + 4))))
      rw [e]
      exact hlo
    · intro D R Cs C ρ1 f hr hV1 hW1 hag hn hf
      have h0 : ρ1 0 = L := (hag.1 0 (by decide)).trans (rho_0 _ _ _)
      unfold lwRd at hr
      rw [Bool.or_eq_true] at hr
      rcases hr with hr | hr
      · exact az_rscr_ok hS h0 hV1 hW1 hr hf
      · exact az_rlen_ok hS h0 hV1 hW1 hr hf
    · intro p hp ρ' h' s3 c1 c2
      have hp := List.mem_singleton.mp hp
      subst hp
      have c1 : s3.1 ≤ s2.1 + 0 := c1
      have c2 : s3.2 ≤ s2.2 + 0 := c2
      refine ⟨?_, by show s3.1 ≤ 601024; omega, by show s3.2 ≤ 7293034; omega⟩
      show some (some (sz_v ρ' (0, 1, []))) = some (some (Value.int 1))
      rw [sz_v_iv]
      rfl
    · intro E hE ρ' h' s3 lo' hV' hag hT' hF' hl c1 c2 hlo'
      have a0 : ρ' 0 = L := (hag 0 (by decide)).trans (rho_0 _ _ _)
      have a1 : ρ' 1 = i := (hag 1 (by decide)).trans (rho_1 _ _ _ _)
      rcases List.mem_cons.mp hE with hE | hE
      · subst hE
        have r2 : (5 : Int) ≤ ρ' 2 ∧ ρ' 2 ≤ 2560 := hV'.2.1 2
        have sx : (0 : Int) ≤ (-5) + (1 * ρ' 2 + ((-1) * ρ' 1 + 0)) := hV'.2.2.1 _ (List.Mem.head _)
        have hlo2 : az_ml lo' (([(1, 0, []), (1, 4, []), (1, 145, []), (1, 166, []), (0, 0, [(2, 1)])] : szLo).map (sz_v ρ')) := hlo'
        rw [lw_loc] at hlo2
        exact hN h s2 (Nat.le_refl _) (Nat.le_refl _) (Nat.le_refl _) (ρ' 2) h' s3 lo' (by omega) r2.2 hT' (lwF_to (show az_HF ρ' h' false (lwF 3) from hF')) hl c1 c2 hlo2
      · obtain ⟨pc, hpc, hE⟩ := List.mem_map.mp hE
        subst hE
        have hl : h'.length ≤ h.length + 0 := hl
        have c1 : s3.1 ≤ s2.1 + 0 := c1
        have c2 : s3.2 ≤ s2.2 + 0 := c2
        have sx : (0 : Int) ≤ (-5) + (1 * ρ' 0 + ((-1) * ρ' 1 + 0)) := hV'.2.2.1 _ (List.Mem.head _)
        have hlo2 : az_ml lo' (([(1, 0, []), (1, 4, []), (1, 145, []), (1, 166, []), (0, 0, [(1, 1)])] : szLo).map (sz_v ρ')) := hlo'
        rw [lw_loc, a1] at hlo2
        exact hC hi0 (by omega) hT' (lwF_to (show az_HF ρ' h' false (lwF 2) from hF')) (by omega) hlo2 (hN h' s3 (by omega) (by omega) (by omega)) pc hpc
