/-! M beside the JVM: values, lists of values, locals -/
def mz_F2 {α β : Type} (P : α → β → Prop) : List α → List β → Prop
  | [], [] => True
  | a :: as, b :: bs => P a b ∧ mz_F2 P as bs
  | _, _ => False
theorem mz_F2.mono {α β : Type} {P Q : α → β → Prop} (h : ∀ a b, P a b → Q a b) : ∀ {l : List α} {l' : List β}, mz_F2 P l l' → mz_F2 Q l l'
  | [], [], _ => trivial
  | _ :: _, _ :: _, ⟨h1, h2⟩ => ⟨h _ _ h1, mz_F2.mono h h2⟩
theorem mz_F2.len {α β : Type} {P : α → β → Prop} : ∀ {l : List α} {l' : List β}, mz_F2 P l l' → l.length = l'.length
  | [], [], _ => rfl
  | _ :: _, _ :: _, ⟨_, h2⟩ => congrArg (· + 1) (mz_F2.len h2)
theorem mz_F2.get {α β : Type} {P : α → β → Prop} : ∀ {l : List α} {l' : List β}, mz_F2 P l l' → ∀ {i : Nat} {a : α}, l[i]? = some a → ∃ b, l'[i]? = some b ∧ P a b
  | [], [], _, _, _, h => by simp at h
  | x :: l, y :: l', ⟨h1, h2⟩, i, a, h => by
    cases i with
    | zero => simp at h; subst h; exact ⟨y, rfl, h1⟩
    | succ i => simp at h; simpa using mz_F2.get h2 h
theorem mz_F2.set {α β : Type} {P : α → β → Prop} {a : α} {b : β} (hp : P a b) : ∀ {l : List α} {l' : List β}, mz_F2 P l l' → ∀ (i : Nat), mz_F2 P (l.set i a) (l'.set i b)
  | [], [], _, _ => by simp [mz_F2]
  | _ :: l, _ :: l', ⟨h1, h2⟩, i => by
    cases i with
    | zero => exact ⟨hp, h2⟩
    | succ i => exact ⟨h1, mz_F2.set hp h2 i⟩
theorem mz_F2.app {α β : Type} {P : α → β → Prop} {k : List α} {k' : List β} (hk : mz_F2 P k k') : ∀ {l : List α} {l' : List β}, mz_F2 P l l' → mz_F2 P (l ++ k) (l' ++ k')
  | [], [], _ => hk
  | _ :: l, _ :: l', ⟨h1, h2⟩ => ⟨h1, mz_F2.app hk h2⟩
theorem mz_F2.rev {α β : Type} {P : α → β → Prop} : ∀ {l : List α} {l' : List β}, mz_F2 P l l' → mz_F2 P l.reverse l'.reverse
  | [], [], _ => trivial
  | a :: l, b :: l', ⟨h1, h2⟩ => by
    rw [List.reverse_cons, List.reverse_cons]
    exact mz_F2.app (k := [a]) (k' := [b]) (show mz_F2 P [a] [b] from ⟨h1, trivial⟩) (mz_F2.rev h2)
theorem mz_F2.take {α β : Type} {P : α → β → Prop} : ∀ {l : List α} {l' : List β}, mz_F2 P l l' → ∀ n, mz_F2 P (l.take n) (l'.take n)
  | [], [], _, _ => by simp [mz_F2]
  | _ :: l, _ :: l', ⟨h1, h2⟩, n => by
    cases n with
    | zero => trivial
    | succ n => exact ⟨h1, mz_F2.take h2 n⟩
theorem mz_F2.drop {α β : Type} {P : α → β → Prop} : ∀ {l : List α} {l' : List β}, mz_F2 P l l' → ∀ n, mz_F2 P (l.drop n) (l'.drop n)
  | [], [], _, _ => by simp [mz_F2]
  | _ :: l, _ :: l', ⟨h1, h2⟩, n => by
    cases n with
    | zero => exact ⟨h1, h2⟩
    | succ n => exact mz_F2.drop h2 n
theorem mz_F2.filter {α β : Type} {P : α → β → Prop} {f : α → Bool} {g : β → Bool} (h : ∀ a b, P a b → f a = g b) : ∀ {l : List α} {l' : List β}, mz_F2 P l l' → mz_F2 P (l.filter f) (l'.filter g)
  | [], [], _ => trivial
  | a :: l, b :: l', ⟨h1, h2⟩ => by
    have e := h a b h1
    cases hf : f a with
    | true => rw [List.filter_cons_of_pos hf, List.filter_cons_of_pos (by rw [← e]; exact hf)]; exact ⟨h1, mz_F2.filter h h2⟩
    | false => rw [List.filter_cons_of_neg (by rw [hf]; simp), List.filter_cons_of_neg (by rw [← e, hf]; simp)]; exact mz_F2.filter h h2
/-- a value of M, and the JVM's: ads: the addresses of the script, the static arrays, the cells -/
def mz_rel (ads : List Nat) (v w : Value) : Prop := match v with
  | .int x => w = .int x
  | .long x => w = .long x
  | .null => w = .null
  | .ref i => ∃ a, ads[i]? = some a ∧ w = .ref a
  | .retAddr _ => ∃ a, w = .ref a
  | _ => False
theorem mz_rel.cat {ads : List Nat} {v w : Value} (h : mz_rel ads v w) : v.category = w.category := by
  cases v <;> simp only [mz_rel] at h
  · rw [h]
  · rw [h]
  · rw [h]
  · obtain ⟨a, -, h⟩ := h; rw [h]; rfl
  · obtain ⟨a, h⟩ := h; rw [h]; rfl
theorem mz_rel.app {ads : List Nat} {v w : Value} (h : mz_rel ads v w) (q : List Nat) : mz_rel (ads ++ q) v w := by
  cases v <;> simp only [mz_rel] at h ⊢
  · exact h
  · exact h
  · exact h
  · obtain ⟨a, h1, h⟩ := h
    exact ⟨a, by rw [List.getElem?_append_left (List.getElem?_eq_some_iff.mp h1).1]; exact h1, h⟩
  · exact h
abbrev mz_FR (ads : List Nat) : List Value → List Value → Prop := mz_F2 (mz_rel ads)
abbrev mz_LR (ads : List Nat) : mzL → mzL → Prop := mz_F2 (fun q r => q.1 = r.1 ∧ mz_rel ads q.2 r.2)
theorem mz_FR.app {ads : List Nat} {l l' : List Value} (h : mz_FR ads l l') (q : List Nat) : mz_FR (ads ++ q) l l' := mz_F2.mono (fun _ _ h => h.app q) h
theorem mz_LR.app {ads : List Nat} {l l' : mzL} (h : mz_LR ads l l') (q : List Nat) : mz_LR (ads ++ q) l l' := mz_F2.mono (fun _ _ h => ⟨h.1, h.2.app q⟩) h
theorem mz_FR.sum {ads : List Nat} : ∀ {l l' : List Value}, mz_FR ads l l' → (l'.map fun v => v.category).sum = mz_sum l
  | [], [], _ => rfl
  | _ :: l, _ :: l', ⟨h1, h2⟩ => by
    have := mz_FR.sum h2
    unfold mz_sum at this ⊢
    simp only [List.map_cons, List.sum_cons]
    rw [this, h1.cat]
theorem mz_ld_mem : ∀ {lo : mzL} {i : Nat} {v : Value}, mz_ld lo i = some v → (i, v) ∈ lo
  | [], _, _, h => by simp [mz_ld] at h
  | (k, v) :: r, i, w, h => by
    unfold mz_ld at h
    by_cases hk : k = i
    · rw [if_pos hk] at h; cases h; subst hk; exact List.mem_cons_self
    · rw [if_neg hk] at h; exact List.mem_cons_of_mem _ (mz_ld_mem h)
theorem mz_ld_rel {ads : List Nat} : ∀ {lo rlo : mzL}, mz_LR ads lo rlo → ∀ {i : Nat} {v : Value}, mz_ld lo i = some v → ∃ w, mz_ld rlo i = some w ∧ mz_rel ads v w
  | [], [], _, _, _, h => by simp [mz_ld] at h
  | (k, v) :: r, (k', v') :: r', ⟨⟨h1, h1'⟩, h2⟩, i, w, h => by
    dsimp only at h1 h1'
    subst h1
    unfold mz_ld at h ⊢
    by_cases hk : k = i
    · rw [if_pos hk] at h ⊢; cases h; exact ⟨_, rfl, h1'⟩
    · rw [if_neg hk] at h ⊢; exact mz_ld_rel h2 h
theorem mz_ld_at {ads : List Nat} {lo rlo : mzL} {ls : Array Slot} {nL i : Nat} {v : Value} (hl : lv_has ls nL rlo) (hr : mz_LR ads lo rlo) (h : mz_ld lo i = some v) : ∃ w, mz_rel ads v w ∧ mz_ld rlo i = some w ∧ ls[i]? = some (.val w) := by
  obtain ⟨w, h1, h2⟩ := mz_ld_rel hr h
  exact ⟨w, h2, h1, hl.2.2 (i, w) (mz_ld_mem h1)⟩
theorem mz_st1_rel {ads : List Nat} {lo rlo : mzL} (hr : mz_LR ads lo rlo) (i : Nat) {v w : Value} (h : mz_rel ads v w) : mz_LR ads (mz_st1 lo i v) (mz_st1 rlo i w) :=
  ⟨⟨rfl, h⟩, mz_F2.filter (fun a b hab => by rw [hab.1, hab.2.cat]) hr⟩
theorem mz_st2_rel {ads : List Nat} {lo rlo : mzL} (hr : mz_LR ads lo rlo) (i : Nat) {v w : Value} (h : mz_rel ads v w) : mz_LR ads (mz_st2 lo i v) (mz_st2 rlo i w) :=
  ⟨⟨rfl, h⟩, mz_F2.filter (fun a b hab => by rw [hab.1, hab.2.cat]) hr⟩
theorem mz_up_rel {ads : List Nat} (i : Nat) {v w : Value} (h : mz_rel ads v w) : ∀ {lo rlo : mzL}, mz_LR ads lo rlo → mz_LR ads (mz_up lo i v) (mz_up rlo i w)
  | [], [], _ => trivial
  | (k, x) :: lo, (k', x') :: rlo, ⟨⟨h1, h1'⟩, h2⟩ => by
    dsimp only at h1 h1'
    subst h1
    refine ⟨?_, mz_up_rel i h h2⟩
    dsimp only
    by_cases hk : k = i
    · rw [if_pos hk, if_pos hk]; exact ⟨rfl, h⟩
    · rw [if_neg hk, if_neg hk]; exact ⟨rfl, h1'⟩
/-- a local that holds an int is written in its place -/
theorem mz_up_has {ls ls' : Array Slot} {nL i : Nat} {rlo : mzL} {x z : Int32} (hl : lv_has ls nL rlo) (hi : ls[i]? = some (.val (.int x))) (hl' : lv_has ls' nL (mz_st1 rlo i (.int z))) : lv_has ls' nL (mz_up rlo i (.int z)) := by
  refine ⟨hl'.1, hl'.2.1, fun q hq => ?_⟩
  unfold mz_up at hq
  obtain ⟨r, hr, rfl⟩ := List.mem_map.mp hq
  by_cases hk : r.1 = i
  · rw [if_pos hk]
    have := hl'.2.2 (i, .int z) List.mem_cons_self
    rw [← hk] at this
    exact this
  · rw [if_neg hk]
    refine hl'.2.2 r (List.mem_cons_of_mem _ (List.mem_filter.mpr ⟨hr, ?_⟩))
    have h2 : ¬ (r.1 + 1 = i ∧ r.2.category = 2) := by
      rintro ⟨h3, h4⟩
      have h5 := hl.2.1.1 r.1 r.2 (hl.2.2 r hr) h4
      rw [h3, hi] at h5
      cases h5
    simp only [Bool.and_eq_true, Bool.not_eq_true', beq_eq_false_iff_ne, ne_eq, Bool.and_eq_false_imp, beq_iff_eq]
    exact ⟨hk, fun h3 h4 => h2 ⟨h3, h4⟩⟩
theorem mz_nx_eq {pcs : List Nat} {i len : Nat} (h : mz_nx pcs i len = true) : mz_pc pcs (i + 1) = mz_pc pcs i + len := by simpa [mz_nx] using h
theorem mz_tg_eq {pcs : List Nat} {i t : Nat} {off : Int} (h : mz_tg pcs i off t = true) : (mz_pc pcs i : Int) + off = ((mz_pc pcs t : Nat) : Int) := by simpa [mz_tg] using h
/-- a value that is an int, a reference, a long -/
theorem mz_ty0 {ads : List Nat} {v w : Value} (h : mz_rel ads v w) (t : mz_ty v = 0) : ∃ x, v = .int x ∧ w = .int x := by
  cases v <;> simp [mz_ty] at t
  exact ⟨_, rfl, h⟩
theorem mz_ty1 {ads : List Nat} {v w : Value} (h : mz_rel ads v w) (t : mz_ty v = 1) : ∃ x, w = .ref x := by
  cases v <;> simp [mz_ty] at t
  obtain ⟨a, -, h⟩ := h
  exact ⟨a, h⟩
theorem mz_ty3 {ads : List Nat} {v w : Value} (h : mz_rel ads v w) (t : mz_ty v = 3) : ∃ x, w = .ref x := by
  cases v <;> simp [mz_ty] at t
  exact h
theorem mz_ty2 {ads : List Nat} {v w : Value} (h : mz_rel ads v w) (t : mz_ty v = 2) : ∃ x, v = .long x ∧ w = .long x := by
  cases v <;> simp [mz_ty] at t
  exact ⟨_, rfl, h⟩
theorem mz_tyc {ads : List Nat} {v w : Value} (h : mz_rel ads v w) (t : mz_ty v < 2) : w.category = 1 := by
  rw [← h.cat]
  cases v <;> simp [mz_ty] at t <;> rfl
