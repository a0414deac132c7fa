/-! the words, by number: 0 .. : 'selects' of the privates; 1000 n + k: word k of tables_1_n -/
def mz_wq (n : Nat) : Option Cond := match n / 1000 with
  | 0 => (k2_sels lw_privs)[n]?
  | 1 => tables_1_1[n % 1000]?
  | 2 => tables_1_2[n % 1000]?
  | 3 => tables_1_3[n % 1000]?
  | 4 => tables_1_4[n % 1000]?
  | 5 => tables_1_5[n % 1000]?
  | 6 => tables_1_6[n % 1000]?
  | 7 => tables_1_7[n % 1000]?
  | 8 => tables_1_8[n % 1000]?
  | _ => none
theorem mz_wq_mem {n : Nat} {w : Cond} (h : mz_wq n = some w) : w ∈ lw_tbl := by
  have t : ∀ {l : List Cond} {k : Nat}, l[k]? = some w → w ∈ l := fun h => List.mem_of_getElem? h
  unfold mz_wq at h
  unfold lw_tbl tables_1
  simp only [List.mem_append]
  split at h
  · exact Or.inl (t h)
  · exact Or.inr (Or.inl (t h))
  · exact Or.inr (Or.inr (Or.inl (t h)))
  · exact Or.inr (Or.inr (Or.inr (Or.inl (t h))))
  · exact Or.inr (Or.inr (Or.inr (Or.inr (Or.inl (t h)))))
  · exact Or.inr (Or.inr (Or.inr (Or.inr (Or.inr (Or.inl (t h))))))
  · exact Or.inr (Or.inr (Or.inr (Or.inr (Or.inr (Or.inr (Or.inl (t h)))))))
  · exact Or.inr (Or.inr (Or.inr (Or.inr (Or.inr (Or.inr (Or.inr (Or.inl (t h))))))))
  · exact Or.inr (Or.inr (Or.inr (Or.inr (Or.inr (Or.inr (Or.inr (Or.inr (t h))))))))
  · cases h
/-- the words that every contract asks for -/
def mz_WS : List Cond := lw_tbl.filter goodWord
def mz_wok (n : Nat) (w : Cond) : Bool := decide (mz_wq n = some w) && goodWord w
theorem mz_wok_mem {n : Nat} {w : Cond} (h : mz_wok n w = true) : w ∈ mz_WS := by
  unfold mz_wok at h
  simp only [Bool.and_eq_true, decide_eq_true_eq] at h
  exact List.mem_filter.mpr ⟨mz_wq_mem h.1, h.2⟩
theorem mz_good {ws : List Cond} (h : ∀ w ∈ ws, w ∈ mz_WS) : GoodIn mz_WS ws := fun w hw => ⟨h w hw, good_of_word (List.mem_filter.mp (h w hw)).2⟩
/-- a method as the machine has it: name, bytes, what it answers, program counters, the words of its instructions, its own words, handlers -/
abbrev mzT : Type := MethodName × ByteArray × Option FieldType × List Nat × List Nat × List Nat × List (Nat × Nat × Nat × Nat)
def mz_pc (pcs : List Nat) (i : Nat) : Nat := pcs.getD i 0
def mz_nx (pcs : List Nat) (i len : Nat) : Bool := decide (mz_pc pcs (i + 1) = mz_pc pcs i + len)
def mz_tg (pcs : List Nat) (i : Nat) (off : Int) (t : Nat) : Bool := decide ((mz_pc pcs i : Int) + off = ((mz_pc pcs t : Nat) : Int))
def mz_k0 (own : String) (w : Nat) (c : Int) (pcs : List Nat) (i len : Nat) (ins : Instr) : Bool := match ins with
  | .iconst n => decide (Int32.ofInt n = Int32.ofInt c) && decide (len = 1) && mz_nx pcs i 1
  | .bipush n => decide ((Int8.ofInt n).toInt32 = Int32.ofInt c) && decide (len = 2) && mz_nx pcs i 2
  | .sipush n => decide ((Int16.ofInt n).toInt32 = Int32.ofInt c) && decide (len = 3) && mz_nx pcs i 3
  | .ldc k => mz_wok w (.constant own k (Int32.ofInt c)) && decide (len = 2) && mz_nx pcs i 2
  | .ldc_w k => mz_wok w (.constant own k (Int32.ofInt c)) && decide (len = 3) && mz_nx pcs i 3
  | _ => false
def mz_k1 (c : Int) (pcs : List Nat) (i len : Nat) (ins : Instr) : Bool := match ins with
  | .lconst n => decide (Int64.ofNat (n : Nat) = Int64.ofInt c) && decide (len = 1) && mz_nx pcs i 1
  | _ => false
def mz_k2 (a b : Nat) (pcs : List Nat) (i len : Nat) (ins : Instr) : Bool := match ins with
  | .iload_n k => decide ((k : Nat) = a) && decide (b = 0) && decide (len = 1) && mz_nx pcs i 1
  | .iload k => decide (k = a) && decide (b = 0) && decide (len = 2) && mz_nx pcs i 2
  | .aload_n k => decide ((k : Nat) = a) && decide (b = 1) && decide (len = 1) && mz_nx pcs i 1
  | .aload k => decide (k = a) && decide (b = 1) && decide (len = 2) && mz_nx pcs i 2
  | .lload_n k => decide ((k : Nat) = a) && decide (b = 2) && decide (len = 1) && mz_nx pcs i 1
  | .lload k => decide (k = a) && decide (b = 2) && decide (len = 2) && mz_nx pcs i 2
  | _ => false
def mz_k3 (a b : Nat) (pcs : List Nat) (i len : Nat) (ins : Instr) : Bool := match ins with
  | .istore_n k => decide ((k : Nat) = a) && decide (b = 0) && decide (len = 1) && mz_nx pcs i 1
  | .istore k => decide (k = a) && decide (b = 0) && decide (len = 2) && mz_nx pcs i 2
  | .astore_n k => decide ((k : Nat) = a) && decide (b = 1) && decide (len = 1) && mz_nx pcs i 1
  | .astore k => decide (k = a) && decide (b = 1) && decide (len = 2) && mz_nx pcs i 2
  | _ => false
def mz_k4 (a : Nat) (pcs : List Nat) (i len : Nat) (ins : Instr) : Bool := match ins with
  | .lstore_n k => decide ((k : Nat) = a) && decide (len = 1) && mz_nx pcs i 1
  | .lstore k => decide (k = a) && decide (len = 2) && mz_nx pcs i 2
  | _ => false
def mz_k5 (a : Nat) (c : Int) (pcs : List Nat) (i len : Nat) (ins : Instr) : Bool := match ins with
  | .iinc k n => decide (k = a) && decide (Int32.ofInt n = Int32.ofInt c) && decide (len = 3) && mz_nx pcs i 3
  | _ => false
def mz_binI (a : Nat) : Option Instr := match a with
  | 0 => some .iadd
  | 1 => some .isub
  | 2 => some .imul
  | 3 => some .iand
  | 4 => some .ior
  | 5 => some .ixor
  | 6 => some .ishl
  | 7 => some .ishr
  | 8 => some .iushr
  | 9 => some .idiv
  | 10 => some .irem
  | _ => none
def mz_unI (a : Nat) : Option Instr := match a with
  | 0 => some .ineg
  | 1 => some .i2b
  | 2 => some .i2s
  | _ => none
def mz_cI (a : Nat) : Option ClassFile.Cond := match a with
  | 0 => some .eq
  | 1 => some .ne
  | 2 => some .lt
  | 3 => some .ge
  | 4 => some .gt
  | 5 => some .le
  | _ => none
def mz_k16 (a b : Nat) (pcs : List Nat) (i len : Nat) (ins : Instr) : Bool := match ins with
  | .ifCond cd off => decide (mz_cI a = some cd) && decide (len = 3) && mz_nx pcs i 3 && mz_tg pcs i off b
  | _ => false
def mz_k17 (a b : Nat) (pcs : List Nat) (i len : Nat) (ins : Instr) : Bool := match ins with
  | .if_icmp cd off => decide (mz_cI a = some cd) && decide (len = 3) && mz_nx pcs i 3 && mz_tg pcs i off b
  | _ => false
def mz_k18 (b : Nat) (pcs : List Nat) (i len : Nat) (ins : Instr) : Bool := match ins with
  | .goto off => decide (len = 3) && mz_tg pcs i off b
  | _ => false
def mz_zip (pcs : List Nat) (i : Nat) : List Int → List (Int × Nat) → Bool
  | [], [] => true
  | o :: os, q :: qs => mz_tg pcs i o q.2 && mz_zip pcs i os qs
  | _, _ => false
def mz_k19 (b : Nat) (c : Int) (sw : List (Int × Nat)) (pcs : List Nat) (i : Nat) (ins : Instr) : Bool := match ins with
  | .tableswitch d lo hi offs => decide (lo = c) && decide (hi = c + (sw.length : Int) - 1) && mz_tg pcs i d b && mz_zip pcs i offs.toList sw
  | _ => false
def mz_zipL (pcs : List Nat) (i : Nat) : List (Int × Int) → List (Int × Nat) → Bool
  | [], [] => true
  | o :: os, q :: qs => decide (o.1 = q.1) && mz_tg pcs i o.2 q.2 && mz_zipL pcs i os qs
  | _, _ => false
def mz_k39 (b : Nat) (sw : List (Int × Nat)) (pcs : List Nat) (i : Nat) (ins : Instr) : Bool := match ins with
  | .lookupswitch d ps => mz_tg pcs i d b && mz_zipL pcs i ps.toList sw && (ps.toList.zip (ps.toList.drop 1)).all (fun (a, next) => a.1 < next.1)
  | _ => false
/-- a plain instruction of one byte -/
def mz_kp (want : Option Instr) (pcs : List Nat) (i len : Nat) (ins : Instr) : Bool := decide (want = some ins) && decide (len = 1) && mz_nx pcs i 1
def mz_fld (ci k : Nat) : Option (String × String × String × Bool × Nat) := match vwCl[ci]? with
  | some (_, T, N) => if k < N then some ((T k).1, (T k).2.1, (T k).2.2.1, (T k).2.2.2, N) else none
  | none => none
def mz_k20 (own : String) (w a b : Nat) (pcs : List Nat) (i len : Nat) (ins : Instr) : Bool := match ins with
  | .getfield k => (match mz_fld b a with
    | some (c, n, d, _, _) => mz_wok w (.fieldLink own k c n d)
    | none => false) && decide (len = 3) && mz_nx pcs i 3
  | _ => false
/-- kind 0: I, 1: Z, 2: a reference -/
def mz_kd (k : Int) (d : String) : Bool := match parseFieldDescriptor d with
  | some .int => decide (k = 0)
  | some .boolean => decide (k = 1)
  | some (.object _) => decide (k = 2)
  | some (.array _) => decide (k = 2)
  | _ => false
def mz_k21 (own name : String) (w a b : Nat) (c : Int) (pcs : List Nat) (i len : Nat) (ins : Instr) : Bool := match ins with
  | .putfield k => (match mz_fld b a with
    | some (cn, n, d, fin, _) => mz_wok w (.fieldLink own k cn n d) && mz_kd c d && (!fin || (decide (name = "<init>") && decide (cn = own)))
    | none => false) && decide (len = 3) && mz_nx pcs i 3
  | _ => false
def mz_aldI (a : Nat) : Option Instr := match a with
  | 0 => some .iaload
  | 1 => some .laload
  | 2 => some .baload
  | 3 => some .aaload
  | _ => none
def mz_astI (a : Nat) : Option Instr := match a with
  | 0 => some .iastore
  | 1 => some .lastore
  | 2 => some .bastore
  | 3 => some .aastore
  | _ => none
def mz_k25 (own : String) (w a b : Nat) (pcs : List Nat) (i len : Nat) (ins : Instr) : Bool := match ins with
  | .new k => (match vwCl[a]? with
    | some (C, _, N) => mz_wok w (.classLink own k C) && decide (N = b)
    | none => false) && decide (len = 3) && mz_nx pcs i 3
  | _ => false
def mz_k26 (a : Nat) (pcs : List Nat) (i len : Nat) (ins : Instr) : Bool := match ins with
  | .newarray t => decide ((a = 0 ∧ t = .int) ∨ (a = 1 ∧ t = .long) ∨ (a = 2 ∧ t = .byte) ∨ (a = 3 ∧ t = .boolean)) && decide (len = 2) && mz_nx pcs i 2
  | _ => false
def mz_k27 (own : String) (w : Nat) (pcs : List Nat) (i len : Nat) (ins : Instr) : Bool := match ins with
  | .anewarray k => mz_wok w (.classLink own k "LoopsToUnits$Held") && decide (len = 3) && mz_nx pcs i 3
  | _ => false
def mz_sn (a : Nat) : String := match a with
  | 1 => "FIRST"
  | 2 => "LOWEST"
  | _ => "HIGHEST"
def mz_k28 (own : String) (w a : Nat) (pcs : List Nat) (i len : Nat) (ins : Instr) : Bool := match ins with
  | .getstatic k => mz_wok w (.fieldLink own k "LoopsToUnitsModel" (mz_sn a) "[I") && decide (len = 3) && mz_nx pcs i 3
  | _ => false
def mz_k29 (own : String) (w : Nat) (pcs : List Nat) (i len : Nat) (ins : Instr) : Bool := match ins with
  | .invokespecial k => mz_wok w (.methodLink own k objectInit) && decide (len = 3) && mz_nx pcs i 3
  | _ => false
def mz_k30 (own : String) (w : Nat) (pcs : List Nat) (i len : Nat) (ins : Instr) : Bool := match ins with
  | .invokestatic k => mz_wok w (.methodLink own k arraycopyName) && decide (len = 3) && mz_nx pcs i 3
  | _ => false
/-- instructions that touch no method -/
def mz_okI (y : MethodName) (pcs : List Nat) (w i len : Nat) (ri : mzI) (ins : Instr) : Bool := match ri.1 with
  | 0 => mz_k0 y.cls w ri.2.2.2.1 pcs i len ins
  | 1 => mz_k1 ri.2.2.2.1 pcs i len ins
  | 2 => mz_k2 ri.2.1 ri.2.2.1 pcs i len ins
  | 3 => mz_k3 ri.2.1 ri.2.2.1 pcs i len ins
  | 4 => mz_k4 ri.2.1 pcs i len ins
  | 5 => mz_k5 ri.2.1 ri.2.2.2.1 pcs i len ins
  | 6 => mz_kp (mz_binI ri.2.1) pcs i len ins
  | 7 => mz_kp (mz_unI ri.2.1) pcs i len ins
  | 8 => mz_kp (some .i2l) pcs i len ins
  | 9 => mz_kp (if ri.2.1 = 0 then some .land else some .lor) pcs i len ins
  | 10 => mz_kp (some .lshl) pcs i len ins
  | 11 => mz_kp (some .lcmp) pcs i len ins
  | 12 => mz_kp (some .dup) pcs i len ins
  | 13 => mz_kp (some .dup2) pcs i len ins
  | 14 => mz_kp (some .pop) pcs i len ins
  | 15 => mz_kp (some .dup_x1) pcs i len ins
  | 16 => mz_k16 ri.2.1 ri.2.2.1 pcs i len ins
  | 17 => mz_k17 ri.2.1 ri.2.2.1 pcs i len ins
  | 18 => mz_k18 ri.2.2.1 pcs i len ins
  | 19 => mz_k19 ri.2.2.1 ri.2.2.2.1 ri.2.2.2.2 pcs i ins
  | 39 => mz_k39 ri.2.2.1 ri.2.2.2.2 pcs i ins
  | 20 => mz_k20 y.cls w ri.2.1 ri.2.2.1 pcs i len ins
  | 21 => mz_k21 y.cls y.name w ri.2.1 ri.2.2.1 ri.2.2.2.1 pcs i len ins
  | 22 => mz_kp (mz_aldI ri.2.1) pcs i len ins
  | 23 => mz_kp (mz_astI ri.2.1) pcs i len ins
  | 24 => mz_kp (some .arraylength) pcs i len ins
  | 25 => mz_k25 y.cls w ri.2.1 ri.2.2.1 pcs i len ins
  | 26 => mz_k26 ri.2.1 pcs i len ins
  | 27 => mz_k27 y.cls w pcs i len ins
  | 28 => mz_k28 y.cls w ri.2.1 pcs i len ins
  | 29 => mz_k29 y.cls w pcs i len ins
  | 30 => mz_k30 y.cls w pcs i len ins
  | _ => false
