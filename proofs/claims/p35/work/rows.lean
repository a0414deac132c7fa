section
-- ===== PART A: goes FIRST, ahead of the names: the tables' words, and 'selects' of the private methods out of them =====
/-- a private method of a class that the tables say can be made, by its rows of tables_1 -/
def lw_okq (q : MethodName × Nat) : Prop := (q.1.cls ≠ "java/lang/invoke/MethodHandle" ∧ q.1.cls ≠ "java/lang/invoke/VarHandle") ∧ Cond.instantiable q.1.cls q.2 ∈ tables_1 ∧ Cond.privateMethod q.1 ∈ tables_1 ∧ Cond.instanceMethod q.1 ∈ tables_1
theorem lw_p0 : lw_okq (⟨"LoopsToUnits$Reader", "readsActs", "()Z"⟩, 3) := ⟨⟨by decide +kernel, by decide +kernel⟩, List.mem_of_getElem? (i := 109) (by decide +kernel), List.mem_of_getElem? (i := 408) (by decide +kernel), List.mem_of_getElem? (i := 409) (by decide +kernel)⟩
theorem lw_p1 : lw_okq (⟨"LoopsToUnits$Reader", "readsAct", "(I)Z"⟩, 3) := ⟨⟨by decide +kernel, by decide +kernel⟩, List.mem_of_getElem? (i := 109) (by decide +kernel), List.mem_of_getElem? (i := 412) (by decide +kernel), List.mem_of_getElem? (i := 413) (by decide +kernel)⟩
theorem lw_p2 : lw_okq (⟨"LoopsToUnits$Reader", "readsAccess", "(II)Z"⟩, 3) := ⟨⟨by decide +kernel, by decide +kernel⟩, List.mem_of_getElem? (i := 109) (by decide +kernel), List.mem_of_getElem? (i := 432) (by decide +kernel), List.mem_of_getElem? (i := 433) (by decide +kernel)⟩
theorem lw_p3 : lw_okq (⟨"LoopsToUnits$Reader", "readOperand", "(I)I"⟩, 3) := ⟨⟨by decide +kernel, by decide +kernel⟩, List.mem_of_getElem? (i := 109) (by decide +kernel), List.mem_of_getElem? (i := 437) (by decide +kernel), List.mem_of_getElem? (i := 438) (by decide +kernel)⟩
theorem lw_p4 : lw_okq (⟨"LoopsToUnits$Reader", "marksBehind", "()I"⟩, 3) := ⟨⟨by decide +kernel, by decide +kernel⟩, List.mem_of_getElem? (i := 109) (by decide +kernel), List.mem_of_getElem? (i := 445) (by decide +kernel), List.mem_of_getElem? (i := 446) (by decide +kernel)⟩
theorem lw_p5 : lw_okq (⟨"LoopsToUnits", "forgetTimes", "()V"⟩, 9) := ⟨⟨by decide +kernel, by decide +kernel⟩, List.mem_of_getElem? (i := 22) (by decide +kernel), List.mem_of_getElem? (i := 484) (by decide +kernel), List.mem_of_getElem? (i := 485) (by decide +kernel)⟩
theorem lw_p6 : lw_okq (⟨"LoopsToUnits$Reader", "readsNumber", "(I)Z"⟩, 3) := ⟨⟨by decide +kernel, by decide +kernel⟩, List.mem_of_getElem? (i := 109) (by decide +kernel), List.mem_of_getElem? (i := 507) (by decide +kernel), List.mem_of_getElem? (i := 508) (by decide +kernel)⟩
theorem lw_p7 : lw_okq (⟨"LoopsToUnits", "writeSheet", "(IIII)I"⟩, 9) := ⟨⟨by decide +kernel, by decide +kernel⟩, List.mem_of_getElem? (i := 22) (by decide +kernel), List.mem_of_getElem? (i := 523) (by decide +kernel), List.mem_of_getElem? (i := 524) (by decide +kernel)⟩
theorem lw_p8 : lw_okq (⟨"LoopsToUnits", "setUnit", "(II)I"⟩, 9) := ⟨⟨by decide +kernel, by decide +kernel⟩, List.mem_of_getElem? (i := 22) (by decide +kernel), List.mem_of_getElem? (i := 531) (by decide +kernel), List.mem_of_getElem? (i := 532) (by decide +kernel)⟩
theorem lw_p9 : lw_okq (⟨"LoopsToUnits", "putUnit", "(II)V"⟩, 9) := ⟨⟨by decide +kernel, by decide +kernel⟩, List.mem_of_getElem? (i := 22) (by decide +kernel), List.mem_of_getElem? (i := 541) (by decide +kernel), List.mem_of_getElem? (i := 542) (by decide +kernel)⟩
theorem lw_p10 : lw_okq (⟨"LoopsToUnits", "writeCell", "(III)I"⟩, 9) := ⟨⟨by decide +kernel, by decide +kernel⟩, List.mem_of_getElem? (i := 22) (by decide +kernel), List.mem_of_getElem? (i := 549) (by decide +kernel), List.mem_of_getElem? (i := 550) (by decide +kernel)⟩
theorem lw_p11 : lw_okq (⟨"LoopsToUnits$Player", "find", "(II[I)I"⟩, 7) := ⟨⟨by decide +kernel, by decide +kernel⟩, List.mem_of_getElem? (i := 234) (by decide +kernel), List.mem_of_getElem? (i := 567) (by decide +kernel), List.mem_of_getElem? (i := 568) (by decide +kernel)⟩
theorem lw_p12 : lw_okq (⟨"LoopsToUnits$Player", "operand", "(II)I"⟩, 7) := ⟨⟨by decide +kernel, by decide +kernel⟩, List.mem_of_getElem? (i := 234) (by decide +kernel), List.mem_of_getElem? (i := 571) (by decide +kernel), List.mem_of_getElem? (i := 572) (by decide +kernel)⟩
theorem lw_p13 : lw_okq (⟨"LoopsToUnits$Player", "cellOf", "(II)I"⟩, 7) := ⟨⟨by decide +kernel, by decide +kernel⟩, List.mem_of_getElem? (i := 234) (by decide +kernel), List.mem_of_getElem? (i := 585) (by decide +kernel), List.mem_of_getElem? (i := 586) (by decide +kernel)⟩
theorem lw_p14 : lw_okq (⟨"LoopsToUnits", "tellValues", "(I)V"⟩, 9) := ⟨⟨by decide +kernel, by decide +kernel⟩, List.mem_of_getElem? (i := 22) (by decide +kernel), List.mem_of_getElem? (i := 592) (by decide +kernel), List.mem_of_getElem? (i := 593) (by decide +kernel)⟩
theorem lw_p15 : lw_okq (⟨"LoopsToUnits$Reader", "readsChange", "()Z"⟩, 3) := ⟨⟨by decide +kernel, by decide +kernel⟩, List.mem_of_getElem? (i := 109) (by decide +kernel), List.mem_of_getElem? (i := 613) (by decide +kernel), List.mem_of_getElem? (i := 614) (by decide +kernel)⟩
def lw_privs_1 : List (MethodName × Nat) := [(⟨"LoopsToUnits$Reader", "readsActs", "()Z"⟩, 3), (⟨"LoopsToUnits$Reader", "readsAct", "(I)Z"⟩, 3), (⟨"LoopsToUnits$Reader", "readsAccess", "(II)Z"⟩, 3), (⟨"LoopsToUnits$Reader", "readOperand", "(I)I"⟩, 3), (⟨"LoopsToUnits$Reader", "marksBehind", "()I"⟩, 3), (⟨"LoopsToUnits", "forgetTimes", "()V"⟩, 9), (⟨"LoopsToUnits$Reader", "readsNumber", "(I)Z"⟩, 3), (⟨"LoopsToUnits", "writeSheet", "(IIII)I"⟩, 9), (⟨"LoopsToUnits", "setUnit", "(II)I"⟩, 9), (⟨"LoopsToUnits", "putUnit", "(II)V"⟩, 9), (⟨"LoopsToUnits", "writeCell", "(III)I"⟩, 9), (⟨"LoopsToUnits$Player", "find", "(II[I)I"⟩, 7), (⟨"LoopsToUnits$Player", "operand", "(II)I"⟩, 7), (⟨"LoopsToUnits$Player", "cellOf", "(II)I"⟩, 7), (⟨"LoopsToUnits", "tellValues", "(I)V"⟩, 9), (⟨"LoopsToUnits$Reader", "readsChange", "()Z"⟩, 3)]
theorem lw_r1 : ∀ q ∈ lw_privs_1, lw_okq q := List.forall_mem_cons.mpr ⟨lw_p0, List.forall_mem_cons.mpr ⟨lw_p1, List.forall_mem_cons.mpr ⟨lw_p2, List.forall_mem_cons.mpr ⟨lw_p3, List.forall_mem_cons.mpr ⟨lw_p4, List.forall_mem_cons.mpr ⟨lw_p5, List.forall_mem_cons.mpr ⟨lw_p6, List.forall_mem_cons.mpr ⟨lw_p7, List.forall_mem_cons.mpr ⟨lw_p8, List.forall_mem_cons.mpr ⟨lw_p9, List.forall_mem_cons.mpr ⟨lw_p10, List.forall_mem_cons.mpr ⟨lw_p11, List.forall_mem_cons.mpr ⟨lw_p12, List.forall_mem_cons.mpr ⟨lw_p13, List.forall_mem_cons.mpr ⟨lw_p14, List.forall_mem_cons.mpr ⟨lw_p15, fun _ h => absurd h List.not_mem_nil⟩⟩⟩⟩⟩⟩⟩⟩⟩⟩⟩⟩⟩⟩⟩⟩
theorem lw_p16 : lw_okq (⟨"LoopsToUnits", "doDay", "()I"⟩, 9) := ⟨⟨by decide +kernel, by decide +kernel⟩, List.mem_of_getElem? (i := 22) (by decide +kernel), List.mem_of_getElem? (i := 617) (by decide +kernel), List.mem_of_getElem? (i := 618) (by decide +kernel)⟩
theorem lw_p17 : lw_okq (⟨"LoopsToUnits", "doChange", "(I)I"⟩, 9) := ⟨⟨by decide +kernel, by decide +kernel⟩, List.mem_of_getElem? (i := 22) (by decide +kernel), List.mem_of_getElem? (i := 622) (by decide +kernel), List.mem_of_getElem? (i := 623) (by decide +kernel)⟩
theorem lw_p18 : lw_okq (⟨"LoopsToUnits$Bounds", "findSort", "(I)V"⟩, 18) := ⟨⟨by decide +kernel, by decide +kernel⟩, List.mem_of_getElem? (i := 128) (by decide +kernel), List.mem_of_getElem? (i := 648) (by decide +kernel), List.mem_of_getElem? (i := 649) (by decide +kernel)⟩
theorem lw_p19 : lw_okq (⟨"LoopsToUnits$Bounds", "findAddress", "(I)V"⟩, 18) := ⟨⟨by decide +kernel, by decide +kernel⟩, List.mem_of_getElem? (i := 128) (by decide +kernel), List.mem_of_getElem? (i := 656) (by decide +kernel), List.mem_of_getElem? (i := 657) (by decide +kernel)⟩
theorem lw_p20 : lw_okq (⟨"LoopsToUnits$Bounds", "findAddressBy", "(II)V"⟩, 18) := ⟨⟨by decide +kernel, by decide +kernel⟩, List.mem_of_getElem? (i := 128) (by decide +kernel), List.mem_of_getElem? (i := 661) (by decide +kernel), List.mem_of_getElem? (i := 662) (by decide +kernel)⟩
theorem lw_p21 : lw_okq (⟨"LoopsToUnits$Bounds", "addOperand", "(II)V"⟩, 18) := ⟨⟨by decide +kernel, by decide +kernel⟩, List.mem_of_getElem? (i := 128) (by decide +kernel), List.mem_of_getElem? (i := 665) (by decide +kernel), List.mem_of_getElem? (i := 666) (by decide +kernel)⟩
theorem lw_p22 : lw_okq (⟨"LoopsToUnits$Bounds", "add", "(IIII)V"⟩, 18) := ⟨⟨by decide +kernel, by decide +kernel⟩, List.mem_of_getElem? (i := 128) (by decide +kernel), List.mem_of_getElem? (i := 670) (by decide +kernel), List.mem_of_getElem? (i := 671) (by decide +kernel)⟩
theorem lw_p23 : lw_okq (⟨"LoopsToUnits$Bounds", "addAccess", "(II)V"⟩, 18) := ⟨⟨by decide +kernel, by decide +kernel⟩, List.mem_of_getElem? (i := 128) (by decide +kernel), List.mem_of_getElem? (i := 674) (by decide +kernel), List.mem_of_getElem? (i := 675) (by decide +kernel)⟩
theorem lw_p24 : lw_okq (⟨"LoopsToUnits$Bounds", "findRings", "()V"⟩, 18) := ⟨⟨by decide +kernel, by decide +kernel⟩, List.mem_of_getElem? (i := 128) (by decide +kernel), List.mem_of_getElem? (i := 679) (by decide +kernel), List.mem_of_getElem? (i := 680) (by decide +kernel)⟩
theorem lw_p25 : lw_okq (⟨"LoopsToUnits$Bounds", "findsEarliest", "(I)Z"⟩, 18) := ⟨⟨by decide +kernel, by decide +kernel⟩, List.mem_of_getElem? (i := 128) (by decide +kernel), List.mem_of_getElem? (i := 687) (by decide +kernel), List.mem_of_getElem? (i := 688) (by decide +kernel)⟩
theorem lw_p26 : lw_okq (⟨"LoopsToUnits$Bounds", "raises", "(II)Z"⟩, 18) := ⟨⟨by decide +kernel, by decide +kernel⟩, List.mem_of_getElem? (i := 128) (by decide +kernel), List.mem_of_getElem? (i := 695) (by decide +kernel), List.mem_of_getElem? (i := 696) (by decide +kernel)⟩
theorem lw_p27 : lw_okq (⟨"LoopsToUnits$Bounds", "findLatest", "(I)V"⟩, 18) := ⟨⟨by decide +kernel, by decide +kernel⟩, List.mem_of_getElem? (i := 128) (by decide +kernel), List.mem_of_getElem? (i := 707) (by decide +kernel), List.mem_of_getElem? (i := 708) (by decide +kernel)⟩
theorem lw_p28 : lw_okq (⟨"LoopsToUnits$Bounds", "lastTime", "(II)I"⟩, 18) := ⟨⟨by decide +kernel, by decide +kernel⟩, List.mem_of_getElem? (i := 128) (by decide +kernel), List.mem_of_getElem? (i := 721) (by decide +kernel), List.mem_of_getElem? (i := 722) (by decide +kernel)⟩
theorem lw_p29 : lw_okq (⟨"LoopsToUnits$Bounds", "lowers", "(II)Z"⟩, 18) := ⟨⟨by decide +kernel, by decide +kernel⟩, List.mem_of_getElem? (i := 128) (by decide +kernel), List.mem_of_getElem? (i := 725) (by decide +kernel), List.mem_of_getElem? (i := 726) (by decide +kernel)⟩
theorem lw_p30 : lw_okq (⟨"LoopsToUnits$Bounds", "findOrder", "(I)V"⟩, 18) := ⟨⟨by decide +kernel, by decide +kernel⟩, List.mem_of_getElem? (i := 128) (by decide +kernel), List.mem_of_getElem? (i := 729) (by decide +kernel), List.mem_of_getElem? (i := 730) (by decide +kernel)⟩
theorem lw_p31 : lw_okq (⟨"LoopsToUnits", "tellTimes", "([II)V"⟩, 9) := ⟨⟨by decide +kernel, by decide +kernel⟩, List.mem_of_getElem? (i := 22) (by decide +kernel), List.mem_of_getElem? (i := 750) (by decide +kernel), List.mem_of_getElem? (i := 751) (by decide +kernel)⟩
def lw_privs_2 : List (MethodName × Nat) := [(⟨"LoopsToUnits", "doDay", "()I"⟩, 9), (⟨"LoopsToUnits", "doChange", "(I)I"⟩, 9), (⟨"LoopsToUnits$Bounds", "findSort", "(I)V"⟩, 18), (⟨"LoopsToUnits$Bounds", "findAddress", "(I)V"⟩, 18), (⟨"LoopsToUnits$Bounds", "findAddressBy", "(II)V"⟩, 18), (⟨"LoopsToUnits$Bounds", "addOperand", "(II)V"⟩, 18), (⟨"LoopsToUnits$Bounds", "add", "(IIII)V"⟩, 18), (⟨"LoopsToUnits$Bounds", "addAccess", "(II)V"⟩, 18), (⟨"LoopsToUnits$Bounds", "findRings", "()V"⟩, 18), (⟨"LoopsToUnits$Bounds", "findsEarliest", "(I)Z"⟩, 18), (⟨"LoopsToUnits$Bounds", "raises", "(II)Z"⟩, 18), (⟨"LoopsToUnits$Bounds", "findLatest", "(I)V"⟩, 18), (⟨"LoopsToUnits$Bounds", "lastTime", "(II)I"⟩, 18), (⟨"LoopsToUnits$Bounds", "lowers", "(II)Z"⟩, 18), (⟨"LoopsToUnits$Bounds", "findOrder", "(I)V"⟩, 18), (⟨"LoopsToUnits", "tellTimes", "([II)V"⟩, 9)]
theorem lw_r2 : ∀ q ∈ lw_privs_2, lw_okq q := List.forall_mem_cons.mpr ⟨lw_p16, List.forall_mem_cons.mpr ⟨lw_p17, List.forall_mem_cons.mpr ⟨lw_p18, List.forall_mem_cons.mpr ⟨lw_p19, List.forall_mem_cons.mpr ⟨lw_p20, List.forall_mem_cons.mpr ⟨lw_p21, List.forall_mem_cons.mpr ⟨lw_p22, List.forall_mem_cons.mpr ⟨lw_p23, List.forall_mem_cons.mpr ⟨lw_p24, List.forall_mem_cons.mpr ⟨lw_p25, List.forall_mem_cons.mpr ⟨lw_p26, List.forall_mem_cons.mpr ⟨lw_p27, List.forall_mem_cons.mpr ⟨lw_p28, List.forall_mem_cons.mpr ⟨lw_p29, List.forall_mem_cons.mpr ⟨lw_p30, List.forall_mem_cons.mpr ⟨lw_p31, fun _ h => absurd h List.not_mem_nil⟩⟩⟩⟩⟩⟩⟩⟩⟩⟩⟩⟩⟩⟩⟩⟩
theorem lw_p32 : lw_okq (⟨"LoopsToUnits", "isAct", "(I)Z"⟩, 9) := ⟨⟨by decide +kernel, by decide +kernel⟩, List.mem_of_getElem? (i := 22) (by decide +kernel), List.mem_of_getElem? (i := 781) (by decide +kernel), List.mem_of_getElem? (i := 782) (by decide +kernel)⟩
theorem lw_p33 : lw_okq (⟨"LoopsToUnits", "gapNow", "()I"⟩, 9) := ⟨⟨by decide +kernel, by decide +kernel⟩, List.mem_of_getElem? (i := 22) (by decide +kernel), List.mem_of_getElem? (i := 789) (by decide +kernel), List.mem_of_getElem? (i := 790) (by decide +kernel)⟩
theorem lw_p34 : lw_okq (⟨"LoopsToUnits$Planner", "timeFor", "(II)I"⟩, 6) := ⟨⟨by decide +kernel, by decide +kernel⟩, List.mem_of_getElem? (i := 203) (by decide +kernel), List.mem_of_getElem? (i := 803) (by decide +kernel), List.mem_of_getElem? (i := 804) (by decide +kernel)⟩
theorem lw_p35 : lw_okq (⟨"LoopsToUnits$Planner", "firstFor", "(II)I"⟩, 6) := ⟨⟨by decide +kernel, by decide +kernel⟩, List.mem_of_getElem? (i := 203) (by decide +kernel), List.mem_of_getElem? (i := 807) (by decide +kernel), List.mem_of_getElem? (i := 808) (by decide +kernel)⟩
theorem lw_p36 : lw_okq (⟨"LoopsToUnits$Planner", "hasRoom", "(III)Z"⟩, 6) := ⟨⟨by decide +kernel, by decide +kernel⟩, List.mem_of_getElem? (i := 203) (by decide +kernel), List.mem_of_getElem? (i := 814) (by decide +kernel), List.mem_of_getElem? (i := 815) (by decide +kernel)⟩
theorem lw_p37 : lw_okq (⟨"LoopsToUnits$Planner", "mayMeet", "(III)Z"⟩, 6) := ⟨⟨by decide +kernel, by decide +kernel⟩, List.mem_of_getElem? (i := 203) (by decide +kernel), List.mem_of_getElem? (i := 818) (by decide +kernel), List.mem_of_getElem? (i := 819) (by decide +kernel)⟩
theorem lw_p38 : lw_okq (⟨"LoopsToUnits$Planner", "bankIn", "(II)I"⟩, 6) := ⟨⟨by decide +kernel, by decide +kernel⟩, List.mem_of_getElem? (i := 203) (by decide +kernel), List.mem_of_getElem? (i := 822) (by decide +kernel), List.mem_of_getElem? (i := 823) (by decide +kernel)⟩
theorem lw_p39 : lw_okq (⟨"LoopsToUnits$Planner", "comesTooLate", "(II)Z"⟩, 6) := ⟨⟨by decide +kernel, by decide +kernel⟩, List.mem_of_getElem? (i := 203) (by decide +kernel), List.mem_of_getElem? (i := 826) (by decide +kernel), List.mem_of_getElem? (i := 827) (by decide +kernel)⟩
theorem lw_p40 : lw_okq (⟨"LoopsToUnits", "tellTicks", "()V"⟩, 9) := ⟨⟨by decide +kernel, by decide +kernel⟩, List.mem_of_getElem? (i := 22) (by decide +kernel), List.mem_of_getElem? (i := 831) (by decide +kernel), List.mem_of_getElem? (i := 832) (by decide +kernel)⟩
theorem lw_p41 : lw_okq (⟨"LoopsToUnits$Planner", "lastUseOf", "(I)I"⟩, 6) := ⟨⟨by decide +kernel, by decide +kernel⟩, List.mem_of_getElem? (i := 203) (by decide +kernel), List.mem_of_getElem? (i := 887) (by decide +kernel), List.mem_of_getElem? (i := 888) (by decide +kernel)⟩
theorem lw_p42 : lw_okq (⟨"LoopsToUnits$Planner", "useBy", "(III)I"⟩, 6) := ⟨⟨by decide +kernel, by decide +kernel⟩, List.mem_of_getElem? (i := 203) (by decide +kernel), List.mem_of_getElem? (i := 891) (by decide +kernel), List.mem_of_getElem? (i := 892) (by decide +kernel)⟩
theorem lw_p43 : lw_okq (⟨"LoopsToUnits$Binder", "bindFrom", "(III)V"⟩, 13) := ⟨⟨by decide +kernel, by decide +kernel⟩, List.mem_of_getElem? (i := 263) (by decide +kernel), List.mem_of_getElem? (i := 919) (by decide +kernel), List.mem_of_getElem? (i := 920) (by decide +kernel)⟩
theorem lw_p44 : lw_okq (⟨"LoopsToUnits$Binder", "bindTo", "(IIII)V"⟩, 13) := ⟨⟨by decide +kernel, by decide +kernel⟩, List.mem_of_getElem? (i := 263) (by decide +kernel), List.mem_of_getElem? (i := 924) (by decide +kernel), List.mem_of_getElem? (i := 925) (by decide +kernel)⟩
theorem lw_p45 : lw_okq (⟨"LoopsToUnits$Player", "findOrder", "()V"⟩, 7) := ⟨⟨by decide +kernel, by decide +kernel⟩, List.mem_of_getElem? (i := 234) (by decide +kernel), List.mem_of_getElem? (i := 957) (by decide +kernel), List.mem_of_getElem? (i := 958) (by decide +kernel)⟩
theorem lw_p46 : lw_okq (⟨"LoopsToUnits$Player", "workTick", "([III)V"⟩, 7) := ⟨⟨by decide +kernel, by decide +kernel⟩, List.mem_of_getElem? (i := 234) (by decide +kernel), List.mem_of_getElem? (i := 965) (by decide +kernel), List.mem_of_getElem? (i := 966) (by decide +kernel)⟩
theorem lw_p47 : lw_okq (⟨"LoopsToUnits", "ticksOfMachine", "(I)I"⟩, 9) := ⟨⟨by decide +kernel, by decide +kernel⟩, List.mem_of_getElem? (i := 22) (by decide +kernel), List.mem_of_getElem? (i := 970) (by decide +kernel), List.mem_of_getElem? (i := 971) (by decide +kernel)⟩
def lw_privs_3 : List (MethodName × Nat) := [(⟨"LoopsToUnits", "isAct", "(I)Z"⟩, 9), (⟨"LoopsToUnits", "gapNow", "()I"⟩, 9), (⟨"LoopsToUnits$Planner", "timeFor", "(II)I"⟩, 6), (⟨"LoopsToUnits$Planner", "firstFor", "(II)I"⟩, 6), (⟨"LoopsToUnits$Planner", "hasRoom", "(III)Z"⟩, 6), (⟨"LoopsToUnits$Planner", "mayMeet", "(III)Z"⟩, 6), (⟨"LoopsToUnits$Planner", "bankIn", "(II)I"⟩, 6), (⟨"LoopsToUnits$Planner", "comesTooLate", "(II)Z"⟩, 6), (⟨"LoopsToUnits", "tellTicks", "()V"⟩, 9), (⟨"LoopsToUnits$Planner", "lastUseOf", "(I)I"⟩, 6), (⟨"LoopsToUnits$Planner", "useBy", "(III)I"⟩, 6), (⟨"LoopsToUnits$Binder", "bindFrom", "(III)V"⟩, 13), (⟨"LoopsToUnits$Binder", "bindTo", "(IIII)V"⟩, 13), (⟨"LoopsToUnits$Player", "findOrder", "()V"⟩, 7), (⟨"LoopsToUnits$Player", "workTick", "([III)V"⟩, 7), (⟨"LoopsToUnits", "ticksOfMachine", "(I)I"⟩, 9)]
theorem lw_r3 : ∀ q ∈ lw_privs_3, lw_okq q := List.forall_mem_cons.mpr ⟨lw_p32, List.forall_mem_cons.mpr ⟨lw_p33, List.forall_mem_cons.mpr ⟨lw_p34, List.forall_mem_cons.mpr ⟨lw_p35, List.forall_mem_cons.mpr ⟨lw_p36, List.forall_mem_cons.mpr ⟨lw_p37, List.forall_mem_cons.mpr ⟨lw_p38, List.forall_mem_cons.mpr ⟨lw_p39, List.forall_mem_cons.mpr ⟨lw_p40, List.forall_mem_cons.mpr ⟨lw_p41, List.forall_mem_cons.mpr ⟨lw_p42, List.forall_mem_cons.mpr ⟨lw_p43, List.forall_mem_cons.mpr ⟨lw_p44, List.forall_mem_cons.mpr ⟨lw_p45, List.forall_mem_cons.mpr ⟨lw_p46, List.forall_mem_cons.mpr ⟨lw_p47, fun _ h => absurd h List.not_mem_nil⟩⟩⟩⟩⟩⟩⟩⟩⟩⟩⟩⟩⟩⟩⟩⟩
theorem lw_p48 : lw_okq (⟨"LoopsToUnits", "fitsFor", "(II)Z"⟩, 9) := ⟨⟨by decide +kernel, by decide +kernel⟩, List.mem_of_getElem? (i := 22) (by decide +kernel), List.mem_of_getElem? (i := 982) (by decide +kernel), List.mem_of_getElem? (i := 983) (by decide +kernel)⟩
theorem lw_p49 : lw_okq (⟨"LoopsToUnits", "putPools", "(IIII)V"⟩, 9) := ⟨⟨by decide +kernel, by decide +kernel⟩, List.mem_of_getElem? (i := 22) (by decide +kernel), List.mem_of_getElem? (i := 986) (by decide +kernel), List.mem_of_getElem? (i := 987) (by decide +kernel)⟩
theorem lw_p50 : lw_okq (⟨"LoopsToUnits", "tellPools", "()V"⟩, 9) := ⟨⟨by decide +kernel, by decide +kernel⟩, List.mem_of_getElem? (i := 22) (by decide +kernel), List.mem_of_getElem? (i := 990) (by decide +kernel), List.mem_of_getElem? (i := 991) (by decide +kernel)⟩
theorem lw_p51 : lw_okq (⟨"LoopsToUnits", "drawUnit", "(LLoopsToUnits$Draw;)V"⟩, 9) := ⟨⟨by decide +kernel, by decide +kernel⟩, List.mem_of_getElem? (i := 22) (by decide +kernel), List.mem_of_getElem? (i := 1012) (by decide +kernel), List.mem_of_getElem? (i := 1013) (by decide +kernel)⟩
theorem lw_p52 : lw_okq (⟨"java/lang/Throwable", "fillInStackTrace", "(I)Ljava/lang/Throwable;"⟩, 6) := ⟨⟨by decide +kernel, by decide +kernel⟩, List.mem_of_getElem? (i := 1090) (by decide +kernel), List.mem_of_getElem? (i := 1088) (by decide +kernel), List.mem_of_getElem? (i := 1089) (by decide +kernel)⟩
theorem lw_p53 : lw_okq (⟨"LoopsToUnitsModel", "begin", "()V"⟩, 32) := ⟨⟨by decide +kernel, by decide +kernel⟩, List.mem_of_getElem? (i := 1144) (by decide +kernel), List.mem_of_getElem? (i := 1264) (by decide +kernel), List.mem_of_getElem? (i := 1265) (by decide +kernel)⟩
theorem lw_p54 : lw_okq (⟨"LoopsToUnitsModel", "fine", "()Z"⟩, 32) := ⟨⟨by decide +kernel, by decide +kernel⟩, List.mem_of_getElem? (i := 1144) (by decide +kernel), List.mem_of_getElem? (i := 1268) (by decide +kernel), List.mem_of_getElem? (i := 1269) (by decide +kernel)⟩
theorem lw_p55 : lw_okq (⟨"LoopsToUnitsModel", "readAct", "(I)V"⟩, 32) := ⟨⟨by decide +kernel, by decide +kernel⟩, List.mem_of_getElem? (i := 1144) (by decide +kernel), List.mem_of_getElem? (i := 1272) (by decide +kernel), List.mem_of_getElem? (i := 1273) (by decide +kernel)⟩
theorem lw_p56 : lw_okq (⟨"LoopsToUnitsModel", "here", "()I"⟩, 32) := ⟨⟨by decide +kernel, by decide +kernel⟩, List.mem_of_getElem? (i := 1144) (by decide +kernel), List.mem_of_getElem? (i := 1276) (by decide +kernel), List.mem_of_getElem? (i := 1277) (by decide +kernel)⟩
theorem lw_p57 : lw_okq (⟨"LoopsToUnitsModel", "need", "(C)V"⟩, 32) := ⟨⟨by decide +kernel, by decide +kernel⟩, List.mem_of_getElem? (i := 1144) (by decide +kernel), List.mem_of_getElem? (i := 1280) (by decide +kernel), List.mem_of_getElem? (i := 1281) (by decide +kernel)⟩
theorem lw_p58 : lw_okq (⟨"LoopsToUnitsModel", "passes", "(C)Z"⟩, 32) := ⟨⟨by decide +kernel, by decide +kernel⟩, List.mem_of_getElem? (i := 1144) (by decide +kernel), List.mem_of_getElem? (i := 1284) (by decide +kernel), List.mem_of_getElem? (i := 1285) (by decide +kernel)⟩
theorem lw_p59 : lw_okq (⟨"LoopsToUnitsModel", "fault", "(I)V"⟩, 32) := ⟨⟨by decide +kernel, by decide +kernel⟩, List.mem_of_getElem? (i := 1144) (by decide +kernel), List.mem_of_getElem? (i := 1288) (by decide +kernel), List.mem_of_getElem? (i := 1289) (by decide +kernel)⟩
theorem lw_p60 : lw_okq (⟨"LoopsToUnitsModel", "readOperand", "(I)I"⟩, 32) := ⟨⟨by decide +kernel, by decide +kernel⟩, List.mem_of_getElem? (i := 1144) (by decide +kernel), List.mem_of_getElem? (i := 1292) (by decide +kernel), List.mem_of_getElem? (i := 1293) (by decide +kernel)⟩
theorem lw_p61 : lw_okq (⟨"LoopsToUnitsModel", "oneOf", "(CI)I"⟩, 32) := ⟨⟨by decide +kernel, by decide +kernel⟩, List.mem_of_getElem? (i := 1144) (by decide +kernel), List.mem_of_getElem? (i := 1296) (by decide +kernel), List.mem_of_getElem? (i := 1297) (by decide +kernel)⟩
theorem lw_p62 : lw_okq (⟨"LoopsToUnitsModel", "wasRight", "()Z"⟩, 32) := ⟨⟨by decide +kernel, by decide +kernel⟩, List.mem_of_getElem? (i := 1144) (by decide +kernel), List.mem_of_getElem? (i := 1301) (by decide +kernel), List.mem_of_getElem? (i := 1302) (by decide +kernel)⟩
theorem lw_p63 : lw_okq (⟨"LoopsToUnitsModel", "change", "()V"⟩, 32) := ⟨⟨by decide +kernel, by decide +kernel⟩, List.mem_of_getElem? (i := 1144) (by decide +kernel), List.mem_of_getElem? (i := 1305) (by decide +kernel), List.mem_of_getElem? (i := 1306) (by decide +kernel)⟩
def lw_privs_4 : List (MethodName × Nat) := [(⟨"LoopsToUnits", "fitsFor", "(II)Z"⟩, 9), (⟨"LoopsToUnits", "putPools", "(IIII)V"⟩, 9), (⟨"LoopsToUnits", "tellPools", "()V"⟩, 9), (⟨"LoopsToUnits", "drawUnit", "(LLoopsToUnits$Draw;)V"⟩, 9), (⟨"java/lang/Throwable", "fillInStackTrace", "(I)Ljava/lang/Throwable;"⟩, 6), (⟨"LoopsToUnitsModel", "begin", "()V"⟩, 32), (⟨"LoopsToUnitsModel", "fine", "()Z"⟩, 32), (⟨"LoopsToUnitsModel", "readAct", "(I)V"⟩, 32), (⟨"LoopsToUnitsModel", "here", "()I"⟩, 32), (⟨"LoopsToUnitsModel", "need", "(C)V"⟩, 32), (⟨"LoopsToUnitsModel", "passes", "(C)Z"⟩, 32), (⟨"LoopsToUnitsModel", "fault", "(I)V"⟩, 32), (⟨"LoopsToUnitsModel", "readOperand", "(I)I"⟩, 32), (⟨"LoopsToUnitsModel", "oneOf", "(CI)I"⟩, 32), (⟨"LoopsToUnitsModel", "wasRight", "()Z"⟩, 32), (⟨"LoopsToUnitsModel", "change", "()V"⟩, 32)]
theorem lw_r4 : ∀ q ∈ lw_privs_4, lw_okq q := List.forall_mem_cons.mpr ⟨lw_p48, List.forall_mem_cons.mpr ⟨lw_p49, List.forall_mem_cons.mpr ⟨lw_p50, List.forall_mem_cons.mpr ⟨lw_p51, List.forall_mem_cons.mpr ⟨lw_p52, List.forall_mem_cons.mpr ⟨lw_p53, List.forall_mem_cons.mpr ⟨lw_p54, List.forall_mem_cons.mpr ⟨lw_p55, List.forall_mem_cons.mpr ⟨lw_p56, List.forall_mem_cons.mpr ⟨lw_p57, List.forall_mem_cons.mpr ⟨lw_p58, List.forall_mem_cons.mpr ⟨lw_p59, List.forall_mem_cons.mpr ⟨lw_p60, List.forall_mem_cons.mpr ⟨lw_p61, List.forall_mem_cons.mpr ⟨lw_p62, List.forall_mem_cons.mpr ⟨lw_p63, fun _ h => absurd h List.not_mem_nil⟩⟩⟩⟩⟩⟩⟩⟩⟩⟩⟩⟩⟩⟩⟩⟩
theorem lw_p64 : lw_okq (⟨"LoopsToUnitsModel", "note", "()V"⟩, 32) := ⟨⟨by decide +kernel, by decide +kernel⟩, List.mem_of_getElem? (i := 1144) (by decide +kernel), List.mem_of_getElem? (i := 1309) (by decide +kernel), List.mem_of_getElem? (i := 1310) (by decide +kernel)⟩
theorem lw_p65 : lw_okq (⟨"LoopsToUnitsModel", "readNumber", "()I"⟩, 32) := ⟨⟨by decide +kernel, by decide +kernel⟩, List.mem_of_getElem? (i := 1144) (by decide +kernel), List.mem_of_getElem? (i := 1317) (by decide +kernel), List.mem_of_getElem? (i := 1318) (by decide +kernel)⟩
theorem lw_p66 : lw_okq (⟨"LoopsToUnitsModel", "lost", "()I"⟩, 32) := ⟨⟨by decide +kernel, by decide +kernel⟩, List.mem_of_getElem? (i := 1144) (by decide +kernel), List.mem_of_getElem? (i := 1328) (by decide +kernel), List.mem_of_getElem? (i := 1329) (by decide +kernel)⟩
theorem lw_p67 : lw_okq (⟨"LoopsToUnitsModel", "isAct", "(I)Z"⟩, 32) := ⟨⟨by decide +kernel, by decide +kernel⟩, List.mem_of_getElem? (i := 1144) (by decide +kernel), List.mem_of_getElem? (i := 1336) (by decide +kernel), List.mem_of_getElem? (i := 1337) (by decide +kernel)⟩
theorem lw_p68 : lw_okq (⟨"LoopsToUnitsModel", "refusesSet", "(II)I"⟩, 32) := ⟨⟨by decide +kernel, by decide +kernel⟩, List.mem_of_getElem? (i := 1144) (by decide +kernel), List.mem_of_getElem? (i := 1348) (by decide +kernel), List.mem_of_getElem? (i := 1349) (by decide +kernel)⟩
theorem lw_p69 : lw_okq (⟨"LoopsToUnitsModel", "refusesWrite", "(III)I"⟩, 32) := ⟨⟨by decide +kernel, by decide +kernel⟩, List.mem_of_getElem? (i := 1144) (by decide +kernel), List.mem_of_getElem? (i := 1360) (by decide +kernel), List.mem_of_getElem? (i := 1361) (by decide +kernel)⟩
theorem lw_p70 : lw_okq (⟨"LoopsToUnitsModel", "play", "(I)V"⟩, 32) := ⟨⟨by decide +kernel, by decide +kernel⟩, List.mem_of_getElem? (i := 1144) (by decide +kernel), List.mem_of_getElem? (i := 1368) (by decide +kernel), List.mem_of_getElem? (i := 1369) (by decide +kernel)⟩
theorem lw_p71 : lw_okq (⟨"LoopsToUnitsModel", "sort", "(I)I"⟩, 32) := ⟨⟨by decide +kernel, by decide +kernel⟩, List.mem_of_getElem? (i := 1144) (by decide +kernel), List.mem_of_getElem? (i := 1372) (by decide +kernel), List.mem_of_getElem? (i := 1373) (by decide +kernel)⟩
theorem lw_p72 : lw_okq (⟨"LoopsToUnitsModel", "place", "(II)I"⟩, 32) := ⟨⟨by decide +kernel, by decide +kernel⟩, List.mem_of_getElem? (i := 1144) (by decide +kernel), List.mem_of_getElem? (i := 1376) (by decide +kernel), List.mem_of_getElem? (i := 1377) (by decide +kernel)⟩
theorem lw_p73 : lw_okq (⟨"LoopsToUnitsModel", "memoryOf", "(I)I"⟩, 32) := ⟨⟨by decide +kernel, by decide +kernel⟩, List.mem_of_getElem? (i := 1144) (by decide +kernel), List.mem_of_getElem? (i := 1380) (by decide +kernel), List.mem_of_getElem? (i := 1381) (by decide +kernel)⟩
theorem lw_p74 : lw_okq (⟨"LoopsToUnitsModel", "operand", "(II)I"⟩, 32) := ⟨⟨by decide +kernel, by decide +kernel⟩, List.mem_of_getElem? (i := 1144) (by decide +kernel), List.mem_of_getElem? (i := 1384) (by decide +kernel), List.mem_of_getElem? (i := 1385) (by decide +kernel)⟩
theorem lw_p75 : lw_okq (⟨"LoopsToUnitsModel", "value", "(II)I"⟩, 32) := ⟨⟨by decide +kernel, by decide +kernel⟩, List.mem_of_getElem? (i := 1144) (by decide +kernel), List.mem_of_getElem? (i := 1388) (by decide +kernel), List.mem_of_getElem? (i := 1389) (by decide +kernel)⟩
theorem lw_p76 : lw_okq (⟨"LoopsToUnitsModel", "work", "(II)I"⟩, 32) := ⟨⟨by decide +kernel, by decide +kernel⟩, List.mem_of_getElem? (i := 1144) (by decide +kernel), List.mem_of_getElem? (i := 1398) (by decide +kernel), List.mem_of_getElem? (i := 1399) (by decide +kernel)⟩
theorem lw_p77 : lw_okq (⟨"LoopsToUnitsModel", "tellLast", "(I)V"⟩, 32) := ⟨⟨by decide +kernel, by decide +kernel⟩, List.mem_of_getElem? (i := 1144) (by decide +kernel), List.mem_of_getElem? (i := 1402) (by decide +kernel), List.mem_of_getElem? (i := 1403) (by decide +kernel)⟩
theorem lw_p78 : lw_okq (⟨"LoopsToUnitsModel", "tell", "(J)V"⟩, 32) := ⟨⟨by decide +kernel, by decide +kernel⟩, List.mem_of_getElem? (i := 1144) (by decide +kernel), List.mem_of_getElem? (i := 1406) (by decide +kernel), List.mem_of_getElem? (i := 1407) (by decide +kernel)⟩
theorem lw_p79 : lw_okq (⟨"LoopsToUnitsModel", "readChange", "(I)V"⟩, 32) := ⟨⟨by decide +kernel, by decide +kernel⟩, List.mem_of_getElem? (i := 1144) (by decide +kernel), List.mem_of_getElem? (i := 1414) (by decide +kernel), List.mem_of_getElem? (i := 1415) (by decide +kernel)⟩
def lw_privs_5 : List (MethodName × Nat) := [(⟨"LoopsToUnitsModel", "note", "()V"⟩, 32), (⟨"LoopsToUnitsModel", "readNumber", "()I"⟩, 32), (⟨"LoopsToUnitsModel", "lost", "()I"⟩, 32), (⟨"LoopsToUnitsModel", "isAct", "(I)Z"⟩, 32), (⟨"LoopsToUnitsModel", "refusesSet", "(II)I"⟩, 32), (⟨"LoopsToUnitsModel", "refusesWrite", "(III)I"⟩, 32), (⟨"LoopsToUnitsModel", "play", "(I)V"⟩, 32), (⟨"LoopsToUnitsModel", "sort", "(I)I"⟩, 32), (⟨"LoopsToUnitsModel", "place", "(II)I"⟩, 32), (⟨"LoopsToUnitsModel", "memoryOf", "(I)I"⟩, 32), (⟨"LoopsToUnitsModel", "operand", "(II)I"⟩, 32), (⟨"LoopsToUnitsModel", "value", "(II)I"⟩, 32), (⟨"LoopsToUnitsModel", "work", "(II)I"⟩, 32), (⟨"LoopsToUnitsModel", "tellLast", "(I)V"⟩, 32), (⟨"LoopsToUnitsModel", "tell", "(J)V"⟩, 32), (⟨"LoopsToUnitsModel", "readChange", "(I)V"⟩, 32)]
theorem lw_r5 : ∀ q ∈ lw_privs_5, lw_okq q := List.forall_mem_cons.mpr ⟨lw_p64, List.forall_mem_cons.mpr ⟨lw_p65, List.forall_mem_cons.mpr ⟨lw_p66, List.forall_mem_cons.mpr ⟨lw_p67, List.forall_mem_cons.mpr ⟨lw_p68, List.forall_mem_cons.mpr ⟨lw_p69, List.forall_mem_cons.mpr ⟨lw_p70, List.forall_mem_cons.mpr ⟨lw_p71, List.forall_mem_cons.mpr ⟨lw_p72, List.forall_mem_cons.mpr ⟨lw_p73, List.forall_mem_cons.mpr ⟨lw_p74, List.forall_mem_cons.mpr ⟨lw_p75, List.forall_mem_cons.mpr ⟨lw_p76, List.forall_mem_cons.mpr ⟨lw_p77, List.forall_mem_cons.mpr ⟨lw_p78, List.forall_mem_cons.mpr ⟨lw_p79, fun _ h => absurd h List.not_mem_nil⟩⟩⟩⟩⟩⟩⟩⟩⟩⟩⟩⟩⟩⟩⟩⟩
theorem lw_p80 : lw_okq (⟨"LoopsToUnitsModel", "twoDigits", "()I"⟩, 32) := ⟨⟨by decide +kernel, by decide +kernel⟩, List.mem_of_getElem? (i := 1144) (by decide +kernel), List.mem_of_getElem? (i := 1418) (by decide +kernel), List.mem_of_getElem? (i := 1419) (by decide +kernel)⟩
theorem lw_p81 : lw_okq (⟨"LoopsToUnitsModel", "goes", "(I)Z"⟩, 32) := ⟨⟨by decide +kernel, by decide +kernel⟩, List.mem_of_getElem? (i := 1144) (by decide +kernel), List.mem_of_getElem? (i := 1422) (by decide +kernel), List.mem_of_getElem? (i := 1423) (by decide +kernel)⟩
theorem lw_p82 : lw_okq (⟨"LoopsToUnitsModel", "leastOf", "()I"⟩, 32) := ⟨⟨by decide +kernel, by decide +kernel⟩, List.mem_of_getElem? (i := 1144) (by decide +kernel), List.mem_of_getElem? (i := 1434) (by decide +kernel), List.mem_of_getElem? (i := 1435) (by decide +kernel)⟩
theorem lw_p83 : lw_okq (⟨"LoopsToUnitsModel", "rings", "()I"⟩, 32) := ⟨⟨by decide +kernel, by decide +kernel⟩, List.mem_of_getElem? (i := 1144) (by decide +kernel), List.mem_of_getElem? (i := 1438) (by decide +kernel), List.mem_of_getElem? (i := 1439) (by decide +kernel)⟩
theorem lw_p84 : lw_okq (⟨"LoopsToUnitsModel", "layEarly", "(I)Z"⟩, 32) := ⟨⟨by decide +kernel, by decide +kernel⟩, List.mem_of_getElem? (i := 1144) (by decide +kernel), List.mem_of_getElem? (i := 1442) (by decide +kernel), List.mem_of_getElem? (i := 1443) (by decide +kernel)⟩
theorem lw_p85 : lw_okq (⟨"LoopsToUnitsModel", "behind", "(III)I"⟩, 32) := ⟨⟨by decide +kernel, by decide +kernel⟩, List.mem_of_getElem? (i := 1144) (by decide +kernel), List.mem_of_getElem? (i := 1446) (by decide +kernel), List.mem_of_getElem? (i := 1447) (by decide +kernel)⟩
theorem lw_p86 : lw_okq (⟨"LoopsToUnitsModel", "lasts", "(I)I"⟩, 32) := ⟨⟨by decide +kernel, by decide +kernel⟩, List.mem_of_getElem? (i := 1144) (by decide +kernel), List.mem_of_getElem? (i := 1454) (by decide +kernel), List.mem_of_getElem? (i := 1455) (by decide +kernel)⟩
theorem lw_p87 : lw_okq (⟨"LoopsToUnitsModel", "isSum", "(I)Z"⟩, 32) := ⟨⟨by decide +kernel, by decide +kernel⟩, List.mem_of_getElem? (i := 1144) (by decide +kernel), List.mem_of_getElem? (i := 1458) (by decide +kernel), List.mem_of_getElem? (i := 1459) (by decide +kernel)⟩
theorem lw_p88 : lw_okq (⟨"LoopsToUnitsModel", "later", "(II)I"⟩, 32) := ⟨⟨by decide +kernel, by decide +kernel⟩, List.mem_of_getElem? (i := 1144) (by decide +kernel), List.mem_of_getElem? (i := 1462) (by decide +kernel), List.mem_of_getElem? (i := 1463) (by decide +kernel)⟩
theorem lw_p89 : lw_okq (⟨"LoopsToUnitsModel", "need", "(I)I"⟩, 32) := ⟨⟨by decide +kernel, by decide +kernel⟩, List.mem_of_getElem? (i := 1144) (by decide +kernel), List.mem_of_getElem? (i := 1466) (by decide +kernel), List.mem_of_getElem? (i := 1467) (by decide +kernel)⟩
theorem lw_p90 : lw_okq (⟨"LoopsToUnitsModel", "manyOf", "(I)I"⟩, 32) := ⟨⟨by decide +kernel, by decide +kernel⟩, List.mem_of_getElem? (i := 1144) (by decide +kernel), List.mem_of_getElem? (i := 1470) (by decide +kernel), List.mem_of_getElem? (i := 1471) (by decide +kernel)⟩
theorem lw_p91 : lw_okq (⟨"LoopsToUnitsModel", "tellRow", "([I)V"⟩, 32) := ⟨⟨by decide +kernel, by decide +kernel⟩, List.mem_of_getElem? (i := 1144) (by decide +kernel), List.mem_of_getElem? (i := 1481) (by decide +kernel), List.mem_of_getElem? (i := 1482) (by decide +kernel)⟩
theorem lw_p92 : lw_okq (⟨"LoopsToUnitsModel", "longBy", "([I)I"⟩, 32) := ⟨⟨by decide +kernel, by decide +kernel⟩, List.mem_of_getElem? (i := 1144) (by decide +kernel), List.mem_of_getElem? (i := 1485) (by decide +kernel), List.mem_of_getElem? (i := 1486) (by decide +kernel)⟩
theorem lw_p93 : lw_okq (⟨"LoopsToUnitsModel", "layLate", "(I)V"⟩, 32) := ⟨⟨by decide +kernel, by decide +kernel⟩, List.mem_of_getElem? (i := 1144) (by decide +kernel), List.mem_of_getElem? (i := 1493) (by decide +kernel), List.mem_of_getElem? (i := 1494) (by decide +kernel)⟩
theorem lw_p94 : lw_okq (⟨"LoopsToUnitsModel", "sooner", "(II)I"⟩, 32) := ⟨⟨by decide +kernel, by decide +kernel⟩, List.mem_of_getElem? (i := 1144) (by decide +kernel), List.mem_of_getElem? (i := 1497) (by decide +kernel), List.mem_of_getElem? (i := 1498) (by decide +kernel)⟩
theorem lw_p95 : lw_okq (⟨"LoopsToUnitsModel", "reached", "(I)I"⟩, 32) := ⟨⟨by decide +kernel, by decide +kernel⟩, List.mem_of_getElem? (i := 1144) (by decide +kernel), List.mem_of_getElem? (i := 1511) (by decide +kernel), List.mem_of_getElem? (i := 1512) (by decide +kernel)⟩
def lw_privs_6 : List (MethodName × Nat) := [(⟨"LoopsToUnitsModel", "twoDigits", "()I"⟩, 32), (⟨"LoopsToUnitsModel", "goes", "(I)Z"⟩, 32), (⟨"LoopsToUnitsModel", "leastOf", "()I"⟩, 32), (⟨"LoopsToUnitsModel", "rings", "()I"⟩, 32), (⟨"LoopsToUnitsModel", "layEarly", "(I)Z"⟩, 32), (⟨"LoopsToUnitsModel", "behind", "(III)I"⟩, 32), (⟨"LoopsToUnitsModel", "lasts", "(I)I"⟩, 32), (⟨"LoopsToUnitsModel", "isSum", "(I)Z"⟩, 32), (⟨"LoopsToUnitsModel", "later", "(II)I"⟩, 32), (⟨"LoopsToUnitsModel", "need", "(I)I"⟩, 32), (⟨"LoopsToUnitsModel", "manyOf", "(I)I"⟩, 32), (⟨"LoopsToUnitsModel", "tellRow", "([I)V"⟩, 32), (⟨"LoopsToUnitsModel", "longBy", "([I)I"⟩, 32), (⟨"LoopsToUnitsModel", "layLate", "(I)V"⟩, 32), (⟨"LoopsToUnitsModel", "sooner", "(II)I"⟩, 32), (⟨"LoopsToUnitsModel", "reached", "(I)I"⟩, 32)]
theorem lw_r6 : ∀ q ∈ lw_privs_6, lw_okq q := List.forall_mem_cons.mpr ⟨lw_p80, List.forall_mem_cons.mpr ⟨lw_p81, List.forall_mem_cons.mpr ⟨lw_p82, List.forall_mem_cons.mpr ⟨lw_p83, List.forall_mem_cons.mpr ⟨lw_p84, List.forall_mem_cons.mpr ⟨lw_p85, List.forall_mem_cons.mpr ⟨lw_p86, List.forall_mem_cons.mpr ⟨lw_p87, List.forall_mem_cons.mpr ⟨lw_p88, List.forall_mem_cons.mpr ⟨lw_p89, List.forall_mem_cons.mpr ⟨lw_p90, List.forall_mem_cons.mpr ⟨lw_p91, List.forall_mem_cons.mpr ⟨lw_p92, List.forall_mem_cons.mpr ⟨lw_p93, List.forall_mem_cons.mpr ⟨lw_p94, List.forall_mem_cons.mpr ⟨lw_p95, fun _ h => absurd h List.not_mem_nil⟩⟩⟩⟩⟩⟩⟩⟩⟩⟩⟩⟩⟩⟩⟩⟩
theorem lw_p96 : lw_okq (⟨"LoopsToUnitsModel", "addressKind", "(I)I"⟩, 32) := ⟨⟨by decide +kernel, by decide +kernel⟩, List.mem_of_getElem? (i := 1144) (by decide +kernel), List.mem_of_getElem? (i := 1520) (by decide +kernel), List.mem_of_getElem? (i := 1521) (by decide +kernel)⟩
theorem lw_p97 : lw_okq (⟨"LoopsToUnitsModel", "addressIn", "(II)I"⟩, 32) := ⟨⟨by decide +kernel, by decide +kernel⟩, List.mem_of_getElem? (i := 1144) (by decide +kernel), List.mem_of_getElem? (i := 1524) (by decide +kernel), List.mem_of_getElem? (i := 1525) (by decide +kernel)⟩
theorem lw_p98 : lw_okq (⟨"LoopsToUnitsModel", "gapOf", "()I"⟩, 32) := ⟨⟨by decide +kernel, by decide +kernel⟩, List.mem_of_getElem? (i := 1144) (by decide +kernel), List.mem_of_getElem? (i := 1532) (by decide +kernel), List.mem_of_getElem? (i := 1533) (by decide +kernel)⟩
theorem lw_p99 : lw_okq (⟨"LoopsToUnitsModel", "isPlan", "(I)Z"⟩, 32) := ⟨⟨by decide +kernel, by decide +kernel⟩, List.mem_of_getElem? (i := 1144) (by decide +kernel), List.mem_of_getElem? (i := 1536) (by decide +kernel), List.mem_of_getElem? (i := 1537) (by decide +kernel)⟩
theorem lw_p100 : lw_okq (⟨"LoopsToUnitsModel", "planOf", "(I)Z"⟩, 32) := ⟨⟨by decide +kernel, by decide +kernel⟩, List.mem_of_getElem? (i := 1144) (by decide +kernel), List.mem_of_getElem? (i := 1540) (by decide +kernel), List.mem_of_getElem? (i := 1541) (by decide +kernel)⟩
theorem lw_p101 : lw_okq (⟨"LoopsToUnitsModel", "isPut", "(I)Z"⟩, 32) := ⟨⟨by decide +kernel, by decide +kernel⟩, List.mem_of_getElem? (i := 1144) (by decide +kernel), List.mem_of_getElem? (i := 1544) (by decide +kernel), List.mem_of_getElem? (i := 1545) (by decide +kernel)⟩
theorem lw_p102 : lw_okq (⟨"LoopsToUnitsModel", "putOne", "(II)Z"⟩, 32) := ⟨⟨by decide +kernel, by decide +kernel⟩, List.mem_of_getElem? (i := 1144) (by decide +kernel), List.mem_of_getElem? (i := 1548) (by decide +kernel), List.mem_of_getElem? (i := 1549) (by decide +kernel)⟩
theorem lw_p103 : lw_okq (⟨"LoopsToUnitsModel", "hasRoom", "(III)Z"⟩, 32) := ⟨⟨by decide +kernel, by decide +kernel⟩, List.mem_of_getElem? (i := 1144) (by decide +kernel), List.mem_of_getElem? (i := 1552) (by decide +kernel), List.mem_of_getElem? (i := 1553) (by decide +kernel)⟩
theorem lw_p104 : lw_okq (⟨"LoopsToUnitsModel", "arePeaceful", "(III)Z"⟩, 32) := ⟨⟨by decide +kernel, by decide +kernel⟩, List.mem_of_getElem? (i := 1144) (by decide +kernel), List.mem_of_getElem? (i := 1556) (by decide +kernel), List.mem_of_getElem? (i := 1557) (by decide +kernel)⟩
theorem lw_p105 : lw_okq (⟨"LoopsToUnitsModel", "bankOf", "(II)I"⟩, 32) := ⟨⟨by decide +kernel, by decide +kernel⟩, List.mem_of_getElem? (i := 1144) (by decide +kernel), List.mem_of_getElem? (i := 1560) (by decide +kernel), List.mem_of_getElem? (i := 1561) (by decide +kernel)⟩
theorem lw_p106 : lw_okq (⟨"LoopsToUnitsModel", "tellTicks", "()V"⟩, 32) := ⟨⟨by decide +kernel, by decide +kernel⟩, List.mem_of_getElem? (i := 1144) (by decide +kernel), List.mem_of_getElem? (i := 1564) (by decide +kernel), List.mem_of_getElem? (i := 1565) (by decide +kernel)⟩
theorem lw_p107 : lw_okq (⟨"LoopsToUnitsModel", "roundAt", "(IIII)I"⟩, 32) := ⟨⟨by decide +kernel, by decide +kernel⟩, List.mem_of_getElem? (i := 1144) (by decide +kernel), List.mem_of_getElem? (i := 1592) (by decide +kernel), List.mem_of_getElem? (i := 1593) (by decide +kernel)⟩
theorem lw_p108 : lw_okq (⟨"LoopsToUnitsModel", "lastUse", "(II)I"⟩, 32) := ⟨⟨by decide +kernel, by decide +kernel⟩, List.mem_of_getElem? (i := 1144) (by decide +kernel), List.mem_of_getElem? (i := 1600) (by decide +kernel), List.mem_of_getElem? (i := 1601) (by decide +kernel)⟩
theorem lw_p109 : lw_okq (⟨"LoopsToUnitsModel", "bind", "(IIII)V"⟩, 32) := ⟨⟨by decide +kernel, by decide +kernel⟩, List.mem_of_getElem? (i := 1144) (by decide +kernel), List.mem_of_getElem? (i := 1609) (by decide +kernel), List.mem_of_getElem? (i := 1610) (by decide +kernel)⟩
theorem lw_p110 : lw_okq (⟨"LoopsToUnitsModel", "isFree", "(II)Z"⟩, 32) := ⟨⟨by decide +kernel, by decide +kernel⟩, List.mem_of_getElem? (i := 1144) (by decide +kernel), List.mem_of_getElem? (i := 1613) (by decide +kernel), List.mem_of_getElem? (i := 1614) (by decide +kernel)⟩
theorem lw_p111 : lw_okq (⟨"LoopsToUnitsModel", "newAt", "(II)I"⟩, 32) := ⟨⟨by decide +kernel, by decide +kernel⟩, List.mem_of_getElem? (i := 1144) (by decide +kernel), List.mem_of_getElem? (i := 1617) (by decide +kernel), List.mem_of_getElem? (i := 1618) (by decide +kernel)⟩
def lw_privs_7 : List (MethodName × Nat) := [(⟨"LoopsToUnitsModel", "addressKind", "(I)I"⟩, 32), (⟨"LoopsToUnitsModel", "addressIn", "(II)I"⟩, 32), (⟨"LoopsToUnitsModel", "gapOf", "()I"⟩, 32), (⟨"LoopsToUnitsModel", "isPlan", "(I)Z"⟩, 32), (⟨"LoopsToUnitsModel", "planOf", "(I)Z"⟩, 32), (⟨"LoopsToUnitsModel", "isPut", "(I)Z"⟩, 32), (⟨"LoopsToUnitsModel", "putOne", "(II)Z"⟩, 32), (⟨"LoopsToUnitsModel", "hasRoom", "(III)Z"⟩, 32), (⟨"LoopsToUnitsModel", "arePeaceful", "(III)Z"⟩, 32), (⟨"LoopsToUnitsModel", "bankOf", "(II)I"⟩, 32), (⟨"LoopsToUnitsModel", "tellTicks", "()V"⟩, 32), (⟨"LoopsToUnitsModel", "roundAt", "(IIII)I"⟩, 32), (⟨"LoopsToUnitsModel", "lastUse", "(II)I"⟩, 32), (⟨"LoopsToUnitsModel", "bind", "(IIII)V"⟩, 32), (⟨"LoopsToUnitsModel", "isFree", "(II)Z"⟩, 32), (⟨"LoopsToUnitsModel", "newAt", "(II)I"⟩, 32)]
theorem lw_r7 : ∀ q ∈ lw_privs_7, lw_okq q := List.forall_mem_cons.mpr ⟨lw_p96, List.forall_mem_cons.mpr ⟨lw_p97, List.forall_mem_cons.mpr ⟨lw_p98, List.forall_mem_cons.mpr ⟨lw_p99, List.forall_mem_cons.mpr ⟨lw_p100, List.forall_mem_cons.mpr ⟨lw_p101, List.forall_mem_cons.mpr ⟨lw_p102, List.forall_mem_cons.mpr ⟨lw_p103, List.forall_mem_cons.mpr ⟨lw_p104, List.forall_mem_cons.mpr ⟨lw_p105, List.forall_mem_cons.mpr ⟨lw_p106, List.forall_mem_cons.mpr ⟨lw_p107, List.forall_mem_cons.mpr ⟨lw_p108, List.forall_mem_cons.mpr ⟨lw_p109, List.forall_mem_cons.mpr ⟨lw_p110, List.forall_mem_cons.mpr ⟨lw_p111, fun _ h => absurd h List.not_mem_nil⟩⟩⟩⟩⟩⟩⟩⟩⟩⟩⟩⟩⟩⟩⟩⟩
theorem lw_p112 : lw_okq (⟨"LoopsToUnitsModel", "keepNow", "()V"⟩, 32) := ⟨⟨by decide +kernel, by decide +kernel⟩, List.mem_of_getElem? (i := 1144) (by decide +kernel), List.mem_of_getElem? (i := 1629) (by decide +kernel), List.mem_of_getElem? (i := 1630) (by decide +kernel)⟩
theorem lw_p113 : lw_okq (⟨"LoopsToUnitsModel", "sumOfCells", "()I"⟩, 32) := ⟨⟨by decide +kernel, by decide +kernel⟩, List.mem_of_getElem? (i := 1144) (by decide +kernel), List.mem_of_getElem? (i := 1633) (by decide +kernel), List.mem_of_getElem? (i := 1634) (by decide +kernel)⟩
theorem lw_p114 : lw_okq (⟨"LoopsToUnitsModel", "backNow", "()V"⟩, 32) := ⟨⟨by decide +kernel, by decide +kernel⟩, List.mem_of_getElem? (i := 1144) (by decide +kernel), List.mem_of_getElem? (i := 1637) (by decide +kernel), List.mem_of_getElem? (i := 1638) (by decide +kernel)⟩
theorem lw_p115 : lw_okq (⟨"LoopsToUnitsModel", "ticksOf", "(II)I"⟩, 32) := ⟨⟨by decide +kernel, by decide +kernel⟩, List.mem_of_getElem? (i := 1144) (by decide +kernel), List.mem_of_getElem? (i := 1645) (by decide +kernel), List.mem_of_getElem? (i := 1646) (by decide +kernel)⟩
theorem lw_p116 : lw_okq (⟨"LoopsToUnitsModel", "goTick", "(III)V"⟩, 32) := ⟨⟨by decide +kernel, by decide +kernel⟩, List.mem_of_getElem? (i := 1144) (by decide +kernel), List.mem_of_getElem? (i := 1649) (by decide +kernel), List.mem_of_getElem? (i := 1650) (by decide +kernel)⟩
theorem lw_p117 : lw_okq (⟨"LoopsToUnitsModel", "costOf", "()I"⟩, 32) := ⟨⟨by decide +kernel, by decide +kernel⟩, List.mem_of_getElem? (i := 1144) (by decide +kernel), List.mem_of_getElem? (i := 1661) (by decide +kernel), List.mem_of_getElem? (i := 1662) (by decide +kernel)⟩
theorem lw_p118 : lw_okq (⟨"LoopsToUnitsModel", "isWithin", "(I)Z"⟩, 32) := ⟨⟨by decide +kernel, by decide +kernel⟩, List.mem_of_getElem? (i := 1144) (by decide +kernel), List.mem_of_getElem? (i := 1665) (by decide +kernel), List.mem_of_getElem? (i := 1666) (by decide +kernel)⟩
theorem lw_p119 : lw_okq (⟨"LoopsToUnitsModel", "goDrawn", "()V"⟩, 32) := ⟨⟨by decide +kernel, by decide +kernel⟩, List.mem_of_getElem? (i := 1144) (by decide +kernel), List.mem_of_getElem? (i := 1677) (by decide +kernel), List.mem_of_getElem? (i := 1678) (by decide +kernel)⟩
theorem lw_p120 : lw_okq (⟨"LoopsToUnitsModel", "draw", "(I)I"⟩, 32) := ⟨⟨by decide +kernel, by decide +kernel⟩, List.mem_of_getElem? (i := 1144) (by decide +kernel), List.mem_of_getElem? (i := 1681) (by decide +kernel), List.mem_of_getElem? (i := 1682) (by decide +kernel)⟩
theorem lw_p121 : lw_okq (⟨"LoopsToUnitsModel", "sortMany", "(I)I"⟩, 32) := ⟨⟨by decide +kernel, by decide +kernel⟩, List.mem_of_getElem? (i := 1144) (by decide +kernel), List.mem_of_getElem? (i := 1698) (by decide +kernel), List.mem_of_getElem? (i := 1699) (by decide +kernel)⟩
def lw_privs_8 : List (MethodName × Nat) := [(⟨"LoopsToUnitsModel", "keepNow", "()V"⟩, 32), (⟨"LoopsToUnitsModel", "sumOfCells", "()I"⟩, 32), (⟨"LoopsToUnitsModel", "backNow", "()V"⟩, 32), (⟨"LoopsToUnitsModel", "ticksOf", "(II)I"⟩, 32), (⟨"LoopsToUnitsModel", "goTick", "(III)V"⟩, 32), (⟨"LoopsToUnitsModel", "costOf", "()I"⟩, 32), (⟨"LoopsToUnitsModel", "isWithin", "(I)Z"⟩, 32), (⟨"LoopsToUnitsModel", "goDrawn", "()V"⟩, 32), (⟨"LoopsToUnitsModel", "draw", "(I)I"⟩, 32), (⟨"LoopsToUnitsModel", "sortMany", "(I)I"⟩, 32)]
theorem lw_r8 : ∀ q ∈ lw_privs_8, lw_okq q := List.forall_mem_cons.mpr ⟨lw_p112, List.forall_mem_cons.mpr ⟨lw_p113, List.forall_mem_cons.mpr ⟨lw_p114, List.forall_mem_cons.mpr ⟨lw_p115, List.forall_mem_cons.mpr ⟨lw_p116, List.forall_mem_cons.mpr ⟨lw_p117, List.forall_mem_cons.mpr ⟨lw_p118, List.forall_mem_cons.mpr ⟨lw_p119, List.forall_mem_cons.mpr ⟨lw_p120, List.forall_mem_cons.mpr ⟨lw_p121, fun _ h => absurd h List.not_mem_nil⟩⟩⟩⟩⟩⟩⟩⟩⟩⟩
def lw_privs : List (MethodName × Nat) := lw_privs_1 ++ (lw_privs_2 ++ (lw_privs_3 ++ (lw_privs_4 ++ (lw_privs_5 ++ (lw_privs_6 ++ (lw_privs_7 ++ (lw_privs_8)))))))
def lw_tbl : List Cond := k2_sels lw_privs ++ tables_1
theorem lw_privs_ok : ∀ q ∈ lw_privs, lw_okq q := by
  show ∀ q ∈ lw_privs_1 ++ (lw_privs_2 ++ (lw_privs_3 ++ (lw_privs_4 ++ (lw_privs_5 ++ (lw_privs_6 ++ (lw_privs_7 ++ (lw_privs_8))))))), lw_okq q
  exact List.forall_mem_append.mpr ⟨lw_r1, List.forall_mem_append.mpr ⟨lw_r2, List.forall_mem_append.mpr ⟨lw_r3, List.forall_mem_append.mpr ⟨lw_r4, List.forall_mem_append.mpr ⟨lw_r5, List.forall_mem_append.mpr ⟨lw_r6, List.forall_mem_append.mpr ⟨lw_r7, lw_r8⟩⟩⟩⟩⟩⟩⟩
-- ===== end of PART A; then your names; then what follows =====
/-! ===== BEGIN words of one list among another's, by their places ===== -/
theorem goodIn_r {big : List Cond} (ws : List Cond) (ps : List Nat) (hp : ws = ps.filterMap (fun i => big[i]?)) (h : ws.all goodWord = true) : GoodIn big ws := by
  intro w hw
  have h1 := List.all_eq_true.mp h w hw
  rw [hp] at hw
  obtain ⟨i, -, hi⟩ := List.mem_filterMap.mp hw
  have hm : w ∈ big := by first | exact List.mem_of_getElem? hi | exact List.getElem?_mem hi
  exact ⟨hm, good_of_word h1⟩
theorem goodIn_app {big a b : List Cond} (ha : GoodIn big a) (hb : GoodIn big b) : GoodIn big (a ++ b) := fun w h => (List.mem_append.mp h).elim (ha w) (hb w)
theorem goodIn_ca {big a b : List Cond} {c : Cond} (ha : GoodIn big (c :: a)) (hb : GoodIn big b) : GoodIn big (c :: (a ++ b)) := fun w h => (List.mem_cons.mp h).elim (fun e => ha w (List.mem_cons.mpr (Or.inl e))) (fun h => (List.mem_append.mp h).elim (fun h => ha w (List.mem_cons.mpr (Or.inr h))) (hb w))
theorem goodIn_sub {big ws : List Cond} (hm : ∀ w ∈ ws, w ∈ big) (h : ws.all goodWord = true) : GoodIn big ws := fun w hw => ⟨hm w hw, good_of_word (List.all_eq_true.mp h w hw)⟩
/-! ===== END ===== -/

/-! ===== BEGIN exceptions that leave a method, and their catching by the caller (launches without stack traces) ===== -/
section VXA
/-! The laws vx_back, vx_callV, vx_callS, vx_callSW, vx_throw0, vx_throwS follow proofs of the library, with one case more: JvmDerived/Free/Laws.lean (Back.of_free), Shelf42/LK1.lean (callV, callS), Shelf/KitTraced.lean (throwNew0V, throwNewS). -/
/-- where a method has thrown q: the class by its name, the cell, what was written, the world -/
def vx_T (XC : String → State → State → Prop) (st : State) (q : Addr) (t : State) (mc ms : Nat) (free : Addr → Prop) : Prop :=
  ∃ (E : String) (ce : Cell) (L : List Loc), XC E st t ∧ t.heap[q]? = some ce ∧ ce.vm = .none ∧ st.vm.findClass E = some ce.cls ∧ st.WarmedH t.vm ∧ st.sameButNew ({ t with vm := st.vm } : State) L mc ms ∧ ∀ z ∈ L, free z.base
def vx_Q (Qc : Array Value → State → Outcome → State → Prop) (XC : String → State → State → Prop) (mc ms : Nat) (free : Addr → Prop) : Array Value → State → Outcome → State → Prop := fun a st o t =>
  (Qc a st o t ∧ ∃ L, FrameEnd st o t L mc ms ∧ ∀ q ∈ L, free q.base) ∨ ∃ q, o = .threw q ∧ vx_T XC st q t mc ms free
/-- a callee that returns or throws -/
def vx_Met (l : Launch) (y : MethodName) (ws : List Cond) (rm : Room) (Pc : Array Value → State → Prop) (Qc : Array Value → State → Outcome → State → Prop) (XC : String → State → State → Prop) (mc ms : Nat) (free : Addr → Prop) : Prop :=
  MetFree l y (headSpec ws rm) Pc (fun _ _ _ _ _ => True) (vx_Q Qc XC mc ms free)
def vx_Post (XC : String → State → State → Prop) (mc ms : Nat) (free : Addr → Prop) : Pt → Array Value → Addr → Pt → Prop := fun A a q B =>
  ∃ (g : JFrame) (mk : MethodId) (t : State) (L : List Loc) (E : String) (ce : Cell), B.U.heap = t.heap ∧ B.U.vm = t.vm ∧ XC E (A.U.calling g mk a) t ∧ t.heap[q]? = some ce ∧ ce.vm = .none ∧ A.U.vm.findClass E = some ce.cls ∧ B.locs = A.locs ++ L ∧ (∀ z ∈ L, free z.base) ∧ B.cells = A.cells + mc ∧ B.slots = A.slots + ms
def vx_Back (l : Launch) (R : Room) (p : Program) (e : Env) (below : List Frame) (s : State) (sargs : Array Value) (y : MethodName) (len W9 : Nat)
    (Pre : Pt → Array Value → Prop) (Post : Pt → Array Value → Option Value → Pt → Prop) (PostX : Pt → Array Value → Addr → Pt → Prop) : Prop :=
  ∀ (m : MethodId) (meth : Method) (c : Code) (A : Pt) (g : JFrame) (ig : Instr) (mk : MethodId) (a : Array Value),
    Stand p l e R s m sargs below meth c A.U A.locs A.cells A.slots → g.method = m → g.locals.size = c.maxLocals → decode c.code g.pc = .ok (ig, len) →
    2 * g.monitorRoom + (g.stack.map fun v => v.category).sum ≤ W9 → A.U.methodNamed? y = some mk → Pre A a →
    (∃ (v : Option Value) (B : Pt), Stand p l e R s m sargs below meth c B.U B.locs B.cells B.slots ∧ Post A a v B ∧
      Steps p.tables e below (doInvoke e (A.U.setTop g) [] mk a).1 (B.U.setTop { g with pc := g.pc + len, stack := v.toList ++ g.stack })) ∨
    (∃ (q : Addr) (B : Pt), Stand p l e R s m sargs below meth c B.U B.locs B.cells B.slots ∧ PostX A a q B ∧
      Steps p.tables e below (doInvoke e (A.U.setTop g) [] mk a).1 ((B.U.setTop g).pushFrame (.throwing q)))
section Payer
variable {l : Launch} {R : Room} {p : Program} {e : Env} {below : List Frame} {s : State} {sargs : Array Value} {y : MethodName} {len W9 : Nat}
theorem vx_back {ws : List Cond} {rm : Room} {Pc : Array Value → State → Prop} {Qc : Array Value → State → Outcome → State → Prop} {XC : String → State → State → Prop} {mc ms : Nat} {free : Addr → Prop} {bytes : ByteArray} {maxL : Nat} {ret : Option FieldType}
    (hM : vx_Met l y ws rm Pc Qc XC mc ms free) (hblind : FrameBlind Pc) (hrc : rm.cells = mc) (hrs : rm.slots = ms)
    (hframes : rm.frames + 1 ≤ R.frames) (hlocals : W9 + (maxL + 11) + rm.locals ≤ R.locals)
    (hws : ∀ w ∈ ws, ∀ a' U, s.WarmedH U.vm → w.before a' U = true) (hcode : Cond.code y bytes maxL ret ∈ ws) (hinit : ∀ a' U, s.WarmedH U.vm → (Cond.initialized y.cls).before a' U = true) :
    vx_Back l R p e below s sargs y len W9 (PreOf R mc ms Pc) (PostOf Qc mc ms free) (vx_Post XC mc ms free) := by
  intro m meth c A g ig mk a X hg hsize hdg hW hn hp
  have h1 : (headSpec ws rm).pre.before a A.U = true := atoms_intro fun w hw => hws w hw _ _ X.warmed
  have h2 : (Cond.code y bytes maxL ret).before a A.U = true := hws _ hcode _ _ X.warmed
  have h3 : (Cond.initialized y.cls).before a A.U = true := hinit _ _ X.warmed
  have h4 : A.cells + (headSpec ws rm).room.cells ≤ R.cells := by rw [show (headSpec ws rm).room.cells = mc from hrc]; exact hp.1
  have h5 : A.slots + (headSpec ws rm).room.slots ≤ R.slots := by rw [show (headSpec ws rm).room.slots = ms from hrs]; exact hp.2.1
  have hPc : Pc a (A.U.calling g mk a) := hblind _ _ _ _ hp.2.2
  obtain ⟨U, Ls, c0, s0⟩ := A
  dsimp only [Pt.U, Pt.locs, Pt.cells, Pt.slots] at h1 h2 h3 h4 h5 X hn hPc ⊢
  obtain ⟨methY, cY, hmY, hcY, -, hlY, -, -, -, -⟩ := Cond.code_spec hn h2
  obtain ⟨kY, hkY, -⟩ := className_of_methodNamed hn
  have hinitY : kY.init = .initialized := Cond.initialized_spec (findClass_of_methodNamed hn) hkY h3
  have h : At U g.method c below := by rw [hg]; exact X.here
  have hlocals9 : W9 + (maxL + 11) + (headSpec ws rm).room.locals ≤ R.locals := hlocals
  have happ : (headSpec ws rm).appliesLoose y e.platform (U.calling g mk a) = true :=
    Spec.appliesLoose_calling (g := g) h hdg hn hkY hinitY
      (X.room_calling (g := g) (R' := (headSpec ws rm).room) hsize hmY hcY hframes (by rw [hlY]; omega) h4 h5) h1
  obtain ⟨mid, hmid⟩ := h.above
  have hfr : (U.setTop g).frames = (.java g :: mid) ++ below := by rw [State.frames_setTop' g h.top, hmid]; rfl
  obtain ⟨o, s₂, hsteps, -, hend, hq⟩ := Steps.callFree hM p X.admits X.cas X.clock (acts := []) hfr happ hPc trivial
  have hq' : vx_Q Qc XC mc ms free a (U.calling g mk a) o s₂ := hq
  rw [State.frames_setTop' g h.top] at hend
  obtain ⟨g₀, hg0⟩ := Option.isSome_iff_exists.mp h.top
  obtain ⟨r, hr⟩ := State.topJava?_eq_some.mp hg0
  have hr' : (({ U with heap := s₂.heap, slotsUsed := s₂.slotsUsed } : State).setVm s₂.vm).frames = .java g₀ :: r := hr
  rcases hq' with ⟨hqc, L, hfe, hL⟩ | ⟨q, rfl, E, ce, L, hx, hce, hcv, hcl, hW₂, hsm, hL⟩
  · obtain ⟨⟨v, rfl⟩, hW₂, e2, q2, q3, q4, q5, q6⟩ := id hfe
    have e3 : s₂ = ({ (U.calling g mk a).setFrames s₂.frames with heap := s₂.heap, slotsUsed := s₂.slotsUsed } : State).setVm s₂.vm := by
      have : s₂ = ({ s₂ with vm := (U.calling g mk a).vm } : State).setVm s₂.vm := rfl
      rw [e2] at this
      exact this
    obtain ⟨c₂, i₂, len₂, hc₂, hd₂, hf₂⟩ := hend
    have hW' : U.WarmedH s₂.vm := hW₂
    have hcc : c₂ = c := by
      have h1 : s₂.code? g.method = U.code? g.method := by
        rw [State.code?_eq, State.code?_eq, hW'.alike.method?]
      exact Option.some.inj (hc₂.symm.trans (h1.trans h.code))
    subst hcc
    have hlen : len₂ = len := by rw [hdg] at hd₂; cases hd₂; rfl
    subst hlen
    have hs₂ : s₂ = (({ U with heap := s₂.heap, slotsUsed := s₂.slotsUsed } : State).setVm s₂.vm).setTop { g with pc := g.pc + len₂, stack := v.toList ++ g.stack } := by
      refine e3.trans ?_
      rw [hf₂, State.calling_eq h.top, State.setFrames_setFrames, State.setTop_of_frames _ hr', hr]
      rfl
    have hsame : U.sameButNew ({ U with heap := s₂.heap, slotsUsed := s₂.slotsUsed } : State) L mc ms := by
      refine ⟨?_, q2, q3, q4, q5, q6⟩
      obtain ⟨t, ht, -⟩ := State.frames_cons hr
      show ({ U with heap := s₂.heap, slotsUsed := s₂.slotsUsed } : State) = { U.setFrames U.frames with heap := s₂.heap, slotsUsed := s₂.slotsUsed }
      rw [State.setFrames_self ht]
    subst hg
    refine Or.inl ⟨v, ⟨(({ U with heap := s₂.heap, slotsUsed := s₂.slotsUsed } : State).setVm s₂.vm), Ls ++ L, c0 + mc, s0 + ms⟩,
      ⟨X.admits, X.cas, X.clock, X.frames, X.room, X.hears, X.method, X.code, (X.here.setHeapUsed s₂.heap s₂.slotsUsed).setVm hW'.alike, X.tail, State.WarmedH.trans X.warmed hW', X.limits, X.bytes, X.same.trans (hsame.setVm s.vm)⟩,
      ⟨g, mk, s₂, L, rfl, rfl, hqc, rfl, hL, rfl, rfl⟩, ?_⟩
    show Steps p.tables e below _ ((({ U with heap := s₂.heap, slotsUsed := s₂.slotsUsed } : State).setVm s₂.vm).setTop { g with pc := g.pc + len₂, stack := v.toList ++ g.stack })
    rw [← hs₂]
    exact hsteps
  · obtain ⟨e2, q2, q3, q4, q5, q6⟩ := id hsm
    have e3 : s₂ = ({ (U.calling g mk a).setFrames s₂.frames with heap := s₂.heap, slotsUsed := s₂.slotsUsed } : State).setVm s₂.vm := by
      have : s₂ = ({ s₂ with vm := (U.calling g mk a).vm } : State).setVm s₂.vm := rfl
      rw [e2] at this
      exact this
    have hf₂ : s₂.frames = .throwing q :: .java g :: U.frames.tail := hend
    have hW' : U.WarmedH s₂.vm := hW₂
    have hs₂ : s₂ = ((({ U with heap := s₂.heap, slotsUsed := s₂.slotsUsed } : State).setVm s₂.vm).setTop g).pushFrame (.throwing q) := by
      refine e3.trans ?_
      rw [hf₂, State.calling_eq h.top, State.setFrames_setFrames, State.pushFrame, State.frames_setTop _ hr', State.setTop_of_frames _ hr', State.setFrames_setFrames, hr]
      rfl
    have hsame : U.sameButNew ({ U with heap := s₂.heap, slotsUsed := s₂.slotsUsed } : State) L mc ms := by
      refine ⟨?_, q2, q3, q4, q5, q6⟩
      obtain ⟨t, ht, -⟩ := State.frames_cons hr
      show ({ U with heap := s₂.heap, slotsUsed := s₂.slotsUsed } : State) = { U.setFrames U.frames with heap := s₂.heap, slotsUsed := s₂.slotsUsed }
      rw [State.setFrames_self ht]
    subst hg
    refine Or.inr ⟨q, ⟨(({ U with heap := s₂.heap, slotsUsed := s₂.slotsUsed } : State).setVm s₂.vm), Ls ++ L, c0 + mc, s0 + ms⟩,
      ⟨X.admits, X.cas, X.clock, X.frames, X.room, X.hears, X.method, X.code, (X.here.setHeapUsed s₂.heap s₂.slotsUsed).setVm hW'.alike, X.tail, State.WarmedH.trans X.warmed hW', X.limits, X.bytes, X.same.trans (hsame.setVm s.vm)⟩,
      ⟨g, mk, s₂, L, E, ce, rfl, rfl, hx, hce, hcv, hcl, rfl, hL, rfl, rfl⟩, ?_⟩
    show Steps p.tables e below _ (((({ U with heap := s₂.heap, slotsUsed := s₂.slotsUsed } : State).setVm s₂.vm).setTop g).pushFrame (.throwing q))
    rw [← hs₂]
    exact hsteps
end Payer
section Calls
variable {p : Program} {l : Launch} {e : Env} {R : Room} {s : State} {m : MethodId} {args : Array Value} {below : List Frame} {meth : Method} {c : Code} {T : State} {locs : List Loc} {cells slots : Nat}
theorem vx_callV (X : Stand p l e R s m args below meth c T locs cells slots) (hexec : p.tables.exec = Jvm.exec) {own C : String} {index : Nat} {y : MethodName} {bytes : ByteArray} {maxL : Nat} {ret : Option FieldType}
    (hown : s.vm.findClass own = some m.cls) (hlink : (Cond.methodLink own index y).before args s = true) (hinst : (Cond.instanceMethod y).before args s = true) (hsel : (Cond.selects C y y).before args s = true)
    (hcode : (Cond.code y bytes maxL ret).before args s = true) (hy : y.cls ≠ "java/lang/invoke/MethodHandle" ∧ y.cls ≠ "java/lang/invoke/VarHandle")
    {W9 : Nat} {Pre : Pt → Array Value → Prop} {Post : Pt → Array Value → Option Value → Pt → Prop} {PostX : Pt → Array Value → Addr → Pt → Prop} (hK : vx_Back l R p e below s args y 3 W9 Pre Post PostX)
    {b : Addr} {cellB : Cell} (hcell : T.heap[b]? = some cellB) (hobj : cellB.vm.isStatics = false) (hcls : s.vm.findClass C = some cellB.cls)
    {g : JFrame} (hg : g.method = m) (hsize : g.locals.size = c.maxLocals) {argsL rest : List Value} (hlen : ∀ sig, parseMethodDescriptor y.desc = some sig → argsL.length = sig.parameters.length)
    (hstack : g.stack = argsL.reverse ++ .ref b :: rest) (hW : 2 * g.monitorRoom + (rest.map fun v => v.category).sum ≤ W9) (hdg : decode c.code g.pc = .ok (.invokevirtual index, 3))
    (hpre : ∀ vm₁, s.WarmedH vm₁ → Pre ⟨T.setVm vm₁, locs, cells, slots⟩ (Value.ref b :: argsL).toArray) :
    (∃ (v : Option Value) (vm₁ : Vm) (B : Pt), s.WarmedH vm₁ ∧ Stand p l e R s m args below meth c B.U B.locs B.cells B.slots ∧ Post ⟨T.setVm vm₁, locs, cells, slots⟩ (Value.ref b :: argsL).toArray v B ∧
      ∀ target, Steps p.tables e below (B.U.setTop { g with pc := g.pc + 3, stack := v.toList ++ rest }) target → Steps p.tables e below (T.setTop g) target) ∨
    (∃ (q : Addr) (vm₁ : Vm) (B : Pt), s.WarmedH vm₁ ∧ Stand p l e R s m args below meth c B.U B.locs B.cells B.slots ∧ PostX ⟨T.setVm vm₁, locs, cells, slots⟩ (Value.ref b :: argsL).toArray q B ∧
      Steps p.tables e below (T.setTop g) ((B.U.setTop { g with stack := rest }).pushFrame (.throwing q))) := by
  obtain ⟨mk, methM, hnamed, hmethM, hstM, habM⟩ := Cond.instanceMethod_spec hinst
  obtain ⟨methM', cM, hmethM', -, -, -, -, -, -, hsigM⟩ := Cond.code_spec hnamed hcode
  cases hmethM.symm.trans hmethM'
  obtain ⟨c2, r2, m2, q1, q2, q3, q4, kP, hkP, hkPi⟩ := Cond.selects_spec hsel
  cases hcls.symm.trans q1
  cases (State.methodFound?_of_named hnamed hy).symm.trans q2
  cases hnamed.symm.trans q3
  have hselP : selectMethod e.platform s.vm cellB.cls mk = .method mk := by rw [Launch.admits_selectMethod X.admits]; exact q4
  obtain ⟨vm₁, X₁, hstep₁⟩ := X.invokevirtual hexec hown hlink hnamed hmethM hstM hkP hkPi hy (a := b) (cell := cellB) hcell
    (fun z h => by rw [h] at hobj; cases hobj) hselP hmethM habM hkP hkPi (g := g) hg (argsL := argsL) (rest := rest) (hlen _ hsigM) hstack hdg
  rcases hK m meth c ⟨T.setVm vm₁, locs, cells, slots⟩ { g with stack := rest } (.invokevirtual index) mk (Value.ref b :: argsL).toArray X₁ hg hsize hdg hW (X₁.named hnamed) (hpre vm₁ X₁.warmed) with ⟨v, B, X', hpost, hsteps⟩ | ⟨q, B, X', hpost, hsteps⟩
  · exact Or.inl ⟨v, vm₁, B, X₁.warmed, X', hpost, fun target h => hstep₁ _ fun acts => by rw [doInvoke_state]; exact hsteps.trans h⟩
  · exact Or.inr ⟨q, vm₁, B, X₁.warmed, X', hpost, hstep₁ _ fun acts => by rw [doInvoke_state]; exact hsteps⟩
theorem vx_callS (X : Stand p l e R s m args below meth c T locs cells slots) (hexec : p.tables.exec = Jvm.exec) {own : String} {index : Nat} {y : MethodName} {bytes : ByteArray} {maxL : Nat} {ret : Option FieldType}
    (hown : s.vm.findClass own = some m.cls) (hlink : (Cond.methodLink own index y).before args s = true) (hstat : (Cond.static y).before args s = true) (hinit : (Cond.initialized y.cls).before args s = true)
    (hcode : (Cond.code y bytes maxL ret).before args s = true) (hy : y.cls ≠ "java/lang/invoke/MethodHandle" ∧ y.cls ≠ "java/lang/invoke/VarHandle")
    {W9 : Nat} {Pre : Pt → Array Value → Prop} {Post : Pt → Array Value → Option Value → Pt → Prop} {PostX : Pt → Array Value → Addr → Pt → Prop} (hK : vx_Back l R p e below s args y 3 W9 Pre Post PostX)
    {g : JFrame} (hg : g.method = m) (hsize : g.locals.size = c.maxLocals) {argsL rest : List Value} (hlen : ∀ sig, parseMethodDescriptor y.desc = some sig → argsL.length = sig.parameters.length)
    (hstack : g.stack = argsL.reverse ++ rest) (hW : 2 * g.monitorRoom + (rest.map fun v => v.category).sum ≤ W9) (hdg : decode c.code g.pc = .ok (.invokestatic index, 3))
    (hpre : ∀ vm₁, s.WarmedH vm₁ → Pre ⟨T.setVm vm₁, locs, cells, slots⟩ argsL.toArray) :
    (∃ (v : Option Value) (vm₁ : Vm) (B : Pt), s.WarmedH vm₁ ∧ Stand p l e R s m args below meth c B.U B.locs B.cells B.slots ∧ Post ⟨T.setVm vm₁, locs, cells, slots⟩ argsL.toArray v B ∧
      ∀ target, Steps p.tables e below (B.U.setTop { g with pc := g.pc + 3, stack := v.toList ++ rest }) target → Steps p.tables e below (T.setTop g) target) ∨
    (∃ (q : Addr) (vm₁ : Vm) (B : Pt), s.WarmedH vm₁ ∧ Stand p l e R s m args below meth c B.U B.locs B.cells B.slots ∧ PostX ⟨T.setVm vm₁, locs, cells, slots⟩ argsL.toArray q B ∧
      Steps p.tables e below (T.setTop g) ((B.U.setTop { g with stack := rest }).pushFrame (.throwing q))) := by
  obtain ⟨mk, hnamed⟩ := Cond.code_named hcode
  obtain ⟨methM, cM, hmethM, -, -, -, -, -, -, hsigM⟩ := Cond.code_spec hnamed hcode
  have hstatic : methM.isStatic = true := Cond.static_spec hnamed hmethM hstat
  obtain ⟨kP, hkP, -⟩ := className_of_methodNamed hnamed
  have hinitP : kP.init = .initialized := Cond.initialized_spec (findClass_of_methodNamed hnamed) hkP hinit
  obtain ⟨vm₁, X₁, hstep₁⟩ := X.invokestatic hexec hown hlink hnamed hmethM hstatic hkP hinitP hy (g := g) hg (argsL := argsL) (rest := rest) (hlen _ hsigM) hstack hdg
  rcases hK m meth c ⟨T.setVm vm₁, locs, cells, slots⟩ { g with stack := rest } (.invokestatic index) mk argsL.toArray X₁ hg hsize hdg hW (X₁.named hnamed) (hpre vm₁ X₁.warmed) with ⟨v, B, X', hpost, hsteps⟩ | ⟨q, B, X', hpost, hsteps⟩
  · exact Or.inl ⟨v, vm₁, B, X₁.warmed, X', hpost, fun target h => hstep₁ _ fun acts => by rw [doInvoke_state]; exact hsteps.trans h⟩
  · exact Or.inr ⟨q, vm₁, B, X₁.warmed, X', hpost, hstep₁ _ fun acts => by rw [doInvoke_state]; exact hsteps⟩
end Calls
theorem vx_cls {s : State} {T : State} {vm₁ : Vm} {E : String} {k : ClassId} (hW : s.WarmedH vm₁) (h : (T.setVm vm₁).vm.findClass E = some k) : s.vm.findClass E = some k := by
  have h1 : vm₁.findClass E = some k := h
  rw [hW.alike.findClass] at h1
  exact h1
/-- the method's frame g, with q thrown over it -/
def vx_W (p : Program) (l : Launch) (e : Env) (R : Room) (s : State) (m : MethodId) (args : Array Value) (below : List Frame) (meth : Method) (c : Code) (H : Heap) (locs : List Loc) (cells slots : Nat) (Q : State → Prop) (g : JFrame) (q : Addr) : Prop :=
  ∀ T : State, T.heap = H → Stand p l e R s m args below meth c T locs cells slots → ∃ t, Steps p.tables e below ((T.setTop g).pushFrame (.throwing q)) t ∧ Q t
def vx_Run (p : Program) (l : Launch) (e : Env) (R : Room) (s : State) (m : MethodId) (args : Array Value) (below : List Frame) (meth : Method) (c : Code) (H : Heap) (locs : List Loc) (cells slots mc ms : Nat) (g : JFrame) (rest : List Value) (Qa : State → Outcome → State → Prop) (XC : String → State → State → Prop) (free : Addr → Prop) : Prop :=
  ∀ T : State, T.heap = H → Stand p l e R s m args below meth c T locs cells slots →
    (∃ (v : Option Value) (st₀ t T' : State) (L : List Loc), st₀.heap = H ∧ Stand p l e R s m args below meth c T' (locs ++ L) (cells + mc) (slots + ms) ∧ (∀ q ∈ L, free q.base) ∧ T'.heap = t.heap ∧ T'.vm = t.vm ∧ Qa st₀ (.returned v) t ∧
      Goes p e below T g T' { g with pc := g.pc + 3, stack := v.toList ++ rest }) ∨
    (∃ (q : Addr) (st₀ t T' : State) (L : List Loc) (E : String) (ce : Cell), st₀.heap = H ∧ Stand p l e R s m args below meth c T' (locs ++ L) (cells + mc) (slots + ms) ∧ (∀ z ∈ L, free z.base) ∧ T'.heap = t.heap ∧ T'.vm = t.vm ∧ XC E st₀ t ∧ t.heap[q]? = some ce ∧ ce.vm = .none ∧ s.vm.findClass E = some ce.cls ∧
      Steps p.tables e below (T.setTop g) ((T'.setTop { g with stack := rest }).pushFrame (.throwing q)))
def vx_X {S : Type} (px : S → Prop) (B : String → S → State → Prop) (A : Nat → Prop) : String → State → State → Prop := fun E st t => ∃ u : S, px u ∧ B E u t ∧ va_F A st t
section Runs
variable {p : Program} {l : Launch} {e : Env} {R : Room} {s : State} {m : MethodId} {args : Array Value} {below : List Frame} {meth : Method} {c : Code} {H : Heap} {locs : List Loc} {cells slots : Nat}
variable {y : MethodName} {bytes cc : ByteArray} {maxL nL mc ms n index : Nat} {ret : Option FieldType} {ws : List Cond} {rm : Room} {Pc : Array Value → State → Prop} {Qc : Array Value → State → Outcome → State → Prop} {XC : String → State → State → Prop} {free : Addr → Prop} {Ts : List Cond} {own C : String} {b : Addr} {As rest : List Value} {g : JFrame}
theorem vx_callBack (cb : CallB R s args own index y bytes maxL ret ws rm mc ms n) (hM : vx_Met l y ws rm Pc Qc XC mc ms free) (hbl : FrameBlind Pc) : vx_Back l R p e below s args y 3 8 (PreOf R mc ms Pc) (PostOf Qc mc ms free) (vx_Post XC mc ms free) := by
  obtain ⟨hrc, hrs, hfr, hlo, hws, hcw, -, hini, -⟩ := cb
  exact vx_back (bytes := bytes) (maxL := maxL) (ret := ret) hM hbl hrc hrs hfr hlo hws hcw (fun a' U hW => word_at hW (Or.inl (by first | rfl | simp [Cond.onTables, Cond.keeps, Cond.steady])) hini)
theorem vx_runV (S : CallFix p m c cc nL s args Ts own) (hM : vx_Met l y ws rm Pc Qc XC mc ms free) (cw : CallW R s args own C index y bytes maxL ret ws rm mc ms n) (hp : PreV s H C b Pc As)
    (hg : g.method = m) (hn : As.length = n) (hsize : g.locals.size = nL) (hstack : g.stack = As.reverse ++ .ref b :: rest) (hW : 2 * g.monitorRoom + (rest.map fun v => v.category).sum ≤ 8) (hdg : decode cc g.pc = .ok (.invokevirtual index, 3)) (hf : cells + mc ≤ R.cells ∧ slots + ms ≤ R.slots) :
    vx_Run p l e R s m args below meth c H locs cells slots mc ms g rest (Qc (Value.ref b :: As).toArray) XC free := by
  have hK : vx_Back l R p e below s args y 3 8 (PreOf R mc ms Pc) (PostOf Qc mc ms free) (vx_Post XC mc ms free) := vx_callBack cw.1 hM hp.1
  obtain ⟨⟨-, -, -, -, -, -, hcode, -, hy, hlen, hl⟩, hin, hse⟩ := cw
  obtain ⟨hx, hb, hml, ho, -⟩ := S
  obtain ⟨-, ⟨cellB, hcB, hoB, hclB⟩, hPc⟩ := hp
  intro T hT X
  rcases vx_callV X hx (C := C) (bytes := bytes) (maxL := maxL) (ret := ret) ho hl hin hse hcode hy hK (by rw [hT]; exact hcB) hoB hclB hg (hsize.trans hml.symm) (argsL := As) (rest := rest) (fun sig h => hn.trans (hlen sig h)) hstack hW (by rw [hb]; exact hdg)
    (fun vm₁ hW₁ => ⟨hf.1, hf.2, hPc (T.setVm vm₁) hT hW₁⟩) with ⟨v, vm₁, ⟨U', l2, c2, s2⟩, hW₁, X', ⟨g', mk, t, L, e1, e2, hq, h1, hL, h2, h3⟩, st⟩ | ⟨q, vm₁, ⟨U', l2, c2, s2⟩, hW₁, X', ⟨g', mk, t, L, E, ce, e1, e2, hq, hce, hcv, hcl, h1, hL, h2, h3⟩, st⟩
  · dsimp only [Pt.U, Pt.locs, Pt.cells, Pt.slots] at X' e1 e2 h1 h2 h3 st
    subst h1; subst h2; subst h3
    exact Or.inl ⟨v, (T.setVm vm₁).calling g' mk (Value.ref b :: As).toArray, t, U', L, hT, X', hL, e1, e2, hq, st⟩
  · dsimp only [Pt.U, Pt.locs, Pt.cells, Pt.slots] at X' e1 e2 h1 h2 h3 st hcl
    subst h1; subst h2; subst h3
    exact Or.inr ⟨q, (T.setVm vm₁).calling g' mk (Value.ref b :: As).toArray, t, U', L, E, ce, hT, X', hL, e1, e2, hq, hce, hcv, vx_cls hW₁ hcl, st⟩
theorem vx_runS (S : CallFix p m c cc nL s args Ts own) (hM : vx_Met l y ws rm Pc Qc XC mc ms free) (cw : CallB R s args own index y bytes maxL ret ws rm mc ms n ∧ (Cond.static y).before args s = true) (hp : PreS s H Pc As)
    (hg : g.method = m) (hn : As.length = n) (hsize : g.locals.size = nL) (hstack : g.stack = As.reverse ++ rest) (hW : 2 * g.monitorRoom + (rest.map fun v => v.category).sum ≤ 8) (hdg : decode cc g.pc = .ok (.invokestatic index, 3)) (hf : cells + mc ≤ R.cells ∧ slots + ms ≤ R.slots) :
    vx_Run p l e R s m args below meth c H locs cells slots mc ms g rest (Qc As.toArray) XC free := by
  have hK : vx_Back l R p e below s args y 3 8 (PreOf R mc ms Pc) (PostOf Qc mc ms free) (vx_Post XC mc ms free) := vx_callBack cw.1 hM hp.1
  obtain ⟨⟨-, -, -, -, -, -, hcode, hini, hy, hlen, hl⟩, hstt⟩ := cw
  obtain ⟨hx, hb, hml, ho, -⟩ := S
  intro T hT X
  rcases vx_callS X hx (bytes := bytes) (maxL := maxL) (ret := ret) ho hl hstt hini hcode hy hK hg (hsize.trans hml.symm) (argsL := As) (rest := rest) (fun sig h => hn.trans (hlen sig h)) hstack hW (by rw [hb]; exact hdg)
    (fun vm₁ hW₁ => ⟨hf.1, hf.2, hp.2 (T.setVm vm₁) hT hW₁⟩) with ⟨v, vm₁, ⟨U', l2, c2, s2⟩, hW₁, X', ⟨g', mk, t, L, e1, e2, hq, h1, hL, h2, h3⟩, st⟩ | ⟨q, vm₁, ⟨U', l2, c2, s2⟩, hW₁, X', ⟨g', mk, t, L, E, ce, e1, e2, hq, hce, hcv, hcl, h1, hL, h2, h3⟩, st⟩
  · dsimp only [Pt.U, Pt.locs, Pt.cells, Pt.slots] at X' e1 e2 h1 h2 h3 st
    subst h1; subst h2; subst h3
    exact Or.inl ⟨v, (T.setVm vm₁).calling g' mk As.toArray, t, U', L, hT, X', hL, e1, e2, hq, st⟩
  · dsimp only [Pt.U, Pt.locs, Pt.cells, Pt.slots] at X' e1 e2 h1 h2 h3 st hcl
    subst h1; subst h2; subst h3
    exact Or.inr ⟨q, (T.setVm vm₁).calling g' mk As.toArray, t, U', L, E, ce, hT, X', hL, e1, e2, hq, hce, hcv, vx_cls hW₁ hcl, st⟩
end Runs
section Rows
variable {p : Program} {l : Launch} {e : Env} {R : Room} {s : State} {m : MethodId} {args : Array Value} {below : List Frame} {meth : Method} {c : Code} {H : Heap} {locs : List Loc} {cells slots : Nat} {Q : State → Prop}
variable {mc ms : Nat} {free : Addr → Prop} {A0 A1 : Nat → Prop} {H0 : Heap} {a : Array Value} {pc : Nat} {ls : Array Slot} {st0 rest : List Value}
theorem vx_keep {st₀ t T' : State} {L : List Loc} (h0 : st₀.heap = H) (e1 : T'.heap = t.heap) (hS : va_S A0 H0 H locs) (hA : ∀ q, q < H.size → A1 q → A0 q) (hf : ∀ q, free q → A0 q) (hL : ∀ q ∈ L, free q.base) (hF : va_F A1 st₀ t) :
    H.size ≤ T'.heap.size ∧ (∀ q : Nat, q < H.size → ¬ A1 q → T'.heap[q]? = H[q]?) ∧ va_S A0 H0 T'.heap (locs ++ L) := by
  obtain ⟨hz, hk⟩ := hF
  rw [h0] at hz hk
  exact ⟨by rw [e1]; exact hz, fun q h1 h2 => by rw [e1]; exact hk q h1 h2,
    ⟨Nat.le_trans hS.1 (by rw [e1]; exact hz), fun q h1 h2 => by rw [e1, hk q (Nat.lt_of_lt_of_le h1 hS.1) (fun z => h2 (hA q (Nat.lt_of_lt_of_le h1 hS.1) z))]; exact hS.2.1 q h1 h2, fun q hq => by
      rcases List.mem_append.mp hq with h | h
      · exact hS.2.2 q h
      · exact hf _ (hL q h)⟩⟩
theorem vx_calli {S SX : Type} {post : Int32 → S → Prop} {px : SX → Prop} {B : S → State → Prop} {BX : String → SX → State → Prop} {AX : Nat → Prop} (hr : vx_Run p l e R s m args below meth c H locs cells slots mc ms (F0 m pc ls st0) rest (va_Qi post B A1 a) (vx_X px BX AX) free) (hS : va_S A0 H0 H locs) (hA : ∀ q, q < H.size → A1 q → A0 q) (hf : ∀ q, free q → A0 q) (hAX : ∀ q, q < H.size → AX q → A0 q)
    (kx : ∀ (E : String) (ce : Cell) (q9 : Addr) (u : SX) (t : State) (H1 : Heap) (locs1 : List Loc), t.heap = H1 → s.vm.Alike t.vm → px u → BX E u t → H.size ≤ H1.size → (∀ q : Nat, q < H.size → ¬ AX q → H1[q]? = H[q]?) → va_S A0 H0 H1 locs1 → H1[q9]? = some ce → ce.vm = .none → s.vm.findClass E = some ce.cls → vx_W p l e R s m args below meth c H1 locs1 (cells + mc) (slots + ms) Q (F0 m pc ls rest) q9)
    (kk : ∀ (r : Int32) (u : S) (t : State) (H1 : Heap) (locs1 : List Loc), t.heap = H1 → s.vm.Alike t.vm → post r u → B u t → H.size ≤ H1.size → (∀ q : Nat, q < H.size → ¬ A1 q → H1[q]? = H[q]?) → va_S A0 H0 H1 locs1 → W p l e R s m args below meth c H1 locs1 (cells + mc) (slots + ms) Q (F0 m (pc + 3) ls (.int r :: rest))) : W p l e R s m args below meth c H locs cells slots Q (F0 m pc ls st0) := by
  intro T hT X
  rcases hr T hT X with ⟨v, st₀, t, T', L, h0, X', hL, e1, e2, ⟨⟨r, u, hv, hp, hb⟩, hF⟩, st⟩ | ⟨q, st₀, t, T', L, E, ce, h0, X', hL, e1, e2, ⟨u, hp, hb, hF⟩, hce, hcv, hcl, st⟩
  · cases hv
    obtain ⟨k1, k2, k3⟩ := vx_keep h0 e1 hS hA hf hL hF
    obtain ⟨t2, a1, b1⟩ := kk r u t T'.heap (locs ++ L) e1.symm (by rw [← e2]; exact X'.warmed.alike) hp hb k1 k2 k3 T' rfl X'
    exact ⟨t2, st t2 a1, b1⟩
  · obtain ⟨k1, k2, k3⟩ := vx_keep h0 e1 hS hAX hf hL hF
    obtain ⟨t2, a1, b1⟩ := kx E ce q u t T'.heap (locs ++ L) e1.symm (by rw [← e2]; exact X'.warmed.alike) hp hb k1 k2 k3 (by rw [e1]; exact hce) hcv hcl T' rfl X'
    exact ⟨t2, st.trans a1, b1⟩
theorem vx_calll {S SX : Type} {post : Int64 → S → Prop} {px : SX → Prop} {B : S → State → Prop} {BX : String → SX → State → Prop} {AX : Nat → Prop} (hr : vx_Run p l e R s m args below meth c H locs cells slots mc ms (F0 m pc ls st0) rest (va_Ql post B A1 a) (vx_X px BX AX) free) (hS : va_S A0 H0 H locs) (hA : ∀ q, q < H.size → A1 q → A0 q) (hf : ∀ q, free q → A0 q) (hAX : ∀ q, q < H.size → AX q → A0 q)
    (kx : ∀ (E : String) (ce : Cell) (q9 : Addr) (u : SX) (t : State) (H1 : Heap) (locs1 : List Loc), t.heap = H1 → s.vm.Alike t.vm → px u → BX E u t → H.size ≤ H1.size → (∀ q : Nat, q < H.size → ¬ AX q → H1[q]? = H[q]?) → va_S A0 H0 H1 locs1 → H1[q9]? = some ce → ce.vm = .none → s.vm.findClass E = some ce.cls → vx_W p l e R s m args below meth c H1 locs1 (cells + mc) (slots + ms) Q (F0 m pc ls rest) q9)
    (kk : ∀ (r : Int64) (u : S) (t : State) (H1 : Heap) (locs1 : List Loc), t.heap = H1 → s.vm.Alike t.vm → post r u → B u t → H.size ≤ H1.size → (∀ q : Nat, q < H.size → ¬ A1 q → H1[q]? = H[q]?) → va_S A0 H0 H1 locs1 → W p l e R s m args below meth c H1 locs1 (cells + mc) (slots + ms) Q (F0 m (pc + 3) ls (.long r :: rest))) : W p l e R s m args below meth c H locs cells slots Q (F0 m pc ls st0) := by
  intro T hT X
  rcases hr T hT X with ⟨v, st₀, t, T', L, h0, X', hL, e1, e2, ⟨⟨r, u, hv, hp, hb⟩, hF⟩, st⟩ | ⟨q, st₀, t, T', L, E, ce, h0, X', hL, e1, e2, ⟨u, hp, hb, hF⟩, hce, hcv, hcl, st⟩
  · cases hv
    obtain ⟨k1, k2, k3⟩ := vx_keep h0 e1 hS hA hf hL hF
    obtain ⟨t2, a1, b1⟩ := kk r u t T'.heap (locs ++ L) e1.symm (by rw [← e2]; exact X'.warmed.alike) hp hb k1 k2 k3 T' rfl X'
    exact ⟨t2, st t2 a1, b1⟩
  · obtain ⟨k1, k2, k3⟩ := vx_keep h0 e1 hS hAX hf hL hF
    obtain ⟨t2, a1, b1⟩ := kx E ce q u t T'.heap (locs ++ L) e1.symm (by rw [← e2]; exact X'.warmed.alike) hp hb k1 k2 k3 (by rw [e1]; exact hce) hcv hcl T' rfl X'
    exact ⟨t2, st.trans a1, b1⟩
theorem vx_callf {S SX : Type} {post : UInt32 → S → Prop} {px : SX → Prop} {B : S → State → Prop} {BX : String → SX → State → Prop} {AX : Nat → Prop} (hr : vx_Run p l e R s m args below meth c H locs cells slots mc ms (F0 m pc ls st0) rest (va_Qf post B A1 a) (vx_X px BX AX) free) (hS : va_S A0 H0 H locs) (hA : ∀ q, q < H.size → A1 q → A0 q) (hf : ∀ q, free q → A0 q) (hAX : ∀ q, q < H.size → AX q → A0 q)
    (kx : ∀ (E : String) (ce : Cell) (q9 : Addr) (u : SX) (t : State) (H1 : Heap) (locs1 : List Loc), t.heap = H1 → s.vm.Alike t.vm → px u → BX E u t → H.size ≤ H1.size → (∀ q : Nat, q < H.size → ¬ AX q → H1[q]? = H[q]?) → va_S A0 H0 H1 locs1 → H1[q9]? = some ce → ce.vm = .none → s.vm.findClass E = some ce.cls → vx_W p l e R s m args below meth c H1 locs1 (cells + mc) (slots + ms) Q (F0 m pc ls rest) q9)
    (kk : ∀ (r : UInt32) (u : S) (t : State) (H1 : Heap) (locs1 : List Loc), t.heap = H1 → s.vm.Alike t.vm → post r u → B u t → H.size ≤ H1.size → (∀ q : Nat, q < H.size → ¬ A1 q → H1[q]? = H[q]?) → va_S A0 H0 H1 locs1 → W p l e R s m args below meth c H1 locs1 (cells + mc) (slots + ms) Q (F0 m (pc + 3) ls (.float r :: rest))) : W p l e R s m args below meth c H locs cells slots Q (F0 m pc ls st0) := by
  intro T hT X
  rcases hr T hT X with ⟨v, st₀, t, T', L, h0, X', hL, e1, e2, ⟨⟨r, u, hv, hp, hb⟩, hF⟩, st⟩ | ⟨q, st₀, t, T', L, E, ce, h0, X', hL, e1, e2, ⟨u, hp, hb, hF⟩, hce, hcv, hcl, st⟩
  · cases hv
    obtain ⟨k1, k2, k3⟩ := vx_keep h0 e1 hS hA hf hL hF
    obtain ⟨t2, a1, b1⟩ := kk r u t T'.heap (locs ++ L) e1.symm (by rw [← e2]; exact X'.warmed.alike) hp hb k1 k2 k3 T' rfl X'
    exact ⟨t2, st t2 a1, b1⟩
  · obtain ⟨k1, k2, k3⟩ := vx_keep h0 e1 hS hAX hf hL hF
    obtain ⟨t2, a1, b1⟩ := kx E ce q u t T'.heap (locs ++ L) e1.symm (by rw [← e2]; exact X'.warmed.alike) hp hb k1 k2 k3 (by rw [e1]; exact hce) hcv hcl T' rfl X'
    exact ⟨t2, st.trans a1, b1⟩
theorem vx_calld {S SX : Type} {post : UInt64 → S → Prop} {px : SX → Prop} {B : S → State → Prop} {BX : String → SX → State → Prop} {AX : Nat → Prop} (hr : vx_Run p l e R s m args below meth c H locs cells slots mc ms (F0 m pc ls st0) rest (va_Qd post B A1 a) (vx_X px BX AX) free) (hS : va_S A0 H0 H locs) (hA : ∀ q, q < H.size → A1 q → A0 q) (hf : ∀ q, free q → A0 q) (hAX : ∀ q, q < H.size → AX q → A0 q)
    (kx : ∀ (E : String) (ce : Cell) (q9 : Addr) (u : SX) (t : State) (H1 : Heap) (locs1 : List Loc), t.heap = H1 → s.vm.Alike t.vm → px u → BX E u t → H.size ≤ H1.size → (∀ q : Nat, q < H.size → ¬ AX q → H1[q]? = H[q]?) → va_S A0 H0 H1 locs1 → H1[q9]? = some ce → ce.vm = .none → s.vm.findClass E = some ce.cls → vx_W p l e R s m args below meth c H1 locs1 (cells + mc) (slots + ms) Q (F0 m pc ls rest) q9)
    (kk : ∀ (r : UInt64) (u : S) (t : State) (H1 : Heap) (locs1 : List Loc), t.heap = H1 → s.vm.Alike t.vm → post r u → B u t → H.size ≤ H1.size → (∀ q : Nat, q < H.size → ¬ A1 q → H1[q]? = H[q]?) → va_S A0 H0 H1 locs1 → W p l e R s m args below meth c H1 locs1 (cells + mc) (slots + ms) Q (F0 m (pc + 3) ls (.double r :: rest))) : W p l e R s m args below meth c H locs cells slots Q (F0 m pc ls st0) := by
  intro T hT X
  rcases hr T hT X with ⟨v, st₀, t, T', L, h0, X', hL, e1, e2, ⟨⟨r, u, hv, hp, hb⟩, hF⟩, st⟩ | ⟨q, st₀, t, T', L, E, ce, h0, X', hL, e1, e2, ⟨u, hp, hb, hF⟩, hce, hcv, hcl, st⟩
  · cases hv
    obtain ⟨k1, k2, k3⟩ := vx_keep h0 e1 hS hA hf hL hF
    obtain ⟨t2, a1, b1⟩ := kk r u t T'.heap (locs ++ L) e1.symm (by rw [← e2]; exact X'.warmed.alike) hp hb k1 k2 k3 T' rfl X'
    exact ⟨t2, st t2 a1, b1⟩
  · obtain ⟨k1, k2, k3⟩ := vx_keep h0 e1 hS hAX hf hL hF
    obtain ⟨t2, a1, b1⟩ := kx E ce q u t T'.heap (locs ++ L) e1.symm (by rw [← e2]; exact X'.warmed.alike) hp hb k1 k2 k3 (by rw [e1]; exact hce) hcv hcl T' rfl X'
    exact ⟨t2, st.trans a1, b1⟩
theorem vx_callv {S SX : Type} {post : S → Prop} {px : SX → Prop} {B : S → State → Prop} {BX : String → SX → State → Prop} {AX : Nat → Prop} (hr : vx_Run p l e R s m args below meth c H locs cells slots mc ms (F0 m pc ls st0) rest (va_Qv post B A1 a) (vx_X px BX AX) free) (hS : va_S A0 H0 H locs) (hA : ∀ q, q < H.size → A1 q → A0 q) (hf : ∀ q, free q → A0 q) (hAX : ∀ q, q < H.size → AX q → A0 q)
    (kx : ∀ (E : String) (ce : Cell) (q9 : Addr) (u : SX) (t : State) (H1 : Heap) (locs1 : List Loc), t.heap = H1 → s.vm.Alike t.vm → px u → BX E u t → H.size ≤ H1.size → (∀ q : Nat, q < H.size → ¬ AX q → H1[q]? = H[q]?) → va_S A0 H0 H1 locs1 → H1[q9]? = some ce → ce.vm = .none → s.vm.findClass E = some ce.cls → vx_W p l e R s m args below meth c H1 locs1 (cells + mc) (slots + ms) Q (F0 m pc ls rest) q9)
    (kk : ∀ (u : S) (t : State) (H1 : Heap) (locs1 : List Loc), t.heap = H1 → s.vm.Alike t.vm → post u → B u t → H.size ≤ H1.size → (∀ q : Nat, q < H.size → ¬ A1 q → H1[q]? = H[q]?) → va_S A0 H0 H1 locs1 → W p l e R s m args below meth c H1 locs1 (cells + mc) (slots + ms) Q (F0 m (pc + 3) ls (rest))) : W p l e R s m args below meth c H locs cells slots Q (F0 m pc ls st0) := by
  intro T hT X
  rcases hr T hT X with ⟨v, st₀, t, T', L, h0, X', hL, e1, e2, ⟨⟨u, hv, hp, hb⟩, hF⟩, st⟩ | ⟨q, st₀, t, T', L, E, ce, h0, X', hL, e1, e2, ⟨u, hp, hb, hF⟩, hce, hcv, hcl, st⟩
  · cases hv
    obtain ⟨k1, k2, k3⟩ := vx_keep h0 e1 hS hA hf hL hF
    obtain ⟨t2, a1, b1⟩ := kk u t T'.heap (locs ++ L) e1.symm (by rw [← e2]; exact X'.warmed.alike) hp hb k1 k2 k3 T' rfl X'
    exact ⟨t2, st t2 a1, b1⟩
  · obtain ⟨k1, k2, k3⟩ := vx_keep h0 e1 hS hAX hf hL hF
    obtain ⟨t2, a1, b1⟩ := kx E ce q u t T'.heap (locs ++ L) e1.symm (by rw [← e2]; exact X'.warmed.alike) hp hb k1 k2 k3 (by rw [e1]; exact hce) hcv hcl T' rfl X'
    exact ⟨t2, st.trans a1, b1⟩
end Rows
section Ends
variable {p : Program} {l : Launch} {e : Env} {R : Room} {s : State} {m : MethodId} {args : Array Value} {below : List Frame} {meth : Method} {c : Code} {H : Heap} {locs : List Loc} {cells slots : Nat} {Q : State → Prop}
variable {mc ms : Nat} {free : Addr → Prop} {A0 A1 : Nat → Prop} {H0 : Heap} {a : Array Value} {ls : Array Slot} {st0 rest : List Value}
variable {Qc : Array Value → State → Outcome → State → Prop} {XC : String → State → State → Prop}
/-- what a body that may throw owes at its end -/
def vx_MQ (below : List Frame) (Qc : Array Value → State → Outcome → State → Prop) (XC : String → State → State → Prop) (a : Array Value) (s : State) (mc ms : Nat) (free : Addr → Prop) : State → Prop := fun t =>
  ∃ o, t.status = .running ∧ Ended t below o ∧ vx_Q Qc XC mc ms free a s o t
theorem vx_ret {g : JFrame} {mc ms : Nat} (k : W p l e R s m args below meth c H locs cells slots (MQ below Qc args s mc ms free) g) : W p l e R s m args below meth c H locs cells slots (vx_MQ below Qc XC args s mc ms free) g := by
  intro T hT X
  obtain ⟨t, a1, o, b1, b2, b3, b4⟩ := k T hT X
  exact ⟨t, a1, o, b1, b2, Or.inl ⟨b3, b4⟩⟩
/-- not caught here: it goes on to the caller -/
theorem vx_widen {g : JFrame} {q : Addr} {k n : Nat} (h1 : cells ≤ k) (h2 : slots ≤ n) (kk : vx_W p l e R s m args below meth c H locs k n Q g q) : vx_W p l e R s m args below meth c H locs cells slots Q g q := fun T hT X => kk T hT (stand_widen X h1 h2)
theorem vx_out {pc : Nat} {E : String} {ce : Cell} {q : Addr} {mc ms : Nat} (hout : ∀ x ∈ c.exceptionTable.toList, covers x pc = false) (hlocks : meth.locks = false) (hcell : H[q]? = some ce) (hv : ce.vm = .none) (hcl : s.vm.findClass E = some ce.cls)
    (hx : ∀ t : State, t.heap = H → s.vm.Alike t.vm → XC E s t) (hf : ∀ z ∈ locs, free z.base) (hc : cells ≤ mc) (hs : slots ≤ ms) :
    vx_W p l e R s m args below meth c H locs cells slots (vx_MQ below Qc XC args s mc ms free) (F0 m pc ls rest) q := by
  intro T hT X
  obtain ⟨st1, hrun, hend, hW, hsm⟩ := X.leaveThrown q (g := F0 m pc ls rest) rfl rfl rfl hout hlocks
  have hcell9 : (T.setFrames (.throwing q :: below)).heap[q]? = some ce := by
    show T.heap[q]? = some ce
    rw [hT]; exact hcell
  exact ⟨_, st1, .threw q, hrun, hend, Or.inr ⟨q, rfl, E, ce, locs, hx _ hT hW.alike, hcell9, hv, hcl, hW, hsm.mono hc hs, hf⟩⟩
theorem vx_frame {U : State} {k n : Nat} (h : s.sameButNew ({ U with vm := s.vm } : State) locs k n) : s.heap.size ≤ U.heap.size ∧ ∀ q : Nat, q < s.heap.size → (∀ z ∈ locs, z.base ≠ q) → U.heap[q]? = s.heap[q]? := by
  obtain ⟨-, h2, -, -, -, h6⟩ := h
  refine ⟨h2, fun q hq hz => ?_⟩
  obtain ⟨c9, e1, e2, e3, e4⟩ := h6 q _ (Array.getElem?_eq_getElem hq)
  have hs : c9.slots = (s.heap[q]).slots := Array.ext_getElem? fun i => e4 i fun hm => hz _ hm rfl
  have h9 : c9 = s.heap[q] := by
    rw [hs] at e2
    exact e2
  have e5 : U.heap[q]? = some c9 := e1
  rw [e5, h9, Array.getElem?_eq_getElem hq]
/-- the words of a throw but the four that speak of the heap -/
def vx_no (w : Cond) : Bool := decide (w ≠ .isRef (.static Bundle.tN "UNASSIGNED_STACK" Bundle.steD)) && decide (w ≠ .isRef (.static Bundle.tN "SUPPRESSED_SENTINEL" Bundle.listD)) && decide (w ≠ .laysStatic Bundle.tN "UNASSIGNED_STACK" Bundle.steD) && decide (w ≠ .laysStatic Bundle.tN "SUPPRESSED_SENTINEL" Bundle.listD)
def vx_at0 (own : String) (ic : Nat) (X : String) (names : List String) : List Cond := (Bundle.ownAtoms0 own ic X names).filter vx_no
def vx_atS (own : String) (ic : Nat) (X : String) (names : List String) : List Cond := (Bundle.ownAtoms own ic X names).filter vx_no
/-- a word that the tables alone decide, or a good one -/
def vx_ot (w : Cond) : Bool := w.onTables || goodWord w
theorem vx_ot_at {args a' : Array Value} {s U : State} {w : Cond} (hW : s.WarmedH U.vm) (hvm : s.vm = U.vm) (hg : vx_ot w = true) (h : w.before args s = true) : w.before a' U = true := by
  simp only [vx_ot, Bool.or_eq_true] at hg
  rcases hg with hg | hg
  · exact va_tabs hg hvm h
  · exact word_at hW (good_of_word hg) h
/-- a list's words: the good ones out of the method's own list, the others by premises of their own -/
theorem vx_hat {args : Array Value} {s : State} {L B : List Cond} (h1 : ∀ w ∈ L.filter goodWord, w.before args s = true) (h2 : ∀ w ∈ L.filter (fun w => !goodWord w), w ∈ B) (h3 : ∀ w ∈ B, w.before args s = true) : ∀ w ∈ L, w.before args s = true := by
  intro w hw
  by_cases g : goodWord w = true
  · exact h1 w (List.mem_filter.mpr ⟨hw, g⟩)
  · refine h3 w (h2 w (List.mem_filter.mpr ⟨hw, ?_⟩))
    show (!goodWord w) = true
    cases hgw : goodWord w
    · rfl
    · exact absurd hgw g
theorem vx_c {args : Array Value} {s : State} {w : Cond} {B : List Cond} (h : w.before args s = true) (t : ∀ w ∈ B, w.before args s = true) : ∀ w' ∈ w :: B, w'.before args s = true := fun w' h' => (List.mem_cons.mp h').elim (fun e => by rw [e]; exact h) (t w')
theorem vx_n {args : Array Value} {s : State} : ∀ w ∈ ([] : List Cond), w.before args s = true := fun _ h => nomatch h
theorem vx_own {args : Array Value} {s : State} {L : List Cond} (h1 : ∀ w ∈ L.filter vx_no, w.before args s = true)
    (hU : (Cond.isRef (.static Bundle.tN "UNASSIGNED_STACK" Bundle.steD)).before args s = true) (hN : (Cond.isRef (.static Bundle.tN "SUPPRESSED_SENTINEL" Bundle.listD)).before args s = true)
    (lU : (Cond.laysStatic Bundle.tN "UNASSIGNED_STACK" Bundle.steD).before args s = true) (lN : (Cond.laysStatic Bundle.tN "SUPPRESSED_SENTINEL" Bundle.listD).before args s = true) : ∀ w ∈ L, w.before args s = true := by
  intro w hw
  by_cases e1 : w = .isRef (.static Bundle.tN "UNASSIGNED_STACK" Bundle.steD)
  · rw [e1]; exact hU
  · by_cases e2 : w = .isRef (.static Bundle.tN "SUPPRESSED_SENTINEL" Bundle.listD)
    · rw [e2]; exact hN
    · by_cases e3 : w = .laysStatic Bundle.tN "UNASSIGNED_STACK" Bundle.steD
      · rw [e3]; exact lU
      · by_cases e4 : w = .laysStatic Bundle.tN "SUPPRESSED_SENTINEL" Bundle.listD
        · rw [e4]; exact lN
        · exact h1 w (List.mem_filter.mpr ⟨hw, by unfold vx_no; rw [decide_eq_true e1, decide_eq_true e2, decide_eq_true e3, decide_eq_true e4]; rfl⟩)
/-- where a static field lies, its class's statics cell in H -/
def vx_L (C n d : String) (A : Nat → Prop) (U : State) (H : Heap) : Prop := ∃ (c : ClassId) (k : Class) (i : Nat) (f : Field) (a : Nat) (cell : Cell), U.vm.findClass C = some c ∧ U.fieldFound? C n d = some (c, k, i, f) ∧ f.isStatic = true ∧ k.statics = some a ∧ H[a]? = some cell ∧ cell.vm.isStatics = true ∧ cell.cls = c ∧ f.slot < cell.slots.size ∧ k.staticTypes[f.slot]? = some f.type ∧ ¬ A a
theorem vx_L.moved {C n d : String} {A : Nat → Prop} {u U : State} {H : Heap} (hvm : u.vm.Alike U.vm) (h : vx_L C n d A u H) : vx_L C n d A U H := by
  obtain ⟨c, k, i, f, a, cell, h1, h2, h3, h4, h5, h6, h7, h8, h9, h10⟩ := h
  obtain ⟨k', hi', he⟩ := State.fieldFound?_setVm hvm h2
  exact ⟨c, k', i, f, a, cell, by rw [hvm.findClass]; exact h1, hi', h3, by rw [he]; exact h4, h5, h6, h7, h8, by rw [he]; exact h9, h10⟩
theorem vx_L.kept {C n d : String} {A : Nat → Prop} {U : State} {H H1 : Heap} (h : vx_L C n d A U H) (hq : ∀ a : Nat, a < H.size → ¬ A a → H1[a]? = H[a]?) : vx_L C n d A U H1 := by
  obtain ⟨c, k, i, f, a, cell, h1, h2, h3, h4, h5, h6, h7, h8, h9, h10⟩ := h
  exact ⟨c, k, i, f, a, cell, h1, h2, h3, h4, by rw [hq a (Array.getElem?_eq_some_iff.mp h5).1 h10]; exact h5, h6, h7, h8, h9, h10⟩
theorem vx_L.narrow {C n d : String} {A B : Nat → Prop} {U : State} {H : Heap} (h : vx_L C n d A U H) (hAB : ∀ q, B q → A q) : vx_L C n d B U H := by
  obtain ⟨c, k, i, f, a, cell, h1, h2, h3, h4, h5, h6, h7, h8, h9, h10⟩ := h
  exact ⟨c, k, i, f, a, cell, h1, h2, h3, h4, h5, h6, h7, h8, h9, fun z => h10 (hAB _ z)⟩
theorem vx_L.word {C n d : String} {A : Nat → Prop} {s : State} {args : Array Value} (h : vx_L C n d A s s.heap) : (Cond.laysStatic C n d).before args s = true := by
  obtain ⟨c, k, i, f, a, cell, h1, h2, h3, h4, h5, h6, h7, h8, h9, -⟩ := h
  show (Cond.laysStatic C n d).holds args s none s [] = true
  exact Cond.laysStatic_of h1 h2 h3 h4 h5 h6 h7 h8 h9
/-- .. and what it holds: null or some reference -/
def vx_Zq (C n d : String) (A : Nat → Prop) (U : State) (H : Heap) : Prop := va_Zq C n d A U H ∧ vx_L C n d A U H
theorem vx_Zq.moved {C n d : String} {A : Nat → Prop} {u U : State} {H : Heap} (hvm : u.vm.Alike U.vm) (h : vx_Zq C n d A u H) : vx_Zq C n d A U H := ⟨va_Zq.moved hvm h.1, vx_L.moved hvm h.2⟩
theorem vx_Zq.kept {C n d : String} {A : Nat → Prop} {U : State} {H H1 : Heap} (h : vx_Zq C n d A U H) (hq : ∀ a : Nat, a < H.size → ¬ A a → H1[a]? = H[a]?) : vx_Zq C n d A U H1 := ⟨va_Zq.kept h.1 hq, vx_L.kept h.2 hq⟩
theorem vx_Zq.narrow {C n d : String} {A B : Nat → Prop} {U : State} {H : Heap} (h : vx_Zq C n d A U H) (hAB : ∀ q, B q → A q) : vx_Zq C n d B U H := ⟨va_Zq.narrow h.1 hAB, vx_L.narrow h.2 hAB⟩
theorem vx_Zqof {args : Array Value} {s : State} {C n d : String} {A : Nat → Prop} (hl : (Cond.laysStatic C n d).before args s = true) (hini : (Cond.initialized C).before args s = true) (h : (Cond.isRef (.static C n d)).before args s = true) (hA : ∀ a : Nat, a < s.heap.size → ¬ A a) : vx_Zq C n d A s s.heap := by
  refine ⟨va_Zqof hl hini h hA, ?_⟩
  obtain ⟨c, k, i, f, a, cell, h1, h2, h3, h4, h5, h6, h7, h8, h9⟩ := Cond.laysStatic_spec hl
  exact ⟨c, k, i, f, a, cell, h1, h2, h3, h4, h5, h6, h7, h8, h9, hA a (Array.getElem?_eq_some_iff.mp h5).1⟩
theorem vx_isRef {C n d : String} {v : Value} {A : Nat → Prop} {s : State} {args : Array Value} (h : va_Z C n d v A s s.heap) (hv : v.isRef = true) : (Cond.isRef (.static C n d)).before args s = true := by
  obtain ⟨cf, kf, fi, f, a, cell, h1, h2, h3, h4, h5, h6, h7, -⟩ := h
  have he : (Term.static C n d).eval args s none [] s = some v := by
    simp [Term.eval, State.fieldNamed?, h1, h2, h4, h5, h6, h7]
  simp only [Cond.before, Cond.holds, Cond.value, he]
  cases v <;> simp_all [Value.isRef]
theorem vx_isRefq {C n d : String} {A : Nat → Prop} {s : State} {args : Array Value} (h : va_Zq C n d A s s.heap) : (Cond.isRef (.static C n d)).before args s = true := by
  rcases h with h | ⟨t, h⟩
  · exact vx_isRef h rfl
  · exact vx_isRef h rfl
/-- the same frame, seen from here: as if the method were called anew in this heap -/
theorem vx_rebase {T : State} (X : Stand p l e R s m args below meth c T locs cells slots) {R' : Room} (hf : R'.frames ≤ R.frames) (hl : R'.locals ≤ R.locals) (hc : cells + R'.cells ≤ R.cells) (hs : slots + R'.slots ≤ R.slots) :
    Stand p l e R' ((T.setVm s.vm).setFrames (.invoking m args :: below)) m args below meth c T [] 0 0 := by
  have htop : (T.setVm s.vm).topJava?.isSome := X.here.top
  have hF : ((T.setVm s.vm).setFrames (.invoking m args :: below)).frames = .invoking m args :: below := State.frames_setFrames _ (State.cur_lt_of_top htop)
  obtain ⟨g₀, hg0⟩ := Option.isSome_iff_exists.mp htop
  obtain ⟨r, hr⟩ := State.topJava?_eq_some.mp hg0
  have hl9 : e.platform.stackLimits (T.setVm s.vm).me = e.platform.stackLimits s.me := X.limits
  have hb9 : (T.setVm s.vm).me.stackBytes = s.me.stackBytes := X.bytes
  refine ⟨X.admits, X.cas, X.clock, hF, ?_, X.hears, X.method, X.code, X.here, X.tail, X.warmed, ?_, ?_, ?_⟩
  · have h := X.room
    have hU : ((T.setVm s.vm).setFrames (.invoking m args :: below)).localsInUse = s.localsInUse := by
      rw [State.localsInUse_invoking hF (meth := meth) (c := c) X.method X.code, State.localsInUse_invoking X.frames X.method X.code]
    simp only [State.hasRoom, Bool.and_eq_true, decide_eq_true_eq] at h ⊢
    obtain ⟨⟨⟨⟨h1, h2, h3, h4, h5, h6⟩, h7⟩, h8⟩, h9⟩ := h
    rw [X.frames, List.length_cons] at h2 h3
    have q1 := X.heapSize
    have q2 := X.used
    simp only [hF, hU, List.length_cons, State.stackLimits_setFrames, State.stackBytes_setFrames, hl9, hb9]
    refine ⟨⟨⟨⟨by omega, by omega, by omega, by omega, by omega, h6⟩, ?_⟩, ?_⟩, X.book⟩
    · show T.heap.size + R'.cells ≤ e.platform.maxCells
      omega
    · show T.slotsUsed + R'.slots ≤ e.platform.maxSlots
      omega
  · rw [State.stackLimits_setFrames]; rfl
  · rw [State.stackBytes_setFrames]; rfl
  · refine ⟨?_, Nat.le_refl _, Nat.le_refl _, ?_, ?_, fun a c9 h9 => ⟨c9, h9, rfl, rfl, fun _ _ => rfl⟩⟩
    · obtain ⟨t, ht, -⟩ := State.frames_cons hr
      show T.setVm s.vm = { ((T.setVm s.vm).setFrames (.invoking m args :: below)).setFrames (T.setVm s.vm).frames with heap := T.heap, slotsUsed := T.slotsUsed }
      rw [State.setFrames_setFrames, State.setFrames_self ht]
      rfl
    · show T.slotsUsed = T.slotsUsed + ((T.heap.toList.drop T.heap.size).map (·.slots.size)).sum
      rw [List.drop_eq_nil_of_le (Nat.le_of_eq Array.length_toList)]
      rfl
    · show ((T.heap.toList.drop T.heap.size).map (·.slots.size)).sum ≤ 0
      rw [List.drop_eq_nil_of_le (Nat.le_of_eq Array.length_toList)]
      exact Nat.le_refl _
/-- 'throw new E()': new; dup; invokespecial; athrow -/
theorem vx_throw0 {cc : ByteArray} {pc : Nat} (hexec : p.tables.exec = Jvm.exec) (hb : c.code = cc) (hl : l.stackTraces = false) {own cls : String} {names : List String} {ik ic mc ms : Nat} {A : Nat → Prop}
    (hown : s.vm.findClass own = some m.cls) (hcls : Bundle.fit cls = true) (hnames : ∀ n ∈ names, Bundle.fit n = true)
    (hk : (Cond.classLink own ik cls).before args s = true) (hini : (Cond.initialized cls).before args s = true) (hat : ∀ w ∈ vx_at0 own ic cls names, w.before args s = true)
    (hgood : ∀ w ∈ Cond.classLink own ik cls :: Cond.initialized cls :: vx_at0 own ic cls names, vx_ot w = true)
    (hU : vx_Zq Bundle.tN "UNASSIGNED_STACK" Bundle.steD A s s.heap) (hN : vx_Zq Bundle.tN "SUPPRESSED_SENTINEL" Bundle.listD A s s.heap) (hS : va_S A s.heap H locs) (hsize : ls.size = c.maxLocals)
    (d0 : decode cc pc = .ok (.new ik, 3)) (d3 : decode cc (pc + 3) = .ok (.dup, 1)) (d4 : decode cc (pc + 4) = .ok (.invokespecial ic, 3)) (d7 : decode cc (pc + 7) = .ok (.athrow, 1))
    (hout : ∀ x ∈ c.exceptionTable.toList, covers x (pc + 7) = false)
    (hRframes : names.length + 3 < R.frames) (hRlocals : (rest.map fun v => v.category).sum + (13 * (names.length + 1) + 42) ≤ R.locals) (hRcells : cells + 1 ≤ R.cells) (hRslots : slots + 6 ≤ R.slots) (hlocks : meth.locks = false)
    (hx : ∀ t : State, s.vm.Alike t.vm → H.size ≤ t.heap.size → (∀ q : Nat, q < H.size → t.heap[q]? = H[q]?) → XC cls s t)
    (hf : ∀ z ∈ locs, free z.base) (hc : cells + 1 ≤ mc) (hs : slots + 6 ≤ ms) :
    W p l e R s m args below meth c H locs cells slots (vx_MQ below Qc XC args s mc ms free) (F0 m pc ls rest) := by
  intro T hT X
  have htr : e.platform.stackTraces = false := (show e.platform.stackTraces = l.stackTraces by rw [X.admits.platform]).trans hl
  have Y := vx_rebase X (R' := { frames := R.frames, locals := R.locals, cells := 1, slots := 6 }) (Nat.le_refl _) (Nat.le_refl _) hRcells hRslots
  obtain ⟨s', hA⟩ : ∃ z, z = (T.setVm s.vm).setFrames (.invoking m args :: below) := ⟨_, rfl⟩
  rw [← hA] at Y
  have hvm : s'.vm = s.vm := by rw [hA]; rfl
  have hhp : s'.heap = H := by rw [hA]; exact hT
  have hW0 : s.WarmedH s'.vm := by rw [hvm]; exact State.WarmedH.refl s
  have hat' : ∀ w ∈ vx_at0 own ic cls names, w.before args s' = true := fun w hw => vx_ot_at hW0 hvm.symm (hgood w (List.mem_cons_of_mem _ (List.mem_cons_of_mem _ hw))) (hat w hw)
  have hk' : (Cond.classLink own ik cls).before args s' = true := vx_ot_at hW0 hvm.symm (hgood _ List.mem_cons_self) hk
  have hini' : (Cond.initialized cls).before args s' = true := vx_ot_at hW0 hvm.symm (hgood _ (List.mem_cons_of_mem _ List.mem_cons_self)) hini
  have hU' : vx_Zq Bundle.tN "UNASSIGNED_STACK" Bundle.steD A s' s'.heap := by rw [hhp]; exact vx_Zq.moved hW0.alike (hU.kept hS.2.1)
  have hN' : vx_Zq Bundle.tN "SUPPRESSED_SENTINEL" Bundle.listD A s' s'.heap := by rw [hhp]; exact vx_Zq.moved hW0.alike (hN.kept hS.2.1)
  have h : ∀ w ∈ Bundle.ownAtoms0 own ic cls names, w.before args s' = true := vx_own hat' (vx_isRefq hU'.1) (vx_isRefq hN'.1) hU'.2.word hN'.2.word
  have hown' : s'.vm.findClass own = some m.cls := by rw [hvm]; exact hown
  have hins : (Cond.instantiable cls 6).before args s' = true := h _ (by simp [Bundle.ownAtoms0])
  obtain ⟨vm₁, cX, kX, hfX, hkX, -, -, X₁, st1⟩ := Y.newCold hexec (own := own) (C := cls) (index := ik) (n := 6) hown' hk' hins hini'
    (g := F0 m pc ls rest) rfl (by rw [hb]; exact d0) (Nat.le_refl _) (Nat.le_refl _)
  generalize hT1 : (T.setVm vm₁).pushCell { cls := cX, slots := kX.instanceTypes.map defaultValue, vm := .none } = T1 at X₁ st1
  have hcat : (Value.ref T.heap.size).category = 1 := rfl
  have hcellA : T1.heap[T.heap.size]? = some (freshCell cX kX) := by rw [← hT1]; exact State.heap_pushCell_size _ _
  have d3' : decode c.code (pc + 3) = .ok (.dup, 1) := by rw [hb]; exact d3
  obtain ⟨U, hsteps, hrun, hend, hW, hsame, ce, hce, hO⟩ := X₁.ctorThrow0 hexec htr (own := own) (cls := cls) (names := names) (ic := ic) hown' hcls hnames h (fun x hx => nomatch hx) hfX hkX hcellA (by rw [hhp, hT]; exact Nat.le_refl _)
    (g := { method := m, pc := pc + 4, locals := ls, stack := .ref T.heap.size :: .ref T.heap.size :: rest, locked := none }) rfl hsize rfl rfl (rest := rest) rfl
    (by rw [hb]; exact d4) (by rw [hb]; exact d7) hout hRframes (by simp only [List.map_cons, List.sum_cons, hcat]; omega) hlocks
  obtain ⟨f1, f2⟩ := vx_frame hsame
  rw [hhp] at f1 f2
  have hWs : s.WarmedH U.vm := State.WarmedH.trans hW0 hW
  have hcl : s.vm.findClass cls = some ce.cls := by
    have h9 := hO.cls
    rw [hvm] at h9
    exact h9
  have hall : s.sameButNew ({ U with vm := s.vm } : State) locs mc ms := by
    subst hA
    obtain ⟨e1, e2⟩ := hsame
    rw [State.setFrames_setFrames] at e1
    have h2 : (T.setVm s.vm).sameButNew ({ U with vm := s.vm } : State) [] (0 + 1) (0 + 6) := ⟨e1, e2⟩
    have h3 := X.same.trans h2
    rw [List.append_nil] at h3
    exact h3.mono hc hs
  refine ⟨U, ?_, .threw T.heap.size, hrun, hend, Or.inr ⟨T.heap.size, rfl, cls, ce, locs, hx U hWs.alike f1 (fun q hq => f2 q hq (fun z hz => nomatch hz)), hce, hO.vm, hcl, hWs, hall, hf⟩⟩
  refine st1 _ ?_
  show Steps p.tables e below (T1.setTop { method := m, pc := pc + 3, locals := ls, stack := .ref T.heap.size :: rest, locked := none }) _
  jvm_step X₁.here [X₁.here.top, hexec, d3', Value.category]
  exact hsteps
/-- 'throw new E("text")': new; dup; ldc; invokespecial; athrow -/
theorem vx_throwS {cc : ByteArray} {pc : Nat} (hexec : p.tables.exec = Jvm.exec) (hb : c.code = cc) (hl : l.stackTraces = false) {own cls text : String} {names : List String} {ik is ic mc ms sa : Nat} {A : Nat → Prop}
    (hown : s.vm.findClass own = some m.cls) (hcls : Bundle.fit cls = true) (hnames : ∀ n ∈ names, Bundle.fit n = true)
    (hk : (Cond.classLink own ik cls).before args s = true) (hini : (Cond.initialized cls).before args s = true) (hstr : vk_R own is text sa s) (hat : ∀ w ∈ vx_atS own ic cls names, w.before args s = true)
    (hgood : ∀ w ∈ Cond.classLink own ik cls :: Cond.initialized cls :: vx_atS own ic cls names, vx_ot w = true)
    (hU : vx_Zq Bundle.tN "UNASSIGNED_STACK" Bundle.steD A s s.heap) (hN : vx_Zq Bundle.tN "SUPPRESSED_SENTINEL" Bundle.listD A s s.heap) (hS : va_S A s.heap H locs) (hsize : ls.size = c.maxLocals)
    (d0 : decode cc pc = .ok (.new ik, 3)) (d3 : decode cc (pc + 3) = .ok (.dup, 1)) (d4 : decode cc (pc + 4) = .ok (.ldc is, 2)) (d6 : decode cc (pc + 6) = .ok (.invokespecial ic, 3)) (d9 : decode cc (pc + 9) = .ok (.athrow, 1))
    (hout : ∀ x ∈ c.exceptionTable.toList, covers x (pc + 9) = false)
    (hRframes : names.length + 3 < R.frames) (hRlocals : (rest.map fun v => v.category).sum + (13 * (names.length + 1) + 43) ≤ R.locals) (hRcells : cells + 1 ≤ R.cells) (hRslots : slots + 6 ≤ R.slots) (hlocks : meth.locks = false)
    (hx : ∀ t : State, s.vm.Alike t.vm → H.size ≤ t.heap.size → (∀ q : Nat, q < H.size → t.heap[q]? = H[q]?) → XC cls s t)
    (hf : ∀ z ∈ locs, free z.base) (hc : cells + 1 ≤ mc) (hs : slots + 6 ≤ ms) :
    W p l e R s m args below meth c H locs cells slots (vx_MQ below Qc XC args s mc ms free) (F0 m pc ls rest) := by
  intro T hT X
  have htr : e.platform.stackTraces = false := (show e.platform.stackTraces = l.stackTraces by rw [X.admits.platform]).trans hl
  have Y := vx_rebase X (R' := { frames := R.frames, locals := R.locals, cells := 1, slots := 6 }) (Nat.le_refl _) (Nat.le_refl _) hRcells hRslots
  obtain ⟨s', hA⟩ : ∃ z, z = (T.setVm s.vm).setFrames (.invoking m args :: below) := ⟨_, rfl⟩
  rw [← hA] at Y
  have hvm : s'.vm = s.vm := by rw [hA]; rfl
  have hhp : s'.heap = H := by rw [hA]; exact hT
  have hW0 : s.WarmedH s'.vm := by rw [hvm]; exact State.WarmedH.refl s
  have hat' : ∀ w ∈ vx_atS own ic cls names, w.before args s' = true := fun w hw => vx_ot_at hW0 hvm.symm (hgood w (List.mem_cons_of_mem _ (List.mem_cons_of_mem _ hw))) (hat w hw)
  have hk' : (Cond.classLink own ik cls).before args s' = true := vx_ot_at hW0 hvm.symm (hgood _ List.mem_cons_self) hk
  have hini' : (Cond.initialized cls).before args s' = true := vx_ot_at hW0 hvm.symm (hgood _ (List.mem_cons_of_mem _ List.mem_cons_self)) hini
  have hU' : vx_Zq Bundle.tN "UNASSIGNED_STACK" Bundle.steD A s' s'.heap := by rw [hhp]; exact vx_Zq.moved hW0.alike (hU.kept hS.2.1)
  have hN' : vx_Zq Bundle.tN "SUPPRESSED_SENTINEL" Bundle.listD A s' s'.heap := by rw [hhp]; exact vx_Zq.moved hW0.alike (hN.kept hS.2.1)
  have h : ∀ w ∈ Bundle.ownAtoms own ic cls names, w.before args s' = true := vx_own hat' (vx_isRefq hU'.1) (vx_isRefq hN'.1) hU'.2.word hN'.2.word
  have hown' : s'.vm.findClass own = some m.cls := by rw [hvm]; exact hown
  have hins : (Cond.instantiable cls 6).before args s' = true := h _ (by simp [Bundle.ownAtoms])
  obtain ⟨vm₁, cX, kX, hfX, hkX, -, -, X₁, st1⟩ := Y.newCold hexec (own := own) (C := cls) (index := ik) (n := 6) hown' hk' hins hini'
    (g := F0 m pc ls rest) rfl (by rw [hb]; exact d0) (Nat.le_refl _) (Nat.le_refl _)
  generalize hT1 : (T.setVm vm₁).pushCell { cls := cX, slots := kX.instanceTypes.map defaultValue, vm := .none } = T1 at X₁ st1
  have hcat : (Value.ref T.heap.size).category = 1 := rfl
  have hcellA : T1.heap[T.heap.size]? = some (freshCell cX kX) := by rw [← hT1]; exact State.heap_pushCell_size _ _
  have d3' : decode c.code (pc + 3) = .ok (.dup, 1) := by rw [hb]; exact d3
  have d4' : decode c.code (pc + 4) = .ok (.ldc is, 2) := by rw [hb]; exact d4
  have hstr' : vk_R own is text sa s' := vk_R.warm hW0 hstr
  obtain ⟨U, hsteps, hrun, hend, hW, hsame, ce, hce, hO⟩ := X₁.ctorThrowS hexec htr (own := own) (cls := cls) (names := names) (ic := ic) hown' hcls hnames h (fun x hx => nomatch hx) hfX hkX hcellA (by rw [hhp, hT]; exact Nat.le_refl _) (msg := .ref sa) rfl
    (g := { method := m, pc := pc + 6, locals := ls, stack := .ref sa :: .ref T.heap.size :: .ref T.heap.size :: rest, locked := none }) rfl hsize rfl rfl (rest := rest) rfl
    (by rw [hb]; exact d6) (by rw [hb]; exact d9) hout hRframes (by simp only [List.map_cons, List.sum_cons, hcat]; omega) hlocks
  obtain ⟨f1, f2⟩ := vx_frame hsame
  rw [hhp] at f1 f2
  have hWs : s.WarmedH U.vm := State.WarmedH.trans hW0 hW
  have hcl : s.vm.findClass cls = some ce.cls := by
    have h9 := hO.cls
    rw [hvm] at h9
    exact h9
  have hall : s.sameButNew ({ U with vm := s.vm } : State) locs mc ms := by
    subst hA
    obtain ⟨e1, e2⟩ := hsame
    rw [State.setFrames_setFrames] at e1
    have h2 : (T.setVm s.vm).sameButNew ({ U with vm := s.vm } : State) [] (0 + 1) (0 + 6) := ⟨e1, e2⟩
    have h3 := X.same.trans h2
    rw [List.append_nil] at h3
    exact h3.mono hc hs
  refine ⟨U, ?_, .threw T.heap.size, hrun, hend, Or.inr ⟨T.heap.size, rfl, cls, ce, locs, hx U hWs.alike f1 (fun q hq => f2 q hq (fun z hz => nomatch hz)), hce, hO.vm, hcl, hWs, hall, hf⟩⟩
  refine st1 _ ?_
  show Steps p.tables e below (T1.setTop { method := m, pc := pc + 3, locals := ls, stack := .ref T.heap.size :: rest, locked := none }) _
  jvm_step X₁.here [X₁.here.top, hexec, d3', Value.category]
  exact X₁.ldcString hexec (own := own) (text := text) (index := is) (a := sa) hown' hstr'.1 hstr'.2
    (g := { method := m, pc := pc + 4, locals := ls, stack := .ref T.heap.size :: .ref T.heap.size :: rest, locked := none }) rfl d4' _ hsteps
/-- 'throw new E("text")', the text by a wide index -/
theorem vx_throwSW {cc : ByteArray} {pc : Nat} (hexec : p.tables.exec = Jvm.exec) (hb : c.code = cc) (hl : l.stackTraces = false) {own cls text : String} {names : List String} {ik is ic mc ms sa : Nat} {A : Nat → Prop}
    (hown : s.vm.findClass own = some m.cls) (hcls : Bundle.fit cls = true) (hnames : ∀ n ∈ names, Bundle.fit n = true)
    (hk : (Cond.classLink own ik cls).before args s = true) (hini : (Cond.initialized cls).before args s = true) (hstr : vk_R own is text sa s) (hat : ∀ w ∈ vx_atS own ic cls names, w.before args s = true)
    (hgood : ∀ w ∈ Cond.classLink own ik cls :: Cond.initialized cls :: vx_atS own ic cls names, vx_ot w = true)
    (hU : vx_Zq Bundle.tN "UNASSIGNED_STACK" Bundle.steD A s s.heap) (hN : vx_Zq Bundle.tN "SUPPRESSED_SENTINEL" Bundle.listD A s s.heap) (hS : va_S A s.heap H locs) (hsize : ls.size = c.maxLocals)
    (d0 : decode cc pc = .ok (.new ik, 3)) (d3 : decode cc (pc + 3) = .ok (.dup, 1)) (d4 : decode cc (pc + 4) = .ok (.ldc_w is, 3)) (d7 : decode cc (pc + 7) = .ok (.invokespecial ic, 3)) (d10 : decode cc (pc + 10) = .ok (.athrow, 1))
    (hout : ∀ x ∈ c.exceptionTable.toList, covers x (pc + 10) = false)
    (hRframes : names.length + 3 < R.frames) (hRlocals : (rest.map fun v => v.category).sum + (13 * (names.length + 1) + 43) ≤ R.locals) (hRcells : cells + 1 ≤ R.cells) (hRslots : slots + 6 ≤ R.slots) (hlocks : meth.locks = false)
    (hx : ∀ t : State, s.vm.Alike t.vm → H.size ≤ t.heap.size → (∀ q : Nat, q < H.size → t.heap[q]? = H[q]?) → XC cls s t)
    (hf : ∀ z ∈ locs, free z.base) (hc : cells + 1 ≤ mc) (hs : slots + 6 ≤ ms) :
    W p l e R s m args below meth c H locs cells slots (vx_MQ below Qc XC args s mc ms free) (F0 m pc ls rest) := by
  intro T hT X
  have htr : e.platform.stackTraces = false := (show e.platform.stackTraces = l.stackTraces by rw [X.admits.platform]).trans hl
  have Y := vx_rebase X (R' := { frames := R.frames, locals := R.locals, cells := 1, slots := 6 }) (Nat.le_refl _) (Nat.le_refl _) hRcells hRslots
  obtain ⟨s', hA⟩ : ∃ z, z = (T.setVm s.vm).setFrames (.invoking m args :: below) := ⟨_, rfl⟩
  rw [← hA] at Y
  have hvm : s'.vm = s.vm := by rw [hA]; rfl
  have hhp : s'.heap = H := by rw [hA]; exact hT
  have hW0 : s.WarmedH s'.vm := by rw [hvm]; exact State.WarmedH.refl s
  have hat' : ∀ w ∈ vx_atS own ic cls names, w.before args s' = true := fun w hw => vx_ot_at hW0 hvm.symm (hgood w (List.mem_cons_of_mem _ (List.mem_cons_of_mem _ hw))) (hat w hw)
  have hk' : (Cond.classLink own ik cls).before args s' = true := vx_ot_at hW0 hvm.symm (hgood _ List.mem_cons_self) hk
  have hini' : (Cond.initialized cls).before args s' = true := vx_ot_at hW0 hvm.symm (hgood _ (List.mem_cons_of_mem _ List.mem_cons_self)) hini
  have hU' : vx_Zq Bundle.tN "UNASSIGNED_STACK" Bundle.steD A s' s'.heap := by rw [hhp]; exact vx_Zq.moved hW0.alike (hU.kept hS.2.1)
  have hN' : vx_Zq Bundle.tN "SUPPRESSED_SENTINEL" Bundle.listD A s' s'.heap := by rw [hhp]; exact vx_Zq.moved hW0.alike (hN.kept hS.2.1)
  have h : ∀ w ∈ Bundle.ownAtoms own ic cls names, w.before args s' = true := vx_own hat' (vx_isRefq hU'.1) (vx_isRefq hN'.1) hU'.2.word hN'.2.word
  have hown' : s'.vm.findClass own = some m.cls := by rw [hvm]; exact hown
  have hins : (Cond.instantiable cls 6).before args s' = true := h _ (by simp [Bundle.ownAtoms])
  obtain ⟨vm₁, cX, kX, hfX, hkX, -, -, X₁, st1⟩ := Y.newCold hexec (own := own) (C := cls) (index := ik) (n := 6) hown' hk' hins hini'
    (g := F0 m pc ls rest) rfl (by rw [hb]; exact d0) (Nat.le_refl _) (Nat.le_refl _)
  generalize hT1 : (T.setVm vm₁).pushCell { cls := cX, slots := kX.instanceTypes.map defaultValue, vm := .none } = T1 at X₁ st1
  have hcat : (Value.ref T.heap.size).category = 1 := rfl
  have hcellA : T1.heap[T.heap.size]? = some (freshCell cX kX) := by rw [← hT1]; exact State.heap_pushCell_size _ _
  have d3' : decode c.code (pc + 3) = .ok (.dup, 1) := by rw [hb]; exact d3
  have d4' : decode c.code (pc + 4) = .ok (.ldc_w is, 3) := by rw [hb]; exact d4
  have hstr' : vk_R own is text sa s' := vk_R.warm hW0 hstr
  obtain ⟨U, hsteps, hrun, hend, hW, hsame, ce, hce, hO⟩ := X₁.ctorThrowS hexec htr (own := own) (cls := cls) (names := names) (ic := ic) hown' hcls hnames h (fun x hx => nomatch hx) hfX hkX hcellA (by rw [hhp, hT]; exact Nat.le_refl _) (msg := .ref sa) rfl
    (g := { method := m, pc := pc + 7, locals := ls, stack := .ref sa :: .ref T.heap.size :: .ref T.heap.size :: rest, locked := none }) rfl hsize rfl rfl (rest := rest) rfl
    (by rw [hb]; exact d7) (by rw [hb]; exact d10) hout hRframes (by simp only [List.map_cons, List.sum_cons, hcat]; omega) hlocks
  obtain ⟨f1, f2⟩ := vx_frame hsame
  rw [hhp] at f1 f2
  have hWs : s.WarmedH U.vm := State.WarmedH.trans hW0 hW
  have hcl : s.vm.findClass cls = some ce.cls := by
    have h9 := hO.cls
    rw [hvm] at h9
    exact h9
  have hall : s.sameButNew ({ U with vm := s.vm } : State) locs mc ms := by
    subst hA
    obtain ⟨e1, e2⟩ := hsame
    rw [State.setFrames_setFrames] at e1
    have h2 : (T.setVm s.vm).sameButNew ({ U with vm := s.vm } : State) [] (0 + 1) (0 + 6) := ⟨e1, e2⟩
    have h3 := X.same.trans h2
    rw [List.append_nil] at h3
    exact h3.mono hc hs
  refine ⟨U, ?_, .threw T.heap.size, hrun, hend, Or.inr ⟨T.heap.size, rfl, cls, ce, locs, hx U hWs.alike f1 (fun q hq => f2 q hq (fun z hz => nomatch hz)), hce, hO.vm, hcl, hWs, hall, hf⟩⟩
  refine st1 _ ?_
  show Steps p.tables e below (T1.setTop { method := m, pc := pc + 3, locals := ls, stack := .ref T.heap.size :: rest, locked := none }) _
  jvm_step X₁.here [X₁.here.top, hexec, d3', Value.category]
  exact X₁.ldcStringW hexec (own := own) (text := text) (index := is) (a := sa) hown' hstr'.1 hstr'.2
    (g := { method := m, pc := pc + 4, locals := ls, stack := .ref T.heap.size :: .ref T.heap.size :: rest, locked := none }) rfl d4' _ hsteps
end Ends
section Bodies
variable {l : Launch}
theorem vx_ofW {y : MethodName} {ws ws' : List Cond} {rm : Room} {Pc : Array Value → State → Prop} {Qc : Array Value → State → Outcome → State → Prop} {XC : String → State → State → Prop} {mc ms : Nat} {free : Addr → Prop} {cc : ByteArray} {maxL : Nat} {ret : Option FieldType}
    (hy : plainName y.cls = true) (hw : ws = Cond.code y cc maxL ret :: ws')
    (body : ∀ p e s m args below meth c s₁, BodyLoose p l y (headSpec ws rm) cc maxL ret e s m args below meth c s₁ → c.maxLocals = maxL → (∀ x ∈ c.exceptionTable.toList, False) → Pc args s →
      W p l e (headSpec ws rm).room s m args below meth c s.heap [] 0 0 (vx_MQ below Qc XC args s mc ms free) (entryFrame m args maxL)) : vx_Met l y ws rm Pc Qc XC mc ms free := by
  refine MetFree.of_bodyS (code := cc) (maxLocals := maxL) (ret := ret) hy ?_ ?_
  · intro args s m h hn
    obtain ⟨meth, c, h1, h2, h3, h4, h5, h6, -, -⟩ := Cond.code_spec hn (atoms_spec (ws := ws) h _ (by rw [hw]; exact List.mem_cons_self))
    exact ⟨meth, c, h1, h2, h3, h4, h5, h6⟩
  · intro p e s m args below meth c s₁ B hml hP _
    have hh0 : s₁.heap = s.heap := by rw [B.state]; rfl
    have ht : ∀ x ∈ c.exceptionTable.toList, False := by
      obtain ⟨meth9, c9, h1, h2, -, -, -, -, h7, -⟩ := Cond.code_spec B.named (atoms_spec (ws := ws) B.pre _ (by rw [hw]; exact List.mem_cons_self))
      cases Option.some.inj (h1.symm.trans B.method)
      cases Option.some.inj (h2.symm.trans (Stand.of_body B).code)
      intro x hx
      rw [Array.isEmpty_iff.mp h7] at hx
      cases hx
    obtain ⟨t, a1, o, b1, b2, b3⟩ := body p e s m args below meth c s₁ B hml ht hP s₁ hh0 (Stand.of_body B)
    exact ⟨t, o, a1, b1, b2, b3⟩
/-- the table of a body with handlers -/
theorem vx_table {p : Program} {x y : MethodName} {S : Spec} {cc bytes : ByteArray} {maxL maxL' : Nat} {ret ret' : Option FieldType} {e : Env} {s s₁ : State} {m : MethodId} {args : Array Value} {below : List Frame} {meth : Method} {c : Code} {hh : List (Nat × Nat × Nat × Nat)}
    (B : BodyLoose p l y S cc maxL ret e s m args below meth c s₁) (h : (Cond.codeWith y bytes maxL' ret' hh).before args s = true) : c.exceptionTable.toList = tableOf hh := by
  obtain ⟨m9, meth9, c9, hn9, h1, h2, -, -, h6, -⟩ := Cond.codeWith_spec h
  cases Option.some.inj (hn9.symm.trans B.named)
  cases Option.some.inj (h1.symm.trans B.method)
  cases Option.some.inj (h2.symm.trans (Stand.of_body B).code)
  rw [← h6, table_eq]
end Bodies
end VXA
/-! ===== END ===== -/
/-! ===== BEGIN a static call of a method with an exception table ===== -/
section VXS
variable {p : Program} {l : Launch} {e : Env} {R : Room} {s : State} {m : MethodId} {args : Array Value} {below : List Frame} {meth : Method} {c : Code} {T : State} {H : Heap} {locs : List Loc} {cells slots : Nat}
abbrev vx_CSW (R : Room) (s : State) (args : Array Value) (own : String) (index : Nat) (y : MethodName) (bytes : ByteArray) (maxL : Nat) (ret : Option FieldType) (hh : List (Nat × Nat × Nat × Nat)) (ws : List Cond) (rm : Room) (mc ms n : Nat) : Prop :=
  (rm.cells = mc ∧ rm.slots = ms ∧ rm.frames + 1 ≤ R.frames ∧ 8 + (maxL + 11) + rm.locals ≤ R.locals ∧ (∀ w ∈ ws, ∀ (a' : Array Value) (U : State), s.WarmedH U.vm → w.before a' U = true) ∧ Cond.codeWith y bytes maxL ret hh ∈ ws) ∧
  (Cond.codeWith y bytes maxL ret hh).before args s = true ∧ (Cond.initialized y.cls).before args s = true ∧ (y.cls ≠ "java/lang/invoke/MethodHandle" ∧ y.cls ≠ "java/lang/invoke/VarHandle") ∧
  (∀ sig, parseMethodDescriptor y.desc = some sig → n = sig.parameters.length) ∧ (Cond.methodLink own index y).before args s = true ∧ (Cond.static y).before args s = true
theorem vx_cwSW {own : String} {index maxL mc ms : Nat} {y : MethodName} {bytes : ByteArray} {ret : Option FieldType} {hh : List (Nat × Nat × Nat × Nat)} {Ts ws ws' : List Cond} {rm : Room} (n : Nat) (ht : ∀ w ∈ Ts, w.before args s = true) (hT : GoodIn Ts (va_wsS own index y ws)) (hw : ws = Cond.codeWith y bytes maxL ret hh :: ws') (hrc : rm.cells = mc) (hrs : rm.slots = ms)
    (hd : y.cls ≠ "java/lang/invoke/MethodHandle" ∧ y.cls ≠ "java/lang/invoke/VarHandle" ∧ (parseMethodDescriptor y.desc).map (fun d => d.parameters.length) = some n) (hR : rm.frames + 1 ≤ R.frames ∧ 8 + (maxL + 11) + rm.locals ≤ R.locals) :
    vx_CSW R s args own index y bytes maxL ret hh ws rm mc ms n := by
  have ok : ∀ w ∈ va_wsS own index y ws, w.before args s = true := fun w h => ht w (hT w h).1
  have hG : GoodIn Ts ws := fun w h => hT w (by unfold va_wsS; exact List.mem_append_right _ h)
  have hc : Cond.codeWith y bytes maxL ret hh ∈ ws := by rw [hw]; exact List.mem_cons_self
  refine ⟨⟨hrc, hrs, hR.1, hR.2, pay_in ht hG, hc⟩, ht _ (hG _ hc).1, ok _ (by simp [va_wsS]), ⟨hd.1, hd.2.1⟩, fun sig h => ?_, ok _ (by simp [va_wsS]), ok _ (by simp [va_wsS])⟩
  have h2 := hd.2.2
  rw [h] at h2
  exact (Option.some.inj h2).symm
theorem vx_callSW (X : Stand p l e R s m args below meth c T locs cells slots) (hexec : p.tables.exec = Jvm.exec) {own : String} {index : Nat} {y : MethodName} {bytes : ByteArray} {maxL : Nat} {ret : Option FieldType} {hh : List (Nat × Nat × Nat × Nat)}
    (hown : s.vm.findClass own = some m.cls) (hlink : (Cond.methodLink own index y).before args s = true) (hstat : (Cond.static y).before args s = true) (hinit : (Cond.initialized y.cls).before args s = true)
    (hcode : (Cond.codeWith y bytes maxL ret hh).before args s = true) (hy : y.cls ≠ "java/lang/invoke/MethodHandle" ∧ y.cls ≠ "java/lang/invoke/VarHandle")
    {W9 : Nat} {Pre : Pt → Array Value → Prop} {Post : Pt → Array Value → Option Value → Pt → Prop} (hK : Back l R p e below s args y 3 W9 Pre Post)
    {g : JFrame} (hg : g.method = m) (hsize : g.locals.size = c.maxLocals) {argsL rest : List Value} (hlen : ∀ sig, parseMethodDescriptor y.desc = some sig → argsL.length = sig.parameters.length)
    (hstack : g.stack = argsL.reverse ++ rest) (hW : 2 * g.monitorRoom + (rest.map fun v => v.category).sum ≤ W9) (hdg : decode c.code g.pc = .ok (.invokestatic index, 3))
    (hpre : ∀ vm₁, s.WarmedH vm₁ → Pre ⟨T.setVm vm₁, locs, cells, slots⟩ argsL.toArray) :
    ∃ (v : Option Value) (vm₁ : Vm) (B : Pt), s.WarmedH vm₁ ∧ Stand p l e R s m args below meth c B.U B.locs B.cells B.slots ∧ Post ⟨T.setVm vm₁, locs, cells, slots⟩ argsL.toArray v B ∧
      ∀ target, Steps p.tables e below (B.U.setTop { g with pc := g.pc + 3, stack := v.toList ++ rest }) target → Steps p.tables e below (T.setTop g) target := by
  obtain ⟨mk, methM, cM, hnamed, hmethM, -, -, -, -, -, -, hsigM⟩ := Cond.codeWith_spec hcode
  have hstatic : methM.isStatic = true := Cond.static_spec hnamed hmethM hstat
  obtain ⟨kP, hkP, -⟩ := className_of_methodNamed hnamed
  have hinitP : kP.init = .initialized := Cond.initialized_spec (findClass_of_methodNamed hnamed) hkP hinit
  obtain ⟨vm₁, X₁, hstep₁⟩ := X.invokestatic hexec hown hlink hnamed hmethM hstatic hkP hinitP hy (g := g) hg (argsL := argsL) (rest := rest) (hlen _ hsigM) hstack hdg
  obtain ⟨v, B, X', hpost, hsteps⟩ := hK m meth c ⟨T.setVm vm₁, locs, cells, slots⟩ { g with stack := rest } (.invokestatic index) mk argsL.toArray X₁ hg hsize hdg hW (X₁.named hnamed) (hpre vm₁ X₁.warmed)
  exact ⟨v, vm₁, B, X₁.warmed, X', hpost, fun target h => hstep₁ _ fun acts => by rw [doInvoke_state]; exact hsteps.trans h⟩
theorem vx_runSW {y : MethodName} {bytes cc : ByteArray} {maxL nL mc ms n index : Nat} {ret : Option FieldType} {hh : List (Nat × Nat × Nat × Nat)} {ws : List Cond} {rm : Room} {Pc : Array Value → State → Prop} {Qc : Array Value → State → Outcome → State → Prop} {free : Addr → Prop} {Ts : List Cond} {own : String} {As rest : List Value} {g : JFrame}
    (S : CallFix p m c cc nL s args Ts own) (hM : Met l y ws rm Pc Qc mc ms free) (cw : vx_CSW R s args own index y bytes maxL ret hh ws rm mc ms n) (hp : PreS s H Pc As)
    (hg : g.method = m) (hn : As.length = n) (hsize : g.locals.size = nL) (hstack : g.stack = As.reverse ++ rest) (hW : 2 * g.monitorRoom + (rest.map fun v => v.category).sum ≤ 8) (hdg : decode cc g.pc = .ok (.invokestatic index, 3)) (hf : cells + mc ≤ R.cells ∧ slots + ms ≤ R.slots) :
    va_Run p l e R s m args below meth c H locs cells slots mc ms g rest (Qc As.toArray) (free) := by
  obtain ⟨⟨hrc, hrs, hfr, hlo, hws, hcw⟩, hcode, hini, hy, hlen, hl, hstt⟩ := cw
  have hK : Back l R p e below s args y 3 8 (PreOf R mc ms Pc) (PostOf Qc mc ms free) := va_backW (hh := hh) (bytes := bytes) (maxL := maxL) (ret := ret) hM hp.1 hrc hrs hfr hlo hws hcw (fun a' U hW => word_at hW (Or.inl (by first | rfl | simp [Cond.onTables, Cond.keeps, Cond.steady])) hini)
  obtain ⟨hx, hb, hml, ho, -⟩ := S
  intro T hT X
  obtain ⟨v, vm₁, ⟨U', l2, c2, s2⟩, hW₁, X', ⟨g', mk, t, L, e1, e2, hq, h1, hL, h2, h3⟩, st⟩ := vx_callSW X hx (hh := hh) (bytes := bytes) (maxL := maxL) (ret := ret) ho hl hstt hini hcode hy hK hg (hsize.trans hml.symm) (argsL := As) (rest := rest) (fun sig h => hn.trans (hlen sig h)) hstack hW (by rw [hb]; exact hdg)
    (fun vm₁ hW₁ => ⟨hf.1, hf.2, hp.2 (T.setVm vm₁) hT hW₁⟩)
  dsimp only [Pt.U, Pt.locs, Pt.cells, Pt.slots] at X' e1 e2 h1 h2 h3 st
  subst h1; subst h2; subst h3
  exact ⟨v, (T.setVm vm₁).calling g' mk As.toArray, t, U', L, hT, X', hL, e1, e2, hq, st⟩
/-- a thing of a world lies in the heap -/
theorem vx_lt {D : va_G} {cl : List vw_C} {ws : va_W} {H1 : Heap} (h : va_P D cl ws H1) {k : Nat} {q : Nat × va_E} (hk : ws[k]? = some q) : q.1 < H1.size := (h k q hk).lt
end VXS
/-! ===== END ===== -/
/-! ===== BEGIN methods with a table of their own: called by a name, returning or throwing ===== -/
section VXH
/-! vx_backW, vx_callVX, vx_callSX, vx_callVW, vx_runVW, vx_runVX, vx_runSX, vx_ofWH follow the same proofs as their sisters above (Free/Laws.lean, Shelf42/LK1.lean); vx_outP calls Shelf42/NT130.lean (outThrough). -/
section
variable {l : Launch} {R : Room} {p : Program} {e : Env} {below : List Frame} {s : State} {sargs : Array Value} {y : MethodName} {len W9 : Nat}
theorem vx_backW {ws : List Cond} {rm : Room} {Pc : Array Value → State → Prop} {Qc : Array Value → State → Outcome → State → Prop} {XC : String → State → State → Prop} {mc ms : Nat} {free : Addr → Prop} {bytes : ByteArray} {maxL : Nat} {ret : Option FieldType} {hh : List (Nat × Nat × Nat × Nat)}
    (hM : vx_Met l y ws rm Pc Qc XC mc ms free) (hblind : FrameBlind Pc) (hrc : rm.cells = mc) (hrs : rm.slots = ms)
    (hframes : rm.frames + 1 ≤ R.frames) (hlocals : W9 + (maxL + 11) + rm.locals ≤ R.locals)
    (hws : ∀ w ∈ ws, ∀ a' U, s.WarmedH U.vm → w.before a' U = true) (hcode : Cond.codeWith y bytes maxL ret hh ∈ ws) (hinit : ∀ a' U, s.WarmedH U.vm → (Cond.initialized y.cls).before a' U = true) :
    vx_Back l R p e below s sargs y len W9 (PreOf R mc ms Pc) (PostOf Qc mc ms free) (vx_Post XC mc ms free) := by
  intro m meth c A g ig mk a X hg hsize hdg hW hn hp
  have h1 : (headSpec ws rm).pre.before a A.U = true := atoms_intro fun w hw => hws w hw _ _ X.warmed
  have h2 : (Cond.codeWith y bytes maxL ret hh).before a A.U = true := hws _ hcode _ _ X.warmed
  have h3 : (Cond.initialized y.cls).before a A.U = true := hinit _ _ X.warmed
  have h4 : A.cells + (headSpec ws rm).room.cells ≤ R.cells := by rw [show (headSpec ws rm).room.cells = mc from hrc]; exact hp.1
  have h5 : A.slots + (headSpec ws rm).room.slots ≤ R.slots := by rw [show (headSpec ws rm).room.slots = ms from hrs]; exact hp.2.1
  have hPc : Pc a (A.U.calling g mk a) := hblind _ _ _ _ hp.2.2
  obtain ⟨U, Ls, c0, s0⟩ := A
  dsimp only [Pt.U, Pt.locs, Pt.cells, Pt.slots] at h1 h2 h3 h4 h5 X hn hPc ⊢
  obtain ⟨m9, methY, cY, hn9, hmY, hcY, -, hlY, -⟩ := Cond.codeWith_spec h2
  cases Option.some.inj (hn9.symm.trans hn)
  obtain ⟨kY, hkY, -⟩ := className_of_methodNamed hn
  have hinitY : kY.init = .initialized := Cond.initialized_spec (findClass_of_methodNamed hn) hkY h3
  have h : At U g.method c below := by rw [hg]; exact X.here
  have hlocals9 : W9 + (maxL + 11) + (headSpec ws rm).room.locals ≤ R.locals := hlocals
  have happ : (headSpec ws rm).appliesLoose y e.platform (U.calling g mk a) = true :=
    Spec.appliesLoose_calling (g := g) h hdg hn hkY hinitY
      (X.room_calling (g := g) (R' := (headSpec ws rm).room) hsize hmY hcY hframes (by rw [hlY]; omega) h4 h5) h1
  obtain ⟨mid, hmid⟩ := h.above
  have hfr : (U.setTop g).frames = (.java g :: mid) ++ below := by rw [State.frames_setTop' g h.top, hmid]; rfl
  obtain ⟨o, s₂, hsteps, -, hend, hq⟩ := Steps.callFree hM p X.admits X.cas X.clock (acts := []) hfr happ hPc trivial
  have hq' : vx_Q Qc XC mc ms free a (U.calling g mk a) o s₂ := hq
  rw [State.frames_setTop' g h.top] at hend
  obtain ⟨g₀, hg0⟩ := Option.isSome_iff_exists.mp h.top
  obtain ⟨r, hr⟩ := State.topJava?_eq_some.mp hg0
  have hr' : (({ U with heap := s₂.heap, slotsUsed := s₂.slotsUsed } : State).setVm s₂.vm).frames = .java g₀ :: r := hr
  rcases hq' with ⟨hqc, L, hfe, hL⟩ | ⟨q, rfl, E, ce, L, hx, hce, hcv, hcl, hW₂, hsm, hL⟩
  · obtain ⟨⟨v, rfl⟩, hW₂, e2, q2, q3, q4, q5, q6⟩ := id hfe
    have e3 : s₂ = ({ (U.calling g mk a).setFrames s₂.frames with heap := s₂.heap, slotsUsed := s₂.slotsUsed } : State).setVm s₂.vm := by
      have : s₂ = ({ s₂ with vm := (U.calling g mk a).vm } : State).setVm s₂.vm := rfl
      rw [e2] at this
      exact this
    obtain ⟨c₂, i₂, len₂, hc₂, hd₂, hf₂⟩ := hend
    have hW' : U.WarmedH s₂.vm := hW₂
    have hcc : c₂ = c := by
      have h1 : s₂.code? g.method = U.code? g.method := by
        rw [State.code?_eq, State.code?_eq, hW'.alike.method?]
      exact Option.some.inj (hc₂.symm.trans (h1.trans h.code))
    subst hcc
    have hlen : len₂ = len := by rw [hdg] at hd₂; cases hd₂; rfl
    subst hlen
    have hs₂ : s₂ = (({ U with heap := s₂.heap, slotsUsed := s₂.slotsUsed } : State).setVm s₂.vm).setTop { g with pc := g.pc + len₂, stack := v.toList ++ g.stack } := by
      refine e3.trans ?_
      rw [hf₂, State.calling_eq h.top, State.setFrames_setFrames, State.setTop_of_frames _ hr', hr]
      rfl
    have hsame : U.sameButNew ({ U with heap := s₂.heap, slotsUsed := s₂.slotsUsed } : State) L mc ms := by
      refine ⟨?_, q2, q3, q4, q5, q6⟩
      obtain ⟨t, ht, -⟩ := State.frames_cons hr
      show ({ U with heap := s₂.heap, slotsUsed := s₂.slotsUsed } : State) = { U.setFrames U.frames with heap := s₂.heap, slotsUsed := s₂.slotsUsed }
      rw [State.setFrames_self ht]
    subst hg
    refine Or.inl ⟨v, ⟨(({ U with heap := s₂.heap, slotsUsed := s₂.slotsUsed } : State).setVm s₂.vm), Ls ++ L, c0 + mc, s0 + ms⟩,
      ⟨X.admits, X.cas, X.clock, X.frames, X.room, X.hears, X.method, X.code, (X.here.setHeapUsed s₂.heap s₂.slotsUsed).setVm hW'.alike, X.tail, State.WarmedH.trans X.warmed hW', X.limits, X.bytes, X.same.trans (hsame.setVm s.vm)⟩,
      ⟨g, mk, s₂, L, rfl, rfl, hqc, rfl, hL, rfl, rfl⟩, ?_⟩
    show Steps p.tables e below _ ((({ U with heap := s₂.heap, slotsUsed := s₂.slotsUsed } : State).setVm s₂.vm).setTop { g with pc := g.pc + len₂, stack := v.toList ++ g.stack })
    rw [← hs₂]
    exact hsteps
  · obtain ⟨e2, q2, q3, q4, q5, q6⟩ := id hsm
    have e3 : s₂ = ({ (U.calling g mk a).setFrames s₂.frames with heap := s₂.heap, slotsUsed := s₂.slotsUsed } : State).setVm s₂.vm := by
      have : s₂ = ({ s₂ with vm := (U.calling g mk a).vm } : State).setVm s₂.vm := rfl
      rw [e2] at this
      exact this
    have hf₂ : s₂.frames = .throwing q :: .java g :: U.frames.tail := hend
    have hW' : U.WarmedH s₂.vm := hW₂
    have hs₂ : s₂ = ((({ U with heap := s₂.heap, slotsUsed := s₂.slotsUsed } : State).setVm s₂.vm).setTop g).pushFrame (.throwing q) := by
      refine e3.trans ?_
      rw [hf₂, State.calling_eq h.top, State.setFrames_setFrames, State.pushFrame, State.frames_setTop _ hr', State.setTop_of_frames _ hr', State.setFrames_setFrames, hr]
      rfl
    have hsame : U.sameButNew ({ U with heap := s₂.heap, slotsUsed := s₂.slotsUsed } : State) L mc ms := by
      refine ⟨?_, q2, q3, q4, q5, q6⟩
      obtain ⟨t, ht, -⟩ := State.frames_cons hr
      show ({ U with heap := s₂.heap, slotsUsed := s₂.slotsUsed } : State) = { U.setFrames U.frames with heap := s₂.heap, slotsUsed := s₂.slotsUsed }
      rw [State.setFrames_self ht]
    subst hg
    refine Or.inr ⟨q, ⟨(({ U with heap := s₂.heap, slotsUsed := s₂.slotsUsed } : State).setVm s₂.vm), Ls ++ L, c0 + mc, s0 + ms⟩,
      ⟨X.admits, X.cas, X.clock, X.frames, X.room, X.hears, X.method, X.code, (X.here.setHeapUsed s₂.heap s₂.slotsUsed).setVm hW'.alike, X.tail, State.WarmedH.trans X.warmed hW', X.limits, X.bytes, X.same.trans (hsame.setVm s.vm)⟩,
      ⟨g, mk, s₂, L, E, ce, rfl, rfl, hx, hce, hcv, hcl, rfl, hL, rfl, rfl⟩, ?_⟩
    show Steps p.tables e below _ (((({ U with heap := s₂.heap, slotsUsed := s₂.slotsUsed } : State).setVm s₂.vm).setTop g).pushFrame (.throwing q))
    rw [← hs₂]
    exact hsteps
end
variable {p : Program} {l : Launch} {e : Env} {R : Room} {s : State} {m : MethodId} {args : Array Value} {below : List Frame} {meth : Method} {c : Code} {T : State} {H : Heap} {locs : List Loc} {cells slots : Nat}
theorem vx_callVX (X : Stand p l e R s m args below meth c T locs cells slots) (hexec : p.tables.exec = Jvm.exec) {own C : String} {index : Nat} {y : MethodName} {bytes : ByteArray} {maxL : Nat} {ret : Option FieldType} {hh : List (Nat × Nat × Nat × Nat)}
    (hown : s.vm.findClass own = some m.cls) (hlink : (Cond.methodLink own index y).before args s = true) (hinst : (Cond.instanceMethod y).before args s = true) (hsel : (Cond.selects C y y).before args s = true)
    (hcode : (Cond.codeWith y bytes maxL ret hh).before args s = true) (hy : y.cls ≠ "java/lang/invoke/MethodHandle" ∧ y.cls ≠ "java/lang/invoke/VarHandle")
    {W9 : Nat} {Pre : Pt → Array Value → Prop} {Post : Pt → Array Value → Option Value → Pt → Prop} {PostX : Pt → Array Value → Addr → Pt → Prop} (hK : vx_Back l R p e below s args y 3 W9 Pre Post PostX)
    {b : Addr} {cellB : Cell} (hcell : T.heap[b]? = some cellB) (hobj : cellB.vm.isStatics = false) (hcls : s.vm.findClass C = some cellB.cls)
    {g : JFrame} (hg : g.method = m) (hsize : g.locals.size = c.maxLocals) {argsL rest : List Value} (hlen : ∀ sig, parseMethodDescriptor y.desc = some sig → argsL.length = sig.parameters.length)
    (hstack : g.stack = argsL.reverse ++ .ref b :: rest) (hW : 2 * g.monitorRoom + (rest.map fun v => v.category).sum ≤ W9) (hdg : decode c.code g.pc = .ok (.invokevirtual index, 3))
    (hpre : ∀ vm₁, s.WarmedH vm₁ → Pre ⟨T.setVm vm₁, locs, cells, slots⟩ (Value.ref b :: argsL).toArray) :
    (∃ (v : Option Value) (vm₁ : Vm) (B : Pt), s.WarmedH vm₁ ∧ Stand p l e R s m args below meth c B.U B.locs B.cells B.slots ∧ Post ⟨T.setVm vm₁, locs, cells, slots⟩ (Value.ref b :: argsL).toArray v B ∧
      ∀ target, Steps p.tables e below (B.U.setTop { g with pc := g.pc + 3, stack := v.toList ++ rest }) target → Steps p.tables e below (T.setTop g) target) ∨
    (∃ (q : Addr) (vm₁ : Vm) (B : Pt), s.WarmedH vm₁ ∧ Stand p l e R s m args below meth c B.U B.locs B.cells B.slots ∧ PostX ⟨T.setVm vm₁, locs, cells, slots⟩ (Value.ref b :: argsL).toArray q B ∧
      Steps p.tables e below (T.setTop g) ((B.U.setTop { g with stack := rest }).pushFrame (.throwing q))) := by
  obtain ⟨mk, methM, hnamed, hmethM, hstM, habM⟩ := Cond.instanceMethod_spec hinst
  obtain ⟨m8, methM', cM, hn8, hmethM', -, -, -, -, -, -, hsigM⟩ := Cond.codeWith_spec hcode
  cases Option.some.inj (hn8.symm.trans hnamed)
  cases hmethM.symm.trans hmethM'
  obtain ⟨c2, r2, m2, q1, q2, q3, q4, kP, hkP, hkPi⟩ := Cond.selects_spec hsel
  cases hcls.symm.trans q1
  cases (State.methodFound?_of_named hnamed hy).symm.trans q2
  cases hnamed.symm.trans q3
  have hselP : selectMethod e.platform s.vm cellB.cls mk = .method mk := by rw [Launch.admits_selectMethod X.admits]; exact q4
  obtain ⟨vm₁, X₁, hstep₁⟩ := X.invokevirtual hexec hown hlink hnamed hmethM hstM hkP hkPi hy (a := b) (cell := cellB) hcell
    (fun z h => by rw [h] at hobj; cases hobj) hselP hmethM habM hkP hkPi (g := g) hg (argsL := argsL) (rest := rest) (hlen _ hsigM) hstack hdg
  rcases hK m meth c ⟨T.setVm vm₁, locs, cells, slots⟩ { g with stack := rest } (.invokevirtual index) mk (Value.ref b :: argsL).toArray X₁ hg hsize hdg hW (X₁.named hnamed) (hpre vm₁ X₁.warmed) with ⟨v, B, X', hpost, hsteps⟩ | ⟨q, B, X', hpost, hsteps⟩
  · exact Or.inl ⟨v, vm₁, B, X₁.warmed, X', hpost, fun target h => hstep₁ _ fun acts => by rw [doInvoke_state]; exact hsteps.trans h⟩
  · exact Or.inr ⟨q, vm₁, B, X₁.warmed, X', hpost, hstep₁ _ fun acts => by rw [doInvoke_state]; exact hsteps⟩
theorem vx_callSX (X : Stand p l e R s m args below meth c T locs cells slots) (hexec : p.tables.exec = Jvm.exec) {own : String} {index : Nat} {y : MethodName} {bytes : ByteArray} {maxL : Nat} {ret : Option FieldType} {hh : List (Nat × Nat × Nat × Nat)}
    (hown : s.vm.findClass own = some m.cls) (hlink : (Cond.methodLink own index y).before args s = true) (hstat : (Cond.static y).before args s = true) (hinit : (Cond.initialized y.cls).before args s = true)
    (hcode : (Cond.codeWith y bytes maxL ret hh).before args s = true) (hy : y.cls ≠ "java/lang/invoke/MethodHandle" ∧ y.cls ≠ "java/lang/invoke/VarHandle")
    {W9 : Nat} {Pre : Pt → Array Value → Prop} {Post : Pt → Array Value → Option Value → Pt → Prop} {PostX : Pt → Array Value → Addr → Pt → Prop} (hK : vx_Back l R p e below s args y 3 W9 Pre Post PostX)
    {g : JFrame} (hg : g.method = m) (hsize : g.locals.size = c.maxLocals) {argsL rest : List Value} (hlen : ∀ sig, parseMethodDescriptor y.desc = some sig → argsL.length = sig.parameters.length)
    (hstack : g.stack = argsL.reverse ++ rest) (hW : 2 * g.monitorRoom + (rest.map fun v => v.category).sum ≤ W9) (hdg : decode c.code g.pc = .ok (.invokestatic index, 3))
    (hpre : ∀ vm₁, s.WarmedH vm₁ → Pre ⟨T.setVm vm₁, locs, cells, slots⟩ argsL.toArray) :
    (∃ (v : Option Value) (vm₁ : Vm) (B : Pt), s.WarmedH vm₁ ∧ Stand p l e R s m args below meth c B.U B.locs B.cells B.slots ∧ Post ⟨T.setVm vm₁, locs, cells, slots⟩ argsL.toArray v B ∧
      ∀ target, Steps p.tables e below (B.U.setTop { g with pc := g.pc + 3, stack := v.toList ++ rest }) target → Steps p.tables e below (T.setTop g) target) ∨
    (∃ (q : Addr) (vm₁ : Vm) (B : Pt), s.WarmedH vm₁ ∧ Stand p l e R s m args below meth c B.U B.locs B.cells B.slots ∧ PostX ⟨T.setVm vm₁, locs, cells, slots⟩ argsL.toArray q B ∧
      Steps p.tables e below (T.setTop g) ((B.U.setTop { g with stack := rest }).pushFrame (.throwing q))) := by
  obtain ⟨mk, methM, cM, hnamed, hmethM, -, -, -, -, -, -, hsigM⟩ := Cond.codeWith_spec hcode
  have hstatic : methM.isStatic = true := Cond.static_spec hnamed hmethM hstat
  obtain ⟨kP, hkP, -⟩ := className_of_methodNamed hnamed
  have hinitP : kP.init = .initialized := Cond.initialized_spec (findClass_of_methodNamed hnamed) hkP hinit
  obtain ⟨vm₁, X₁, hstep₁⟩ := X.invokestatic hexec hown hlink hnamed hmethM hstatic hkP hinitP hy (g := g) hg (argsL := argsL) (rest := rest) (hlen _ hsigM) hstack hdg
  rcases hK m meth c ⟨T.setVm vm₁, locs, cells, slots⟩ { g with stack := rest } (.invokestatic index) mk argsL.toArray X₁ hg hsize hdg hW (X₁.named hnamed) (hpre vm₁ X₁.warmed) with ⟨v, B, X', hpost, hsteps⟩ | ⟨q, B, X', hpost, hsteps⟩
  · exact Or.inl ⟨v, vm₁, B, X₁.warmed, X', hpost, fun target h => hstep₁ _ fun acts => by rw [doInvoke_state]; exact hsteps.trans h⟩
  · exact Or.inr ⟨q, vm₁, B, X₁.warmed, X', hpost, hstep₁ _ fun acts => by rw [doInvoke_state]; exact hsteps⟩
theorem vx_callVW (X : Stand p l e R s m args below meth c T locs cells slots) (hexec : p.tables.exec = Jvm.exec) {own C : String} {index : Nat} {y : MethodName} {bytes : ByteArray} {maxL : Nat} {ret : Option FieldType} {hh : List (Nat × Nat × Nat × Nat)}
    (hown : s.vm.findClass own = some m.cls) (hlink : (Cond.methodLink own index y).before args s = true) (hinst : (Cond.instanceMethod y).before args s = true) (hsel : (Cond.selects C y y).before args s = true)
    (hcode : (Cond.codeWith y bytes maxL ret hh).before args s = true) (hy : y.cls ≠ "java/lang/invoke/MethodHandle" ∧ y.cls ≠ "java/lang/invoke/VarHandle")
    {W9 : Nat} {Pre : Pt → Array Value → Prop} {Post : Pt → Array Value → Option Value → Pt → Prop} (hK : Back l R p e below s args y 3 W9 Pre Post)
    {b : Addr} {cellB : Cell} (hcell : T.heap[b]? = some cellB) (hobj : cellB.vm.isStatics = false) (hcls : s.vm.findClass C = some cellB.cls)
    {g : JFrame} (hg : g.method = m) (hsize : g.locals.size = c.maxLocals) {argsL rest : List Value} (hlen : ∀ sig, parseMethodDescriptor y.desc = some sig → argsL.length = sig.parameters.length)
    (hstack : g.stack = argsL.reverse ++ .ref b :: rest) (hW : 2 * g.monitorRoom + (rest.map fun v => v.category).sum ≤ W9) (hdg : decode c.code g.pc = .ok (.invokevirtual index, 3))
    (hpre : ∀ vm₁, s.WarmedH vm₁ → Pre ⟨T.setVm vm₁, locs, cells, slots⟩ (Value.ref b :: argsL).toArray) :
    ∃ (v : Option Value) (vm₁ : Vm) (B : Pt), s.WarmedH vm₁ ∧ Stand p l e R s m args below meth c B.U B.locs B.cells B.slots ∧ Post ⟨T.setVm vm₁, locs, cells, slots⟩ (Value.ref b :: argsL).toArray v B ∧
      ∀ target, Steps p.tables e below (B.U.setTop { g with pc := g.pc + 3, stack := v.toList ++ rest }) target → Steps p.tables e below (T.setTop g) target := by
  obtain ⟨mk, methM, hnamed, hmethM, hstM, habM⟩ := Cond.instanceMethod_spec hinst
  obtain ⟨m8, methM', cM, hn8, hmethM', -, -, -, -, -, -, hsigM⟩ := Cond.codeWith_spec hcode
  cases Option.some.inj (hn8.symm.trans hnamed)
  cases hmethM.symm.trans hmethM'
  obtain ⟨c2, r2, m2, q1, q2, q3, q4, kP, hkP, hkPi⟩ := Cond.selects_spec hsel
  cases hcls.symm.trans q1
  cases (State.methodFound?_of_named hnamed hy).symm.trans q2
  cases hnamed.symm.trans q3
  have hselP : selectMethod e.platform s.vm cellB.cls mk = .method mk := by rw [Launch.admits_selectMethod X.admits]; exact q4
  obtain ⟨vm₁, X₁, hstep₁⟩ := X.invokevirtual hexec hown hlink hnamed hmethM hstM hkP hkPi hy (a := b) (cell := cellB) hcell
    (fun z h => by rw [h] at hobj; cases hobj) hselP hmethM habM hkP hkPi (g := g) hg (argsL := argsL) (rest := rest) (hlen _ hsigM) hstack hdg
  obtain ⟨v, B, X', hpost, hsteps⟩ := hK m meth c ⟨T.setVm vm₁, locs, cells, slots⟩ { g with stack := rest } (.invokevirtual index) mk (Value.ref b :: argsL).toArray X₁ hg hsize hdg hW (X₁.named hnamed) (hpre vm₁ X₁.warmed)
  exact ⟨v, vm₁, B, X₁.warmed, X', hpost, fun target h => hstep₁ _ fun acts => by rw [doInvoke_state]; exact hsteps.trans h⟩
abbrev vx_CVW (R : Room) (s : State) (args : Array Value) (own C : String) (index : Nat) (y : MethodName) (bytes : ByteArray) (maxL : Nat) (ret : Option FieldType) (hh : List (Nat × Nat × Nat × Nat)) (ws : List Cond) (rm : Room) (mc ms n : Nat) : Prop :=
  (rm.cells = mc ∧ rm.slots = ms ∧ rm.frames + 1 ≤ R.frames ∧ 8 + (maxL + 11) + rm.locals ≤ R.locals ∧ (∀ w ∈ ws, ∀ (a' : Array Value) (U : State), s.WarmedH U.vm → w.before a' U = true) ∧ Cond.codeWith y bytes maxL ret hh ∈ ws) ∧
  (Cond.codeWith y bytes maxL ret hh).before args s = true ∧ (Cond.initialized y.cls).before args s = true ∧ (y.cls ≠ "java/lang/invoke/MethodHandle" ∧ y.cls ≠ "java/lang/invoke/VarHandle") ∧
  (∀ sig, parseMethodDescriptor y.desc = some sig → n = sig.parameters.length) ∧ (Cond.methodLink own index y).before args s = true ∧ (Cond.instanceMethod y).before args s = true ∧ (Cond.selects C y y).before args s = true
theorem vx_cwVW {own C : String} {index maxL mc ms : Nat} {y : MethodName} {bytes : ByteArray} {ret : Option FieldType} {hh : List (Nat × Nat × Nat × Nat)} {Ts ws ws' : List Cond} {rm : Room} (n : Nat) (ht : ∀ w ∈ Ts, w.before args s = true) (hT : GoodIn Ts (wsV own index C y ws)) (hw : ws = Cond.codeWith y bytes maxL ret hh :: ws') (hrc : rm.cells = mc) (hrs : rm.slots = ms)
    (hd : y.cls = C ∧ y.cls ≠ "java/lang/invoke/MethodHandle" ∧ y.cls ≠ "java/lang/invoke/VarHandle" ∧ (parseMethodDescriptor y.desc).map (fun d => d.parameters.length) = some n) (hR : rm.frames + 1 ≤ R.frames ∧ 8 + (maxL + 11) + rm.locals ≤ R.locals) :
    vx_CVW R s args own C index y bytes maxL ret hh ws rm mc ms n := by
  obtain ⟨hC, hd⟩ := hd
  subst hC
  have ok : ∀ w ∈ wsV own index y.cls y ws, w.before args s = true := fun w h => ht w (hT w h).1
  have hG : GoodIn Ts ws := fun w h => hT w (by unfold wsV; exact List.mem_append_right _ h)
  have hc : Cond.codeWith y bytes maxL ret hh ∈ ws := by rw [hw]; exact List.mem_cons_self
  refine ⟨⟨hrc, hrs, hR.1, hR.2, pay_in ht hG, hc⟩, ht _ (hG _ hc).1, ok _ (by simp [wsV]), ⟨hd.1, hd.2.1⟩, fun sig h => ?_, ok _ (by simp [wsV]), ok _ (by simp [wsV]), ok _ (by simp [wsV])⟩
  have h2 := hd.2.2
  rw [h] at h2
  exact (Option.some.inj h2).symm
theorem vx_runVW {y : MethodName} {bytes cc : ByteArray} {maxL nL mc ms n index : Nat} {ret : Option FieldType} {hh : List (Nat × Nat × Nat × Nat)} {ws : List Cond} {rm : Room} {Pc : Array Value → State → Prop} {Qc : Array Value → State → Outcome → State → Prop} {free : Addr → Prop} {Ts : List Cond} {own C : String} {b : Addr} {As rest : List Value} {g : JFrame}
    (S : CallFix p m c cc nL s args Ts own) (hM : Met l y ws rm Pc Qc mc ms free) (cw : vx_CVW R s args own C index y bytes maxL ret hh ws rm mc ms n) (hp : PreV s H C b Pc As)
    (hg : g.method = m) (hn : As.length = n) (hsize : g.locals.size = nL) (hstack : g.stack = As.reverse ++ .ref b :: rest) (hW : 2 * g.monitorRoom + (rest.map fun v => v.category).sum ≤ 8) (hdg : decode cc g.pc = .ok (.invokevirtual index, 3)) (hf : cells + mc ≤ R.cells ∧ slots + ms ≤ R.slots) :
    va_Run p l e R s m args below meth c H locs cells slots mc ms g rest (Qc (Value.ref b :: As).toArray) free := by
  obtain ⟨⟨hrc, hrs, hfr, hlo, hws, hcw⟩, hcode, hini, hy, hlen, hl, hin, hse⟩ := cw
  have hK : Back l R p e below s args y 3 8 (PreOf R mc ms Pc) (PostOf Qc mc ms free) := va_backW (hh := hh) (bytes := bytes) (maxL := maxL) (ret := ret) hM hp.1 hrc hrs hfr hlo hws hcw (fun a' U hW => word_at hW (Or.inl (by first | rfl | simp [Cond.onTables, Cond.keeps, Cond.steady])) hini)
  obtain ⟨hx, hb, hml, ho, -⟩ := S
  obtain ⟨-, ⟨cellB, hcB, hoB, hclB⟩, hPc⟩ := hp
  intro T hT X
  obtain ⟨v, vm₁, ⟨U', l2, c2, s2⟩, hW₁, X', ⟨g', mk, t, L, e1, e2, hq, h1, hL, h2, h3⟩, st⟩ := vx_callVW X hx (C := C) (hh := hh) (bytes := bytes) (maxL := maxL) (ret := ret) ho hl hin hse hcode hy hK (by rw [hT]; exact hcB) hoB hclB hg (hsize.trans hml.symm) (argsL := As) (rest := rest) (fun sig h => hn.trans (hlen sig h)) hstack hW (by rw [hb]; exact hdg)
    (fun vm₁ hW₁ => ⟨hf.1, hf.2, hPc (T.setVm vm₁) hT hW₁⟩)
  dsimp only [Pt.U, Pt.locs, Pt.cells, Pt.slots] at X' e1 e2 h1 h2 h3 st
  subst h1; subst h2; subst h3
  exact ⟨v, (T.setVm vm₁).calling g' mk (Value.ref b :: As).toArray, t, U', L, hT, X', hL, e1, e2, hq, st⟩
section
variable {y : MethodName} {bytes cc : ByteArray} {maxL nL mc ms n index : Nat} {ret : Option FieldType} {ws : List Cond} {rm : Room} {Pc : Array Value → State → Prop} {Qc : Array Value → State → Outcome → State → Prop} {XC : String → State → State → Prop} {free : Addr → Prop} {Ts : List Cond} {own C : String} {b : Addr} {As rest : List Value} {g : JFrame}
theorem vx_runVX {hh : List (Nat × Nat × Nat × Nat)} (S : CallFix p m c cc nL s args Ts own) (hM : vx_Met l y ws rm Pc Qc XC mc ms free) (cw : vx_CVW R s args own C index y bytes maxL ret hh ws rm mc ms n) (hp : PreV s H C b Pc As)
    (hg : g.method = m) (hn : As.length = n) (hsize : g.locals.size = nL) (hstack : g.stack = As.reverse ++ .ref b :: rest) (hW : 2 * g.monitorRoom + (rest.map fun v => v.category).sum ≤ 8) (hdg : decode cc g.pc = .ok (.invokevirtual index, 3)) (hf : cells + mc ≤ R.cells ∧ slots + ms ≤ R.slots) :
    vx_Run p l e R s m args below meth c H locs cells slots mc ms g rest (Qc (Value.ref b :: As).toArray) XC free := by
  obtain ⟨⟨hrc, hrs, hfr, hlo, hws, hcw⟩, hcode, hini, hy, hlen, hl, hin, hse⟩ := cw
  have hK : vx_Back l R p e below s args y 3 8 (PreOf R mc ms Pc) (PostOf Qc mc ms free) (vx_Post XC mc ms free) := vx_backW (hh := hh) (bytes := bytes) (maxL := maxL) (ret := ret) hM hp.1 hrc hrs hfr hlo hws hcw (fun a' U hW => word_at hW (Or.inl (by first | rfl | simp [Cond.onTables, Cond.keeps, Cond.steady])) hini)
  obtain ⟨hx, hb, hml, ho, -⟩ := S
  obtain ⟨-, ⟨cellB, hcB, hoB, hclB⟩, hPc⟩ := hp
  intro T hT X
  rcases vx_callVX X hx (C := C) (hh := hh) (bytes := bytes) (maxL := maxL) (ret := ret) ho hl hin hse hcode hy hK (by rw [hT]; exact hcB) hoB hclB hg (hsize.trans hml.symm) (argsL := As) (rest := rest) (fun sig h => hn.trans (hlen sig h)) hstack hW (by rw [hb]; exact hdg)
    (fun vm₁ hW₁ => ⟨hf.1, hf.2, hPc (T.setVm vm₁) hT hW₁⟩) with ⟨v, vm₁, ⟨U', l2, c2, s2⟩, hW₁, X', ⟨g', mk, t, L, e1, e2, hq, h1, hL, h2, h3⟩, st⟩ | ⟨q, vm₁, ⟨U', l2, c2, s2⟩, hW₁, X', ⟨g', mk, t, L, E, ce, e1, e2, hq, hce, hcv, hcl, h1, hL, h2, h3⟩, st⟩
  · dsimp only [Pt.U, Pt.locs, Pt.cells, Pt.slots] at X' e1 e2 h1 h2 h3 st
    subst h1; subst h2; subst h3
    exact Or.inl ⟨v, (T.setVm vm₁).calling g' mk (Value.ref b :: As).toArray, t, U', L, hT, X', hL, e1, e2, hq, st⟩
  · dsimp only [Pt.U, Pt.locs, Pt.cells, Pt.slots] at X' e1 e2 h1 h2 h3 st hcl
    subst h1; subst h2; subst h3
    exact Or.inr ⟨q, (T.setVm vm₁).calling g' mk (Value.ref b :: As).toArray, t, U', L, E, ce, hT, X', hL, e1, e2, hq, hce, hcv, vx_cls hW₁ hcl, st⟩
theorem vx_runSX {hh : List (Nat × Nat × Nat × Nat)} (S : CallFix p m c cc nL s args Ts own) (hM : vx_Met l y ws rm Pc Qc XC mc ms free) (cw : vx_CSW R s args own index y bytes maxL ret hh ws rm mc ms n) (hp : PreS s H Pc As)
    (hg : g.method = m) (hn : As.length = n) (hsize : g.locals.size = nL) (hstack : g.stack = As.reverse ++ rest) (hW : 2 * g.monitorRoom + (rest.map fun v => v.category).sum ≤ 8) (hdg : decode cc g.pc = .ok (.invokestatic index, 3)) (hf : cells + mc ≤ R.cells ∧ slots + ms ≤ R.slots) :
    vx_Run p l e R s m args below meth c H locs cells slots mc ms g rest (Qc As.toArray) XC free := by
  obtain ⟨⟨hrc, hrs, hfr, hlo, hws, hcw⟩, hcode, hini, hy, hlen, hl, hstt⟩ := cw
  have hK : vx_Back l R p e below s args y 3 8 (PreOf R mc ms Pc) (PostOf Qc mc ms free) (vx_Post XC mc ms free) := vx_backW (hh := hh) (bytes := bytes) (maxL := maxL) (ret := ret) hM hp.1 hrc hrs hfr hlo hws hcw (fun a' U hW => word_at hW (Or.inl (by first | rfl | simp [Cond.onTables, Cond.keeps, Cond.steady])) hini)
  obtain ⟨hx, hb, hml, ho, -⟩ := S
  intro T hT X
  rcases vx_callSX X hx (hh := hh) (bytes := bytes) (maxL := maxL) (ret := ret) ho hl hstt hini hcode hy hK hg (hsize.trans hml.symm) (argsL := As) (rest := rest) (fun sig h => hn.trans (hlen sig h)) hstack hW (by rw [hb]; exact hdg)
    (fun vm₁ hW₁ => ⟨hf.1, hf.2, hp.2 (T.setVm vm₁) hT hW₁⟩) with ⟨v, vm₁, ⟨U', l2, c2, s2⟩, hW₁, X', ⟨g', mk, t, L, e1, e2, hq, h1, hL, h2, h3⟩, st⟩ | ⟨q, vm₁, ⟨U', l2, c2, s2⟩, hW₁, X', ⟨g', mk, t, L, E, ce, e1, e2, hq, hce, hcv, hcl, h1, hL, h2, h3⟩, st⟩
  · dsimp only [Pt.U, Pt.locs, Pt.cells, Pt.slots] at X' e1 e2 h1 h2 h3 st
    subst h1; subst h2; subst h3
    exact Or.inl ⟨v, (T.setVm vm₁).calling g' mk As.toArray, t, U', L, hT, X', hL, e1, e2, hq, st⟩
  · dsimp only [Pt.U, Pt.locs, Pt.cells, Pt.slots] at X' e1 e2 h1 h2 h3 st hcl
    subst h1; subst h2; subst h3
    exact Or.inr ⟨q, (T.setVm vm₁).calling g' mk As.toArray, t, U', L, E, ce, hT, X', hL, e1, e2, hq, hce, hcv, vx_cls hW₁ hcl, st⟩
end
end VXH
theorem vx_ofWH {l : Launch} {y : MethodName} {ws ws' : List Cond} {rm : Room} {Pc : Array Value → State → Prop} {Qc : Array Value → State → Outcome → State → Prop} {XC : String → State → State → Prop} {mc ms : Nat} {free : Addr → Prop} {cc : ByteArray} {maxL : Nat} {ret : Option FieldType} {hh : List (Nat × Nat × Nat × Nat)}
    (hy : plainName y.cls = true) (hw : ws = Cond.codeWith y cc maxL ret hh :: ws')
    (body : ∀ p e s m args below meth c s₁, BodyLoose p l y (headSpec ws rm) cc maxL ret e s m args below meth c s₁ → c.maxLocals = maxL → Pc args s →
      W p l e (headSpec ws rm).room s m args below meth c s.heap [] 0 0 (vx_MQ below Qc XC args s mc ms free) (entryFrame m args maxL)) : vx_Met l y ws rm Pc Qc XC mc ms free := by
  refine MetFree.of_bodyS (code := cc) (maxLocals := maxL) (ret := ret) hy ?_ ?_
  · intro args s m h hn
    obtain ⟨m9, meth, c, hn9, h1, h2, h3, h4, -, h5, h6, -⟩ := Cond.codeWith_spec (atoms_spec (ws := ws) h _ (by rw [hw]; exact List.mem_cons_self))
    cases hn.symm.trans hn9
    exact ⟨meth, c, h1, h2, h3, h4, h5, h6⟩
  · intro p e s m args below meth c s₁ B hml hP _
    have hh0 : s₁.heap = s.heap := by rw [B.state]; rfl
    obtain ⟨t, a1, o, b1, b2, b3⟩ := body p e s m args below meth c s₁ B hml hP s₁ hh0 (Stand.of_body B)
    exact ⟨t, o, a1, b1, b2, b3⟩
/-! ===== END ===== -/
end
section
/-! ===== BEGIN printed: names, fields, word lists, decode rows ===== -/
def RX0 : String := "LoopsToUnits$Binder"
def TX0 : u_T := fun k => match k with
  | 0 => ("LoopsToUnits$Binder", "held", "LLoopsToUnits$Held;", true)
  | 1 => ("LoopsToUnits$Binder", "planner", "LLoopsToUnits$Planner;", true)
  | 2 => ("LoopsToUnits$Binder", "size", "I", false)
  | 3 => ("LoopsToUnits$Binder", "best", "[I", true)
  | 4 => ("LoopsToUnits$Binder", "units", "I", false)
  | 5 => ("LoopsToUnits$Binder", "fewest", "I", false)
  | 6 => ("LoopsToUnits$Binder", "tried", "[I", true)
  | 7 => ("LoopsToUnits$Binder", "phases", "[J", true)
  | 8 => ("LoopsToUnits$Binder", "firsts", "[J", true)
  | 9 => ("LoopsToUnits$Binder", "seconds", "[J", true)
  | 10 => ("LoopsToUnits$Binder", "phasesOfUnit", "[J", true)
  | 11 => ("LoopsToUnits$Binder", "firstsOfUnit", "[J", true)
  | _ => ("LoopsToUnits$Binder", "secondsOfUnit", "[J", true)
def tyX0 : Nat → FieldType := fun k => match k with
  | 0 => .object "LoopsToUnits$Held"
  | 1 => .object "LoopsToUnits$Planner"
  | 2 => .int
  | 3 => .array .int
  | 4 => .int
  | 5 => .int
  | 6 => .array .int
  | 7 => .array .long
  | 8 => .array .long
  | 9 => .array .long
  | 10 => .array .long
  | 11 => .array .long
  | _ => .array .long
abbrev wsX00 : List Cond := u_ws RX0 TX0 13
theorem nmX0 : ∀ a, a < 13 → ∀ b, b < 13 → a ≠ b → (TX0 a).2.1 ≠ (TX0 b).2.1 := by decide +kernel
theorem tyX0_ok : ∀ k, k < 13 → parseFieldDescriptor (TX0 k).2.2.1 = some (tyX0 k) := by decide +kernel
abbrev cX0_init : ByteArray := prog_2_method_1_code
def yX0_init : MethodName := ⟨RX0, "<init>", "(LLoopsToUnits$Held;LLoopsToUnits$Planner;)V"⟩
abbrev cX0_bind : ByteArray := prog_2_method_2_code
def yX0_bind : MethodName := ⟨RX0, "bind", "(I)I"⟩
abbrev cX0_closeUp : ByteArray := prog_2_method_3_code
def yX0_closeUp : MethodName := ⟨RX0, "closeUp", "(I)I"⟩
abbrev cX0_bindFrom : ByteArray := prog_2_method_4_code
def yX0_bindFrom : MethodName := ⟨RX0, "bindFrom", "(III)V"⟩
abbrev cX0_bindTo : ByteArray := prog_2_method_5_code
def yX0_bindTo : MethodName := ⟨RX0, "bindTo", "(IIII)V"⟩
abbrev cX0_switchesFor : ByteArray := prog_2_method_6_code
def yX0_switchesFor : MethodName := ⟨RX0, "switchesFor", "(JJ)I"⟩
def RX1 : String := "LoopsToUnits$Bounds"
def TX1 : u_T := fun k => match k with
  | 0 => ("LoopsToUnits$Bounds", "held", "LLoopsToUnits$Held;", true)
  | 1 => ("LoopsToUnits$Bounds", "stale", "Z", false)
  | 2 => ("LoopsToUnits$Bounds", "rings", "I", false)
  | 3 => ("LoopsToUnits$Bounds", "pools", "[I", true)
  | 4 => ("LoopsToUnits$Bounds", "lasts", "[I", true)
  | 5 => ("LoopsToUnits$Bounds", "lastParts", "[I", true)
  | 6 => ("LoopsToUnits$Bounds", "addresses", "[I", true)
  | 7 => ("LoopsToUnits$Bounds", "starts", "[I", true)
  | 8 => ("LoopsToUnits$Bounds", "many", "I", false)
  | 9 => ("LoopsToUnits$Bounds", "by", "[I", true)
  | 10 => ("LoopsToUnits$Bounds", "on", "[I", true)
  | 11 => ("LoopsToUnits$Bounds", "parts", "[I", true)
  | 12 => ("LoopsToUnits$Bounds", "rounds", "[I", true)
  | 13 => ("LoopsToUnits$Bounds", "earliest", "[I", true)
  | 14 => ("LoopsToUnits$Bounds", "latest", "[I", true)
  | 15 => ("LoopsToUnits$Bounds", "order", "[I", true)
  | 16 => ("LoopsToUnits$Bounds", "known", "[I", true)
  | _ => ("LoopsToUnits$Bounds", "reached", "[I", true)
def tyX1 : Nat → FieldType := fun k => match k with
  | 0 => .object "LoopsToUnits$Held"
  | 1 => .boolean
  | 2 => .int
  | 3 => .array .int
  | 4 => .array .int
  | 5 => .array .int
  | 6 => .array .int
  | 7 => .array .int
  | 8 => .int
  | 9 => .array .int
  | 10 => .array .int
  | 11 => .array .int
  | 12 => .array .int
  | 13 => .array .int
  | 14 => .array .int
  | 15 => .array .int
  | 16 => .array .int
  | _ => .array .int
abbrev wsX10 : List Cond := u_ws RX1 TX1 18
theorem nmX1 : ∀ a, a < 18 → ∀ b, b < 18 → a ≠ b → (TX1 a).2.1 ≠ (TX1 b).2.1 := by decide +kernel
theorem tyX1_ok : ∀ k, k < 18 → parseFieldDescriptor (TX1 k).2.2.1 = some (tyX1 k) := by decide +kernel
abbrev cX1_init : ByteArray := prog_3_method_1_code
def yX1_init : MethodName := ⟨RX1, "<init>", "(LLoopsToUnits$Held;)V"⟩
abbrev cX1_forget : ByteArray := prog_3_method_2_code
def yX1_forget : MethodName := ⟨RX1, "forget", "()V"⟩
abbrev cX1_renew : ByteArray := prog_3_method_3_code
def yX1_renew : MethodName := ⟨RX1, "renew", "()V"⟩
abbrev cX1_findSort : ByteArray := prog_3_method_4_code
def yX1_findSort : MethodName := ⟨RX1, "findSort", "(I)V"⟩
abbrev cX1_findAddress : ByteArray := prog_3_method_5_code
def yX1_findAddress : MethodName := ⟨RX1, "findAddress", "(I)V"⟩
abbrev cX1_findAddressBy : ByteArray := prog_3_method_6_code
def yX1_findAddressBy : MethodName := ⟨RX1, "findAddressBy", "(II)V"⟩
abbrev cX1_addOperand : ByteArray := prog_3_method_7_code
def yX1_addOperand : MethodName := ⟨RX1, "addOperand", "(II)V"⟩
abbrev cX1_addAccess : ByteArray := prog_3_method_8_code
def yX1_addAccess : MethodName := ⟨RX1, "addAccess", "(II)V"⟩
abbrev cX1_add : ByteArray := prog_3_method_9_code
def yX1_add : MethodName := ⟨RX1, "add", "(IIII)V"⟩
abbrev cX1_behind : ByteArray := prog_3_method_10_code
def yX1_behind : MethodName := ⟨RX1, "behind", "(II)I"⟩
abbrev cX1_findRings : ByteArray := prog_3_method_11_code
def yX1_findRings : MethodName := ⟨RX1, "findRings", "()V"⟩
abbrev cX1_need : ByteArray := prog_3_method_12_code
def yX1_need : MethodName := ⟨RX1, "need", "(I)I"⟩
abbrev cX1_leastGap : ByteArray := prog_3_method_13_code
def yX1_leastGap : MethodName := ⟨RX1, "leastGap", "()I"⟩
abbrev cX1_haveTimes : ByteArray := prog_3_method_14_code
def yX1_haveTimes : MethodName := ⟨RX1, "haveTimes", "(I)Z"⟩
abbrev cX1_findsEarliest : ByteArray := prog_3_method_15_code
def yX1_findsEarliest : MethodName := ⟨RX1, "findsEarliest", "(I)Z"⟩
abbrev cX1_raises : ByteArray := prog_3_method_16_code
def yX1_raises : MethodName := ⟨RX1, "raises", "(II)Z"⟩
abbrev cX1_findLatest : ByteArray := prog_3_method_17_code
def yX1_findLatest : MethodName := ⟨RX1, "findLatest", "(I)V"⟩
abbrev cX1_lowers : ByteArray := prog_3_method_18_code
def yX1_lowers : MethodName := ⟨RX1, "lowers", "(II)Z"⟩
abbrev cX1_findOrder : ByteArray := prog_3_method_19_code
def yX1_findOrder : MethodName := ⟨RX1, "findOrder", "(I)V"⟩
abbrev cX1_firstTime : ByteArray := prog_3_method_20_code
def yX1_firstTime : MethodName := ⟨RX1, "firstTime", "(II)I"⟩
abbrev cX1_lastTime : ByteArray := prog_3_method_21_code
def yX1_lastTime : MethodName := ⟨RX1, "lastTime", "(II)I"⟩
abbrev cX1_lengthBy : ByteArray := prog_3_method_22_code
def yX1_lengthBy : MethodName := ⟨RX1, "lengthBy", "(I)I"⟩
abbrev cX1_fixedBy : ByteArray := prog_3_method_23_code
def yX1_fixedBy : MethodName := ⟨RX1, "fixedBy", "(I)I"⟩
abbrev cX1_inRings : ByteArray := prog_3_method_24_code
def yX1_inRings : MethodName := ⟨RX1, "inRings", "()I"⟩
def RX2 : String := "LoopsToUnits$Draw"
def TX2 : u_T := fun k => match k with
  | _ => ("LoopsToUnits$Draw", "last", "I", false)
def tyX2 : Nat → FieldType := fun k => match k with
  | _ => .int
abbrev wsX20 : List Cond := u_ws RX2 TX2 1
theorem nmX2 : ∀ a, a < 1 → ∀ b, b < 1 → a ≠ b → (TX2 a).2.1 ≠ (TX2 b).2.1 := by decide +kernel
theorem tyX2_ok : ∀ k, k < 1 → parseFieldDescriptor (TX2 k).2.2.1 = some (tyX2 k) := by decide +kernel
abbrev cX2_init : ByteArray := prog_4_method_1_code
def yX2_init : MethodName := ⟨RX2, "<init>", "(I)V"⟩
abbrev cX2_next : ByteArray := prog_4_method_2_code
def yX2_next : MethodName := ⟨RX2, "next", "(I)I"⟩
def RX3 : String := "LoopsToUnits$Held"
def TX3 : u_T := fun k => match k with
  | 0 => ("LoopsToUnits$Held", "acts", "I", false)
  | 1 => ("LoopsToUnits$Held", "sorts", "[I", true)
  | 2 => ("LoopsToUnits$Held", "places", "[I", true)
  | 3 => ("LoopsToUnits$Held", "firsts", "[I", true)
  | 4 => ("LoopsToUnits$Held", "seconds", "[I", true)
  | 5 => ("LoopsToUnits$Held", "cells", "[I", true)
  | _ => ("LoopsToUnits$Held", "units", "[I", true)
def tyX3 : Nat → FieldType := fun k => match k with
  | 0 => .int
  | 1 => .array .int
  | 2 => .array .int
  | 3 => .array .int
  | 4 => .array .int
  | 5 => .array .int
  | _ => .array .int
abbrev wsX30 : List Cond := u_ws RX3 TX3 7
theorem nmX3 : ∀ a, a < 7 → ∀ b, b < 7 → a ≠ b → (TX3 a).2.1 ≠ (TX3 b).2.1 := by decide +kernel
theorem tyX3_ok : ∀ k, k < 7 → parseFieldDescriptor (TX3 k).2.2.1 = some (tyX3 k) := by decide +kernel
abbrev cX3_init : ByteArray := prog_5_method_1_code
def yX3_init : MethodName := ⟨RX3, "<init>", "()V"⟩
abbrev cX3_take : ByteArray := prog_5_method_2_code
def yX3_take : MethodName := ⟨RX3, "take", "(LLoopsToUnits$Held;)V"⟩
abbrev cX3_takeLoop : ByteArray := prog_5_method_3_code
def yX3_takeLoop : MethodName := ⟨RX3, "takeLoop", "(LLoopsToUnits$Held;)V"⟩
abbrev cX3_putAct : ByteArray := prog_5_method_4_code
def yX3_putAct : MethodName := ⟨RX3, "putAct", "(IIIII)V"⟩
abbrev cX3_isSum : ByteArray := prog_5_method_5_code
def yX3_isSum : MethodName := ⟨RX3, "isSum", "(I)Z"⟩
abbrev cX3_countSorts : ByteArray := prog_5_method_6_code
def yX3_countSorts : MethodName := ⟨RX3, "countSorts", "(II)I"⟩
abbrev cX3_cost : ByteArray := prog_5_method_7_code
def yX3_cost : MethodName := ⟨RX3, "cost", "()I"⟩
abbrev cX3_letterOf : ByteArray := prog_5_method_8_code
def yX3_letterOf : MethodName := ⟨RX3, "letterOf", "(I)I"⟩
abbrev cX3_marksOf : ByteArray := prog_5_method_9_code
def yX3_marksOf : MethodName := ⟨RX3, "marksOf", "(I)I"⟩
def RX4 : String := "LoopsToUnits$History"
def TX4 : u_T := fun k => match k with
  | 0 => ("LoopsToUnits$History", "held", "LLoopsToUnits$Held;", true)
  | 1 => ("LoopsToUnits$History", "marks", "[LLoopsToUnits$Held;", true)
  | 2 => ("LoopsToUnits$History", "next", "I", false)
  | 3 => ("LoopsToUnits$History", "size", "I", false)
  | 4 => ("LoopsToUnits$History", "slots", "[LLoopsToUnits$Held;", true)
  | _ => ("LoopsToUnits$History", "filled", "[Z", true)
def tyX4 : Nat → FieldType := fun k => match k with
  | 0 => .object "LoopsToUnits$Held"
  | 1 => .array (.object "LoopsToUnits$Held")
  | 2 => .int
  | 3 => .int
  | 4 => .array (.object "LoopsToUnits$Held")
  | _ => .array .boolean
abbrev wsX40 : List Cond := u_ws RX4 TX4 6
theorem nmX4 : ∀ a, a < 6 → ∀ b, b < 6 → a ≠ b → (TX4 a).2.1 ≠ (TX4 b).2.1 := by decide +kernel
theorem tyX4_ok : ∀ k, k < 6 → parseFieldDescriptor (TX4 k).2.2.1 = some (tyX4 k) := by decide +kernel
abbrev cX4_init : ByteArray := prog_6_method_1_code
def yX4_init : MethodName := ⟨RX4, "<init>", "(LLoopsToUnits$Held;)V"⟩
abbrev cX4_mark : ByteArray := prog_6_method_2_code
def yX4_mark : MethodName := ⟨RX4, "mark", "()V"⟩
abbrev cX4_keepMark : ByteArray := prog_6_method_3_code
def yX4_keepMark : MethodName := ⟨RX4, "keepMark", "()V"⟩
abbrev cX4_takeBack : ByteArray := prog_6_method_4_code
def yX4_takeBack : MethodName := ⟨RX4, "takeBack", "()V"⟩
abbrev cX4_keepUnder : ByteArray := prog_6_method_5_code
def yX4_keepUnder : MethodName := ⟨RX4, "keepUnder", "(I)Z"⟩
abbrev cX4_takeFrom : ByteArray := prog_6_method_6_code
def yX4_takeFrom : MethodName := ⟨RX4, "takeFrom", "(I)Z"⟩
def RX5 : String := "LoopsToUnits$Planner"
def TX5 : u_T := fun k => match k with
  | 0 => ("LoopsToUnits$Planner", "held", "LLoopsToUnits$Held;", true)
  | 1 => ("LoopsToUnits$Planner", "bounds", "LLoopsToUnits$Bounds;", true)
  | 2 => ("LoopsToUnits$Planner", "stale", "Z", false)
  | 3 => ("LoopsToUnits$Planner", "gap", "I", false)
  | 4 => ("LoopsToUnits$Planner", "times", "[I", true)
  | _ => ("LoopsToUnits$Planner", "put", "[Z", true)
def tyX5 : Nat → FieldType := fun k => match k with
  | 0 => .object "LoopsToUnits$Held"
  | 1 => .object "LoopsToUnits$Bounds"
  | 2 => .boolean
  | 3 => .int
  | 4 => .array .int
  | _ => .array .boolean
abbrev wsX50 : List Cond := u_ws RX5 TX5 6
theorem nmX5 : ∀ a, a < 6 → ∀ b, b < 6 → a ≠ b → (TX5 a).2.1 ≠ (TX5 b).2.1 := by decide +kernel
theorem tyX5_ok : ∀ k, k < 6 → parseFieldDescriptor (TX5 k).2.2.1 = some (tyX5 k) := by decide +kernel
abbrev cX5_init : ByteArray := prog_7_method_1_code
def yX5_init : MethodName := ⟨RX5, "<init>", "(LLoopsToUnits$Held;LLoopsToUnits$Bounds;)V"⟩
abbrev cX5_forget : ByteArray := prog_7_method_2_code
def yX5_forget : MethodName := ⟨RX5, "forget", "()V"⟩
abbrev cX5_findGap : ByteArray := prog_7_method_3_code
def yX5_findGap : MethodName := ⟨RX5, "findGap", "(I)I"⟩
abbrev cX5_planBy : ByteArray := prog_7_method_4_code
def yX5_planBy : MethodName := ⟨RX5, "planBy", "(I)Z"⟩
abbrev cX5_timeFor : ByteArray := prog_7_method_5_code
def yX5_timeFor : MethodName := ⟨RX5, "timeFor", "(II)I"⟩
abbrev cX5_firstFor : ByteArray := prog_7_method_6_code
def yX5_firstFor : MethodName := ⟨RX5, "firstFor", "(II)I"⟩
abbrev cX5_comesTooLate : ByteArray := prog_7_method_7_code
def yX5_comesTooLate : MethodName := ⟨RX5, "comesTooLate", "(II)Z"⟩
abbrev cX5_hasRoom : ByteArray := prog_7_method_8_code
def yX5_hasRoom : MethodName := ⟨RX5, "hasRoom", "(III)Z"⟩
abbrev cX5_mayMeet : ByteArray := prog_7_method_9_code
def yX5_mayMeet : MethodName := ⟨RX5, "mayMeet", "(III)Z"⟩
abbrev cX5_bankIn : ByteArray := prog_7_method_10_code
def yX5_bankIn : MethodName := ⟨RX5, "bankIn", "(II)I"⟩
abbrev cX5_tickOf : ByteArray := prog_7_method_11_code
def yX5_tickOf : MethodName := ⟨RX5, "tickOf", "(I)I"⟩
abbrev cX5_phaseOf : ByteArray := prog_7_method_12_code
def yX5_phaseOf : MethodName := ⟨RX5, "phaseOf", "(I)I"⟩
abbrev cX5_roundAt : ByteArray := prog_7_method_13_code
def yX5_roundAt : MethodName := ⟨RX5, "roundAt", "(III)I"⟩
abbrev cX5_readyOf : ByteArray := prog_7_method_14_code
def yX5_readyOf : MethodName := ⟨RX5, "readyOf", "(I)I"⟩
abbrev cX5_ticksOfPlan : ByteArray := prog_7_method_15_code
def yX5_ticksOfPlan : MethodName := ⟨RX5, "ticksOfPlan", "()I"⟩
abbrev cX5_lastTick : ByteArray := prog_7_method_16_code
def yX5_lastTick : MethodName := ⟨RX5, "lastTick", "()I"⟩
abbrev cX5_keptAt : ByteArray := prog_7_method_17_code
def yX5_keptAt : MethodName := ⟨RX5, "keptAt", "(I)I"⟩
abbrev cX5_lastUseOf : ByteArray := prog_7_method_18_code
def yX5_lastUseOf : MethodName := ⟨RX5, "lastUseOf", "(I)I"⟩
abbrev cX5_useBy : ByteArray := prog_7_method_19_code
def yX5_useBy : MethodName := ⟨RX5, "useBy", "(III)I"⟩
def RX6 : String := "LoopsToUnits$Player"
def TX6 : u_T := fun k => match k with
  | 0 => ("LoopsToUnits$Player", "held", "LLoopsToUnits$Held;", true)
  | 1 => ("LoopsToUnits$Player", "planner", "LLoopsToUnits$Planner;", true)
  | 2 => ("LoopsToUnits$Player", "cells", "[I", true)
  | 3 => ("LoopsToUnits$Player", "values", "[I", true)
  | 4 => ("LoopsToUnits$Player", "order", "[I", true)
  | 5 => ("LoopsToUnits$Player", "writtenCells", "[I", true)
  | _ => ("LoopsToUnits$Player", "writtenValues", "[I", true)
def tyX6 : Nat → FieldType := fun k => match k with
  | 0 => .object "LoopsToUnits$Held"
  | 1 => .object "LoopsToUnits$Planner"
  | 2 => .array .int
  | 3 => .array .int
  | 4 => .array .int
  | 5 => .array .int
  | _ => .array .int
abbrev wsX60 : List Cond := u_ws RX6 TX6 7
theorem nmX6 : ∀ a, a < 7 → ∀ b, b < 7 → a ≠ b → (TX6 a).2.1 ≠ (TX6 b).2.1 := by decide +kernel
theorem tyX6_ok : ∀ k, k < 7 → parseFieldDescriptor (TX6 k).2.2.1 = some (tyX6 k) := by decide +kernel
abbrev cX6_init : ByteArray := prog_8_method_1_code
def yX6_init : MethodName := ⟨RX6, "<init>", "(LLoopsToUnits$Held;LLoopsToUnits$Planner;)V"⟩
abbrev cX6_copyCells : ByteArray := prog_8_method_2_code
def yX6_copyCells : MethodName := ⟨RX6, "copyCells", "()V"⟩
abbrev cX6_sumOfCells : ByteArray := prog_8_method_3_code
def yX6_sumOfCells : MethodName := ⟨RX6, "sumOfCells", "()I"⟩
abbrev cX6_valueOf : ByteArray := prog_8_method_4_code
def yX6_valueOf : MethodName := ⟨RX6, "valueOf", "(II)I"⟩
abbrev cX6_play : ByteArray := prog_8_method_5_code
def yX6_play : MethodName := ⟨RX6, "play", "([II)V"⟩
abbrev cX6_find : ByteArray := prog_8_method_6_code
def yX6_find : MethodName := ⟨RX6, "find", "(II[I)I"⟩
abbrev cX6_operand : ByteArray := prog_8_method_7_code
def yX6_operand : MethodName := ⟨RX6, "operand", "(II)I"⟩
abbrev cX6_cellOf : ByteArray := prog_8_method_8_code
def yX6_cellOf : MethodName := ⟨RX6, "cellOf", "(II)I"⟩
abbrev cX6_work : ByteArray := prog_8_method_9_code
def yX6_work : MethodName := ⟨RX6, "work", "([II)V"⟩
abbrev cX6_findOrder : ByteArray := prog_8_method_10_code
def yX6_findOrder : MethodName := ⟨RX6, "findOrder", "()V"⟩
abbrev cX6_workTick : ByteArray := prog_8_method_11_code
def yX6_workTick : MethodName := ⟨RX6, "workTick", "([III)V"⟩
def RX7 : String := "LoopsToUnits$Reader"
def TX7 : u_T := fun k => match k with
  | 0 => ("LoopsToUnits$Reader", "script", "LLoopsToUnits$Script;", true)
  | 1 => ("LoopsToUnits$Reader", "read", "LLoopsToUnits$Held;", true)
  | _ => ("LoopsToUnits$Reader", "greatestMarked", "I", false)
def tyX7 : Nat → FieldType := fun k => match k with
  | 0 => .object "LoopsToUnits$Script"
  | 1 => .object "LoopsToUnits$Held"
  | _ => .int
abbrev wsX70 : List Cond := u_ws RX7 TX7 3
theorem nmX7 : ∀ a, a < 3 → ∀ b, b < 3 → a ≠ b → (TX7 a).2.1 ≠ (TX7 b).2.1 := by decide +kernel
theorem tyX7_ok : ∀ k, k < 3 → parseFieldDescriptor (TX7 k).2.2.1 = some (tyX7 k) := by decide +kernel
abbrev cX7_init : ByteArray := prog_9_method_1_code
def yX7_init : MethodName := ⟨RX7, "<init>", "(LLoopsToUnits$Script;)V"⟩
abbrev cX7_readLoop : ByteArray := prog_9_method_2_code
def yX7_readLoop : MethodName := ⟨RX7, "readLoop", "()I"⟩
abbrev cX7_readsActs : ByteArray := prog_9_method_3_code
def yX7_readsActs : MethodName := ⟨RX7, "readsActs", "()Z"⟩
abbrev cX7_readsAct : ByteArray := prog_9_method_4_code
def yX7_readsAct : MethodName := ⟨RX7, "readsAct", "(I)Z"⟩
abbrev cX7_readsAccess : ByteArray := prog_9_method_5_code
def yX7_readsAccess : MethodName := ⟨RX7, "readsAccess", "(II)Z"⟩
abbrev cX7_sortOf : ByteArray := prog_9_method_6_code
def yX7_sortOf : MethodName := ⟨RX7, "sortOf", "(I)I"⟩
abbrev cX7_readOperand : ByteArray := prog_9_method_7_code
def yX7_readOperand : MethodName := ⟨RX7, "readOperand", "(I)I"⟩
abbrev cX7_marksBehind : ByteArray := prog_9_method_8_code
def yX7_marksBehind : MethodName := ⟨RX7, "marksBehind", "()I"⟩
abbrev cX7_readCells : ByteArray := prog_9_method_9_code
def yX7_readCells : MethodName := ⟨RX7, "readCells", "()I"⟩
abbrev cX7_readsNumber : ByteArray := prog_9_method_10_code
def yX7_readsNumber : MethodName := ⟨RX7, "readsNumber", "(I)Z"⟩
abbrev cX7_checkDay : ByteArray := prog_9_method_11_code
def yX7_checkDay : MethodName := ⟨RX7, "checkDay", "()I"⟩
abbrev cX7_readsChange : ByteArray := prog_9_method_12_code
def yX7_readsChange : MethodName := ⟨RX7, "readsChange", "()Z"⟩
abbrev cX7_signsOfChange : ByteArray := prog_9_method_13_code
def yX7_signsOfChange : MethodName := ⟨RX7, "signsOfChange", "(I)I"⟩
def RX8 : String := "LoopsToUnits$Row"
def TX8 : u_T := fun k => match k with
  | 0 => ("LoopsToUnits$Row", "numbers", "[J", true)
  | _ => ("LoopsToUnits$Row", "size", "I", false)
def tyX8 : Nat → FieldType := fun k => match k with
  | 0 => .array .long
  | _ => .int
abbrev wsX80 : List Cond := u_ws RX8 TX8 2
theorem nmX8 : ∀ a, a < 2 → ∀ b, b < 2 → a ≠ b → (TX8 a).2.1 ≠ (TX8 b).2.1 := by decide +kernel
theorem tyX8_ok : ∀ k, k < 2 → parseFieldDescriptor (TX8 k).2.2.1 = some (tyX8 k) := by decide +kernel
abbrev cX8_init : ByteArray := prog_10_method_1_code
def yX8_init : MethodName := ⟨RX8, "<init>", "()V"⟩
abbrev cX8_clear : ByteArray := prog_10_method_2_code
def yX8_clear : MethodName := ⟨RX8, "clear", "()V"⟩
abbrev cX8_add : ByteArray := prog_10_method_3_code
def yX8_add : MethodName := ⟨RX8, "add", "(J)V"⟩
def RX9 : String := "LoopsToUnits$Script"
def TX9 : u_T := fun k => match k with
  | 0 => ("LoopsToUnits$Script", "signs", "[I", true)
  | 1 => ("LoopsToUnits$Script", "size", "I", false)
  | _ => ("LoopsToUnits$Script", "at", "I", false)
def tyX9 : Nat → FieldType := fun k => match k with
  | 0 => .array .int
  | 1 => .int
  | _ => .int
abbrev wsX90 : List Cond := u_ws RX9 TX9 3
theorem nmX9 : ∀ a, a < 3 → ∀ b, b < 3 → a ≠ b → (TX9 a).2.1 ≠ (TX9 b).2.1 := by decide +kernel
theorem tyX9_ok : ∀ k, k < 3 → parseFieldDescriptor (TX9 k).2.2.1 = some (tyX9 k) := by decide +kernel
abbrev cX9_init : ByteArray := prog_11_method_1_code
def yX9_init : MethodName := ⟨RX9, "<init>", "()V"⟩
abbrev cX9_add : ByteArray := prog_11_method_2_code
def yX9_add : MethodName := ⟨RX9, "add", "(I)V"⟩
abbrev cX9_signAt : ByteArray := prog_11_method_3_code
def yX9_signAt : MethodName := ⟨RX9, "signAt", "(I)I"⟩
abbrev cX9_now : ByteArray := prog_11_method_4_code
def yX9_now : MethodName := ⟨RX9, "now", "()I"⟩
abbrev cX9_isOver : ByteArray := prog_11_method_5_code
def yX9_isOver : MethodName := ⟨RX9, "isOver", "()Z"⟩
abbrev cX9_takes : ByteArray := prog_11_method_6_code
def yX9_takes : MethodName := ⟨RX9, "takes", "(I)Z"⟩
abbrev cX9_takesDigit : ByteArray := prog_11_method_7_code
def yX9_takesDigit : MethodName := ⟨RX9, "takesDigit", "()Z"⟩
abbrev cX9_takesMemory : ByteArray := prog_11_method_8_code
def yX9_takesMemory : MethodName := ⟨RX9, "takesMemory", "()Z"⟩
abbrev cX9_digitAt : ByteArray := prog_11_method_9_code
def yX9_digitAt : MethodName := ⟨RX9, "digitAt", "(I)I"⟩
abbrev cX9_refusal : ByteArray := prog_11_method_10_code
def yX9_refusal : MethodName := ⟨RX9, "refusal", "()I"⟩
def RX10 : String := "LoopsToUnits"
def TX10 : u_T := fun k => match k with
  | 0 => ("LoopsToUnits", "held", "LLoopsToUnits$Held;", true)
  | 1 => ("LoopsToUnits", "script", "LLoopsToUnits$Script;", true)
  | 2 => ("LoopsToUnits", "reader", "LLoopsToUnits$Reader;", true)
  | 3 => ("LoopsToUnits", "bounds", "LLoopsToUnits$Bounds;", true)
  | 4 => ("LoopsToUnits", "planner", "LLoopsToUnits$Planner;", true)
  | 5 => ("LoopsToUnits", "player", "LLoopsToUnits$Player;", true)
  | 6 => ("LoopsToUnits", "binder", "LLoopsToUnits$Binder;", true)
  | 7 => ("LoopsToUnits", "told", "LLoopsToUnits$Row;", true)
  | _ => ("LoopsToUnits", "history", "LLoopsToUnits$History;", true)
def tyX10 : Nat → FieldType := fun k => match k with
  | 0 => .object "LoopsToUnits$Held"
  | 1 => .object "LoopsToUnits$Script"
  | 2 => .object "LoopsToUnits$Reader"
  | 3 => .object "LoopsToUnits$Bounds"
  | 4 => .object "LoopsToUnits$Planner"
  | 5 => .object "LoopsToUnits$Player"
  | 6 => .object "LoopsToUnits$Binder"
  | 7 => .object "LoopsToUnits$Row"
  | _ => .object "LoopsToUnits$History"
abbrev wsX100 : List Cond := u_ws RX10 TX10 9
theorem nmX10 : ∀ a, a < 9 → ∀ b, b < 9 → a ≠ b → (TX10 a).2.1 ≠ (TX10 b).2.1 := by decide +kernel
theorem tyX10_ok : ∀ k, k < 9 → parseFieldDescriptor (TX10 k).2.2.1 = some (tyX10 k) := by decide +kernel
abbrev cX10_init : ByteArray := prog_1_method_1_code
def yX10_init : MethodName := ⟨RX10, "<init>", "()V"⟩
abbrev cX10_sign : ByteArray := prog_1_method_2_code
def yX10_sign : MethodName := ⟨RX10, "sign", "(I)I"⟩
abbrev cX10_end : ByteArray := prog_1_method_3_code
def yX10_end : MethodName := ⟨RX10, "end", "(I)Z"⟩
abbrev cX10_loop : ByteArray := prog_1_method_4_code
def yX10_loop : MethodName := ⟨RX10, "loop", "()I"⟩
abbrev cX10_memory : ByteArray := prog_1_method_5_code
def yX10_memory : MethodName := ⟨RX10, "memory", "(I)I"⟩
abbrev cX10_cell : ByteArray := prog_1_method_6_code
def yX10_cell : MethodName := ⟨RX10, "cell", "(II)I"⟩
abbrev cX10_act : ByteArray := prog_1_method_7_code
def yX10_act : MethodName := ⟨RX10, "act", "(II)I"⟩
abbrev cX10_sheet : ByteArray := prog_1_method_8_code
def yX10_sheet : MethodName := ⟨RX10, "sheet", "(IIII)I"⟩
abbrev cX10_sets : ByteArray := prog_1_method_9_code
def yX10_sets : MethodName := ⟨RX10, "sets", "(II)I"⟩
abbrev cX10_writes : ByteArray := prog_1_method_10_code
def yX10_writes : MethodName := ⟨RX10, "writes", "(III)I"⟩
abbrev cX10_runs : ByteArray := prog_1_method_11_code
def yX10_runs : MethodName := ⟨RX10, "runs", "(I)I"⟩
abbrev cX10_day : ByteArray := prog_1_method_12_code
def yX10_day : MethodName := ⟨RX10, "day", "()I"⟩
abbrev cX10_undo : ByteArray := prog_1_method_13_code
def yX10_undo : MethodName := ⟨RX10, "undo", "()I"⟩
abbrev cX10_least : ByteArray := prog_1_method_14_code
def yX10_least : MethodName := ⟨RX10, "least", "()I"⟩
abbrev cX10_earliest : ByteArray := prog_1_method_15_code
def yX10_earliest : MethodName := ⟨RX10, "earliest", "(I)I"⟩
abbrev cX10_latest : ByteArray := prog_1_method_16_code
def yX10_latest : MethodName := ⟨RX10, "latest", "(I)I"⟩
abbrev cX10_knots : ByteArray := prog_1_method_17_code
def yX10_knots : MethodName := ⟨RX10, "knots", "()I"⟩
abbrev cX10_address : ByteArray := prog_1_method_18_code
def yX10_address : MethodName := ⟨RX10, "address", "(I)I"⟩
abbrev cX10_gap : ByteArray := prog_1_method_19_code
def yX10_gap : MethodName := ⟨RX10, "gap", "()I"⟩
abbrev cX10_begins : ByteArray := prog_1_method_20_code
def yX10_begins : MethodName := ⟨RX10, "begins", "(I)I"⟩
abbrev cX10_why : ByteArray := prog_1_method_21_code
def yX10_why : MethodName := ⟨RX10, "why", "()I"⟩
abbrev cX10_plan : ByteArray := prog_1_method_22_code
def yX10_plan : MethodName := ⟨RX10, "plan", "(I)I"⟩
abbrev cX10_length : ByteArray := prog_1_method_23_code
def yX10_length : MethodName := ⟨RX10, "length", "()I"⟩
abbrev cX10_state : ByteArray := prog_1_method_24_code
def yX10_state : MethodName := ⟨RX10, "state", "(I)I"⟩
abbrev cX10_tick : ByteArray := prog_1_method_25_code
def yX10_tick : MethodName := ⟨RX10, "tick", "(II)I"⟩
abbrev cX10_registers : ByteArray := prog_1_method_26_code
def yX10_registers : MethodName := ⟨RX10, "registers", "()I"⟩
abbrev cX10_binds : ByteArray := prog_1_method_27_code
def yX10_binds : MethodName := ⟨RX10, "binds", "(I)I"⟩
abbrev cX10_shares : ByteArray := prog_1_method_28_code
def yX10_shares : MethodName := ⟨RX10, "shares", "(I)I"⟩
abbrev cX10_plays : ByteArray := prog_1_method_29_code
def yX10_plays : MethodName := ⟨RX10, "plays", "(I)I"⟩
abbrev cX10_machine : ByteArray := prog_1_method_30_code
def yX10_machine : MethodName := ⟨RX10, "machine", "(I)I"⟩
abbrev cX10_saves : ByteArray := prog_1_method_31_code
def yX10_saves : MethodName := ⟨RX10, "saves", "(I)I"⟩
abbrev cX10_cheapest : ByteArray := prog_1_method_32_code
def yX10_cheapest : MethodName := ⟨RX10, "cheapest", "(I)I"⟩
abbrev cX10_would : ByteArray := prog_1_method_33_code
def yX10_would : MethodName := ⟨RX10, "would", "(II)I"⟩
abbrev cX10_years : ByteArray := prog_1_method_34_code
def yX10_years : MethodName := ⟨RX10, "years", "(II)I"⟩
abbrev cX10_keep : ByteArray := prog_1_method_35_code
def yX10_keep : MethodName := ⟨RX10, "keep", "(I)Z"⟩
abbrev cX10_again : ByteArray := prog_1_method_36_code
def yX10_again : MethodName := ⟨RX10, "again", "(I)Z"⟩
abbrev cX10_count : ByteArray := prog_1_method_37_code
def yX10_count : MethodName := ⟨RX10, "count", "(I)I"⟩
abbrev cX10_row : ByteArray := prog_1_method_38_code
def yX10_row : MethodName := ⟨RX10, "row", "(I)J"⟩
abbrev cX10_isMemory : ByteArray := prog_1_method_39_code
def yX10_isMemory : MethodName := ⟨RX10, "isMemory", "(I)Z"⟩
abbrev cX10_isCell : ByteArray := prog_1_method_40_code
def yX10_isCell : MethodName := ⟨RX10, "isCell", "(I)Z"⟩
abbrev cX10_isRounds : ByteArray := prog_1_method_41_code
def yX10_isRounds : MethodName := ⟨RX10, "isRounds", "(I)Z"⟩
abbrev cX10_isGap : ByteArray := prog_1_method_42_code
def yX10_isGap : MethodName := ⟨RX10, "isGap", "(I)Z"⟩
abbrev cX10_isBanks : ByteArray := prog_1_method_43_code
def yX10_isBanks : MethodName := ⟨RX10, "isBanks", "(I)Z"⟩
abbrev cX10_isUnit : ByteArray := prog_1_method_44_code
def yX10_isUnit : MethodName := ⟨RX10, "isUnit", "(II)Z"⟩
abbrev cX10_upBy : ByteArray := prog_1_method_45_code
def yX10_upBy : MethodName := ⟨RX10, "upBy", "(II)I"⟩
abbrev cX10_isAct : ByteArray := prog_1_method_46_code
def yX10_isAct : MethodName := ⟨RX10, "isAct", "(I)Z"⟩
abbrev cX10_forgetTimes : ByteArray := prog_1_method_47_code
def yX10_forgetTimes : MethodName := ⟨RX10, "forgetTimes", "()V"⟩
abbrev cX10_writeSheet : ByteArray := prog_1_method_48_code
def yX10_writeSheet : MethodName := ⟨RX10, "writeSheet", "(IIII)I"⟩
abbrev cX10_setUnit : ByteArray := prog_1_method_49_code
def yX10_setUnit : MethodName := ⟨RX10, "setUnit", "(II)I"⟩
abbrev cX10_putUnit : ByteArray := prog_1_method_50_code
def yX10_putUnit : MethodName := ⟨RX10, "putUnit", "(II)V"⟩
abbrev cX10_putPools : ByteArray := prog_1_method_51_code
def yX10_putPools : MethodName := ⟨RX10, "putPools", "(IIII)V"⟩
abbrev cX10_writeCell : ByteArray := prog_1_method_52_code
def yX10_writeCell : MethodName := ⟨RX10, "writeCell", "(III)I"⟩
abbrev cX10_doDay : ByteArray := prog_1_method_53_code
def yX10_doDay : MethodName := ⟨RX10, "doDay", "()I"⟩
abbrev cX10_doChange : ByteArray := prog_1_method_54_code
def yX10_doChange : MethodName := ⟨RX10, "doChange", "(I)I"⟩
abbrev cX10_tellValues : ByteArray := prog_1_method_55_code
def yX10_tellValues : MethodName := ⟨RX10, "tellValues", "(I)V"⟩
abbrev cX10_tellPools : ByteArray := prog_1_method_56_code
def yX10_tellPools : MethodName := ⟨RX10, "tellPools", "()V"⟩
abbrev cX10_tellTimes : ByteArray := prog_1_method_57_code
def yX10_tellTimes : MethodName := ⟨RX10, "tellTimes", "([II)V"⟩
abbrev cX10_tellTicks : ByteArray := prog_1_method_58_code
def yX10_tellTicks : MethodName := ⟨RX10, "tellTicks", "()V"⟩
abbrev cX10_ticksOfMachine : ByteArray := prog_1_method_59_code
def yX10_ticksOfMachine : MethodName := ⟨RX10, "ticksOfMachine", "(I)I"⟩
abbrev cX10_gapNow : ByteArray := prog_1_method_60_code
def yX10_gapNow : MethodName := ⟨RX10, "gapNow", "()I"⟩
abbrev cX10_fitsFor : ByteArray := prog_1_method_61_code
def yX10_fitsFor : MethodName := ⟨RX10, "fitsFor", "(II)Z"⟩
abbrev cX10_drawUnit : ByteArray := prog_1_method_62_code
def yX10_drawUnit : MethodName := ⟨RX10, "drawUnit", "(LLoopsToUnits$Draw;)V"⟩
def RX11 : String := "LoopsToUnitsModel"
def TX11 : u_T := fun k => match k with
  | 0 => ("LoopsToUnitsModel", "now", "[I", true)
  | 1 => ("LoopsToUnitsModel", "text", "[B", true)
  | 2 => ("LoopsToUnitsModel", "typed", "I", false)
  | 3 => ("LoopsToUnitsModel", "row", "[J", true)
  | 4 => ("LoopsToUnitsModel", "rowMany", "I", false)
  | 5 => ("LoopsToUnitsModel", "thrown", "I", false)
  | 6 => ("LoopsToUnitsModel", "length", "I", false)
  | 7 => ("LoopsToUnitsModel", "at", "I", false)
  | 8 => ("LoopsToUnitsModel", "wrong", "I", false)
  | 9 => ("LoopsToUnitsModel", "told", "[I", true)
  | 10 => ("LoopsToUnitsModel", "highest", "I", false)
  | 11 => ("LoopsToUnitsModel", "numbers", "[I", true)
  | 12 => ("LoopsToUnitsModel", "undos", "[I", true)
  | 13 => ("LoopsToUnitsModel", "undoMany", "I", false)
  | 14 => ("LoopsToUnitsModel", "ahead", "[I", true)
  | 15 => ("LoopsToUnitsModel", "values", "[I", true)
  | 16 => ("LoopsToUnitsModel", "changes", "[I", true)
  | 17 => ("LoopsToUnitsModel", "early", "[I", true)
  | 18 => ("LoopsToUnitsModel", "late", "[I", true)
  | 19 => ("LoopsToUnitsModel", "put", "[I", true)
  | 20 => ("LoopsToUnitsModel", "putSet", "I", false)
  | 21 => ("LoopsToUnitsModel", "unit", "[I", true)
  | 22 => ("LoopsToUnitsModel", "bestUnit", "[I", true)
  | 23 => ("LoopsToUnitsModel", "bound", "[I", true)
  | 24 => ("LoopsToUnitsModel", "boundMany", "I", false)
  | 25 => ("LoopsToUnitsModel", "bestSwitches", "I", false)
  | 26 => ("LoopsToUnitsModel", "then", "[I", true)
  | 27 => ("LoopsToUnitsModel", "where", "[I", true)
  | 28 => ("LoopsToUnitsModel", "written", "[I", true)
  | 29 => ("LoopsToUnitsModel", "drawn", "I", false)
  | 30 => ("LoopsToUnitsModel", "kept", "[I", true)
  | _ => ("LoopsToUnitsModel", "isKept", "[Z", true)
def tyX11 : Nat → FieldType := fun k => match k with
  | 0 => .array .int
  | 1 => .array .byte
  | 2 => .int
  | 3 => .array .long
  | 4 => .int
  | 5 => .int
  | 6 => .int
  | 7 => .int
  | 8 => .int
  | 9 => .array .int
  | 10 => .int
  | 11 => .array .int
  | 12 => .array .int
  | 13 => .int
  | 14 => .array .int
  | 15 => .array .int
  | 16 => .array .int
  | 17 => .array .int
  | 18 => .array .int
  | 19 => .array .int
  | 20 => .int
  | 21 => .array .int
  | 22 => .array .int
  | 23 => .array .int
  | 24 => .int
  | 25 => .int
  | 26 => .array .int
  | 27 => .array .int
  | 28 => .array .int
  | 29 => .int
  | 30 => .array .int
  | _ => .array .boolean
abbrev wsX110 : List Cond := u_ws RX11 TX11 32
theorem nmX11 : ∀ a, a < 32 → ∀ b, b < 32 → a ≠ b → (TX11 a).2.1 ≠ (TX11 b).2.1 := by decide +kernel
theorem tyX11_ok : ∀ k, k < 32 → parseFieldDescriptor (TX11 k).2.2.1 = some (tyX11 k) := by decide +kernel
abbrev cX11_init : ByteArray := prog_13_method_1_code
def yX11_init : MethodName := ⟨RX11, "<init>", "()V"⟩
abbrev cX11_in : ByteArray := prog_13_method_3_code
def yX11_in : MethodName := ⟨RX11, "in", "(III)Z"⟩
abbrev cX11_lost : ByteArray := prog_13_method_4_code
def yX11_lost : MethodName := ⟨RX11, "lost", "()I"⟩
abbrev cX11_tell : ByteArray := prog_13_method_5_code
def yX11_tell : MethodName := ⟨RX11, "tell", "(J)V"⟩
abbrev cX11_tellRow : ByteArray := prog_13_method_6_code
def yX11_tellRow : MethodName := ⟨RX11, "tellRow", "([I)V"⟩
abbrev cX11_isAct : ByteArray := prog_13_method_7_code
def yX11_isAct : MethodName := ⟨RX11, "isAct", "(I)Z"⟩
abbrev cX11_sort : ByteArray := prog_13_method_8_code
def yX11_sort : MethodName := ⟨RX11, "sort", "(I)I"⟩
abbrev cX11_memoryOf : ByteArray := prog_13_method_9_code
def yX11_memoryOf : MethodName := ⟨RX11, "memoryOf", "(I)I"⟩
abbrev cX11_operand : ByteArray := prog_13_method_10_code
def yX11_operand : MethodName := ⟨RX11, "operand", "(II)I"⟩
abbrev cX11_isLetter : ByteArray := prog_13_method_11_code
def yX11_isLetter : MethodName := ⟨RX11, "isLetter", "(I)Z"⟩
abbrev cX11_letterOf : ByteArray := prog_13_method_12_code
def yX11_letterOf : MethodName := ⟨RX11, "letterOf", "(I)I"⟩
abbrev cX11_primesOf : ByteArray := prog_13_method_13_code
def yX11_primesOf : MethodName := ⟨RX11, "primesOf", "(I)I"⟩
abbrev cX11_isSum : ByteArray := prog_13_method_14_code
def yX11_isSum : MethodName := ⟨RX11, "isSum", "(I)Z"⟩
abbrev cX11_floorBy : ByteArray := prog_13_method_15_code
def yX11_floorBy : MethodName := ⟨RX11, "floorBy", "(II)I"⟩
abbrev cX11_restBy : ByteArray := prog_13_method_16_code
def yX11_restBy : MethodName := ⟨RX11, "restBy", "(II)I"⟩
abbrev cX11_up : ByteArray := prog_13_method_17_code
def yX11_up : MethodName := ⟨RX11, "up", "(II)I"⟩
abbrev cX11_sign : ByteArray := prog_13_method_18_code
def yX11_sign : MethodName := ⟨RX11, "sign", "(I)I"⟩
abbrev cX11_end : ByteArray := prog_13_method_19_code
def yX11_end : MethodName := ⟨RX11, "end", "(I)Z"⟩
abbrev cX11_begin : ByteArray := prog_13_method_20_code
def yX11_begin : MethodName := ⟨RX11, "begin", "()V"⟩
abbrev cX11_here : ByteArray := prog_13_method_21_code
def yX11_here : MethodName := ⟨RX11, "here", "()I"⟩
abbrev cX11_fine : ByteArray := prog_13_method_22_code
def yX11_fine : MethodName := ⟨RX11, "fine", "()Z"⟩
abbrev cX11_fault : ByteArray := prog_13_method_23_code
def yX11_fault : MethodName := ⟨RX11, "fault", "(I)V"⟩
abbrev cX11_passes : ByteArray := prog_13_method_24_code
def yX11_passes : MethodName := ⟨RX11, "passes", "(C)Z"⟩
abbrev cX11_need : ByteArray := prog_13_method_25_code
def yX11_need : MethodName := ⟨RX11, "need", "(C)V"⟩
abbrev cX11_oneOf : ByteArray := prog_13_method_26_code
def yX11_oneOf : MethodName := ⟨RX11, "oneOf", "(CI)I"⟩
abbrev cX11_twoDigits : ByteArray := prog_13_method_27_code
def yX11_twoDigits : MethodName := ⟨RX11, "twoDigits", "()I"⟩
abbrev cX11_wasRight : ByteArray := prog_13_method_28_code
def yX11_wasRight : MethodName := ⟨RX11, "wasRight", "()Z"⟩
abbrev cX11_readOperand : ByteArray := prog_13_method_29_code
def yX11_readOperand : MethodName := ⟨RX11, "readOperand", "(I)I"⟩
abbrev cX11_readAct : ByteArray := prog_13_method_30_code
def yX11_readAct : MethodName := ⟨RX11, "readAct", "(I)V"⟩
abbrev cX11_loop : ByteArray := prog_13_method_31_code
def yX11_loop : MethodName := ⟨RX11, "loop", "()I"⟩
abbrev cX11_readNumber : ByteArray := prog_13_method_32_code
def yX11_readNumber : MethodName := ⟨RX11, "readNumber", "()I"⟩
abbrev cX11_isMemory : ByteArray := prog_13_method_33_code
def yX11_isMemory : MethodName := ⟨RX11, "isMemory", "(I)Z"⟩
abbrev cX11_memory : ByteArray := prog_13_method_34_code
def yX11_memory : MethodName := ⟨RX11, "memory", "(I)I"⟩
abbrev cX11_cell : ByteArray := prog_13_method_35_code
def yX11_cell : MethodName := ⟨RX11, "cell", "(II)I"⟩
abbrev cX11_act : ByteArray := prog_13_method_36_code
def yX11_act : MethodName := ⟨RX11, "act", "(II)I"⟩
abbrev cX11_sheet : ByteArray := prog_13_method_37_code
def yX11_sheet : MethodName := ⟨RX11, "sheet", "(IIII)I"⟩
abbrev cX11_change : ByteArray := prog_13_method_38_code
def yX11_change : MethodName := ⟨RX11, "change", "()V"⟩
abbrev cX11_note : ByteArray := prog_13_method_39_code
def yX11_note : MethodName := ⟨RX11, "note", "()V"⟩
abbrev cX11_refusesSet : ByteArray := prog_13_method_40_code
def yX11_refusesSet : MethodName := ⟨RX11, "refusesSet", "(II)I"⟩
abbrev cX11_sets : ByteArray := prog_13_method_41_code
def yX11_sets : MethodName := ⟨RX11, "sets", "(II)I"⟩
abbrev cX11_refusesWrite : ByteArray := prog_13_method_42_code
def yX11_refusesWrite : MethodName := ⟨RX11, "refusesWrite", "(III)I"⟩
abbrev cX11_writes : ByteArray := prog_13_method_43_code
def yX11_writes : MethodName := ⟨RX11, "writes", "(III)I"⟩
abbrev cX11_value : ByteArray := prog_13_method_44_code
def yX11_value : MethodName := ⟨RX11, "value", "(II)I"⟩
abbrev cX11_place : ByteArray := prog_13_method_45_code
def yX11_place : MethodName := ⟨RX11, "place", "(II)I"⟩
abbrev cX11_work : ByteArray := prog_13_method_46_code
def yX11_work : MethodName := ⟨RX11, "work", "(II)I"⟩
abbrev cX11_play : ByteArray := prog_13_method_47_code
def yX11_play : MethodName := ⟨RX11, "play", "(I)V"⟩
abbrev cX11_tellLast : ByteArray := prog_13_method_48_code
def yX11_tellLast : MethodName := ⟨RX11, "tellLast", "(I)V"⟩
abbrev cX11_runs : ByteArray := prog_13_method_49_code
def yX11_runs : MethodName := ⟨RX11, "runs", "(I)I"⟩
abbrev cX11_readChange : ByteArray := prog_13_method_50_code
def yX11_readChange : MethodName := ⟨RX11, "readChange", "(I)V"⟩
abbrev cX11_goes : ByteArray := prog_13_method_51_code
def yX11_goes : MethodName := ⟨RX11, "goes", "(I)Z"⟩
abbrev cX11_day : ByteArray := prog_13_method_52_code
def yX11_day : MethodName := ⟨RX11, "day", "()I"⟩
abbrev cX11_undo : ByteArray := prog_13_method_53_code
def yX11_undo : MethodName := ⟨RX11, "undo", "()I"⟩
abbrev cX11_lasts : ByteArray := prog_13_method_54_code
def yX11_lasts : MethodName := ⟨RX11, "lasts", "(I)I"⟩
abbrev cX11_later : ByteArray := prog_13_method_55_code
def yX11_later : MethodName := ⟨RX11, "later", "(II)I"⟩
abbrev cX11_sooner : ByteArray := prog_13_method_56_code
def yX11_sooner : MethodName := ⟨RX11, "sooner", "(II)I"⟩
abbrev cX11_behind : ByteArray := prog_13_method_57_code
def yX11_behind : MethodName := ⟨RX11, "behind", "(III)I"⟩
abbrev cX11_layEarly : ByteArray := prog_13_method_58_code
def yX11_layEarly : MethodName := ⟨RX11, "layEarly", "(I)Z"⟩
abbrev cX11_longBy : ByteArray := prog_13_method_59_code
def yX11_longBy : MethodName := ⟨RX11, "longBy", "([I)I"⟩
abbrev cX11_layLate : ByteArray := prog_13_method_60_code
def yX11_layLate : MethodName := ⟨RX11, "layLate", "(I)V"⟩
abbrev cX11_rings : ByteArray := prog_13_method_61_code
def yX11_rings : MethodName := ⟨RX11, "rings", "()I"⟩
abbrev cX11_manyOf : ByteArray := prog_13_method_62_code
def yX11_manyOf : MethodName := ⟨RX11, "manyOf", "(I)I"⟩
abbrev cX11_need_ : ByteArray := prog_13_method_63_code
def yX11_need_ : MethodName := ⟨RX11, "need", "(I)I"⟩
abbrev cX11_leastOf : ByteArray := prog_13_method_64_code
def yX11_leastOf : MethodName := ⟨RX11, "leastOf", "()I"⟩
abbrev cX11_least : ByteArray := prog_13_method_65_code
def yX11_least : MethodName := ⟨RX11, "least", "()I"⟩
abbrev cX11_earliest : ByteArray := prog_13_method_66_code
def yX11_earliest : MethodName := ⟨RX11, "earliest", "(I)I"⟩
abbrev cX11_latest : ByteArray := prog_13_method_67_code
def yX11_latest : MethodName := ⟨RX11, "latest", "(I)I"⟩
abbrev cX11_reached : ByteArray := prog_13_method_68_code
def yX11_reached : MethodName := ⟨RX11, "reached", "(I)I"⟩
abbrev cX11_knots : ByteArray := prog_13_method_69_code
def yX11_knots : MethodName := ⟨RX11, "knots", "()I"⟩
abbrev cX11_addressKind : ByteArray := prog_13_method_70_code
def yX11_addressKind : MethodName := ⟨RX11, "addressKind", "(I)I"⟩
abbrev cX11_addressIn : ByteArray := prog_13_method_71_code
def yX11_addressIn : MethodName := ⟨RX11, "addressIn", "(II)I"⟩
abbrev cX11_address : ByteArray := prog_13_method_72_code
def yX11_address : MethodName := ⟨RX11, "address", "(I)I"⟩
abbrev cX11_bankOf : ByteArray := prog_13_method_73_code
def yX11_bankOf : MethodName := ⟨RX11, "bankOf", "(II)I"⟩
abbrev cX11_arePeaceful : ByteArray := prog_13_method_74_code
def yX11_arePeaceful : MethodName := ⟨RX11, "arePeaceful", "(III)Z"⟩
abbrev cX11_isPut : ByteArray := prog_13_method_75_code
def yX11_isPut : MethodName := ⟨RX11, "isPut", "(I)Z"⟩
abbrev cX11_hasRoom : ByteArray := prog_13_method_76_code
def yX11_hasRoom : MethodName := ⟨RX11, "hasRoom", "(III)Z"⟩
abbrev cX11_putOne : ByteArray := prog_13_method_77_code
def yX11_putOne : MethodName := ⟨RX11, "putOne", "(II)Z"⟩
abbrev cX11_planOf : ByteArray := prog_13_method_78_code
def yX11_planOf : MethodName := ⟨RX11, "planOf", "(I)Z"⟩
abbrev cX11_isPlan : ByteArray := prog_13_method_79_code
def yX11_isPlan : MethodName := ⟨RX11, "isPlan", "(I)Z"⟩
abbrev cX11_gapOf : ByteArray := prog_13_method_80_code
def yX11_gapOf : MethodName := ⟨RX11, "gapOf", "()I"⟩
abbrev cX11_tellTicks : ByteArray := prog_13_method_81_code
def yX11_tellTicks : MethodName := ⟨RX11, "tellTicks", "()V"⟩
abbrev cX11_gap : ByteArray := prog_13_method_82_code
def yX11_gap : MethodName := ⟨RX11, "gap", "()I"⟩
abbrev cX11_begins : ByteArray := prog_13_method_83_code
def yX11_begins : MethodName := ⟨RX11, "begins", "(I)I"⟩
abbrev cX11_why : ByteArray := prog_13_method_84_code
def yX11_why : MethodName := ⟨RX11, "why", "()I"⟩
abbrev cX11_plan : ByteArray := prog_13_method_85_code
def yX11_plan : MethodName := ⟨RX11, "plan", "(I)I"⟩
abbrev cX11_length : ByteArray := prog_13_method_86_code
def yX11_length : MethodName := ⟨RX11, "length", "()I"⟩
abbrev cX11_state : ByteArray := prog_13_method_87_code
def yX11_state : MethodName := ⟨RX11, "state", "(I)I"⟩
abbrev cX11_roundAt : ByteArray := prog_13_method_88_code
def yX11_roundAt : MethodName := ⟨RX11, "roundAt", "(IIII)I"⟩
abbrev cX11_tick : ByteArray := prog_13_method_89_code
def yX11_tick : MethodName := ⟨RX11, "tick", "(II)I"⟩
abbrev cX11_lastUse : ByteArray := prog_13_method_90_code
def yX11_lastUse : MethodName := ⟨RX11, "lastUse", "(II)I"⟩
abbrev cX11_registers : ByteArray := prog_13_method_91_code
def yX11_registers : MethodName := ⟨RX11, "registers", "()I"⟩
abbrev cX11_newAt : ByteArray := prog_13_method_92_code
def yX11_newAt : MethodName := ⟨RX11, "newAt", "(II)I"⟩
abbrev cX11_isFree : ByteArray := prog_13_method_93_code
def yX11_isFree : MethodName := ⟨RX11, "isFree", "(II)Z"⟩
abbrev cX11_bind : ByteArray := prog_13_method_94_code
def yX11_bind : MethodName := ⟨RX11, "bind", "(IIII)V"⟩
abbrev cX11_binds : ByteArray := prog_13_method_95_code
def yX11_binds : MethodName := ⟨RX11, "binds", "(I)I"⟩
abbrev cX11_shares : ByteArray := prog_13_method_96_code
def yX11_shares : MethodName := ⟨RX11, "shares", "(I)I"⟩
abbrev cX11_sumOfCells : ByteArray := prog_13_method_97_code
def yX11_sumOfCells : MethodName := ⟨RX11, "sumOfCells", "()I"⟩
abbrev cX11_keepNow : ByteArray := prog_13_method_98_code
def yX11_keepNow : MethodName := ⟨RX11, "keepNow", "()V"⟩
abbrev cX11_backNow : ByteArray := prog_13_method_99_code
def yX11_backNow : MethodName := ⟨RX11, "backNow", "()V"⟩
abbrev cX11_plays : ByteArray := prog_13_method_100_code
def yX11_plays : MethodName := ⟨RX11, "plays", "(I)I"⟩
abbrev cX11_goTick : ByteArray := prog_13_method_101_code
def yX11_goTick : MethodName := ⟨RX11, "goTick", "(III)V"⟩
abbrev cX11_ticksOf : ByteArray := prog_13_method_102_code
def yX11_ticksOf : MethodName := ⟨RX11, "ticksOf", "(II)I"⟩
abbrev cX11_machine : ByteArray := prog_13_method_103_code
def yX11_machine : MethodName := ⟨RX11, "machine", "(I)I"⟩
abbrev cX11_saves : ByteArray := prog_13_method_104_code
def yX11_saves : MethodName := ⟨RX11, "saves", "(I)I"⟩
abbrev cX11_isWithin : ByteArray := prog_13_method_105_code
def yX11_isWithin : MethodName := ⟨RX11, "isWithin", "(I)Z"⟩
abbrev cX11_costOf : ByteArray := prog_13_method_106_code
def yX11_costOf : MethodName := ⟨RX11, "costOf", "()I"⟩
abbrev cX11_cheapest : ByteArray := prog_13_method_107_code
def yX11_cheapest : MethodName := ⟨RX11, "cheapest", "(I)I"⟩
abbrev cX11_would : ByteArray := prog_13_method_108_code
def yX11_would : MethodName := ⟨RX11, "would", "(II)I"⟩
abbrev cX11_draw : ByteArray := prog_13_method_109_code
def yX11_draw : MethodName := ⟨RX11, "draw", "(I)I"⟩
abbrev cX11_goDrawn : ByteArray := prog_13_method_110_code
def yX11_goDrawn : MethodName := ⟨RX11, "goDrawn", "()V"⟩
abbrev cX11_years : ByteArray := prog_13_method_111_code
def yX11_years : MethodName := ⟨RX11, "years", "(II)I"⟩
abbrev cX11_keep : ByteArray := prog_13_method_112_code
def yX11_keep : MethodName := ⟨RX11, "keep", "(I)Z"⟩
abbrev cX11_again : ByteArray := prog_13_method_113_code
def yX11_again : MethodName := ⟨RX11, "again", "(I)Z"⟩
abbrev cX11_sortMany : ByteArray := prog_13_method_114_code
def yX11_sortMany : MethodName := ⟨RX11, "sortMany", "(I)I"⟩
abbrev cX11_count : ByteArray := prog_13_method_115_code
def yX11_count : MethodName := ⟨RX11, "count", "(I)I"⟩
abbrev cX11_row : ByteArray := prog_13_method_116_code
def yX11_row : MethodName := ⟨RX11, "row", "(I)J"⟩
def RJx145de : String := "java/io/Serializable"
def TJx145de : u_T := fun k => match k with
  | _ => ("", "", "", false)
def tyJx145de : Nat → FieldType := fun k => match k with
  | _ => .int
abbrev wsJx145de0 : List Cond := u_ws RJx145de TJx145de 0
theorem nmJx145de : ∀ a, a < 0 → ∀ b, b < 0 → a ≠ b → (TJx145de a).2.1 ≠ (TJx145de b).2.1 := by decide +kernel
theorem tyJx145de_ok : ∀ k, k < 0 → parseFieldDescriptor (TJx145de k).2.2.1 = some (tyJx145de k) := by decide +kernel
def RJ6 : String := "java/lang/Integer"
def TJ6 : u_T := fun k => match k with
  | _ => ("", "", "", false)
def tyJ6 : Nat → FieldType := fun k => match k with
  | _ => .int
abbrev wsJ60 : List Cond := u_ws RJ6 TJ6 0
theorem nmJ6 : ∀ a, a < 0 → ∀ b, b < 0 → a ≠ b → (TJ6 a).2.1 ≠ (TJ6 b).2.1 := by decide +kernel
theorem tyJ6_ok : ∀ k, k < 0 → parseFieldDescriptor (TJ6 k).2.2.1 = some (tyJ6 k) := by decide +kernel
abbrev cJ6_bitCount_0f7a4 : ByteArray := prog_16_method_49_code
def yJ6_bitCount_0f7a4 : MethodName := ⟨RJ6, "bitCount", "(I)I"⟩
def RJ9 : String := "java/lang/Math"
def TJ9 : u_T := fun k => match k with
  | _ => ("", "", "", false)
def tyJ9 : Nat → FieldType := fun k => match k with
  | _ => .int
abbrev wsJ90 : List Cond := u_ws RJ9 TJ9 0
theorem nmJ9 : ∀ a, a < 0 → ∀ b, b < 0 → a ≠ b → (TJ9 a).2.1 ≠ (TJ9 b).2.1 := by decide +kernel
theorem tyJ9_ok : ∀ k, k < 0 → parseFieldDescriptor (TJ9 k).2.2.1 = some (tyJ9 k) := by decide +kernel
abbrev cJ9_floorDiv_7cf53 : ByteArray := prog_17_method_47_code
def yJ9_floorDiv_7cf53 : MethodName := ⟨RJ9, "floorDiv", "(II)I"⟩
abbrev cJ9_floorMod_7cf53 : ByteArray := prog_17_method_50_code
def yJ9_floorMod_7cf53 : MethodName := ⟨RJ9, "floorMod", "(II)I"⟩
abbrev cJ9_max_7cf53 : ByteArray := prog_17_method_65_code
def yJ9_max_7cf53 : MethodName := ⟨RJ9, "max", "(II)I"⟩
abbrev cJ9_min_7cf53 : ByteArray := prog_17_method_69_code
def yJ9_min_7cf53 : MethodName := ⟨RJ9, "min", "(II)I"⟩
def RJ0 : String := "java/lang/String"
def TJ0 : u_T := fun k => match k with
  | _ => ("", "", "", false)
def tyJ0 : Nat → FieldType := fun k => match k with
  | _ => .int
abbrev wsJ00 : List Cond := u_ws RJ0 TJ0 0
theorem nmJ0 : ∀ a, a < 0 → ∀ b, b < 0 → a ≠ b → (TJ0 a).2.1 ≠ (TJ0 b).2.1 := by decide +kernel
theorem tyJ0_ok : ∀ k, k < 0 → parseFieldDescriptor (TJ0 k).2.2.1 = some (tyJ0 k) := by decide +kernel
def RJ10 : String := "java/lang/System"
def TJ10 : u_T := fun k => match k with
  | _ => ("", "", "", false)
def tyJ10 : Nat → FieldType := fun k => match k with
  | _ => .int
abbrev wsJ100 : List Cond := u_ws RJ10 TJ10 0
theorem nmJ10 : ∀ a, a < 0 → ∀ b, b < 0 → a ≠ b → (TJ10 a).2.1 ≠ (TJ10 b).2.1 := by decide +kernel
theorem tyJ10_ok : ∀ k, k < 0 → parseFieldDescriptor (TJ10 k).2.2.1 = some (tyJ10 k) := by decide +kernel
def RJ7 : String := "java/util/Arrays"
def TJ7 : u_T := fun k => match k with
  | _ => ("", "", "", false)
def tyJ7 : Nat → FieldType := fun k => match k with
  | _ => .int
abbrev wsJ70 : List Cond := u_ws RJ7 TJ7 0
theorem nmJ7 : ∀ a, a < 0 → ∀ b, b < 0 → a ≠ b → (TJ7 a).2.1 ≠ (TJ7 b).2.1 := by decide +kernel
theorem tyJ7_ok : ∀ k, k < 0 → parseFieldDescriptor (TJ7 k).2.2.1 = some (tyJ7 k) := by decide +kernel
abbrev cJ7_fill_d0a16 : ByteArray := prog_22_method_101_code
def yJ7_fill_d0a16 : MethodName := ⟨RJ7, "fill", "([JJ)V"⟩
abbrev cJ7_fill_53178 : ByteArray := prog_22_method_103_code
def yJ7_fill_53178 : MethodName := ⟨RJ7, "fill", "([II)V"⟩
def RL : String := "LoopsToUnitsLaw"
abbrev cL_cell : ByteArray := method_3_code
def yL_cell : MethodName := ⟨RL, "cell", "(LLoopsToUnits;II[J)I"⟩
abbrev cL_act : ByteArray := method_4_code
def yL_act : MethodName := ⟨RL, "act", "(LLoopsToUnits;II[J)I"⟩
abbrev cL_begins : ByteArray := method_5_code
def yL_begins : MethodName := ⟨RL, "begins", "(LLoopsToUnits;I[J)I"⟩
abbrev cL_row : ByteArray := method_6_code
def yL_row : MethodName := ⟨RL, "row", "(LLoopsToUnits;I[J)I"⟩
abbrev cL_law : ByteArray := code
def yL_law : MethodName := ⟨RL, "law", "([I)Z"⟩
abbrev vwCl : List vw_C := [(RX0, TX0, 13), (RX1, TX1, 18), (RX2, TX2, 1), (RX3, TX3, 7), (RX4, TX4, 6), (RX5, TX5, 6), (RX6, TX6, 7), (RX7, TX7, 3), (RX8, TX8, 2), (RX9, TX9, 3), (RX10, TX10, 9), (RX11, TX11, 32)]
end
section
/-! M: a small machine of my own. Instructions are resolved (fields, methods, targets by number); the heap is a list of cells; a reference r is the script (0), a static array (1, 2, 3), or the cell number r - 4. -/
/-- an instruction: op, a, b, c, targets -/
abbrev mzI : Type := Nat × Nat × Nat × Int × List (Int × Nat)
/-- a cell: 2 * class (an object, its fields), 2 * kind + 1 (an array; kinds: 0 int, 1 long, 2 byte, 3 boolean, 4 of LoopsToUnits$Held) -/
abbrev mzC : Type := Nat × List Value
/-- heap, cells made, slots made -/
abbrev mzS : Type := List mzC × Nat × Nat
abbrev mzL : Type := List (Nat × Value)
def mz_bin (a : Nat) (x y : Int32) : Option Int32 := match a with
  | 0 => some (x + y)
  | 1 => some (x - y)
  | 2 => some (x * y)
  | 3 => some (x &&& y)
  | 4 => some (x ||| y)
  | 5 => some (x ^^^ y)
  | 6 => some (x <<< (y &&& 31))
  | 7 => some (x >>> (y &&& 31))
  | 8 => some ((x.toUInt32 >>> (y.toUInt32 &&& Int32.toUInt32 31)).toInt32)
  | 9 => if y = 0 then none else some (x / y)
  | 10 => if y = 0 then none else some (x - x / y * y)
  | _ => none
def mz_un (a : Nat) (x : Int32) : Option Int32 := match a with
  | 0 => some (-x)
  | 1 => some (x.toInt8.toInt32)
  | 2 => some (x.toInt16.toInt32)
  | _ => none
def mz_cond (a : Nat) (x y : Int32) : Option Bool := match a with
  | 0 => some (decide (x = y))
  | 1 => some (decide (¬ x = y))
  | 2 => some (decide (x < y))
  | 3 => some (decide (y ≤ x))
  | 4 => some (decide (y < x))
  | 5 => some (decide (x ≤ y))
  | _ => none
def mz_tab (sw : List (Int × Nat)) (d : Nat) (k : Int) : Option Nat := if k < 0 ∨ (sw.length : Int) ≤ k then some d else (sw[k.toNat]?).map (fun q => q.2)
def mz_look : List (Int × Nat) → Nat → Int → Nat
  | [], d, _ => d
  | (a, t) :: r, d, x => if x = a then t else mz_look r d x
def mz_st1 (lo : mzL) (i : Nat) (v : Value) : mzL := (i, v) :: lo.filter (fun q => !(q.1 == i) && !(q.1 + 1 == i && q.2.category == 2))
def mz_st2 (lo : mzL) (i : Nat) (v : Value) : mzL := (i, v) :: lo.filter (fun q => !(q.1 == i) && (!(q.1 == i + 1) && !(q.1 + 1 == i && q.2.category == 2)))
def mz_up (lo : mzL) (i : Nat) (v : Value) : mzL := lo.map (fun q => if q.1 = i then (q.1, v) else q)
def mz_ld : mzL → Nat → Option Value
  | [], _ => none
  | (k, v) :: r, i => if k = i then some v else mz_ld r i
/-- a value's type: 0 int, 1 a reference, 2 long -/
def mz_ty : Value → Nat
  | .int _ => 0
  | .ref _ => 1
  | .long _ => 2
  | .retAddr _ => 3
  | _ => 4
abbrev mzR : Type := Option (Nat × mzL × List Value)
/-- instructions that touch locals and stack alone: where it goes on, locals, stack -/
def mz_o2 (a b i : Nat) (lo : mzL) (st : List Value) : mzR := match mz_ld lo a with
  | some v => if mz_ty v = b ∧ b < 3 then some (i + 1, lo, v :: st) else none
  | none => none
def mz_o3 (a b i nL : Nat) (lo : mzL) (st : List Value) : mzR := match st with
  | v :: rest => if (mz_ty v = b ∨ (mz_ty v = 3 ∧ b = 1)) ∧ b < 2 ∧ a < nL then some (i + 1, mz_st1 lo a v, rest) else none
  | _ => none
def mz_o4 (a i nL : Nat) (lo : mzL) (st : List Value) : mzR := match st with
  | .long x :: rest => if a + 1 < nL then some (i + 1, mz_st2 lo a (.long x), rest) else none
  | _ => none
def mz_o5 (a i nL : Nat) (c : Int) (lo : mzL) (st : List Value) : mzR := match mz_ld lo a with
  | some (.int x) => if a < nL then some (i + 1, mz_up lo a (.int (x + Int32.ofInt c)), st) else none
  | _ => none
def mz_o6 (a i : Nat) (lo : mzL) (st : List Value) : mzR := match st with
  | .int y :: .int x :: rest => match mz_bin a x y with
    | some z => some (i + 1, lo, .int z :: rest)
    | none => none
  | _ => none
def mz_o7 (a i : Nat) (lo : mzL) (st : List Value) : mzR := match st with
  | .int x :: rest => match mz_un a x with
    | some z => some (i + 1, lo, .int z :: rest)
    | none => none
  | _ => none
def mz_o8 (i : Nat) (lo : mzL) (st : List Value) : mzR := match st with
  | .int x :: rest => some (i + 1, lo, .long x.toInt64 :: rest)
  | _ => none
def mz_o9 (a i : Nat) (lo : mzL) (st : List Value) : mzR := match st with
  | .long y :: .long x :: rest => if a = 0 then some (i + 1, lo, .long (x &&& y) :: rest) else some (i + 1, lo, .long (x ||| y) :: rest)
  | _ => none
def mz_o10 (i : Nat) (lo : mzL) (st : List Value) : mzR := match st with
  | .int y :: .long x :: rest => some (i + 1, lo, .long (x <<< (y.toInt64 &&& 63)) :: rest)
  | _ => none
def mz_o11 (i : Nat) (lo : mzL) (st : List Value) : mzR := match st with
  | .long y :: .long x :: rest => some (i + 1, lo, .int (lg_cmp x y) :: rest)
  | _ => none
def mz_o12 (i : Nat) (lo : mzL) (st : List Value) : mzR := match st with
  | v :: rest => if mz_ty v < 2 then some (i + 1, lo, v :: v :: rest) else none
  | _ => none
def mz_o13 (i : Nat) (lo : mzL) (st : List Value) : mzR := match st with
  | v :: w :: rest => if mz_ty v < 2 ∧ mz_ty w < 2 then some (i + 1, lo, v :: w :: v :: w :: rest) else none
  | _ => none
def mz_o14 (i : Nat) (lo : mzL) (st : List Value) : mzR := match st with
  | v :: rest => if mz_ty v < 2 then some (i + 1, lo, rest) else none
  | _ => none
def mz_o15 (i : Nat) (lo : mzL) (st : List Value) : mzR := match st with
  | v :: w :: rest => if mz_ty v < 2 ∧ mz_ty w < 2 then some (i + 1, lo, v :: w :: v :: rest) else none
  | _ => none
def mz_o16 (a b i : Nat) (lo : mzL) (st : List Value) : mzR := match st with
  | .int x :: rest => match mz_cond a x 0 with
    | some true => some (b, lo, rest)
    | some false => some (i + 1, lo, rest)
    | none => none
  | _ => none
def mz_o17 (a b i : Nat) (lo : mzL) (st : List Value) : mzR := match st with
  | .int y :: .int x :: rest => match mz_cond a x y with
    | some true => some (b, lo, rest)
    | some false => some (i + 1, lo, rest)
    | none => none
  | _ => none
def mz_o19 (b : Nat) (c : Int) (sw : List (Int × Nat)) (lo : mzL) (st : List Value) : mzR := match st with
  | .int x :: rest => match mz_tab sw b (x.toInt - c) with
    | some t => some (t, lo, rest)
    | none => none
  | _ => none
def mz_o39 (b : Nat) (sw : List (Int × Nat)) (lo : mzL) (st : List Value) : mzR := match st with
  | .int x :: rest => some (mz_look sw b x.toInt, lo, rest)
  | _ => none
def mz_one (ri : mzI) (i nL : Nat) (lo : mzL) (st : List Value) : mzR := match ri.1 with
  | 0 => some (i + 1, lo, .int (Int32.ofInt ri.2.2.2.1) :: st)
  | 1 => some (i + 1, lo, .long (Int64.ofInt ri.2.2.2.1) :: st)
  | 2 => mz_o2 ri.2.1 ri.2.2.1 i lo st
  | 3 => mz_o3 ri.2.1 ri.2.2.1 i nL lo st
  | 4 => mz_o4 ri.2.1 i nL lo st
  | 5 => mz_o5 ri.2.1 i nL ri.2.2.2.1 lo st
  | 6 => mz_o6 ri.2.1 i lo st
  | 7 => mz_o7 ri.2.1 i lo st
  | 8 => mz_o8 i lo st
  | 9 => mz_o9 ri.2.1 i lo st
  | 10 => mz_o10 i lo st
  | 11 => mz_o11 i lo st
  | 12 => mz_o12 i lo st
  | 13 => mz_o13 i lo st
  | 14 => mz_o14 i lo st
  | 15 => mz_o15 i lo st
  | 16 => mz_o16 ri.2.1 ri.2.2.1 i lo st
  | 17 => mz_o17 ri.2.1 ri.2.2.1 i lo st
  | 18 => some (ri.2.2.1, lo, st)
  | 19 => mz_o19 ri.2.2.1 ri.2.2.2.1 ri.2.2.2.2 lo st
  | 39 => mz_o39 ri.2.2.1 ri.2.2.2.2 lo st
  | _ => none
def mz_get (s : mzS) (r : Nat) : Option mzC := if r < 4 then none else s.1[r - 4]?
def mz_set (s : mzS) (r : Nat) (c : mzC) : mzS := (s.1.set (r - 4) c, s.2)
/-- which values a field of kind k takes: 0 int, 1 boolean, 2 a reference -/
def mz_fit (k : Int) (v : Value) : Bool := match v with
  | .int x => k == 0 || (k == 1 && (x == 0 || x == 1))
  | .ref _ => k == 2
  | _ => false
def mz_in (i : Int32) (fs : List Value) : Option Value := if i < 0 then none else fs[i.toNatClampNeg]?
/-- what an array of tag t keeps of a value -/
def mz_nar (s : mzS) (t : Nat) (v : Value) : Option Value := match v with
  | .int x => if t = 1 then some (.int x) else if t = 5 then some (.int (x.toInt8.toInt32)) else if t = 7 then some (.int (x &&& 1)) else none
  | .long x => if t = 3 then some (.long x) else none
  | .ref r => if t = 9 then match mz_get s r with
    | some c => if c.1 = 6 then some (.ref r) else none
    | none => none else none
  | _ => none
def mz_cpy (f g : List Value) (sp dp n : Nat) : List Value := (List.range g.length).map (fun k => if dp ≤ k ∧ k < dp + n then f.getD (sp + (k - dp)) .null else g.getD k .null)
/-- fields of a new object -/
def mz_def : Nat → List Value
  | 0 => [.null, .null, .int 0, .null, .int 0, .int 0, .null, .null, .null, .null, .null, .null, .null]
  | 1 => [.null, .int 0, .int 0, .null, .null, .null, .null, .null, .int 0, .null, .null, .null, .null, .null, .null, .null, .null, .null]
  | 2 => [.int 0]
  | 3 => [.int 0, .null, .null, .null, .null, .null, .null]
  | 4 => [.null, .null, .int 0, .int 0, .null, .null]
  | 5 => [.null, .null, .int 0, .int 0, .null, .null]
  | 6 => [.null, .null, .null, .null, .null, .null, .null]
  | 7 => [.null, .null, .int 0]
  | 8 => [.null, .int 0]
  | 9 => [.null, .int 0, .int 0]
  | 10 => [.null, .null, .null, .null, .null, .null, .null, .null, .null]
  | 11 => [.null, .null, .int 0, .null, .int 0, .int 0, .int 0, .int 0, .int 0, .null, .int 0, .null, .null, .int 0, .null, .null, .null, .null, .null, .null, .int 0, .null, .null, .null, .int 0, .int 0, .null, .null, .null, .int 0, .null, .null]
  | _ => []
/-- whether an instruction of kind a is one for arrays of tag t -/
def mz_akind (a t : Nat) : Bool := (a == 0 && t == 1) || (a == 1 && t == 3) || (a == 2 && (t == 5 || t == 7)) || (a == 3 && t == 9)
abbrev mzH : Type := Option (List Value × mzS)
def mz_h20 (a b : Nat) (st : List Value) (s : mzS) : mzH := match st with
  | .ref r :: rest => match mz_get s r with
    | some c => if c.1 = 2 * b then match c.2[a]? with
      | some v => some (v :: rest, s)
      | none => none else none
    | none => none
  | _ => none
def mz_h21 (a b : Nat) (k : Int) (st : List Value) (s : mzS) : mzH := match st with
  | v :: .ref r :: rest => match mz_get s r with
    | some c => if c.1 = 2 * b ∧ a < c.2.length ∧ mz_fit k v = true then some (rest, mz_set s r (c.1, c.2.set a v)) else none
    | none => none
  | _ => none
def mz_h22 (X : List (List Value)) (a : Nat) (st : List Value) (s : mzS) : mzH := match st with
  | .int i :: .ref r :: rest => if r < 4 then match X[r]? with
      | some fs => if a = 0 then match mz_in i fs with
        | some v => some (v :: rest, s)
        | none => none else none
      | none => none
    else match mz_get s r with
    | some c => if mz_akind a c.1 = true then match mz_in i c.2 with
      | some v => some (v :: rest, s)
      | none => none else none
    | none => none
  | _ => none
def mz_h23 (a : Nat) (st : List Value) (s : mzS) : mzH := match st with
  | v :: .int i :: .ref r :: rest => match mz_get s r with
    | some c => if mz_akind a c.1 = true then match mz_in i c.2, mz_nar s c.1 v with
      | some _, some w => some (rest, mz_set s r (c.1, c.2.set i.toNatClampNeg w))
      | _, _ => none else none
    | none => none
  | _ => none
def mz_h24 (X : List (List Value)) (st : List Value) (s : mzS) : mzH := match st with
  | .ref r :: rest => if r < 4 then match X[r]? with
      | some fs => some (.int (Int32.ofNat fs.length) :: rest, s)
      | none => none
    else match mz_get s r with
    | some c => if c.1 % 2 = 1 ∧ c.1 < 10 then some (.int (Int32.ofNat c.2.length) :: rest, s) else none
    | none => none
  | _ => none
def mz_h25 (a b : Nat) (st : List Value) (s : mzS) : mzH := if a < 12 then some (.ref (4 + s.1.length) :: st, (s.1 ++ [(2 * a, mz_def a)], s.2.1 + 1, s.2.2 + b)) else none
def mz_zero (a : Nat) : Value := if a = 1 then .long 0 else .int 0
def mz_h26 (a : Nat) (st : List Value) (s : mzS) : mzH := match st with
  | .int n :: rest => if n < 0 ∨ 60000 < n.toNatClampNeg ∨ 3 < a then none else some (.ref (4 + s.1.length) :: rest, (s.1 ++ [(2 * a + 1, List.replicate n.toNatClampNeg (mz_zero a))], s.2.1 + 1, s.2.2 + n.toNatClampNeg))
  | _ => none
def mz_h27 (st : List Value) (s : mzS) : mzH := match st with
  | .int n :: rest => if n < 0 ∨ 60000 < n.toNatClampNeg then none else some (.ref (4 + s.1.length) :: rest, (s.1 ++ [(9, List.replicate n.toNatClampNeg .null)], s.2.1 + 1, s.2.2 + n.toNatClampNeg))
  | _ => none
def mz_h29 (st : List Value) (s : mzS) : mzH := match st with
  | .ref _ :: rest => if (rest.map fun v => v.category).sum ≤ 8 then some (rest, s) else none
  | _ => none
def mz_h30 (st : List Value) (s : mzS) : mzH := match st with
  | .int n :: .int dp :: .ref rd :: .int sp :: .ref rs :: rest => match mz_get s rs, mz_get s rd with
    | some f, some g => if f.1 = 1 ∧ g.1 = 1 ∧ ¬ n < 0 ∧ ¬ dp < 0 ∧ ¬ sp < 0 ∧ sp.toNatClampNeg + n.toNatClampNeg ≤ f.2.length ∧ dp.toNatClampNeg + n.toNatClampNeg ≤ g.2.length ∧ (rest.map fun v => v.category).sum ≤ 8 then some (rest, mz_set s rd (1, mz_cpy f.2 g.2 sp.toNatClampNeg dp.toNatClampNeg n.toNatClampNeg)) else none
    | _, _ => none
  | _ => none
/-- instructions on the heap; X: the script and the static arrays -/
def mz_heap (X : List (List Value)) (ri : mzI) (st : List Value) (s : mzS) : mzH := match ri.1 with
  | 20 => mz_h20 ri.2.1 ri.2.2.1 st s
  | 21 => mz_h21 ri.2.1 ri.2.2.1 ri.2.2.2.1 st s
  | 22 => mz_h22 X ri.2.1 st s
  | 23 => mz_h23 ri.2.1 st s
  | 24 => mz_h24 X st s
  | 25 => mz_h25 ri.2.1 ri.2.2.1 st s
  | 26 => mz_h26 ri.2.1 st s
  | 27 => mz_h27 st s
  | 28 => if 1 ≤ ri.2.1 ∧ ri.2.1 < 4 then some (.ref ri.2.1 :: st, s) else none
  | 29 => mz_h29 st s
  | 30 => mz_h30 st s
  | _ => none
/-- a method: locals, receiver (0: none; k + 1: an object of class k), handler (from, to, where; by instructions), code -/
abbrev mzM : Type := Nat × Nat × (Nat × Nat × Nat) × List mzI
def mz_take (n : Nat) (st : List Value) : Option (List Value × List Value) := if n ≤ st.length then some ((st.take n).reverse, st.drop n) else none
def mz_recv (k : Nat) (as : List Value) (s : mzS) : Bool := match k with
  | 0 => true
  | c + 1 => match as with
    | .ref r :: _ => match mz_get s r with
      | some t => t.1 == 2 * c
      | none => false
    | _ => false
def mz_sum (st : List Value) : Nat := (st.map fun v => v.category).sum
/-- the machine: a frame (method j, instruction i, locals, stack) run to its end: none of the outcome: it threw -/
def mz_run (P : List mzM) (X : List (List Value)) : Nat → Nat → Nat → Nat → mzL → List Value → mzS → Option (Option (Option Value) × mzS)
  | 0, _, _, _, _, _, _ => none
  | n + 1, d, j, i, lo, st, s => match P[j]? with
    | none => none
    | some M => match M.2.2.2[i]? with
      | none => none
      | some ri =>
        if ri.1 = 40 then match d, mz_take ri.2.2.1 st, P[ri.2.1]? with
          | d' + 1, some (as, rest), some M' =>
            if mz_sum rest ≤ 8 ∧ mz_sum as ≤ M'.1 ∧ mz_recv M'.2.1 as s = true then
              match mz_run P X n d' ri.2.1 0 (lv_args 0 as) [] s with
              | none => none
              | some (some none, s') => mz_run P X n d j (i + 1) lo rest s'
              | some (some (some v), s') => mz_run P X n d j (i + 1) lo (v :: rest) s'
              | some (none, s') => if M.2.2.1.1 ≤ i ∧ i < M.2.2.1.2.1 then mz_run P X n d j M.2.2.1.2.2 lo [.retAddr 0] s' else none
            else none
          | _, _, _ => none
        else if ri.1 = 41 then (if st = [] then some (some none, s) else none)
        else if ri.1 = 42 then match st with
          | [v] => if mz_ty v = ri.2.1 ∧ ri.2.1 < 3 ∧ (ri.2.2.1 = 0 ∨ v = .int 0 ∨ v = .int 1) then some (some (some v), s) else none
          | _ => none
        else if ri.1 = 43 then (if mz_sum st ≤ 8 then some (none, (s.1, s.2.1 + 1, s.2.2 + 6)) else none)
        else if ri.1 < 20 ∨ ri.1 = 39 then match mz_one ri i M.1 lo st with
          | some r => mz_run P X n d j r.1 r.2.1 r.2.2 s
          | none => none
        else match mz_heap X ri st s with
          | some r => mz_run P X n d j (i + 1) lo r.1 r.2
          | none => none
end
section
/-! the program, resolved: written by program (wip/p1/gen04.py) out of javap's listing -/
def mzc_0 : List mzI := [(25, 10, 9, 0, []), (12, 0, 0, 0, []), (40, 5, 1, 0, []), (3, 1, 1, 0, []), (25, 11, 32, 0, []), (12, 0, 0, 0, []), (40, 67, 1, 0, []), (3, 2, 1, 0, []), (0, 0, 0, 1, []), (26, 1, 0, 0, []), (3, 3, 1, 0, []), (0, 0, 0, 0, []), (3, 4, 0, 0, []), (2, 4, 0, 0, []), (2, 0, 1, 0, []), (24, 0, 0, 0, []), (0, 0, 0, 5, []), (6, 1, 0, 0, []), (17, 4, 680, 0, []), (2, 0, 1, 0, []), (2, 4, 0, 0, []), (22, 0, 0, 0, []), (0, 0, 0, 63, []), (6, 3, 0, 0, []), (19, 0, 678, 0, [(0, 25), (1, 42), (2, 59), (3, 66), (4, 83), (5, 111), (6, 139), (7, 186), (8, 213), (9, 250), (10, 267), (11, 274), (12, 281), (13, 288), (14, 305), (15, 322), (16, 329), (17, 346), (18, 353), (19, 371), (20, 378), (21, 395), (22, 402), (23, 419), (24, 446), (25, 453), (26, 470), (27, 487), (28, 504), (29, 521), (30, 538), (31, 555), (32, 582), (33, 609), (34, 626), (35, 643), (36, 660)]), (2, 1, 1, 0, []), (2, 0, 1, 0, []), (2, 4, 0, 0, []), (0, 0, 0, 1, []), (6, 0, 0, 0, []), (22, 0, 0, 0, []), (40, 6, 2, 0, []), (14, 0, 0, 0, []), (2, 2, 1, 0, []), (2, 0, 1, 0, []), (2, 4, 0, 0, []), (0, 0, 0, 1, []), (6, 0, 0, 0, []), (22, 0, 0, 0, []), (40, 83, 2, 0, []), (14, 0, 0, 0, []), (18, 0, 678, 0, []), (2, 1, 1, 0, []), (2, 0, 1, 0, []), (2, 4, 0, 0, []), (0, 0, 0, 1, []), (6, 0, 0, 0, []), (22, 0, 0, 0, []), (40, 7, 2, 0, []), (14, 0, 0, 0, []), (2, 2, 1, 0, []), (2, 0, 1, 0, []), (2, 4, 0, 0, []), (0, 0, 0, 1, []), (6, 0, 0, 0, []), (22, 0, 0, 0, []), (40, 84, 2, 0, []), (14, 0, 0, 0, []), (18, 0, 678, 0, []), (2, 1, 1, 0, []), (40, 8, 1, 0, []), (14, 0, 0, 0, []), (2, 2, 1, 0, []), (40, 96, 1, 0, []), (14, 0, 0, 0, []), (18, 0, 678, 0, []), (2, 1, 1, 0, []), (2, 0, 1, 0, []), (2, 4, 0, 0, []), (0, 0, 0, 1, []), (6, 0, 0, 0, []), (22, 0, 0, 0, []), (40, 9, 2, 0, []), (14, 0, 0, 0, []), (2, 2, 1, 0, []), (2, 0, 1, 0, []), (2, 4, 0, 0, []), (0, 0, 0, 1, []), (6, 0, 0, 0, []), (22, 0, 0, 0, []), (40, 99, 2, 0, []), (14, 0, 0, 0, []), (18, 0, 678, 0, []), (2, 1, 1, 0, []), (2, 0, 1, 0, []), (2, 4, 0, 0, []), (0, 0, 0, 1, []), (6, 0, 0, 0, []), (22, 0, 0, 0, []), (2, 0, 1, 0, []), (2, 4, 0, 0, []), (0, 0, 0, 2, []), (6, 0, 0, 0, []), (22, 0, 0, 0, []), (2, 3, 1, 0, []), (40, 1, 4, 0, []), (3, 5, 0, 0, []), (2, 2, 1, 0, []), (2, 0, 1, 0, []), (2, 4, 0, 0, []), (0, 0, 0, 1, []), (6, 0, 0, 0, []), (22, 0, 0, 0, []), (2, 0, 1, 0, []), (2, 4, 0, 0, []), (0, 0, 0, 2, []), (6, 0, 0, 0, []), (22, 0, 0, 0, []), (40, 100, 3, 0, []), (3, 6, 0, 0, []), (18, 0, 678, 0, []), (2, 1, 1, 0, []), (2, 0, 1, 0, []), (2, 4, 0, 0, []), (0, 0, 0, 1, []), (6, 0, 0, 0, []), (22, 0, 0, 0, []), (2, 0, 1, 0, []), (2, 4, 0, 0, []), (0, 0, 0, 2, []), (6, 0, 0, 0, []), (22, 0, 0, 0, []), (2, 3, 1, 0, []), (40, 2, 4, 0, []), (3, 5, 0, 0, []), (2, 2, 1, 0, []), (2, 0, 1, 0, []), (2, 4, 0, 0, []), (0, 0, 0, 1, []), (6, 0, 0, 0, []), (22, 0, 0, 0, []), (2, 0, 1, 0, []), (2, 4, 0, 0, []), (0, 0, 0, 2, []), (6, 0, 0, 0, []), (22, 0, 0, 0, []), (40, 101, 3, 0, []), (3, 6, 0, 0, []), (18, 0, 678, 0, []), (2, 1, 1, 0, []), (2, 0, 1, 0, []), (2, 4, 0, 0, []), (0, 0, 0, 1, []), (6, 0, 0, 0, []), (22, 0, 0, 0, []), (2, 0, 1, 0, []), (2, 4, 0, 0, []), (0, 0, 0, 2, []), (6, 0, 0, 0, []), (22, 0, 0, 0, []), (2, 0, 1, 0, []), (2, 4, 0, 0, []), (0, 0, 0, 3, []), (6, 0, 0, 0, []), (22, 0, 0, 0, []), (2, 0, 1, 0, []), (2, 4, 0, 0, []), (0, 0, 0, 4, []), (6, 0, 0, 0, []), (22, 0, 0, 0, []), (40, 12, 5, 0, []), (14, 0, 0, 0, []), (2, 2, 1, 0, []), (2, 0, 1, 0, []), (2, 4, 0, 0, []), (0, 0, 0, 1, []), (6, 0, 0, 0, []), (22, 0, 0, 0, []), (2, 0, 1, 0, []), (2, 4, 0, 0, []), (0, 0, 0, 2, []), (6, 0, 0, 0, []), (22, 0, 0, 0, []), (2, 0, 1, 0, []), (2, 4, 0, 0, []), (0, 0, 0, 3, []), (6, 0, 0, 0, []), (22, 0, 0, 0, []), (2, 0, 1, 0, []), (2, 4, 0, 0, []), (0, 0, 0, 4, []), (6, 0, 0, 0, []), (22, 0, 0, 0, []), (40, 102, 5, 0, []), (14, 0, 0, 0, []), (18, 0, 678, 0, []), (2, 1, 1, 0, []), (2, 0, 1, 0, []), (2, 4, 0, 0, []), (0, 0, 0, 1, []), (6, 0, 0, 0, []), (22, 0, 0, 0, []), (2, 0, 1, 0, []), (2, 4, 0, 0, []), (0, 0, 0, 2, []), (6, 0, 0, 0, []), (22, 0, 0, 0, []), (40, 13, 3, 0, []), (14, 0, 0, 0, []), (2, 2, 1, 0, []), (2, 0, 1, 0, []), (2, 4, 0, 0, []), (0, 0, 0, 1, []), (6, 0, 0, 0, []), (22, 0, 0, 0, []), (2, 0, 1, 0, []), (2, 4, 0, 0, []), (0, 0, 0, 2, []), (6, 0, 0, 0, []), (22, 0, 0, 0, []), (40, 106, 3, 0, []), (14, 0, 0, 0, []), (18, 0, 678, 0, []), (2, 1, 1, 0, []), (2, 0, 1, 0, []), (2, 4, 0, 0, []), (0, 0, 0, 1, []), (6, 0, 0, 0, []), (22, 0, 0, 0, []), (2, 0, 1, 0, []), (2, 4, 0, 0, []), (0, 0, 0, 2, []), (6, 0, 0, 0, []), (22, 0, 0, 0, []), (2, 0, 1, 0, []), (2, 4, 0, 0, []), (0, 0, 0, 3, []), (6, 0, 0, 0, []), (22, 0, 0, 0, []), (40, 14, 4, 0, []), (14, 0, 0, 0, []), (2, 2, 1, 0, []), (2, 0, 1, 0, []), (2, 4, 0, 0, []), (0, 0, 0, 1, []), (6, 0, 0, 0, []), (22, 0, 0, 0, []), (2, 0, 1, 0, []), (2, 4, 0, 0, []), (0, 0, 0, 2, []), (6, 0, 0, 0, []), (22, 0, 0, 0, []), (2, 0, 1, 0, []), (2, 4, 0, 0, []), (0, 0, 0, 3, []), (6, 0, 0, 0, []), (22, 0, 0, 0, []), (40, 108, 4, 0, []), (14, 0, 0, 0, []), (18, 0, 678, 0, []), (2, 1, 1, 0, []), (2, 0, 1, 0, []), (2, 4, 0, 0, []), (0, 0, 0, 1, []), (6, 0, 0, 0, []), (22, 0, 0, 0, []), (40, 15, 2, 0, []), (14, 0, 0, 0, []), (2, 2, 1, 0, []), (2, 0, 1, 0, []), (2, 4, 0, 0, []), (0, 0, 0, 1, []), (6, 0, 0, 0, []), (22, 0, 0, 0, []), (40, 114, 2, 0, []), (14, 0, 0, 0, []), (18, 0, 678, 0, []), (2, 1, 1, 0, []), (40, 16, 1, 0, []), (14, 0, 0, 0, []), (2, 2, 1, 0, []), (40, 117, 1, 0, []), (14, 0, 0, 0, []), (18, 0, 678, 0, []), (2, 1, 1, 0, []), (40, 17, 1, 0, []), (14, 0, 0, 0, []), (2, 2, 1, 0, []), (40, 118, 1, 0, []), (14, 0, 0, 0, []), (18, 0, 678, 0, []), (2, 1, 1, 0, []), (40, 18, 1, 0, []), (14, 0, 0, 0, []), (2, 2, 1, 0, []), (40, 130, 1, 0, []), (14, 0, 0, 0, []), (18, 0, 678, 0, []), (2, 1, 1, 0, []), (2, 0, 1, 0, []), (2, 4, 0, 0, []), (0, 0, 0, 1, []), (6, 0, 0, 0, []), (22, 0, 0, 0, []), (40, 19, 2, 0, []), (14, 0, 0, 0, []), (2, 2, 1, 0, []), (2, 0, 1, 0, []), (2, 4, 0, 0, []), (0, 0, 0, 1, []), (6, 0, 0, 0, []), (22, 0, 0, 0, []), (40, 131, 2, 0, []), (14, 0, 0, 0, []), (18, 0, 678, 0, []), (2, 1, 1, 0, []), (2, 0, 1, 0, []), (2, 4, 0, 0, []), (0, 0, 0, 1, []), (6, 0, 0, 0, []), (22, 0, 0, 0, []), (40, 20, 2, 0, []), (14, 0, 0, 0, []), (2, 2, 1, 0, []), (2, 0, 1, 0, []), (2, 4, 0, 0, []), (0, 0, 0, 1, []), (6, 0, 0, 0, []), (22, 0, 0, 0, []), (40, 132, 2, 0, []), (14, 0, 0, 0, []), (18, 0, 678, 0, []), (2, 1, 1, 0, []), (40, 21, 1, 0, []), (14, 0, 0, 0, []), (2, 2, 1, 0, []), (40, 134, 1, 0, []), (14, 0, 0, 0, []), (18, 0, 678, 0, []), (2, 1, 1, 0, []), (2, 0, 1, 0, []), (2, 4, 0, 0, []), (0, 0, 0, 1, []), (6, 0, 0, 0, []), (22, 0, 0, 0, []), (40, 22, 2, 0, []), (14, 0, 0, 0, []), (2, 2, 1, 0, []), (2, 0, 1, 0, []), (2, 4, 0, 0, []), (0, 0, 0, 1, []), (6, 0, 0, 0, []), (22, 0, 0, 0, []), (40, 137, 2, 0, []), (14, 0, 0, 0, []), (18, 0, 678, 0, []), (2, 1, 1, 0, []), (40, 23, 1, 0, []), (14, 0, 0, 0, []), (2, 2, 1, 0, []), (40, 147, 1, 0, []), (14, 0, 0, 0, []), (18, 0, 678, 0, []), (2, 1, 1, 0, []), (2, 0, 1, 0, []), (2, 4, 0, 0, []), (0, 0, 0, 1, []), (6, 0, 0, 0, []), (22, 0, 0, 0, []), (2, 3, 1, 0, []), (40, 3, 3, 0, []), (3, 5, 0, 0, []), (2, 2, 1, 0, []), (2, 0, 1, 0, []), (2, 4, 0, 0, []), (0, 0, 0, 1, []), (6, 0, 0, 0, []), (22, 0, 0, 0, []), (40, 148, 2, 0, []), (3, 6, 0, 0, []), (18, 0, 678, 0, []), (2, 1, 1, 0, []), (40, 25, 1, 0, []), (14, 0, 0, 0, []), (2, 2, 1, 0, []), (40, 149, 1, 0, []), (14, 0, 0, 0, []), (18, 0, 678, 0, []), (2, 1, 1, 0, []), (2, 0, 1, 0, []), (2, 4, 0, 0, []), (0, 0, 0, 1, []), (6, 0, 0, 0, []), (22, 0, 0, 0, []), (40, 26, 2, 0, []), (14, 0, 0, 0, []), (2, 2, 1, 0, []), (2, 0, 1, 0, []), (2, 4, 0, 0, []), (0, 0, 0, 1, []), (6, 0, 0, 0, []), (22, 0, 0, 0, []), (40, 150, 2, 0, []), (14, 0, 0, 0, []), (18, 0, 678, 0, []), (2, 1, 1, 0, []), (40, 27, 1, 0, []), (14, 0, 0, 0, []), (2, 2, 1, 0, []), (40, 151, 1, 0, []), (14, 0, 0, 0, []), (18, 0, 678, 0, []), (2, 1, 1, 0, []), (2, 0, 1, 0, []), (2, 4, 0, 0, []), (0, 0, 0, 1, []), (6, 0, 0, 0, []), (22, 0, 0, 0, []), (40, 28, 2, 0, []), (14, 0, 0, 0, []), (2, 2, 1, 0, []), (2, 0, 1, 0, []), (2, 4, 0, 0, []), (0, 0, 0, 1, []), (6, 0, 0, 0, []), (22, 0, 0, 0, []), (40, 152, 2, 0, []), (14, 0, 0, 0, []), (18, 0, 678, 0, []), (2, 1, 1, 0, []), (2, 0, 1, 0, []), (2, 4, 0, 0, []), (0, 0, 0, 1, []), (6, 0, 0, 0, []), (22, 0, 0, 0, []), (2, 0, 1, 0, []), (2, 4, 0, 0, []), (0, 0, 0, 2, []), (6, 0, 0, 0, []), (22, 0, 0, 0, []), (40, 29, 3, 0, []), (14, 0, 0, 0, []), (2, 2, 1, 0, []), (2, 0, 1, 0, []), (2, 4, 0, 0, []), (0, 0, 0, 1, []), (6, 0, 0, 0, []), (22, 0, 0, 0, []), (2, 0, 1, 0, []), (2, 4, 0, 0, []), (0, 0, 0, 2, []), (6, 0, 0, 0, []), (22, 0, 0, 0, []), (40, 154, 3, 0, []), (14, 0, 0, 0, []), (18, 0, 678, 0, []), (2, 1, 1, 0, []), (40, 30, 1, 0, []), (14, 0, 0, 0, []), (2, 2, 1, 0, []), (40, 156, 1, 0, []), (14, 0, 0, 0, []), (18, 0, 678, 0, []), (2, 1, 1, 0, []), (2, 0, 1, 0, []), (2, 4, 0, 0, []), (0, 0, 0, 1, []), (6, 0, 0, 0, []), (22, 0, 0, 0, []), (40, 31, 2, 0, []), (14, 0, 0, 0, []), (2, 2, 1, 0, []), (2, 0, 1, 0, []), (2, 4, 0, 0, []), (0, 0, 0, 1, []), (6, 0, 0, 0, []), (22, 0, 0, 0, []), (40, 160, 2, 0, []), (14, 0, 0, 0, []), (18, 0, 678, 0, []), (2, 1, 1, 0, []), (2, 0, 1, 0, []), (2, 4, 0, 0, []), (0, 0, 0, 1, []), (6, 0, 0, 0, []), (22, 0, 0, 0, []), (40, 32, 2, 0, []), (14, 0, 0, 0, []), (2, 2, 1, 0, []), (2, 0, 1, 0, []), (2, 4, 0, 0, []), (0, 0, 0, 1, []), (6, 0, 0, 0, []), (22, 0, 0, 0, []), (40, 161, 2, 0, []), (14, 0, 0, 0, []), (18, 0, 678, 0, []), (2, 1, 1, 0, []), (2, 0, 1, 0, []), (2, 4, 0, 0, []), (0, 0, 0, 1, []), (6, 0, 0, 0, []), (22, 0, 0, 0, []), (40, 33, 2, 0, []), (14, 0, 0, 0, []), (2, 2, 1, 0, []), (2, 0, 1, 0, []), (2, 4, 0, 0, []), (0, 0, 0, 1, []), (6, 0, 0, 0, []), (22, 0, 0, 0, []), (40, 165, 2, 0, []), (14, 0, 0, 0, []), (18, 0, 678, 0, []), (2, 1, 1, 0, []), (2, 0, 1, 0, []), (2, 4, 0, 0, []), (0, 0, 0, 1, []), (6, 0, 0, 0, []), (22, 0, 0, 0, []), (40, 34, 2, 0, []), (14, 0, 0, 0, []), (2, 2, 1, 0, []), (2, 0, 1, 0, []), (2, 4, 0, 0, []), (0, 0, 0, 1, []), (6, 0, 0, 0, []), (22, 0, 0, 0, []), (40, 168, 2, 0, []), (14, 0, 0, 0, []), (18, 0, 678, 0, []), (2, 1, 1, 0, []), (2, 0, 1, 0, []), (2, 4, 0, 0, []), (0, 0, 0, 1, []), (6, 0, 0, 0, []), (22, 0, 0, 0, []), (40, 35, 2, 0, []), (14, 0, 0, 0, []), (2, 2, 1, 0, []), (2, 0, 1, 0, []), (2, 4, 0, 0, []), (0, 0, 0, 1, []), (6, 0, 0, 0, []), (22, 0, 0, 0, []), (40, 169, 2, 0, []), (14, 0, 0, 0, []), (18, 0, 678, 0, []), (2, 1, 1, 0, []), (2, 0, 1, 0, []), (2, 4, 0, 0, []), (0, 0, 0, 1, []), (6, 0, 0, 0, []), (22, 0, 0, 0, []), (40, 36, 2, 0, []), (14, 0, 0, 0, []), (2, 2, 1, 0, []), (2, 0, 1, 0, []), (2, 4, 0, 0, []), (0, 0, 0, 1, []), (6, 0, 0, 0, []), (22, 0, 0, 0, []), (40, 172, 2, 0, []), (14, 0, 0, 0, []), (18, 0, 678, 0, []), (2, 1, 1, 0, []), (2, 0, 1, 0, []), (2, 4, 0, 0, []), (0, 0, 0, 1, []), (6, 0, 0, 0, []), (22, 0, 0, 0, []), (2, 0, 1, 0, []), (2, 4, 0, 0, []), (0, 0, 0, 2, []), (6, 0, 0, 0, []), (22, 0, 0, 0, []), (40, 37, 3, 0, []), (14, 0, 0, 0, []), (2, 2, 1, 0, []), (2, 0, 1, 0, []), (2, 4, 0, 0, []), (0, 0, 0, 1, []), (6, 0, 0, 0, []), (22, 0, 0, 0, []), (2, 0, 1, 0, []), (2, 4, 0, 0, []), (0, 0, 0, 2, []), (6, 0, 0, 0, []), (22, 0, 0, 0, []), (40, 173, 3, 0, []), (14, 0, 0, 0, []), (18, 0, 678, 0, []), (2, 1, 1, 0, []), (2, 0, 1, 0, []), (2, 4, 0, 0, []), (0, 0, 0, 1, []), (6, 0, 0, 0, []), (22, 0, 0, 0, []), (2, 0, 1, 0, []), (2, 4, 0, 0, []), (0, 0, 0, 2, []), (6, 0, 0, 0, []), (22, 0, 0, 0, []), (40, 38, 3, 0, []), (14, 0, 0, 0, []), (2, 2, 1, 0, []), (2, 0, 1, 0, []), (2, 4, 0, 0, []), (0, 0, 0, 1, []), (6, 0, 0, 0, []), (22, 0, 0, 0, []), (2, 0, 1, 0, []), (2, 4, 0, 0, []), (0, 0, 0, 2, []), (6, 0, 0, 0, []), (22, 0, 0, 0, []), (40, 176, 3, 0, []), (14, 0, 0, 0, []), (18, 0, 678, 0, []), (2, 1, 1, 0, []), (2, 0, 1, 0, []), (2, 4, 0, 0, []), (0, 0, 0, 1, []), (6, 0, 0, 0, []), (22, 0, 0, 0, []), (40, 39, 2, 0, []), (2, 2, 1, 0, []), (2, 0, 1, 0, []), (2, 4, 0, 0, []), (0, 0, 0, 1, []), (6, 0, 0, 0, []), (22, 0, 0, 0, []), (40, 177, 2, 0, []), (17, 0, 678, 0, []), (0, 0, 0, 0, []), (42, 0, 1, 0, []), (2, 1, 1, 0, []), (2, 0, 1, 0, []), (2, 4, 0, 0, []), (0, 0, 0, 1, []), (6, 0, 0, 0, []), (22, 0, 0, 0, []), (40, 40, 2, 0, []), (14, 0, 0, 0, []), (2, 2, 1, 0, []), (2, 0, 1, 0, []), (2, 4, 0, 0, []), (0, 0, 0, 1, []), (6, 0, 0, 0, []), (22, 0, 0, 0, []), (40, 178, 2, 0, []), (14, 0, 0, 0, []), (18, 0, 678, 0, []), (2, 1, 1, 0, []), (2, 0, 1, 0, []), (2, 4, 0, 0, []), (0, 0, 0, 1, []), (6, 0, 0, 0, []), (22, 0, 0, 0, []), (40, 41, 2, 0, []), (14, 0, 0, 0, []), (2, 2, 1, 0, []), (2, 0, 1, 0, []), (2, 4, 0, 0, []), (0, 0, 0, 1, []), (6, 0, 0, 0, []), (22, 0, 0, 0, []), (40, 180, 2, 0, []), (14, 0, 0, 0, []), (18, 0, 678, 0, []), (2, 1, 1, 0, []), (2, 0, 1, 0, []), (2, 4, 0, 0, []), (0, 0, 0, 1, []), (6, 0, 0, 0, []), (22, 0, 0, 0, []), (2, 3, 1, 0, []), (40, 4, 3, 0, []), (3, 5, 0, 0, []), (2, 2, 1, 0, []), (2, 0, 1, 0, []), (2, 4, 0, 0, []), (0, 0, 0, 1, []), (6, 0, 0, 0, []), (22, 0, 0, 0, []), (40, 181, 2, 0, []), (4, 6, 0, 0, []), (18, 0, 678, 0, []), (5, 4, 0, 5, []), (18, 0, 13, 0, []), (0, 0, 0, 1, []), (42, 0, 1, 0, [])]
def mzc_1 : List mzI := [(2, 3, 1, 0, []), (0, 0, 0, 0, []), (2, 0, 1, 0, []), (2, 1, 0, 0, []), (2, 2, 0, 0, []), (40, 10, 3, 0, []), (8, 0, 0, 0, []), (23, 1, 0, 0, []), (18, 0, 12, 0, []), (3, 4, 1, 0, []), (0, 0, 0, 1, []), (42, 0, 0, 0, []), (0, 0, 0, 0, []), (42, 0, 0, 0, [])]
def mzc_2 : List mzI := [(2, 3, 1, 0, []), (0, 0, 0, 0, []), (2, 0, 1, 0, []), (2, 1, 0, 0, []), (2, 2, 0, 0, []), (40, 11, 3, 0, []), (8, 0, 0, 0, []), (23, 1, 0, 0, []), (18, 0, 12, 0, []), (3, 4, 1, 0, []), (0, 0, 0, 1, []), (42, 0, 0, 0, []), (0, 0, 0, 0, []), (42, 0, 0, 0, [])]
def mzc_3 : List mzI := [(2, 2, 1, 0, []), (0, 0, 0, 0, []), (2, 0, 1, 0, []), (2, 1, 0, 0, []), (40, 24, 2, 0, []), (8, 0, 0, 0, []), (23, 1, 0, 0, []), (18, 0, 11, 0, []), (3, 3, 1, 0, []), (0, 0, 0, 1, []), (42, 0, 0, 0, []), (0, 0, 0, 0, []), (42, 0, 0, 0, [])]
def mzc_4 : List mzI := [(2, 2, 1, 0, []), (0, 0, 0, 0, []), (2, 0, 1, 0, []), (2, 1, 0, 0, []), (40, 42, 2, 0, []), (23, 1, 0, 0, []), (18, 0, 10, 0, []), (3, 3, 1, 0, []), (0, 0, 0, 1, []), (42, 0, 0, 0, []), (0, 0, 0, 0, []), (42, 0, 0, 0, [])]
def mzc_5 : List mzI := [(2, 0, 1, 0, []), (29, 0, 0, 0, []), (2, 0, 1, 0, []), (25, 3, 7, 0, []), (12, 0, 0, 0, []), (40, 214, 1, 0, []), (21, 0, 10, 2, []), (2, 0, 1, 0, []), (25, 9, 3, 0, []), (12, 0, 0, 0, []), (40, 275, 1, 0, []), (21, 1, 10, 2, []), (2, 0, 1, 0, []), (25, 7, 3, 0, []), (12, 0, 0, 0, []), (2, 0, 1, 0, []), (20, 1, 10, 0, []), (40, 259, 2, 0, []), (21, 2, 10, 2, []), (2, 0, 1, 0, []), (25, 1, 18, 0, []), (12, 0, 0, 0, []), (2, 0, 1, 0, []), (20, 0, 10, 0, []), (40, 188, 2, 0, []), (21, 3, 10, 2, []), (2, 0, 1, 0, []), (25, 5, 6, 0, []), (12, 0, 0, 0, []), (2, 0, 1, 0, []), (20, 0, 10, 0, []), (2, 0, 1, 0, []), (20, 3, 10, 0, []), (40, 229, 3, 0, []), (21, 4, 10, 2, []), (2, 0, 1, 0, []), (25, 6, 7, 0, []), (12, 0, 0, 0, []), (2, 0, 1, 0, []), (20, 0, 10, 0, []), (2, 0, 1, 0, []), (20, 4, 10, 0, []), (40, 248, 3, 0, []), (21, 5, 10, 2, []), (2, 0, 1, 0, []), (25, 0, 13, 0, []), (12, 0, 0, 0, []), (2, 0, 1, 0, []), (20, 0, 10, 0, []), (2, 0, 1, 0, []), (20, 4, 10, 0, []), (40, 182, 3, 0, []), (21, 6, 10, 2, []), (2, 0, 1, 0, []), (25, 8, 2, 0, []), (12, 0, 0, 0, []), (40, 272, 1, 0, []), (21, 7, 10, 2, []), (2, 0, 1, 0, []), (25, 4, 6, 0, []), (12, 0, 0, 0, []), (2, 0, 1, 0, []), (20, 0, 10, 0, []), (40, 223, 2, 0, []), (21, 8, 10, 2, []), (41, 0, 0, 0, [])]
def mzc_6 : List mzI := [(2, 0, 1, 0, []), (20, 1, 10, 0, []), (20, 1, 9, 0, []), (0, 0, 0, 4, []), (6, 0, 0, 0, []), (0, 0, 0, 80, []), (17, 5, 9, 0, []), (0, 0, 0, (-1), []), (42, 0, 0, 0, []), (0, 0, 0, 24, []), (3, 2, 0, 0, []), (2, 2, 0, 0, []), (16, 2, 23, 0, []), (2, 0, 1, 0, []), (20, 1, 10, 0, []), (2, 1, 0, 0, []), (2, 2, 0, 0, []), (6, 8, 0, 0, []), (0, 0, 0, 255, []), (6, 3, 0, 0, []), (40, 276, 2, 0, []), (5, 2, 0, (-8), []), (18, 0, 11, 0, []), (2, 0, 1, 0, []), (20, 1, 10, 0, []), (20, 1, 9, 0, []), (42, 0, 0, 0, [])]
def mzc_7 : List mzI := [(2, 1, 0, 0, []), (16, 2, 7, 0, []), (2, 1, 0, 0, []), (2, 0, 1, 0, []), (20, 1, 10, 0, []), (20, 1, 9, 0, []), (17, 5, 9, 0, []), (0, 0, 0, 0, []), (42, 0, 1, 0, []), (2, 0, 1, 0, []), (20, 1, 10, 0, []), (2, 1, 0, 0, []), (21, 1, 9, 0, []), (0, 0, 0, 1, []), (42, 0, 1, 0, [])]
def mzc_8 : List mzI := [(2, 0, 1, 0, []), (20, 2, 10, 0, []), (40, 260, 1, 0, []), (3, 1, 0, 0, []), (2, 0, 1, 0, []), (20, 1, 10, 0, []), (0, 0, 0, 0, []), (21, 1, 9, 0, []), (2, 1, 0, 0, []), (16, 3, 12, 0, []), (2, 1, 0, 0, []), (42, 0, 0, 0, []), (2, 0, 1, 0, []), (20, 8, 10, 0, []), (40, 224, 1, 0, []), (2, 0, 1, 0, []), (20, 0, 10, 0, []), (2, 0, 1, 0, []), (20, 2, 10, 0, []), (20, 1, 7, 0, []), (40, 216, 2, 0, []), (2, 0, 1, 0, []), (20, 8, 10, 0, []), (40, 225, 1, 0, []), (2, 0, 1, 0, []), (40, 51, 1, 0, []), (2, 1, 0, 0, []), (42, 0, 0, 0, [])]
def mzc_9 : List mzI := [(2, 0, 1, 0, []), (20, 2, 10, 0, []), (40, 267, 1, 0, []), (3, 2, 0, 0, []), (2, 0, 1, 0, []), (20, 1, 10, 0, []), (0, 0, 0, 0, []), (21, 1, 9, 0, []), (2, 2, 0, 0, []), (16, 3, 12, 0, []), (2, 2, 0, 0, []), (42, 0, 0, 0, []), (2, 1, 0, 0, []), (40, 43, 1, 0, []), (16, 1, 17, 0, []), (0, 0, 0, (-1), []), (42, 0, 0, 0, []), (2, 0, 1, 0, []), (20, 8, 10, 0, []), (40, 224, 1, 0, []), (2, 0, 1, 0, []), (20, 2, 10, 0, []), (20, 1, 7, 0, []), (20, 5, 3, 0, []), (0, 0, 0, 0, []), (2, 0, 1, 0, []), (20, 0, 10, 0, []), (20, 5, 3, 0, []), (2, 1, 0, 0, []), (0, 0, 0, 16, []), (6, 2, 0, 0, []), (0, 0, 0, 16, []), (30, 0, 0, 0, []), (2, 0, 1, 0, []), (20, 8, 10, 0, []), (40, 225, 1, 0, []), (2, 2, 0, 0, []), (42, 0, 0, 0, [])]
def mzc_10 : List mzI := [(2, 1, 0, 0, []), (40, 43, 1, 0, []), (16, 0, 6, 0, []), (2, 2, 0, 0, []), (40, 44, 1, 0, []), (16, 1, 11, 0, []), (43, 0, 0, 0, []), (12, 0, 0, 0, []), (44, 0, 0, 0, []), (44, 0, 0, 0, []), (44, 0, 0, 0, []), (2, 0, 1, 0, []), (20, 0, 10, 0, []), (20, 5, 3, 0, []), (2, 1, 0, 0, []), (0, 0, 0, 16, []), (6, 2, 0, 0, []), (2, 2, 0, 0, []), (6, 0, 0, 0, []), (22, 0, 0, 0, []), (42, 0, 0, 0, [])]
def mzc_11 : List mzI := [(2, 0, 1, 0, []), (2, 1, 0, 0, []), (40, 50, 2, 0, []), (16, 0, 9, 0, []), (2, 2, 0, 0, []), (16, 2, 9, 0, []), (2, 2, 0, 0, []), (0, 0, 0, 3, []), (17, 5, 14, 0, []), (43, 0, 0, 0, []), (12, 0, 0, 0, []), (44, 0, 0, 0, []), (44, 0, 0, 0, []), (44, 0, 0, 0, []), (2, 2, 0, 0, []), (19, 0, 34, 0, [(0, 16), (1, 22), (2, 28)]), (2, 0, 1, 0, []), (20, 0, 10, 0, []), (20, 1, 3, 0, []), (2, 1, 0, 0, []), (22, 0, 0, 0, []), (42, 0, 0, 0, []), (2, 0, 1, 0, []), (20, 0, 10, 0, []), (20, 2, 3, 0, []), (2, 1, 0, 0, []), (22, 0, 0, 0, []), (42, 0, 0, 0, []), (2, 0, 1, 0, []), (20, 0, 10, 0, []), (20, 3, 3, 0, []), (2, 1, 0, 0, []), (22, 0, 0, 0, []), (42, 0, 0, 0, []), (2, 0, 1, 0, []), (20, 0, 10, 0, []), (20, 4, 3, 0, []), (2, 1, 0, 0, []), (22, 0, 0, 0, []), (42, 0, 0, 0, [])]
def mzc_12 : List mzI := [(2, 1, 0, 0, []), (16, 2, 8, 0, []), (2, 1, 0, 0, []), (0, 0, 0, 3, []), (17, 4, 8, 0, []), (2, 2, 0, 0, []), (0, 0, 0, 16, []), (17, 5, 10, 0, []), (0, 0, 0, (-1), []), (42, 0, 0, 0, []), (2, 1, 0, 0, []), (0, 0, 0, 3, []), (17, 1, 22, 0, []), (2, 0, 1, 0, []), (2, 1, 0, 0, []), (0, 0, 0, 0, []), (2, 3, 0, 0, []), (2, 4, 0, 0, []), (40, 52, 5, 0, []), (14, 0, 0, 0, []), (0, 0, 0, (-3), []), (42, 0, 0, 0, []), (2, 2, 0, 0, []), (16, 3, 26, 0, []), (0, 0, 0, (-2), []), (42, 0, 0, 0, []), (2, 0, 1, 0, []), (2, 1, 0, 0, []), (2, 2, 0, 0, []), (2, 3, 0, 0, []), (2, 4, 0, 0, []), (40, 52, 5, 0, []), (42, 0, 0, 0, [])]
def mzc_13 : List mzI := [(2, 0, 1, 0, []), (20, 8, 10, 0, []), (40, 224, 1, 0, []), (2, 0, 1, 0, []), (2, 1, 0, 0, []), (2, 2, 0, 0, []), (40, 53, 3, 0, []), (3, 3, 0, 0, []), (2, 3, 0, 0, []), (16, 2, 13, 0, []), (2, 0, 1, 0, []), (20, 8, 10, 0, []), (40, 225, 1, 0, []), (2, 3, 0, 0, []), (42, 0, 0, 0, [])]
def mzc_14 : List mzI := [(2, 0, 1, 0, []), (20, 8, 10, 0, []), (40, 224, 1, 0, []), (2, 0, 1, 0, []), (2, 1, 0, 0, []), (2, 2, 0, 0, []), (2, 3, 0, 0, []), (40, 56, 4, 0, []), (3, 4, 0, 0, []), (2, 4, 0, 0, []), (16, 2, 14, 0, []), (2, 0, 1, 0, []), (20, 8, 10, 0, []), (40, 225, 1, 0, []), (2, 4, 0, 0, []), (42, 0, 0, 0, [])]
def mzc_15 : List mzI := [(2, 1, 0, 0, []), (40, 45, 1, 0, []), (16, 1, 5, 0, []), (0, 0, 0, (-1), []), (42, 0, 0, 0, []), (2, 0, 1, 0, []), (20, 8, 10, 0, []), (40, 224, 1, 0, []), (2, 0, 1, 0, []), (20, 5, 10, 0, []), (2, 0, 1, 0, []), (20, 0, 10, 0, []), (20, 5, 3, 0, []), (2, 1, 0, 0, []), (40, 252, 3, 0, []), (2, 0, 1, 0, []), (20, 8, 10, 0, []), (40, 225, 1, 0, []), (2, 0, 1, 0, []), (2, 1, 0, 0, []), (40, 59, 2, 0, []), (2, 1, 0, 0, []), (42, 0, 0, 0, [])]
def mzc_16 : List mzI := [(2, 0, 1, 0, []), (20, 2, 10, 0, []), (40, 269, 1, 0, []), (3, 1, 0, 0, []), (2, 1, 0, 0, []), (16, 3, 12, 0, []), (2, 0, 1, 0, []), (20, 1, 10, 0, []), (0, 0, 0, 0, []), (21, 1, 9, 0, []), (2, 1, 0, 0, []), (42, 0, 0, 0, []), (2, 0, 1, 0, []), (20, 8, 10, 0, []), (40, 224, 1, 0, []), (2, 0, 1, 0, []), (40, 57, 1, 0, []), (3, 2, 0, 0, []), (2, 0, 1, 0, []), (20, 1, 10, 0, []), (40, 279, 1, 0, []), (3, 3, 0, 0, []), (2, 0, 1, 0, []), (20, 1, 10, 0, []), (0, 0, 0, 0, []), (21, 1, 9, 0, []), (2, 2, 0, 0, []), (16, 5, 31, 0, []), (2, 0, 1, 0, []), (20, 8, 10, 0, []), (40, 225, 1, 0, []), (2, 0, 1, 0, []), (20, 7, 10, 0, []), (40, 273, 1, 0, []), (2, 0, 1, 0, []), (20, 7, 10, 0, []), (2, 3, 0, 0, []), (16, 0, 40, 0, []), (1, 0, 0, 0, []), (18, 0, 41, 0, []), (1, 0, 0, 1, []), (40, 274, 2, 0, []), (2, 2, 0, 0, []), (42, 0, 0, 0, [])]
def mzc_17 : List mzI := [(2, 0, 1, 0, []), (20, 8, 10, 0, []), (20, 3, 4, 0, []), (16, 1, 6, 0, []), (0, 0, 0, (-1), []), (42, 0, 0, 0, []), (2, 0, 1, 0, []), (20, 8, 10, 0, []), (40, 226, 1, 0, []), (2, 0, 1, 0, []), (40, 51, 1, 0, []), (2, 0, 1, 0, []), (20, 8, 10, 0, []), (20, 3, 4, 0, []), (42, 0, 0, 0, [])]
def mzc_18 : List mzI := [(2, 0, 1, 0, []), (20, 3, 10, 0, []), (40, 190, 1, 0, []), (2, 0, 1, 0, []), (20, 7, 10, 0, []), (40, 273, 1, 0, []), (2, 0, 1, 0, []), (20, 7, 10, 0, []), (2, 0, 1, 0, []), (20, 3, 10, 0, []), (20, 2, 1, 0, []), (8, 0, 0, 0, []), (40, 274, 2, 0, []), (0, 0, 0, 0, []), (3, 1, 0, 0, []), (2, 1, 0, 0, []), (0, 0, 0, 4, []), (17, 3, 28, 0, []), (2, 0, 1, 0, []), (20, 7, 10, 0, []), (2, 0, 1, 0, []), (20, 3, 10, 0, []), (2, 1, 0, 0, []), (40, 199, 2, 0, []), (8, 0, 0, 0, []), (40, 274, 2, 0, []), (5, 1, 0, 1, []), (18, 0, 15, 0, []), (2, 0, 1, 0, []), (20, 3, 10, 0, []), (40, 200, 1, 0, []), (42, 0, 0, 0, [])]
def mzc_19 : List mzI := [(2, 1, 0, 0, []), (40, 46, 1, 0, []), (16, 1, 5, 0, []), (0, 0, 0, (-1), []), (42, 0, 0, 0, []), (2, 0, 1, 0, []), (20, 3, 10, 0, []), (40, 190, 1, 0, []), (2, 0, 1, 0, []), (20, 3, 10, 0, []), (2, 1, 0, 0, []), (40, 201, 2, 0, []), (16, 1, 15, 0, []), (0, 0, 0, (-2), []), (42, 0, 0, 0, []), (2, 0, 1, 0, []), (2, 0, 1, 0, []), (20, 3, 10, 0, []), (20, 13, 1, 0, []), (2, 1, 0, 0, []), (0, 0, 0, 10, []), (6, 2, 0, 0, []), (40, 61, 3, 0, []), (2, 0, 1, 0, []), (20, 3, 10, 0, []), (2, 1, 0, 0, []), (40, 209, 2, 0, []), (42, 0, 0, 0, [])]
def mzc_20 : List mzI := [(2, 1, 0, 0, []), (40, 46, 1, 0, []), (16, 1, 5, 0, []), (0, 0, 0, (-1), []), (42, 0, 0, 0, []), (2, 0, 1, 0, []), (20, 3, 10, 0, []), (40, 190, 1, 0, []), (2, 0, 1, 0, []), (20, 3, 10, 0, []), (2, 1, 0, 0, []), (40, 201, 2, 0, []), (16, 1, 15, 0, []), (0, 0, 0, (-2), []), (42, 0, 0, 0, []), (2, 0, 1, 0, []), (2, 0, 1, 0, []), (20, 3, 10, 0, []), (20, 14, 1, 0, []), (2, 1, 0, 0, []), (0, 0, 0, 10, []), (6, 2, 0, 0, []), (40, 61, 3, 0, []), (2, 0, 1, 0, []), (20, 3, 10, 0, []), (2, 1, 0, 0, []), (40, 210, 2, 0, []), (42, 0, 0, 0, [])]
def mzc_21 : List mzI := [(2, 0, 1, 0, []), (20, 3, 10, 0, []), (40, 190, 1, 0, []), (2, 0, 1, 0, []), (20, 3, 10, 0, []), (40, 211, 1, 0, []), (3, 1, 0, 0, []), (2, 0, 1, 0, []), (20, 7, 10, 0, []), (40, 273, 1, 0, []), (2, 0, 1, 0, []), (20, 7, 10, 0, []), (2, 1, 0, 0, []), (40, 285, 1, 0, []), (8, 0, 0, 0, []), (40, 274, 2, 0, []), (2, 1, 0, 0, []), (42, 0, 0, 0, [])]
def mzc_22 : List mzI := [(2, 0, 1, 0, []), (2, 1, 0, 0, []), (40, 50, 2, 0, []), (16, 1, 6, 0, []), (0, 0, 0, (-1), []), (42, 0, 0, 0, []), (2, 0, 1, 0, []), (20, 3, 10, 0, []), (40, 190, 1, 0, []), (2, 0, 1, 0, []), (20, 7, 10, 0, []), (40, 273, 1, 0, []), (2, 0, 1, 0, []), (20, 3, 10, 0, []), (20, 6, 1, 0, []), (2, 1, 0, 0, []), (22, 0, 0, 0, []), (16, 0, 27, 0, []), (2, 0, 1, 0, []), (20, 7, 10, 0, []), (2, 0, 1, 0, []), (20, 3, 10, 0, []), (20, 7, 1, 0, []), (2, 1, 0, 0, []), (22, 0, 0, 0, []), (8, 0, 0, 0, []), (40, 274, 2, 0, []), (2, 0, 1, 0, []), (20, 3, 10, 0, []), (20, 6, 1, 0, []), (2, 1, 0, 0, []), (22, 0, 0, 0, []), (42, 0, 0, 0, [])]
def mzc_23 : List mzI := [(2, 0, 1, 0, []), (40, 64, 1, 0, []), (3, 1, 0, 0, []), (2, 0, 1, 0, []), (40, 62, 1, 0, []), (2, 1, 0, 0, []), (42, 0, 0, 0, [])]
def mzc_24 : List mzI := [(2, 0, 1, 0, []), (2, 1, 0, 0, []), (40, 50, 2, 0, []), (16, 1, 9, 0, []), (43, 0, 0, 0, []), (12, 0, 0, 0, []), (44, 0, 0, 0, []), (44, 0, 0, 0, []), (44, 0, 0, 0, []), (2, 0, 1, 0, []), (40, 64, 1, 0, []), (14, 0, 0, 0, []), (2, 0, 1, 0, []), (20, 4, 10, 0, []), (20, 4, 5, 0, []), (2, 1, 0, 0, []), (22, 0, 0, 0, []), (42, 0, 0, 0, [])]
def mzc_25 : List mzI := [(2, 0, 1, 0, []), (40, 64, 1, 0, []), (3, 1, 0, 0, []), (0, 0, 0, 0, []), (3, 2, 0, 0, []), (0, 0, 0, 0, []), (3, 3, 0, 0, []), (2, 3, 0, 0, []), (0, 0, 0, 4, []), (17, 3, 24, 0, []), (2, 0, 1, 0, []), (20, 3, 10, 0, []), (2, 3, 0, 0, []), (40, 199, 2, 0, []), (2, 1, 0, 0, []), (17, 1, 22, 0, []), (2, 2, 0, 0, []), (0, 0, 0, 1, []), (2, 3, 0, 0, []), (6, 6, 0, 0, []), (6, 4, 0, 0, []), (3, 2, 0, 0, []), (5, 3, 0, 1, []), (18, 0, 7, 0, []), (2, 0, 1, 0, []), (20, 3, 10, 0, []), (20, 2, 1, 0, []), (2, 1, 0, 0, []), (17, 1, 33, 0, []), (2, 2, 0, 0, []), (0, 0, 0, 16, []), (6, 4, 0, 0, []), (3, 2, 0, 0, []), (2, 0, 1, 0, []), (20, 7, 10, 0, []), (40, 273, 1, 0, []), (2, 0, 1, 0, []), (20, 7, 10, 0, []), (2, 1, 0, 0, []), (2, 0, 1, 0, []), (20, 3, 10, 0, []), (40, 200, 1, 0, []), (6, 1, 0, 0, []), (8, 0, 0, 0, []), (40, 274, 2, 0, []), (2, 2, 0, 0, []), (42, 0, 0, 0, [])]
def mzc_26 : List mzI := [(2, 1, 0, 0, []), (40, 46, 1, 0, []), (16, 1, 5, 0, []), (0, 0, 0, (-1), []), (42, 0, 0, 0, []), (2, 0, 1, 0, []), (20, 3, 10, 0, []), (40, 190, 1, 0, []), (2, 0, 1, 0, []), (20, 4, 10, 0, []), (40, 230, 1, 0, []), (2, 0, 1, 0, []), (20, 4, 10, 0, []), (2, 1, 0, 0, []), (40, 232, 2, 0, []), (16, 1, 18, 0, []), (0, 0, 0, 0, []), (42, 0, 0, 0, []), (2, 0, 1, 0, []), (40, 62, 1, 0, []), (0, 0, 0, 1, []), (42, 0, 0, 0, [])]
def mzc_27 : List mzI := [(2, 0, 1, 0, []), (40, 64, 1, 0, []), (3, 1, 0, 0, []), (2, 0, 1, 0, []), (20, 4, 10, 0, []), (40, 243, 1, 0, []), (3, 2, 0, 0, []), (2, 0, 1, 0, []), (20, 7, 10, 0, []), (40, 273, 1, 0, []), (2, 0, 1, 0, []), (20, 7, 10, 0, []), (2, 2, 0, 0, []), (2, 1, 0, 0, []), (40, 49, 2, 0, []), (8, 0, 0, 0, []), (40, 274, 2, 0, []), (2, 2, 0, 0, []), (42, 0, 0, 0, [])]
def mzc_28 : List mzI := [(2, 0, 1, 0, []), (40, 64, 1, 0, []), (3, 2, 0, 0, []), (2, 1, 0, 0, []), (16, 2, 8, 0, []), (2, 1, 0, 0, []), (2, 2, 0, 0, []), (17, 2, 10, 0, []), (0, 0, 0, (-1), []), (42, 0, 0, 0, []), (0, 0, 0, 0, []), (3, 3, 0, 0, []), (0, 0, 0, 0, []), (3, 4, 0, 0, []), (2, 4, 0, 0, []), (2, 0, 1, 0, []), (20, 0, 10, 0, []), (20, 0, 3, 0, []), (17, 3, 33, 0, []), (2, 0, 1, 0, []), (20, 4, 10, 0, []), (2, 4, 0, 0, []), (40, 240, 2, 0, []), (2, 1, 0, 0, []), (17, 1, 31, 0, []), (2, 3, 0, 0, []), (0, 0, 0, 1, []), (2, 4, 0, 0, []), (6, 6, 0, 0, []), (6, 4, 0, 0, []), (3, 3, 0, 0, []), (5, 4, 0, 1, []), (18, 0, 14, 0, []), (2, 3, 0, 0, []), (42, 0, 0, 0, [])]
def mzc_29 : List mzI := [(2, 1, 0, 0, []), (16, 2, 5, 0, []), (2, 2, 0, 0, []), (40, 45, 1, 0, []), (16, 1, 7, 0, []), (0, 0, 0, (-1), []), (42, 0, 0, 0, []), (2, 0, 1, 0, []), (40, 64, 1, 0, []), (14, 0, 0, 0, []), (0, 0, 0, 0, []), (3, 3, 0, 0, []), (2, 0, 1, 0, []), (20, 7, 10, 0, []), (40, 273, 1, 0, []), (0, 0, 0, 0, []), (3, 4, 0, 0, []), (2, 4, 0, 0, []), (2, 0, 1, 0, []), (20, 0, 10, 0, []), (20, 0, 3, 0, []), (17, 3, 45, 0, []), (2, 0, 1, 0, []), (20, 4, 10, 0, []), (2, 4, 0, 0, []), (2, 1, 0, 0, []), (2, 2, 0, 0, []), (40, 241, 4, 0, []), (3, 5, 0, 0, []), (2, 0, 1, 0, []), (20, 7, 10, 0, []), (2, 5, 0, 0, []), (8, 0, 0, 0, []), (40, 274, 2, 0, []), (2, 5, 0, 0, []), (0, 0, 0, (-1), []), (17, 0, 43, 0, []), (2, 3, 0, 0, []), (0, 0, 0, 1, []), (2, 4, 0, 0, []), (6, 6, 0, 0, []), (6, 4, 0, 0, []), (3, 3, 0, 0, []), (5, 4, 0, 1, []), (18, 0, 17, 0, []), (2, 3, 0, 0, []), (42, 0, 0, 0, [])]
def mzc_30 : List mzI := [(2, 0, 1, 0, []), (40, 64, 1, 0, []), (3, 1, 0, 0, []), (0, 0, 0, (-1), []), (3, 2, 0, 0, []), (0, 0, 0, 0, []), (3, 3, 0, 0, []), (0, 0, 0, 0, []), (3, 4, 0, 0, []), (2, 4, 0, 0, []), (2, 1, 0, 0, []), (17, 3, 26, 0, []), (2, 0, 1, 0, []), (20, 4, 10, 0, []), (2, 4, 0, 0, []), (40, 245, 2, 0, []), (3, 5, 0, 0, []), (2, 5, 0, 0, []), (2, 2, 0, 0, []), (17, 5, 24, 0, []), (2, 5, 0, 0, []), (3, 2, 0, 0, []), (2, 4, 0, 0, []), (3, 3, 0, 0, []), (5, 4, 0, 1, []), (18, 0, 9, 0, []), (2, 0, 1, 0, []), (20, 7, 10, 0, []), (40, 273, 1, 0, []), (2, 2, 0, 0, []), (0, 0, 0, (-1), []), (17, 1, 34, 0, []), (0, 0, 0, 0, []), (42, 0, 0, 0, []), (2, 0, 1, 0, []), (20, 7, 10, 0, []), (2, 3, 0, 0, []), (8, 0, 0, 0, []), (40, 274, 2, 0, []), (2, 2, 0, 0, []), (42, 0, 0, 0, [])]
def mzc_31 : List mzI := [(2, 1, 0, 0, []), (16, 0, 7, 0, []), (2, 1, 0, 0, []), (0, 0, 0, 1, []), (17, 0, 7, 0, []), (0, 0, 0, (-1), []), (42, 0, 0, 0, []), (2, 0, 1, 0, []), (40, 64, 1, 0, []), (14, 0, 0, 0, []), (2, 0, 1, 0, []), (20, 6, 10, 0, []), (2, 1, 0, 0, []), (40, 183, 2, 0, []), (3, 2, 0, 0, []), (2, 0, 1, 0, []), (20, 7, 10, 0, []), (40, 273, 1, 0, []), (0, 0, 0, 0, []), (3, 3, 0, 0, []), (2, 3, 0, 0, []), (2, 0, 1, 0, []), (20, 6, 10, 0, []), (20, 2, 0, 0, []), (17, 3, 36, 0, []), (2, 0, 1, 0, []), (20, 7, 10, 0, []), (2, 0, 1, 0, []), (20, 6, 10, 0, []), (20, 3, 0, 0, []), (2, 3, 0, 0, []), (22, 0, 0, 0, []), (8, 0, 0, 0, []), (40, 274, 2, 0, []), (5, 3, 0, 1, []), (18, 0, 20, 0, []), (2, 2, 0, 0, []), (42, 0, 0, 0, [])]
def mzc_32 : List mzI := [(2, 1, 0, 0, []), (40, 43, 1, 0, []), (16, 1, 5, 0, []), (0, 0, 0, (-1), []), (42, 0, 0, 0, []), (2, 0, 1, 0, []), (40, 64, 1, 0, []), (14, 0, 0, 0, []), (0, 0, 0, 0, []), (3, 2, 0, 0, []), (2, 0, 1, 0, []), (20, 7, 10, 0, []), (40, 273, 1, 0, []), (0, 0, 0, 0, []), (3, 3, 0, 0, []), (2, 3, 0, 0, []), (2, 0, 1, 0, []), (20, 0, 10, 0, []), (20, 0, 3, 0, []), (17, 3, 69, 0, []), (2, 3, 0, 0, []), (0, 0, 0, 1, []), (6, 0, 0, 0, []), (3, 4, 0, 0, []), (2, 4, 0, 0, []), (2, 0, 1, 0, []), (20, 0, 10, 0, []), (20, 0, 3, 0, []), (17, 3, 67, 0, []), (2, 0, 1, 0, []), (20, 0, 10, 0, []), (20, 2, 3, 0, []), (2, 3, 0, 0, []), (22, 0, 0, 0, []), (2, 1, 0, 0, []), (17, 1, 65, 0, []), (2, 0, 1, 0, []), (20, 0, 10, 0, []), (20, 2, 3, 0, []), (2, 4, 0, 0, []), (22, 0, 0, 0, []), (2, 1, 0, 0, []), (17, 1, 65, 0, []), (2, 0, 1, 0, []), (20, 4, 10, 0, []), (2, 3, 0, 0, []), (40, 240, 2, 0, []), (2, 0, 1, 0, []), (20, 4, 10, 0, []), (2, 4, 0, 0, []), (40, 240, 2, 0, []), (17, 1, 65, 0, []), (2, 2, 0, 0, []), (16, 1, 64, 0, []), (2, 0, 1, 0, []), (20, 7, 10, 0, []), (2, 3, 0, 0, []), (8, 0, 0, 0, []), (40, 274, 2, 0, []), (2, 0, 1, 0, []), (20, 7, 10, 0, []), (2, 4, 0, 0, []), (8, 0, 0, 0, []), (40, 274, 2, 0, []), (5, 2, 0, 1, []), (5, 4, 0, 1, []), (18, 0, 24, 0, []), (5, 3, 0, 1, []), (18, 0, 15, 0, []), (2, 2, 0, 0, []), (42, 0, 0, 0, [])]
def mzc_33 : List mzI := [(2, 1, 0, 0, []), (40, 45, 1, 0, []), (16, 1, 5, 0, []), (0, 0, 0, (-1), []), (42, 0, 0, 0, []), (2, 0, 1, 0, []), (20, 5, 10, 0, []), (40, 249, 1, 0, []), (2, 0, 1, 0, []), (20, 5, 10, 0, []), (2, 0, 1, 0, []), (20, 5, 10, 0, []), (20, 2, 6, 0, []), (2, 1, 0, 0, []), (40, 252, 3, 0, []), (2, 0, 1, 0, []), (2, 1, 0, 0, []), (40, 59, 2, 0, []), (2, 0, 1, 0, []), (20, 5, 10, 0, []), (40, 250, 1, 0, []), (42, 0, 0, 0, [])]
def mzc_34 : List mzI := [(2, 1, 0, 0, []), (40, 45, 1, 0, []), (16, 1, 5, 0, []), (0, 0, 0, (-1), []), (42, 0, 0, 0, []), (2, 0, 1, 0, []), (40, 64, 1, 0, []), (14, 0, 0, 0, []), (2, 0, 1, 0, []), (20, 5, 10, 0, []), (40, 249, 1, 0, []), (2, 0, 1, 0, []), (20, 5, 10, 0, []), (2, 0, 1, 0, []), (20, 5, 10, 0, []), (20, 2, 6, 0, []), (2, 1, 0, 0, []), (40, 256, 3, 0, []), (2, 0, 1, 0, []), (2, 1, 0, 0, []), (40, 59, 2, 0, []), (2, 0, 1, 0, []), (20, 7, 10, 0, []), (2, 0, 1, 0, []), (20, 5, 10, 0, []), (40, 250, 1, 0, []), (8, 0, 0, 0, []), (40, 274, 2, 0, []), (2, 0, 1, 0, []), (2, 1, 0, 0, []), (40, 63, 2, 0, []), (42, 0, 0, 0, [])]
def mzc_35 : List mzI := [(2, 1, 0, 0, []), (40, 45, 1, 0, []), (16, 1, 5, 0, []), (0, 0, 0, (-1), []), (42, 0, 0, 0, []), (2, 0, 1, 0, []), (40, 64, 1, 0, []), (14, 0, 0, 0, []), (0, 0, 0, 1000, []), (2, 1, 0, 0, []), (2, 0, 1, 0, []), (20, 4, 10, 0, []), (40, 243, 1, 0, []), (6, 2, 0, 0, []), (6, 0, 0, 0, []), (2, 0, 1, 0, []), (2, 1, 0, 0, []), (40, 63, 2, 0, []), (6, 1, 0, 0, []), (42, 0, 0, 0, [])]
def mzc_36 : List mzI := [(2, 1, 0, 0, []), (40, 46, 1, 0, []), (16, 1, 5, 0, []), (0, 0, 0, (-1), []), (42, 0, 0, 0, []), (2, 0, 1, 0, []), (20, 0, 10, 0, []), (20, 6, 3, 0, []), (0, 0, 0, 0, []), (22, 0, 0, 0, []), (3, 2, 0, 0, []), (2, 0, 1, 0, []), (20, 0, 10, 0, []), (20, 6, 3, 0, []), (0, 0, 0, 1, []), (22, 0, 0, 0, []), (3, 3, 0, 0, []), (2, 0, 1, 0, []), (20, 0, 10, 0, []), (20, 6, 3, 0, []), (0, 0, 0, 2, []), (22, 0, 0, 0, []), (3, 4, 0, 0, []), (2, 0, 1, 0, []), (20, 0, 10, 0, []), (20, 6, 3, 0, []), (0, 0, 0, 3, []), (22, 0, 0, 0, []), (3, 5, 0, 0, []), (2, 0, 1, 0, []), (20, 3, 10, 0, []), (40, 190, 1, 0, []), (2, 0, 1, 0, []), (20, 4, 10, 0, []), (40, 230, 1, 0, []), (0, 0, 0, 6, []), (3, 6, 0, 0, []), (2, 6, 0, 0, []), (0, 0, 0, 21, []), (17, 4, 47, 0, []), (2, 0, 1, 0, []), (2, 6, 0, 0, []), (2, 1, 0, 0, []), (40, 65, 3, 0, []), (16, 1, 47, 0, []), (5, 6, 0, 1, []), (18, 0, 37, 0, []), (2, 6, 0, 0, []), (0, 0, 0, 21, []), (17, 4, 52, 0, []), (2, 0, 1, 0, []), (40, 60, 1, 0, []), (2, 0, 1, 0, []), (2, 2, 0, 0, []), (2, 3, 0, 0, []), (2, 4, 0, 0, []), (2, 5, 0, 0, []), (40, 55, 5, 0, []), (2, 6, 0, 0, []), (0, 0, 0, 21, []), (17, 4, 63, 0, []), (2, 6, 0, 0, []), (18, 0, 64, 0, []), (0, 0, 0, (-2), []), (42, 0, 0, 0, [])]
def mzc_37 : List mzI := [(2, 1, 0, 0, []), (2, 2, 0, 0, []), (40, 48, 2, 0, []), (16, 1, 6, 0, []), (0, 0, 0, (-1), []), (42, 0, 0, 0, []), (2, 0, 1, 0, []), (20, 0, 10, 0, []), (20, 6, 3, 0, []), (2, 1, 0, 0, []), (22, 0, 0, 0, []), (3, 3, 0, 0, []), (2, 3, 0, 0, []), (2, 2, 0, 0, []), (17, 1, 17, 0, []), (0, 0, 0, (-2), []), (42, 0, 0, 0, []), (2, 0, 1, 0, []), (40, 64, 1, 0, []), (3, 4, 0, 0, []), (2, 0, 1, 0, []), (2, 1, 0, 0, []), (2, 2, 0, 0, []), (40, 54, 3, 0, []), (2, 0, 1, 0, []), (40, 64, 1, 0, []), (3, 5, 0, 0, []), (2, 0, 1, 0, []), (2, 1, 0, 0, []), (2, 3, 0, 0, []), (40, 54, 3, 0, []), (2, 0, 1, 0, []), (20, 7, 10, 0, []), (40, 273, 1, 0, []), (2, 0, 1, 0, []), (20, 7, 10, 0, []), (2, 4, 0, 0, []), (2, 5, 0, 0, []), (6, 1, 0, 0, []), (8, 0, 0, 0, []), (40, 274, 2, 0, []), (2, 5, 0, 0, []), (42, 0, 0, 0, [])]
def mzc_38 : List mzI := [(2, 2, 0, 0, []), (0, 0, 0, 1, []), (17, 2, 6, 0, []), (2, 2, 0, 0, []), (0, 0, 0, 20, []), (17, 5, 8, 0, []), (0, 0, 0, (-1), []), (42, 0, 0, 0, []), (25, 2, 1, 0, []), (12, 0, 0, 0, []), (2, 1, 0, 0, []), (40, 212, 2, 0, []), (3, 3, 1, 0, []), (0, 0, 0, 0, []), (3, 4, 0, 0, []), (2, 4, 0, 0, []), (2, 2, 0, 0, []), (17, 3, 23, 0, []), (2, 0, 1, 0, []), (2, 3, 1, 0, []), (40, 66, 2, 0, []), (5, 4, 0, 1, []), (18, 0, 15, 0, []), (2, 0, 1, 0, []), (40, 64, 1, 0, []), (3, 4, 0, 0, []), (2, 0, 1, 0, []), (20, 7, 10, 0, []), (40, 273, 1, 0, []), (2, 0, 1, 0, []), (20, 7, 10, 0, []), (2, 0, 1, 0, []), (20, 4, 10, 0, []), (40, 243, 1, 0, []), (8, 0, 0, 0, []), (40, 274, 2, 0, []), (2, 0, 1, 0, []), (20, 7, 10, 0, []), (2, 0, 1, 0, []), (20, 0, 10, 0, []), (40, 220, 1, 0, []), (8, 0, 0, 0, []), (40, 274, 2, 0, []), (2, 4, 0, 0, []), (42, 0, 0, 0, [])]
def mzc_39 : List mzI := [(2, 0, 1, 0, []), (20, 8, 10, 0, []), (2, 1, 0, 0, []), (40, 227, 2, 0, []), (42, 0, 1, 0, [])]
def mzc_40 : List mzI := [(2, 0, 1, 0, []), (20, 8, 10, 0, []), (2, 1, 0, 0, []), (40, 228, 2, 0, []), (16, 1, 7, 0, []), (0, 0, 0, 0, []), (42, 0, 1, 0, []), (2, 0, 1, 0, []), (40, 51, 1, 0, []), (0, 0, 0, 1, []), (42, 0, 1, 0, [])]
def mzc_41 : List mzI := [(2, 1, 0, 0, []), (0, 0, 0, 5, []), (17, 2, 14, 0, []), (2, 1, 0, 0, []), (0, 0, 0, 14, []), (17, 3, 14, 0, []), (2, 0, 1, 0, []), (20, 0, 10, 0, []), (20, 6, 3, 0, []), (2, 1, 0, 0, []), (0, 0, 0, 5, []), (6, 1, 0, 0, []), (22, 0, 0, 0, []), (42, 0, 0, 0, []), (2, 1, 0, 0, []), (19, 0, 56, 0, [(0, 16), (1, 20), (2, 26), (3, 32), (4, 38), (5, 56), (6, 56), (7, 56), (8, 56), (9, 56), (10, 56), (11, 56), (12, 56), (13, 56), (14, 44), (15, 48), (16, 52)]), (2, 0, 1, 0, []), (20, 0, 10, 0, []), (20, 0, 3, 0, []), (42, 0, 0, 0, []), (2, 0, 1, 0, []), (20, 0, 10, 0, []), (0, 0, 0, 0, []), (0, 0, 0, 2, []), (40, 219, 3, 0, []), (42, 0, 0, 0, []), (2, 0, 1, 0, []), (20, 0, 10, 0, []), (0, 0, 0, 3, []), (0, 0, 0, 3, []), (40, 219, 3, 0, []), (42, 0, 0, 0, []), (2, 0, 1, 0, []), (20, 0, 10, 0, []), (0, 0, 0, 4, []), (0, 0, 0, 4, []), (40, 219, 3, 0, []), (42, 0, 0, 0, []), (2, 0, 1, 0, []), (20, 0, 10, 0, []), (0, 0, 0, 5, []), (0, 0, 0, 5, []), (40, 219, 3, 0, []), (42, 0, 0, 0, []), (2, 0, 1, 0, []), (20, 8, 10, 0, []), (20, 3, 4, 0, []), (42, 0, 0, 0, []), (2, 0, 1, 0, []), (20, 7, 10, 0, []), (20, 1, 8, 0, []), (42, 0, 0, 0, []), (2, 0, 1, 0, []), (20, 1, 10, 0, []), (20, 1, 9, 0, []), (42, 0, 0, 0, []), (0, 0, 0, (-1), []), (42, 0, 0, 0, [])]
def mzc_42 : List mzI := [(2, 1, 0, 0, []), (16, 2, 7, 0, []), (2, 1, 0, 0, []), (2, 0, 1, 0, []), (20, 7, 10, 0, []), (20, 1, 8, 0, []), (17, 2, 12, 0, []), (43, 0, 0, 0, []), (12, 0, 0, 0, []), (44, 0, 0, 0, []), (44, 0, 0, 0, []), (44, 0, 0, 0, []), (2, 0, 1, 0, []), (20, 7, 10, 0, []), (20, 0, 8, 0, []), (2, 1, 0, 0, []), (22, 1, 0, 0, []), (42, 2, 0, 0, [])]
def mzc_43 : List mzI := [(2, 0, 0, 0, []), (16, 2, 7, 0, []), (2, 0, 0, 0, []), (0, 0, 0, 2, []), (17, 3, 7, 0, []), (0, 0, 0, 1, []), (18, 0, 8, 0, []), (0, 0, 0, 0, []), (42, 0, 1, 0, [])]
def mzc_44 : List mzI := [(2, 0, 0, 0, []), (16, 2, 7, 0, []), (2, 0, 0, 0, []), (0, 0, 0, 16, []), (17, 3, 7, 0, []), (0, 0, 0, 1, []), (18, 0, 8, 0, []), (0, 0, 0, 0, []), (42, 0, 1, 0, [])]
def mzc_45 : List mzI := [(2, 0, 0, 0, []), (16, 2, 7, 0, []), (2, 0, 0, 0, []), (0, 0, 0, 40, []), (17, 4, 7, 0, []), (0, 0, 0, 1, []), (18, 0, 8, 0, []), (0, 0, 0, 0, []), (42, 0, 1, 0, [])]
def mzc_46 : List mzI := [(2, 0, 0, 0, []), (0, 0, 0, 1, []), (17, 2, 8, 0, []), (2, 0, 0, 0, []), (0, 0, 0, 60, []), (17, 4, 8, 0, []), (0, 0, 0, 1, []), (18, 0, 9, 0, []), (0, 0, 0, 0, []), (42, 0, 1, 0, [])]
def mzc_47 : List mzI := [(2, 0, 0, 0, []), (0, 0, 0, 1, []), (17, 0, 9, 0, []), (2, 0, 0, 0, []), (0, 0, 0, 2, []), (17, 0, 9, 0, []), (2, 0, 0, 0, []), (0, 0, 0, 4, []), (17, 1, 11, 0, []), (0, 0, 0, 1, []), (18, 0, 12, 0, []), (0, 0, 0, 0, []), (42, 0, 1, 0, [])]
def mzc_48 : List mzI := [(2, 0, 0, 0, []), (19, 0, 44, 0, [(0, 2), (1, 12), (2, 22), (3, 22), (4, 25), (5, 25), (6, 34), (7, 2), (8, 12)]), (2, 1, 0, 0, []), (0, 0, 0, 1, []), (17, 2, 10, 0, []), (2, 1, 0, 0, []), (0, 0, 0, 4, []), (17, 4, 10, 0, []), (0, 0, 0, 1, []), (18, 0, 11, 0, []), (0, 0, 0, 0, []), (42, 0, 1, 0, []), (2, 1, 0, 0, []), (0, 0, 0, 1, []), (17, 2, 20, 0, []), (2, 1, 0, 0, []), (0, 0, 0, 3, []), (17, 4, 20, 0, []), (0, 0, 0, 1, []), (18, 0, 21, 0, []), (0, 0, 0, 0, []), (42, 0, 1, 0, []), (2, 1, 0, 0, []), (40, 47, 1, 0, []), (42, 0, 1, 0, []), (2, 1, 0, 0, []), (16, 0, 30, 0, []), (2, 1, 0, 0, []), (0, 0, 0, 1, []), (17, 1, 32, 0, []), (0, 0, 0, 1, []), (18, 0, 33, 0, []), (0, 0, 0, 0, []), (42, 0, 1, 0, []), (2, 1, 0, 0, []), (0, 0, 0, 1, []), (17, 2, 42, 0, []), (2, 1, 0, 0, []), (0, 0, 0, 10, []), (17, 4, 42, 0, []), (0, 0, 0, 1, []), (18, 0, 43, 0, []), (0, 0, 0, 0, []), (42, 0, 1, 0, []), (0, 0, 0, 0, []), (42, 0, 1, 0, [])]
def mzc_49 : List mzI := [(2, 1, 0, 0, []), (0, 0, 0, 1, []), (17, 3, 5, 0, []), (0, 0, 0, 0, []), (18, 0, 12, 0, []), (2, 0, 0, 0, []), (2, 1, 0, 0, []), (6, 0, 0, 0, []), (0, 0, 0, 1, []), (6, 1, 0, 0, []), (2, 1, 0, 0, []), (6, 9, 0, 0, []), (42, 0, 0, 0, [])]
def mzc_50 : List mzI := [(2, 1, 0, 0, []), (16, 2, 9, 0, []), (2, 1, 0, 0, []), (2, 0, 1, 0, []), (20, 0, 10, 0, []), (20, 0, 3, 0, []), (17, 3, 9, 0, []), (0, 0, 0, 1, []), (18, 0, 10, 0, []), (0, 0, 0, 0, []), (42, 0, 1, 0, [])]
def mzc_51 : List mzI := [(2, 0, 1, 0, []), (20, 3, 10, 0, []), (40, 189, 1, 0, []), (2, 0, 1, 0, []), (20, 4, 10, 0, []), (40, 230, 1, 0, []), (41, 0, 0, 0, [])]
def mzc_52 : List mzI := [(0, 0, 0, 0, []), (3, 5, 0, 0, []), (0, 0, 0, 0, []), (3, 6, 0, 0, []), (2, 6, 0, 0, []), (0, 0, 0, 16, []), (17, 3, 41, 0, []), (2, 6, 0, 0, []), (2, 2, 0, 0, []), (17, 3, 16, 0, []), (2, 3, 0, 0, []), (2, 6, 0, 0, []), (2, 4, 0, 0, []), (6, 2, 0, 0, []), (6, 0, 0, 0, []), (18, 0, 17, 0, []), (0, 0, 0, 0, []), (3, 7, 0, 0, []), (2, 1, 0, 0, []), (16, 1, 24, 0, []), (2, 7, 0, 0, []), (7, 1, 0, 0, []), (3, 7, 0, 0, []), (18, 0, 30, 0, []), (2, 1, 0, 0, []), (0, 0, 0, 1, []), (17, 1, 30, 0, []), (2, 7, 0, 0, []), (7, 2, 0, 0, []), (3, 7, 0, 0, []), (2, 0, 1, 0, []), (20, 0, 10, 0, []), (20, 5, 3, 0, []), (2, 6, 0, 0, []), (2, 7, 0, 0, []), (23, 0, 0, 0, []), (2, 7, 0, 0, []), (16, 0, 39, 0, []), (5, 5, 0, 1, []), (5, 6, 0, 1, []), (18, 0, 4, 0, []), (2, 5, 0, 0, []), (42, 0, 0, 0, [])]
def mzc_53 : List mzI := [(2, 1, 0, 0, []), (2, 2, 0, 0, []), (40, 48, 2, 0, []), (16, 1, 6, 0, []), (0, 0, 0, (-1), []), (42, 0, 0, 0, []), (2, 0, 1, 0, []), (20, 0, 10, 0, []), (20, 6, 3, 0, []), (2, 1, 0, 0, []), (22, 0, 0, 0, []), (3, 3, 0, 0, []), (2, 3, 0, 0, []), (2, 2, 0, 0, []), (17, 1, 17, 0, []), (0, 0, 0, (-2), []), (42, 0, 0, 0, []), (2, 0, 1, 0, []), (2, 1, 0, 0, []), (2, 2, 0, 0, []), (40, 54, 3, 0, []), (2, 3, 0, 0, []), (42, 0, 0, 0, [])]
def mzc_54 : List mzI := [(2, 0, 1, 0, []), (20, 0, 10, 0, []), (20, 6, 3, 0, []), (2, 1, 0, 0, []), (2, 2, 0, 0, []), (23, 0, 0, 0, []), (2, 0, 1, 0, []), (20, 4, 10, 0, []), (40, 230, 1, 0, []), (2, 1, 0, 0, []), (0, 0, 0, 6, []), (17, 2, 15, 0, []), (2, 0, 1, 0, []), (20, 3, 10, 0, []), (40, 189, 1, 0, []), (41, 0, 0, 0, [])]
def mzc_55 : List mzI := [(2, 0, 1, 0, []), (20, 0, 10, 0, []), (20, 6, 3, 0, []), (0, 0, 0, 0, []), (2, 1, 0, 0, []), (23, 0, 0, 0, []), (2, 0, 1, 0, []), (20, 0, 10, 0, []), (20, 6, 3, 0, []), (0, 0, 0, 1, []), (2, 2, 0, 0, []), (23, 0, 0, 0, []), (2, 0, 1, 0, []), (20, 0, 10, 0, []), (20, 6, 3, 0, []), (0, 0, 0, 2, []), (2, 3, 0, 0, []), (23, 0, 0, 0, []), (2, 0, 1, 0, []), (20, 0, 10, 0, []), (20, 6, 3, 0, []), (0, 0, 0, 3, []), (2, 4, 0, 0, []), (23, 0, 0, 0, []), (41, 0, 0, 0, [])]
def mzc_56 : List mzI := [(2, 1, 0, 0, []), (40, 43, 1, 0, []), (16, 0, 6, 0, []), (2, 2, 0, 0, []), (40, 44, 1, 0, []), (16, 1, 8, 0, []), (0, 0, 0, (-1), []), (42, 0, 0, 0, []), (2, 0, 1, 0, []), (20, 0, 10, 0, []), (20, 5, 3, 0, []), (2, 1, 0, 0, []), (0, 0, 0, 16, []), (6, 2, 0, 0, []), (2, 2, 0, 0, []), (6, 0, 0, 0, []), (22, 0, 0, 0, []), (2, 3, 0, 0, []), (17, 1, 21, 0, []), (0, 0, 0, (-2), []), (42, 0, 0, 0, []), (2, 0, 1, 0, []), (20, 0, 10, 0, []), (20, 5, 3, 0, []), (2, 1, 0, 0, []), (0, 0, 0, 16, []), (6, 2, 0, 0, []), (2, 2, 0, 0, []), (6, 0, 0, 0, []), (2, 3, 0, 0, []), (23, 0, 0, 0, []), (0, 0, 0, 1, []), (42, 0, 0, 0, [])]
def mzc_57 : List mzI := [(2, 0, 1, 0, []), (20, 1, 10, 0, []), (0, 0, 0, 0, []), (21, 2, 9, 0, []), (0, 0, 0, 0, []), (3, 1, 0, 0, []), (0, 0, 0, 0, []), (3, 2, 0, 0, []), (2, 2, 0, 0, []), (0, 0, 0, 80, []), (17, 3, 36, 0, []), (2, 0, 1, 0, []), (20, 1, 10, 0, []), (40, 279, 1, 0, []), (16, 1, 36, 0, []), (2, 0, 1, 0, []), (2, 0, 1, 0, []), (20, 1, 10, 0, []), (20, 2, 9, 0, []), (40, 58, 2, 0, []), (16, 3, 23, 0, []), (2, 1, 0, 0, []), (42, 0, 0, 0, []), (5, 1, 0, 1, []), (2, 0, 1, 0, []), (20, 1, 10, 0, []), (12, 0, 0, 0, []), (20, 2, 9, 0, []), (2, 0, 1, 0, []), (20, 1, 10, 0, []), (40, 278, 1, 0, []), (40, 271, 1, 0, []), (6, 0, 0, 0, []), (21, 2, 9, 0, []), (5, 2, 0, 1, []), (18, 0, 8, 0, []), (2, 1, 0, 0, []), (42, 0, 0, 0, [])]
def mzc_58 : List mzI := [(2, 0, 1, 0, []), (20, 1, 10, 0, []), (2, 1, 0, 0, []), (40, 277, 2, 0, []), (39, 0, 52, 0, [(117, 5), (119, 20)]), (2, 0, 1, 0, []), (2, 0, 1, 0, []), (20, 1, 10, 0, []), (2, 1, 0, 0, []), (0, 0, 0, 1, []), (6, 0, 0, 0, []), (40, 283, 2, 0, []), (2, 0, 1, 0, []), (20, 1, 10, 0, []), (2, 1, 0, 0, []), (0, 0, 0, 2, []), (6, 0, 0, 0, []), (40, 283, 2, 0, []), (40, 53, 3, 0, []), (42, 0, 0, 0, []), (2, 0, 1, 0, []), (2, 0, 1, 0, []), (20, 1, 10, 0, []), (2, 1, 0, 0, []), (0, 0, 0, 1, []), (6, 0, 0, 0, []), (40, 277, 2, 0, []), (0, 0, 0, 65, []), (6, 1, 0, 0, []), (2, 0, 1, 0, []), (20, 1, 10, 0, []), (2, 1, 0, 0, []), (0, 0, 0, 2, []), (6, 0, 0, 0, []), (40, 283, 2, 0, []), (0, 0, 0, 10, []), (6, 2, 0, 0, []), (2, 0, 1, 0, []), (20, 1, 10, 0, []), (2, 1, 0, 0, []), (0, 0, 0, 3, []), (6, 0, 0, 0, []), (40, 283, 2, 0, []), (6, 0, 0, 0, []), (2, 0, 1, 0, []), (20, 1, 10, 0, []), (2, 1, 0, 0, []), (0, 0, 0, 4, []), (6, 0, 0, 0, []), (40, 283, 2, 0, []), (40, 56, 4, 0, []), (42, 0, 0, 0, []), (2, 0, 1, 0, []), (20, 5, 10, 0, []), (2, 0, 1, 0, []), (20, 0, 10, 0, []), (20, 5, 3, 0, []), (2, 0, 1, 0, []), (20, 1, 10, 0, []), (2, 1, 0, 0, []), (0, 0, 0, 1, []), (6, 0, 0, 0, []), (40, 283, 2, 0, []), (40, 252, 3, 0, []), (0, 0, 0, 0, []), (42, 0, 0, 0, [])]
def mzc_59 : List mzI := [(2, 0, 1, 0, []), (20, 7, 10, 0, []), (40, 273, 1, 0, []), (0, 0, 0, 0, []), (3, 2, 0, 0, []), (2, 2, 0, 0, []), (2, 0, 1, 0, []), (20, 0, 10, 0, []), (20, 0, 3, 0, []), (17, 3, 23, 0, []), (2, 0, 1, 0, []), (20, 7, 10, 0, []), (2, 0, 1, 0, []), (20, 5, 10, 0, []), (2, 2, 0, 0, []), (2, 1, 0, 0, []), (0, 0, 0, 1, []), (6, 1, 0, 0, []), (40, 251, 3, 0, []), (8, 0, 0, 0, []), (40, 274, 2, 0, []), (5, 2, 0, 1, []), (18, 0, 5, 0, []), (41, 0, 0, 0, [])]
def mzc_60 : List mzI := [(2, 0, 1, 0, []), (20, 7, 10, 0, []), (40, 273, 1, 0, []), (0, 0, 0, 0, []), (3, 1, 0, 0, []), (2, 1, 0, 0, []), (0, 0, 0, 4, []), (17, 3, 19, 0, []), (2, 0, 1, 0, []), (20, 7, 10, 0, []), (2, 0, 1, 0, []), (20, 0, 10, 0, []), (20, 6, 3, 0, []), (2, 1, 0, 0, []), (22, 0, 0, 0, []), (8, 0, 0, 0, []), (40, 274, 2, 0, []), (5, 1, 0, 1, []), (18, 0, 5, 0, []), (41, 0, 0, 0, [])]
def mzc_61 : List mzI := [(2, 0, 1, 0, []), (20, 7, 10, 0, []), (40, 273, 1, 0, []), (0, 0, 0, 0, []), (3, 3, 0, 0, []), (2, 3, 0, 0, []), (2, 0, 1, 0, []), (20, 0, 10, 0, []), (20, 0, 3, 0, []), (17, 3, 21, 0, []), (2, 0, 1, 0, []), (20, 7, 10, 0, []), (2, 1, 1, 0, []), (2, 2, 0, 0, []), (2, 3, 0, 0, []), (6, 0, 0, 0, []), (22, 0, 0, 0, []), (8, 0, 0, 0, []), (40, 274, 2, 0, []), (5, 3, 0, 1, []), (18, 0, 5, 0, []), (41, 0, 0, 0, [])]
def mzc_62 : List mzI := [(2, 0, 1, 0, []), (20, 7, 10, 0, []), (40, 273, 1, 0, []), (0, 0, 0, 0, []), (3, 1, 0, 0, []), (2, 1, 0, 0, []), (2, 0, 1, 0, []), (20, 0, 10, 0, []), (20, 0, 3, 0, []), (17, 3, 20, 0, []), (2, 0, 1, 0, []), (20, 7, 10, 0, []), (2, 0, 1, 0, []), (20, 4, 10, 0, []), (2, 1, 0, 0, []), (40, 239, 2, 0, []), (8, 0, 0, 0, []), (40, 274, 2, 0, []), (5, 1, 0, 1, []), (18, 0, 5, 0, []), (41, 0, 0, 0, [])]
def mzc_63 : List mzI := [(2, 1, 0, 0, []), (16, 1, 4, 0, []), (0, 0, 0, 0, []), (18, 0, 15, 0, []), (2, 1, 0, 0, []), (0, 0, 0, 1, []), (6, 1, 0, 0, []), (2, 0, 1, 0, []), (20, 4, 10, 0, []), (20, 3, 5, 0, []), (6, 2, 0, 0, []), (2, 0, 1, 0, []), (20, 4, 10, 0, []), (40, 243, 1, 0, []), (6, 0, 0, 0, []), (42, 0, 0, 0, [])]
def mzc_64 : List mzI := [(2, 0, 1, 0, []), (20, 3, 10, 0, []), (40, 190, 1, 0, []), (2, 0, 1, 0, []), (20, 4, 10, 0, []), (20, 2, 5, 0, []), (16, 0, 20, 0, []), (2, 0, 1, 0, []), (20, 4, 10, 0, []), (0, 0, 0, 0, []), (2, 0, 1, 0, []), (20, 4, 10, 0, []), (0, 0, 0, 60, []), (40, 231, 2, 0, []), (40, 288, 2, 0, []), (21, 3, 5, 0, []), (2, 0, 1, 0, []), (20, 4, 10, 0, []), (0, 0, 0, 0, []), (21, 2, 5, 1, []), (2, 0, 1, 0, []), (20, 4, 10, 0, []), (20, 3, 5, 0, []), (42, 0, 0, 0, [])]
def mzc_65 : List mzI := [(0, 0, 0, 1, []), (3, 3, 0, 0, []), (2, 3, 0, 0, []), (0, 0, 0, 4, []), (17, 4, 51, 0, []), (0, 0, 0, 1, []), (3, 4, 0, 0, []), (2, 4, 0, 0, []), (0, 0, 0, 3, []), (17, 4, 49, 0, []), (0, 0, 0, 1, []), (3, 5, 0, 0, []), (2, 5, 0, 0, []), (0, 0, 0, 4, []), (17, 4, 47, 0, []), (2, 1, 0, 0, []), (2, 3, 0, 0, []), (6, 1, 0, 0, []), (0, 0, 0, 3, []), (2, 4, 0, 0, []), (6, 2, 0, 0, []), (6, 1, 0, 0, []), (2, 5, 0, 0, []), (6, 1, 0, 0, []), (3, 6, 0, 0, []), (2, 6, 0, 0, []), (40, 47, 1, 0, []), (16, 0, 42, 0, []), (2, 0, 1, 0, []), (2, 3, 0, 0, []), (2, 4, 0, 0, []), (2, 5, 0, 0, []), (2, 6, 0, 0, []), (40, 55, 5, 0, []), (2, 0, 1, 0, []), (20, 4, 10, 0, []), (2, 2, 0, 0, []), (40, 231, 2, 0, []), (0, 0, 0, (-1), []), (17, 0, 42, 0, []), (0, 0, 0, 1, []), (42, 0, 1, 0, []), (2, 5, 0, 0, []), (0, 0, 0, 2, []), (6, 2, 0, 0, []), (3, 5, 0, 0, []), (18, 0, 12, 0, []), (5, 4, 0, 1, []), (18, 0, 7, 0, []), (5, 3, 0, 1, []), (18, 0, 2, 0, []), (0, 0, 0, 0, []), (42, 0, 1, 0, [])]
def mzc_66 : List mzI := [(2, 1, 1, 0, []), (0, 0, 0, 6, []), (40, 213, 2, 0, []), (3, 2, 0, 0, []), (2, 2, 0, 0, []), (19, 0, 42, 0, [(0, 6), (1, 15), (2, 24), (3, 24), (4, 33)]), (2, 0, 1, 0, []), (0, 0, 0, 0, []), (2, 1, 1, 0, []), (0, 0, 0, 4, []), (40, 213, 2, 0, []), (0, 0, 0, 1, []), (6, 0, 0, 0, []), (40, 54, 3, 0, []), (18, 0, 50, 0, []), (2, 0, 1, 0, []), (0, 0, 0, 1, []), (2, 1, 1, 0, []), (0, 0, 0, 3, []), (40, 213, 2, 0, []), (0, 0, 0, 1, []), (6, 0, 0, 0, []), (40, 54, 3, 0, []), (18, 0, 50, 0, []), (2, 0, 1, 0, []), (2, 2, 0, 0, []), (0, 0, 0, 1, []), (2, 1, 1, 0, []), (0, 0, 0, 3, []), (40, 213, 2, 0, []), (6, 6, 0, 0, []), (40, 54, 3, 0, []), (18, 0, 50, 0, []), (2, 0, 1, 0, []), (0, 0, 0, 6, []), (2, 1, 1, 0, []), (0, 0, 0, 10, []), (40, 213, 2, 0, []), (0, 0, 0, 1, []), (6, 0, 0, 0, []), (40, 54, 3, 0, []), (18, 0, 50, 0, []), (2, 0, 1, 0, []), (0, 0, 0, 7, []), (2, 1, 1, 0, []), (0, 0, 0, 4, []), (40, 213, 2, 0, []), (0, 0, 0, 1, []), (6, 0, 0, 0, []), (40, 54, 3, 0, []), (41, 0, 0, 0, [])]
def mzc_67 : List mzI := [(2, 0, 1, 0, []), (29, 0, 0, 0, []), (2, 0, 1, 0, []), (0, 0, 0, 82, []), (26, 0, 0, 0, []), (21, 0, 11, 2, []), (2, 0, 1, 0, []), (0, 0, 0, 80, []), (26, 2, 0, 0, []), (21, 1, 11, 2, []), (2, 0, 1, 0, []), (0, 0, 0, 16, []), (26, 1, 0, 0, []), (21, 3, 11, 2, []), (2, 0, 1, 0, []), (0, 0, 0, 44, []), (26, 0, 0, 0, []), (21, 9, 11, 2, []), (2, 0, 1, 0, []), (0, 0, 0, 16, []), (26, 0, 0, 0, []), (21, 11, 11, 2, []), (2, 0, 1, 0, []), (0, 0, 0, 738, []), (26, 0, 0, 0, []), (21, 12, 11, 2, []), (2, 0, 1, 0, []), (0, 0, 0, 82, []), (26, 0, 0, 0, []), (21, 14, 11, 2, []), (2, 0, 1, 0, []), (0, 0, 0, 400, []), (26, 0, 0, 0, []), (21, 15, 11, 2, []), (2, 0, 1, 0, []), (0, 0, 0, 320, []), (26, 0, 0, 0, []), (21, 16, 11, 2, []), (2, 0, 1, 0, []), (0, 0, 0, 10, []), (26, 0, 0, 0, []), (21, 17, 11, 2, []), (2, 0, 1, 0, []), (0, 0, 0, 10, []), (26, 0, 0, 0, []), (21, 18, 11, 2, []), (2, 0, 1, 0, []), (0, 0, 0, 10, []), (26, 0, 0, 0, []), (21, 19, 11, 2, []), (2, 0, 1, 0, []), (0, 0, 0, 10, []), (26, 0, 0, 0, []), (21, 21, 11, 2, []), (2, 0, 1, 0, []), (0, 0, 0, 10, []), (26, 0, 0, 0, []), (21, 22, 11, 2, []), (2, 0, 1, 0, []), (0, 0, 0, 10, []), (26, 0, 0, 0, []), (21, 23, 11, 2, []), (2, 0, 1, 0, []), (0, 0, 0, 82, []), (26, 0, 0, 0, []), (21, 26, 11, 2, []), (2, 0, 1, 0, []), (0, 0, 0, 10, []), (26, 0, 0, 0, []), (21, 27, 11, 2, []), (2, 0, 1, 0, []), (0, 0, 0, 10, []), (26, 0, 0, 0, []), (21, 28, 11, 2, []), (2, 0, 1, 0, []), (0, 0, 0, 164, []), (26, 0, 0, 0, []), (21, 30, 11, 2, []), (2, 0, 1, 0, []), (0, 0, 0, 2, []), (26, 3, 0, 0, []), (21, 31, 11, 2, []), (0, 0, 0, 0, []), (3, 1, 0, 0, []), (2, 1, 0, 0, []), (0, 0, 0, 9, []), (17, 3, 98, 0, []), (2, 0, 1, 0, []), (20, 0, 11, 0, []), (0, 0, 0, 73, []), (2, 1, 0, 0, []), (6, 0, 0, 0, []), (28, 1, 0, 0, []), (2, 1, 0, 0, []), (22, 0, 0, 0, []), (23, 0, 0, 0, []), (5, 1, 0, 1, []), (18, 0, 84, 0, []), (41, 0, 0, 0, [])]
def mzc_68 : List mzI := [(2, 0, 0, 0, []), (2, 1, 0, 0, []), (17, 2, 8, 0, []), (2, 0, 0, 0, []), (2, 2, 0, 0, []), (17, 4, 8, 0, []), (0, 0, 0, 1, []), (18, 0, 9, 0, []), (0, 0, 0, 0, []), (42, 0, 1, 0, [])]
def mzc_69 : List mzI := [(2, 0, 1, 0, []), (0, 0, 0, 1, []), (21, 5, 11, 0, []), (0, 0, 0, 0, []), (42, 0, 0, 0, [])]
def mzc_70 : List mzI := [(2, 0, 1, 0, []), (20, 3, 11, 0, []), (2, 0, 1, 0, []), (20, 4, 11, 0, []), (2, 1, 2, 0, []), (23, 1, 0, 0, []), (2, 0, 1, 0, []), (12, 0, 0, 0, []), (20, 4, 11, 0, []), (0, 0, 0, 1, []), (6, 0, 0, 0, []), (21, 4, 11, 0, []), (41, 0, 0, 0, [])]
def mzc_71 : List mzI := [(2, 0, 1, 0, []), (0, 0, 0, 0, []), (21, 4, 11, 0, []), (0, 0, 0, 0, []), (3, 2, 0, 0, []), (2, 2, 0, 0, []), (2, 0, 1, 0, []), (20, 0, 11, 0, []), (0, 0, 0, 0, []), (22, 0, 0, 0, []), (17, 3, 19, 0, []), (2, 0, 1, 0, []), (2, 1, 1, 0, []), (2, 2, 0, 0, []), (22, 0, 0, 0, []), (8, 0, 0, 0, []), (40, 70, 2, 0, []), (5, 2, 0, 1, []), (18, 0, 5, 0, []), (41, 0, 0, 0, [])]
def mzc_72 : List mzI := [(2, 1, 0, 0, []), (0, 0, 0, 0, []), (2, 0, 1, 0, []), (20, 0, 11, 0, []), (0, 0, 0, 0, []), (22, 0, 0, 0, []), (0, 0, 0, 1, []), (6, 1, 0, 0, []), (40, 68, 3, 0, []), (42, 0, 1, 0, [])]
def mzc_73 : List mzI := [(2, 0, 1, 0, []), (20, 0, 11, 0, []), (0, 0, 0, 1, []), (0, 0, 0, 4, []), (2, 1, 0, 0, []), (6, 2, 0, 0, []), (6, 0, 0, 0, []), (22, 0, 0, 0, []), (42, 0, 0, 0, [])]
def mzc_74 : List mzI := [(2, 0, 1, 0, []), (20, 0, 11, 0, []), (0, 0, 0, 1, []), (0, 0, 0, 4, []), (2, 1, 0, 0, []), (6, 2, 0, 0, []), (6, 0, 0, 0, []), (0, 0, 0, 1, []), (6, 0, 0, 0, []), (22, 0, 0, 0, []), (42, 0, 0, 0, [])]
def mzc_75 : List mzI := [(2, 0, 1, 0, []), (20, 0, 11, 0, []), (0, 0, 0, 1, []), (0, 0, 0, 4, []), (2, 1, 0, 0, []), (6, 2, 0, 0, []), (6, 0, 0, 0, []), (0, 0, 0, 2, []), (6, 0, 0, 0, []), (2, 2, 0, 0, []), (6, 0, 0, 0, []), (22, 0, 0, 0, []), (42, 0, 0, 0, [])]
def mzc_76 : List mzI := [(2, 0, 0, 0, []), (0, 0, 0, 11, []), (17, 2, 5, 0, []), (0, 0, 0, 1, []), (18, 0, 6, 0, []), (0, 0, 0, 0, []), (42, 0, 1, 0, [])]
def mzc_77 : List mzI := [(2, 0, 0, 0, []), (0, 0, 0, 11, []), (6, 1, 0, 0, []), (0, 0, 0, 30, []), (6, 10, 0, 0, []), (42, 0, 0, 0, [])]
def mzc_78 : List mzI := [(2, 0, 0, 0, []), (0, 0, 0, 11, []), (6, 1, 0, 0, []), (0, 0, 0, 30, []), (6, 9, 0, 0, []), (42, 0, 0, 0, [])]
def mzc_79 : List mzI := [(2, 0, 1, 0, []), (2, 1, 0, 0, []), (40, 73, 2, 0, []), (0, 0, 0, 2, []), (17, 4, 7, 0, []), (0, 0, 0, 1, []), (18, 0, 8, 0, []), (0, 0, 0, 0, []), (42, 0, 1, 0, [])]
def mzc_80 : List mzI := [(2, 0, 0, 0, []), (2, 1, 0, 0, []), (6, 10, 0, 0, []), (3, 2, 0, 0, []), (2, 0, 0, 0, []), (2, 2, 0, 0, []), (16, 3, 11, 0, []), (2, 2, 0, 0, []), (2, 1, 0, 0, []), (6, 0, 0, 0, []), (18, 0, 12, 0, []), (2, 2, 0, 0, []), (6, 1, 0, 0, []), (2, 1, 0, 0, []), (6, 9, 0, 0, []), (42, 0, 0, 0, [])]
def mzc_81 : List mzI := [(2, 0, 0, 0, []), (2, 1, 0, 0, []), (2, 0, 0, 0, []), (2, 1, 0, 0, []), (40, 80, 2, 0, []), (6, 2, 0, 0, []), (6, 1, 0, 0, []), (42, 0, 0, 0, [])]
def mzc_82 : List mzI := [(2, 0, 0, 0, []), (2, 1, 0, 0, []), (6, 0, 0, 0, []), (0, 0, 0, 1, []), (6, 1, 0, 0, []), (2, 1, 0, 0, []), (6, 9, 0, 0, []), (42, 0, 0, 0, [])]
def mzc_83 : List mzI := [(2, 0, 1, 0, []), (0, 0, 0, 0, []), (21, 5, 11, 0, []), (2, 0, 1, 0, []), (20, 2, 11, 0, []), (0, 0, 0, 4, []), (6, 0, 0, 0, []), (0, 0, 0, 80, []), (17, 5, 11, 0, []), (0, 0, 0, (-1), []), (42, 0, 0, 0, []), (0, 0, 0, 3, []), (3, 2, 0, 0, []), (2, 2, 0, 0, []), (16, 2, 33, 0, []), (2, 0, 1, 0, []), (20, 1, 11, 0, []), (2, 0, 1, 0, []), (12, 0, 0, 0, []), (20, 2, 11, 0, []), (15, 0, 0, 0, []), (0, 0, 0, 1, []), (6, 0, 0, 0, []), (21, 2, 11, 0, []), (2, 1, 0, 0, []), (0, 0, 0, 8, []), (2, 2, 0, 0, []), (6, 2, 0, 0, []), (6, 7, 0, 0, []), (7, 1, 0, 0, []), (23, 2, 0, 0, []), (5, 2, 0, (-1), []), (18, 0, 13, 0, []), (2, 0, 1, 0, []), (20, 2, 11, 0, []), (42, 0, 0, 0, [])]
def mzc_84 : List mzI := [(2, 0, 1, 0, []), (0, 0, 0, 0, []), (21, 5, 11, 0, []), (2, 1, 0, 0, []), (0, 0, 0, 0, []), (2, 0, 1, 0, []), (20, 2, 11, 0, []), (40, 68, 3, 0, []), (16, 1, 11, 0, []), (0, 0, 0, 0, []), (42, 0, 1, 0, []), (2, 0, 1, 0, []), (2, 1, 0, 0, []), (21, 2, 11, 0, []), (0, 0, 0, 1, []), (42, 0, 1, 0, [])]
def mzc_85 : List mzI := [(2, 0, 1, 0, []), (2, 0, 1, 0, []), (20, 2, 11, 0, []), (21, 6, 11, 0, []), (2, 0, 1, 0, []), (0, 0, 0, 0, []), (21, 7, 11, 0, []), (2, 0, 1, 0, []), (0, 0, 0, (-1), []), (21, 8, 11, 0, []), (2, 0, 1, 0, []), (0, 0, 0, 0, []), (21, 2, 11, 0, []), (41, 0, 0, 0, [])]
def mzc_86 : List mzI := [(2, 0, 1, 0, []), (20, 7, 11, 0, []), (2, 0, 1, 0, []), (20, 6, 11, 0, []), (17, 3, 13, 0, []), (2, 0, 1, 0, []), (20, 1, 11, 0, []), (2, 0, 1, 0, []), (20, 7, 11, 0, []), (22, 2, 0, 0, []), (0, 0, 0, 255, []), (6, 3, 0, 0, []), (18, 0, 14, 0, []), (0, 0, 0, (-1), []), (42, 0, 0, 0, [])]
def mzc_87 : List mzI := [(2, 0, 1, 0, []), (20, 8, 11, 0, []), (0, 0, 0, (-1), []), (17, 1, 6, 0, []), (0, 0, 0, 1, []), (18, 0, 7, 0, []), (0, 0, 0, 0, []), (42, 0, 1, 0, [])]
def mzc_88 : List mzI := [(2, 0, 1, 0, []), (40, 87, 1, 0, []), (16, 0, 6, 0, []), (2, 0, 1, 0, []), (2, 1, 0, 0, []), (21, 8, 11, 0, []), (41, 0, 0, 0, [])]
def mzc_89 : List mzI := [(2, 0, 1, 0, []), (40, 87, 1, 0, []), (16, 0, 7, 0, []), (2, 0, 1, 0, []), (40, 86, 1, 0, []), (2, 1, 0, 0, []), (17, 0, 9, 0, []), (0, 0, 0, 0, []), (42, 0, 1, 0, []), (2, 0, 1, 0, []), (12, 0, 0, 0, []), (20, 7, 11, 0, []), (0, 0, 0, 1, []), (6, 0, 0, 0, []), (21, 7, 11, 0, []), (0, 0, 0, 1, []), (42, 0, 1, 0, [])]
def mzc_90 : List mzI := [(2, 0, 1, 0, []), (2, 1, 0, 0, []), (40, 89, 2, 0, []), (16, 1, 8, 0, []), (2, 0, 1, 0, []), (2, 0, 1, 0, []), (20, 7, 11, 0, []), (40, 88, 2, 0, []), (41, 0, 0, 0, [])]
def mzc_91 : List mzI := [(2, 0, 1, 0, []), (40, 87, 1, 0, []), (16, 1, 5, 0, []), (0, 0, 0, 0, []), (42, 0, 0, 0, []), (2, 0, 1, 0, []), (40, 86, 1, 0, []), (2, 1, 0, 0, []), (2, 1, 0, 0, []), (2, 2, 0, 0, []), (6, 0, 0, 0, []), (0, 0, 0, 1, []), (6, 1, 0, 0, []), (40, 68, 3, 0, []), (16, 1, 21, 0, []), (2, 0, 1, 0, []), (2, 0, 1, 0, []), (20, 7, 11, 0, []), (40, 88, 2, 0, []), (0, 0, 0, 0, []), (42, 0, 0, 0, []), (2, 0, 1, 0, []), (12, 0, 0, 0, []), (20, 7, 11, 0, []), (0, 0, 0, 1, []), (6, 0, 0, 0, []), (21, 7, 11, 0, []), (2, 0, 1, 0, []), (20, 1, 11, 0, []), (2, 0, 1, 0, []), (20, 7, 11, 0, []), (0, 0, 0, 1, []), (6, 1, 0, 0, []), (22, 2, 0, 0, []), (2, 1, 0, 0, []), (6, 1, 0, 0, []), (42, 0, 0, 0, [])]
def mzc_92 : List mzI := [(2, 0, 1, 0, []), (0, 0, 0, 48, []), (0, 0, 0, 10, []), (40, 91, 3, 0, []), (3, 1, 0, 0, []), (0, 0, 0, 10, []), (2, 1, 0, 0, []), (6, 2, 0, 0, []), (2, 0, 1, 0, []), (0, 0, 0, 48, []), (0, 0, 0, 10, []), (40, 91, 3, 0, []), (6, 0, 0, 0, []), (42, 0, 0, 0, [])]
def mzc_93 : List mzI := [(2, 0, 1, 0, []), (20, 7, 11, 0, []), (2, 0, 1, 0, []), (20, 6, 11, 0, []), (17, 3, 9, 0, []), (2, 0, 1, 0, []), (2, 0, 1, 0, []), (20, 7, 11, 0, []), (40, 88, 2, 0, []), (2, 0, 1, 0, []), (40, 87, 1, 0, []), (42, 0, 1, 0, [])]
def mzc_94 : List mzI := [(2, 0, 1, 0, []), (40, 87, 1, 0, []), (16, 1, 5, 0, []), (0, 0, 0, 0, []), (42, 0, 0, 0, []), (2, 0, 1, 0, []), (40, 86, 1, 0, []), (0, 0, 0, 48, []), (0, 0, 0, 57, []), (40, 68, 3, 0, []), (16, 0, 16, 0, []), (2, 0, 1, 0, []), (0, 0, 0, 48, []), (0, 0, 0, 10, []), (40, 91, 3, 0, []), (42, 0, 0, 0, []), (2, 0, 1, 0, []), (0, 0, 0, 110, []), (40, 89, 2, 0, []), (16, 0, 22, 0, []), (0, 0, 0, 10, []), (42, 0, 0, 0, []), (2, 0, 1, 0, []), (20, 7, 11, 0, []), (3, 2, 0, 0, []), (2, 0, 1, 0, []), (0, 0, 0, 97, []), (0, 0, 0, 10, []), (40, 91, 3, 0, []), (3, 3, 0, 0, []), (2, 0, 1, 0, []), (0, 0, 0, 39, []), (40, 89, 2, 0, []), (16, 0, 36, 0, []), (0, 0, 0, 1, []), (18, 0, 37, 0, []), (0, 0, 0, 0, []), (3, 4, 0, 0, []), (2, 4, 0, 0, []), (0, 0, 0, 1, []), (17, 1, 47, 0, []), (2, 0, 1, 0, []), (0, 0, 0, 39, []), (40, 89, 2, 0, []), (16, 0, 47, 0, []), (0, 0, 0, 2, []), (3, 4, 0, 0, []), (2, 4, 0, 0, []), (16, 1, 55, 0, []), (2, 3, 0, 0, []), (2, 1, 0, 0, []), (17, 2, 55, 0, []), (2, 0, 1, 0, []), (2, 2, 0, 0, []), (40, 88, 2, 0, []), (2, 4, 0, 0, []), (16, 5, 63, 0, []), (2, 0, 1, 0, []), (2, 0, 1, 0, []), (20, 10, 11, 0, []), (2, 3, 0, 0, []), (40, 288, 2, 0, []), (21, 10, 11, 0, []), (0, 0, 0, 11, []), (2, 3, 0, 0, []), (6, 0, 0, 0, []), (0, 0, 0, 30, []), (2, 4, 0, 0, []), (6, 2, 0, 0, []), (6, 0, 0, 0, []), (42, 0, 0, 0, [])]
def mzc_95 : List mzI := [(0, 0, 0, 4, []), (2, 1, 0, 0, []), (6, 2, 0, 0, []), (3, 2, 0, 0, []), (2, 0, 1, 0, []), (20, 9, 11, 0, []), (2, 2, 0, 0, []), (0, 0, 0, 1, []), (6, 0, 0, 0, []), (0, 0, 0, (-1), []), (23, 0, 0, 0, []), (2, 0, 1, 0, []), (20, 9, 11, 0, []), (2, 2, 0, 0, []), (0, 0, 0, 3, []), (6, 0, 0, 0, []), (0, 0, 0, (-1), []), (23, 0, 0, 0, []), (2, 0, 1, 0, []), (40, 86, 1, 0, []), (0, 0, 0, 65, []), (17, 0, 26, 0, []), (2, 0, 1, 0, []), (40, 86, 1, 0, []), (0, 0, 0, 66, []), (17, 1, 84, 0, []), (2, 0, 1, 0, []), (20, 9, 11, 0, []), (2, 2, 0, 0, []), (0, 0, 0, 1, []), (6, 0, 0, 0, []), (2, 0, 1, 0, []), (40, 86, 1, 0, []), (0, 0, 0, 65, []), (6, 1, 0, 0, []), (23, 0, 0, 0, []), (2, 0, 1, 0, []), (12, 0, 0, 0, []), (20, 7, 11, 0, []), (0, 0, 0, 1, []), (6, 0, 0, 0, []), (21, 7, 11, 0, []), (2, 0, 1, 0, []), (0, 0, 0, 91, []), (40, 90, 2, 0, []), (2, 0, 1, 0, []), (20, 9, 11, 0, []), (2, 2, 0, 0, []), (0, 0, 0, 2, []), (6, 0, 0, 0, []), (2, 0, 1, 0, []), (2, 1, 0, 0, []), (40, 94, 2, 0, []), (23, 0, 0, 0, []), (2, 0, 1, 0, []), (0, 0, 0, 93, []), (40, 90, 2, 0, []), (2, 0, 1, 0, []), (20, 9, 11, 0, []), (2, 2, 0, 0, []), (2, 0, 1, 0, []), (0, 0, 0, 61, []), (40, 89, 2, 0, []), (16, 0, 66, 0, []), (0, 0, 0, 5, []), (18, 0, 67, 0, []), (0, 0, 0, 4, []), (23, 0, 0, 0, []), (2, 0, 1, 0, []), (20, 9, 11, 0, []), (2, 2, 0, 0, []), (22, 0, 0, 0, []), (0, 0, 0, 5, []), (17, 1, 83, 0, []), (2, 0, 1, 0, []), (20, 9, 11, 0, []), (2, 2, 0, 0, []), (0, 0, 0, 3, []), (6, 0, 0, 0, []), (2, 0, 1, 0, []), (2, 1, 0, 0, []), (40, 94, 2, 0, []), (23, 0, 0, 0, []), (41, 0, 0, 0, []), (2, 0, 1, 0, []), (20, 9, 11, 0, []), (2, 2, 0, 0, []), (0, 0, 0, 2, []), (6, 0, 0, 0, []), (2, 0, 1, 0, []), (2, 1, 0, 0, []), (40, 94, 2, 0, []), (23, 0, 0, 0, []), (2, 0, 1, 0, []), (20, 9, 11, 0, []), (2, 2, 0, 0, []), (2, 0, 1, 0, []), (0, 0, 0, 43, []), (40, 89, 2, 0, []), (16, 0, 102, 0, []), (0, 0, 0, 0, []), (18, 0, 115, 0, []), (2, 0, 1, 0, []), (0, 0, 0, 45, []), (40, 89, 2, 0, []), (16, 0, 108, 0, []), (0, 0, 0, 1, []), (18, 0, 115, 0, []), (2, 0, 1, 0, []), (0, 0, 0, 60, []), (40, 89, 2, 0, []), (16, 0, 114, 0, []), (0, 0, 0, 2, []), (18, 0, 115, 0, []), (0, 0, 0, 3, []), (23, 0, 0, 0, []), (2, 0, 1, 0, []), (20, 9, 11, 0, []), (2, 2, 0, 0, []), (22, 0, 0, 0, []), (0, 0, 0, 3, []), (17, 1, 125, 0, []), (2, 0, 1, 0, []), (0, 0, 0, 42, []), (40, 90, 2, 0, []), (2, 0, 1, 0, []), (20, 9, 11, 0, []), (2, 2, 0, 0, []), (0, 0, 0, 3, []), (6, 0, 0, 0, []), (2, 0, 1, 0, []), (2, 1, 0, 0, []), (40, 94, 2, 0, []), (23, 0, 0, 0, []), (41, 0, 0, 0, [])]
def mzc_96 : List mzI := [(2, 0, 1, 0, []), (0, 0, 0, 0, []), (21, 5, 11, 0, []), (2, 0, 1, 0, []), (40, 85, 1, 0, []), (2, 0, 1, 0, []), (0, 0, 0, (-1), []), (21, 10, 11, 0, []), (0, 0, 0, 0, []), (3, 1, 0, 0, []), (2, 0, 1, 0, []), (20, 6, 11, 0, []), (16, 5, 15, 0, []), (0, 0, 0, 1, []), (18, 0, 16, 0, []), (0, 0, 0, 0, []), (3, 2, 0, 0, []), (2, 2, 0, 0, []), (16, 0, 54, 0, []), (2, 0, 1, 0, []), (40, 87, 1, 0, []), (16, 0, 54, 0, []), (2, 0, 1, 0, []), (2, 1, 0, 0, []), (40, 95, 2, 0, []), (5, 1, 0, 1, []), (2, 0, 1, 0, []), (40, 87, 1, 0, []), (16, 0, 35, 0, []), (2, 0, 1, 0, []), (40, 86, 1, 0, []), (0, 0, 0, 59, []), (17, 1, 35, 0, []), (0, 0, 0, 1, []), (18, 0, 36, 0, []), (0, 0, 0, 0, []), (3, 2, 0, 0, []), (2, 2, 0, 0, []), (16, 1, 40, 0, []), (18, 0, 17, 0, []), (2, 1, 0, 0, []), (0, 0, 0, 10, []), (17, 1, 47, 0, []), (2, 0, 1, 0, []), (2, 0, 1, 0, []), (20, 7, 11, 0, []), (40, 88, 2, 0, []), (2, 0, 1, 0, []), (12, 0, 0, 0, []), (20, 7, 11, 0, []), (0, 0, 0, 1, []), (6, 0, 0, 0, []), (21, 7, 11, 0, []), (18, 0, 17, 0, []), (2, 0, 1, 0, []), (40, 93, 1, 0, []), (16, 1, 62, 0, []), (0, 0, 0, (-1), []), (2, 0, 1, 0, []), (20, 8, 11, 0, []), (6, 1, 0, 0, []), (42, 0, 0, 0, []), (2, 0, 1, 0, []), (20, 10, 11, 0, []), (2, 1, 0, 0, []), (17, 2, 68, 0, []), (0, 0, 0, (-200), []), (42, 0, 0, 0, []), (2, 0, 1, 0, []), (40, 103, 1, 0, []), (2, 0, 1, 0, []), (20, 0, 11, 0, []), (0, 0, 0, 0, []), (2, 1, 0, 0, []), (23, 0, 0, 0, []), (0, 0, 0, 0, []), (3, 3, 0, 0, []), (2, 3, 0, 0, []), (0, 0, 0, 40, []), (17, 3, 99, 0, []), (2, 0, 1, 0, []), (20, 0, 11, 0, []), (0, 0, 0, 1, []), (2, 3, 0, 0, []), (6, 0, 0, 0, []), (2, 3, 0, 0, []), (0, 0, 0, 4, []), (2, 1, 0, 0, []), (6, 2, 0, 0, []), (17, 3, 95, 0, []), (2, 0, 1, 0, []), (20, 9, 11, 0, []), (2, 3, 0, 0, []), (22, 0, 0, 0, []), (18, 0, 96, 0, []), (0, 0, 0, 0, []), (23, 0, 0, 0, []), (5, 3, 0, 1, []), (18, 0, 77, 0, []), (2, 1, 0, 0, []), (42, 0, 0, 0, [])]
def mzc_97 : List mzI := [(2, 0, 1, 0, []), (0, 0, 0, 45, []), (40, 89, 2, 0, []), (3, 1, 0, 0, []), (2, 0, 1, 0, []), (0, 0, 0, 48, []), (0, 0, 0, 10, []), (40, 91, 3, 0, []), (3, 2, 0, 0, []), (0, 0, 0, 1, []), (3, 3, 0, 0, []), (2, 3, 0, 0, []), (0, 0, 0, 3, []), (17, 3, 34, 0, []), (2, 0, 1, 0, []), (40, 87, 1, 0, []), (16, 0, 34, 0, []), (2, 0, 1, 0, []), (40, 86, 1, 0, []), (0, 0, 0, 48, []), (0, 0, 0, 57, []), (40, 68, 3, 0, []), (16, 0, 34, 0, []), (0, 0, 0, 10, []), (2, 2, 0, 0, []), (6, 2, 0, 0, []), (2, 0, 1, 0, []), (0, 0, 0, 48, []), (0, 0, 0, 10, []), (40, 91, 3, 0, []), (6, 0, 0, 0, []), (3, 2, 0, 0, []), (5, 3, 0, 1, []), (18, 0, 11, 0, []), (2, 1, 0, 0, []), (16, 0, 39, 0, []), (2, 2, 0, 0, []), (7, 0, 0, 0, []), (18, 0, 40, 0, []), (2, 2, 0, 0, []), (42, 0, 0, 0, [])]
def mzc_98 : List mzI := [(2, 0, 0, 0, []), (0, 0, 0, 0, []), (0, 0, 0, 1, []), (40, 68, 3, 0, []), (42, 0, 1, 0, [])]
def mzc_99 : List mzI := [(2, 0, 1, 0, []), (0, 0, 0, 0, []), (21, 5, 11, 0, []), (2, 0, 1, 0, []), (40, 85, 1, 0, []), (0, 0, 0, 0, []), (3, 2, 0, 0, []), (2, 0, 1, 0, []), (20, 6, 11, 0, []), (16, 5, 12, 0, []), (0, 0, 0, 1, []), (18, 0, 13, 0, []), (0, 0, 0, 0, []), (3, 3, 0, 0, []), (2, 3, 0, 0, []), (16, 0, 54, 0, []), (2, 0, 1, 0, []), (40, 87, 1, 0, []), (16, 0, 54, 0, []), (2, 0, 1, 0, []), (20, 11, 11, 0, []), (2, 2, 0, 0, []), (2, 0, 1, 0, []), (40, 97, 1, 0, []), (23, 0, 0, 0, []), (5, 2, 0, 1, []), (2, 0, 1, 0, []), (40, 87, 1, 0, []), (16, 0, 35, 0, []), (2, 0, 1, 0, []), (40, 86, 1, 0, []), (0, 0, 0, 44, []), (17, 1, 35, 0, []), (0, 0, 0, 1, []), (18, 0, 36, 0, []), (0, 0, 0, 0, []), (3, 3, 0, 0, []), (2, 3, 0, 0, []), (16, 1, 40, 0, []), (18, 0, 14, 0, []), (2, 2, 0, 0, []), (0, 0, 0, 16, []), (17, 1, 47, 0, []), (2, 0, 1, 0, []), (2, 0, 1, 0, []), (20, 7, 11, 0, []), (40, 88, 2, 0, []), (2, 0, 1, 0, []), (12, 0, 0, 0, []), (20, 7, 11, 0, []), (0, 0, 0, 1, []), (6, 0, 0, 0, []), (21, 7, 11, 0, []), (18, 0, 14, 0, []), (2, 0, 1, 0, []), (40, 93, 1, 0, []), (16, 1, 62, 0, []), (0, 0, 0, (-1), []), (2, 0, 1, 0, []), (20, 8, 11, 0, []), (6, 1, 0, 0, []), (42, 0, 0, 0, []), (2, 1, 0, 0, []), (40, 98, 1, 0, []), (16, 1, 67, 0, []), (0, 0, 0, (-1), []), (42, 0, 0, 0, []), (2, 0, 1, 0, []), (40, 103, 1, 0, []), (0, 0, 0, 0, []), (3, 4, 0, 0, []), (2, 4, 0, 0, []), (0, 0, 0, 16, []), (17, 3, 95, 0, []), (2, 0, 1, 0, []), (20, 0, 11, 0, []), (0, 0, 0, 41, []), (0, 0, 0, 16, []), (2, 1, 0, 0, []), (6, 2, 0, 0, []), (6, 0, 0, 0, []), (2, 4, 0, 0, []), (6, 0, 0, 0, []), (2, 4, 0, 0, []), (2, 2, 0, 0, []), (17, 3, 91, 0, []), (2, 0, 1, 0, []), (20, 11, 11, 0, []), (2, 4, 0, 0, []), (22, 0, 0, 0, []), (18, 0, 92, 0, []), (0, 0, 0, 0, []), (23, 0, 0, 0, []), (5, 4, 0, 1, []), (18, 0, 71, 0, []), (2, 2, 0, 0, []), (42, 0, 0, 0, [])]
def mzc_100 : List mzI := [(2, 0, 1, 0, []), (0, 0, 0, 0, []), (21, 5, 11, 0, []), (2, 1, 0, 0, []), (40, 98, 1, 0, []), (16, 0, 22, 0, []), (2, 2, 0, 0, []), (0, 0, 0, 0, []), (0, 0, 0, 15, []), (40, 68, 3, 0, []), (16, 0, 22, 0, []), (2, 0, 1, 0, []), (20, 0, 11, 0, []), (0, 0, 0, 41, []), (0, 0, 0, 16, []), (2, 1, 0, 0, []), (6, 2, 0, 0, []), (6, 0, 0, 0, []), (2, 2, 0, 0, []), (6, 0, 0, 0, []), (22, 0, 0, 0, []), (18, 0, 24, 0, []), (2, 0, 1, 0, []), (40, 69, 1, 0, []), (42, 0, 0, 0, [])]
def mzc_101 : List mzI := [(2, 0, 1, 0, []), (0, 0, 0, 0, []), (21, 5, 11, 0, []), (2, 0, 1, 0, []), (2, 1, 0, 0, []), (40, 72, 2, 0, []), (16, 0, 23, 0, []), (2, 2, 0, 0, []), (0, 0, 0, 0, []), (0, 0, 0, 3, []), (40, 68, 3, 0, []), (16, 0, 23, 0, []), (2, 0, 1, 0, []), (20, 0, 11, 0, []), (0, 0, 0, 1, []), (0, 0, 0, 4, []), (2, 1, 0, 0, []), (6, 2, 0, 0, []), (6, 0, 0, 0, []), (2, 2, 0, 0, []), (6, 0, 0, 0, []), (22, 0, 0, 0, []), (18, 0, 25, 0, []), (2, 0, 1, 0, []), (40, 69, 1, 0, []), (42, 0, 0, 0, [])]
def mzc_102 : List mzI := [(2, 0, 1, 0, []), (0, 0, 0, 0, []), (21, 5, 11, 0, []), (2, 1, 0, 0, []), (0, 0, 0, 0, []), (0, 0, 0, 3, []), (40, 68, 3, 0, []), (16, 0, 11, 0, []), (2, 2, 0, 0, []), (0, 0, 0, 16, []), (17, 5, 13, 0, []), (0, 0, 0, (-1), []), (42, 0, 0, 0, []), (2, 1, 0, 0, []), (0, 0, 0, 3, []), (17, 3, 20, 0, []), (2, 2, 0, 0, []), (16, 3, 20, 0, []), (0, 0, 0, (-2), []), (42, 0, 0, 0, []), (2, 3, 0, 0, []), (3, 5, 0, 0, []), (0, 0, 0, 0, []), (3, 6, 0, 0, []), (0, 0, 0, 0, []), (3, 7, 0, 0, []), (2, 7, 0, 0, []), (0, 0, 0, 16, []), (17, 3, 76, 0, []), (2, 1, 0, 0, []), (16, 1, 34, 0, []), (2, 5, 0, 0, []), (7, 1, 0, 0, []), (18, 0, 41, 0, []), (2, 1, 0, 0, []), (0, 0, 0, 1, []), (17, 1, 40, 0, []), (2, 5, 0, 0, []), (7, 2, 0, 0, []), (18, 0, 41, 0, []), (2, 5, 0, 0, []), (3, 8, 0, 0, []), (2, 0, 1, 0, []), (20, 0, 11, 0, []), (0, 0, 0, 41, []), (2, 7, 0, 0, []), (6, 0, 0, 0, []), (2, 1, 0, 0, []), (0, 0, 0, 3, []), (17, 3, 55, 0, []), (2, 7, 0, 0, []), (2, 2, 0, 0, []), (17, 3, 55, 0, []), (2, 8, 0, 0, []), (18, 0, 56, 0, []), (0, 0, 0, 0, []), (23, 0, 0, 0, []), (2, 6, 0, 0, []), (2, 0, 1, 0, []), (20, 0, 11, 0, []), (0, 0, 0, 41, []), (2, 7, 0, 0, []), (6, 0, 0, 0, []), (22, 0, 0, 0, []), (16, 0, 67, 0, []), (0, 0, 0, 1, []), (18, 0, 68, 0, []), (0, 0, 0, 0, []), (6, 0, 0, 0, []), (3, 6, 0, 0, []), (2, 5, 0, 0, []), (2, 4, 0, 0, []), (6, 0, 0, 0, []), (3, 5, 0, 0, []), (5, 7, 0, 1, []), (18, 0, 26, 0, []), (2, 1, 0, 0, []), (0, 0, 0, 3, []), (17, 1, 81, 0, []), (0, 0, 0, (-3), []), (18, 0, 82, 0, []), (2, 6, 0, 0, []), (42, 0, 0, 0, [])]
def mzc_103 : List mzI := [(0, 0, 0, 0, []), (3, 1, 0, 0, []), (2, 1, 0, 0, []), (0, 0, 0, 82, []), (17, 3, 15, 0, []), (2, 0, 1, 0, []), (20, 14, 11, 0, []), (2, 1, 0, 0, []), (2, 0, 1, 0, []), (20, 0, 11, 0, []), (2, 1, 0, 0, []), (22, 0, 0, 0, []), (23, 0, 0, 0, []), (5, 1, 0, 1, []), (18, 0, 2, 0, []), (2, 0, 1, 0, []), (40, 104, 1, 0, []), (41, 0, 0, 0, [])]
def mzc_104 : List mzI := [(2, 0, 1, 0, []), (20, 13, 11, 0, []), (0, 0, 0, 9, []), (17, 1, 27, 0, []), (0, 0, 0, 0, []), (3, 1, 0, 0, []), (2, 1, 0, 0, []), (0, 0, 0, 656, []), (17, 3, 21, 0, []), (2, 0, 1, 0, []), (20, 12, 11, 0, []), (2, 1, 0, 0, []), (2, 0, 1, 0, []), (20, 12, 11, 0, []), (2, 1, 0, 0, []), (0, 0, 0, 82, []), (6, 0, 0, 0, []), (22, 0, 0, 0, []), (23, 0, 0, 0, []), (5, 1, 0, 1, []), (18, 0, 6, 0, []), (2, 0, 1, 0, []), (12, 0, 0, 0, []), (20, 13, 11, 0, []), (0, 0, 0, 1, []), (6, 1, 0, 0, []), (21, 13, 11, 0, []), (0, 0, 0, 0, []), (3, 1, 0, 0, []), (2, 1, 0, 0, []), (0, 0, 0, 82, []), (17, 3, 47, 0, []), (2, 0, 1, 0, []), (20, 12, 11, 0, []), (0, 0, 0, 82, []), (2, 0, 1, 0, []), (20, 13, 11, 0, []), (6, 2, 0, 0, []), (2, 1, 0, 0, []), (6, 0, 0, 0, []), (2, 0, 1, 0, []), (20, 14, 11, 0, []), (2, 1, 0, 0, []), (22, 0, 0, 0, []), (23, 0, 0, 0, []), (5, 1, 0, 1, []), (18, 0, 29, 0, []), (2, 0, 1, 0, []), (12, 0, 0, 0, []), (20, 13, 11, 0, []), (0, 0, 0, 1, []), (6, 0, 0, 0, []), (21, 13, 11, 0, []), (41, 0, 0, 0, [])]
def mzc_105 : List mzI := [(2, 1, 0, 0, []), (0, 0, 0, 0, []), (0, 0, 0, 8, []), (40, 68, 3, 0, []), (16, 0, 14, 0, []), (2, 2, 0, 0, []), (28, 2, 0, 0, []), (2, 1, 0, 0, []), (22, 0, 0, 0, []), (28, 3, 0, 0, []), (2, 1, 0, 0, []), (22, 0, 0, 0, []), (40, 68, 3, 0, []), (16, 1, 16, 0, []), (0, 0, 0, (-1), []), (42, 0, 0, 0, []), (2, 1, 0, 0, []), (0, 0, 0, 2, []), (17, 0, 22, 0, []), (2, 1, 0, 0, []), (0, 0, 0, 3, []), (17, 1, 27, 0, []), (2, 2, 0, 0, []), (0, 0, 0, 3, []), (17, 1, 27, 0, []), (0, 0, 0, (-1), []), (42, 0, 0, 0, []), (2, 0, 1, 0, []), (20, 0, 11, 0, []), (0, 0, 0, 73, []), (2, 1, 0, 0, []), (6, 0, 0, 0, []), (22, 0, 0, 0, []), (2, 2, 0, 0, []), (17, 1, 37, 0, []), (0, 0, 0, (-2), []), (18, 0, 38, 0, []), (0, 0, 0, 0, []), (42, 0, 0, 0, [])]
def mzc_106 : List mzI := [(2, 0, 1, 0, []), (0, 0, 0, 0, []), (21, 5, 11, 0, []), (2, 0, 1, 0, []), (2, 1, 0, 0, []), (2, 2, 0, 0, []), (40, 105, 3, 0, []), (3, 3, 0, 0, []), (2, 3, 0, 0, []), (16, 3, 12, 0, []), (2, 3, 0, 0, []), (42, 0, 0, 0, []), (2, 0, 1, 0, []), (40, 103, 1, 0, []), (2, 0, 1, 0, []), (20, 0, 11, 0, []), (0, 0, 0, 73, []), (2, 1, 0, 0, []), (6, 0, 0, 0, []), (22, 0, 0, 0, []), (3, 4, 0, 0, []), (2, 0, 1, 0, []), (20, 0, 11, 0, []), (0, 0, 0, 73, []), (2, 1, 0, 0, []), (6, 0, 0, 0, []), (2, 2, 0, 0, []), (23, 0, 0, 0, []), (2, 4, 0, 0, []), (42, 0, 0, 0, [])]
def mzc_107 : List mzI := [(2, 1, 0, 0, []), (40, 98, 1, 0, []), (16, 0, 8, 0, []), (2, 2, 0, 0, []), (0, 0, 0, 0, []), (0, 0, 0, 15, []), (40, 68, 3, 0, []), (16, 1, 10, 0, []), (0, 0, 0, (-1), []), (42, 0, 0, 0, []), (2, 0, 1, 0, []), (20, 0, 11, 0, []), (0, 0, 0, 41, []), (0, 0, 0, 16, []), (2, 1, 0, 0, []), (6, 2, 0, 0, []), (6, 0, 0, 0, []), (2, 2, 0, 0, []), (6, 0, 0, 0, []), (22, 0, 0, 0, []), (2, 3, 0, 0, []), (17, 1, 24, 0, []), (0, 0, 0, (-2), []), (18, 0, 25, 0, []), (0, 0, 0, 0, []), (42, 0, 0, 0, [])]
def mzc_108 : List mzI := [(2, 0, 1, 0, []), (0, 0, 0, 0, []), (21, 5, 11, 0, []), (2, 0, 1, 0, []), (2, 1, 0, 0, []), (2, 2, 0, 0, []), (2, 3, 0, 0, []), (40, 107, 4, 0, []), (3, 4, 0, 0, []), (2, 4, 0, 0, []), (16, 3, 13, 0, []), (2, 4, 0, 0, []), (42, 0, 0, 0, []), (2, 0, 1, 0, []), (40, 103, 1, 0, []), (2, 0, 1, 0, []), (20, 0, 11, 0, []), (0, 0, 0, 41, []), (0, 0, 0, 16, []), (2, 1, 0, 0, []), (6, 2, 0, 0, []), (6, 0, 0, 0, []), (2, 2, 0, 0, []), (6, 0, 0, 0, []), (2, 3, 0, 0, []), (23, 0, 0, 0, []), (0, 0, 0, 1, []), (42, 0, 0, 0, [])]
def mzc_109 : List mzI := [(2, 1, 0, 0, []), (0, 0, 0, 10, []), (17, 3, 5, 0, []), (2, 1, 0, 0, []), (42, 0, 0, 0, []), (2, 1, 0, 0, []), (0, 0, 0, 10, []), (17, 1, 10, 0, []), (2, 2, 0, 0, []), (42, 0, 0, 0, []), (2, 2, 0, 0, []), (2, 1, 0, 0, []), (40, 78, 1, 0, []), (6, 1, 0, 0, []), (3, 3, 0, 0, []), (2, 3, 0, 0, []), (16, 3, 19, 0, []), (0, 0, 0, 0, []), (18, 0, 28, 0, []), (2, 0, 1, 0, []), (20, 15, 11, 0, []), (0, 0, 0, 10, []), (2, 3, 0, 0, []), (6, 2, 0, 0, []), (2, 1, 0, 0, []), (40, 77, 1, 0, []), (6, 0, 0, 0, []), (22, 0, 0, 0, []), (42, 0, 0, 0, [])]
def mzc_110 : List mzI := [(0, 0, 0, 41, []), (0, 0, 0, 16, []), (2, 0, 1, 0, []), (2, 1, 0, 0, []), (40, 74, 2, 0, []), (6, 2, 0, 0, []), (6, 0, 0, 0, []), (2, 0, 1, 0, []), (2, 0, 1, 0, []), (2, 1, 0, 0, []), (0, 0, 0, 0, []), (40, 75, 3, 0, []), (2, 2, 0, 0, []), (40, 109, 3, 0, []), (0, 0, 0, 15, []), (6, 3, 0, 0, []), (6, 0, 0, 0, []), (42, 0, 0, 0, [])]
def mzc_111 : List mzI := [(2, 0, 1, 0, []), (2, 0, 1, 0, []), (2, 1, 0, 0, []), (0, 0, 0, 0, []), (40, 75, 3, 0, []), (2, 2, 0, 0, []), (40, 109, 3, 0, []), (3, 3, 0, 0, []), (2, 0, 1, 0, []), (2, 0, 1, 0, []), (2, 1, 0, 0, []), (0, 0, 0, 1, []), (40, 75, 3, 0, []), (2, 2, 0, 0, []), (40, 109, 3, 0, []), (3, 4, 0, 0, []), (2, 0, 1, 0, []), (2, 1, 0, 0, []), (40, 73, 2, 0, []), (19, 0, 35, 0, [(0, 20), (1, 24), (2, 28)]), (2, 3, 0, 0, []), (2, 4, 0, 0, []), (6, 0, 0, 0, []), (42, 0, 0, 0, []), (2, 3, 0, 0, []), (2, 4, 0, 0, []), (6, 1, 0, 0, []), (42, 0, 0, 0, []), (2, 3, 0, 0, []), (2, 4, 0, 0, []), (17, 3, 33, 0, []), (0, 0, 0, 1, []), (18, 0, 34, 0, []), (0, 0, 0, 0, []), (42, 0, 0, 0, []), (2, 3, 0, 0, []), (2, 4, 0, 0, []), (6, 2, 0, 0, []), (42, 0, 0, 0, [])]
def mzc_112 : List mzI := [(0, 0, 0, 0, []), (3, 2, 0, 0, []), (2, 2, 0, 0, []), (2, 1, 0, 0, []), (17, 3, 67, 0, []), (0, 0, 0, 0, []), (3, 3, 0, 0, []), (2, 3, 0, 0, []), (2, 0, 1, 0, []), (20, 0, 11, 0, []), (0, 0, 0, 0, []), (22, 0, 0, 0, []), (17, 3, 65, 0, []), (2, 0, 1, 0, []), (2, 3, 0, 0, []), (40, 73, 2, 0, []), (0, 0, 0, 4, []), (17, 1, 27, 0, []), (2, 0, 1, 0, []), (20, 0, 11, 0, []), (2, 0, 1, 0, []), (2, 3, 0, 0, []), (2, 2, 0, 0, []), (40, 110, 3, 0, []), (22, 0, 0, 0, []), (3, 4, 0, 0, []), (18, 0, 54, 0, []), (2, 0, 1, 0, []), (2, 3, 0, 0, []), (40, 73, 2, 0, []), (0, 0, 0, 5, []), (17, 1, 49, 0, []), (2, 0, 1, 0, []), (2, 0, 1, 0, []), (2, 3, 0, 0, []), (0, 0, 0, 1, []), (40, 75, 3, 0, []), (2, 2, 0, 0, []), (40, 109, 3, 0, []), (3, 4, 0, 0, []), (2, 0, 1, 0, []), (20, 0, 11, 0, []), (2, 0, 1, 0, []), (2, 3, 0, 0, []), (2, 2, 0, 0, []), (40, 110, 3, 0, []), (2, 4, 0, 0, []), (23, 0, 0, 0, []), (18, 0, 54, 0, []), (2, 0, 1, 0, []), (2, 3, 0, 0, []), (2, 2, 0, 0, []), (40, 111, 3, 0, []), (3, 4, 0, 0, []), (2, 0, 1, 0, []), (20, 15, 11, 0, []), (0, 0, 0, 10, []), (2, 2, 0, 0, []), (6, 2, 0, 0, []), (2, 3, 0, 0, []), (6, 0, 0, 0, []), (2, 4, 0, 0, []), (23, 0, 0, 0, []), (5, 3, 0, 1, []), (18, 0, 7, 0, []), (5, 2, 0, 1, []), (18, 0, 2, 0, []), (41, 0, 0, 0, [])]
def mzc_113 : List mzI := [(2, 0, 1, 0, []), (0, 0, 0, 0, []), (21, 4, 11, 0, []), (0, 0, 0, 0, []), (3, 2, 0, 0, []), (2, 2, 0, 0, []), (2, 0, 1, 0, []), (20, 0, 11, 0, []), (0, 0, 0, 0, []), (22, 0, 0, 0, []), (17, 3, 30, 0, []), (2, 0, 1, 0, []), (2, 1, 0, 0, []), (16, 1, 16, 0, []), (1, 0, 0, 0, []), (18, 0, 27, 0, []), (2, 0, 1, 0, []), (20, 15, 11, 0, []), (0, 0, 0, 10, []), (2, 1, 0, 0, []), (0, 0, 0, 1, []), (6, 1, 0, 0, []), (6, 2, 0, 0, []), (2, 2, 0, 0, []), (6, 0, 0, 0, []), (22, 0, 0, 0, []), (8, 0, 0, 0, []), (40, 70, 2, 0, []), (5, 2, 0, 1, []), (18, 0, 5, 0, []), (41, 0, 0, 0, [])]
def mzc_114 : List mzI := [(2, 0, 1, 0, []), (0, 0, 0, 0, []), (21, 5, 11, 0, []), (2, 1, 0, 0, []), (0, 0, 0, 0, []), (0, 0, 0, 40, []), (40, 68, 3, 0, []), (16, 1, 10, 0, []), (0, 0, 0, (-1), []), (42, 0, 0, 0, []), (2, 0, 1, 0, []), (40, 103, 1, 0, []), (2, 0, 1, 0, []), (2, 1, 0, 0, []), (40, 112, 2, 0, []), (2, 0, 1, 0, []), (2, 1, 0, 0, []), (40, 113, 2, 0, []), (2, 1, 0, 0, []), (42, 0, 0, 0, [])]
def mzc_115 : List mzI := [(2, 0, 1, 0, []), (40, 86, 1, 0, []), (3, 2, 0, 0, []), (2, 2, 0, 0, []), (0, 0, 0, 117, []), (17, 0, 17, 0, []), (2, 2, 0, 0, []), (0, 0, 0, 119, []), (17, 0, 17, 0, []), (2, 2, 0, 0, []), (0, 0, 0, 114, []), (17, 0, 17, 0, []), (2, 0, 1, 0, []), (2, 0, 1, 0, []), (20, 7, 11, 0, []), (40, 88, 2, 0, []), (41, 0, 0, 0, []), (2, 0, 1, 0, []), (12, 0, 0, 0, []), (20, 7, 11, 0, []), (0, 0, 0, 1, []), (6, 0, 0, 0, []), (21, 7, 11, 0, []), (2, 0, 1, 0, []), (20, 16, 11, 0, []), (2, 1, 0, 0, []), (2, 2, 0, 0, []), (23, 0, 0, 0, []), (2, 0, 1, 0, []), (20, 16, 11, 0, []), (2, 1, 0, 0, []), (0, 0, 0, 1, []), (6, 0, 0, 0, []), (2, 2, 0, 0, []), (0, 0, 0, 119, []), (17, 1, 41, 0, []), (2, 0, 1, 0, []), (0, 0, 0, 65, []), (0, 0, 0, 2, []), (40, 91, 3, 0, []), (18, 0, 45, 0, []), (2, 0, 1, 0, []), (0, 0, 0, 48, []), (0, 0, 0, 10, []), (40, 91, 3, 0, []), (23, 0, 0, 0, []), (2, 2, 0, 0, []), (0, 0, 0, 114, []), (17, 1, 50, 0, []), (41, 0, 0, 0, []), (2, 0, 1, 0, []), (20, 16, 11, 0, []), (2, 1, 0, 0, []), (0, 0, 0, 2, []), (6, 0, 0, 0, []), (2, 2, 0, 0, []), (0, 0, 0, 119, []), (17, 1, 61, 0, []), (2, 0, 1, 0, []), (40, 92, 1, 0, []), (18, 0, 65, 0, []), (2, 0, 1, 0, []), (0, 0, 0, 48, []), (0, 0, 0, 10, []), (40, 91, 3, 0, []), (23, 0, 0, 0, []), (2, 2, 0, 0, []), (0, 0, 0, 119, []), (17, 1, 79, 0, []), (2, 0, 1, 0, []), (20, 16, 11, 0, []), (2, 1, 0, 0, []), (0, 0, 0, 3, []), (6, 0, 0, 0, []), (2, 0, 1, 0, []), (0, 0, 0, 48, []), (0, 0, 0, 10, []), (40, 91, 3, 0, []), (23, 0, 0, 0, []), (41, 0, 0, 0, [])]
def mzc_116 : List mzI := [(2, 0, 1, 0, []), (20, 16, 11, 0, []), (2, 1, 0, 0, []), (0, 0, 0, 1, []), (6, 0, 0, 0, []), (22, 0, 0, 0, []), (3, 2, 0, 0, []), (2, 0, 1, 0, []), (20, 16, 11, 0, []), (2, 1, 0, 0, []), (0, 0, 0, 2, []), (6, 0, 0, 0, []), (22, 0, 0, 0, []), (3, 3, 0, 0, []), (2, 0, 1, 0, []), (20, 16, 11, 0, []), (2, 1, 0, 0, []), (0, 0, 0, 3, []), (6, 0, 0, 0, []), (22, 0, 0, 0, []), (3, 4, 0, 0, []), (2, 0, 1, 0, []), (20, 16, 11, 0, []), (2, 1, 0, 0, []), (22, 0, 0, 0, []), (0, 0, 0, 117, []), (17, 1, 42, 0, []), (2, 0, 1, 0, []), (2, 2, 0, 0, []), (2, 3, 0, 0, []), (40, 105, 3, 0, []), (16, 3, 34, 0, []), (0, 0, 0, 0, []), (42, 0, 1, 0, []), (2, 0, 1, 0, []), (20, 0, 11, 0, []), (0, 0, 0, 73, []), (2, 2, 0, 0, []), (6, 0, 0, 0, []), (2, 3, 0, 0, []), (23, 0, 0, 0, []), (18, 0, 71, 0, []), (2, 0, 1, 0, []), (20, 16, 11, 0, []), (2, 1, 0, 0, []), (22, 0, 0, 0, []), (0, 0, 0, 119, []), (17, 1, 68, 0, []), (2, 0, 1, 0, []), (2, 2, 0, 0, []), (2, 3, 0, 0, []), (2, 4, 0, 0, []), (40, 107, 4, 0, []), (16, 3, 56, 0, []), (0, 0, 0, 0, []), (42, 0, 1, 0, []), (2, 0, 1, 0, []), (20, 0, 11, 0, []), (0, 0, 0, 41, []), (0, 0, 0, 16, []), (2, 2, 0, 0, []), (6, 2, 0, 0, []), (6, 0, 0, 0, []), (2, 3, 0, 0, []), (6, 0, 0, 0, []), (2, 4, 0, 0, []), (23, 0, 0, 0, []), (18, 0, 71, 0, []), (2, 0, 1, 0, []), (2, 2, 0, 0, []), (40, 112, 2, 0, []), (0, 0, 0, 1, []), (42, 0, 1, 0, [])]
def mzc_117 : List mzI := [(2, 0, 1, 0, []), (0, 0, 0, 0, []), (21, 5, 11, 0, []), (2, 0, 1, 0, []), (40, 85, 1, 0, []), (0, 0, 0, 0, []), (3, 1, 0, 0, []), (2, 0, 1, 0, []), (40, 87, 1, 0, []), (16, 0, 22, 0, []), (2, 0, 1, 0, []), (20, 7, 11, 0, []), (2, 0, 1, 0, []), (20, 6, 11, 0, []), (17, 3, 22, 0, []), (2, 0, 1, 0, []), (0, 0, 0, 4, []), (2, 1, 0, 0, []), (6, 2, 0, 0, []), (40, 115, 2, 0, []), (5, 1, 0, 1, []), (18, 0, 7, 0, []), (2, 0, 1, 0, []), (40, 93, 1, 0, []), (16, 1, 30, 0, []), (0, 0, 0, (-1), []), (2, 0, 1, 0, []), (20, 8, 11, 0, []), (6, 1, 0, 0, []), (42, 0, 0, 0, []), (0, 0, 0, 0, []), (3, 2, 0, 0, []), (2, 2, 0, 0, []), (0, 0, 0, 82, []), (17, 3, 45, 0, []), (2, 0, 1, 0, []), (20, 14, 11, 0, []), (2, 2, 0, 0, []), (2, 0, 1, 0, []), (20, 0, 11, 0, []), (2, 2, 0, 0, []), (22, 0, 0, 0, []), (23, 0, 0, 0, []), (5, 2, 0, 1, []), (18, 0, 32, 0, []), (0, 0, 0, 0, []), (3, 2, 0, 0, []), (2, 2, 0, 0, []), (2, 1, 0, 0, []), (17, 3, 58, 0, []), (2, 0, 1, 0, []), (0, 0, 0, 4, []), (2, 2, 0, 0, []), (6, 2, 0, 0, []), (40, 116, 2, 0, []), (16, 0, 58, 0, []), (5, 2, 0, 1, []), (18, 0, 47, 0, []), (2, 2, 0, 0, []), (16, 5, 62, 0, []), (2, 0, 1, 0, []), (40, 104, 1, 0, []), (2, 0, 1, 0, []), (0, 0, 0, 0, []), (21, 4, 11, 0, []), (2, 0, 1, 0, []), (2, 2, 0, 0, []), (2, 1, 0, 0, []), (17, 3, 71, 0, []), (1, 0, 0, 1, []), (18, 0, 72, 0, []), (1, 0, 0, 0, []), (40, 70, 2, 0, []), (2, 2, 0, 0, []), (42, 0, 0, 0, [])]
def mzc_118 : List mzI := [(2, 0, 1, 0, []), (0, 0, 0, 0, []), (21, 5, 11, 0, []), (2, 0, 1, 0, []), (20, 13, 11, 0, []), (16, 1, 8, 0, []), (0, 0, 0, (-1), []), (42, 0, 0, 0, []), (2, 0, 1, 0, []), (12, 0, 0, 0, []), (20, 13, 11, 0, []), (0, 0, 0, 1, []), (6, 1, 0, 0, []), (21, 13, 11, 0, []), (0, 0, 0, 0, []), (3, 1, 0, 0, []), (2, 1, 0, 0, []), (0, 0, 0, 82, []), (17, 3, 34, 0, []), (2, 0, 1, 0, []), (20, 0, 11, 0, []), (2, 1, 0, 0, []), (2, 0, 1, 0, []), (20, 12, 11, 0, []), (0, 0, 0, 82, []), (2, 0, 1, 0, []), (20, 13, 11, 0, []), (6, 2, 0, 0, []), (2, 1, 0, 0, []), (6, 0, 0, 0, []), (22, 0, 0, 0, []), (23, 0, 0, 0, []), (5, 1, 0, 1, []), (18, 0, 16, 0, []), (2, 0, 1, 0, []), (20, 13, 11, 0, []), (42, 0, 0, 0, [])]
def mzc_119 : List mzI := [(2, 0, 1, 0, []), (2, 1, 0, 0, []), (40, 79, 2, 0, []), (16, 0, 9, 0, []), (2, 0, 1, 0, []), (20, 0, 11, 0, []), (0, 0, 0, 79, []), (22, 0, 0, 0, []), (18, 0, 34, 0, []), (2, 0, 1, 0, []), (2, 1, 0, 0, []), (40, 73, 2, 0, []), (0, 0, 0, 3, []), (17, 1, 21, 0, []), (0, 0, 0, 10, []), (2, 0, 1, 0, []), (20, 0, 11, 0, []), (0, 0, 0, 80, []), (22, 0, 0, 0, []), (6, 2, 0, 0, []), (18, 0, 34, 0, []), (2, 0, 1, 0, []), (2, 1, 0, 0, []), (40, 73, 2, 0, []), (0, 0, 0, 4, []), (17, 1, 33, 0, []), (0, 0, 0, 10, []), (2, 0, 1, 0, []), (20, 0, 11, 0, []), (0, 0, 0, 81, []), (22, 0, 0, 0, []), (6, 2, 0, 0, []), (18, 0, 34, 0, []), (0, 0, 0, 10, []), (42, 0, 0, 0, [])]
def mzc_120 : List mzI := [(2, 2, 0, 0, []), (0, 0, 0, 10, []), (6, 10, 0, 0, []), (3, 3, 0, 0, []), (2, 0, 1, 0, []), (2, 1, 0, 0, []), (40, 79, 2, 0, []), (16, 0, 20, 0, []), (2, 3, 0, 0, []), (2, 0, 1, 0, []), (20, 0, 11, 0, []), (0, 0, 0, 79, []), (22, 0, 0, 0, []), (6, 0, 0, 0, []), (0, 0, 0, 10, []), (17, 4, 18, 0, []), (0, 0, 0, 1, []), (18, 0, 25, 0, []), (0, 0, 0, 0, []), (18, 0, 25, 0, []), (2, 3, 0, 0, []), (16, 1, 24, 0, []), (0, 0, 0, 1, []), (18, 0, 25, 0, []), (0, 0, 0, 0, []), (3, 4, 0, 0, []), (2, 4, 0, 0, []), (16, 0, 30, 0, []), (2, 2, 0, 0, []), (18, 0, 35, 0, []), (2, 2, 0, 0, []), (2, 3, 0, 0, []), (6, 1, 0, 0, []), (0, 0, 0, 10, []), (6, 0, 0, 0, []), (42, 0, 0, 0, [])]
def mzc_121 : List mzI := [(2, 2, 0, 0, []), (0, 0, 0, 10, []), (40, 81, 2, 0, []), (3, 3, 0, 0, []), (2, 0, 1, 0, []), (2, 1, 0, 0, []), (40, 79, 2, 0, []), (16, 0, 15, 0, []), (0, 0, 0, 10, []), (2, 0, 1, 0, []), (20, 0, 11, 0, []), (0, 0, 0, 79, []), (22, 0, 0, 0, []), (6, 1, 0, 0, []), (18, 0, 16, 0, []), (0, 0, 0, 0, []), (3, 4, 0, 0, []), (2, 3, 0, 0, []), (2, 4, 0, 0, []), (17, 4, 22, 0, []), (2, 2, 0, 0, []), (18, 0, 27, 0, []), (2, 2, 0, 0, []), (2, 3, 0, 0, []), (6, 1, 0, 0, []), (2, 4, 0, 0, []), (6, 0, 0, 0, []), (42, 0, 0, 0, [])]
def mzc_122 : List mzI := [(0, 0, 0, (-1000000), []), (3, 4, 0, 0, []), (0, 0, 0, 0, []), (3, 5, 0, 0, []), (2, 5, 0, 0, []), (0, 0, 0, 2, []), (17, 3, 34, 0, []), (2, 0, 1, 0, []), (2, 1, 0, 0, []), (2, 5, 0, 0, []), (40, 75, 3, 0, []), (3, 6, 0, 0, []), (2, 6, 0, 0, []), (40, 76, 1, 0, []), (16, 0, 32, 0, []), (2, 6, 0, 0, []), (40, 77, 1, 0, []), (2, 2, 0, 0, []), (17, 1, 32, 0, []), (2, 4, 0, 0, []), (2, 0, 1, 0, []), (2, 2, 0, 0, []), (40, 119, 2, 0, []), (0, 0, 0, 10, []), (2, 3, 0, 0, []), (6, 2, 0, 0, []), (2, 6, 0, 0, []), (40, 78, 1, 0, []), (6, 2, 0, 0, []), (6, 1, 0, 0, []), (40, 288, 2, 0, []), (3, 4, 0, 0, []), (5, 5, 0, 1, []), (18, 0, 4, 0, []), (2, 1, 0, 0, []), (2, 2, 0, 0, []), (17, 0, 61, 0, []), (2, 0, 1, 0, []), (2, 1, 0, 0, []), (40, 74, 2, 0, []), (0, 0, 0, (-1), []), (17, 0, 61, 0, []), (2, 0, 1, 0, []), (2, 1, 0, 0, []), (40, 74, 2, 0, []), (2, 0, 1, 0, []), (2, 2, 0, 0, []), (40, 74, 2, 0, []), (17, 1, 61, 0, []), (2, 0, 1, 0, []), (2, 1, 0, 0, []), (40, 73, 2, 0, []), (0, 0, 0, 5, []), (17, 0, 59, 0, []), (2, 0, 1, 0, []), (2, 2, 0, 0, []), (40, 73, 2, 0, []), (0, 0, 0, 5, []), (17, 1, 61, 0, []), (0, 0, 0, 1, []), (18, 0, 62, 0, []), (0, 0, 0, 0, []), (3, 5, 0, 0, []), (2, 5, 0, 0, []), (16, 0, 78, 0, []), (2, 4, 0, 0, []), (2, 1, 0, 0, []), (2, 2, 0, 0, []), (17, 5, 71, 0, []), (0, 0, 0, 10, []), (18, 0, 76, 0, []), (0, 0, 0, 10, []), (0, 0, 0, 10, []), (2, 3, 0, 0, []), (6, 2, 0, 0, []), (6, 1, 0, 0, []), (40, 288, 2, 0, []), (3, 4, 0, 0, []), (2, 4, 0, 0, []), (42, 0, 0, 0, [])]
def mzc_123 : List mzI := [(2, 0, 1, 0, []), (20, 0, 11, 0, []), (0, 0, 0, 0, []), (22, 0, 0, 0, []), (3, 2, 0, 0, []), (0, 0, 0, 0, []), (3, 3, 0, 0, []), (2, 3, 0, 0, []), (2, 2, 0, 0, []), (17, 3, 17, 0, []), (2, 0, 1, 0, []), (20, 17, 11, 0, []), (2, 3, 0, 0, []), (0, 0, 0, 0, []), (23, 0, 0, 0, []), (5, 3, 0, 1, []), (18, 0, 7, 0, []), (2, 2, 0, 0, []), (16, 5, 21, 0, []), (0, 0, 0, 1, []), (18, 0, 22, 0, []), (0, 0, 0, 0, []), (3, 3, 0, 0, []), (2, 3, 0, 0, []), (16, 0, 78, 0, []), (0, 0, 0, 0, []), (3, 3, 0, 0, []), (0, 0, 0, 0, []), (3, 4, 0, 0, []), (2, 4, 0, 0, []), (2, 2, 0, 0, []), (17, 3, 77, 0, []), (0, 0, 0, 0, []), (3, 5, 0, 0, []), (2, 5, 0, 0, []), (2, 2, 0, 0, []), (17, 3, 75, 0, []), (2, 0, 1, 0, []), (20, 17, 11, 0, []), (2, 5, 0, 0, []), (22, 0, 0, 0, []), (2, 0, 1, 0, []), (2, 4, 0, 0, []), (2, 5, 0, 0, []), (2, 1, 0, 0, []), (40, 122, 4, 0, []), (6, 0, 0, 0, []), (3, 6, 0, 0, []), (2, 6, 0, 0, []), (2, 0, 1, 0, []), (20, 17, 11, 0, []), (2, 4, 0, 0, []), (22, 0, 0, 0, []), (17, 4, 55, 0, []), (18, 0, 73, 0, []), (2, 0, 1, 0, []), (20, 17, 11, 0, []), (2, 4, 0, 0, []), (2, 0, 1, 0, []), (2, 4, 0, 0, []), (2, 6, 0, 0, []), (40, 120, 3, 0, []), (23, 0, 0, 0, []), (0, 0, 0, 1, []), (3, 3, 0, 0, []), (2, 0, 1, 0, []), (20, 17, 11, 0, []), (2, 4, 0, 0, []), (22, 0, 0, 0, []), (0, 0, 0, 1000, []), (17, 2, 73, 0, []), (0, 0, 0, 0, []), (42, 0, 1, 0, []), (5, 5, 0, 1, []), (18, 0, 34, 0, []), (5, 4, 0, 1, []), (18, 0, 29, 0, []), (18, 0, 23, 0, []), (0, 0, 0, 1, []), (42, 0, 1, 0, [])]
def mzc_124 : List mzI := [(0, 0, 0, 0, []), (3, 2, 0, 0, []), (0, 0, 0, 0, []), (3, 3, 0, 0, []), (2, 3, 0, 0, []), (2, 0, 1, 0, []), (20, 0, 11, 0, []), (0, 0, 0, 0, []), (22, 0, 0, 0, []), (17, 3, 22, 0, []), (2, 2, 0, 0, []), (2, 1, 1, 0, []), (2, 3, 0, 0, []), (22, 0, 0, 0, []), (2, 0, 1, 0, []), (2, 3, 0, 0, []), (40, 119, 2, 0, []), (6, 0, 0, 0, []), (40, 288, 2, 0, []), (3, 2, 0, 0, []), (5, 3, 0, 1, []), (18, 0, 4, 0, []), (2, 2, 0, 0, []), (0, 0, 0, 10, []), (40, 82, 2, 0, []), (42, 0, 0, 0, [])]
def mzc_125 : List mzI := [(2, 0, 1, 0, []), (20, 0, 11, 0, []), (0, 0, 0, 0, []), (22, 0, 0, 0, []), (3, 2, 0, 0, []), (0, 0, 0, 10, []), (2, 0, 1, 0, []), (2, 0, 1, 0, []), (20, 17, 11, 0, []), (40, 124, 2, 0, []), (6, 2, 0, 0, []), (3, 3, 0, 0, []), (0, 0, 0, 0, []), (3, 4, 0, 0, []), (2, 4, 0, 0, []), (2, 2, 0, 0, []), (17, 3, 31, 0, []), (2, 0, 1, 0, []), (20, 18, 11, 0, []), (2, 4, 0, 0, []), (2, 0, 1, 0, []), (2, 4, 0, 0, []), (2, 3, 0, 0, []), (2, 0, 1, 0, []), (2, 4, 0, 0, []), (40, 119, 2, 0, []), (6, 1, 0, 0, []), (40, 121, 3, 0, []), (23, 0, 0, 0, []), (5, 4, 0, 1, []), (18, 0, 14, 0, []), (2, 2, 0, 0, []), (16, 5, 35, 0, []), (0, 0, 0, 1, []), (18, 0, 36, 0, []), (0, 0, 0, 0, []), (3, 4, 0, 0, []), (2, 4, 0, 0, []), (16, 0, 92, 0, []), (0, 0, 0, 0, []), (3, 4, 0, 0, []), (0, 0, 0, 0, []), (3, 5, 0, 0, []), (2, 5, 0, 0, []), (2, 2, 0, 0, []), (17, 3, 91, 0, []), (0, 0, 0, 0, []), (3, 6, 0, 0, []), (2, 6, 0, 0, []), (2, 2, 0, 0, []), (17, 3, 89, 0, []), (2, 0, 1, 0, []), (2, 5, 0, 0, []), (2, 6, 0, 0, []), (2, 1, 0, 0, []), (40, 122, 4, 0, []), (3, 7, 0, 0, []), (2, 7, 0, 0, []), (0, 0, 0, (-1000000), []), (17, 0, 87, 0, []), (2, 0, 1, 0, []), (20, 18, 11, 0, []), (2, 6, 0, 0, []), (22, 0, 0, 0, []), (2, 0, 1, 0, []), (20, 18, 11, 0, []), (2, 5, 0, 0, []), (22, 0, 0, 0, []), (2, 7, 0, 0, []), (6, 1, 0, 0, []), (17, 4, 72, 0, []), (18, 0, 87, 0, []), (2, 0, 1, 0, []), (20, 18, 11, 0, []), (2, 6, 0, 0, []), (2, 0, 1, 0, []), (2, 6, 0, 0, []), (2, 0, 1, 0, []), (20, 18, 11, 0, []), (2, 5, 0, 0, []), (22, 0, 0, 0, []), (2, 7, 0, 0, []), (6, 1, 0, 0, []), (40, 121, 3, 0, []), (23, 0, 0, 0, []), (0, 0, 0, 1, []), (3, 4, 0, 0, []), (5, 6, 0, 1, []), (18, 0, 48, 0, []), (5, 5, 0, 1, []), (18, 0, 43, 0, []), (18, 0, 37, 0, []), (41, 0, 0, 0, [])]
def mzc_126 : List mzI := [(2, 0, 1, 0, []), (20, 0, 11, 0, []), (0, 0, 0, 0, []), (22, 0, 0, 0, []), (16, 1, 7, 0, []), (0, 0, 0, 0, []), (42, 0, 0, 0, []), (0, 0, 0, 1, []), (3, 1, 0, 0, []), (2, 1, 0, 0, []), (0, 0, 0, 200, []), (17, 3, 18, 0, []), (2, 0, 1, 0, []), (2, 1, 0, 0, []), (40, 123, 2, 0, []), (16, 1, 18, 0, []), (5, 1, 0, 1, []), (18, 0, 9, 0, []), (2, 1, 0, 0, []), (42, 0, 0, 0, [])]
def mzc_127 : List mzI := [(0, 0, 0, 0, []), (3, 2, 0, 0, []), (0, 0, 0, 0, []), (3, 3, 0, 0, []), (2, 3, 0, 0, []), (2, 0, 1, 0, []), (20, 0, 11, 0, []), (0, 0, 0, 0, []), (22, 0, 0, 0, []), (17, 3, 49, 0, []), (2, 1, 0, 0, []), (16, 1, 16, 0, []), (2, 0, 1, 0, []), (2, 3, 0, 0, []), (40, 79, 2, 0, []), (18, 0, 38, 0, []), (2, 1, 0, 0, []), (0, 0, 0, 1, []), (17, 1, 28, 0, []), (2, 0, 1, 0, []), (2, 3, 0, 0, []), (40, 73, 2, 0, []), (0, 0, 0, 3, []), (17, 1, 26, 0, []), (0, 0, 0, 1, []), (18, 0, 38, 0, []), (0, 0, 0, 0, []), (18, 0, 38, 0, []), (2, 0, 1, 0, []), (2, 3, 0, 0, []), (40, 74, 2, 0, []), (2, 1, 0, 0, []), (0, 0, 0, 2, []), (6, 1, 0, 0, []), (17, 1, 37, 0, []), (0, 0, 0, 1, []), (18, 0, 38, 0, []), (0, 0, 0, 0, []), (3, 4, 0, 0, []), (2, 2, 0, 0, []), (2, 4, 0, 0, []), (16, 0, 44, 0, []), (0, 0, 0, 1, []), (18, 0, 45, 0, []), (0, 0, 0, 0, []), (6, 0, 0, 0, []), (3, 2, 0, 0, []), (5, 3, 0, 1, []), (18, 0, 4, 0, []), (2, 2, 0, 0, []), (42, 0, 0, 0, [])]
def mzc_128 : List mzI := [(2, 0, 1, 0, []), (2, 1, 0, 0, []), (40, 127, 2, 0, []), (2, 0, 1, 0, []), (20, 0, 11, 0, []), (0, 0, 0, 73, []), (2, 1, 0, 0, []), (6, 0, 0, 0, []), (22, 0, 0, 0, []), (40, 82, 2, 0, []), (42, 0, 0, 0, [])]
def mzc_129 : List mzI := [(2, 0, 1, 0, []), (40, 126, 1, 0, []), (3, 1, 0, 0, []), (0, 0, 0, 0, []), (3, 2, 0, 0, []), (2, 2, 0, 0, []), (0, 0, 0, 4, []), (17, 3, 16, 0, []), (2, 1, 0, 0, []), (2, 0, 1, 0, []), (2, 2, 0, 0, []), (40, 128, 2, 0, []), (40, 288, 2, 0, []), (3, 1, 0, 0, []), (5, 2, 0, 1, []), (18, 0, 5, 0, []), (2, 1, 0, 0, []), (42, 0, 0, 0, [])]
def mzc_130 : List mzI := [(2, 0, 1, 0, []), (0, 0, 0, 0, []), (21, 5, 11, 0, []), (2, 0, 1, 0, []), (40, 129, 1, 0, []), (3, 1, 0, 0, []), (2, 0, 1, 0, []), (0, 0, 0, 0, []), (21, 4, 11, 0, []), (2, 0, 1, 0, []), (2, 0, 1, 0, []), (40, 126, 1, 0, []), (8, 0, 0, 0, []), (40, 70, 2, 0, []), (0, 0, 0, 0, []), (3, 2, 0, 0, []), (2, 2, 0, 0, []), (0, 0, 0, 4, []), (17, 3, 27, 0, []), (2, 0, 1, 0, []), (2, 0, 1, 0, []), (2, 2, 0, 0, []), (40, 128, 2, 0, []), (8, 0, 0, 0, []), (40, 70, 2, 0, []), (5, 2, 0, 1, []), (18, 0, 16, 0, []), (2, 1, 0, 0, []), (42, 0, 0, 0, [])]
def mzc_131 : List mzI := [(2, 0, 1, 0, []), (0, 0, 0, 0, []), (21, 5, 11, 0, []), (2, 1, 0, 0, []), (0, 0, 0, 1, []), (0, 0, 0, 60, []), (40, 68, 3, 0, []), (16, 1, 10, 0, []), (0, 0, 0, (-1), []), (42, 0, 0, 0, []), (2, 0, 1, 0, []), (2, 1, 0, 0, []), (40, 123, 2, 0, []), (16, 1, 16, 0, []), (0, 0, 0, (-2), []), (42, 0, 0, 0, []), (2, 0, 1, 0, []), (2, 0, 1, 0, []), (20, 17, 11, 0, []), (40, 71, 2, 0, []), (2, 0, 1, 0, []), (2, 0, 1, 0, []), (20, 17, 11, 0, []), (40, 124, 2, 0, []), (42, 0, 0, 0, [])]
def mzc_132 : List mzI := [(2, 0, 1, 0, []), (0, 0, 0, 0, []), (21, 5, 11, 0, []), (2, 1, 0, 0, []), (0, 0, 0, 1, []), (0, 0, 0, 60, []), (40, 68, 3, 0, []), (16, 1, 10, 0, []), (0, 0, 0, (-1), []), (42, 0, 0, 0, []), (2, 0, 1, 0, []), (2, 1, 0, 0, []), (40, 123, 2, 0, []), (16, 1, 16, 0, []), (0, 0, 0, (-2), []), (42, 0, 0, 0, []), (2, 0, 1, 0, []), (2, 1, 0, 0, []), (40, 125, 2, 0, []), (0, 0, 0, 0, []), (3, 2, 0, 0, []), (0, 0, 0, 0, []), (3, 3, 0, 0, []), (2, 3, 0, 0, []), (2, 0, 1, 0, []), (20, 0, 11, 0, []), (0, 0, 0, 0, []), (22, 0, 0, 0, []), (17, 3, 46, 0, []), (2, 2, 0, 0, []), (2, 0, 1, 0, []), (20, 17, 11, 0, []), (2, 3, 0, 0, []), (22, 0, 0, 0, []), (2, 0, 1, 0, []), (20, 18, 11, 0, []), (2, 3, 0, 0, []), (22, 0, 0, 0, []), (17, 1, 41, 0, []), (0, 0, 0, 1, []), (18, 0, 42, 0, []), (0, 0, 0, 0, []), (6, 0, 0, 0, []), (3, 2, 0, 0, []), (5, 3, 0, 1, []), (18, 0, 23, 0, []), (2, 0, 1, 0, []), (2, 0, 1, 0, []), (20, 18, 11, 0, []), (40, 71, 2, 0, []), (2, 2, 0, 0, []), (42, 0, 0, 0, [])]
def mzc_133 : List mzI := [(0, 0, 0, 0, []), (3, 2, 0, 0, []), (0, 0, 0, (-1), []), (3, 3, 0, 0, []), (2, 2, 0, 0, []), (2, 3, 0, 0, []), (17, 0, 53, 0, []), (2, 2, 0, 0, []), (3, 3, 0, 0, []), (0, 0, 0, 0, []), (3, 4, 0, 0, []), (2, 4, 0, 0, []), (2, 0, 1, 0, []), (20, 0, 11, 0, []), (0, 0, 0, 0, []), (22, 0, 0, 0, []), (17, 3, 52, 0, []), (2, 4, 0, 0, []), (2, 1, 0, 0, []), (17, 0, 27, 0, []), (2, 2, 0, 0, []), (2, 4, 0, 0, []), (6, 7, 0, 0, []), (0, 0, 0, 1, []), (6, 3, 0, 0, []), (16, 1, 27, 0, []), (18, 0, 50, 0, []), (0, 0, 0, 0, []), (3, 5, 0, 0, []), (2, 5, 0, 0, []), (2, 0, 1, 0, []), (20, 0, 11, 0, []), (0, 0, 0, 0, []), (22, 0, 0, 0, []), (17, 3, 50, 0, []), (2, 0, 1, 0, []), (2, 5, 0, 0, []), (2, 4, 0, 0, []), (0, 0, 0, 1, []), (40, 122, 4, 0, []), (0, 0, 0, (-1000000), []), (17, 0, 48, 0, []), (2, 2, 0, 0, []), (0, 0, 0, 1, []), (2, 5, 0, 0, []), (6, 6, 0, 0, []), (6, 4, 0, 0, []), (3, 2, 0, 0, []), (5, 5, 0, 1, []), (18, 0, 29, 0, []), (5, 4, 0, 1, []), (18, 0, 11, 0, []), (18, 0, 4, 0, []), (2, 2, 0, 0, []), (42, 0, 0, 0, [])]
def mzc_134 : List mzI := [(2, 0, 1, 0, []), (0, 0, 0, 0, []), (21, 5, 11, 0, []), (0, 0, 0, 0, []), (3, 1, 0, 0, []), (0, 0, 0, 0, []), (3, 2, 0, 0, []), (2, 2, 0, 0, []), (2, 0, 1, 0, []), (20, 0, 11, 0, []), (0, 0, 0, 0, []), (22, 0, 0, 0, []), (17, 3, 30, 0, []), (2, 0, 1, 0, []), (2, 2, 0, 0, []), (40, 133, 2, 0, []), (2, 2, 0, 0, []), (6, 7, 0, 0, []), (0, 0, 0, 1, []), (6, 3, 0, 0, []), (0, 0, 0, 1, []), (17, 1, 28, 0, []), (2, 1, 0, 0, []), (0, 0, 0, 1, []), (2, 2, 0, 0, []), (6, 6, 0, 0, []), (6, 4, 0, 0, []), (3, 1, 0, 0, []), (5, 2, 0, 1, []), (18, 0, 7, 0, []), (2, 0, 1, 0, []), (0, 0, 0, 0, []), (21, 4, 11, 0, []), (2, 0, 1, 0, []), (2, 1, 0, 0, []), (40, 285, 1, 0, []), (8, 0, 0, 0, []), (40, 70, 2, 0, []), (2, 1, 0, 0, []), (42, 0, 0, 0, [])]
def mzc_135 : List mzI := [(2, 0, 1, 0, []), (2, 1, 0, 0, []), (40, 74, 2, 0, []), (0, 0, 0, (-1), []), (17, 1, 7, 0, []), (0, 0, 0, 0, []), (42, 0, 0, 0, []), (2, 0, 1, 0, []), (2, 1, 0, 0, []), (0, 0, 0, 0, []), (40, 75, 3, 0, []), (3, 2, 0, 0, []), (2, 2, 0, 0, []), (0, 0, 0, 10, []), (17, 3, 17, 0, []), (0, 0, 0, 1, []), (42, 0, 0, 0, []), (2, 2, 0, 0, []), (0, 0, 0, 10, []), (17, 1, 22, 0, []), (0, 0, 0, 2, []), (42, 0, 0, 0, []), (2, 2, 0, 0, []), (40, 78, 1, 0, []), (16, 5, 27, 0, []), (0, 0, 0, 0, []), (42, 0, 0, 0, []), (2, 2, 0, 0, []), (40, 77, 1, 0, []), (3, 3, 0, 0, []), (2, 0, 1, 0, []), (2, 3, 0, 0, []), (0, 0, 0, 0, []), (40, 75, 3, 0, []), (3, 4, 0, 0, []), (2, 0, 1, 0, []), (2, 3, 0, 0, []), (0, 0, 0, 1, []), (40, 75, 3, 0, []), (3, 5, 0, 0, []), (2, 0, 1, 0, []), (2, 3, 0, 0, []), (40, 73, 2, 0, []), (16, 1, 56, 0, []), (2, 4, 0, 0, []), (0, 0, 0, 10, []), (17, 1, 50, 0, []), (2, 5, 0, 0, []), (0, 0, 0, 10, []), (17, 2, 67, 0, []), (2, 4, 0, 0, []), (0, 0, 0, 10, []), (17, 3, 56, 0, []), (2, 5, 0, 0, []), (0, 0, 0, 10, []), (17, 0, 67, 0, []), (2, 0, 1, 0, []), (2, 3, 0, 0, []), (40, 73, 2, 0, []), (0, 0, 0, 1, []), (17, 1, 69, 0, []), (2, 4, 0, 0, []), (0, 0, 0, 10, []), (17, 1, 69, 0, []), (2, 5, 0, 0, []), (0, 0, 0, 10, []), (17, 3, 69, 0, []), (0, 0, 0, 1, []), (18, 0, 70, 0, []), (0, 0, 0, 0, []), (3, 6, 0, 0, []), (2, 6, 0, 0, []), (16, 0, 75, 0, []), (0, 0, 0, 2, []), (18, 0, 76, 0, []), (0, 0, 0, 0, []), (42, 0, 0, 0, [])]
def mzc_136 : List mzI := [(2, 0, 1, 0, []), (2, 1, 0, 0, []), (0, 0, 0, 0, []), (40, 75, 3, 0, []), (3, 3, 0, 0, []), (2, 3, 0, 0, []), (0, 0, 0, 10, []), (17, 3, 10, 0, []), (2, 3, 0, 0, []), (42, 0, 0, 0, []), (2, 3, 0, 0, []), (0, 0, 0, 10, []), (17, 1, 15, 0, []), (2, 2, 0, 0, []), (42, 0, 0, 0, []), (2, 3, 0, 0, []), (40, 77, 1, 0, []), (3, 4, 0, 0, []), (2, 0, 1, 0, []), (2, 4, 0, 0, []), (0, 0, 0, 0, []), (40, 75, 3, 0, []), (3, 5, 0, 0, []), (2, 0, 1, 0, []), (2, 4, 0, 0, []), (0, 0, 0, 1, []), (40, 75, 3, 0, []), (3, 6, 0, 0, []), (2, 0, 1, 0, []), (2, 4, 0, 0, []), (40, 73, 2, 0, []), (0, 0, 0, 1, []), (17, 1, 37, 0, []), (2, 2, 0, 0, []), (2, 6, 0, 0, []), (6, 1, 0, 0, []), (18, 0, 47, 0, []), (2, 5, 0, 0, []), (0, 0, 0, 10, []), (17, 1, 44, 0, []), (2, 2, 0, 0, []), (2, 6, 0, 0, []), (6, 0, 0, 0, []), (18, 0, 47, 0, []), (2, 2, 0, 0, []), (2, 5, 0, 0, []), (6, 0, 0, 0, []), (42, 0, 0, 0, [])]
def mzc_137 : List mzI := [(2, 0, 1, 0, []), (0, 0, 0, 0, []), (21, 5, 11, 0, []), (2, 0, 1, 0, []), (2, 1, 0, 0, []), (40, 72, 2, 0, []), (16, 1, 9, 0, []), (0, 0, 0, (-1), []), (42, 0, 0, 0, []), (2, 0, 1, 0, []), (2, 1, 0, 0, []), (40, 135, 2, 0, []), (3, 2, 0, 0, []), (2, 0, 1, 0, []), (0, 0, 0, 0, []), (21, 4, 11, 0, []), (2, 2, 0, 0, []), (16, 5, 25, 0, []), (2, 0, 1, 0, []), (2, 0, 1, 0, []), (2, 1, 0, 0, []), (0, 0, 0, 0, []), (40, 136, 3, 0, []), (8, 0, 0, 0, []), (40, 70, 2, 0, []), (2, 2, 0, 0, []), (42, 0, 0, 0, [])]
def mzc_138 : List mzI := [(2, 2, 0, 0, []), (0, 0, 0, 15, []), (6, 3, 0, 0, []), (3, 3, 0, 0, []), (2, 0, 1, 0, []), (20, 0, 11, 0, []), (0, 0, 0, 75, []), (2, 1, 0, 0, []), (6, 0, 0, 0, []), (22, 0, 0, 0, []), (3, 4, 0, 0, []), (2, 0, 1, 0, []), (20, 0, 11, 0, []), (0, 0, 0, 77, []), (2, 1, 0, 0, []), (6, 0, 0, 0, []), (22, 0, 0, 0, []), (16, 1, 22, 0, []), (2, 3, 0, 0, []), (2, 4, 0, 0, []), (6, 10, 0, 0, []), (18, 0, 27, 0, []), (2, 3, 0, 0, []), (0, 0, 0, 16, []), (2, 4, 0, 0, []), (6, 9, 0, 0, []), (6, 9, 0, 0, []), (42, 0, 0, 0, [])]
def mzc_139 : List mzI := [(2, 0, 1, 0, []), (2, 1, 0, 0, []), (40, 135, 2, 0, []), (16, 0, 8, 0, []), (2, 0, 1, 0, []), (2, 2, 0, 0, []), (40, 135, 2, 0, []), (16, 1, 10, 0, []), (0, 0, 0, 0, []), (42, 0, 1, 0, []), (0, 0, 0, 0, []), (3, 4, 0, 0, []), (2, 4, 0, 0, []), (0, 0, 0, 16, []), (17, 3, 40, 0, []), (2, 0, 1, 0, []), (2, 0, 1, 0, []), (2, 1, 0, 0, []), (40, 74, 2, 0, []), (2, 0, 1, 0, []), (2, 1, 0, 0, []), (2, 4, 0, 0, []), (40, 136, 3, 0, []), (40, 138, 3, 0, []), (2, 0, 1, 0, []), (2, 0, 1, 0, []), (2, 1, 0, 0, []), (40, 74, 2, 0, []), (2, 0, 1, 0, []), (2, 2, 0, 0, []), (2, 4, 0, 0, []), (2, 3, 0, 0, []), (6, 0, 0, 0, []), (40, 136, 3, 0, []), (40, 138, 3, 0, []), (17, 1, 38, 0, []), (0, 0, 0, 0, []), (42, 0, 1, 0, []), (5, 4, 0, 1, []), (18, 0, 12, 0, []), (0, 0, 0, 1, []), (42, 0, 1, 0, [])]
def mzc_140 : List mzI := [(2, 0, 1, 0, []), (20, 20, 11, 0, []), (2, 1, 0, 0, []), (6, 7, 0, 0, []), (0, 0, 0, 1, []), (6, 3, 0, 0, []), (0, 0, 0, 1, []), (17, 1, 10, 0, []), (0, 0, 0, 1, []), (18, 0, 11, 0, []), (0, 0, 0, 0, []), (42, 0, 1, 0, [])]
def mzc_141 : List mzI := [(0, 0, 0, 0, []), (3, 4, 0, 0, []), (0, 0, 0, 0, []), (3, 5, 0, 0, []), (2, 5, 0, 0, []), (2, 0, 1, 0, []), (20, 0, 11, 0, []), (0, 0, 0, 0, []), (22, 0, 0, 0, []), (17, 3, 70, 0, []), (2, 0, 1, 0, []), (2, 5, 0, 0, []), (40, 140, 2, 0, []), (16, 0, 68, 0, []), (2, 2, 0, 0, []), (2, 0, 1, 0, []), (20, 19, 11, 0, []), (2, 5, 0, 0, []), (22, 0, 0, 0, []), (0, 0, 0, 10, []), (6, 9, 0, 0, []), (6, 1, 0, 0, []), (2, 3, 0, 0, []), (6, 10, 0, 0, []), (16, 0, 26, 0, []), (18, 0, 68, 0, []), (2, 0, 1, 0, []), (2, 1, 0, 0, []), (40, 74, 2, 0, []), (0, 0, 0, (-1), []), (17, 0, 55, 0, []), (2, 0, 1, 0, []), (2, 5, 0, 0, []), (40, 74, 2, 0, []), (2, 0, 1, 0, []), (2, 1, 0, 0, []), (40, 74, 2, 0, []), (17, 1, 68, 0, []), (2, 0, 1, 0, []), (2, 1, 0, 0, []), (2, 5, 0, 0, []), (2, 2, 0, 0, []), (2, 0, 1, 0, []), (20, 19, 11, 0, []), (2, 5, 0, 0, []), (22, 0, 0, 0, []), (0, 0, 0, 10, []), (6, 9, 0, 0, []), (6, 1, 0, 0, []), (2, 3, 0, 0, []), (6, 9, 0, 0, []), (40, 139, 4, 0, []), (16, 1, 68, 0, []), (0, 0, 0, 0, []), (42, 0, 1, 0, []), (2, 0, 1, 0, []), (2, 5, 0, 0, []), (40, 74, 2, 0, []), (0, 0, 0, (-1), []), (17, 1, 68, 0, []), (2, 0, 1, 0, []), (2, 5, 0, 0, []), (40, 79, 2, 0, []), (2, 0, 1, 0, []), (2, 1, 0, 0, []), (40, 79, 2, 0, []), (17, 1, 68, 0, []), (5, 4, 0, 1, []), (5, 5, 0, 1, []), (18, 0, 4, 0, []), (2, 0, 1, 0, []), (2, 1, 0, 0, []), (40, 74, 2, 0, []), (0, 0, 0, (-1), []), (17, 1, 87, 0, []), (2, 4, 0, 0, []), (2, 0, 1, 0, []), (20, 0, 11, 0, []), (2, 0, 1, 0, []), (2, 1, 0, 0, []), (40, 79, 2, 0, []), (16, 0, 84, 0, []), (0, 0, 0, 73, []), (18, 0, 85, 0, []), (0, 0, 0, 74, []), (22, 0, 0, 0, []), (17, 3, 89, 0, []), (0, 0, 0, 1, []), (18, 0, 90, 0, []), (0, 0, 0, 0, []), (42, 0, 1, 0, [])]
def mzc_142 : List mzI := [(2, 0, 1, 0, []), (20, 17, 11, 0, []), (2, 1, 0, 0, []), (22, 0, 0, 0, []), (3, 3, 0, 0, []), (0, 0, 0, 0, []), (3, 4, 0, 0, []), (2, 4, 0, 0, []), (2, 0, 1, 0, []), (20, 0, 11, 0, []), (0, 0, 0, 0, []), (22, 0, 0, 0, []), (17, 3, 32, 0, []), (2, 0, 1, 0, []), (2, 4, 0, 0, []), (40, 140, 2, 0, []), (16, 0, 30, 0, []), (2, 3, 0, 0, []), (2, 0, 1, 0, []), (20, 19, 11, 0, []), (2, 4, 0, 0, []), (22, 0, 0, 0, []), (2, 0, 1, 0, []), (2, 1, 0, 0, []), (2, 4, 0, 0, []), (2, 2, 0, 0, []), (40, 122, 4, 0, []), (6, 0, 0, 0, []), (40, 288, 2, 0, []), (3, 3, 0, 0, []), (5, 4, 0, 1, []), (18, 0, 7, 0, []), (2, 0, 1, 0, []), (2, 1, 0, 0, []), (2, 3, 0, 0, []), (40, 120, 3, 0, []), (3, 3, 0, 0, []), (2, 3, 0, 0, []), (0, 0, 0, 10, []), (6, 9, 0, 0, []), (3, 4, 0, 0, []), (0, 0, 0, 0, []), (3, 5, 0, 0, []), (2, 5, 0, 0, []), (2, 2, 0, 0, []), (17, 3, 111, 0, []), (2, 0, 1, 0, []), (2, 1, 0, 0, []), (2, 4, 0, 0, []), (2, 5, 0, 0, []), (6, 0, 0, 0, []), (2, 2, 0, 0, []), (40, 141, 4, 0, []), (16, 1, 55, 0, []), (18, 0, 109, 0, []), (2, 0, 1, 0, []), (20, 19, 11, 0, []), (2, 1, 0, 0, []), (2, 5, 0, 0, []), (16, 1, 62, 0, []), (2, 3, 0, 0, []), (18, 0, 67, 0, []), (0, 0, 0, 10, []), (2, 4, 0, 0, []), (2, 5, 0, 0, []), (6, 0, 0, 0, []), (6, 2, 0, 0, []), (23, 0, 0, 0, []), (2, 0, 1, 0, []), (12, 0, 0, 0, []), (20, 20, 11, 0, []), (0, 0, 0, 1, []), (2, 1, 0, 0, []), (6, 6, 0, 0, []), (6, 4, 0, 0, []), (21, 20, 11, 0, []), (0, 0, 0, 0, []), (3, 6, 0, 0, []), (2, 6, 0, 0, []), (2, 0, 1, 0, []), (20, 0, 11, 0, []), (0, 0, 0, 0, []), (22, 0, 0, 0, []), (17, 3, 107, 0, []), (2, 0, 1, 0, []), (2, 6, 0, 0, []), (40, 140, 2, 0, []), (16, 0, 105, 0, []), (2, 0, 1, 0, []), (20, 19, 11, 0, []), (2, 6, 0, 0, []), (22, 0, 0, 0, []), (2, 0, 1, 0, []), (20, 19, 11, 0, []), (2, 1, 0, 0, []), (22, 0, 0, 0, []), (2, 0, 1, 0, []), (2, 6, 0, 0, []), (2, 1, 0, 0, []), (2, 2, 0, 0, []), (40, 122, 4, 0, []), (6, 0, 0, 0, []), (17, 3, 105, 0, []), (0, 0, 0, 0, []), (42, 0, 1, 0, []), (5, 6, 0, 1, []), (18, 0, 78, 0, []), (0, 0, 0, 1, []), (42, 0, 1, 0, []), (5, 5, 0, 1, []), (18, 0, 43, 0, []), (0, 0, 0, 0, []), (42, 0, 1, 0, [])]
def mzc_143 : List mzI := [(2, 0, 1, 0, []), (0, 0, 0, 0, []), (21, 20, 11, 0, []), (0, 0, 0, 0, []), (3, 2, 0, 0, []), (2, 2, 0, 0, []), (2, 0, 1, 0, []), (20, 0, 11, 0, []), (0, 0, 0, 0, []), (22, 0, 0, 0, []), (17, 3, 50, 0, []), (0, 0, 0, (-1), []), (3, 3, 0, 0, []), (0, 0, 0, 0, []), (3, 4, 0, 0, []), (2, 4, 0, 0, []), (2, 0, 1, 0, []), (20, 0, 11, 0, []), (0, 0, 0, 0, []), (22, 0, 0, 0, []), (17, 3, 41, 0, []), (2, 0, 1, 0, []), (2, 4, 0, 0, []), (40, 140, 2, 0, []), (16, 1, 39, 0, []), (2, 3, 0, 0, []), (0, 0, 0, (-1), []), (17, 0, 37, 0, []), (2, 0, 1, 0, []), (20, 18, 11, 0, []), (2, 4, 0, 0, []), (22, 0, 0, 0, []), (2, 0, 1, 0, []), (20, 18, 11, 0, []), (2, 3, 0, 0, []), (22, 0, 0, 0, []), (17, 3, 39, 0, []), (2, 4, 0, 0, []), (3, 3, 0, 0, []), (5, 4, 0, 1, []), (18, 0, 15, 0, []), (2, 0, 1, 0, []), (2, 3, 0, 0, []), (2, 1, 0, 0, []), (40, 142, 3, 0, []), (16, 1, 48, 0, []), (0, 0, 0, 0, []), (42, 0, 1, 0, []), (5, 2, 0, 1, []), (18, 0, 5, 0, []), (0, 0, 0, 1, []), (42, 0, 1, 0, [])]
def mzc_144 : List mzI := [(2, 0, 1, 0, []), (2, 1, 0, 0, []), (40, 123, 2, 0, []), (16, 1, 6, 0, []), (0, 0, 0, 0, []), (42, 0, 1, 0, []), (2, 0, 1, 0, []), (2, 1, 0, 0, []), (40, 125, 2, 0, []), (2, 0, 1, 0, []), (2, 1, 0, 0, []), (40, 143, 2, 0, []), (42, 0, 1, 0, [])]
def mzc_145 : List mzI := [(2, 0, 1, 0, []), (20, 0, 11, 0, []), (0, 0, 0, 0, []), (22, 0, 0, 0, []), (16, 1, 7, 0, []), (0, 0, 0, 0, []), (42, 0, 0, 0, []), (2, 0, 1, 0, []), (40, 129, 1, 0, []), (3, 1, 0, 0, []), (2, 1, 0, 0, []), (0, 0, 0, 200, []), (17, 3, 19, 0, []), (2, 0, 1, 0, []), (2, 1, 0, 0, []), (40, 144, 2, 0, []), (16, 1, 19, 0, []), (5, 1, 0, 1, []), (18, 0, 10, 0, []), (2, 1, 0, 0, []), (42, 0, 0, 0, [])]
def mzc_146 : List mzI := [(2, 0, 1, 0, []), (0, 0, 0, 0, []), (21, 4, 11, 0, []), (0, 0, 0, 0, []), (3, 1, 0, 0, []), (2, 1, 0, 0, []), (2, 0, 1, 0, []), (20, 0, 11, 0, []), (0, 0, 0, 0, []), (22, 0, 0, 0, []), (17, 3, 22, 0, []), (2, 0, 1, 0, []), (2, 0, 1, 0, []), (20, 19, 11, 0, []), (2, 1, 0, 0, []), (22, 0, 0, 0, []), (0, 0, 0, 10, []), (6, 9, 0, 0, []), (8, 0, 0, 0, []), (40, 70, 2, 0, []), (5, 1, 0, 1, []), (18, 0, 5, 0, []), (41, 0, 0, 0, [])]
def mzc_147 : List mzI := [(2, 0, 1, 0, []), (0, 0, 0, 0, []), (21, 5, 11, 0, []), (2, 0, 1, 0, []), (40, 145, 1, 0, []), (3, 1, 0, 0, []), (2, 0, 1, 0, []), (40, 146, 1, 0, []), (2, 1, 0, 0, []), (42, 0, 0, 0, [])]
def mzc_148 : List mzI := [(2, 0, 1, 0, []), (0, 0, 0, 0, []), (21, 5, 11, 0, []), (2, 0, 1, 0, []), (2, 1, 0, 0, []), (40, 72, 2, 0, []), (16, 1, 10, 0, []), (2, 0, 1, 0, []), (40, 69, 1, 0, []), (42, 0, 0, 0, []), (2, 0, 1, 0, []), (40, 145, 1, 0, []), (16, 3, 15, 0, []), (0, 0, 0, 0, []), (18, 0, 19, 0, []), (2, 0, 1, 0, []), (20, 19, 11, 0, []), (2, 1, 0, 0, []), (22, 0, 0, 0, []), (42, 0, 0, 0, [])]
def mzc_149 : List mzI := [(2, 0, 1, 0, []), (0, 0, 0, 0, []), (21, 5, 11, 0, []), (2, 0, 1, 0, []), (40, 145, 1, 0, []), (3, 1, 0, 0, []), (0, 0, 0, 0, []), (3, 2, 0, 0, []), (0, 0, 0, 0, []), (3, 3, 0, 0, []), (2, 3, 0, 0, []), (0, 0, 0, 4, []), (17, 3, 26, 0, []), (2, 0, 1, 0, []), (2, 3, 0, 0, []), (40, 128, 2, 0, []), (2, 1, 0, 0, []), (17, 2, 24, 0, []), (2, 2, 0, 0, []), (0, 0, 0, 1, []), (2, 3, 0, 0, []), (6, 6, 0, 0, []), (6, 4, 0, 0, []), (3, 2, 0, 0, []), (5, 3, 0, 1, []), (18, 0, 10, 0, []), (2, 0, 1, 0, []), (40, 126, 1, 0, []), (2, 1, 0, 0, []), (17, 2, 34, 0, []), (2, 2, 0, 0, []), (0, 0, 0, 16, []), (6, 4, 0, 0, []), (3, 2, 0, 0, []), (2, 0, 1, 0, []), (0, 0, 0, 0, []), (21, 4, 11, 0, []), (2, 0, 1, 0, []), (2, 1, 0, 0, []), (2, 0, 1, 0, []), (40, 129, 1, 0, []), (6, 1, 0, 0, []), (8, 0, 0, 0, []), (40, 70, 2, 0, []), (2, 2, 0, 0, []), (42, 0, 0, 0, [])]
def mzc_150 : List mzI := [(2, 0, 1, 0, []), (0, 0, 0, 0, []), (21, 5, 11, 0, []), (2, 1, 0, 0, []), (0, 0, 0, 1, []), (0, 0, 0, 60, []), (40, 68, 3, 0, []), (16, 1, 10, 0, []), (0, 0, 0, (-1), []), (42, 0, 0, 0, []), (2, 0, 1, 0, []), (2, 1, 0, 0, []), (40, 144, 2, 0, []), (3, 2, 0, 0, []), (2, 2, 0, 0, []), (16, 0, 18, 0, []), (2, 0, 1, 0, []), (40, 146, 1, 0, []), (2, 2, 0, 0, []), (16, 0, 22, 0, []), (0, 0, 0, 1, []), (18, 0, 23, 0, []), (0, 0, 0, 0, []), (42, 0, 0, 0, [])]
def mzc_151 : List mzI := [(2, 0, 1, 0, []), (0, 0, 0, 0, []), (21, 5, 11, 0, []), (2, 0, 1, 0, []), (40, 145, 1, 0, []), (3, 1, 0, 0, []), (2, 0, 1, 0, []), (20, 0, 11, 0, []), (0, 0, 0, 0, []), (22, 0, 0, 0, []), (16, 1, 13, 0, []), (0, 0, 0, 0, []), (18, 0, 17, 0, []), (2, 0, 1, 0, []), (2, 0, 1, 0, []), (20, 19, 11, 0, []), (40, 124, 2, 0, []), (3, 2, 0, 0, []), (2, 0, 1, 0, []), (0, 0, 0, 0, []), (21, 4, 11, 0, []), (2, 0, 1, 0, []), (2, 0, 1, 0, []), (20, 0, 11, 0, []), (0, 0, 0, 0, []), (22, 0, 0, 0, []), (16, 1, 29, 0, []), (1, 0, 0, 0, []), (18, 0, 33, 0, []), (2, 2, 0, 0, []), (2, 1, 0, 0, []), (40, 82, 2, 0, []), (8, 0, 0, 0, []), (40, 70, 2, 0, []), (2, 2, 0, 0, []), (42, 0, 0, 0, [])]
def mzc_152 : List mzI := [(2, 0, 1, 0, []), (0, 0, 0, 0, []), (21, 5, 11, 0, []), (2, 0, 1, 0, []), (40, 145, 1, 0, []), (3, 2, 0, 0, []), (2, 1, 0, 0, []), (0, 0, 0, 0, []), (2, 2, 0, 0, []), (0, 0, 0, 1, []), (6, 1, 0, 0, []), (40, 68, 3, 0, []), (16, 1, 15, 0, []), (0, 0, 0, (-1), []), (42, 0, 0, 0, []), (0, 0, 0, 0, []), (3, 3, 0, 0, []), (0, 0, 0, 0, []), (3, 4, 0, 0, []), (2, 4, 0, 0, []), (2, 0, 1, 0, []), (20, 0, 11, 0, []), (0, 0, 0, 0, []), (22, 0, 0, 0, []), (17, 3, 45, 0, []), (2, 3, 0, 0, []), (2, 0, 1, 0, []), (20, 19, 11, 0, []), (2, 4, 0, 0, []), (22, 0, 0, 0, []), (0, 0, 0, 10, []), (6, 9, 0, 0, []), (2, 2, 0, 0, []), (6, 10, 0, 0, []), (2, 1, 0, 0, []), (17, 1, 40, 0, []), (0, 0, 0, 1, []), (2, 4, 0, 0, []), (6, 6, 0, 0, []), (18, 0, 41, 0, []), (0, 0, 0, 0, []), (6, 4, 0, 0, []), (3, 3, 0, 0, []), (5, 4, 0, 1, []), (18, 0, 19, 0, []), (2, 3, 0, 0, []), (42, 0, 0, 0, [])]
def mzc_153 : List mzI := [(2, 2, 0, 0, []), (2, 0, 1, 0, []), (20, 19, 11, 0, []), (2, 1, 0, 0, []), (22, 0, 0, 0, []), (0, 0, 0, 10, []), (6, 9, 0, 0, []), (6, 1, 0, 0, []), (3, 5, 0, 0, []), (2, 5, 0, 0, []), (16, 2, 24, 0, []), (2, 5, 0, 0, []), (2, 4, 0, 0, []), (6, 10, 0, 0, []), (16, 1, 24, 0, []), (2, 5, 0, 0, []), (2, 4, 0, 0, []), (6, 9, 0, 0, []), (2, 3, 0, 0, []), (17, 3, 24, 0, []), (2, 5, 0, 0, []), (2, 4, 0, 0, []), (6, 9, 0, 0, []), (18, 0, 25, 0, []), (0, 0, 0, (-1), []), (42, 0, 0, 0, [])]
def mzc_154 : List mzI := [(2, 0, 1, 0, []), (0, 0, 0, 0, []), (21, 5, 11, 0, []), (2, 1, 0, 0, []), (16, 2, 10, 0, []), (2, 2, 0, 0, []), (0, 0, 0, 0, []), (0, 0, 0, 40, []), (40, 68, 3, 0, []), (16, 1, 12, 0, []), (0, 0, 0, (-1), []), (42, 0, 0, 0, []), (2, 0, 1, 0, []), (40, 145, 1, 0, []), (3, 3, 0, 0, []), (0, 0, 0, 0, []), (3, 4, 0, 0, []), (2, 0, 1, 0, []), (0, 0, 0, 0, []), (21, 4, 11, 0, []), (0, 0, 0, 0, []), (3, 5, 0, 0, []), (2, 5, 0, 0, []), (2, 0, 1, 0, []), (20, 0, 11, 0, []), (0, 0, 0, 0, []), (22, 0, 0, 0, []), (17, 3, 52, 0, []), (2, 0, 1, 0, []), (2, 5, 0, 0, []), (2, 1, 0, 0, []), (2, 2, 0, 0, []), (2, 3, 0, 0, []), (40, 153, 5, 0, []), (3, 6, 0, 0, []), (2, 4, 0, 0, []), (2, 6, 0, 0, []), (0, 0, 0, (-1), []), (17, 0, 43, 0, []), (0, 0, 0, 1, []), (2, 5, 0, 0, []), (6, 6, 0, 0, []), (18, 0, 44, 0, []), (0, 0, 0, 0, []), (6, 4, 0, 0, []), (3, 4, 0, 0, []), (2, 0, 1, 0, []), (2, 6, 0, 0, []), (8, 0, 0, 0, []), (40, 70, 2, 0, []), (5, 5, 0, 1, []), (18, 0, 22, 0, []), (2, 4, 0, 0, []), (42, 0, 0, 0, [])]
def mzc_155 : List mzI := [(0, 0, 0, (-1), []), (3, 3, 0, 0, []), (0, 0, 0, 0, []), (3, 4, 0, 0, []), (2, 4, 0, 0, []), (2, 0, 1, 0, []), (20, 0, 11, 0, []), (0, 0, 0, 0, []), (22, 0, 0, 0, []), (17, 3, 45, 0, []), (0, 0, 0, 0, []), (3, 5, 0, 0, []), (2, 5, 0, 0, []), (0, 0, 0, 2, []), (17, 3, 43, 0, []), (2, 0, 1, 0, []), (2, 4, 0, 0, []), (2, 5, 0, 0, []), (40, 75, 3, 0, []), (3, 6, 0, 0, []), (2, 6, 0, 0, []), (40, 76, 1, 0, []), (16, 0, 41, 0, []), (2, 6, 0, 0, []), (40, 77, 1, 0, []), (2, 1, 0, 0, []), (17, 1, 41, 0, []), (2, 3, 0, 0, []), (2, 0, 1, 0, []), (20, 19, 11, 0, []), (2, 4, 0, 0, []), (22, 0, 0, 0, []), (0, 0, 0, 10, []), (2, 2, 0, 0, []), (6, 2, 0, 0, []), (2, 6, 0, 0, []), (40, 78, 1, 0, []), (6, 2, 0, 0, []), (6, 0, 0, 0, []), (40, 288, 2, 0, []), (3, 3, 0, 0, []), (5, 5, 0, 1, []), (18, 0, 12, 0, []), (5, 4, 0, 1, []), (18, 0, 4, 0, []), (2, 3, 0, 0, []), (42, 0, 0, 0, [])]
def mzc_156 : List mzI := [(2, 0, 1, 0, []), (0, 0, 0, 0, []), (21, 5, 11, 0, []), (2, 0, 1, 0, []), (40, 145, 1, 0, []), (3, 1, 0, 0, []), (0, 0, 0, 0, []), (3, 2, 0, 0, []), (0, 0, 0, 0, []), (3, 3, 0, 0, []), (0, 0, 0, 0, []), (3, 4, 0, 0, []), (2, 4, 0, 0, []), (2, 1, 0, 0, []), (17, 3, 71, 0, []), (0, 0, 0, 0, []), (3, 5, 0, 0, []), (0, 0, 0, 0, []), (3, 6, 0, 0, []), (2, 6, 0, 0, []), (2, 0, 1, 0, []), (20, 0, 11, 0, []), (0, 0, 0, 0, []), (22, 0, 0, 0, []), (17, 3, 61, 0, []), (2, 0, 1, 0, []), (2, 6, 0, 0, []), (2, 1, 0, 0, []), (40, 155, 3, 0, []), (3, 7, 0, 0, []), (2, 0, 1, 0, []), (20, 19, 11, 0, []), (2, 6, 0, 0, []), (22, 0, 0, 0, []), (2, 0, 1, 0, []), (2, 6, 0, 0, []), (40, 119, 2, 0, []), (6, 0, 0, 0, []), (0, 0, 0, 10, []), (40, 82, 2, 0, []), (3, 8, 0, 0, []), (0, 0, 0, 10, []), (2, 8, 0, 0, []), (6, 2, 0, 0, []), (2, 7, 0, 0, []), (17, 4, 59, 0, []), (2, 5, 0, 0, []), (2, 8, 0, 0, []), (2, 1, 0, 0, []), (6, 10, 0, 0, []), (2, 4, 0, 0, []), (17, 1, 54, 0, []), (0, 0, 0, 1, []), (18, 0, 55, 0, []), (0, 0, 0, 0, []), (6, 0, 0, 0, []), (3, 5, 0, 0, []), (5, 8, 0, 1, []), (18, 0, 41, 0, []), (5, 6, 0, 1, []), (18, 0, 19, 0, []), (2, 5, 0, 0, []), (2, 2, 0, 0, []), (17, 4, 65, 0, []), (18, 0, 69, 0, []), (2, 5, 0, 0, []), (3, 2, 0, 0, []), (2, 4, 0, 0, []), (3, 3, 0, 0, []), (5, 4, 0, 1, []), (18, 0, 12, 0, []), (2, 0, 1, 0, []), (0, 0, 0, 0, []), (21, 4, 11, 0, []), (2, 0, 1, 0, []), (20, 0, 11, 0, []), (0, 0, 0, 0, []), (22, 0, 0, 0, []), (16, 5, 83, 0, []), (2, 0, 1, 0, []), (2, 3, 0, 0, []), (8, 0, 0, 0, []), (40, 70, 2, 0, []), (2, 2, 0, 0, []), (42, 0, 0, 0, [])]
def mzc_157 : List mzI := [(0, 0, 0, 1, []), (3, 3, 0, 0, []), (0, 0, 0, 0, []), (3, 4, 0, 0, []), (2, 4, 0, 0, []), (2, 1, 0, 0, []), (17, 3, 38, 0, []), (2, 0, 1, 0, []), (20, 21, 11, 0, []), (2, 4, 0, 0, []), (22, 0, 0, 0, []), (2, 0, 1, 0, []), (20, 21, 11, 0, []), (2, 1, 0, 0, []), (22, 0, 0, 0, []), (17, 0, 17, 0, []), (18, 0, 36, 0, []), (0, 0, 0, 0, []), (3, 3, 0, 0, []), (2, 0, 1, 0, []), (2, 0, 1, 0, []), (20, 23, 11, 0, []), (2, 4, 0, 0, []), (22, 0, 0, 0, []), (2, 2, 0, 0, []), (40, 75, 3, 0, []), (2, 0, 1, 0, []), (2, 0, 1, 0, []), (20, 23, 11, 0, []), (2, 1, 0, 0, []), (22, 0, 0, 0, []), (2, 2, 0, 0, []), (40, 75, 3, 0, []), (17, 1, 36, 0, []), (0, 0, 0, 0, []), (42, 0, 0, 0, []), (5, 4, 0, 1, []), (18, 0, 4, 0, []), (2, 3, 0, 0, []), (16, 0, 42, 0, []), (0, 0, 0, 0, []), (18, 0, 43, 0, []), (0, 0, 0, 1, []), (42, 0, 0, 0, [])]
def mzc_158 : List mzI := [(0, 0, 0, 0, []), (3, 3, 0, 0, []), (2, 3, 0, 0, []), (2, 1, 0, 0, []), (17, 3, 40, 0, []), (2, 0, 1, 0, []), (20, 21, 11, 0, []), (2, 3, 0, 0, []), (22, 0, 0, 0, []), (2, 0, 1, 0, []), (20, 21, 11, 0, []), (2, 1, 0, 0, []), (22, 0, 0, 0, []), (17, 1, 38, 0, []), (2, 0, 1, 0, []), (20, 19, 11, 0, []), (2, 0, 1, 0, []), (20, 23, 11, 0, []), (2, 3, 0, 0, []), (22, 0, 0, 0, []), (22, 0, 0, 0, []), (0, 0, 0, 10, []), (6, 9, 0, 0, []), (2, 0, 1, 0, []), (20, 19, 11, 0, []), (2, 0, 1, 0, []), (20, 23, 11, 0, []), (2, 1, 0, 0, []), (22, 0, 0, 0, []), (22, 0, 0, 0, []), (0, 0, 0, 10, []), (6, 9, 0, 0, []), (6, 1, 0, 0, []), (2, 2, 0, 0, []), (6, 10, 0, 0, []), (16, 1, 38, 0, []), (0, 0, 0, 0, []), (42, 0, 1, 0, []), (5, 3, 0, 1, []), (18, 0, 2, 0, []), (0, 0, 0, 1, []), (42, 0, 1, 0, [])]
def mzc_159 : List mzI := [(2, 4, 0, 0, []), (2, 0, 1, 0, []), (20, 25, 11, 0, []), (17, 2, 5, 0, []), (41, 0, 0, 0, []), (2, 1, 0, 0, []), (2, 0, 1, 0, []), (20, 24, 11, 0, []), (17, 1, 28, 0, []), (2, 0, 1, 0, []), (2, 4, 0, 0, []), (21, 25, 11, 0, []), (0, 0, 0, 0, []), (3, 5, 0, 0, []), (2, 5, 0, 0, []), (2, 1, 0, 0, []), (17, 3, 27, 0, []), (2, 0, 1, 0, []), (20, 22, 11, 0, []), (2, 5, 0, 0, []), (2, 0, 1, 0, []), (20, 21, 11, 0, []), (2, 5, 0, 0, []), (22, 0, 0, 0, []), (23, 0, 0, 0, []), (5, 5, 0, 1, []), (18, 0, 14, 0, []), (41, 0, 0, 0, []), (0, 0, 0, 0, []), (3, 5, 0, 0, []), (2, 5, 0, 0, []), (2, 2, 0, 0, []), (17, 3, 63, 0, []), (2, 0, 1, 0, []), (20, 21, 11, 0, []), (2, 1, 0, 0, []), (2, 5, 0, 0, []), (23, 0, 0, 0, []), (2, 0, 1, 0, []), (2, 1, 0, 0, []), (2, 3, 0, 0, []), (40, 158, 3, 0, []), (16, 0, 61, 0, []), (2, 0, 1, 0, []), (2, 1, 0, 0, []), (0, 0, 0, 1, []), (6, 0, 0, 0, []), (2, 2, 0, 0, []), (2, 3, 0, 0, []), (2, 4, 0, 0, []), (2, 0, 1, 0, []), (2, 1, 0, 0, []), (0, 0, 0, 0, []), (40, 157, 3, 0, []), (6, 0, 0, 0, []), (2, 0, 1, 0, []), (2, 1, 0, 0, []), (0, 0, 0, 1, []), (40, 157, 3, 0, []), (6, 0, 0, 0, []), (40, 159, 5, 0, []), (5, 5, 0, 1, []), (18, 0, 30, 0, []), (41, 0, 0, 0, [])]
def mzc_160 : List mzI := [(2, 0, 1, 0, []), (0, 0, 0, 0, []), (21, 5, 11, 0, []), (2, 1, 0, 0, []), (0, 0, 0, 0, []), (0, 0, 0, 1, []), (40, 68, 3, 0, []), (16, 1, 10, 0, []), (0, 0, 0, (-1), []), (42, 0, 0, 0, []), (2, 0, 1, 0, []), (40, 145, 1, 0, []), (3, 2, 0, 0, []), (2, 0, 1, 0, []), (0, 0, 0, 0, []), (21, 24, 11, 0, []), (0, 0, 0, 0, []), (3, 3, 0, 0, []), (2, 3, 0, 0, []), (2, 0, 1, 0, []), (20, 0, 11, 0, []), (0, 0, 0, 0, []), (22, 0, 0, 0, []), (17, 3, 51, 0, []), (2, 0, 1, 0, []), (2, 3, 0, 0, []), (40, 74, 2, 0, []), (0, 0, 0, (-1), []), (17, 1, 49, 0, []), (2, 0, 1, 0, []), (2, 3, 0, 0, []), (40, 79, 2, 0, []), (2, 1, 0, 0, []), (16, 1, 36, 0, []), (0, 0, 0, 1, []), (18, 0, 37, 0, []), (0, 0, 0, 0, []), (17, 1, 49, 0, []), (2, 0, 1, 0, []), (20, 23, 11, 0, []), (2, 0, 1, 0, []), (12, 0, 0, 0, []), (20, 24, 11, 0, []), (15, 0, 0, 0, []), (0, 0, 0, 1, []), (6, 0, 0, 0, []), (21, 24, 11, 0, []), (2, 3, 0, 0, []), (23, 0, 0, 0, []), (5, 3, 0, 1, []), (18, 0, 18, 0, []), (2, 0, 1, 0, []), (0, 0, 0, 1000000, []), (21, 25, 11, 0, []), (2, 0, 1, 0, []), (0, 0, 0, 0, []), (2, 0, 1, 0, []), (20, 0, 11, 0, []), (0, 0, 0, 73, []), (2, 1, 0, 0, []), (6, 0, 0, 0, []), (22, 0, 0, 0, []), (2, 2, 0, 0, []), (0, 0, 0, 0, []), (40, 159, 5, 0, []), (2, 0, 1, 0, []), (0, 0, 0, 0, []), (21, 4, 11, 0, []), (0, 0, 0, 0, []), (3, 3, 0, 0, []), (2, 3, 0, 0, []), (2, 0, 1, 0, []), (20, 24, 11, 0, []), (17, 3, 83, 0, []), (2, 0, 1, 0, []), (2, 0, 1, 0, []), (20, 22, 11, 0, []), (2, 3, 0, 0, []), (22, 0, 0, 0, []), (8, 0, 0, 0, []), (40, 70, 2, 0, []), (5, 3, 0, 1, []), (18, 0, 70, 0, []), (2, 0, 1, 0, []), (20, 25, 11, 0, []), (42, 0, 0, 0, [])]
def mzc_161 : List mzI := [(2, 0, 1, 0, []), (0, 0, 0, 0, []), (21, 5, 11, 0, []), (2, 1, 0, 0, []), (40, 98, 1, 0, []), (16, 1, 8, 0, []), (0, 0, 0, (-1), []), (42, 0, 0, 0, []), (2, 0, 1, 0, []), (40, 145, 1, 0, []), (3, 2, 0, 0, []), (0, 0, 0, 0, []), (3, 3, 0, 0, []), (2, 0, 1, 0, []), (0, 0, 0, 0, []), (21, 4, 11, 0, []), (0, 0, 0, 0, []), (3, 4, 0, 0, []), (2, 4, 0, 0, []), (2, 0, 1, 0, []), (20, 0, 11, 0, []), (0, 0, 0, 0, []), (22, 0, 0, 0, []), (17, 3, 76, 0, []), (2, 4, 0, 0, []), (0, 0, 0, 1, []), (6, 0, 0, 0, []), (3, 5, 0, 0, []), (2, 5, 0, 0, []), (2, 0, 1, 0, []), (20, 0, 11, 0, []), (0, 0, 0, 0, []), (22, 0, 0, 0, []), (17, 3, 74, 0, []), (2, 0, 1, 0, []), (2, 4, 0, 0, []), (40, 74, 2, 0, []), (2, 1, 0, 0, []), (17, 1, 72, 0, []), (2, 0, 1, 0, []), (2, 5, 0, 0, []), (40, 74, 2, 0, []), (2, 1, 0, 0, []), (17, 1, 72, 0, []), (2, 0, 1, 0, []), (20, 19, 11, 0, []), (2, 4, 0, 0, []), (22, 0, 0, 0, []), (0, 0, 0, 10, []), (6, 9, 0, 0, []), (2, 0, 1, 0, []), (20, 19, 11, 0, []), (2, 5, 0, 0, []), (22, 0, 0, 0, []), (0, 0, 0, 10, []), (6, 9, 0, 0, []), (6, 1, 0, 0, []), (2, 2, 0, 0, []), (6, 10, 0, 0, []), (16, 0, 61, 0, []), (18, 0, 72, 0, []), (2, 3, 0, 0, []), (16, 1, 71, 0, []), (2, 0, 1, 0, []), (2, 4, 0, 0, []), (8, 0, 0, 0, []), (40, 70, 2, 0, []), (2, 0, 1, 0, []), (2, 5, 0, 0, []), (8, 0, 0, 0, []), (40, 70, 2, 0, []), (5, 3, 0, 1, []), (5, 5, 0, 1, []), (18, 0, 28, 0, []), (5, 4, 0, 1, []), (18, 0, 18, 0, []), (2, 3, 0, 0, []), (42, 0, 0, 0, [])]
def mzc_162 : List mzI := [(0, 0, 0, 0, []), (3, 1, 0, 0, []), (0, 0, 0, 0, []), (3, 2, 0, 0, []), (2, 2, 0, 0, []), (0, 0, 0, 32, []), (17, 3, 18, 0, []), (2, 1, 0, 0, []), (2, 0, 1, 0, []), (20, 0, 11, 0, []), (0, 0, 0, 41, []), (2, 2, 0, 0, []), (6, 0, 0, 0, []), (22, 0, 0, 0, []), (6, 0, 0, 0, []), (3, 1, 0, 0, []), (5, 2, 0, 1, []), (18, 0, 4, 0, []), (2, 1, 0, 0, []), (42, 0, 0, 0, [])]
def mzc_163 : List mzI := [(0, 0, 0, 0, []), (3, 1, 0, 0, []), (2, 1, 0, 0, []), (0, 0, 0, 82, []), (17, 3, 15, 0, []), (2, 0, 1, 0, []), (20, 26, 11, 0, []), (2, 1, 0, 0, []), (2, 0, 1, 0, []), (20, 0, 11, 0, []), (2, 1, 0, 0, []), (22, 0, 0, 0, []), (23, 0, 0, 0, []), (5, 1, 0, 1, []), (18, 0, 2, 0, []), (41, 0, 0, 0, [])]
def mzc_164 : List mzI := [(0, 0, 0, 0, []), (3, 1, 0, 0, []), (2, 1, 0, 0, []), (0, 0, 0, 82, []), (17, 3, 15, 0, []), (2, 0, 1, 0, []), (20, 0, 11, 0, []), (2, 1, 0, 0, []), (2, 0, 1, 0, []), (20, 26, 11, 0, []), (2, 1, 0, 0, []), (22, 0, 0, 0, []), (23, 0, 0, 0, []), (5, 1, 0, 1, []), (18, 0, 2, 0, []), (41, 0, 0, 0, [])]
def mzc_165 : List mzI := [(2, 0, 1, 0, []), (0, 0, 0, 0, []), (21, 5, 11, 0, []), (2, 1, 0, 0, []), (0, 0, 0, 0, []), (0, 0, 0, 40, []), (40, 68, 3, 0, []), (16, 1, 10, 0, []), (0, 0, 0, (-1), []), (42, 0, 0, 0, []), (2, 0, 1, 0, []), (40, 163, 1, 0, []), (2, 0, 1, 0, []), (2, 1, 0, 0, []), (40, 112, 2, 0, []), (2, 0, 1, 0, []), (40, 162, 1, 0, []), (3, 2, 0, 0, []), (2, 0, 1, 0, []), (40, 164, 1, 0, []), (2, 0, 1, 0, []), (2, 1, 0, 0, []), (40, 113, 2, 0, []), (2, 2, 0, 0, []), (42, 0, 0, 0, [])]
def mzc_166 : List mzI := [(0, 0, 0, 0, []), (3, 4, 0, 0, []), (0, 0, 0, 0, []), (3, 5, 0, 0, []), (2, 5, 0, 0, []), (0, 0, 0, 10, []), (17, 3, 94, 0, []), (0, 0, 0, 0, []), (3, 6, 0, 0, []), (2, 6, 0, 0, []), (2, 0, 1, 0, []), (20, 0, 11, 0, []), (0, 0, 0, 0, []), (22, 0, 0, 0, []), (17, 3, 92, 0, []), (2, 0, 1, 0, []), (2, 6, 0, 0, []), (2, 1, 0, 0, []), (2, 2, 0, 0, []), (2, 3, 0, 0, []), (40, 153, 5, 0, []), (3, 7, 0, 0, []), (2, 7, 0, 0, []), (0, 0, 0, (-1), []), (17, 0, 90, 0, []), (2, 0, 1, 0, []), (20, 19, 11, 0, []), (2, 6, 0, 0, []), (22, 0, 0, 0, []), (0, 0, 0, 10, []), (6, 10, 0, 0, []), (2, 5, 0, 0, []), (17, 0, 34, 0, []), (18, 0, 90, 0, []), (2, 0, 1, 0, []), (2, 6, 0, 0, []), (40, 73, 2, 0, []), (0, 0, 0, 4, []), (17, 1, 48, 0, []), (2, 0, 1, 0, []), (20, 0, 11, 0, []), (2, 0, 1, 0, []), (2, 6, 0, 0, []), (2, 7, 0, 0, []), (40, 110, 3, 0, []), (22, 0, 0, 0, []), (3, 8, 0, 0, []), (18, 0, 81, 0, []), (2, 0, 1, 0, []), (2, 6, 0, 0, []), (40, 73, 2, 0, []), (0, 0, 0, 5, []), (17, 1, 76, 0, []), (2, 0, 1, 0, []), (2, 0, 1, 0, []), (2, 6, 0, 0, []), (0, 0, 0, 1, []), (40, 75, 3, 0, []), (2, 7, 0, 0, []), (40, 109, 3, 0, []), (3, 8, 0, 0, []), (2, 0, 1, 0, []), (20, 27, 11, 0, []), (2, 4, 0, 0, []), (2, 0, 1, 0, []), (2, 6, 0, 0, []), (2, 7, 0, 0, []), (40, 110, 3, 0, []), (23, 0, 0, 0, []), (2, 0, 1, 0, []), (20, 28, 11, 0, []), (2, 4, 0, 0, []), (2, 8, 0, 0, []), (23, 0, 0, 0, []), (5, 4, 0, 1, []), (18, 0, 81, 0, []), (2, 0, 1, 0, []), (2, 6, 0, 0, []), (2, 7, 0, 0, []), (40, 111, 3, 0, []), (3, 8, 0, 0, []), (2, 0, 1, 0, []), (20, 15, 11, 0, []), (0, 0, 0, 10, []), (2, 7, 0, 0, []), (6, 2, 0, 0, []), (2, 6, 0, 0, []), (6, 0, 0, 0, []), (2, 8, 0, 0, []), (23, 0, 0, 0, []), (5, 6, 0, 1, []), (18, 0, 9, 0, []), (5, 5, 0, 1, []), (18, 0, 4, 0, []), (0, 0, 0, 0, []), (3, 5, 0, 0, []), (2, 5, 0, 0, []), (2, 4, 0, 0, []), (17, 3, 112, 0, []), (2, 0, 1, 0, []), (20, 0, 11, 0, []), (2, 0, 1, 0, []), (20, 27, 11, 0, []), (2, 5, 0, 0, []), (22, 0, 0, 0, []), (2, 0, 1, 0, []), (20, 28, 11, 0, []), (2, 5, 0, 0, []), (22, 0, 0, 0, []), (23, 0, 0, 0, []), (5, 5, 0, 1, []), (18, 0, 96, 0, []), (41, 0, 0, 0, [])]
def mzc_167 : List mzI := [(2, 0, 1, 0, []), (20, 0, 11, 0, []), (0, 0, 0, 0, []), (22, 0, 0, 0, []), (16, 0, 7, 0, []), (2, 1, 0, 0, []), (16, 1, 9, 0, []), (0, 0, 0, 0, []), (18, 0, 19, 0, []), (2, 2, 0, 0, []), (2, 1, 0, 0, []), (0, 0, 0, 1, []), (6, 1, 0, 0, []), (6, 2, 0, 0, []), (2, 0, 1, 0, []), (2, 0, 1, 0, []), (20, 19, 11, 0, []), (40, 124, 2, 0, []), (6, 0, 0, 0, []), (42, 0, 0, 0, [])]
def mzc_168 : List mzI := [(2, 0, 1, 0, []), (0, 0, 0, 0, []), (21, 5, 11, 0, []), (2, 1, 0, 0, []), (0, 0, 0, 0, []), (0, 0, 0, 40, []), (40, 68, 3, 0, []), (16, 1, 10, 0, []), (0, 0, 0, (-1), []), (42, 0, 0, 0, []), (2, 0, 1, 0, []), (40, 145, 1, 0, []), (3, 2, 0, 0, []), (2, 0, 1, 0, []), (40, 163, 1, 0, []), (2, 0, 1, 0, []), (2, 1, 0, 0, []), (2, 2, 0, 0, []), (40, 167, 3, 0, []), (3, 3, 0, 0, []), (0, 0, 0, 0, []), (3, 4, 0, 0, []), (2, 4, 0, 0, []), (2, 3, 0, 0, []), (17, 3, 32, 0, []), (2, 0, 1, 0, []), (2, 4, 0, 0, []), (2, 1, 0, 0, []), (2, 2, 0, 0, []), (40, 166, 4, 0, []), (5, 4, 0, 1, []), (18, 0, 22, 0, []), (2, 0, 1, 0, []), (40, 162, 1, 0, []), (3, 4, 0, 0, []), (2, 0, 1, 0, []), (40, 164, 1, 0, []), (2, 0, 1, 0, []), (2, 1, 0, 0, []), (40, 113, 2, 0, []), (2, 0, 1, 0, []), (2, 4, 0, 0, []), (8, 0, 0, 0, []), (40, 70, 2, 0, []), (2, 3, 0, 0, []), (42, 0, 0, 0, [])]
def mzc_169 : List mzI := [(2, 0, 1, 0, []), (0, 0, 0, 0, []), (21, 5, 11, 0, []), (2, 1, 0, 0, []), (0, 0, 0, 0, []), (0, 0, 0, 40, []), (40, 68, 3, 0, []), (16, 1, 10, 0, []), (0, 0, 0, (-1), []), (42, 0, 0, 0, []), (2, 0, 1, 0, []), (40, 145, 1, 0, []), (3, 2, 0, 0, []), (2, 0, 1, 0, []), (20, 0, 11, 0, []), (0, 0, 0, 0, []), (22, 0, 0, 0, []), (16, 1, 20, 0, []), (0, 0, 0, 0, []), (18, 0, 24, 0, []), (2, 0, 1, 0, []), (2, 0, 1, 0, []), (20, 19, 11, 0, []), (40, 124, 2, 0, []), (3, 3, 0, 0, []), (0, 0, 0, 1000, []), (2, 1, 0, 0, []), (2, 3, 0, 0, []), (6, 2, 0, 0, []), (6, 0, 0, 0, []), (2, 0, 1, 0, []), (2, 1, 0, 0, []), (2, 2, 0, 0, []), (40, 167, 3, 0, []), (6, 1, 0, 0, []), (42, 0, 0, 0, [])]
def mzc_170 : List mzI := [(2, 0, 1, 0, []), (40, 145, 1, 0, []), (2, 1, 0, 0, []), (17, 4, 6, 0, []), (0, 0, 0, 1, []), (18, 0, 7, 0, []), (0, 0, 0, 0, []), (42, 0, 1, 0, [])]
def mzc_171 : List mzI := [(2, 0, 1, 0, []), (20, 0, 11, 0, []), (0, 0, 0, 73, []), (22, 0, 0, 0, []), (0, 0, 0, 3, []), (2, 0, 1, 0, []), (20, 0, 11, 0, []), (0, 0, 0, 74, []), (22, 0, 0, 0, []), (6, 2, 0, 0, []), (6, 0, 0, 0, []), (2, 0, 1, 0, []), (20, 0, 11, 0, []), (0, 0, 0, 75, []), (22, 0, 0, 0, []), (6, 0, 0, 0, []), (2, 0, 1, 0, []), (20, 0, 11, 0, []), (0, 0, 0, 76, []), (22, 0, 0, 0, []), (6, 0, 0, 0, []), (42, 0, 0, 0, [])]
def mzc_172 : List mzI := [(2, 0, 1, 0, []), (0, 0, 0, 0, []), (21, 5, 11, 0, []), (2, 1, 0, 0, []), (0, 0, 0, 1, []), (0, 0, 0, 60, []), (40, 68, 3, 0, []), (16, 1, 10, 0, []), (0, 0, 0, (-1), []), (42, 0, 0, 0, []), (2, 0, 1, 0, []), (40, 163, 1, 0, []), (0, 0, 0, 1000000, []), (3, 2, 0, 0, []), (0, 0, 0, 0, []), (3, 3, 0, 0, []), (0, 0, 0, 1, []), (3, 4, 0, 0, []), (2, 4, 0, 0, []), (0, 0, 0, 4, []), (17, 4, 96, 0, []), (0, 0, 0, 1, []), (3, 5, 0, 0, []), (2, 5, 0, 0, []), (0, 0, 0, 3, []), (17, 4, 94, 0, []), (0, 0, 0, 1, []), (3, 6, 0, 0, []), (2, 6, 0, 0, []), (0, 0, 0, 4, []), (17, 4, 92, 0, []), (0, 0, 0, 1, []), (3, 7, 0, 0, []), (2, 7, 0, 0, []), (0, 0, 0, 4, []), (17, 4, 87, 0, []), (2, 0, 1, 0, []), (20, 0, 11, 0, []), (0, 0, 0, 73, []), (2, 4, 0, 0, []), (23, 0, 0, 0, []), (2, 0, 1, 0, []), (20, 0, 11, 0, []), (0, 0, 0, 74, []), (2, 5, 0, 0, []), (23, 0, 0, 0, []), (2, 0, 1, 0, []), (20, 0, 11, 0, []), (0, 0, 0, 75, []), (2, 6, 0, 0, []), (23, 0, 0, 0, []), (2, 0, 1, 0, []), (20, 0, 11, 0, []), (0, 0, 0, 76, []), (2, 7, 0, 0, []), (23, 0, 0, 0, []), (2, 0, 1, 0, []), (40, 171, 1, 0, []), (2, 2, 0, 0, []), (17, 3, 82, 0, []), (2, 0, 1, 0, []), (2, 1, 0, 0, []), (40, 170, 2, 0, []), (16, 1, 65, 0, []), (18, 0, 82, 0, []), (2, 0, 1, 0, []), (40, 171, 1, 0, []), (3, 2, 0, 0, []), (0, 0, 0, 1000, []), (2, 4, 0, 0, []), (6, 2, 0, 0, []), (0, 0, 0, 100, []), (2, 5, 0, 0, []), (6, 2, 0, 0, []), (6, 0, 0, 0, []), (0, 0, 0, 10, []), (2, 6, 0, 0, []), (6, 2, 0, 0, []), (6, 0, 0, 0, []), (2, 7, 0, 0, []), (6, 0, 0, 0, []), (3, 3, 0, 0, []), (2, 7, 0, 0, []), (0, 0, 0, 2, []), (6, 2, 0, 0, []), (3, 7, 0, 0, []), (18, 0, 33, 0, []), (2, 6, 0, 0, []), (0, 0, 0, 2, []), (6, 2, 0, 0, []), (3, 6, 0, 0, []), (18, 0, 28, 0, []), (5, 5, 0, 1, []), (18, 0, 23, 0, []), (5, 4, 0, 1, []), (18, 0, 18, 0, []), (2, 0, 1, 0, []), (40, 164, 1, 0, []), (2, 2, 0, 0, []), (0, 0, 0, 1000000, []), (17, 1, 103, 0, []), (0, 0, 0, (-2), []), (42, 0, 0, 0, []), (2, 0, 1, 0, []), (0, 0, 0, 0, []), (21, 4, 11, 0, []), (0, 0, 0, 1000, []), (3, 4, 0, 0, []), (2, 4, 0, 0, []), (16, 5, 123, 0, []), (2, 0, 1, 0, []), (2, 3, 0, 0, []), (2, 4, 0, 0, []), (6, 9, 0, 0, []), (0, 0, 0, 10, []), (6, 10, 0, 0, []), (8, 0, 0, 0, []), (40, 70, 2, 0, []), (2, 4, 0, 0, []), (0, 0, 0, 10, []), (6, 9, 0, 0, []), (3, 4, 0, 0, []), (18, 0, 108, 0, []), (2, 2, 0, 0, []), (42, 0, 0, 0, [])]
def mzc_173 : List mzI := [(2, 0, 1, 0, []), (0, 0, 0, 0, []), (21, 5, 11, 0, []), (2, 0, 1, 0, []), (2, 1, 0, 0, []), (2, 2, 0, 0, []), (40, 105, 3, 0, []), (3, 3, 0, 0, []), (2, 3, 0, 0, []), (16, 3, 12, 0, []), (2, 3, 0, 0, []), (42, 0, 0, 0, []), (2, 0, 1, 0, []), (40, 145, 1, 0, []), (3, 4, 0, 0, []), (2, 0, 1, 0, []), (20, 0, 11, 0, []), (0, 0, 0, 73, []), (2, 1, 0, 0, []), (6, 0, 0, 0, []), (22, 0, 0, 0, []), (3, 5, 0, 0, []), (2, 0, 1, 0, []), (20, 0, 11, 0, []), (0, 0, 0, 73, []), (2, 1, 0, 0, []), (6, 0, 0, 0, []), (2, 2, 0, 0, []), (23, 0, 0, 0, []), (2, 0, 1, 0, []), (40, 145, 1, 0, []), (3, 6, 0, 0, []), (2, 0, 1, 0, []), (20, 0, 11, 0, []), (0, 0, 0, 73, []), (2, 1, 0, 0, []), (6, 0, 0, 0, []), (2, 5, 0, 0, []), (23, 0, 0, 0, []), (2, 0, 1, 0, []), (0, 0, 0, 0, []), (21, 4, 11, 0, []), (2, 0, 1, 0, []), (2, 4, 0, 0, []), (2, 6, 0, 0, []), (6, 1, 0, 0, []), (8, 0, 0, 0, []), (40, 70, 2, 0, []), (2, 6, 0, 0, []), (42, 0, 0, 0, [])]
def mzc_174 : List mzI := [(2, 0, 1, 0, []), (2, 0, 1, 0, []), (20, 29, 11, 0, []), (0, 0, 0, 1103515245, []), (6, 2, 0, 0, []), (0, 0, 0, 12345, []), (6, 0, 0, 0, []), (21, 29, 11, 0, []), (2, 0, 1, 0, []), (20, 29, 11, 0, []), (0, 0, 0, 16, []), (6, 8, 0, 0, []), (2, 1, 0, 0, []), (6, 10, 0, 0, []), (42, 0, 0, 0, [])]
def mzc_175 : List mzI := [(2, 0, 1, 0, []), (0, 0, 0, 6, []), (40, 174, 2, 0, []), (19, 0, 54, 0, [(0, 4), (1, 14), (2, 24), (3, 34), (4, 44)]), (2, 0, 1, 0, []), (20, 0, 11, 0, []), (0, 0, 0, 73, []), (2, 0, 1, 0, []), (0, 0, 0, 4, []), (40, 174, 2, 0, []), (0, 0, 0, 1, []), (6, 0, 0, 0, []), (23, 0, 0, 0, []), (41, 0, 0, 0, []), (2, 0, 1, 0, []), (20, 0, 11, 0, []), (0, 0, 0, 74, []), (2, 0, 1, 0, []), (0, 0, 0, 3, []), (40, 174, 2, 0, []), (0, 0, 0, 1, []), (6, 0, 0, 0, []), (23, 0, 0, 0, []), (41, 0, 0, 0, []), (2, 0, 1, 0, []), (20, 0, 11, 0, []), (0, 0, 0, 75, []), (0, 0, 0, 1, []), (2, 0, 1, 0, []), (0, 0, 0, 3, []), (40, 174, 2, 0, []), (6, 6, 0, 0, []), (23, 0, 0, 0, []), (41, 0, 0, 0, []), (2, 0, 1, 0, []), (20, 0, 11, 0, []), (0, 0, 0, 76, []), (0, 0, 0, 1, []), (2, 0, 1, 0, []), (0, 0, 0, 3, []), (40, 174, 2, 0, []), (6, 6, 0, 0, []), (23, 0, 0, 0, []), (41, 0, 0, 0, []), (2, 0, 1, 0, []), (20, 0, 11, 0, []), (0, 0, 0, 79, []), (2, 0, 1, 0, []), (0, 0, 0, 10, []), (40, 174, 2, 0, []), (0, 0, 0, 1, []), (6, 0, 0, 0, []), (23, 0, 0, 0, []), (41, 0, 0, 0, []), (2, 0, 1, 0, []), (20, 0, 11, 0, []), (0, 0, 0, 80, []), (2, 0, 1, 0, []), (0, 0, 0, 4, []), (40, 174, 2, 0, []), (0, 0, 0, 1, []), (6, 0, 0, 0, []), (23, 0, 0, 0, []), (41, 0, 0, 0, [])]
def mzc_176 : List mzI := [(2, 0, 1, 0, []), (0, 0, 0, 0, []), (21, 5, 11, 0, []), (2, 2, 0, 0, []), (0, 0, 0, 1, []), (0, 0, 0, 20, []), (40, 68, 3, 0, []), (16, 1, 10, 0, []), (0, 0, 0, (-1), []), (42, 0, 0, 0, []), (2, 0, 1, 0, []), (2, 1, 0, 0, []), (21, 29, 11, 0, []), (2, 0, 1, 0, []), (40, 163, 1, 0, []), (0, 0, 0, 0, []), (3, 3, 0, 0, []), (2, 3, 0, 0, []), (2, 2, 0, 0, []), (17, 3, 24, 0, []), (2, 0, 1, 0, []), (40, 175, 1, 0, []), (5, 3, 0, 1, []), (18, 0, 17, 0, []), (2, 0, 1, 0, []), (40, 145, 1, 0, []), (3, 3, 0, 0, []), (2, 0, 1, 0, []), (0, 0, 0, 0, []), (21, 4, 11, 0, []), (2, 0, 1, 0, []), (2, 0, 1, 0, []), (20, 0, 11, 0, []), (0, 0, 0, 0, []), (22, 0, 0, 0, []), (16, 1, 38, 0, []), (1, 0, 0, 0, []), (18, 0, 43, 0, []), (2, 0, 1, 0, []), (2, 0, 1, 0, []), (20, 19, 11, 0, []), (40, 124, 2, 0, []), (8, 0, 0, 0, []), (40, 70, 2, 0, []), (2, 0, 1, 0, []), (2, 0, 1, 0, []), (40, 171, 1, 0, []), (8, 0, 0, 0, []), (40, 70, 2, 0, []), (2, 0, 1, 0, []), (40, 164, 1, 0, []), (2, 3, 0, 0, []), (42, 0, 0, 0, [])]
def mzc_177 : List mzI := [(2, 0, 1, 0, []), (0, 0, 0, 0, []), (21, 5, 11, 0, []), (2, 1, 0, 0, []), (0, 0, 0, 0, []), (0, 0, 0, 1, []), (40, 68, 3, 0, []), (16, 1, 10, 0, []), (0, 0, 0, 0, []), (42, 0, 1, 0, []), (2, 0, 1, 0, []), (20, 31, 11, 0, []), (2, 1, 0, 0, []), (0, 0, 0, 1, []), (23, 2, 0, 0, []), (0, 0, 0, 0, []), (3, 2, 0, 0, []), (2, 2, 0, 0, []), (0, 0, 0, 82, []), (17, 3, 34, 0, []), (2, 0, 1, 0, []), (20, 30, 11, 0, []), (0, 0, 0, 82, []), (2, 1, 0, 0, []), (6, 2, 0, 0, []), (2, 2, 0, 0, []), (6, 0, 0, 0, []), (2, 0, 1, 0, []), (20, 0, 11, 0, []), (2, 2, 0, 0, []), (22, 0, 0, 0, []), (23, 0, 0, 0, []), (5, 2, 0, 1, []), (18, 0, 17, 0, []), (0, 0, 0, 1, []), (42, 0, 1, 0, [])]
def mzc_178 : List mzI := [(2, 0, 1, 0, []), (0, 0, 0, 0, []), (21, 5, 11, 0, []), (2, 1, 0, 0, []), (0, 0, 0, 0, []), (0, 0, 0, 1, []), (40, 68, 3, 0, []), (16, 0, 13, 0, []), (2, 0, 1, 0, []), (20, 31, 11, 0, []), (2, 1, 0, 0, []), (22, 2, 0, 0, []), (16, 1, 15, 0, []), (0, 0, 0, 0, []), (42, 0, 1, 0, []), (0, 0, 0, 0, []), (3, 2, 0, 0, []), (2, 2, 0, 0, []), (0, 0, 0, 82, []), (17, 3, 34, 0, []), (2, 0, 1, 0, []), (20, 0, 11, 0, []), (2, 2, 0, 0, []), (2, 0, 1, 0, []), (20, 30, 11, 0, []), (0, 0, 0, 82, []), (2, 1, 0, 0, []), (6, 2, 0, 0, []), (2, 2, 0, 0, []), (6, 0, 0, 0, []), (22, 0, 0, 0, []), (23, 0, 0, 0, []), (5, 2, 0, 1, []), (18, 0, 17, 0, []), (2, 0, 1, 0, []), (0, 0, 0, 0, []), (21, 13, 11, 0, []), (0, 0, 0, 1, []), (42, 0, 1, 0, [])]
def mzc_179 : List mzI := [(0, 0, 0, 0, []), (3, 2, 0, 0, []), (0, 0, 0, 0, []), (3, 3, 0, 0, []), (2, 3, 0, 0, []), (2, 0, 1, 0, []), (20, 0, 11, 0, []), (0, 0, 0, 0, []), (22, 0, 0, 0, []), (17, 3, 23, 0, []), (2, 2, 0, 0, []), (2, 0, 1, 0, []), (2, 3, 0, 0, []), (40, 73, 2, 0, []), (2, 1, 0, 0, []), (17, 1, 18, 0, []), (0, 0, 0, 1, []), (18, 0, 19, 0, []), (0, 0, 0, 0, []), (6, 0, 0, 0, []), (3, 2, 0, 0, []), (5, 3, 0, 1, []), (18, 0, 4, 0, []), (2, 2, 0, 0, []), (42, 0, 0, 0, [])]
def mzc_180 : List mzI := [(2, 0, 1, 0, []), (0, 0, 0, 0, []), (21, 5, 11, 0, []), (2, 1, 0, 0, []), (0, 0, 0, 5, []), (0, 0, 0, 13, []), (40, 68, 3, 0, []), (16, 0, 17, 0, []), (2, 0, 1, 0, []), (20, 0, 11, 0, []), (0, 0, 0, 73, []), (2, 1, 0, 0, []), (6, 0, 0, 0, []), (0, 0, 0, 5, []), (6, 1, 0, 0, []), (22, 0, 0, 0, []), (42, 0, 0, 0, []), (2, 1, 0, 0, []), (19, 0, 49, 0, [(0, 19), (1, 24), (2, 28), (3, 32), (4, 36), (5, 49), (6, 49), (7, 49), (8, 49), (9, 49), (10, 49), (11, 49), (12, 49), (13, 49), (14, 40), (15, 43), (16, 46)]), (2, 0, 1, 0, []), (20, 0, 11, 0, []), (0, 0, 0, 0, []), (22, 0, 0, 0, []), (42, 0, 0, 0, []), (2, 0, 1, 0, []), (0, 0, 0, 0, []), (40, 127, 2, 0, []), (42, 0, 0, 0, []), (2, 0, 1, 0, []), (0, 0, 0, 1, []), (40, 127, 2, 0, []), (42, 0, 0, 0, []), (2, 0, 1, 0, []), (0, 0, 0, 4, []), (40, 179, 2, 0, []), (42, 0, 0, 0, []), (2, 0, 1, 0, []), (0, 0, 0, 5, []), (40, 179, 2, 0, []), (42, 0, 0, 0, []), (2, 0, 1, 0, []), (20, 13, 11, 0, []), (42, 0, 0, 0, []), (2, 0, 1, 0, []), (20, 4, 11, 0, []), (42, 0, 0, 0, []), (2, 0, 1, 0, []), (20, 2, 11, 0, []), (42, 0, 0, 0, []), (0, 0, 0, (-1), []), (42, 0, 0, 0, [])]
def mzc_181 : List mzI := [(2, 0, 1, 0, []), (0, 0, 0, 0, []), (21, 5, 11, 0, []), (2, 1, 0, 0, []), (0, 0, 0, 0, []), (2, 0, 1, 0, []), (20, 4, 11, 0, []), (0, 0, 0, 1, []), (6, 1, 0, 0, []), (40, 68, 3, 0, []), (16, 0, 16, 0, []), (2, 0, 1, 0, []), (20, 3, 11, 0, []), (2, 1, 0, 0, []), (22, 1, 0, 0, []), (18, 0, 19, 0, []), (2, 0, 1, 0, []), (40, 69, 1, 0, []), (8, 0, 0, 0, []), (42, 2, 0, 0, [])]
def mzc_182 : List mzI := [(2, 0, 1, 0, []), (29, 0, 0, 0, []), (2, 0, 1, 0, []), (0, 0, 0, 0, []), (21, 2, 0, 0, []), (2, 0, 1, 0, []), (0, 0, 0, 10, []), (26, 0, 0, 0, []), (21, 3, 0, 2, []), (2, 0, 1, 0, []), (0, 0, 0, 0, []), (21, 4, 0, 0, []), (2, 0, 1, 0, []), (0, 0, 0, 0, []), (21, 5, 0, 0, []), (2, 0, 1, 0, []), (0, 0, 0, 10, []), (26, 0, 0, 0, []), (21, 6, 0, 2, []), (2, 0, 1, 0, []), (0, 0, 0, 10, []), (26, 1, 0, 0, []), (21, 7, 0, 2, []), (2, 0, 1, 0, []), (0, 0, 0, 10, []), (26, 1, 0, 0, []), (21, 8, 0, 2, []), (2, 0, 1, 0, []), (0, 0, 0, 10, []), (26, 1, 0, 0, []), (21, 9, 0, 2, []), (2, 0, 1, 0, []), (0, 0, 0, 4, []), (26, 1, 0, 0, []), (21, 10, 0, 2, []), (2, 0, 1, 0, []), (0, 0, 0, 4, []), (26, 1, 0, 0, []), (21, 11, 0, 2, []), (2, 0, 1, 0, []), (0, 0, 0, 4, []), (26, 1, 0, 0, []), (21, 12, 0, 2, []), (2, 0, 1, 0, []), (2, 1, 1, 0, []), (21, 0, 0, 2, []), (2, 0, 1, 0, []), (2, 2, 1, 0, []), (21, 1, 0, 2, []), (41, 0, 0, 0, [])]
def mzc_183 : List mzI := [(2, 0, 1, 0, []), (0, 0, 0, 0, []), (21, 2, 0, 0, []), (0, 0, 0, 0, []), (3, 2, 0, 0, []), (2, 2, 0, 0, []), (2, 0, 1, 0, []), (20, 0, 0, 0, []), (20, 0, 3, 0, []), (17, 3, 70, 0, []), (2, 1, 0, 0, []), (16, 1, 18, 0, []), (2, 0, 1, 0, []), (20, 0, 0, 0, []), (2, 2, 0, 0, []), (40, 218, 2, 0, []), (16, 0, 68, 0, []), (18, 0, 25, 0, []), (2, 0, 1, 0, []), (20, 0, 0, 0, []), (20, 1, 3, 0, []), (2, 2, 0, 0, []), (22, 0, 0, 0, []), (0, 0, 0, 3, []), (17, 1, 68, 0, []), (2, 0, 1, 0, []), (20, 7, 0, 0, []), (2, 0, 1, 0, []), (20, 2, 0, 0, []), (1, 0, 0, 1, []), (2, 0, 1, 0, []), (20, 1, 0, 0, []), (2, 2, 0, 0, []), (40, 240, 2, 0, []), (10, 0, 0, 0, []), (23, 1, 0, 0, []), (2, 0, 1, 0, []), (20, 8, 0, 0, []), (2, 0, 1, 0, []), (20, 2, 0, 0, []), (1, 0, 0, 1, []), (2, 0, 1, 0, []), (20, 0, 0, 0, []), (20, 3, 3, 0, []), (2, 2, 0, 0, []), (22, 0, 0, 0, []), (40, 184, 1, 0, []), (10, 0, 0, 0, []), (23, 1, 0, 0, []), (2, 0, 1, 0, []), (20, 9, 0, 0, []), (2, 0, 1, 0, []), (20, 2, 0, 0, []), (1, 0, 0, 1, []), (2, 0, 1, 0, []), (20, 0, 0, 0, []), (20, 4, 3, 0, []), (2, 2, 0, 0, []), (22, 0, 0, 0, []), (40, 184, 1, 0, []), (10, 0, 0, 0, []), (23, 1, 0, 0, []), (2, 0, 1, 0, []), (12, 0, 0, 0, []), (20, 2, 0, 0, []), (0, 0, 0, 1, []), (6, 0, 0, 0, []), (21, 2, 0, 0, []), (5, 2, 0, 1, []), (18, 0, 5, 0, []), (2, 0, 1, 0, []), (2, 0, 1, 0, []), (20, 0, 0, 0, []), (20, 6, 3, 0, []), (2, 1, 0, 0, []), (22, 0, 0, 0, []), (0, 0, 0, 4, []), (40, 289, 2, 0, []), (21, 4, 0, 0, []), (2, 0, 1, 0, []), (0, 0, 0, 21, []), (21, 5, 0, 0, []), (2, 0, 1, 0, []), (20, 10, 0, 0, []), (1, 0, 0, 0, []), (40, 291, 2, 0, []), (2, 0, 1, 0, []), (20, 11, 0, 0, []), (1, 0, 0, 0, []), (40, 291, 2, 0, []), (2, 0, 1, 0, []), (20, 12, 0, 0, []), (1, 0, 0, 0, []), (40, 291, 2, 0, []), (2, 0, 1, 0, []), (0, 0, 0, 0, []), (0, 0, 0, 0, []), (0, 0, 0, 0, []), (40, 185, 4, 0, []), (2, 0, 1, 0, []), (20, 5, 0, 0, []), (42, 0, 0, 0, [])]
def mzc_184 : List mzI := [(2, 0, 0, 0, []), (0, 0, 0, 11, []), (17, 3, 5, 0, []), (2, 0, 0, 0, []), (42, 0, 0, 0, []), (0, 0, 0, 11, []), (2, 0, 0, 0, []), (40, 221, 1, 0, []), (6, 0, 0, 0, []), (0, 0, 0, 10, []), (2, 0, 0, 0, []), (40, 222, 1, 0, []), (6, 2, 0, 0, []), (6, 0, 0, 0, []), (42, 0, 0, 0, [])]
def mzc_185 : List mzI := [(2, 2, 0, 0, []), (2, 0, 1, 0, []), (20, 5, 0, 0, []), (17, 2, 5, 0, []), (41, 0, 0, 0, []), (2, 1, 0, 0, []), (2, 0, 1, 0, []), (20, 2, 0, 0, []), (17, 2, 22, 0, []), (2, 0, 1, 0, []), (2, 2, 0, 0, []), (21, 5, 0, 0, []), (2, 0, 1, 0, []), (20, 6, 0, 0, []), (0, 0, 0, 0, []), (2, 0, 1, 0, []), (20, 3, 0, 0, []), (0, 0, 0, 0, []), (2, 0, 1, 0, []), (20, 2, 0, 0, []), (30, 0, 0, 0, []), (41, 0, 0, 0, []), (0, 0, 0, 0, []), (3, 4, 0, 0, []), (2, 4, 0, 0, []), (2, 3, 0, 0, []), (17, 4, 51, 0, []), (2, 4, 0, 0, []), (2, 0, 1, 0, []), (20, 4, 0, 0, []), (17, 3, 51, 0, []), (2, 0, 1, 0, []), (20, 10, 0, 0, []), (2, 4, 0, 0, []), (22, 1, 0, 0, []), (2, 0, 1, 0, []), (20, 7, 0, 0, []), (2, 1, 0, 0, []), (22, 1, 0, 0, []), (9, 0, 0, 0, []), (1, 0, 0, 0, []), (11, 0, 0, 0, []), (16, 1, 49, 0, []), (2, 0, 1, 0, []), (2, 4, 0, 0, []), (2, 1, 0, 0, []), (2, 2, 0, 0, []), (2, 3, 0, 0, []), (40, 186, 5, 0, []), (5, 4, 0, 1, []), (18, 0, 24, 0, []), (41, 0, 0, 0, [])]
def mzc_186 : List mzI := [(2, 0, 1, 0, []), (20, 10, 0, 0, []), (2, 1, 0, 0, []), (22, 1, 0, 0, []), (4, 5, 0, 0, []), (2, 0, 1, 0, []), (20, 11, 0, 0, []), (2, 1, 0, 0, []), (22, 1, 0, 0, []), (4, 7, 0, 0, []), (2, 0, 1, 0, []), (20, 12, 0, 0, []), (2, 1, 0, 0, []), (22, 1, 0, 0, []), (4, 9, 0, 0, []), (2, 0, 1, 0, []), (20, 10, 0, 0, []), (2, 1, 0, 0, []), (13, 0, 0, 0, []), (22, 1, 0, 0, []), (2, 0, 1, 0, []), (20, 7, 0, 0, []), (2, 2, 0, 0, []), (22, 1, 0, 0, []), (9, 1, 0, 0, []), (23, 1, 0, 0, []), (2, 0, 1, 0, []), (20, 11, 0, 0, []), (2, 1, 0, 0, []), (13, 0, 0, 0, []), (22, 1, 0, 0, []), (2, 0, 1, 0, []), (20, 8, 0, 0, []), (2, 2, 0, 0, []), (22, 1, 0, 0, []), (9, 1, 0, 0, []), (23, 1, 0, 0, []), (2, 0, 1, 0, []), (20, 12, 0, 0, []), (2, 1, 0, 0, []), (13, 0, 0, 0, []), (22, 1, 0, 0, []), (2, 0, 1, 0, []), (20, 9, 0, 0, []), (2, 2, 0, 0, []), (22, 1, 0, 0, []), (9, 1, 0, 0, []), (23, 1, 0, 0, []), (2, 0, 1, 0, []), (20, 6, 0, 0, []), (2, 2, 0, 0, []), (2, 1, 0, 0, []), (23, 0, 0, 0, []), (2, 7, 2, 0, []), (2, 0, 1, 0, []), (20, 8, 0, 0, []), (2, 2, 0, 0, []), (22, 1, 0, 0, []), (40, 187, 2, 0, []), (2, 9, 2, 0, []), (2, 0, 1, 0, []), (20, 9, 0, 0, []), (2, 2, 0, 0, []), (22, 1, 0, 0, []), (40, 187, 2, 0, []), (6, 0, 0, 0, []), (3, 11, 0, 0, []), (2, 0, 1, 0, []), (2, 2, 0, 0, []), (0, 0, 0, 1, []), (6, 0, 0, 0, []), (2, 3, 0, 0, []), (2, 11, 0, 0, []), (6, 0, 0, 0, []), (2, 4, 0, 0, []), (2, 1, 0, 0, []), (0, 0, 0, 1, []), (6, 0, 0, 0, []), (40, 288, 2, 0, []), (40, 185, 4, 0, []), (2, 0, 1, 0, []), (20, 10, 0, 0, []), (2, 1, 0, 0, []), (2, 5, 2, 0, []), (23, 1, 0, 0, []), (2, 0, 1, 0, []), (20, 11, 0, 0, []), (2, 1, 0, 0, []), (2, 7, 2, 0, []), (23, 1, 0, 0, []), (2, 0, 1, 0, []), (20, 12, 0, 0, []), (2, 1, 0, 0, []), (2, 9, 2, 0, []), (23, 1, 0, 0, []), (41, 0, 0, 0, [])]
def mzc_187 : List mzI := [(2, 0, 2, 0, []), (1, 0, 0, 0, []), (11, 0, 0, 0, []), (16, 0, 10, 0, []), (2, 0, 2, 0, []), (2, 2, 2, 0, []), (9, 0, 0, 0, []), (1, 0, 0, 0, []), (11, 0, 0, 0, []), (16, 0, 12, 0, []), (0, 0, 0, 0, []), (18, 0, 13, 0, []), (0, 0, 0, 1, []), (42, 0, 0, 0, [])]
def mzc_188 : List mzI := [(2, 0, 1, 0, []), (29, 0, 0, 0, []), (2, 0, 1, 0, []), (0, 0, 0, 1, []), (21, 1, 1, 1, []), (2, 0, 1, 0, []), (0, 0, 0, 0, []), (21, 2, 1, 0, []), (2, 0, 1, 0, []), (0, 0, 0, 10, []), (26, 0, 0, 0, []), (21, 3, 1, 2, []), (2, 0, 1, 0, []), (0, 0, 0, 10, []), (26, 0, 0, 0, []), (21, 4, 1, 2, []), (2, 0, 1, 0, []), (0, 0, 0, 10, []), (26, 0, 0, 0, []), (21, 5, 1, 2, []), (2, 0, 1, 0, []), (0, 0, 0, 10, []), (26, 0, 0, 0, []), (21, 6, 1, 2, []), (2, 0, 1, 0, []), (0, 0, 0, 10, []), (26, 0, 0, 0, []), (21, 7, 1, 2, []), (2, 0, 1, 0, []), (0, 0, 0, 0, []), (21, 8, 1, 0, []), (2, 0, 1, 0, []), (0, 0, 0, 110, []), (26, 0, 0, 0, []), (21, 9, 1, 2, []), (2, 0, 1, 0, []), (0, 0, 0, 110, []), (26, 0, 0, 0, []), (21, 10, 1, 2, []), (2, 0, 1, 0, []), (0, 0, 0, 110, []), (26, 0, 0, 0, []), (21, 11, 1, 2, []), (2, 0, 1, 0, []), (0, 0, 0, 110, []), (26, 0, 0, 0, []), (21, 12, 1, 2, []), (2, 0, 1, 0, []), (0, 0, 0, 610, []), (26, 0, 0, 0, []), (21, 13, 1, 2, []), (2, 0, 1, 0, []), (0, 0, 0, 610, []), (26, 0, 0, 0, []), (21, 14, 1, 2, []), (2, 0, 1, 0, []), (0, 0, 0, 610, []), (26, 0, 0, 0, []), (21, 15, 1, 2, []), (2, 0, 1, 0, []), (0, 0, 0, 61, []), (26, 0, 0, 0, []), (21, 16, 1, 2, []), (2, 0, 1, 0, []), (0, 0, 0, 10, []), (26, 0, 0, 0, []), (21, 17, 1, 2, []), (2, 0, 1, 0, []), (2, 1, 1, 0, []), (21, 0, 1, 2, []), (41, 0, 0, 0, [])]
def mzc_189 : List mzI := [(2, 0, 1, 0, []), (0, 0, 0, 1, []), (21, 1, 1, 1, []), (41, 0, 0, 0, [])]
def mzc_190 : List mzI := [(2, 0, 1, 0, []), (20, 1, 1, 0, []), (16, 1, 4, 0, []), (41, 0, 0, 0, []), (2, 0, 1, 0, []), (0, 0, 0, 0, []), (21, 1, 1, 1, []), (0, 0, 0, 0, []), (3, 1, 0, 0, []), (2, 1, 0, 0, []), (2, 0, 1, 0, []), (20, 0, 1, 0, []), (20, 0, 3, 0, []), (17, 3, 22, 0, []), (2, 0, 1, 0, []), (2, 1, 0, 0, []), (40, 191, 2, 0, []), (2, 0, 1, 0, []), (2, 1, 0, 0, []), (40, 192, 2, 0, []), (5, 1, 0, 1, []), (18, 0, 9, 0, []), (2, 0, 1, 0, []), (0, 0, 0, 0, []), (21, 8, 1, 0, []), (0, 0, 0, 0, []), (3, 1, 0, 0, []), (2, 1, 0, 0, []), (2, 0, 1, 0, []), (20, 0, 1, 0, []), (20, 0, 3, 0, []), (17, 3, 61, 0, []), (2, 0, 1, 0, []), (2, 1, 0, 0, []), (2, 0, 1, 0, []), (20, 0, 1, 0, []), (20, 3, 3, 0, []), (2, 1, 0, 0, []), (22, 0, 0, 0, []), (40, 194, 3, 0, []), (2, 0, 1, 0, []), (2, 1, 0, 0, []), (2, 0, 1, 0, []), (20, 0, 1, 0, []), (20, 4, 3, 0, []), (2, 1, 0, 0, []), (22, 0, 0, 0, []), (40, 194, 3, 0, []), (0, 0, 0, 0, []), (3, 2, 0, 0, []), (2, 2, 0, 0, []), (2, 1, 0, 0, []), (17, 3, 59, 0, []), (2, 0, 1, 0, []), (2, 2, 0, 0, []), (2, 1, 0, 0, []), (40, 195, 3, 0, []), (5, 2, 0, 1, []), (18, 0, 50, 0, []), (5, 1, 0, 1, []), (18, 0, 27, 0, []), (2, 0, 1, 0, []), (20, 16, 1, 0, []), (0, 0, 0, 0, []), (40, 290, 2, 0, []), (2, 0, 1, 0, []), (40, 198, 1, 0, []), (41, 0, 0, 0, [])]
def mzc_191 : List mzI := [(2, 0, 1, 0, []), (20, 5, 1, 0, []), (2, 1, 0, 0, []), (0, 0, 0, 0, []), (23, 0, 0, 0, []), (2, 0, 1, 0, []), (20, 0, 1, 0, []), (2, 1, 0, 0, []), (40, 218, 2, 0, []), (16, 0, 36, 0, []), (2, 0, 1, 0, []), (20, 3, 1, 0, []), (2, 1, 0, 0, []), (0, 0, 0, 0, []), (23, 0, 0, 0, []), (2, 0, 1, 0, []), (20, 4, 1, 0, []), (2, 1, 0, 0, []), (2, 0, 1, 0, []), (20, 0, 1, 0, []), (20, 6, 3, 0, []), (0, 0, 0, 6, []), (22, 0, 0, 0, []), (23, 0, 0, 0, []), (2, 0, 1, 0, []), (20, 5, 1, 0, []), (2, 1, 0, 0, []), (0, 0, 0, 10, []), (2, 0, 1, 0, []), (20, 0, 1, 0, []), (20, 6, 3, 0, []), (0, 0, 0, 6, []), (22, 0, 0, 0, []), (6, 1, 0, 0, []), (23, 0, 0, 0, []), (18, 0, 91, 0, []), (2, 0, 1, 0, []), (20, 0, 1, 0, []), (20, 1, 3, 0, []), (2, 1, 0, 0, []), (22, 0, 0, 0, []), (0, 0, 0, 3, []), (17, 1, 60, 0, []), (2, 0, 1, 0, []), (20, 3, 1, 0, []), (2, 1, 0, 0, []), (0, 0, 0, 1, []), (23, 0, 0, 0, []), (2, 0, 1, 0, []), (20, 4, 1, 0, []), (2, 1, 0, 0, []), (2, 0, 1, 0, []), (20, 0, 1, 0, []), (20, 6, 3, 0, []), (0, 0, 0, 7, []), (22, 0, 0, 0, []), (0, 0, 0, 10, []), (6, 2, 0, 0, []), (23, 0, 0, 0, []), (18, 0, 91, 0, []), (2, 0, 1, 0, []), (20, 3, 1, 0, []), (2, 1, 0, 0, []), (0, 0, 0, 2, []), (2, 0, 1, 0, []), (20, 0, 1, 0, []), (20, 2, 3, 0, []), (2, 1, 0, 0, []), (22, 0, 0, 0, []), (6, 0, 0, 0, []), (23, 0, 0, 0, []), (2, 0, 1, 0, []), (20, 4, 1, 0, []), (2, 1, 0, 0, []), (2, 0, 1, 0, []), (20, 0, 1, 0, []), (20, 1, 3, 0, []), (2, 1, 0, 0, []), (22, 0, 0, 0, []), (0, 0, 0, 4, []), (17, 1, 89, 0, []), (2, 0, 1, 0, []), (20, 0, 1, 0, []), (20, 6, 3, 0, []), (0, 0, 0, 8, []), (22, 0, 0, 0, []), (0, 0, 0, 10, []), (6, 2, 0, 0, []), (18, 0, 90, 0, []), (0, 0, 0, 10, []), (23, 0, 0, 0, []), (41, 0, 0, 0, [])]
def mzc_192 : List mzI := [(2, 0, 1, 0, []), (20, 6, 1, 0, []), (2, 1, 0, 0, []), (0, 0, 0, 0, []), (23, 0, 0, 0, []), (2, 0, 1, 0, []), (20, 7, 1, 0, []), (2, 1, 0, 0, []), (0, 0, 0, 0, []), (23, 0, 0, 0, []), (2, 0, 1, 0, []), (20, 0, 1, 0, []), (20, 1, 3, 0, []), (2, 1, 0, 0, []), (22, 0, 0, 0, []), (0, 0, 0, 4, []), (17, 3, 18, 0, []), (41, 0, 0, 0, []), (2, 0, 1, 0, []), (20, 0, 1, 0, []), (20, 3, 3, 0, []), (2, 1, 0, 0, []), (22, 0, 0, 0, []), (3, 2, 0, 0, []), (2, 2, 0, 0, []), (0, 0, 0, 10, []), (17, 3, 38, 0, []), (2, 0, 1, 0, []), (20, 6, 1, 0, []), (2, 1, 0, 0, []), (0, 0, 0, 1, []), (23, 0, 0, 0, []), (2, 0, 1, 0, []), (20, 7, 1, 0, []), (2, 1, 0, 0, []), (2, 2, 0, 0, []), (23, 0, 0, 0, []), (18, 0, 55, 0, []), (2, 2, 0, 0, []), (0, 0, 0, 10, []), (17, 1, 47, 0, []), (2, 0, 1, 0, []), (20, 6, 1, 0, []), (2, 1, 0, 0, []), (0, 0, 0, 2, []), (23, 0, 0, 0, []), (18, 0, 55, 0, []), (2, 2, 0, 0, []), (0, 0, 0, 41, []), (17, 3, 55, 0, []), (2, 0, 1, 0, []), (2, 1, 0, 0, []), (2, 2, 0, 0, []), (40, 221, 1, 0, []), (40, 193, 3, 0, []), (41, 0, 0, 0, [])]
def mzc_193 : List mzI := [(2, 0, 1, 0, []), (20, 0, 1, 0, []), (20, 3, 3, 0, []), (2, 2, 0, 0, []), (22, 0, 0, 0, []), (3, 3, 0, 0, []), (2, 0, 1, 0, []), (20, 0, 1, 0, []), (20, 4, 3, 0, []), (2, 2, 0, 0, []), (22, 0, 0, 0, []), (3, 4, 0, 0, []), (2, 0, 1, 0, []), (20, 0, 1, 0, []), (20, 1, 3, 0, []), (2, 2, 0, 0, []), (22, 0, 0, 0, []), (3, 5, 0, 0, []), (2, 3, 0, 0, []), (0, 0, 0, 10, []), (17, 1, 45, 0, []), (2, 4, 0, 0, []), (0, 0, 0, 10, []), (17, 3, 45, 0, []), (2, 5, 0, 0, []), (16, 0, 29, 0, []), (2, 5, 0, 0, []), (0, 0, 0, 1, []), (17, 1, 45, 0, []), (2, 0, 1, 0, []), (20, 6, 1, 0, []), (2, 1, 0, 0, []), (0, 0, 0, 2, []), (23, 0, 0, 0, []), (2, 0, 1, 0, []), (20, 7, 1, 0, []), (2, 1, 0, 0, []), (2, 5, 0, 0, []), (16, 1, 41, 0, []), (2, 4, 0, 0, []), (18, 0, 43, 0, []), (2, 4, 0, 0, []), (7, 0, 0, 0, []), (23, 0, 0, 0, []), (18, 0, 63, 0, []), (2, 4, 0, 0, []), (0, 0, 0, 10, []), (17, 1, 63, 0, []), (2, 3, 0, 0, []), (0, 0, 0, 10, []), (17, 3, 63, 0, []), (2, 5, 0, 0, []), (16, 1, 63, 0, []), (2, 0, 1, 0, []), (20, 6, 1, 0, []), (2, 1, 0, 0, []), (0, 0, 0, 2, []), (23, 0, 0, 0, []), (2, 0, 1, 0, []), (20, 7, 1, 0, []), (2, 1, 0, 0, []), (2, 3, 0, 0, []), (23, 0, 0, 0, []), (41, 0, 0, 0, [])]
def mzc_194 : List mzI := [(2, 2, 0, 0, []), (0, 0, 0, 11, []), (17, 2, 16, 0, []), (2, 2, 0, 0, []), (40, 221, 1, 0, []), (3, 3, 0, 0, []), (2, 0, 1, 0, []), (2, 3, 0, 0, []), (2, 1, 0, 0, []), (2, 0, 1, 0, []), (20, 4, 1, 0, []), (2, 3, 0, 0, []), (22, 0, 0, 0, []), (2, 2, 0, 0, []), (40, 222, 1, 0, []), (40, 196, 5, 0, []), (41, 0, 0, 0, [])]
def mzc_195 : List mzI := [(2, 0, 1, 0, []), (20, 0, 1, 0, []), (20, 2, 3, 0, []), (2, 1, 0, 0, []), (22, 0, 0, 0, []), (0, 0, 0, (-1), []), (17, 0, 20, 0, []), (2, 0, 1, 0, []), (20, 0, 1, 0, []), (20, 2, 3, 0, []), (2, 1, 0, 0, []), (22, 0, 0, 0, []), (2, 0, 1, 0, []), (20, 0, 1, 0, []), (20, 2, 3, 0, []), (2, 2, 0, 0, []), (22, 0, 0, 0, []), (17, 1, 20, 0, []), (0, 0, 0, 1, []), (18, 0, 21, 0, []), (0, 0, 0, 0, []), (3, 3, 0, 0, []), (2, 3, 0, 0, []), (16, 0, 50, 0, []), (2, 0, 1, 0, []), (20, 0, 1, 0, []), (20, 1, 3, 0, []), (2, 1, 0, 0, []), (22, 0, 0, 0, []), (0, 0, 0, 5, []), (17, 0, 38, 0, []), (2, 0, 1, 0, []), (20, 0, 1, 0, []), (20, 1, 3, 0, []), (2, 2, 0, 0, []), (22, 0, 0, 0, []), (0, 0, 0, 5, []), (17, 1, 50, 0, []), (2, 0, 1, 0, []), (2, 1, 0, 0, []), (2, 2, 0, 0, []), (0, 0, 0, 10, []), (0, 0, 0, 0, []), (40, 196, 5, 0, []), (2, 0, 1, 0, []), (2, 2, 0, 0, []), (2, 1, 0, 0, []), (0, 0, 0, 10, []), (0, 0, 0, 1, []), (40, 196, 5, 0, []), (41, 0, 0, 0, [])]
def mzc_196 : List mzI := [(2, 0, 1, 0, []), (20, 8, 1, 0, []), (0, 0, 0, 110, []), (17, 3, 34, 0, []), (2, 0, 1, 0, []), (20, 9, 1, 0, []), (2, 0, 1, 0, []), (20, 8, 1, 0, []), (2, 1, 0, 0, []), (23, 0, 0, 0, []), (2, 0, 1, 0, []), (20, 10, 1, 0, []), (2, 0, 1, 0, []), (20, 8, 1, 0, []), (2, 2, 0, 0, []), (23, 0, 0, 0, []), (2, 0, 1, 0, []), (20, 11, 1, 0, []), (2, 0, 1, 0, []), (20, 8, 1, 0, []), (2, 3, 0, 0, []), (23, 0, 0, 0, []), (2, 0, 1, 0, []), (20, 12, 1, 0, []), (2, 0, 1, 0, []), (20, 8, 1, 0, []), (2, 4, 0, 0, []), (23, 0, 0, 0, []), (2, 0, 1, 0, []), (12, 0, 0, 0, []), (20, 8, 1, 0, []), (0, 0, 0, 1, []), (6, 0, 0, 0, []), (21, 8, 1, 0, []), (41, 0, 0, 0, [])]
def mzc_197 : List mzI := [(2, 0, 1, 0, []), (20, 11, 1, 0, []), (2, 1, 0, 0, []), (22, 0, 0, 0, []), (2, 0, 1, 0, []), (20, 12, 1, 0, []), (2, 1, 0, 0, []), (22, 0, 0, 0, []), (2, 2, 0, 0, []), (6, 2, 0, 0, []), (0, 0, 0, 10, []), (6, 2, 0, 0, []), (6, 1, 0, 0, []), (42, 0, 0, 0, [])]
def mzc_198 : List mzI := [(2, 0, 1, 0, []), (2, 0, 1, 0, []), (20, 0, 1, 0, []), (20, 0, 3, 0, []), (16, 1, 7, 0, []), (0, 0, 0, 0, []), (18, 0, 8, 0, []), (0, 0, 0, 1, []), (21, 2, 1, 0, []), (2, 0, 1, 0, []), (20, 2, 1, 0, []), (16, 5, 28, 0, []), (2, 0, 1, 0, []), (20, 2, 1, 0, []), (0, 0, 0, 60, []), (17, 3, 28, 0, []), (2, 0, 1, 0, []), (2, 0, 1, 0, []), (20, 2, 1, 0, []), (40, 201, 2, 0, []), (16, 1, 28, 0, []), (2, 0, 1, 0, []), (12, 0, 0, 0, []), (20, 2, 1, 0, []), (0, 0, 0, 1, []), (6, 0, 0, 0, []), (21, 2, 1, 0, []), (18, 0, 9, 0, []), (41, 0, 0, 0, [])]
def mzc_199 : List mzI := [(0, 0, 0, 0, []), (3, 2, 0, 0, []), (0, 0, 0, 0, []), (3, 3, 0, 0, []), (2, 3, 0, 0, []), (2, 0, 1, 0, []), (20, 0, 1, 0, []), (20, 0, 3, 0, []), (17, 3, 18, 0, []), (2, 0, 1, 0, []), (20, 3, 1, 0, []), (2, 3, 0, 0, []), (22, 0, 0, 0, []), (2, 1, 0, 0, []), (17, 1, 16, 0, []), (5, 2, 0, 1, []), (5, 3, 0, 1, []), (18, 0, 4, 0, []), (2, 2, 0, 0, []), (2, 0, 1, 0, []), (20, 0, 1, 0, []), (20, 6, 3, 0, []), (2, 1, 0, 0, []), (22, 0, 0, 0, []), (40, 49, 2, 0, []), (42, 0, 0, 0, [])]
def mzc_200 : List mzI := [(2, 0, 1, 0, []), (20, 2, 1, 0, []), (3, 1, 0, 0, []), (0, 0, 0, 0, []), (3, 2, 0, 0, []), (2, 2, 0, 0, []), (0, 0, 0, 4, []), (17, 3, 16, 0, []), (2, 1, 0, 0, []), (2, 0, 1, 0, []), (2, 2, 0, 0, []), (40, 199, 2, 0, []), (40, 288, 2, 0, []), (3, 1, 0, 0, []), (5, 2, 0, 1, []), (18, 0, 5, 0, []), (2, 1, 0, 0, []), (42, 0, 0, 0, [])]
def mzc_201 : List mzI := [(2, 1, 0, 0, []), (0, 0, 0, 1, []), (17, 2, 6, 0, []), (2, 1, 0, 0, []), (0, 0, 0, 60, []), (17, 5, 8, 0, []), (0, 0, 0, 0, []), (42, 0, 1, 0, []), (2, 0, 1, 0, []), (20, 16, 1, 0, []), (2, 1, 0, 0, []), (22, 0, 0, 0, []), (16, 1, 36, 0, []), (2, 0, 1, 0, []), (20, 16, 1, 0, []), (2, 1, 0, 0, []), (2, 0, 1, 0, []), (2, 1, 0, 0, []), (40, 202, 2, 0, []), (16, 0, 22, 0, []), (0, 0, 0, 1, []), (18, 0, 23, 0, []), (0, 0, 0, 2, []), (23, 0, 0, 0, []), (2, 0, 1, 0, []), (20, 16, 1, 0, []), (2, 1, 0, 0, []), (22, 0, 0, 0, []), (0, 0, 0, 1, []), (17, 1, 36, 0, []), (2, 0, 1, 0, []), (2, 1, 0, 0, []), (40, 204, 2, 0, []), (2, 0, 1, 0, []), (2, 1, 0, 0, []), (40, 206, 2, 0, []), (2, 0, 1, 0, []), (20, 16, 1, 0, []), (2, 1, 0, 0, []), (22, 0, 0, 0, []), (0, 0, 0, 1, []), (17, 1, 44, 0, []), (0, 0, 0, 1, []), (18, 0, 45, 0, []), (0, 0, 0, 0, []), (42, 0, 1, 0, [])]
def mzc_202 : List mzI := [(2, 1, 0, 0, []), (0, 0, 0, 10, []), (6, 2, 0, 0, []), (3, 2, 0, 0, []), (0, 0, 0, 0, []), (3, 3, 0, 0, []), (2, 3, 0, 0, []), (2, 0, 1, 0, []), (20, 0, 1, 0, []), (20, 0, 3, 0, []), (17, 3, 20, 0, []), (2, 0, 1, 0, []), (20, 13, 1, 0, []), (2, 2, 0, 0, []), (2, 3, 0, 0, []), (6, 0, 0, 0, []), (0, 0, 0, 0, []), (23, 0, 0, 0, []), (5, 3, 0, 1, []), (18, 0, 6, 0, []), (2, 0, 1, 0, []), (20, 0, 1, 0, []), (0, 0, 0, 0, []), (0, 0, 0, 2, []), (40, 219, 3, 0, []), (3, 3, 0, 0, []), (2, 3, 0, 0, []), (0, 0, 0, 1, []), (6, 0, 0, 0, []), (2, 0, 1, 0, []), (20, 0, 1, 0, []), (20, 0, 3, 0, []), (2, 3, 0, 0, []), (6, 1, 0, 0, []), (0, 0, 0, 1, []), (6, 0, 0, 0, []), (6, 2, 0, 0, []), (3, 4, 0, 0, []), (0, 0, 0, 0, []), (3, 5, 0, 0, []), (2, 5, 0, 0, []), (2, 4, 0, 0, []), (17, 3, 52, 0, []), (2, 0, 1, 0, []), (2, 2, 0, 0, []), (2, 1, 0, 0, []), (40, 203, 3, 0, []), (16, 1, 50, 0, []), (0, 0, 0, 1, []), (42, 0, 1, 0, []), (5, 5, 0, 1, []), (18, 0, 40, 0, []), (0, 0, 0, 0, []), (42, 0, 1, 0, [])]
def mzc_203 : List mzI := [(0, 0, 0, 0, []), (3, 3, 0, 0, []), (0, 0, 0, 0, []), (3, 4, 0, 0, []), (2, 4, 0, 0, []), (2, 0, 1, 0, []), (20, 8, 1, 0, []), (17, 3, 54, 0, []), (2, 0, 1, 0, []), (2, 0, 1, 0, []), (20, 10, 1, 0, []), (2, 4, 0, 0, []), (22, 0, 0, 0, []), (2, 0, 1, 0, []), (20, 13, 1, 0, []), (2, 1, 0, 0, []), (2, 0, 1, 0, []), (20, 9, 1, 0, []), (2, 4, 0, 0, []), (22, 0, 0, 0, []), (6, 0, 0, 0, []), (22, 0, 0, 0, []), (2, 0, 1, 0, []), (2, 4, 0, 0, []), (2, 2, 0, 0, []), (40, 197, 3, 0, []), (6, 0, 0, 0, []), (40, 207, 3, 0, []), (3, 5, 0, 0, []), (2, 5, 0, 0, []), (2, 0, 1, 0, []), (20, 13, 1, 0, []), (2, 1, 0, 0, []), (2, 0, 1, 0, []), (20, 10, 1, 0, []), (2, 4, 0, 0, []), (22, 0, 0, 0, []), (6, 0, 0, 0, []), (22, 0, 0, 0, []), (17, 5, 52, 0, []), (2, 0, 1, 0, []), (20, 13, 1, 0, []), (2, 1, 0, 0, []), (2, 0, 1, 0, []), (20, 10, 1, 0, []), (2, 4, 0, 0, []), (22, 0, 0, 0, []), (6, 0, 0, 0, []), (2, 5, 0, 0, []), (23, 0, 0, 0, []), (0, 0, 0, 1, []), (3, 3, 0, 0, []), (5, 4, 0, 1, []), (18, 0, 4, 0, []), (2, 3, 0, 0, []), (42, 0, 1, 0, [])]
def mzc_204 : List mzI := [(2, 1, 0, 0, []), (0, 0, 0, 10, []), (6, 2, 0, 0, []), (3, 2, 0, 0, []), (2, 0, 1, 0, []), (2, 1, 0, 0, []), (40, 209, 2, 0, []), (0, 0, 0, 10, []), (6, 2, 0, 0, []), (3, 3, 0, 0, []), (0, 0, 0, 0, []), (3, 4, 0, 0, []), (2, 4, 0, 0, []), (2, 0, 1, 0, []), (20, 0, 1, 0, []), (20, 0, 3, 0, []), (17, 3, 34, 0, []), (2, 0, 1, 0, []), (20, 14, 1, 0, []), (2, 2, 0, 0, []), (2, 4, 0, 0, []), (6, 0, 0, 0, []), (2, 0, 1, 0, []), (2, 4, 0, 0, []), (2, 3, 0, 0, []), (2, 0, 1, 0, []), (20, 4, 1, 0, []), (2, 4, 0, 0, []), (22, 0, 0, 0, []), (6, 1, 0, 0, []), (40, 208, 3, 0, []), (23, 0, 0, 0, []), (5, 4, 0, 1, []), (18, 0, 12, 0, []), (0, 0, 0, 1, []), (3, 4, 0, 0, []), (0, 0, 0, 0, []), (3, 5, 0, 0, []), (2, 5, 0, 0, []), (0, 0, 0, 100, []), (17, 4, 50, 0, []), (2, 4, 0, 0, []), (16, 0, 50, 0, []), (2, 0, 1, 0, []), (2, 2, 0, 0, []), (2, 1, 0, 0, []), (40, 205, 3, 0, []), (3, 4, 0, 0, []), (5, 5, 0, 1, []), (18, 0, 38, 0, []), (41, 0, 0, 0, [])]
def mzc_205 : List mzI := [(0, 0, 0, 0, []), (3, 3, 0, 0, []), (0, 0, 0, 0, []), (3, 4, 0, 0, []), (2, 4, 0, 0, []), (2, 0, 1, 0, []), (20, 8, 1, 0, []), (17, 3, 54, 0, []), (2, 0, 1, 0, []), (2, 0, 1, 0, []), (20, 9, 1, 0, []), (2, 4, 0, 0, []), (22, 0, 0, 0, []), (2, 0, 1, 0, []), (20, 14, 1, 0, []), (2, 1, 0, 0, []), (2, 0, 1, 0, []), (20, 10, 1, 0, []), (2, 4, 0, 0, []), (22, 0, 0, 0, []), (6, 0, 0, 0, []), (22, 0, 0, 0, []), (2, 0, 1, 0, []), (2, 4, 0, 0, []), (2, 2, 0, 0, []), (40, 197, 3, 0, []), (6, 1, 0, 0, []), (40, 208, 3, 0, []), (3, 5, 0, 0, []), (2, 5, 0, 0, []), (2, 0, 1, 0, []), (20, 14, 1, 0, []), (2, 1, 0, 0, []), (2, 0, 1, 0, []), (20, 9, 1, 0, []), (2, 4, 0, 0, []), (22, 0, 0, 0, []), (6, 0, 0, 0, []), (22, 0, 0, 0, []), (17, 3, 52, 0, []), (2, 0, 1, 0, []), (20, 14, 1, 0, []), (2, 1, 0, 0, []), (2, 0, 1, 0, []), (20, 9, 1, 0, []), (2, 4, 0, 0, []), (22, 0, 0, 0, []), (6, 0, 0, 0, []), (2, 5, 0, 0, []), (23, 0, 0, 0, []), (0, 0, 0, 1, []), (3, 3, 0, 0, []), (5, 4, 0, 1, []), (18, 0, 4, 0, []), (2, 3, 0, 0, []), (42, 0, 1, 0, [])]
def mzc_206 : List mzI := [(2, 1, 0, 0, []), (0, 0, 0, 10, []), (6, 2, 0, 0, []), (3, 2, 0, 0, []), (0, 0, 0, 0, []), (3, 3, 0, 0, []), (2, 3, 0, 0, []), (2, 0, 1, 0, []), (20, 0, 1, 0, []), (20, 0, 3, 0, []), (17, 3, 60, 0, []), (2, 3, 0, 0, []), (3, 4, 0, 0, []), (2, 4, 0, 0, []), (16, 5, 51, 0, []), (2, 0, 1, 0, []), (20, 14, 1, 0, []), (2, 2, 0, 0, []), (2, 0, 1, 0, []), (20, 15, 1, 0, []), (2, 2, 0, 0, []), (2, 4, 0, 0, []), (6, 0, 0, 0, []), (0, 0, 0, 1, []), (6, 1, 0, 0, []), (22, 0, 0, 0, []), (6, 0, 0, 0, []), (22, 0, 0, 0, []), (2, 0, 1, 0, []), (20, 14, 1, 0, []), (2, 2, 0, 0, []), (2, 3, 0, 0, []), (6, 0, 0, 0, []), (22, 0, 0, 0, []), (17, 5, 51, 0, []), (2, 0, 1, 0, []), (20, 15, 1, 0, []), (2, 2, 0, 0, []), (2, 4, 0, 0, []), (6, 0, 0, 0, []), (2, 0, 1, 0, []), (20, 15, 1, 0, []), (2, 2, 0, 0, []), (2, 4, 0, 0, []), (6, 0, 0, 0, []), (0, 0, 0, 1, []), (6, 1, 0, 0, []), (22, 0, 0, 0, []), (23, 0, 0, 0, []), (5, 4, 0, (-1), []), (18, 0, 13, 0, []), (2, 0, 1, 0, []), (20, 15, 1, 0, []), (2, 2, 0, 0, []), (2, 4, 0, 0, []), (6, 0, 0, 0, []), (2, 3, 0, 0, []), (23, 0, 0, 0, []), (5, 3, 0, 1, []), (18, 0, 6, 0, []), (41, 0, 0, 0, [])]
def mzc_207 : List mzI := [(2, 2, 0, 0, []), (16, 4, 4, 0, []), (0, 0, 0, 0, []), (42, 0, 0, 0, []), (2, 2, 0, 0, []), (0, 0, 0, 10, []), (6, 10, 0, 0, []), (3, 3, 0, 0, []), (2, 3, 0, 0, []), (2, 0, 1, 0, []), (20, 5, 1, 0, []), (2, 1, 0, 0, []), (22, 0, 0, 0, []), (17, 4, 16, 0, []), (2, 2, 0, 0, []), (18, 0, 21, 0, []), (2, 2, 0, 0, []), (2, 3, 0, 0, []), (6, 1, 0, 0, []), (0, 0, 0, 10, []), (6, 0, 0, 0, []), (42, 0, 0, 0, [])]
def mzc_208 : List mzI := [(2, 2, 0, 0, []), (0, 0, 0, 10, []), (6, 10, 0, 0, []), (3, 3, 0, 0, []), (2, 3, 0, 0, []), (2, 0, 1, 0, []), (20, 5, 1, 0, []), (2, 1, 0, 0, []), (22, 0, 0, 0, []), (17, 4, 12, 0, []), (2, 2, 0, 0, []), (18, 0, 20, 0, []), (2, 2, 0, 0, []), (2, 3, 0, 0, []), (6, 1, 0, 0, []), (2, 0, 1, 0, []), (20, 5, 1, 0, []), (2, 1, 0, 0, []), (22, 0, 0, 0, []), (6, 0, 0, 0, []), (42, 0, 0, 0, [])]
def mzc_209 : List mzI := [(0, 0, 0, 0, []), (3, 2, 0, 0, []), (0, 0, 0, 0, []), (3, 3, 0, 0, []), (2, 3, 0, 0, []), (2, 0, 1, 0, []), (20, 0, 1, 0, []), (20, 0, 3, 0, []), (17, 3, 27, 0, []), (2, 2, 0, 0, []), (2, 0, 1, 0, []), (20, 13, 1, 0, []), (2, 1, 0, 0, []), (0, 0, 0, 10, []), (6, 2, 0, 0, []), (2, 3, 0, 0, []), (6, 0, 0, 0, []), (22, 0, 0, 0, []), (2, 0, 1, 0, []), (20, 4, 1, 0, []), (2, 3, 0, 0, []), (22, 0, 0, 0, []), (6, 0, 0, 0, []), (40, 288, 2, 0, []), (3, 2, 0, 0, []), (5, 3, 0, 1, []), (18, 0, 4, 0, []), (2, 2, 0, 0, []), (0, 0, 0, 10, []), (40, 49, 2, 0, []), (42, 0, 0, 0, [])]
def mzc_210 : List mzI := [(0, 0, 0, 0, []), (3, 2, 0, 0, []), (0, 0, 0, 0, []), (3, 3, 0, 0, []), (2, 3, 0, 0, []), (2, 0, 1, 0, []), (20, 0, 1, 0, []), (20, 0, 3, 0, []), (17, 3, 29, 0, []), (2, 0, 1, 0, []), (20, 13, 1, 0, []), (2, 1, 0, 0, []), (0, 0, 0, 10, []), (6, 2, 0, 0, []), (2, 3, 0, 0, []), (6, 0, 0, 0, []), (22, 0, 0, 0, []), (2, 0, 1, 0, []), (20, 14, 1, 0, []), (2, 1, 0, 0, []), (0, 0, 0, 10, []), (6, 2, 0, 0, []), (2, 3, 0, 0, []), (6, 0, 0, 0, []), (22, 0, 0, 0, []), (17, 1, 27, 0, []), (5, 2, 0, 1, []), (5, 3, 0, 1, []), (18, 0, 4, 0, []), (2, 2, 0, 0, []), (42, 0, 0, 0, [])]
def mzc_211 : List mzI := [(2, 0, 1, 0, []), (20, 17, 1, 0, []), (0, 0, 0, 0, []), (40, 290, 2, 0, []), (0, 0, 0, 0, []), (3, 1, 0, 0, []), (2, 1, 0, 0, []), (2, 0, 1, 0, []), (20, 8, 1, 0, []), (17, 3, 28, 0, []), (2, 0, 1, 0, []), (20, 17, 1, 0, []), (2, 0, 1, 0, []), (20, 9, 1, 0, []), (2, 1, 0, 0, []), (22, 0, 0, 0, []), (13, 0, 0, 0, []), (22, 0, 0, 0, []), (0, 0, 0, 1, []), (2, 0, 1, 0, []), (20, 10, 1, 0, []), (2, 1, 0, 0, []), (22, 0, 0, 0, []), (6, 6, 0, 0, []), (6, 4, 0, 0, []), (23, 0, 0, 0, []), (5, 1, 0, 1, []), (18, 0, 6, 0, []), (0, 0, 0, 0, []), (3, 1, 0, 0, []), (2, 1, 0, 0, []), (2, 0, 1, 0, []), (20, 0, 1, 0, []), (20, 0, 3, 0, []), (17, 3, 66, 0, []), (0, 0, 0, 0, []), (3, 2, 0, 0, []), (2, 2, 0, 0, []), (2, 0, 1, 0, []), (20, 0, 1, 0, []), (20, 0, 3, 0, []), (17, 3, 64, 0, []), (2, 0, 1, 0, []), (20, 17, 1, 0, []), (2, 2, 0, 0, []), (22, 0, 0, 0, []), (2, 1, 0, 0, []), (6, 7, 0, 0, []), (0, 0, 0, 1, []), (6, 3, 0, 0, []), (16, 0, 62, 0, []), (2, 0, 1, 0, []), (20, 17, 1, 0, []), (2, 2, 0, 0, []), (13, 0, 0, 0, []), (22, 0, 0, 0, []), (2, 0, 1, 0, []), (20, 17, 1, 0, []), (2, 1, 0, 0, []), (22, 0, 0, 0, []), (6, 4, 0, 0, []), (23, 0, 0, 0, []), (5, 2, 0, 1, []), (18, 0, 37, 0, []), (5, 1, 0, 1, []), (18, 0, 30, 0, []), (0, 0, 0, 0, []), (3, 1, 0, 0, []), (0, 0, 0, 0, []), (3, 2, 0, 0, []), (2, 2, 0, 0, []), (2, 0, 1, 0, []), (20, 0, 1, 0, []), (20, 0, 3, 0, []), (17, 3, 88, 0, []), (2, 1, 0, 0, []), (2, 0, 1, 0, []), (20, 17, 1, 0, []), (2, 2, 0, 0, []), (22, 0, 0, 0, []), (0, 0, 0, 1, []), (2, 2, 0, 0, []), (6, 6, 0, 0, []), (6, 3, 0, 0, []), (6, 4, 0, 0, []), (3, 1, 0, 0, []), (5, 2, 0, 1, []), (18, 0, 70, 0, []), (2, 1, 0, 0, []), (42, 0, 0, 0, [])]
def mzc_212 : List mzI := [(2, 0, 1, 0, []), (29, 0, 0, 0, []), (2, 0, 1, 0, []), (2, 1, 0, 0, []), (21, 0, 2, 0, []), (41, 0, 0, 0, [])]
def mzc_213 : List mzI := [(2, 0, 1, 0, []), (2, 0, 1, 0, []), (20, 0, 2, 0, []), (0, 0, 0, 1103515245, []), (6, 2, 0, 0, []), (0, 0, 0, 12345, []), (6, 0, 0, 0, []), (21, 0, 2, 0, []), (2, 1, 0, 0, []), (0, 0, 0, 1, []), (17, 3, 13, 0, []), (0, 0, 0, 0, []), (18, 0, 19, 0, []), (2, 0, 1, 0, []), (20, 0, 2, 0, []), (0, 0, 0, 16, []), (6, 8, 0, 0, []), (2, 1, 0, 0, []), (6, 10, 0, 0, []), (42, 0, 0, 0, [])]
def mzc_214 : List mzI := [(2, 0, 1, 0, []), (29, 0, 0, 0, []), (2, 0, 1, 0, []), (0, 0, 0, 0, []), (21, 0, 3, 0, []), (2, 0, 1, 0, []), (0, 0, 0, 10, []), (26, 0, 0, 0, []), (21, 1, 3, 2, []), (2, 0, 1, 0, []), (0, 0, 0, 10, []), (26, 0, 0, 0, []), (21, 2, 3, 2, []), (2, 0, 1, 0, []), (0, 0, 0, 10, []), (26, 0, 0, 0, []), (21, 3, 3, 2, []), (2, 0, 1, 0, []), (0, 0, 0, 10, []), (26, 0, 0, 0, []), (21, 4, 3, 2, []), (2, 0, 1, 0, []), (0, 0, 0, 32, []), (26, 0, 0, 0, []), (21, 5, 3, 2, []), (2, 0, 1, 0, []), (0, 0, 0, 9, []), (26, 0, 0, 0, []), (12, 0, 0, 0, []), (0, 0, 0, 0, []), (0, 0, 0, 1, []), (23, 0, 0, 0, []), (12, 0, 0, 0, []), (0, 0, 0, 1, []), (0, 0, 0, 1, []), (23, 0, 0, 0, []), (12, 0, 0, 0, []), (0, 0, 0, 2, []), (0, 0, 0, 1, []), (23, 0, 0, 0, []), (12, 0, 0, 0, []), (0, 0, 0, 3, []), (0, 0, 0, 1, []), (23, 0, 0, 0, []), (12, 0, 0, 0, []), (0, 0, 0, 4, []), (0, 0, 0, 0, []), (23, 0, 0, 0, []), (12, 0, 0, 0, []), (0, 0, 0, 5, []), (0, 0, 0, 0, []), (23, 0, 0, 0, []), (12, 0, 0, 0, []), (0, 0, 0, 6, []), (0, 0, 0, 4, []), (23, 0, 0, 0, []), (12, 0, 0, 0, []), (0, 0, 0, 7, []), (0, 0, 0, 2, []), (23, 0, 0, 0, []), (12, 0, 0, 0, []), (0, 0, 0, 8, []), (0, 0, 0, 2, []), (23, 0, 0, 0, []), (21, 6, 3, 2, []), (41, 0, 0, 0, [])]
def mzc_215 : List mzI := [(2, 0, 1, 0, []), (2, 1, 1, 0, []), (40, 216, 2, 0, []), (2, 1, 1, 0, []), (20, 5, 3, 0, []), (0, 0, 0, 0, []), (2, 0, 1, 0, []), (20, 5, 3, 0, []), (0, 0, 0, 0, []), (2, 0, 1, 0, []), (20, 5, 3, 0, []), (24, 0, 0, 0, []), (30, 0, 0, 0, []), (2, 1, 1, 0, []), (20, 6, 3, 0, []), (0, 0, 0, 0, []), (2, 0, 1, 0, []), (20, 6, 3, 0, []), (0, 0, 0, 0, []), (2, 0, 1, 0, []), (20, 6, 3, 0, []), (24, 0, 0, 0, []), (30, 0, 0, 0, []), (41, 0, 0, 0, [])]
def mzc_216 : List mzI := [(2, 0, 1, 0, []), (2, 1, 1, 0, []), (20, 0, 3, 0, []), (21, 0, 3, 0, []), (2, 1, 1, 0, []), (20, 1, 3, 0, []), (0, 0, 0, 0, []), (2, 0, 1, 0, []), (20, 1, 3, 0, []), (0, 0, 0, 0, []), (0, 0, 0, 10, []), (30, 0, 0, 0, []), (2, 1, 1, 0, []), (20, 2, 3, 0, []), (0, 0, 0, 0, []), (2, 0, 1, 0, []), (20, 2, 3, 0, []), (0, 0, 0, 0, []), (0, 0, 0, 10, []), (30, 0, 0, 0, []), (2, 1, 1, 0, []), (20, 3, 3, 0, []), (0, 0, 0, 0, []), (2, 0, 1, 0, []), (20, 3, 3, 0, []), (0, 0, 0, 0, []), (0, 0, 0, 10, []), (30, 0, 0, 0, []), (2, 1, 1, 0, []), (20, 4, 3, 0, []), (0, 0, 0, 0, []), (2, 0, 1, 0, []), (20, 4, 3, 0, []), (0, 0, 0, 0, []), (0, 0, 0, 10, []), (30, 0, 0, 0, []), (41, 0, 0, 0, [])]
def mzc_217 : List mzI := [(2, 0, 1, 0, []), (20, 1, 3, 0, []), (2, 1, 0, 0, []), (2, 2, 0, 0, []), (23, 0, 0, 0, []), (2, 0, 1, 0, []), (20, 2, 3, 0, []), (2, 1, 0, 0, []), (2, 3, 0, 0, []), (23, 0, 0, 0, []), (2, 0, 1, 0, []), (20, 3, 3, 0, []), (2, 1, 0, 0, []), (2, 4, 0, 0, []), (23, 0, 0, 0, []), (2, 0, 1, 0, []), (20, 4, 3, 0, []), (2, 1, 0, 0, []), (2, 5, 0, 0, []), (23, 0, 0, 0, []), (41, 0, 0, 0, [])]
def mzc_218 : List mzI := [(2, 0, 1, 0, []), (20, 1, 3, 0, []), (2, 1, 0, 0, []), (22, 0, 0, 0, []), (0, 0, 0, 2, []), (17, 4, 8, 0, []), (0, 0, 0, 1, []), (18, 0, 9, 0, []), (0, 0, 0, 0, []), (42, 0, 1, 0, [])]
def mzc_219 : List mzI := [(0, 0, 0, 0, []), (3, 3, 0, 0, []), (0, 0, 0, 0, []), (3, 4, 0, 0, []), (2, 4, 0, 0, []), (2, 0, 1, 0, []), (20, 0, 3, 0, []), (17, 3, 23, 0, []), (2, 0, 1, 0, []), (20, 1, 3, 0, []), (2, 4, 0, 0, []), (22, 0, 0, 0, []), (2, 1, 0, 0, []), (17, 2, 21, 0, []), (2, 0, 1, 0, []), (20, 1, 3, 0, []), (2, 4, 0, 0, []), (22, 0, 0, 0, []), (2, 2, 0, 0, []), (17, 4, 21, 0, []), (5, 3, 0, 1, []), (5, 4, 0, 1, []), (18, 0, 4, 0, []), (2, 3, 0, 0, []), (42, 0, 0, 0, [])]
def mzc_220 : List mzI := [(2, 0, 1, 0, []), (20, 6, 3, 0, []), (0, 0, 0, 0, []), (22, 0, 0, 0, []), (0, 0, 0, 3, []), (2, 0, 1, 0, []), (20, 6, 3, 0, []), (0, 0, 0, 1, []), (22, 0, 0, 0, []), (6, 2, 0, 0, []), (6, 0, 0, 0, []), (2, 0, 1, 0, []), (20, 6, 3, 0, []), (0, 0, 0, 2, []), (22, 0, 0, 0, []), (6, 0, 0, 0, []), (2, 0, 1, 0, []), (20, 6, 3, 0, []), (0, 0, 0, 3, []), (22, 0, 0, 0, []), (6, 0, 0, 0, []), (42, 0, 0, 0, [])]
def mzc_221 : List mzI := [(2, 0, 0, 0, []), (0, 0, 0, 11, []), (6, 1, 0, 0, []), (0, 0, 0, 30, []), (6, 10, 0, 0, []), (42, 0, 0, 0, [])]
def mzc_222 : List mzI := [(2, 0, 0, 0, []), (0, 0, 0, 11, []), (6, 1, 0, 0, []), (0, 0, 0, 30, []), (6, 9, 0, 0, []), (42, 0, 0, 0, [])]
def mzc_223 : List mzI := [(2, 0, 1, 0, []), (29, 0, 0, 0, []), (2, 0, 1, 0, []), (0, 0, 0, 10, []), (27, 0, 0, 0, []), (21, 1, 4, 2, []), (2, 0, 1, 0, []), (0, 0, 0, 0, []), (21, 2, 4, 0, []), (2, 0, 1, 0, []), (0, 0, 0, 0, []), (21, 3, 4, 0, []), (2, 0, 1, 0, []), (0, 0, 0, 2, []), (27, 0, 0, 0, []), (21, 4, 4, 2, []), (2, 0, 1, 0, []), (0, 0, 0, 2, []), (26, 3, 0, 0, []), (21, 5, 4, 2, []), (2, 0, 1, 0, []), (2, 1, 1, 0, []), (21, 0, 4, 2, []), (0, 0, 0, 0, []), (3, 2, 0, 0, []), (2, 2, 0, 0, []), (2, 0, 1, 0, []), (20, 1, 4, 0, []), (24, 0, 0, 0, []), (17, 3, 39, 0, []), (2, 0, 1, 0, []), (20, 1, 4, 0, []), (2, 2, 0, 0, []), (25, 3, 7, 0, []), (12, 0, 0, 0, []), (40, 214, 1, 0, []), (23, 3, 0, 0, []), (5, 2, 0, 1, []), (18, 0, 25, 0, []), (0, 0, 0, 0, []), (3, 2, 0, 0, []), (2, 2, 0, 0, []), (2, 0, 1, 0, []), (20, 4, 4, 0, []), (24, 0, 0, 0, []), (17, 3, 55, 0, []), (2, 0, 1, 0, []), (20, 4, 4, 0, []), (2, 2, 0, 0, []), (25, 3, 7, 0, []), (12, 0, 0, 0, []), (40, 214, 1, 0, []), (23, 3, 0, 0, []), (5, 2, 0, 1, []), (18, 0, 41, 0, []), (41, 0, 0, 0, [])]
def mzc_224 : List mzI := [(2, 0, 1, 0, []), (20, 1, 4, 0, []), (2, 0, 1, 0, []), (20, 2, 4, 0, []), (22, 3, 0, 0, []), (2, 0, 1, 0, []), (20, 0, 4, 0, []), (40, 215, 2, 0, []), (41, 0, 0, 0, [])]
def mzc_225 : List mzI := [(2, 0, 1, 0, []), (2, 0, 1, 0, []), (20, 2, 4, 0, []), (0, 0, 0, 1, []), (6, 0, 0, 0, []), (2, 0, 1, 0, []), (20, 1, 4, 0, []), (24, 0, 0, 0, []), (6, 10, 0, 0, []), (21, 2, 4, 0, []), (2, 0, 1, 0, []), (2, 0, 1, 0, []), (20, 3, 4, 0, []), (0, 0, 0, 1, []), (6, 0, 0, 0, []), (0, 0, 0, 9, []), (40, 289, 2, 0, []), (21, 3, 4, 0, []), (41, 0, 0, 0, [])]
def mzc_226 : List mzI := [(2, 0, 1, 0, []), (20, 3, 4, 0, []), (16, 5, 31, 0, []), (2, 0, 1, 0, []), (2, 0, 1, 0, []), (20, 2, 4, 0, []), (2, 0, 1, 0, []), (20, 1, 4, 0, []), (24, 0, 0, 0, []), (6, 0, 0, 0, []), (0, 0, 0, 1, []), (6, 1, 0, 0, []), (2, 0, 1, 0, []), (20, 1, 4, 0, []), (24, 0, 0, 0, []), (6, 10, 0, 0, []), (21, 2, 4, 0, []), (2, 0, 1, 0, []), (20, 0, 4, 0, []), (2, 0, 1, 0, []), (20, 1, 4, 0, []), (2, 0, 1, 0, []), (20, 2, 4, 0, []), (22, 3, 0, 0, []), (40, 215, 2, 0, []), (2, 0, 1, 0, []), (12, 0, 0, 0, []), (20, 3, 4, 0, []), (0, 0, 0, 1, []), (6, 1, 0, 0, []), (21, 3, 4, 0, []), (41, 0, 0, 0, [])]
def mzc_227 : List mzI := [(2, 1, 0, 0, []), (16, 2, 5, 0, []), (2, 1, 0, 0, []), (0, 0, 0, 2, []), (17, 2, 7, 0, []), (0, 0, 0, 0, []), (42, 0, 1, 0, []), (2, 0, 1, 0, []), (20, 4, 4, 0, []), (2, 1, 0, 0, []), (22, 3, 0, 0, []), (2, 0, 1, 0, []), (20, 0, 4, 0, []), (40, 215, 2, 0, []), (2, 0, 1, 0, []), (20, 5, 4, 0, []), (2, 1, 0, 0, []), (0, 0, 0, 1, []), (23, 2, 0, 0, []), (0, 0, 0, 1, []), (42, 0, 1, 0, [])]
def mzc_228 : List mzI := [(2, 1, 0, 0, []), (16, 2, 10, 0, []), (2, 1, 0, 0, []), (0, 0, 0, 2, []), (17, 3, 10, 0, []), (2, 0, 1, 0, []), (20, 5, 4, 0, []), (2, 1, 0, 0, []), (22, 2, 0, 0, []), (16, 1, 12, 0, []), (0, 0, 0, 0, []), (42, 0, 1, 0, []), (2, 0, 1, 0, []), (20, 0, 4, 0, []), (2, 0, 1, 0, []), (20, 4, 4, 0, []), (2, 1, 0, 0, []), (22, 3, 0, 0, []), (40, 215, 2, 0, []), (2, 0, 1, 0, []), (0, 0, 0, 0, []), (21, 3, 4, 0, []), (0, 0, 0, 1, []), (42, 0, 1, 0, [])]
def mzc_229 : List mzI := [(2, 0, 1, 0, []), (29, 0, 0, 0, []), (2, 0, 1, 0, []), (0, 0, 0, 1, []), (21, 2, 5, 1, []), (2, 0, 1, 0, []), (0, 0, 0, 0, []), (21, 3, 5, 0, []), (2, 0, 1, 0, []), (0, 0, 0, 10, []), (26, 0, 0, 0, []), (21, 4, 5, 2, []), (2, 0, 1, 0, []), (0, 0, 0, 10, []), (26, 3, 0, 0, []), (21, 5, 5, 2, []), (2, 0, 1, 0, []), (2, 1, 1, 0, []), (21, 0, 5, 2, []), (2, 0, 1, 0, []), (2, 2, 1, 0, []), (21, 1, 5, 2, []), (41, 0, 0, 0, [])]
def mzc_230 : List mzI := [(2, 0, 1, 0, []), (0, 0, 0, 1, []), (21, 2, 5, 1, []), (41, 0, 0, 0, [])]
def mzc_231 : List mzI := [(2, 0, 1, 0, []), (20, 0, 5, 0, []), (20, 0, 3, 0, []), (16, 1, 6, 0, []), (0, 0, 0, 0, []), (42, 0, 0, 0, []), (2, 0, 1, 0, []), (20, 1, 5, 0, []), (40, 200, 1, 0, []), (3, 2, 0, 0, []), (2, 2, 0, 0, []), (2, 1, 0, 0, []), (17, 4, 24, 0, []), (2, 2, 0, 0, []), (0, 0, 0, 60, []), (17, 4, 24, 0, []), (2, 0, 1, 0, []), (2, 2, 0, 0, []), (40, 232, 2, 0, []), (16, 0, 22, 0, []), (2, 2, 0, 0, []), (42, 0, 0, 0, []), (5, 2, 0, 1, []), (18, 0, 10, 0, []), (0, 0, 0, (-1), []), (42, 0, 0, 0, [])]
def mzc_232 : List mzI := [(2, 0, 1, 0, []), (20, 1, 5, 0, []), (2, 1, 0, 0, []), (40, 201, 2, 0, []), (16, 1, 7, 0, []), (0, 0, 0, 0, []), (42, 0, 1, 0, []), (0, 0, 0, 0, []), (3, 2, 0, 0, []), (2, 2, 0, 0, []), (2, 0, 1, 0, []), (20, 0, 5, 0, []), (20, 0, 3, 0, []), (17, 3, 21, 0, []), (2, 0, 1, 0, []), (20, 5, 5, 0, []), (2, 2, 0, 0, []), (0, 0, 0, 0, []), (23, 2, 0, 0, []), (5, 2, 0, 1, []), (18, 0, 9, 0, []), (0, 0, 0, 0, []), (3, 2, 0, 0, []), (2, 2, 0, 0, []), (2, 0, 1, 0, []), (20, 0, 5, 0, []), (20, 0, 3, 0, []), (17, 3, 67, 0, []), (2, 0, 1, 0, []), (20, 1, 5, 0, []), (20, 15, 1, 0, []), (2, 1, 0, 0, []), (0, 0, 0, 10, []), (6, 2, 0, 0, []), (2, 2, 0, 0, []), (6, 0, 0, 0, []), (22, 0, 0, 0, []), (3, 3, 0, 0, []), (2, 0, 1, 0, []), (2, 3, 0, 0, []), (2, 1, 0, 0, []), (40, 233, 3, 0, []), (3, 4, 0, 0, []), (2, 4, 0, 0, []), (0, 0, 0, (-1), []), (17, 1, 48, 0, []), (0, 0, 0, 0, []), (42, 0, 1, 0, []), (2, 0, 1, 0, []), (20, 4, 5, 0, []), (2, 3, 0, 0, []), (2, 4, 0, 0, []), (23, 0, 0, 0, []), (2, 0, 1, 0, []), (20, 5, 5, 0, []), (2, 3, 0, 0, []), (0, 0, 0, 1, []), (23, 2, 0, 0, []), (2, 0, 1, 0, []), (2, 3, 0, 0, []), (2, 1, 0, 0, []), (40, 235, 3, 0, []), (16, 0, 65, 0, []), (0, 0, 0, 0, []), (42, 0, 1, 0, []), (5, 2, 0, 1, []), (18, 0, 23, 0, []), (0, 0, 0, 1, []), (42, 0, 1, 0, [])]
def mzc_233 : List mzI := [(2, 0, 1, 0, []), (2, 1, 0, 0, []), (2, 2, 0, 0, []), (40, 234, 3, 0, []), (3, 3, 0, 0, []), (2, 0, 1, 0, []), (2, 1, 0, 0, []), (2, 3, 0, 0, []), (0, 0, 0, 10, []), (6, 9, 0, 0, []), (2, 2, 0, 0, []), (40, 236, 4, 0, []), (16, 0, 15, 0, []), (2, 3, 0, 0, []), (42, 0, 0, 0, []), (0, 0, 0, 1, []), (3, 4, 0, 0, []), (2, 4, 0, 0, []), (2, 2, 0, 0, []), (17, 3, 38, 0, []), (2, 3, 0, 0, []), (0, 0, 0, 10, []), (6, 9, 0, 0, []), (2, 4, 0, 0, []), (6, 0, 0, 0, []), (3, 5, 0, 0, []), (2, 0, 1, 0, []), (2, 1, 0, 0, []), (2, 5, 0, 0, []), (2, 2, 0, 0, []), (40, 236, 4, 0, []), (16, 0, 36, 0, []), (2, 5, 0, 0, []), (0, 0, 0, 10, []), (6, 2, 0, 0, []), (42, 0, 0, 0, []), (5, 4, 0, 1, []), (18, 0, 17, 0, []), (0, 0, 0, (-1), []), (42, 0, 0, 0, [])]
def mzc_234 : List mzI := [(2, 0, 1, 0, []), (20, 1, 5, 0, []), (20, 13, 1, 0, []), (2, 2, 0, 0, []), (0, 0, 0, 10, []), (6, 2, 0, 0, []), (2, 1, 0, 0, []), (6, 0, 0, 0, []), (22, 0, 0, 0, []), (3, 3, 0, 0, []), (0, 0, 0, 0, []), (3, 4, 0, 0, []), (2, 4, 0, 0, []), (2, 0, 1, 0, []), (20, 1, 5, 0, []), (20, 8, 1, 0, []), (17, 3, 52, 0, []), (2, 0, 1, 0, []), (20, 1, 5, 0, []), (20, 10, 1, 0, []), (2, 4, 0, 0, []), (22, 0, 0, 0, []), (2, 1, 0, 0, []), (17, 1, 50, 0, []), (2, 0, 1, 0, []), (20, 5, 5, 0, []), (2, 0, 1, 0, []), (20, 1, 5, 0, []), (20, 9, 1, 0, []), (2, 4, 0, 0, []), (22, 0, 0, 0, []), (22, 2, 0, 0, []), (16, 0, 50, 0, []), (2, 3, 0, 0, []), (2, 0, 1, 0, []), (20, 4, 5, 0, []), (2, 0, 1, 0, []), (20, 1, 5, 0, []), (20, 9, 1, 0, []), (2, 4, 0, 0, []), (22, 0, 0, 0, []), (22, 0, 0, 0, []), (2, 0, 1, 0, []), (20, 1, 5, 0, []), (2, 4, 0, 0, []), (2, 2, 0, 0, []), (40, 197, 3, 0, []), (6, 0, 0, 0, []), (40, 288, 2, 0, []), (3, 3, 0, 0, []), (5, 4, 0, 1, []), (18, 0, 12, 0, []), (2, 0, 1, 0, []), (20, 1, 5, 0, []), (2, 1, 0, 0, []), (2, 3, 0, 0, []), (40, 207, 3, 0, []), (42, 0, 0, 0, [])]
def mzc_235 : List mzI := [(0, 0, 0, 0, []), (3, 3, 0, 0, []), (2, 3, 0, 0, []), (2, 0, 1, 0, []), (20, 1, 5, 0, []), (20, 8, 1, 0, []), (17, 3, 44, 0, []), (2, 0, 1, 0, []), (20, 1, 5, 0, []), (20, 10, 1, 0, []), (2, 3, 0, 0, []), (22, 0, 0, 0, []), (3, 4, 0, 0, []), (2, 0, 1, 0, []), (20, 1, 5, 0, []), (20, 9, 1, 0, []), (2, 3, 0, 0, []), (22, 0, 0, 0, []), (2, 1, 0, 0, []), (17, 1, 42, 0, []), (2, 0, 1, 0, []), (20, 5, 5, 0, []), (2, 4, 0, 0, []), (22, 2, 0, 0, []), (16, 0, 42, 0, []), (2, 0, 1, 0, []), (20, 4, 5, 0, []), (2, 4, 0, 0, []), (22, 0, 0, 0, []), (2, 0, 1, 0, []), (20, 4, 5, 0, []), (2, 1, 0, 0, []), (22, 0, 0, 0, []), (2, 0, 1, 0, []), (20, 1, 5, 0, []), (2, 3, 0, 0, []), (2, 2, 0, 0, []), (40, 197, 3, 0, []), (6, 0, 0, 0, []), (17, 3, 42, 0, []), (0, 0, 0, 1, []), (42, 0, 1, 0, []), (5, 3, 0, 1, []), (18, 0, 2, 0, []), (0, 0, 0, 0, []), (42, 0, 1, 0, [])]
def mzc_236 : List mzI := [(2, 3, 0, 0, []), (0, 0, 0, 1, []), (17, 3, 5, 0, []), (0, 0, 0, 0, []), (42, 0, 1, 0, []), (2, 0, 1, 0, []), (20, 1, 5, 0, []), (20, 3, 1, 0, []), (2, 1, 0, 0, []), (22, 0, 0, 0, []), (3, 4, 0, 0, []), (0, 0, 0, 0, []), (3, 5, 0, 0, []), (0, 0, 0, 0, []), (3, 6, 0, 0, []), (2, 6, 0, 0, []), (2, 0, 1, 0, []), (20, 0, 5, 0, []), (20, 0, 3, 0, []), (17, 3, 61, 0, []), (2, 2, 0, 0, []), (2, 0, 1, 0, []), (20, 4, 5, 0, []), (2, 6, 0, 0, []), (22, 0, 0, 0, []), (0, 0, 0, 10, []), (6, 9, 0, 0, []), (6, 1, 0, 0, []), (3, 7, 0, 0, []), (2, 0, 1, 0, []), (20, 5, 5, 0, []), (2, 6, 0, 0, []), (22, 2, 0, 0, []), (16, 0, 59, 0, []), (2, 0, 1, 0, []), (20, 1, 5, 0, []), (20, 3, 1, 0, []), (2, 6, 0, 0, []), (22, 0, 0, 0, []), (2, 4, 0, 0, []), (17, 1, 59, 0, []), (2, 7, 0, 0, []), (2, 3, 0, 0, []), (6, 10, 0, 0, []), (16, 1, 59, 0, []), (2, 4, 0, 0, []), (0, 0, 0, 2, []), (17, 2, 58, 0, []), (2, 0, 1, 0, []), (2, 1, 0, 0, []), (2, 6, 0, 0, []), (2, 7, 0, 0, []), (2, 3, 0, 0, []), (6, 9, 0, 0, []), (40, 237, 4, 0, []), (16, 0, 58, 0, []), (0, 0, 0, 0, []), (42, 0, 1, 0, []), (5, 5, 0, 1, []), (5, 6, 0, 1, []), (18, 0, 15, 0, []), (2, 4, 0, 0, []), (0, 0, 0, 2, []), (17, 3, 71, 0, []), (2, 5, 0, 0, []), (2, 0, 1, 0, []), (20, 0, 5, 0, []), (20, 6, 3, 0, []), (2, 4, 0, 0, []), (22, 0, 0, 0, []), (17, 3, 73, 0, []), (0, 0, 0, 1, []), (18, 0, 74, 0, []), (0, 0, 0, 0, []), (42, 0, 1, 0, [])]
def mzc_237 : List mzI := [(2, 0, 1, 0, []), (20, 1, 5, 0, []), (20, 6, 1, 0, []), (2, 1, 0, 0, []), (22, 0, 0, 0, []), (16, 0, 12, 0, []), (2, 0, 1, 0, []), (20, 1, 5, 0, []), (20, 6, 1, 0, []), (2, 2, 0, 0, []), (22, 0, 0, 0, []), (16, 1, 14, 0, []), (0, 0, 0, 1, []), (42, 0, 1, 0, []), (0, 0, 0, 0, []), (3, 4, 0, 0, []), (2, 4, 0, 0, []), (0, 0, 0, 16, []), (17, 3, 34, 0, []), (2, 0, 1, 0, []), (2, 1, 0, 0, []), (2, 4, 0, 0, []), (40, 238, 3, 0, []), (2, 0, 1, 0, []), (2, 2, 0, 0, []), (2, 4, 0, 0, []), (2, 3, 0, 0, []), (6, 0, 0, 0, []), (40, 238, 3, 0, []), (17, 1, 32, 0, []), (0, 0, 0, 1, []), (42, 0, 1, 0, []), (5, 4, 0, 1, []), (18, 0, 16, 0, []), (0, 0, 0, 0, []), (42, 0, 1, 0, [])]
def mzc_238 : List mzI := [(2, 0, 1, 0, []), (20, 0, 5, 0, []), (20, 6, 3, 0, []), (2, 0, 1, 0, []), (20, 1, 5, 0, []), (20, 3, 1, 0, []), (2, 1, 0, 0, []), (22, 0, 0, 0, []), (22, 0, 0, 0, []), (3, 3, 0, 0, []), (2, 3, 0, 0, []), (0, 0, 0, 1, []), (17, 2, 16, 0, []), (2, 3, 0, 0, []), (0, 0, 0, 16, []), (17, 5, 18, 0, []), (0, 0, 0, 0, []), (42, 0, 0, 0, []), (2, 0, 1, 0, []), (20, 1, 5, 0, []), (20, 7, 1, 0, []), (2, 1, 0, 0, []), (22, 0, 0, 0, []), (2, 0, 1, 0, []), (20, 1, 5, 0, []), (20, 6, 1, 0, []), (2, 1, 0, 0, []), (22, 0, 0, 0, []), (0, 0, 0, 2, []), (17, 1, 32, 0, []), (2, 2, 0, 0, []), (18, 0, 33, 0, []), (0, 0, 0, 0, []), (6, 0, 0, 0, []), (3, 4, 0, 0, []), (2, 4, 0, 0, []), (0, 0, 0, 15, []), (6, 3, 0, 0, []), (3, 5, 0, 0, []), (2, 0, 1, 0, []), (20, 0, 5, 0, []), (20, 6, 3, 0, []), (0, 0, 0, 4, []), (2, 0, 1, 0, []), (20, 0, 5, 0, []), (20, 2, 3, 0, []), (2, 1, 0, 0, []), (22, 0, 0, 0, []), (6, 0, 0, 0, []), (22, 0, 0, 0, []), (16, 1, 55, 0, []), (2, 5, 0, 0, []), (2, 3, 0, 0, []), (6, 10, 0, 0, []), (18, 0, 60, 0, []), (2, 5, 0, 0, []), (0, 0, 0, 16, []), (2, 3, 0, 0, []), (6, 9, 0, 0, []), (6, 9, 0, 0, []), (42, 0, 0, 0, [])]
def mzc_239 : List mzI := [(2, 0, 1, 0, []), (20, 4, 5, 0, []), (2, 1, 0, 0, []), (22, 0, 0, 0, []), (0, 0, 0, 10, []), (6, 9, 0, 0, []), (42, 0, 0, 0, [])]
def mzc_240 : List mzI := [(2, 0, 1, 0, []), (20, 3, 5, 0, []), (0, 0, 0, 1, []), (17, 3, 6, 0, []), (0, 0, 0, 0, []), (18, 0, 12, 0, []), (2, 0, 1, 0, []), (2, 1, 0, 0, []), (40, 239, 2, 0, []), (2, 0, 1, 0, []), (20, 3, 5, 0, []), (6, 10, 0, 0, []), (42, 0, 0, 0, [])]
def mzc_241 : List mzI := [(2, 2, 0, 0, []), (2, 0, 1, 0, []), (2, 1, 0, 0, []), (40, 239, 2, 0, []), (6, 1, 0, 0, []), (3, 4, 0, 0, []), (2, 0, 1, 0, []), (20, 3, 5, 0, []), (0, 0, 0, 1, []), (17, 2, 17, 0, []), (2, 4, 0, 0, []), (16, 2, 17, 0, []), (2, 4, 0, 0, []), (2, 0, 1, 0, []), (20, 3, 5, 0, []), (6, 10, 0, 0, []), (16, 0, 19, 0, []), (0, 0, 0, (-1), []), (42, 0, 0, 0, []), (2, 4, 0, 0, []), (2, 0, 1, 0, []), (20, 3, 5, 0, []), (6, 9, 0, 0, []), (3, 5, 0, 0, []), (2, 5, 0, 0, []), (2, 3, 0, 0, []), (17, 3, 29, 0, []), (2, 5, 0, 0, []), (18, 0, 30, 0, []), (0, 0, 0, (-1), []), (42, 0, 0, 0, [])]
def mzc_242 : List mzI := [(2, 0, 1, 0, []), (20, 4, 5, 0, []), (2, 1, 0, 0, []), (22, 0, 0, 0, []), (2, 0, 1, 0, []), (20, 1, 5, 0, []), (20, 4, 1, 0, []), (2, 1, 0, 0, []), (22, 0, 0, 0, []), (6, 0, 0, 0, []), (42, 0, 0, 0, [])]
def mzc_243 : List mzI := [(0, 0, 0, 0, []), (3, 1, 0, 0, []), (0, 0, 0, 0, []), (3, 2, 0, 0, []), (2, 2, 0, 0, []), (2, 0, 1, 0, []), (20, 0, 5, 0, []), (20, 0, 3, 0, []), (17, 3, 17, 0, []), (2, 1, 0, 0, []), (2, 0, 1, 0, []), (2, 2, 0, 0, []), (40, 242, 2, 0, []), (40, 288, 2, 0, []), (3, 1, 0, 0, []), (5, 2, 0, 1, []), (18, 0, 4, 0, []), (2, 1, 0, 0, []), (0, 0, 0, 10, []), (40, 49, 2, 0, []), (42, 0, 0, 0, [])]
def mzc_244 : List mzI := [(0, 0, 0, 0, []), (3, 1, 0, 0, []), (0, 0, 0, 0, []), (3, 2, 0, 0, []), (2, 2, 0, 0, []), (2, 0, 1, 0, []), (20, 0, 5, 0, []), (20, 0, 3, 0, []), (17, 3, 17, 0, []), (2, 1, 0, 0, []), (2, 0, 1, 0, []), (2, 2, 0, 0, []), (40, 239, 2, 0, []), (40, 288, 2, 0, []), (3, 1, 0, 0, []), (5, 2, 0, 1, []), (18, 0, 4, 0, []), (2, 1, 0, 0, []), (42, 0, 0, 0, [])]
def mzc_245 : List mzI := [(2, 0, 1, 0, []), (20, 3, 5, 0, []), (0, 0, 0, 1, []), (17, 3, 6, 0, []), (0, 0, 0, 0, []), (42, 0, 0, 0, []), (0, 0, 0, 0, []), (3, 2, 0, 0, []), (0, 0, 0, 0, []), (3, 3, 0, 0, []), (2, 3, 0, 0, []), (2, 0, 1, 0, []), (20, 0, 5, 0, []), (20, 0, 3, 0, []), (17, 3, 50, 0, []), (2, 0, 1, 0, []), (2, 3, 0, 0, []), (40, 242, 2, 0, []), (0, 0, 0, 10, []), (40, 49, 2, 0, []), (3, 4, 0, 0, []), (2, 0, 1, 0, []), (2, 3, 0, 0, []), (40, 246, 2, 0, []), (0, 0, 0, 10, []), (6, 9, 0, 0, []), (3, 5, 0, 0, []), (2, 5, 0, 0, []), (2, 4, 0, 0, []), (17, 2, 48, 0, []), (2, 2, 0, 0, []), (2, 5, 0, 0, []), (2, 1, 0, 0, []), (6, 1, 0, 0, []), (2, 0, 1, 0, []), (20, 3, 5, 0, []), (40, 286, 2, 0, []), (2, 4, 0, 0, []), (0, 0, 0, 1, []), (6, 1, 0, 0, []), (2, 1, 0, 0, []), (6, 1, 0, 0, []), (2, 0, 1, 0, []), (20, 3, 5, 0, []), (40, 286, 2, 0, []), (6, 1, 0, 0, []), (6, 0, 0, 0, []), (3, 2, 0, 0, []), (5, 3, 0, 1, []), (18, 0, 10, 0, []), (2, 2, 0, 0, []), (42, 0, 0, 0, [])]
def mzc_246 : List mzI := [(0, 0, 0, 0, []), (3, 2, 0, 0, []), (0, 0, 0, 0, []), (3, 3, 0, 0, []), (2, 3, 0, 0, []), (2, 0, 1, 0, []), (20, 0, 5, 0, []), (20, 0, 3, 0, []), (17, 3, 35, 0, []), (2, 2, 0, 0, []), (2, 0, 1, 0, []), (2, 3, 0, 0, []), (2, 0, 1, 0, []), (20, 0, 5, 0, []), (20, 3, 3, 0, []), (2, 3, 0, 0, []), (22, 0, 0, 0, []), (2, 1, 0, 0, []), (40, 247, 4, 0, []), (40, 288, 2, 0, []), (3, 2, 0, 0, []), (2, 2, 0, 0, []), (2, 0, 1, 0, []), (2, 3, 0, 0, []), (2, 0, 1, 0, []), (20, 0, 5, 0, []), (20, 4, 3, 0, []), (2, 3, 0, 0, []), (22, 0, 0, 0, []), (2, 1, 0, 0, []), (40, 247, 4, 0, []), (40, 288, 2, 0, []), (3, 2, 0, 0, []), (5, 3, 0, 1, []), (18, 0, 4, 0, []), (2, 2, 0, 0, []), (42, 0, 0, 0, [])]
def mzc_247 : List mzI := [(2, 2, 0, 0, []), (0, 0, 0, 11, []), (17, 2, 7, 0, []), (2, 2, 0, 0, []), (40, 221, 1, 0, []), (2, 3, 0, 0, []), (17, 0, 9, 0, []), (0, 0, 0, 0, []), (42, 0, 0, 0, []), (2, 0, 1, 0, []), (20, 4, 5, 0, []), (2, 1, 0, 0, []), (22, 0, 0, 0, []), (2, 2, 0, 0, []), (40, 222, 1, 0, []), (2, 0, 1, 0, []), (20, 3, 5, 0, []), (6, 2, 0, 0, []), (0, 0, 0, 10, []), (6, 2, 0, 0, []), (6, 0, 0, 0, []), (42, 0, 0, 0, [])]
def mzc_248 : List mzI := [(2, 0, 1, 0, []), (29, 0, 0, 0, []), (2, 0, 1, 0, []), (0, 0, 0, 32, []), (26, 0, 0, 0, []), (21, 2, 6, 2, []), (2, 0, 1, 0, []), (0, 0, 0, 400, []), (26, 0, 0, 0, []), (21, 3, 6, 2, []), (2, 0, 1, 0, []), (0, 0, 0, 10, []), (26, 0, 0, 0, []), (21, 4, 6, 2, []), (2, 0, 1, 0, []), (0, 0, 0, 10, []), (26, 0, 0, 0, []), (21, 5, 6, 2, []), (2, 0, 1, 0, []), (0, 0, 0, 10, []), (26, 0, 0, 0, []), (21, 6, 6, 2, []), (2, 0, 1, 0, []), (2, 1, 1, 0, []), (21, 0, 6, 2, []), (2, 0, 1, 0, []), (2, 2, 1, 0, []), (21, 1, 6, 2, []), (41, 0, 0, 0, [])]
def mzc_249 : List mzI := [(2, 0, 1, 0, []), (20, 0, 6, 0, []), (20, 5, 3, 0, []), (0, 0, 0, 0, []), (2, 0, 1, 0, []), (20, 2, 6, 0, []), (0, 0, 0, 0, []), (2, 0, 1, 0, []), (20, 2, 6, 0, []), (24, 0, 0, 0, []), (30, 0, 0, 0, []), (41, 0, 0, 0, [])]
def mzc_250 : List mzI := [(0, 0, 0, 0, []), (3, 1, 0, 0, []), (2, 0, 1, 0, []), (20, 2, 6, 0, []), (3, 2, 1, 0, []), (2, 2, 1, 0, []), (24, 0, 0, 0, []), (3, 3, 0, 0, []), (0, 0, 0, 0, []), (3, 4, 0, 0, []), (2, 4, 0, 0, []), (2, 3, 0, 0, []), (17, 3, 23, 0, []), (2, 2, 1, 0, []), (2, 4, 0, 0, []), (22, 0, 0, 0, []), (3, 5, 0, 0, []), (2, 1, 0, 0, []), (2, 5, 0, 0, []), (6, 0, 0, 0, []), (3, 1, 0, 0, []), (5, 4, 0, 1, []), (18, 0, 10, 0, []), (2, 1, 0, 0, []), (42, 0, 0, 0, [])]
def mzc_251 : List mzI := [(2, 2, 0, 0, []), (16, 2, 5, 0, []), (2, 2, 0, 0, []), (0, 0, 0, 40, []), (17, 2, 7, 0, []), (0, 0, 0, 0, []), (18, 0, 15, 0, []), (2, 0, 1, 0, []), (20, 3, 6, 0, []), (2, 2, 0, 0, []), (0, 0, 0, 10, []), (6, 2, 0, 0, []), (2, 1, 0, 0, []), (6, 0, 0, 0, []), (22, 0, 0, 0, []), (42, 0, 0, 0, [])]
def mzc_252 : List mzI := [(0, 0, 0, 0, []), (3, 3, 0, 0, []), (2, 3, 0, 0, []), (2, 2, 0, 0, []), (17, 3, 48, 0, []), (2, 3, 0, 0, []), (0, 0, 0, 40, []), (17, 3, 48, 0, []), (0, 0, 0, 0, []), (3, 4, 0, 0, []), (2, 4, 0, 0, []), (2, 0, 1, 0, []), (20, 0, 6, 0, []), (20, 0, 3, 0, []), (17, 3, 46, 0, []), (2, 0, 1, 0, []), (2, 4, 0, 0, []), (2, 3, 0, 0, []), (2, 1, 1, 0, []), (40, 253, 4, 0, []), (3, 5, 0, 0, []), (2, 0, 1, 0, []), (20, 3, 6, 0, []), (2, 3, 0, 0, []), (0, 0, 0, 10, []), (6, 2, 0, 0, []), (2, 4, 0, 0, []), (6, 0, 0, 0, []), (2, 5, 0, 0, []), (23, 0, 0, 0, []), (2, 0, 1, 0, []), (20, 0, 6, 0, []), (20, 1, 3, 0, []), (2, 4, 0, 0, []), (22, 0, 0, 0, []), (0, 0, 0, 5, []), (17, 1, 44, 0, []), (2, 1, 1, 0, []), (2, 0, 1, 0, []), (2, 4, 0, 0, []), (2, 3, 0, 0, []), (40, 255, 3, 0, []), (2, 5, 0, 0, []), (23, 0, 0, 0, []), (5, 4, 0, 1, []), (18, 0, 10, 0, []), (5, 3, 0, 1, []), (18, 0, 2, 0, []), (41, 0, 0, 0, [])]
def mzc_253 : List mzI := [(2, 0, 1, 0, []), (2, 0, 1, 0, []), (20, 0, 6, 0, []), (20, 3, 3, 0, []), (2, 1, 0, 0, []), (22, 0, 0, 0, []), (2, 2, 0, 0, []), (40, 254, 3, 0, []), (3, 4, 0, 0, []), (2, 0, 1, 0, []), (2, 0, 1, 0, []), (20, 0, 6, 0, []), (20, 4, 3, 0, []), (2, 1, 0, 0, []), (22, 0, 0, 0, []), (2, 2, 0, 0, []), (40, 254, 3, 0, []), (3, 5, 0, 0, []), (2, 0, 1, 0, []), (20, 0, 6, 0, []), (20, 1, 3, 0, []), (2, 1, 0, 0, []), (22, 0, 0, 0, []), (19, 0, 50, 0, [(0, 24), (1, 28), (2, 32), (3, 39), (4, 43)]), (2, 4, 0, 0, []), (2, 5, 0, 0, []), (6, 0, 0, 0, []), (42, 0, 0, 0, []), (2, 4, 0, 0, []), (2, 5, 0, 0, []), (6, 1, 0, 0, []), (42, 0, 0, 0, []), (2, 4, 0, 0, []), (2, 5, 0, 0, []), (17, 3, 37, 0, []), (0, 0, 0, 1, []), (18, 0, 38, 0, []), (0, 0, 0, 0, []), (42, 0, 0, 0, []), (2, 4, 0, 0, []), (2, 5, 0, 0, []), (6, 2, 0, 0, []), (42, 0, 0, 0, []), (2, 3, 1, 0, []), (2, 0, 1, 0, []), (2, 1, 0, 0, []), (2, 2, 0, 0, []), (40, 255, 3, 0, []), (22, 0, 0, 0, []), (42, 0, 0, 0, []), (2, 5, 0, 0, []), (42, 0, 0, 0, [])]
def mzc_254 : List mzI := [(2, 1, 0, 0, []), (0, 0, 0, 10, []), (17, 3, 5, 0, []), (2, 1, 0, 0, []), (42, 0, 0, 0, []), (2, 1, 0, 0, []), (0, 0, 0, 10, []), (17, 1, 10, 0, []), (2, 2, 0, 0, []), (42, 0, 0, 0, []), (2, 0, 1, 0, []), (2, 1, 0, 0, []), (40, 221, 1, 0, []), (2, 2, 0, 0, []), (2, 1, 0, 0, []), (40, 222, 1, 0, []), (6, 1, 0, 0, []), (40, 251, 3, 0, []), (42, 0, 0, 0, [])]
def mzc_255 : List mzI := [(2, 0, 1, 0, []), (20, 0, 6, 0, []), (20, 2, 3, 0, []), (2, 1, 0, 0, []), (22, 0, 0, 0, []), (0, 0, 0, 16, []), (6, 2, 0, 0, []), (2, 0, 1, 0, []), (2, 0, 1, 0, []), (20, 0, 6, 0, []), (20, 3, 3, 0, []), (2, 1, 0, 0, []), (22, 0, 0, 0, []), (2, 2, 0, 0, []), (40, 254, 3, 0, []), (0, 0, 0, 16, []), (40, 287, 2, 0, []), (6, 0, 0, 0, []), (42, 0, 0, 0, [])]
def mzc_256 : List mzI := [(2, 0, 1, 0, []), (40, 257, 1, 0, []), (2, 2, 0, 0, []), (0, 0, 0, 1, []), (6, 1, 0, 0, []), (2, 0, 1, 0, []), (20, 1, 6, 0, []), (20, 3, 5, 0, []), (6, 2, 0, 0, []), (2, 0, 1, 0, []), (20, 1, 6, 0, []), (40, 244, 1, 0, []), (6, 0, 0, 0, []), (3, 3, 0, 0, []), (0, 0, 0, 0, []), (3, 4, 0, 0, []), (2, 4, 0, 0, []), (2, 3, 0, 0, []), (17, 4, 26, 0, []), (2, 0, 1, 0, []), (2, 1, 1, 0, []), (2, 4, 0, 0, []), (2, 2, 0, 0, []), (40, 258, 4, 0, []), (5, 4, 0, 1, []), (18, 0, 16, 0, []), (41, 0, 0, 0, [])]
def mzc_257 : List mzI := [(0, 0, 0, 0, []), (3, 1, 0, 0, []), (2, 1, 0, 0, []), (2, 0, 1, 0, []), (20, 0, 6, 0, []), (20, 0, 3, 0, []), (17, 3, 50, 0, []), (2, 1, 0, 0, []), (3, 2, 0, 0, []), (2, 2, 0, 0, []), (16, 5, 43, 0, []), (2, 0, 1, 0, []), (20, 1, 6, 0, []), (20, 4, 5, 0, []), (2, 0, 1, 0, []), (20, 4, 6, 0, []), (2, 2, 0, 0, []), (0, 0, 0, 1, []), (6, 1, 0, 0, []), (22, 0, 0, 0, []), (22, 0, 0, 0, []), (0, 0, 0, 10, []), (6, 10, 0, 0, []), (2, 0, 1, 0, []), (20, 1, 6, 0, []), (20, 4, 5, 0, []), (2, 1, 0, 0, []), (22, 0, 0, 0, []), (0, 0, 0, 10, []), (6, 10, 0, 0, []), (17, 5, 43, 0, []), (2, 0, 1, 0, []), (20, 4, 6, 0, []), (2, 2, 0, 0, []), (2, 0, 1, 0, []), (20, 4, 6, 0, []), (2, 2, 0, 0, []), (0, 0, 0, 1, []), (6, 1, 0, 0, []), (22, 0, 0, 0, []), (23, 0, 0, 0, []), (5, 2, 0, (-1), []), (18, 0, 9, 0, []), (2, 0, 1, 0, []), (20, 4, 6, 0, []), (2, 2, 0, 0, []), (2, 1, 0, 0, []), (23, 0, 0, 0, []), (5, 1, 0, 1, []), (18, 0, 2, 0, []), (41, 0, 0, 0, [])]
def mzc_258 : List mzI := [(0, 0, 0, 0, []), (3, 4, 0, 0, []), (0, 0, 0, 0, []), (3, 5, 0, 0, []), (2, 5, 0, 0, []), (2, 0, 1, 0, []), (20, 0, 6, 0, []), (20, 0, 3, 0, []), (17, 3, 62, 0, []), (2, 0, 1, 0, []), (20, 4, 6, 0, []), (2, 5, 0, 0, []), (22, 0, 0, 0, []), (3, 6, 0, 0, []), (2, 0, 1, 0, []), (20, 1, 6, 0, []), (2, 6, 0, 0, []), (2, 2, 0, 0, []), (2, 3, 0, 0, []), (40, 241, 4, 0, []), (3, 7, 0, 0, []), (2, 7, 0, 0, []), (0, 0, 0, (-1), []), (17, 0, 60, 0, []), (2, 0, 1, 0, []), (2, 6, 0, 0, []), (2, 7, 0, 0, []), (2, 1, 1, 0, []), (40, 253, 4, 0, []), (3, 8, 0, 0, []), (2, 0, 1, 0, []), (20, 3, 6, 0, []), (2, 7, 0, 0, []), (0, 0, 0, 10, []), (6, 2, 0, 0, []), (2, 6, 0, 0, []), (6, 0, 0, 0, []), (2, 8, 0, 0, []), (23, 0, 0, 0, []), (2, 0, 1, 0, []), (20, 0, 6, 0, []), (20, 1, 3, 0, []), (2, 6, 0, 0, []), (22, 0, 0, 0, []), (0, 0, 0, 5, []), (17, 1, 60, 0, []), (2, 0, 1, 0, []), (20, 5, 6, 0, []), (2, 4, 0, 0, []), (2, 0, 1, 0, []), (2, 6, 0, 0, []), (2, 7, 0, 0, []), (40, 255, 3, 0, []), (23, 0, 0, 0, []), (2, 0, 1, 0, []), (20, 6, 6, 0, []), (2, 4, 0, 0, []), (2, 8, 0, 0, []), (23, 0, 0, 0, []), (5, 4, 0, 1, []), (5, 5, 0, 1, []), (18, 0, 4, 0, []), (0, 0, 0, 0, []), (3, 5, 0, 0, []), (2, 5, 0, 0, []), (2, 4, 0, 0, []), (17, 3, 79, 0, []), (2, 1, 1, 0, []), (2, 0, 1, 0, []), (20, 5, 6, 0, []), (2, 5, 0, 0, []), (22, 0, 0, 0, []), (2, 0, 1, 0, []), (20, 6, 6, 0, []), (2, 5, 0, 0, []), (22, 0, 0, 0, []), (23, 0, 0, 0, []), (5, 5, 0, 1, []), (18, 0, 64, 0, []), (41, 0, 0, 0, [])]
def mzc_259 : List mzI := [(2, 0, 1, 0, []), (29, 0, 0, 0, []), (2, 0, 1, 0, []), (25, 3, 7, 0, []), (12, 0, 0, 0, []), (40, 214, 1, 0, []), (21, 1, 7, 2, []), (2, 0, 1, 0, []), (0, 0, 0, (-1), []), (21, 2, 7, 0, []), (2, 0, 1, 0, []), (2, 1, 1, 0, []), (21, 0, 7, 2, []), (41, 0, 0, 0, [])]
def mzc_260 : List mzI := [(2, 0, 1, 0, []), (20, 0, 7, 0, []), (0, 0, 0, 0, []), (21, 2, 9, 0, []), (2, 0, 1, 0, []), (20, 1, 7, 0, []), (0, 0, 0, 0, []), (21, 0, 3, 0, []), (2, 0, 1, 0, []), (0, 0, 0, (-1), []), (21, 2, 7, 0, []), (2, 0, 1, 0, []), (20, 0, 7, 0, []), (40, 279, 1, 0, []), (16, 1, 22, 0, []), (2, 0, 1, 0, []), (40, 261, 1, 0, []), (16, 1, 22, 0, []), (2, 0, 1, 0, []), (20, 0, 7, 0, []), (40, 284, 1, 0, []), (42, 0, 0, 0, []), (2, 0, 1, 0, []), (20, 2, 7, 0, []), (2, 0, 1, 0, []), (20, 1, 7, 0, []), (20, 0, 3, 0, []), (17, 2, 30, 0, []), (0, 0, 0, (-200), []), (18, 0, 33, 0, []), (2, 0, 1, 0, []), (20, 1, 7, 0, []), (20, 0, 3, 0, []), (42, 0, 0, 0, [])]
def mzc_261 : List mzI := [(0, 0, 0, 0, []), (3, 1, 0, 0, []), (2, 1, 0, 0, []), (0, 0, 0, 10, []), (17, 3, 35, 0, []), (2, 0, 1, 0, []), (2, 1, 0, 0, []), (40, 262, 2, 0, []), (16, 1, 11, 0, []), (0, 0, 0, 0, []), (42, 0, 1, 0, []), (2, 0, 1, 0, []), (20, 1, 7, 0, []), (2, 1, 0, 0, []), (0, 0, 0, 1, []), (6, 0, 0, 0, []), (21, 0, 3, 0, []), (2, 0, 1, 0, []), (20, 0, 7, 0, []), (40, 279, 1, 0, []), (16, 0, 23, 0, []), (0, 0, 0, 1, []), (42, 0, 1, 0, []), (2, 1, 0, 0, []), (0, 0, 0, 9, []), (17, 0, 31, 0, []), (2, 0, 1, 0, []), (20, 0, 7, 0, []), (0, 0, 0, 59, []), (40, 280, 2, 0, []), (16, 1, 33, 0, []), (0, 0, 0, 0, []), (42, 0, 1, 0, []), (5, 1, 0, 1, []), (18, 0, 2, 0, []), (0, 0, 0, 0, []), (42, 0, 1, 0, [])]
def mzc_262 : List mzI := [(2, 0, 1, 0, []), (20, 0, 7, 0, []), (40, 278, 1, 0, []), (0, 0, 0, 65, []), (6, 1, 0, 0, []), (3, 2, 0, 0, []), (2, 0, 1, 0, []), (20, 0, 7, 0, []), (40, 282, 1, 0, []), (16, 0, 15, 0, []), (2, 0, 1, 0, []), (2, 1, 0, 0, []), (2, 2, 0, 0, []), (40, 263, 3, 0, []), (42, 0, 1, 0, []), (2, 0, 1, 0, []), (2, 1, 0, 0, []), (40, 265, 2, 0, []), (3, 3, 0, 0, []), (2, 3, 0, 0, []), (0, 0, 0, (-1), []), (17, 1, 24, 0, []), (0, 0, 0, 0, []), (42, 0, 1, 0, []), (2, 0, 1, 0, []), (20, 0, 7, 0, []), (40, 278, 1, 0, []), (40, 264, 1, 0, []), (3, 4, 0, 0, []), (2, 4, 0, 0, []), (0, 0, 0, (-1), []), (17, 1, 34, 0, []), (0, 0, 0, 0, []), (42, 0, 1, 0, []), (2, 0, 1, 0, []), (20, 0, 7, 0, []), (12, 0, 0, 0, []), (20, 2, 9, 0, []), (0, 0, 0, 1, []), (6, 0, 0, 0, []), (21, 2, 9, 0, []), (2, 0, 1, 0, []), (2, 1, 0, 0, []), (40, 265, 2, 0, []), (3, 5, 0, 0, []), (2, 5, 0, 0, []), (0, 0, 0, (-1), []), (17, 1, 50, 0, []), (0, 0, 0, 0, []), (42, 0, 1, 0, []), (2, 0, 1, 0, []), (20, 1, 7, 0, []), (2, 1, 0, 0, []), (2, 4, 0, 0, []), (0, 0, 0, (-1), []), (2, 3, 0, 0, []), (2, 5, 0, 0, []), (40, 217, 6, 0, []), (0, 0, 0, 1, []), (42, 0, 1, 0, [])]
def mzc_263 : List mzI := [(2, 0, 1, 0, []), (20, 0, 7, 0, []), (0, 0, 0, 91, []), (40, 280, 2, 0, []), (16, 1, 7, 0, []), (0, 0, 0, 0, []), (42, 0, 1, 0, []), (2, 0, 1, 0, []), (2, 1, 0, 0, []), (40, 265, 2, 0, []), (3, 3, 0, 0, []), (2, 3, 0, 0, []), (0, 0, 0, (-1), []), (17, 0, 19, 0, []), (2, 0, 1, 0, []), (20, 0, 7, 0, []), (0, 0, 0, 93, []), (40, 280, 2, 0, []), (16, 1, 21, 0, []), (0, 0, 0, 0, []), (42, 0, 1, 0, []), (2, 0, 1, 0, []), (20, 0, 7, 0, []), (0, 0, 0, 61, []), (40, 280, 2, 0, []), (16, 1, 36, 0, []), (2, 0, 1, 0, []), (20, 1, 7, 0, []), (2, 1, 0, 0, []), (0, 0, 0, 4, []), (2, 2, 0, 0, []), (2, 3, 0, 0, []), (0, 0, 0, (-1), []), (40, 217, 6, 0, []), (0, 0, 0, 1, []), (42, 0, 1, 0, []), (2, 0, 1, 0, []), (2, 1, 0, 0, []), (40, 265, 2, 0, []), (3, 4, 0, 0, []), (2, 4, 0, 0, []), (0, 0, 0, (-1), []), (17, 1, 45, 0, []), (0, 0, 0, 0, []), (42, 0, 1, 0, []), (2, 0, 1, 0, []), (20, 1, 7, 0, []), (2, 1, 0, 0, []), (0, 0, 0, 5, []), (2, 2, 0, 0, []), (2, 3, 0, 0, []), (2, 4, 0, 0, []), (40, 217, 6, 0, []), (0, 0, 0, 1, []), (42, 0, 1, 0, [])]
def mzc_264 : List mzI := [(2, 0, 0, 0, []), (39, 0, 10, 0, [(42, 8), (43, 2), (45, 4), (60, 6)]), (0, 0, 0, 0, []), (42, 0, 0, 0, []), (0, 0, 0, 1, []), (42, 0, 0, 0, []), (0, 0, 0, 2, []), (42, 0, 0, 0, []), (0, 0, 0, 3, []), (42, 0, 0, 0, []), (0, 0, 0, (-1), []), (42, 0, 0, 0, [])]
def mzc_265 : List mzI := [(2, 0, 1, 0, []), (20, 0, 7, 0, []), (40, 278, 1, 0, []), (3, 2, 0, 0, []), (2, 0, 1, 0, []), (20, 0, 7, 0, []), (40, 281, 1, 0, []), (16, 0, 12, 0, []), (2, 2, 0, 0, []), (0, 0, 0, 48, []), (6, 1, 0, 0, []), (42, 0, 0, 0, []), (2, 0, 1, 0, []), (20, 0, 7, 0, []), (0, 0, 0, 110, []), (40, 280, 2, 0, []), (16, 0, 19, 0, []), (0, 0, 0, 10, []), (42, 0, 0, 0, []), (2, 2, 0, 0, []), (0, 0, 0, 97, []), (6, 1, 0, 0, []), (3, 3, 0, 0, []), (2, 3, 0, 0, []), (16, 2, 28, 0, []), (2, 3, 0, 0, []), (0, 0, 0, 10, []), (17, 2, 30, 0, []), (0, 0, 0, (-1), []), (42, 0, 0, 0, []), (2, 0, 1, 0, []), (40, 266, 1, 0, []), (3, 4, 0, 0, []), (2, 4, 0, 0, []), (16, 1, 40, 0, []), (2, 3, 0, 0, []), (2, 1, 0, 0, []), (17, 2, 40, 0, []), (0, 0, 0, (-1), []), (42, 0, 0, 0, []), (2, 4, 0, 0, []), (16, 5, 49, 0, []), (2, 3, 0, 0, []), (2, 0, 1, 0, []), (20, 2, 7, 0, []), (17, 5, 49, 0, []), (2, 0, 1, 0, []), (2, 3, 0, 0, []), (21, 2, 7, 0, []), (2, 0, 1, 0, []), (20, 0, 7, 0, []), (12, 0, 0, 0, []), (20, 2, 9, 0, []), (0, 0, 0, 1, []), (2, 4, 0, 0, []), (6, 0, 0, 0, []), (6, 0, 0, 0, []), (21, 2, 9, 0, []), (0, 0, 0, 11, []), (2, 3, 0, 0, []), (6, 0, 0, 0, []), (0, 0, 0, 30, []), (2, 4, 0, 0, []), (6, 2, 0, 0, []), (6, 0, 0, 0, []), (42, 0, 0, 0, [])]
def mzc_266 : List mzI := [(2, 0, 1, 0, []), (20, 0, 7, 0, []), (2, 0, 1, 0, []), (20, 0, 7, 0, []), (20, 2, 9, 0, []), (0, 0, 0, 1, []), (6, 0, 0, 0, []), (40, 277, 2, 0, []), (0, 0, 0, 39, []), (17, 0, 12, 0, []), (0, 0, 0, 0, []), (42, 0, 0, 0, []), (2, 0, 1, 0, []), (20, 0, 7, 0, []), (2, 0, 1, 0, []), (20, 0, 7, 0, []), (20, 2, 9, 0, []), (0, 0, 0, 2, []), (6, 0, 0, 0, []), (40, 277, 2, 0, []), (0, 0, 0, 39, []), (17, 1, 24, 0, []), (0, 0, 0, 2, []), (18, 0, 25, 0, []), (0, 0, 0, 1, []), (42, 0, 0, 0, [])]
def mzc_267 : List mzI := [(2, 0, 1, 0, []), (20, 0, 7, 0, []), (0, 0, 0, 0, []), (21, 2, 9, 0, []), (2, 0, 1, 0, []), (20, 1, 7, 0, []), (20, 5, 3, 0, []), (0, 0, 0, 0, []), (40, 290, 2, 0, []), (2, 0, 1, 0, []), (20, 0, 7, 0, []), (40, 279, 1, 0, []), (16, 0, 15, 0, []), (0, 0, 0, 0, []), (42, 0, 0, 0, []), (0, 0, 0, 0, []), (3, 1, 0, 0, []), (2, 1, 0, 0, []), (0, 0, 0, 16, []), (17, 3, 50, 0, []), (2, 0, 1, 0, []), (2, 1, 0, 0, []), (40, 268, 2, 0, []), (16, 1, 28, 0, []), (2, 0, 1, 0, []), (20, 0, 7, 0, []), (40, 284, 1, 0, []), (42, 0, 0, 0, []), (2, 0, 1, 0, []), (20, 0, 7, 0, []), (40, 279, 1, 0, []), (16, 0, 36, 0, []), (2, 1, 0, 0, []), (0, 0, 0, 1, []), (6, 0, 0, 0, []), (42, 0, 0, 0, []), (2, 1, 0, 0, []), (0, 0, 0, 15, []), (17, 0, 44, 0, []), (2, 0, 1, 0, []), (20, 0, 7, 0, []), (0, 0, 0, 44, []), (40, 280, 2, 0, []), (16, 1, 48, 0, []), (2, 0, 1, 0, []), (20, 0, 7, 0, []), (40, 284, 1, 0, []), (42, 0, 0, 0, []), (5, 1, 0, 1, []), (18, 0, 17, 0, []), (2, 0, 1, 0, []), (20, 0, 7, 0, []), (40, 284, 1, 0, []), (42, 0, 0, 0, [])]
def mzc_268 : List mzI := [(2, 0, 1, 0, []), (20, 0, 7, 0, []), (0, 0, 0, 45, []), (40, 280, 2, 0, []), (3, 2, 0, 0, []), (2, 0, 1, 0, []), (20, 0, 7, 0, []), (20, 2, 9, 0, []), (3, 3, 0, 0, []), (0, 0, 0, 0, []), (3, 4, 0, 0, []), (0, 0, 0, 0, []), (3, 5, 0, 0, []), (2, 5, 0, 0, []), (0, 0, 0, 3, []), (17, 3, 35, 0, []), (2, 0, 1, 0, []), (20, 0, 7, 0, []), (2, 0, 1, 0, []), (20, 0, 7, 0, []), (20, 2, 9, 0, []), (40, 283, 2, 0, []), (3, 6, 0, 0, []), (2, 0, 1, 0, []), (20, 0, 7, 0, []), (40, 281, 1, 0, []), (16, 0, 33, 0, []), (2, 4, 0, 0, []), (0, 0, 0, 10, []), (6, 2, 0, 0, []), (2, 6, 0, 0, []), (6, 0, 0, 0, []), (3, 4, 0, 0, []), (5, 5, 0, 1, []), (18, 0, 13, 0, []), (2, 0, 1, 0, []), (20, 1, 7, 0, []), (20, 5, 3, 0, []), (2, 1, 0, 0, []), (2, 2, 0, 0, []), (16, 0, 44, 0, []), (2, 4, 0, 0, []), (7, 0, 0, 0, []), (18, 0, 45, 0, []), (2, 4, 0, 0, []), (23, 0, 0, 0, []), (2, 0, 1, 0, []), (20, 0, 7, 0, []), (20, 2, 9, 0, []), (2, 3, 0, 0, []), (17, 5, 53, 0, []), (0, 0, 0, 1, []), (18, 0, 54, 0, []), (0, 0, 0, 0, []), (42, 0, 1, 0, [])]
def mzc_269 : List mzI := [(2, 0, 1, 0, []), (20, 0, 7, 0, []), (0, 0, 0, 0, []), (21, 2, 9, 0, []), (0, 0, 0, 0, []), (3, 1, 0, 0, []), (2, 1, 0, 0, []), (0, 0, 0, 80, []), (17, 3, 22, 0, []), (2, 0, 1, 0, []), (20, 0, 7, 0, []), (40, 279, 1, 0, []), (16, 1, 22, 0, []), (2, 0, 1, 0, []), (40, 270, 1, 0, []), (16, 1, 20, 0, []), (2, 0, 1, 0, []), (20, 0, 7, 0, []), (40, 284, 1, 0, []), (42, 0, 0, 0, []), (5, 1, 0, 1, []), (18, 0, 6, 0, []), (0, 0, 0, 0, []), (42, 0, 0, 0, [])]
def mzc_270 : List mzI := [(2, 0, 1, 0, []), (20, 0, 7, 0, []), (0, 0, 0, 117, []), (40, 280, 2, 0, []), (16, 0, 17, 0, []), (2, 0, 1, 0, []), (20, 0, 7, 0, []), (40, 281, 1, 0, []), (16, 0, 15, 0, []), (2, 0, 1, 0, []), (20, 0, 7, 0, []), (40, 281, 1, 0, []), (16, 0, 15, 0, []), (0, 0, 0, 1, []), (18, 0, 16, 0, []), (0, 0, 0, 0, []), (42, 0, 1, 0, []), (2, 0, 1, 0, []), (20, 0, 7, 0, []), (0, 0, 0, 119, []), (40, 280, 2, 0, []), (16, 0, 42, 0, []), (2, 0, 1, 0, []), (20, 0, 7, 0, []), (40, 282, 1, 0, []), (16, 0, 40, 0, []), (2, 0, 1, 0, []), (20, 0, 7, 0, []), (40, 281, 1, 0, []), (16, 0, 40, 0, []), (2, 0, 1, 0, []), (20, 0, 7, 0, []), (40, 281, 1, 0, []), (16, 0, 40, 0, []), (2, 0, 1, 0, []), (20, 0, 7, 0, []), (40, 281, 1, 0, []), (16, 0, 40, 0, []), (0, 0, 0, 1, []), (18, 0, 41, 0, []), (0, 0, 0, 0, []), (42, 0, 1, 0, []), (2, 0, 1, 0, []), (20, 0, 7, 0, []), (0, 0, 0, 114, []), (40, 280, 2, 0, []), (16, 0, 53, 0, []), (2, 0, 1, 0, []), (20, 0, 7, 0, []), (40, 281, 1, 0, []), (16, 0, 53, 0, []), (0, 0, 0, 1, []), (18, 0, 54, 0, []), (0, 0, 0, 0, []), (42, 0, 1, 0, [])]
def mzc_271 : List mzI := [(2, 0, 0, 0, []), (0, 0, 0, 117, []), (17, 1, 5, 0, []), (0, 0, 0, 3, []), (42, 0, 0, 0, []), (2, 0, 0, 0, []), (0, 0, 0, 119, []), (17, 1, 10, 0, []), (0, 0, 0, 5, []), (18, 0, 11, 0, []), (0, 0, 0, 2, []), (42, 0, 0, 0, [])]
def mzc_272 : List mzI := [(2, 0, 1, 0, []), (29, 0, 0, 0, []), (2, 0, 1, 0, []), (0, 0, 0, 11, []), (26, 1, 0, 0, []), (21, 0, 8, 2, []), (2, 0, 1, 0, []), (0, 0, 0, 0, []), (21, 1, 8, 0, []), (41, 0, 0, 0, [])]
def mzc_273 : List mzI := [(2, 0, 1, 0, []), (0, 0, 0, 0, []), (21, 1, 8, 0, []), (41, 0, 0, 0, [])]
def mzc_274 : List mzI := [(2, 0, 1, 0, []), (20, 1, 8, 0, []), (2, 0, 1, 0, []), (20, 0, 8, 0, []), (24, 0, 0, 0, []), (17, 3, 18, 0, []), (2, 0, 1, 0, []), (20, 0, 8, 0, []), (2, 0, 1, 0, []), (20, 1, 8, 0, []), (2, 1, 2, 0, []), (23, 1, 0, 0, []), (2, 0, 1, 0, []), (12, 0, 0, 0, []), (20, 1, 8, 0, []), (0, 0, 0, 1, []), (6, 0, 0, 0, []), (21, 1, 8, 0, []), (41, 0, 0, 0, [])]
def mzc_275 : List mzI := [(2, 0, 1, 0, []), (29, 0, 0, 0, []), (2, 0, 1, 0, []), (0, 0, 0, 80, []), (26, 0, 0, 0, []), (21, 0, 9, 2, []), (2, 0, 1, 0, []), (0, 0, 0, 0, []), (21, 1, 9, 0, []), (2, 0, 1, 0, []), (0, 0, 0, 0, []), (21, 2, 9, 0, []), (41, 0, 0, 0, [])]
def mzc_276 : List mzI := [(2, 0, 1, 0, []), (20, 1, 9, 0, []), (0, 0, 0, 80, []), (17, 3, 16, 0, []), (2, 0, 1, 0, []), (20, 0, 9, 0, []), (2, 0, 1, 0, []), (20, 1, 9, 0, []), (2, 1, 0, 0, []), (23, 0, 0, 0, []), (2, 0, 1, 0, []), (12, 0, 0, 0, []), (20, 1, 9, 0, []), (0, 0, 0, 1, []), (6, 0, 0, 0, []), (21, 1, 9, 0, []), (41, 0, 0, 0, [])]
def mzc_277 : List mzI := [(2, 1, 0, 0, []), (16, 2, 11, 0, []), (2, 1, 0, 0, []), (2, 0, 1, 0, []), (20, 1, 9, 0, []), (17, 3, 11, 0, []), (2, 0, 1, 0, []), (20, 0, 9, 0, []), (2, 1, 0, 0, []), (22, 0, 0, 0, []), (18, 0, 12, 0, []), (0, 0, 0, (-1), []), (42, 0, 0, 0, [])]
def mzc_278 : List mzI := [(2, 0, 1, 0, []), (2, 0, 1, 0, []), (20, 2, 9, 0, []), (40, 277, 2, 0, []), (42, 0, 0, 0, [])]
def mzc_279 : List mzI := [(2, 0, 1, 0, []), (20, 2, 9, 0, []), (2, 0, 1, 0, []), (20, 1, 9, 0, []), (17, 2, 7, 0, []), (0, 0, 0, 1, []), (18, 0, 8, 0, []), (0, 0, 0, 0, []), (42, 0, 1, 0, [])]
def mzc_280 : List mzI := [(2, 0, 1, 0, []), (20, 2, 9, 0, []), (2, 0, 1, 0, []), (20, 1, 9, 0, []), (17, 3, 12, 0, []), (2, 0, 1, 0, []), (20, 0, 9, 0, []), (2, 0, 1, 0, []), (20, 2, 9, 0, []), (22, 0, 0, 0, []), (2, 1, 0, 0, []), (17, 0, 14, 0, []), (0, 0, 0, 0, []), (42, 0, 1, 0, []), (2, 0, 1, 0, []), (12, 0, 0, 0, []), (20, 2, 9, 0, []), (0, 0, 0, 1, []), (6, 0, 0, 0, []), (21, 2, 9, 0, []), (0, 0, 0, 1, []), (42, 0, 1, 0, [])]
def mzc_281 : List mzI := [(2, 0, 1, 0, []), (20, 2, 9, 0, []), (2, 0, 1, 0, []), (20, 1, 9, 0, []), (17, 3, 19, 0, []), (2, 0, 1, 0, []), (20, 0, 9, 0, []), (2, 0, 1, 0, []), (20, 2, 9, 0, []), (22, 0, 0, 0, []), (0, 0, 0, 48, []), (17, 2, 19, 0, []), (2, 0, 1, 0, []), (20, 0, 9, 0, []), (2, 0, 1, 0, []), (20, 2, 9, 0, []), (22, 0, 0, 0, []), (0, 0, 0, 57, []), (17, 5, 21, 0, []), (0, 0, 0, 0, []), (42, 0, 1, 0, []), (2, 0, 1, 0, []), (12, 0, 0, 0, []), (20, 2, 9, 0, []), (0, 0, 0, 1, []), (6, 0, 0, 0, []), (21, 2, 9, 0, []), (0, 0, 0, 1, []), (42, 0, 1, 0, [])]
def mzc_282 : List mzI := [(2, 0, 1, 0, []), (0, 0, 0, 65, []), (40, 280, 2, 0, []), (16, 1, 8, 0, []), (2, 0, 1, 0, []), (0, 0, 0, 66, []), (40, 280, 2, 0, []), (16, 0, 10, 0, []), (0, 0, 0, 1, []), (18, 0, 11, 0, []), (0, 0, 0, 0, []), (42, 0, 1, 0, [])]
def mzc_283 : List mzI := [(2, 0, 1, 0, []), (2, 1, 0, 0, []), (40, 277, 2, 0, []), (3, 2, 0, 0, []), (2, 2, 0, 0, []), (0, 0, 0, 48, []), (17, 2, 14, 0, []), (2, 2, 0, 0, []), (0, 0, 0, 57, []), (17, 4, 14, 0, []), (2, 2, 0, 0, []), (0, 0, 0, 48, []), (6, 1, 0, 0, []), (18, 0, 15, 0, []), (0, 0, 0, (-1), []), (42, 0, 0, 0, [])]
def mzc_284 : List mzI := [(0, 0, 0, (-1), []), (2, 0, 1, 0, []), (20, 2, 9, 0, []), (6, 1, 0, 0, []), (42, 0, 0, 0, [])]
def mzc_285 : List mzI := [(2, 0, 0, 0, []), (2, 0, 0, 0, []), (0, 0, 0, 1, []), (6, 8, 0, 0, []), (0, 0, 0, 1431655765, []), (6, 3, 0, 0, []), (6, 1, 0, 0, []), (3, 0, 0, 0, []), (2, 0, 0, 0, []), (0, 0, 0, 858993459, []), (6, 3, 0, 0, []), (2, 0, 0, 0, []), (0, 0, 0, 2, []), (6, 8, 0, 0, []), (0, 0, 0, 858993459, []), (6, 3, 0, 0, []), (6, 0, 0, 0, []), (3, 0, 0, 0, []), (2, 0, 0, 0, []), (2, 0, 0, 0, []), (0, 0, 0, 4, []), (6, 8, 0, 0, []), (6, 0, 0, 0, []), (0, 0, 0, 252645135, []), (6, 3, 0, 0, []), (3, 0, 0, 0, []), (2, 0, 0, 0, []), (2, 0, 0, 0, []), (0, 0, 0, 8, []), (6, 8, 0, 0, []), (6, 0, 0, 0, []), (3, 0, 0, 0, []), (2, 0, 0, 0, []), (2, 0, 0, 0, []), (0, 0, 0, 16, []), (6, 8, 0, 0, []), (6, 0, 0, 0, []), (3, 0, 0, 0, []), (2, 0, 0, 0, []), (0, 0, 0, 63, []), (6, 3, 0, 0, []), (42, 0, 0, 0, [])]
def mzc_286 : List mzI := [(2, 0, 0, 0, []), (2, 1, 0, 0, []), (6, 9, 0, 0, []), (3, 2, 0, 0, []), (2, 0, 0, 0, []), (2, 1, 0, 0, []), (6, 5, 0, 0, []), (16, 3, 17, 0, []), (2, 2, 0, 0, []), (2, 1, 0, 0, []), (6, 2, 0, 0, []), (2, 0, 0, 0, []), (17, 0, 17, 0, []), (2, 2, 0, 0, []), (0, 0, 0, 1, []), (6, 1, 0, 0, []), (42, 0, 0, 0, []), (2, 2, 0, 0, []), (42, 0, 0, 0, [])]
def mzc_287 : List mzI := [(2, 0, 0, 0, []), (2, 1, 0, 0, []), (6, 10, 0, 0, []), (3, 2, 0, 0, []), (2, 0, 0, 0, []), (2, 1, 0, 0, []), (6, 5, 0, 0, []), (16, 3, 14, 0, []), (2, 2, 0, 0, []), (16, 0, 14, 0, []), (2, 2, 0, 0, []), (2, 1, 0, 0, []), (6, 0, 0, 0, []), (42, 0, 0, 0, []), (2, 2, 0, 0, []), (42, 0, 0, 0, [])]
def mzc_288 : List mzI := [(2, 0, 0, 0, []), (2, 1, 0, 0, []), (17, 2, 5, 0, []), (2, 0, 0, 0, []), (18, 0, 6, 0, []), (2, 1, 0, 0, []), (42, 0, 0, 0, [])]
def mzc_289 : List mzI := [(2, 0, 0, 0, []), (2, 1, 0, 0, []), (17, 4, 5, 0, []), (2, 0, 0, 0, []), (18, 0, 6, 0, []), (2, 1, 0, 0, []), (42, 0, 0, 0, [])]
def mzc_290 : List mzI := [(0, 0, 0, 0, []), (3, 2, 0, 0, []), (2, 0, 1, 0, []), (24, 0, 0, 0, []), (3, 3, 0, 0, []), (2, 2, 0, 0, []), (2, 3, 0, 0, []), (17, 3, 14, 0, []), (2, 0, 1, 0, []), (2, 2, 0, 0, []), (2, 1, 0, 0, []), (23, 0, 0, 0, []), (5, 2, 0, 1, []), (18, 0, 5, 0, []), (41, 0, 0, 0, [])]
def mzc_291 : List mzI := [(0, 0, 0, 0, []), (3, 3, 0, 0, []), (2, 0, 1, 0, []), (24, 0, 0, 0, []), (3, 4, 0, 0, []), (2, 3, 0, 0, []), (2, 4, 0, 0, []), (17, 3, 14, 0, []), (2, 0, 1, 0, []), (2, 3, 0, 0, []), (2, 1, 2, 0, []), (23, 1, 0, 0, []), (5, 3, 0, 1, []), (18, 0, 5, 0, []), (41, 0, 0, 0, [])]
def mzP_0 : List mzM := [(8, 0, (0, 0, 0), mzc_0), (5, 0, (0, 8, 9), mzc_1), (5, 0, (0, 8, 9), mzc_2), (4, 0, (0, 7, 8), mzc_3), (4, 0, (0, 6, 7), mzc_4), (1, 11, (0, 0, 0), mzc_5), (3, 11, (0, 0, 0), mzc_6), (2, 11, (0, 0, 0), mzc_7), (2, 11, (0, 0, 0), mzc_8), (3, 11, (0, 0, 0), mzc_9), (3, 11, (0, 0, 0), mzc_10), (3, 11, (0, 0, 0), mzc_11), (5, 11, (0, 0, 0), mzc_12), (4, 11, (0, 0, 0), mzc_13), (5, 11, (0, 0, 0), mzc_14), (2, 11, (0, 0, 0), mzc_15), (4, 11, (0, 0, 0), mzc_16), (1, 11, (0, 0, 0), mzc_17), (2, 11, (0, 0, 0), mzc_18), (2, 11, (0, 0, 0), mzc_19), (2, 11, (0, 0, 0), mzc_20), (2, 11, (0, 0, 0), mzc_21), (2, 11, (0, 0, 0), mzc_22), (2, 11, (0, 0, 0), mzc_23), (2, 11, (0, 0, 0), mzc_24), (4, 11, (0, 0, 0), mzc_25), (2, 11, (0, 0, 0), mzc_26), (3, 11, (0, 0, 0), mzc_27), (5, 11, (0, 0, 0), mzc_28), (6, 11, (0, 0, 0), mzc_29), (6, 11, (0, 0, 0), mzc_30), (4, 11, (0, 0, 0), mzc_31), (5, 11, (0, 0, 0), mzc_32), (2, 11, (0, 0, 0), mzc_33), (2, 11, (0, 0, 0), mzc_34), (2, 11, (0, 0, 0), mzc_35), (7, 11, (0, 0, 0), mzc_36), (6, 11, (0, 0, 0), mzc_37), (5, 11, (0, 0, 0), mzc_38), (2, 11, (0, 0, 0), mzc_39), (2, 11, (0, 0, 0), mzc_40), (2, 11, (0, 0, 0), mzc_41), (2, 11, (0, 0, 0), mzc_42), (1, 0, (0, 0, 0), mzc_43), (1, 0, (0, 0, 0), mzc_44), (1, 0, (0, 0, 0), mzc_45), (1, 0, (0, 0, 0), mzc_46), (1, 0, (0, 0, 0), mzc_47), (2, 0, (0, 0, 0), mzc_48), (2, 0, (0, 0, 0), mzc_49)]
def mzP_1 : List mzM := [(2, 11, (0, 0, 0), mzc_50), (1, 11, (0, 0, 0), mzc_51), (8, 11, (0, 0, 0), mzc_52), (4, 11, (0, 0, 0), mzc_53), (3, 11, (0, 0, 0), mzc_54), (5, 11, (0, 0, 0), mzc_55), (4, 11, (0, 0, 0), mzc_56), (3, 11, (0, 0, 0), mzc_57), (2, 11, (0, 0, 0), mzc_58), (3, 11, (0, 0, 0), mzc_59), (2, 11, (0, 0, 0), mzc_60), (4, 11, (0, 0, 0), mzc_61), (2, 11, (0, 0, 0), mzc_62), (2, 11, (0, 0, 0), mzc_63), (1, 11, (0, 0, 0), mzc_64), (7, 11, (0, 0, 0), mzc_65), (3, 11, (0, 0, 0), mzc_66), (2, 12, (0, 0, 0), mzc_67), (3, 0, (0, 0, 0), mzc_68), (1, 12, (0, 0, 0), mzc_69), (3, 12, (0, 0, 0), mzc_70), (3, 12, (0, 0, 0), mzc_71), (2, 12, (0, 0, 0), mzc_72), (2, 12, (0, 0, 0), mzc_73), (2, 12, (0, 0, 0), mzc_74), (3, 12, (0, 0, 0), mzc_75), (1, 0, (0, 0, 0), mzc_76), (1, 0, (0, 0, 0), mzc_77), (1, 0, (0, 0, 0), mzc_78), (2, 12, (0, 0, 0), mzc_79), (3, 0, (0, 0, 0), mzc_80), (2, 0, (0, 0, 0), mzc_81), (2, 0, (0, 0, 0), mzc_82), (3, 12, (0, 0, 0), mzc_83), (2, 12, (0, 0, 0), mzc_84), (1, 12, (0, 0, 0), mzc_85), (1, 12, (0, 0, 0), mzc_86), (1, 12, (0, 0, 0), mzc_87), (2, 12, (0, 0, 0), mzc_88), (2, 12, (0, 0, 0), mzc_89), (2, 12, (0, 0, 0), mzc_90), (3, 12, (0, 0, 0), mzc_91), (2, 12, (0, 0, 0), mzc_92), (1, 12, (0, 0, 0), mzc_93), (5, 12, (0, 0, 0), mzc_94), (3, 12, (0, 0, 0), mzc_95), (4, 12, (0, 0, 0), mzc_96), (4, 12, (0, 0, 0), mzc_97), (1, 0, (0, 0, 0), mzc_98), (5, 12, (0, 0, 0), mzc_99)]
def mzP_2 : List mzM := [(3, 12, (0, 0, 0), mzc_100), (3, 12, (0, 0, 0), mzc_101), (9, 12, (0, 0, 0), mzc_102), (2, 12, (0, 0, 0), mzc_103), (2, 12, (0, 0, 0), mzc_104), (3, 12, (0, 0, 0), mzc_105), (5, 12, (0, 0, 0), mzc_106), (4, 12, (0, 0, 0), mzc_107), (5, 12, (0, 0, 0), mzc_108), (4, 12, (0, 0, 0), mzc_109), (3, 12, (0, 0, 0), mzc_110), (5, 12, (0, 0, 0), mzc_111), (5, 12, (0, 0, 0), mzc_112), (3, 12, (0, 0, 0), mzc_113), (2, 12, (0, 0, 0), mzc_114), (3, 12, (0, 0, 0), mzc_115), (5, 12, (0, 0, 0), mzc_116), (3, 12, (0, 0, 0), mzc_117), (2, 12, (0, 0, 0), mzc_118), (2, 12, (0, 0, 0), mzc_119), (5, 12, (0, 0, 0), mzc_120), (5, 12, (0, 0, 0), mzc_121), (7, 12, (0, 0, 0), mzc_122), (7, 12, (0, 0, 0), mzc_123), (4, 12, (0, 0, 0), mzc_124), (8, 12, (0, 0, 0), mzc_125), (2, 12, (0, 0, 0), mzc_126), (5, 12, (0, 0, 0), mzc_127), (2, 12, (0, 0, 0), mzc_128), (3, 12, (0, 0, 0), mzc_129), (3, 12, (0, 0, 0), mzc_130), (2, 12, (0, 0, 0), mzc_131), (4, 12, (0, 0, 0), mzc_132), (6, 12, (0, 0, 0), mzc_133), (3, 12, (0, 0, 0), mzc_134), (7, 12, (0, 0, 0), mzc_135), (7, 12, (0, 0, 0), mzc_136), (3, 12, (0, 0, 0), mzc_137), (5, 12, (0, 0, 0), mzc_138), (5, 12, (0, 0, 0), mzc_139), (2, 12, (0, 0, 0), mzc_140), (6, 12, (0, 0, 0), mzc_141), (7, 12, (0, 0, 0), mzc_142), (5, 12, (0, 0, 0), mzc_143), (2, 12, (0, 0, 0), mzc_144), (2, 12, (0, 0, 0), mzc_145), (2, 12, (0, 0, 0), mzc_146), (2, 12, (0, 0, 0), mzc_147), (2, 12, (0, 0, 0), mzc_148), (4, 12, (0, 0, 0), mzc_149)]
def mzP_3 : List mzM := [(3, 12, (0, 0, 0), mzc_150), (3, 12, (0, 0, 0), mzc_151), (5, 12, (0, 0, 0), mzc_152), (6, 12, (0, 0, 0), mzc_153), (7, 12, (0, 0, 0), mzc_154), (7, 12, (0, 0, 0), mzc_155), (9, 12, (0, 0, 0), mzc_156), (5, 12, (0, 0, 0), mzc_157), (4, 12, (0, 0, 0), mzc_158), (6, 12, (0, 0, 0), mzc_159), (4, 12, (0, 0, 0), mzc_160), (6, 12, (0, 0, 0), mzc_161), (3, 12, (0, 0, 0), mzc_162), (2, 12, (0, 0, 0), mzc_163), (2, 12, (0, 0, 0), mzc_164), (3, 12, (0, 0, 0), mzc_165), (9, 12, (0, 0, 0), mzc_166), (3, 12, (0, 0, 0), mzc_167), (5, 12, (0, 0, 0), mzc_168), (4, 12, (0, 0, 0), mzc_169), (2, 12, (0, 0, 0), mzc_170), (1, 12, (0, 0, 0), mzc_171), (8, 12, (0, 0, 0), mzc_172), (7, 12, (0, 0, 0), mzc_173), (2, 12, (0, 0, 0), mzc_174), (1, 12, (0, 0, 0), mzc_175), (4, 12, (0, 0, 0), mzc_176), (3, 12, (0, 0, 0), mzc_177), (3, 12, (0, 0, 0), mzc_178), (4, 12, (0, 0, 0), mzc_179), (2, 12, (0, 0, 0), mzc_180), (2, 12, (0, 0, 0), mzc_181), (3, 1, (0, 0, 0), mzc_182), (3, 1, (0, 0, 0), mzc_183), (1, 0, (0, 0, 0), mzc_184), (5, 1, (0, 0, 0), mzc_185), (12, 1, (0, 0, 0), mzc_186), (4, 0, (0, 0, 0), mzc_187), (2, 2, (0, 0, 0), mzc_188), (1, 2, (0, 0, 0), mzc_189), (3, 2, (0, 0, 0), mzc_190), (2, 2, (0, 0, 0), mzc_191), (3, 2, (0, 0, 0), mzc_192), (6, 2, (0, 0, 0), mzc_193), (4, 2, (0, 0, 0), mzc_194), (4, 2, (0, 0, 0), mzc_195), (5, 2, (0, 0, 0), mzc_196), (3, 2, (0, 0, 0), mzc_197), (1, 2, (0, 0, 0), mzc_198), (4, 2, (0, 0, 0), mzc_199)]
def mzP_4 : List mzM := [(3, 2, (0, 0, 0), mzc_200), (2, 2, (0, 0, 0), mzc_201), (6, 2, (0, 0, 0), mzc_202), (6, 2, (0, 0, 0), mzc_203), (6, 2, (0, 0, 0), mzc_204), (6, 2, (0, 0, 0), mzc_205), (5, 2, (0, 0, 0), mzc_206), (4, 2, (0, 0, 0), mzc_207), (4, 2, (0, 0, 0), mzc_208), (4, 2, (0, 0, 0), mzc_209), (4, 2, (0, 0, 0), mzc_210), (3, 2, (0, 0, 0), mzc_211), (2, 3, (0, 0, 0), mzc_212), (2, 3, (0, 0, 0), mzc_213), (1, 4, (0, 0, 0), mzc_214), (2, 4, (0, 0, 0), mzc_215), (2, 4, (0, 0, 0), mzc_216), (6, 4, (0, 0, 0), mzc_217), (2, 4, (0, 0, 0), mzc_218), (5, 4, (0, 0, 0), mzc_219), (1, 4, (0, 0, 0), mzc_220), (1, 0, (0, 0, 0), mzc_221), (1, 0, (0, 0, 0), mzc_222), (3, 5, (0, 0, 0), mzc_223), (1, 5, (0, 0, 0), mzc_224), (1, 5, (0, 0, 0), mzc_225), (1, 5, (0, 0, 0), mzc_226), (2, 5, (0, 0, 0), mzc_227), (2, 5, (0, 0, 0), mzc_228), (3, 6, (0, 0, 0), mzc_229), (1, 6, (0, 0, 0), mzc_230), (3, 6, (0, 0, 0), mzc_231), (5, 6, (0, 0, 0), mzc_232), (6, 6, (0, 0, 0), mzc_233), (5, 6, (0, 0, 0), mzc_234), (5, 6, (0, 0, 0), mzc_235), (8, 6, (0, 0, 0), mzc_236), (5, 6, (0, 0, 0), mzc_237), (6, 6, (0, 0, 0), mzc_238), (2, 6, (0, 0, 0), mzc_239), (2, 6, (0, 0, 0), mzc_240), (6, 6, (0, 0, 0), mzc_241), (2, 6, (0, 0, 0), mzc_242), (3, 6, (0, 0, 0), mzc_243), (3, 6, (0, 0, 0), mzc_244), (6, 6, (0, 0, 0), mzc_245), (4, 6, (0, 0, 0), mzc_246), (4, 6, (0, 0, 0), mzc_247), (3, 7, (0, 0, 0), mzc_248), (1, 7, (0, 0, 0), mzc_249)]
def mzP_5 : List mzM := [(6, 7, (0, 0, 0), mzc_250), (3, 7, (0, 0, 0), mzc_251), (6, 7, (0, 0, 0), mzc_252), (6, 7, (0, 0, 0), mzc_253), (3, 7, (0, 0, 0), mzc_254), (3, 7, (0, 0, 0), mzc_255), (5, 7, (0, 0, 0), mzc_256), (3, 7, (0, 0, 0), mzc_257), (9, 7, (0, 0, 0), mzc_258), (2, 8, (0, 0, 0), mzc_259), (1, 8, (0, 0, 0), mzc_260), (2, 8, (0, 0, 0), mzc_261), (6, 8, (0, 0, 0), mzc_262), (5, 8, (0, 0, 0), mzc_263), (1, 0, (0, 0, 0), mzc_264), (5, 8, (0, 0, 0), mzc_265), (1, 8, (0, 0, 0), mzc_266), (2, 8, (0, 0, 0), mzc_267), (7, 8, (0, 0, 0), mzc_268), (2, 8, (0, 0, 0), mzc_269), (1, 8, (0, 0, 0), mzc_270), (1, 0, (0, 0, 0), mzc_271), (1, 9, (0, 0, 0), mzc_272), (1, 9, (0, 0, 0), mzc_273), (3, 9, (0, 0, 0), mzc_274), (1, 10, (0, 0, 0), mzc_275), (2, 10, (0, 0, 0), mzc_276), (2, 10, (0, 0, 0), mzc_277), (1, 10, (0, 0, 0), mzc_278), (1, 10, (0, 0, 0), mzc_279), (2, 10, (0, 0, 0), mzc_280), (1, 10, (0, 0, 0), mzc_281), (1, 10, (0, 0, 0), mzc_282), (3, 10, (0, 0, 0), mzc_283), (1, 10, (0, 0, 0), mzc_284), (1, 0, (0, 0, 0), mzc_285), (3, 0, (0, 0, 0), mzc_286), (3, 0, (0, 0, 0), mzc_287), (2, 0, (0, 0, 0), mzc_288), (2, 0, (0, 0, 0), mzc_289), (4, 0, (0, 0, 0), mzc_290), (5, 0, (0, 0, 0), mzc_291)]
def mzP : List mzM := mzP_0 ++ (mzP_1 ++ (mzP_2 ++ (mzP_3 ++ (mzP_4 ++ (mzP_5)))))
end
section
/-! the words, by number: 0 .. : 'selects' of the privates; 1000 n + k: word k of tables_1_n -/
def mz_wq (n : Nat) : Option Cond := match n / 1000 with
  | 0 => (k2_sels lw_privs)[n]?
  | 1 => tables_1_1[n % 1000]?
  | 2 => tables_1_2[n % 1000]?
  | 3 => tables_1_3[n % 1000]?
  | 4 => tables_1_4[n % 1000]?
  | 5 => tables_1_5[n % 1000]?
  | 6 => tables_1_6[n % 1000]?
  | 7 => tables_1_7[n % 1000]?
  | 8 => tables_1_8[n % 1000]?
  | _ => none
theorem mz_wq_mem {n : Nat} {w : Cond} (h : mz_wq n = some w) : w ∈ lw_tbl := by
  have t : ∀ {l : List Cond} {k : Nat}, l[k]? = some w → w ∈ l := fun h => List.mem_of_getElem? h
  unfold mz_wq at h
  unfold lw_tbl tables_1
  simp only [List.mem_append]
  split at h
  · exact Or.inl (t h)
  · exact Or.inr (Or.inl (t h))
  · exact Or.inr (Or.inr (Or.inl (t h)))
  · exact Or.inr (Or.inr (Or.inr (Or.inl (t h))))
  · exact Or.inr (Or.inr (Or.inr (Or.inr (Or.inl (t h)))))
  · exact Or.inr (Or.inr (Or.inr (Or.inr (Or.inr (Or.inl (t h))))))
  · exact Or.inr (Or.inr (Or.inr (Or.inr (Or.inr (Or.inr (Or.inl (t h)))))))
  · exact Or.inr (Or.inr (Or.inr (Or.inr (Or.inr (Or.inr (Or.inr (Or.inl (t h))))))))
  · exact Or.inr (Or.inr (Or.inr (Or.inr (Or.inr (Or.inr (Or.inr (Or.inr (t h))))))))
  · cases h
/-- the words that every contract asks for -/
def mz_WS : List Cond := lw_tbl.filter goodWord
def mz_wok (n : Nat) (w : Cond) : Bool := decide (mz_wq n = some w) && goodWord w
theorem mz_wok_mem {n : Nat} {w : Cond} (h : mz_wok n w = true) : w ∈ mz_WS := by
  unfold mz_wok at h
  simp only [Bool.and_eq_true, decide_eq_true_eq] at h
  exact List.mem_filter.mpr ⟨mz_wq_mem h.1, h.2⟩
theorem mz_good {ws : List Cond} (h : ∀ w ∈ ws, w ∈ mz_WS) : GoodIn mz_WS ws := fun w hw => ⟨h w hw, good_of_word (List.mem_filter.mp (h w hw)).2⟩
/-- a method as the machine has it: name, bytes, what it answers, program counters, the words of its instructions, its own words, handlers -/
abbrev mzT : Type := MethodName × ByteArray × Option FieldType × List Nat × List Nat × List Nat × List (Nat × Nat × Nat × Nat)
def mz_pc (pcs : List Nat) (i : Nat) : Nat := pcs.getD i 0
def mz_nx (pcs : List Nat) (i len : Nat) : Bool := decide (mz_pc pcs (i + 1) = mz_pc pcs i + len)
def mz_tg (pcs : List Nat) (i : Nat) (off : Int) (t : Nat) : Bool := decide ((mz_pc pcs i : Int) + off = ((mz_pc pcs t : Nat) : Int))
def mz_k0 (own : String) (w : Nat) (c : Int) (pcs : List Nat) (i len : Nat) (ins : Instr) : Bool := match ins with
  | .iconst n => decide (Int32.ofInt n = Int32.ofInt c) && decide (len = 1) && mz_nx pcs i 1
  | .bipush n => decide ((Int8.ofInt n).toInt32 = Int32.ofInt c) && decide (len = 2) && mz_nx pcs i 2
  | .sipush n => decide ((Int16.ofInt n).toInt32 = Int32.ofInt c) && decide (len = 3) && mz_nx pcs i 3
  | .ldc k => mz_wok w (.constant own k (Int32.ofInt c)) && decide (len = 2) && mz_nx pcs i 2
  | .ldc_w k => mz_wok w (.constant own k (Int32.ofInt c)) && decide (len = 3) && mz_nx pcs i 3
  | _ => false
def mz_k1 (c : Int) (pcs : List Nat) (i len : Nat) (ins : Instr) : Bool := match ins with
  | .lconst n => decide (Int64.ofNat (n : Nat) = Int64.ofInt c) && decide (len = 1) && mz_nx pcs i 1
  | _ => false
def mz_k2 (a b : Nat) (pcs : List Nat) (i len : Nat) (ins : Instr) : Bool := match ins with
  | .iload_n k => decide ((k : Nat) = a) && decide (b = 0) && decide (len = 1) && mz_nx pcs i 1
  | .iload k => decide (k = a) && decide (b = 0) && decide (len = 2) && mz_nx pcs i 2
  | .aload_n k => decide ((k : Nat) = a) && decide (b = 1) && decide (len = 1) && mz_nx pcs i 1
  | .aload k => decide (k = a) && decide (b = 1) && decide (len = 2) && mz_nx pcs i 2
  | .lload_n k => decide ((k : Nat) = a) && decide (b = 2) && decide (len = 1) && mz_nx pcs i 1
  | .lload k => decide (k = a) && decide (b = 2) && decide (len = 2) && mz_nx pcs i 2
  | _ => false
def mz_k3 (a b : Nat) (pcs : List Nat) (i len : Nat) (ins : Instr) : Bool := match ins with
  | .istore_n k => decide ((k : Nat) = a) && decide (b = 0) && decide (len = 1) && mz_nx pcs i 1
  | .istore k => decide (k = a) && decide (b = 0) && decide (len = 2) && mz_nx pcs i 2
  | .astore_n k => decide ((k : Nat) = a) && decide (b = 1) && decide (len = 1) && mz_nx pcs i 1
  | .astore k => decide (k = a) && decide (b = 1) && decide (len = 2) && mz_nx pcs i 2
  | _ => false
def mz_k4 (a : Nat) (pcs : List Nat) (i len : Nat) (ins : Instr) : Bool := match ins with
  | .lstore_n k => decide ((k : Nat) = a) && decide (len = 1) && mz_nx pcs i 1
  | .lstore k => decide (k = a) && decide (len = 2) && mz_nx pcs i 2
  | _ => false
def mz_k5 (a : Nat) (c : Int) (pcs : List Nat) (i len : Nat) (ins : Instr) : Bool := match ins with
  | .iinc k n => decide (k = a) && decide (Int32.ofInt n = Int32.ofInt c) && decide (len = 3) && mz_nx pcs i 3
  | _ => false
def mz_binI (a : Nat) : Option Instr := match a with
  | 0 => some .iadd
  | 1 => some .isub
  | 2 => some .imul
  | 3 => some .iand
  | 4 => some .ior
  | 5 => some .ixor
  | 6 => some .ishl
  | 7 => some .ishr
  | 8 => some .iushr
  | 9 => some .idiv
  | 10 => some .irem
  | _ => none
def mz_unI (a : Nat) : Option Instr := match a with
  | 0 => some .ineg
  | 1 => some .i2b
  | 2 => some .i2s
  | _ => none
def mz_cI (a : Nat) : Option ClassFile.Cond := match a with
  | 0 => some .eq
  | 1 => some .ne
  | 2 => some .lt
  | 3 => some .ge
  | 4 => some .gt
  | 5 => some .le
  | _ => none
def mz_k16 (a b : Nat) (pcs : List Nat) (i len : Nat) (ins : Instr) : Bool := match ins with
  | .ifCond cd off => decide (mz_cI a = some cd) && decide (len = 3) && mz_nx pcs i 3 && mz_tg pcs i off b
  | _ => false
def mz_k17 (a b : Nat) (pcs : List Nat) (i len : Nat) (ins : Instr) : Bool := match ins with
  | .if_icmp cd off => decide (mz_cI a = some cd) && decide (len = 3) && mz_nx pcs i 3 && mz_tg pcs i off b
  | _ => false
def mz_k18 (b : Nat) (pcs : List Nat) (i len : Nat) (ins : Instr) : Bool := match ins with
  | .goto off => decide (len = 3) && mz_tg pcs i off b
  | _ => false
def mz_zip (pcs : List Nat) (i : Nat) : List Int → List (Int × Nat) → Bool
  | [], [] => true
  | o :: os, q :: qs => mz_tg pcs i o q.2 && mz_zip pcs i os qs
  | _, _ => false
def mz_k19 (b : Nat) (c : Int) (sw : List (Int × Nat)) (pcs : List Nat) (i : Nat) (ins : Instr) : Bool := match ins with
  | .tableswitch d lo hi offs => decide (lo = c) && decide (hi = c + (sw.length : Int) - 1) && mz_tg pcs i d b && mz_zip pcs i offs.toList sw
  | _ => false
def mz_zipL (pcs : List Nat) (i : Nat) : List (Int × Int) → List (Int × Nat) → Bool
  | [], [] => true
  | o :: os, q :: qs => decide (o.1 = q.1) && mz_tg pcs i o.2 q.2 && mz_zipL pcs i os qs
  | _, _ => false
def mz_k39 (b : Nat) (sw : List (Int × Nat)) (pcs : List Nat) (i : Nat) (ins : Instr) : Bool := match ins with
  | .lookupswitch d ps => mz_tg pcs i d b && mz_zipL pcs i ps.toList sw && (ps.toList.zip (ps.toList.drop 1)).all (fun (a, next) => a.1 < next.1)
  | _ => false
/-- a plain instruction of one byte -/
def mz_kp (want : Option Instr) (pcs : List Nat) (i len : Nat) (ins : Instr) : Bool := decide (want = some ins) && decide (len = 1) && mz_nx pcs i 1
def mz_fld (ci k : Nat) : Option (String × String × String × Bool × Nat) := match vwCl[ci]? with
  | some (_, T, N) => if k < N then some ((T k).1, (T k).2.1, (T k).2.2.1, (T k).2.2.2, N) else none
  | none => none
def mz_k20 (own : String) (w a b : Nat) (pcs : List Nat) (i len : Nat) (ins : Instr) : Bool := match ins with
  | .getfield k => (match mz_fld b a with
    | some (c, n, d, _, _) => mz_wok w (.fieldLink own k c n d)
    | none => false) && decide (len = 3) && mz_nx pcs i 3
  | _ => false
/-- kind 0: I, 1: Z, 2: a reference -/
def mz_kd (k : Int) (d : String) : Bool := match parseFieldDescriptor d with
  | some .int => decide (k = 0)
  | some .boolean => decide (k = 1)
  | some (.object _) => decide (k = 2)
  | some (.array _) => decide (k = 2)
  | _ => false
def mz_k21 (own name : String) (w a b : Nat) (c : Int) (pcs : List Nat) (i len : Nat) (ins : Instr) : Bool := match ins with
  | .putfield k => (match mz_fld b a with
    | some (cn, n, d, fin, _) => mz_wok w (.fieldLink own k cn n d) && mz_kd c d && (!fin || (decide (name = "<init>") && decide (cn = own)))
    | none => false) && decide (len = 3) && mz_nx pcs i 3
  | _ => false
def mz_aldI (a : Nat) : Option Instr := match a with
  | 0 => some .iaload
  | 1 => some .laload
  | 2 => some .baload
  | 3 => some .aaload
  | _ => none
def mz_astI (a : Nat) : Option Instr := match a with
  | 0 => some .iastore
  | 1 => some .lastore
  | 2 => some .bastore
  | 3 => some .aastore
  | _ => none
def mz_k25 (own : String) (w a b : Nat) (pcs : List Nat) (i len : Nat) (ins : Instr) : Bool := match ins with
  | .new k => (match vwCl[a]? with
    | some (C, _, N) => mz_wok w (.classLink own k C) && decide (N = b)
    | none => false) && decide (len = 3) && mz_nx pcs i 3
  | _ => false
def mz_k26 (a : Nat) (pcs : List Nat) (i len : Nat) (ins : Instr) : Bool := match ins with
  | .newarray t => decide ((a = 0 ∧ t = .int) ∨ (a = 1 ∧ t = .long) ∨ (a = 2 ∧ t = .byte) ∨ (a = 3 ∧ t = .boolean)) && decide (len = 2) && mz_nx pcs i 2
  | _ => false
def mz_k27 (own : String) (w : Nat) (pcs : List Nat) (i len : Nat) (ins : Instr) : Bool := match ins with
  | .anewarray k => mz_wok w (.classLink own k "LoopsToUnits$Held") && decide (len = 3) && mz_nx pcs i 3
  | _ => false
def mz_sn (a : Nat) : String := match a with
  | 1 => "FIRST"
  | 2 => "LOWEST"
  | _ => "HIGHEST"
def mz_k28 (own : String) (w a : Nat) (pcs : List Nat) (i len : Nat) (ins : Instr) : Bool := match ins with
  | .getstatic k => mz_wok w (.fieldLink own k "LoopsToUnitsModel" (mz_sn a) "[I") && decide (len = 3) && mz_nx pcs i 3
  | _ => false
def mz_k29 (own : String) (w : Nat) (pcs : List Nat) (i len : Nat) (ins : Instr) : Bool := match ins with
  | .invokespecial k => mz_wok w (.methodLink own k objectInit) && decide (len = 3) && mz_nx pcs i 3
  | _ => false
def mz_k30 (own : String) (w : Nat) (pcs : List Nat) (i len : Nat) (ins : Instr) : Bool := match ins with
  | .invokestatic k => mz_wok w (.methodLink own k arraycopyName) && decide (len = 3) && mz_nx pcs i 3
  | _ => false
/-- instructions that touch no method -/
def mz_okI (y : MethodName) (pcs : List Nat) (w i len : Nat) (ri : mzI) (ins : Instr) : Bool := match ri.1 with
  | 0 => mz_k0 y.cls w ri.2.2.2.1 pcs i len ins
  | 1 => mz_k1 ri.2.2.2.1 pcs i len ins
  | 2 => mz_k2 ri.2.1 ri.2.2.1 pcs i len ins
  | 3 => mz_k3 ri.2.1 ri.2.2.1 pcs i len ins
  | 4 => mz_k4 ri.2.1 pcs i len ins
  | 5 => mz_k5 ri.2.1 ri.2.2.2.1 pcs i len ins
  | 6 => mz_kp (mz_binI ri.2.1) pcs i len ins
  | 7 => mz_kp (mz_unI ri.2.1) pcs i len ins
  | 8 => mz_kp (some .i2l) pcs i len ins
  | 9 => mz_kp (if ri.2.1 = 0 then some .land else some .lor) pcs i len ins
  | 10 => mz_kp (some .lshl) pcs i len ins
  | 11 => mz_kp (some .lcmp) pcs i len ins
  | 12 => mz_kp (some .dup) pcs i len ins
  | 13 => mz_kp (some .dup2) pcs i len ins
  | 14 => mz_kp (some .pop) pcs i len ins
  | 15 => mz_kp (some .dup_x1) pcs i len ins
  | 16 => mz_k16 ri.2.1 ri.2.2.1 pcs i len ins
  | 17 => mz_k17 ri.2.1 ri.2.2.1 pcs i len ins
  | 18 => mz_k18 ri.2.2.1 pcs i len ins
  | 19 => mz_k19 ri.2.2.1 ri.2.2.2.1 ri.2.2.2.2 pcs i ins
  | 39 => mz_k39 ri.2.2.1 ri.2.2.2.2 pcs i ins
  | 20 => mz_k20 y.cls w ri.2.1 ri.2.2.1 pcs i len ins
  | 21 => mz_k21 y.cls y.name w ri.2.1 ri.2.2.1 ri.2.2.2.1 pcs i len ins
  | 22 => mz_kp (mz_aldI ri.2.1) pcs i len ins
  | 23 => mz_kp (mz_astI ri.2.1) pcs i len ins
  | 24 => mz_kp (some .arraylength) pcs i len ins
  | 25 => mz_k25 y.cls w ri.2.1 ri.2.2.1 pcs i len ins
  | 26 => mz_k26 ri.2.1 pcs i len ins
  | 27 => mz_k27 y.cls w pcs i len ins
  | 28 => mz_k28 y.cls w ri.2.1 pcs i len ins
  | 29 => mz_k29 y.cls w pcs i len ins
  | 30 => mz_k30 y.cls w pcs i len ins
  | _ => false
end
section
/-! each class's words are among the words -/
theorem mz_cl0 : ∀ w ∈ u_ws RX0 TX0 13, w ∈ mz_WS := by decide +kernel
theorem mz_cl1 : ∀ w ∈ u_ws RX1 TX1 18, w ∈ mz_WS := by decide +kernel
theorem mz_cl2 : ∀ w ∈ u_ws RX2 TX2 1, w ∈ mz_WS := by decide +kernel
theorem mz_cl3 : ∀ w ∈ u_ws RX3 TX3 7, w ∈ mz_WS := by decide +kernel
theorem mz_cl4 : ∀ w ∈ u_ws RX4 TX4 6, w ∈ mz_WS := by decide +kernel
theorem mz_cl5 : ∀ w ∈ u_ws RX5 TX5 6, w ∈ mz_WS := by decide +kernel
theorem mz_cl6 : ∀ w ∈ u_ws RX6 TX6 7, w ∈ mz_WS := by decide +kernel
theorem mz_cl7 : ∀ w ∈ u_ws RX7 TX7 3, w ∈ mz_WS := by decide +kernel
theorem mz_cl8 : ∀ w ∈ u_ws RX8 TX8 2, w ∈ mz_WS := by decide +kernel
theorem mz_cl9 : ∀ w ∈ u_ws RX9 TX9 3, w ∈ mz_WS := by decide +kernel
theorem mz_cl10 : ∀ w ∈ u_ws RX10 TX10 9, w ∈ mz_WS := by decide +kernel
theorem mz_cl11 : ∀ w ∈ u_ws RX11 TX11 32, w ∈ mz_WS := by decide +kernel
theorem mz_cl (ci : Nat) (C : String) (T : u_T) (N : Nat) (h : vwCl[ci]? = some (C, T, N)) : ∀ w ∈ u_ws C T N, w ∈ mz_WS := by
  match ci, h with
  | 0, h => cases h; exact mz_cl0
  | 1, h => cases h; exact mz_cl1
  | 2, h => cases h; exact mz_cl2
  | 3, h => cases h; exact mz_cl3
  | 4, h => cases h; exact mz_cl4
  | 5, h => cases h; exact mz_cl5
  | 6, h => cases h; exact mz_cl6
  | 7, h => cases h; exact mz_cl7
  | 8, h => cases h; exact mz_cl8
  | 9, h => cases h; exact mz_cl9
  | 10, h => cases h; exact mz_cl10
  | 11, h => cases h; exact mz_cl11
  | k + 12, h => simp [vwCl] at h
def mz_t0 (ci : Nat) : Nat → FieldType := match ci with
  | 0 => tyX0
  | 1 => tyX1
  | 2 => tyX2
  | 3 => tyX3
  | 4 => tyX4
  | 5 => tyX5
  | 6 => tyX6
  | 7 => tyX7
  | 8 => tyX8
  | 9 => tyX9
  | 10 => tyX10
  | 11 => tyX11
  | _ => fun _ => .int
theorem mz_tyok (ci : Nat) (C : String) (T : u_T) (N : Nat) (h : vwCl[ci]? = some (C, T, N)) : ∀ k, k < N → parseFieldDescriptor (T k).2.2.1 = some (mz_t0 ci k) := by
  match ci, h with
  | 0, h => cases h; exact tyX0_ok
  | 1, h => cases h; exact tyX1_ok
  | 2, h => cases h; exact tyX2_ok
  | 3, h => cases h; exact tyX3_ok
  | 4, h => cases h; exact tyX4_ok
  | 5, h => cases h; exact tyX5_ok
  | 6, h => cases h; exact tyX6_ok
  | 7, h => cases h; exact tyX7_ok
  | 8, h => cases h; exact tyX8_ok
  | 9, h => cases h; exact tyX9_ok
  | 10, h => cases h; exact tyX10_ok
  | 11, h => cases h; exact tyX11_ok
  | k + 12, h => simp [vwCl] at h
theorem mz_nmok (ci : Nat) (C : String) (T : u_T) (N : Nat) (h : vwCl[ci]? = some (C, T, N)) : ∀ a, a < N → ∀ b, b < N → a ≠ b → (T a).2.1 ≠ (T b).2.1 := by
  match ci, h with
  | 0, h => cases h; exact nmX0
  | 1, h => cases h; exact nmX1
  | 2, h => cases h; exact nmX2
  | 3, h => cases h; exact nmX3
  | 4, h => cases h; exact nmX4
  | 5, h => cases h; exact nmX5
  | 6, h => cases h; exact nmX6
  | 7, h => cases h; exact nmX7
  | 8, h => cases h; exact nmX8
  | 9, h => cases h; exact nmX9
  | 10, h => cases h; exact nmX10
  | 11, h => cases h; exact nmX11
  | k + 12, h => simp [vwCl] at h
theorem mz_dfok (ci : Nat) (C : String) (T : u_T) (N : Nat) (h : vwCl[ci]? = some (C, T, N)) : (mz_def ci).length = N ∧ ∀ j, j < N → defaultValue (mz_t0 ci j) = vp_V (mz_def ci) j := by
  match ci, h with
  | 0, h => cases h; exact ⟨rfl, by decide +kernel⟩
  | 1, h => cases h; exact ⟨rfl, by decide +kernel⟩
  | 2, h => cases h; exact ⟨rfl, by decide +kernel⟩
  | 3, h => cases h; exact ⟨rfl, by decide +kernel⟩
  | 4, h => cases h; exact ⟨rfl, by decide +kernel⟩
  | 5, h => cases h; exact ⟨rfl, by decide +kernel⟩
  | 6, h => cases h; exact ⟨rfl, by decide +kernel⟩
  | 7, h => cases h; exact ⟨rfl, by decide +kernel⟩
  | 8, h => cases h; exact ⟨rfl, by decide +kernel⟩
  | 9, h => cases h; exact ⟨rfl, by decide +kernel⟩
  | 10, h => cases h; exact ⟨rfl, by decide +kernel⟩
  | 11, h => cases h; exact ⟨rfl, by decide +kernel⟩
  | k + 12, h => simp [vwCl] at h
theorem mz_inst (ci : Nat) (C : String) (T : u_T) (N : Nat) (h : vwCl[ci]? = some (C, T, N)) : Cond.instantiable C N ∈ mz_WS ∧ Cond.initialized C ∈ mz_WS := by
  match ci, h with
  | 0, h => cases h; exact ⟨by decide +kernel, by decide +kernel⟩
  | 1, h => cases h; exact ⟨by decide +kernel, by decide +kernel⟩
  | 2, h => cases h; exact ⟨by decide +kernel, by decide +kernel⟩
  | 3, h => cases h; exact ⟨by decide +kernel, by decide +kernel⟩
  | 4, h => cases h; exact ⟨by decide +kernel, by decide +kernel⟩
  | 5, h => cases h; exact ⟨by decide +kernel, by decide +kernel⟩
  | 6, h => cases h; exact ⟨by decide +kernel, by decide +kernel⟩
  | 7, h => cases h; exact ⟨by decide +kernel, by decide +kernel⟩
  | 8, h => cases h; exact ⟨by decide +kernel, by decide +kernel⟩
  | 9, h => cases h; exact ⟨by decide +kernel, by decide +kernel⟩
  | 10, h => cases h; exact ⟨by decide +kernel, by decide +kernel⟩
  | 11, h => cases h; exact ⟨by decide +kernel, by decide +kernel⟩
  | k + 12, h => simp [vwCl] at h
theorem mz_ac_int : Cond.arrayClass .int ∈ mz_WS := by decide +kernel
theorem mz_ac_long : Cond.arrayClass .long ∈ mz_WS := by decide +kernel
theorem mz_ac_byte : Cond.arrayClass .byte ∈ mz_WS := by decide +kernel
theorem mz_ac_boolean : Cond.arrayClass .boolean ∈ mz_WS := by decide +kernel
theorem mz_oi : Cond.instanceMethod objectInit ∈ mz_WS ∧ Cond.code objectInit ⟨#[0xb1]⟩ 1 none ∈ mz_WS := by decide +kernel
theorem mz_cpw : Cond.native arraycopyName ∈ mz_WS ∧ Cond.static arraycopyName ∈ mz_WS ∧ Cond.initialized "java/lang/System" ∈ mz_WS := by decide +kernel
end
section
/-! M beside the JVM: values, lists of values, locals -/
def mz_F2 {α β : Type} (P : α → β → Prop) : List α → List β → Prop
  | [], [] => True
  | a :: as, b :: bs => P a b ∧ mz_F2 P as bs
  | _, _ => False
theorem mz_F2.mono {α β : Type} {P Q : α → β → Prop} (h : ∀ a b, P a b → Q a b) : ∀ {l : List α} {l' : List β}, mz_F2 P l l' → mz_F2 Q l l'
  | [], [], _ => trivial
  | _ :: _, _ :: _, ⟨h1, h2⟩ => ⟨h _ _ h1, mz_F2.mono h h2⟩
theorem mz_F2.len {α β : Type} {P : α → β → Prop} : ∀ {l : List α} {l' : List β}, mz_F2 P l l' → l.length = l'.length
  | [], [], _ => rfl
  | _ :: _, _ :: _, ⟨_, h2⟩ => congrArg (· + 1) (mz_F2.len h2)
theorem mz_F2.get {α β : Type} {P : α → β → Prop} : ∀ {l : List α} {l' : List β}, mz_F2 P l l' → ∀ {i : Nat} {a : α}, l[i]? = some a → ∃ b, l'[i]? = some b ∧ P a b
  | [], [], _, _, _, h => by simp at h
  | x :: l, y :: l', ⟨h1, h2⟩, i, a, h => by
    cases i with
    | zero => simp at h; subst h; exact ⟨y, rfl, h1⟩
    | succ i => simp at h; simpa using mz_F2.get h2 h
theorem mz_F2.set {α β : Type} {P : α → β → Prop} {a : α} {b : β} (hp : P a b) : ∀ {l : List α} {l' : List β}, mz_F2 P l l' → ∀ (i : Nat), mz_F2 P (l.set i a) (l'.set i b)
  | [], [], _, _ => by simp [mz_F2]
  | _ :: l, _ :: l', ⟨h1, h2⟩, i => by
    cases i with
    | zero => exact ⟨hp, h2⟩
    | succ i => exact ⟨h1, mz_F2.set hp h2 i⟩
theorem mz_F2.app {α β : Type} {P : α → β → Prop} {k : List α} {k' : List β} (hk : mz_F2 P k k') : ∀ {l : List α} {l' : List β}, mz_F2 P l l' → mz_F2 P (l ++ k) (l' ++ k')
  | [], [], _ => hk
  | _ :: l, _ :: l', ⟨h1, h2⟩ => ⟨h1, mz_F2.app hk h2⟩
theorem mz_F2.rev {α β : Type} {P : α → β → Prop} : ∀ {l : List α} {l' : List β}, mz_F2 P l l' → mz_F2 P l.reverse l'.reverse
  | [], [], _ => trivial
  | a :: l, b :: l', ⟨h1, h2⟩ => by
    rw [List.reverse_cons, List.reverse_cons]
    exact mz_F2.app (k := [a]) (k' := [b]) (show mz_F2 P [a] [b] from ⟨h1, trivial⟩) (mz_F2.rev h2)
theorem mz_F2.take {α β : Type} {P : α → β → Prop} : ∀ {l : List α} {l' : List β}, mz_F2 P l l' → ∀ n, mz_F2 P (l.take n) (l'.take n)
  | [], [], _, _ => by simp [mz_F2]
  | _ :: l, _ :: l', ⟨h1, h2⟩, n => by
    cases n with
    | zero => trivial
    | succ n => exact ⟨h1, mz_F2.take h2 n⟩
theorem mz_F2.drop {α β : Type} {P : α → β → Prop} : ∀ {l : List α} {l' : List β}, mz_F2 P l l' → ∀ n, mz_F2 P (l.drop n) (l'.drop n)
  | [], [], _, _ => by simp [mz_F2]
  | _ :: l, _ :: l', ⟨h1, h2⟩, n => by
    cases n with
    | zero => exact ⟨h1, h2⟩
    | succ n => exact mz_F2.drop h2 n
theorem mz_F2.filter {α β : Type} {P : α → β → Prop} {f : α → Bool} {g : β → Bool} (h : ∀ a b, P a b → f a = g b) : ∀ {l : List α} {l' : List β}, mz_F2 P l l' → mz_F2 P (l.filter f) (l'.filter g)
  | [], [], _ => trivial
  | a :: l, b :: l', ⟨h1, h2⟩ => by
    have e := h a b h1
    cases hf : f a with
    | true => rw [List.filter_cons_of_pos hf, List.filter_cons_of_pos (by rw [← e]; exact hf)]; exact ⟨h1, mz_F2.filter h h2⟩
    | false => rw [List.filter_cons_of_neg (by rw [hf]; simp), List.filter_cons_of_neg (by rw [← e, hf]; simp)]; exact mz_F2.filter h h2
/-- a value of M, and the JVM's: ads: the addresses of the script, the static arrays, the cells -/
def mz_rel (ads : List Nat) (v w : Value) : Prop := match v with
  | .int x => w = .int x
  | .long x => w = .long x
  | .null => w = .null
  | .ref i => ∃ a, ads[i]? = some a ∧ w = .ref a
  | .retAddr _ => ∃ a, w = .ref a
  | _ => False
theorem mz_rel.cat {ads : List Nat} {v w : Value} (h : mz_rel ads v w) : v.category = w.category := by
  cases v <;> simp only [mz_rel] at h
  · rw [h]
  · rw [h]
  · rw [h]
  · obtain ⟨a, -, h⟩ := h; rw [h]; rfl
  · obtain ⟨a, h⟩ := h; rw [h]; rfl
theorem mz_rel.app {ads : List Nat} {v w : Value} (h : mz_rel ads v w) (q : List Nat) : mz_rel (ads ++ q) v w := by
  cases v <;> simp only [mz_rel] at h ⊢
  · exact h
  · exact h
  · exact h
  · obtain ⟨a, h1, h⟩ := h
    exact ⟨a, by rw [List.getElem?_append_left (List.getElem?_eq_some_iff.mp h1).1]; exact h1, h⟩
  · exact h
abbrev mz_FR (ads : List Nat) : List Value → List Value → Prop := mz_F2 (mz_rel ads)
abbrev mz_LR (ads : List Nat) : mzL → mzL → Prop := mz_F2 (fun q r => q.1 = r.1 ∧ mz_rel ads q.2 r.2)
theorem mz_FR.app {ads : List Nat} {l l' : List Value} (h : mz_FR ads l l') (q : List Nat) : mz_FR (ads ++ q) l l' := mz_F2.mono (fun _ _ h => h.app q) h
theorem mz_LR.app {ads : List Nat} {l l' : mzL} (h : mz_LR ads l l') (q : List Nat) : mz_LR (ads ++ q) l l' := mz_F2.mono (fun _ _ h => ⟨h.1, h.2.app q⟩) h
theorem mz_FR.sum {ads : List Nat} : ∀ {l l' : List Value}, mz_FR ads l l' → (l'.map fun v => v.category).sum = mz_sum l
  | [], [], _ => rfl
  | _ :: l, _ :: l', ⟨h1, h2⟩ => by
    have := mz_FR.sum h2
    unfold mz_sum at this ⊢
    simp only [List.map_cons, List.sum_cons]
    rw [this, h1.cat]
theorem mz_ld_mem : ∀ {lo : mzL} {i : Nat} {v : Value}, mz_ld lo i = some v → (i, v) ∈ lo
  | [], _, _, h => by simp [mz_ld] at h
  | (k, v) :: r, i, w, h => by
    unfold mz_ld at h
    by_cases hk : k = i
    · rw [if_pos hk] at h; cases h; subst hk; exact List.mem_cons_self
    · rw [if_neg hk] at h; exact List.mem_cons_of_mem _ (mz_ld_mem h)
theorem mz_ld_rel {ads : List Nat} : ∀ {lo rlo : mzL}, mz_LR ads lo rlo → ∀ {i : Nat} {v : Value}, mz_ld lo i = some v → ∃ w, mz_ld rlo i = some w ∧ mz_rel ads v w
  | [], [], _, _, _, h => by simp [mz_ld] at h
  | (k, v) :: r, (k', v') :: r', ⟨⟨h1, h1'⟩, h2⟩, i, w, h => by
    dsimp only at h1 h1'
    subst h1
    unfold mz_ld at h ⊢
    by_cases hk : k = i
    · rw [if_pos hk] at h ⊢; cases h; exact ⟨_, rfl, h1'⟩
    · rw [if_neg hk] at h ⊢; exact mz_ld_rel h2 h
theorem mz_ld_at {ads : List Nat} {lo rlo : mzL} {ls : Array Slot} {nL i : Nat} {v : Value} (hl : lv_has ls nL rlo) (hr : mz_LR ads lo rlo) (h : mz_ld lo i = some v) : ∃ w, mz_rel ads v w ∧ mz_ld rlo i = some w ∧ ls[i]? = some (.val w) := by
  obtain ⟨w, h1, h2⟩ := mz_ld_rel hr h
  exact ⟨w, h2, h1, hl.2.2 (i, w) (mz_ld_mem h1)⟩
theorem mz_st1_rel {ads : List Nat} {lo rlo : mzL} (hr : mz_LR ads lo rlo) (i : Nat) {v w : Value} (h : mz_rel ads v w) : mz_LR ads (mz_st1 lo i v) (mz_st1 rlo i w) :=
  ⟨⟨rfl, h⟩, mz_F2.filter (fun a b hab => by rw [hab.1, hab.2.cat]) hr⟩
theorem mz_st2_rel {ads : List Nat} {lo rlo : mzL} (hr : mz_LR ads lo rlo) (i : Nat) {v w : Value} (h : mz_rel ads v w) : mz_LR ads (mz_st2 lo i v) (mz_st2 rlo i w) :=
  ⟨⟨rfl, h⟩, mz_F2.filter (fun a b hab => by rw [hab.1, hab.2.cat]) hr⟩
theorem mz_up_rel {ads : List Nat} (i : Nat) {v w : Value} (h : mz_rel ads v w) : ∀ {lo rlo : mzL}, mz_LR ads lo rlo → mz_LR ads (mz_up lo i v) (mz_up rlo i w)
  | [], [], _ => trivial
  | (k, x) :: lo, (k', x') :: rlo, ⟨⟨h1, h1'⟩, h2⟩ => by
    dsimp only at h1 h1'
    subst h1
    refine ⟨?_, mz_up_rel i h h2⟩
    dsimp only
    by_cases hk : k = i
    · rw [if_pos hk, if_pos hk]; exact ⟨rfl, h⟩
    · rw [if_neg hk, if_neg hk]; exact ⟨rfl, h1'⟩
/-- a local that holds an int is written in its place -/
theorem mz_up_has {ls ls' : Array Slot} {nL i : Nat} {rlo : mzL} {x z : Int32} (hl : lv_has ls nL rlo) (hi : ls[i]? = some (.val (.int x))) (hl' : lv_has ls' nL (mz_st1 rlo i (.int z))) : lv_has ls' nL (mz_up rlo i (.int z)) := by
  refine ⟨hl'.1, hl'.2.1, fun q hq => ?_⟩
  unfold mz_up at hq
  obtain ⟨r, hr, rfl⟩ := List.mem_map.mp hq
  by_cases hk : r.1 = i
  · rw [if_pos hk]
    have := hl'.2.2 (i, .int z) List.mem_cons_self
    rw [← hk] at this
    exact this
  · rw [if_neg hk]
    refine hl'.2.2 r (List.mem_cons_of_mem _ (List.mem_filter.mpr ⟨hr, ?_⟩))
    have h2 : ¬ (r.1 + 1 = i ∧ r.2.category = 2) := by
      rintro ⟨h3, h4⟩
      have h5 := hl.2.1.1 r.1 r.2 (hl.2.2 r hr) h4
      rw [h3, hi] at h5
      cases h5
    simp only [Bool.and_eq_true, Bool.not_eq_true', beq_eq_false_iff_ne, ne_eq, Bool.and_eq_false_imp, beq_iff_eq]
    exact ⟨hk, fun h3 h4 => h2 ⟨h3, h4⟩⟩
theorem mz_nx_eq {pcs : List Nat} {i len : Nat} (h : mz_nx pcs i len = true) : mz_pc pcs (i + 1) = mz_pc pcs i + len := by simpa [mz_nx] using h
theorem mz_tg_eq {pcs : List Nat} {i t : Nat} {off : Int} (h : mz_tg pcs i off t = true) : (mz_pc pcs i : Int) + off = ((mz_pc pcs t : Nat) : Int) := by simpa [mz_tg] using h
/-- a value that is an int, a reference, a long -/
theorem mz_ty0 {ads : List Nat} {v w : Value} (h : mz_rel ads v w) (t : mz_ty v = 0) : ∃ x, v = .int x ∧ w = .int x := by
  cases v <;> simp [mz_ty] at t
  exact ⟨_, rfl, h⟩
theorem mz_ty1 {ads : List Nat} {v w : Value} (h : mz_rel ads v w) (t : mz_ty v = 1) : ∃ x, w = .ref x := by
  cases v <;> simp [mz_ty] at t
  obtain ⟨a, -, h⟩ := h
  exact ⟨a, h⟩
theorem mz_ty3 {ads : List Nat} {v w : Value} (h : mz_rel ads v w) (t : mz_ty v = 3) : ∃ x, w = .ref x := by
  cases v <;> simp [mz_ty] at t
  exact h
theorem mz_ty2 {ads : List Nat} {v w : Value} (h : mz_rel ads v w) (t : mz_ty v = 2) : ∃ x, v = .long x ∧ w = .long x := by
  cases v <;> simp [mz_ty] at t
  exact ⟨_, rfl, h⟩
theorem mz_tyc {ads : List Nat} {v w : Value} (h : mz_rel ads v w) (t : mz_ty v < 2) : w.category = 1 := by
  rw [← h.cat]
  cases v <;> simp [mz_ty] at t <;> rfl
end
section
/-! instructions that touch locals and stack alone -/
section MZ1
variable {p : Program} {l : Launch} {e : Env} {R : Room} {s : State} {m : MethodId} {args : Array Value} {below : List Frame} {meth : Method} {c : Code} {H : Heap} {locs : List Loc} {cells slots : Nat} {Q : State → Prop}
variable {cc : ByteArray} {pcs : List Nat} {ls : Array Slot} {nL i w len : Nat} {y : MethodName} {ins : Instr} {ads : List Nat} {lo rlo : mzL} {st rst : List Value} {a b : Nat} {r : Nat × mzL × List Value}
/-- where it goes on -/
abbrev mz_K (p : Program) (l : Launch) (e : Env) (R : Room) (s : State) (m : MethodId) (args : Array Value) (below : List Frame) (meth : Method) (c : Code) (H : Heap) (locs : List Loc) (cells slots : Nat) (Q : State → Prop) (pcs : List Nat) (nL : Nat) (ads : List Nat) (r : Nat × mzL × List Value) : Prop :=
  ∀ (ls' : Array Slot) (rlo' : mzL) (rst' : List Value), lv_has ls' nL rlo' → mz_LR ads r.2.1 rlo' → mz_FR ads r.2.2 rst' → W p l e R s m args below meth c H locs cells slots Q (F0 m (mz_pc pcs r.1) ls' rst')
theorem mz_s0 (hx : p.tables.exec = Jvm.exec) (hb : c.code = cc) (hown : s.vm.findClass y.cls = some m.cls) (hts : ∀ w ∈ mz_WS, w.before args s = true) (hd : decode cc (mz_pc pcs i) = .ok (ins, len)) {k : Int} (hk : mz_k0 y.cls w k pcs i len ins = true)
    (hl : lv_has ls nL rlo) (hlo : mz_LR ads lo rlo) (hst : mz_FR ads st rst) (kk : mz_K p l e R s m args below meth c H locs cells slots Q pcs nL ads (i + 1, lo, .int (Int32.ofInt k) :: st)) : W p l e R s m args below meth c H locs cells slots Q (F0 m (mz_pc pcs i) ls rst) := by
  have k2 := kk ls rlo (.int (Int32.ofInt k) :: rst) hl hlo ⟨rfl, hst⟩
  dsimp only at k2
  unfold mz_k0 at hk
  split at hk
  · simp only [Bool.and_eq_true, decide_eq_true_eq] at hk
    obtain ⟨⟨h1, h2⟩, h3⟩ := hk
    subst h2
    rw [mz_nx_eq h3] at k2
    exact lv_iconst hx hb hd h1 k2
  · simp only [Bool.and_eq_true, decide_eq_true_eq] at hk
    obtain ⟨⟨h1, h2⟩, h3⟩ := hk
    subst h2
    rw [mz_nx_eq h3] at k2
    exact lv_bipush hx hb hd h1 k2
  · simp only [Bool.and_eq_true, decide_eq_true_eq] at hk
    obtain ⟨⟨h1, h2⟩, h3⟩ := hk
    subst h2
    rw [mz_nx_eq h3] at k2
    exact lv_sipush hx hb hd h1 k2
  · simp only [Bool.and_eq_true, decide_eq_true_eq] at hk
    obtain ⟨⟨h1, h2⟩, h3⟩ := hk
    subst h2
    rw [mz_nx_eq h3] at k2
    exact lv_ldc hx hb hown (hts _ (mz_wok_mem h1)) hd k2
  · simp only [Bool.and_eq_true, decide_eq_true_eq] at hk
    obtain ⟨⟨h1, h2⟩, h3⟩ := hk
    subst h2
    rw [mz_nx_eq h3] at k2
    exact lv_ldcw hx hb hown (hts _ (mz_wok_mem h1)) hd k2
  · cases hk
theorem mz_s1 (hx : p.tables.exec = Jvm.exec) (hb : c.code = cc) (hd : decode cc (mz_pc pcs i) = .ok (ins, len)) {k : Int} (hk : mz_k1 k pcs i len ins = true)
    (hl : lv_has ls nL rlo) (hlo : mz_LR ads lo rlo) (hst : mz_FR ads st rst) (kk : mz_K p l e R s m args below meth c H locs cells slots Q pcs nL ads (i + 1, lo, .long (Int64.ofInt k) :: st)) : W p l e R s m args below meth c H locs cells slots Q (F0 m (mz_pc pcs i) ls rst) := by
  have k2 := kk ls rlo (.long (Int64.ofInt k) :: rst) hl hlo ⟨rfl, hst⟩
  dsimp only at k2
  unfold mz_k1 at hk
  split at hk
  · simp only [Bool.and_eq_true, decide_eq_true_eq] at hk
    obtain ⟨⟨h1, h2⟩, h3⟩ := hk
    subst h2
    rw [mz_nx_eq h3] at k2
    exact lv_lconst hx hb hd h1 k2
  · cases hk
theorem mz_s2 (hx : p.tables.exec = Jvm.exec) (hb : c.code = cc) (hd : decode cc (mz_pc pcs i) = .ok (ins, len)) (hk : mz_k2 a b pcs i len ins = true)
    (hl : lv_has ls nL rlo) (hlo : mz_LR ads lo rlo) (hst : mz_FR ads st rst) (h : mz_o2 a b i lo st = some r) (kk : mz_K p l e R s m args below meth c H locs cells slots Q pcs nL ads r) : W p l e R s m args below meth c H locs cells slots Q (F0 m (mz_pc pcs i) ls rst) := by
  unfold mz_o2 at h
  split at h
  · rename_i v hv
    by_cases hc : mz_ty v = b ∧ b < 3
    · rw [if_pos hc] at h
      cases h
      obtain ⟨x, h1, -, h3⟩ := mz_ld_at hl hlo hv
      have k2 := kk ls rlo (x :: rst) hl hlo ⟨h1, hst⟩
      dsimp only at k2
      unfold mz_k2 at hk
      split at hk
      · simp only [Bool.and_eq_true, decide_eq_true_eq] at hk
        obtain ⟨⟨⟨q1, q2⟩, q3⟩, q4⟩ := hk
        subst q3
        rw [mz_nx_eq q4] at k2
        obtain ⟨z, rfl, rfl⟩ := mz_ty0 h1 (hc.1.trans q2)
        exact lv_iload_n hx hb hd q1 h3 k2
      · simp only [Bool.and_eq_true, decide_eq_true_eq] at hk
        obtain ⟨⟨⟨q1, q2⟩, q3⟩, q4⟩ := hk
        subst q3; subst q1
        rw [mz_nx_eq q4] at k2
        obtain ⟨z, rfl, rfl⟩ := mz_ty0 h1 (hc.1.trans q2)
        exact lv_iload hx hb hd h3 k2
      · simp only [Bool.and_eq_true, decide_eq_true_eq] at hk
        obtain ⟨⟨⟨q1, q2⟩, q3⟩, q4⟩ := hk
        subst q3
        rw [mz_nx_eq q4] at k2
        obtain ⟨z, rfl⟩ := mz_ty1 h1 (hc.1.trans q2)
        exact lv_aload_n hx hb hd q1 h3 k2
      · simp only [Bool.and_eq_true, decide_eq_true_eq] at hk
        obtain ⟨⟨⟨q1, q2⟩, q3⟩, q4⟩ := hk
        subst q3; subst q1
        rw [mz_nx_eq q4] at k2
        obtain ⟨z, rfl⟩ := mz_ty1 h1 (hc.1.trans q2)
        exact lv_aload hx hb hd h3 k2
      · simp only [Bool.and_eq_true, decide_eq_true_eq] at hk
        obtain ⟨⟨⟨q1, q2⟩, q3⟩, q4⟩ := hk
        subst q3
        rw [mz_nx_eq q4] at k2
        obtain ⟨z, rfl, rfl⟩ := mz_ty2 h1 (hc.1.trans q2)
        exact lv_lload_n hx hb hd q1 h3 k2
      · simp only [Bool.and_eq_true, decide_eq_true_eq] at hk
        obtain ⟨⟨⟨q1, q2⟩, q3⟩, q4⟩ := hk
        subst q3; subst q1
        rw [mz_nx_eq q4] at k2
        obtain ⟨z, rfl, rfl⟩ := mz_ty2 h1 (hc.1.trans q2)
        exact lv_lload hx hb hd h3 k2
      · cases hk
    · rw [if_neg hc] at h; cases h
  · cases h
theorem mz_s3 (hx : p.tables.exec = Jvm.exec) (hb : c.code = cc) (hd : decode cc (mz_pc pcs i) = .ok (ins, len)) (hk : mz_k3 a b pcs i len ins = true)
    (hl : lv_has ls nL rlo) (hlo : mz_LR ads lo rlo) (hst : mz_FR ads st rst) (h : mz_o3 a b i nL lo st = some r) (kk : mz_K p l e R s m args below meth c H locs cells slots Q pcs nL ads r) : W p l e R s m args below meth c H locs cells slots Q (F0 m (mz_pc pcs i) ls rst) := by
  unfold mz_o3 at h
  split at h
  · rename_i v rest
    cases rst with
    | nil => exact hst.elim
    | cons x rst =>
    obtain ⟨h1, hst⟩ := hst
    by_cases hc : (mz_ty v = b ∨ (mz_ty v = 3 ∧ b = 1)) ∧ b < 2 ∧ a < nL
    · rw [if_pos hc] at h
      cases h
      obtain ⟨hc1, -, hn⟩ := hc
      have k2 : ∀ ls' : Array Slot, lv_has ls' nL (mz_st1 rlo a x) → W p l e R s m args below meth c H locs cells slots Q (F0 m (mz_pc pcs (i + 1)) ls' rst) := fun ls' hl' => kk ls' _ rst hl' (mz_st1_rel hlo a h1) hst
      have hr : b = 1 → ∃ z, x = .ref z := fun q => by
        rcases hc1 with q2 | ⟨q2, -⟩
        · exact mz_ty1 h1 (q2.trans q)
        · exact mz_ty3 h1 q2
      have hi : b = 0 → ∃ z, v = .int z ∧ x = .int z := fun q => by
        rcases hc1 with q2 | ⟨-, q2⟩
        · exact mz_ty0 h1 (q2.trans q)
        · rw [q] at q2; cases q2
      unfold mz_k3 at hk
      split at hk
      · simp only [Bool.and_eq_true, decide_eq_true_eq] at hk
        obtain ⟨⟨⟨q1, q2⟩, q3⟩, q4⟩ := hk
        subst q3
        rw [mz_nx_eq q4] at k2
        obtain ⟨z, rfl, rfl⟩ := hi q2
        exact lv_istore_n hx hb hd q1 hl hn rfl k2
      · simp only [Bool.and_eq_true, decide_eq_true_eq] at hk
        obtain ⟨⟨⟨q1, q2⟩, q3⟩, q4⟩ := hk
        subst q3; subst q1
        rw [mz_nx_eq q4] at k2
        obtain ⟨z, rfl, rfl⟩ := hi q2
        exact lv_istore hx hb hd hl hn rfl k2
      · simp only [Bool.and_eq_true, decide_eq_true_eq] at hk
        obtain ⟨⟨⟨q1, q2⟩, q3⟩, q4⟩ := hk
        subst q3
        rw [mz_nx_eq q4] at k2
        obtain ⟨z, rfl⟩ := hr q2
        exact lv_astore_n hx hb hd q1 hl hn rfl k2
      · simp only [Bool.and_eq_true, decide_eq_true_eq] at hk
        obtain ⟨⟨⟨q1, q2⟩, q3⟩, q4⟩ := hk
        subst q3; subst q1
        rw [mz_nx_eq q4] at k2
        obtain ⟨z, rfl⟩ := hr q2
        exact lv_astore hx hb hd hl hn rfl k2
      · cases hk
    · rw [if_neg hc] at h; cases h
  · cases h
theorem mz_s4 (hx : p.tables.exec = Jvm.exec) (hb : c.code = cc) (hd : decode cc (mz_pc pcs i) = .ok (ins, len)) (hk : mz_k4 a pcs i len ins = true)
    (hl : lv_has ls nL rlo) (hlo : mz_LR ads lo rlo) (hst : mz_FR ads st rst) (h : mz_o4 a i nL lo st = some r) (kk : mz_K p l e R s m args below meth c H locs cells slots Q pcs nL ads r) : W p l e R s m args below meth c H locs cells slots Q (F0 m (mz_pc pcs i) ls rst) := by
  unfold mz_o4 at h
  split at h
  · rename_i v rest
    cases rst with
    | nil => exact hst.elim
    | cons x rst =>
    obtain ⟨h1, hst⟩ := hst
    have h1 : x = .long v := h1
    subst h1
    by_cases hn : a + 1 < nL
    · rw [if_pos hn] at h
      cases h
      have k2 : ∀ ls' : Array Slot, lv_has ls' nL (mz_st2 rlo a (.long v)) → W p l e R s m args below meth c H locs cells slots Q (F0 m (mz_pc pcs (i + 1)) ls' rst) := fun ls' hl' => kk ls' _ rst hl' (mz_st2_rel hlo a rfl) hst
      unfold mz_k4 at hk
      split at hk
      · simp only [Bool.and_eq_true, decide_eq_true_eq] at hk
        obtain ⟨⟨q1, q3⟩, q4⟩ := hk
        subst q3
        rw [mz_nx_eq q4] at k2
        exact lv_lstore_n hx hb hd q1 hl hn rfl k2
      · simp only [Bool.and_eq_true, decide_eq_true_eq] at hk
        obtain ⟨⟨q1, q3⟩, q4⟩ := hk
        subst q3; subst q1
        rw [mz_nx_eq q4] at k2
        exact lv_lstore hx hb hd hl hn rfl k2
      · cases hk
    · rw [if_neg hn] at h; cases h
  · cases h
theorem mz_s5 (hx : p.tables.exec = Jvm.exec) (hb : c.code = cc) (hd : decode cc (mz_pc pcs i) = .ok (ins, len)) {k : Int} (hk : mz_k5 a k pcs i len ins = true)
    (hl : lv_has ls nL rlo) (hlo : mz_LR ads lo rlo) (hst : mz_FR ads st rst) (h : mz_o5 a i nL k lo st = some r) (kk : mz_K p l e R s m args below meth c H locs cells slots Q pcs nL ads r) : W p l e R s m args below meth c H locs cells slots Q (F0 m (mz_pc pcs i) ls rst) := by
  unfold mz_o5 at h
  split at h
  · rename_i v hv
    by_cases hn : a < nL
    · rw [if_pos hn] at h
      cases h
      obtain ⟨x, h1, h2, h3⟩ := mz_ld_at hl hlo hv
      have h1 : x = .int v := h1
      subst h1
      have k2 : ∀ ls' : Array Slot, lv_has ls' nL (mz_st1 rlo a (.int (v + Int32.ofInt k))) → W p l e R s m args below meth c H locs cells slots Q (F0 m (mz_pc pcs (i + 1)) ls' rst) := fun ls' hl' => kk ls' _ rst (mz_up_has hl h3 hl') (mz_up_rel (v := .int (v + Int32.ofInt k)) (w := .int (v + Int32.ofInt k)) a rfl hlo) hst
      unfold mz_k5 at hk
      split at hk
      · simp only [Bool.and_eq_true, decide_eq_true_eq] at hk
        obtain ⟨⟨⟨q1, q2⟩, q3⟩, q4⟩ := hk
        subst q3; subst q1
        rw [mz_nx_eq q4] at k2
        obtain ⟨n, hn2⟩ := List.getElem?_of_mem (mz_ld_mem h2)
        exact lv_iinc hx hb hd hl hn2 (by rw [q2]) hn rfl k2
      · cases hk
    · rw [if_neg hn] at h; cases h
  · cases h
theorem mz_kp_eq {want : Option Instr} (h : mz_kp want pcs i len ins = true) : want = some ins ∧ len = 1 ∧ mz_pc pcs (i + 1) = mz_pc pcs i + 1 := by
  unfold mz_kp at h
  simp only [Bool.and_eq_true, decide_eq_true_eq] at h
  exact ⟨h.1.1, h.1.2, mz_nx_eq h.2⟩
theorem mz_s6 (hx : p.tables.exec = Jvm.exec) (hb : c.code = cc) (hd : decode cc (mz_pc pcs i) = .ok (ins, len)) (hk : mz_kp (mz_binI a) pcs i len ins = true)
    (hl : lv_has ls nL rlo) (hlo : mz_LR ads lo rlo) (hst : mz_FR ads st rst) (h : mz_o6 a i lo st = some r) (kk : mz_K p l e R s m args below meth c H locs cells slots Q pcs nL ads r) : W p l e R s m args below meth c H locs cells slots Q (F0 m (mz_pc pcs i) ls rst) := by
  obtain ⟨e1, rfl, e3⟩ := mz_kp_eq hk
  unfold mz_o6 at h
  split at h
  · rename_i yy xx rest
    match rst, hst with
    | v :: v2 :: rst, ⟨g1, g2, hst⟩ =>
    have g1 : v = .int yy := g1
    have g2 : v2 = .int xx := g2
    subst g1; subst g2
    split at h
    · rename_i z hz
      cases h
      have k2 := kk ls rlo (.int z :: rst) hl hlo ⟨rfl, hst⟩
      dsimp only at k2
      rw [e3] at k2
      unfold mz_bin at hz
      unfold mz_binI at e1
      split at hz <;> simp only [Option.some.injEq] at e1 <;> try subst e1
      · cases hz; exact lv_iadd hx hb hd k2
      · cases hz; exact lv_isub hx hb hd k2
      · cases hz; exact lv_imul hx hb hd k2
      · cases hz; exact lv_iand hx hb hd k2
      · cases hz; exact lv_ior hx hb hd k2
      · cases hz; exact lv_ixor hx hb hd k2
      · cases hz; exact lv_ishl hx hb hd k2
      · cases hz; exact lv_ishr hx hb hd k2
      · cases hz; exact lv_iushr hx hb hd rfl k2
      · by_cases h0 : yy = 0
        · rw [if_pos h0] at hz; cases hz
        · rw [if_neg h0] at hz; cases hz; exact lv_idiv hx hb hd h0 k2
      · by_cases h0 : yy = 0
        · rw [if_pos h0] at hz; cases hz
        · rw [if_neg h0] at hz; cases hz; exact lv_irem hx hb hd h0 k2
      · cases hz
    · cases h
  · cases h
theorem mz_s7 (hx : p.tables.exec = Jvm.exec) (hb : c.code = cc) (hd : decode cc (mz_pc pcs i) = .ok (ins, len)) (hk : mz_kp (mz_unI a) pcs i len ins = true)
    (hl : lv_has ls nL rlo) (hlo : mz_LR ads lo rlo) (hst : mz_FR ads st rst) (h : mz_o7 a i lo st = some r) (kk : mz_K p l e R s m args below meth c H locs cells slots Q pcs nL ads r) : W p l e R s m args below meth c H locs cells slots Q (F0 m (mz_pc pcs i) ls rst) := by
  obtain ⟨e1, rfl, e3⟩ := mz_kp_eq hk
  unfold mz_o7 at h
  split at h
  · rename_i xx rest
    match rst, hst with
    | v :: rst, ⟨g1, hst⟩ =>
    have g1 : v = .int xx := g1
    subst g1
    split at h
    · rename_i z hz
      cases h
      have k2 := kk ls rlo (.int z :: rst) hl hlo ⟨rfl, hst⟩
      dsimp only at k2
      rw [e3] at k2
      unfold mz_un at hz
      unfold mz_unI at e1
      split at hz <;> simp only [Option.some.injEq] at e1 <;> try subst e1
      · cases hz; exact lv_ineg hx hb hd k2
      · cases hz; exact lv_i2b hx hb hd rfl k2
      · cases hz; exact lv_i2s hx hb hd rfl k2
      · cases hz
    · cases h
  · cases h
end MZ1
end
section
/-! instructions that touch locals and stack alone: the rest, and all of them -/
section MZ2
variable {p : Program} {l : Launch} {e : Env} {R : Room} {s : State} {m : MethodId} {args : Array Value} {below : List Frame} {meth : Method} {c : Code} {H : Heap} {locs : List Loc} {cells slots : Nat} {Q : State → Prop}
variable {cc : ByteArray} {pcs : List Nat} {ls : Array Slot} {nL i w len : Nat} {y : MethodName} {ins : Instr} {ads : List Nat} {lo rlo : mzL} {st rst : List Value} {a b : Nat} {r : Nat × mzL × List Value}
theorem mz_s8 (hx : p.tables.exec = Jvm.exec) (hb : c.code = cc) (hd : decode cc (mz_pc pcs i) = .ok (ins, len)) (hk : mz_kp (some .i2l) pcs i len ins = true)
    (hl : lv_has ls nL rlo) (hlo : mz_LR ads lo rlo) (hst : mz_FR ads st rst) (h : mz_o8 i lo st = some r) (kk : mz_K p l e R s m args below meth c H locs cells slots Q pcs nL ads r) : W p l e R s m args below meth c H locs cells slots Q (F0 m (mz_pc pcs i) ls rst) := by
  obtain ⟨e1, rfl, e3⟩ := mz_kp_eq hk
  cases e1
  unfold mz_o8 at h
  split at h
  · rename_i xx rest
    match rst, hst with
    | v :: rst, ⟨g1, hst⟩ =>
    have g1 : v = .int xx := g1
    subst g1
    cases h
    have k2 := kk ls rlo (.long xx.toInt64 :: rst) hl hlo ⟨rfl, hst⟩
    dsimp only at k2
    rw [e3] at k2
    exact lv_i2l hx hb hd rfl k2
  · cases h
theorem mz_s9 (hx : p.tables.exec = Jvm.exec) (hb : c.code = cc) (hd : decode cc (mz_pc pcs i) = .ok (ins, len)) (hk : mz_kp (if a = 0 then some .land else some .lor) pcs i len ins = true)
    (hl : lv_has ls nL rlo) (hlo : mz_LR ads lo rlo) (hst : mz_FR ads st rst) (h : mz_o9 a i lo st = some r) (kk : mz_K p l e R s m args below meth c H locs cells slots Q pcs nL ads r) : W p l e R s m args below meth c H locs cells slots Q (F0 m (mz_pc pcs i) ls rst) := by
  obtain ⟨e1, rfl, e3⟩ := mz_kp_eq hk
  unfold mz_o9 at h
  split at h
  · rename_i yy xx rest
    match rst, hst with
    | v :: v2 :: rst, ⟨g1, g2, hst⟩ =>
    have g1 : v = .long yy := g1
    have g2 : v2 = .long xx := g2
    subst g1; subst g2
    by_cases h0 : a = 0
    · rw [if_pos h0] at h e1
      cases h; cases e1
      have k2 := kk ls rlo (.long (xx &&& yy) :: rst) hl hlo ⟨rfl, hst⟩
      dsimp only at k2
      rw [e3] at k2
      exact lv_land hx hb hd k2
    · rw [if_neg h0] at h e1
      cases h; cases e1
      have k2 := kk ls rlo (.long (xx ||| yy) :: rst) hl hlo ⟨rfl, hst⟩
      dsimp only at k2
      rw [e3] at k2
      exact lv_lor hx hb hd k2
  · cases h
theorem mz_s10 (hx : p.tables.exec = Jvm.exec) (hb : c.code = cc) (hd : decode cc (mz_pc pcs i) = .ok (ins, len)) (hk : mz_kp (some .lshl) pcs i len ins = true)
    (hl : lv_has ls nL rlo) (hlo : mz_LR ads lo rlo) (hst : mz_FR ads st rst) (h : mz_o10 i lo st = some r) (kk : mz_K p l e R s m args below meth c H locs cells slots Q pcs nL ads r) : W p l e R s m args below meth c H locs cells slots Q (F0 m (mz_pc pcs i) ls rst) := by
  obtain ⟨e1, rfl, e3⟩ := mz_kp_eq hk
  cases e1
  unfold mz_o10 at h
  split at h
  · rename_i yy xx rest
    match rst, hst with
    | v :: v2 :: rst, ⟨g1, g2, hst⟩ =>
    have g1 : v = .int yy := g1
    have g2 : v2 = .long xx := g2
    subst g1; subst g2
    cases h
    have k2 := kk ls rlo (.long (xx <<< (yy.toInt64 &&& 63)) :: rst) hl hlo ⟨rfl, hst⟩
    dsimp only at k2
    rw [e3] at k2
    exact lv_lshl hx hb hd rfl k2
  · cases h
theorem mz_s11 (hx : p.tables.exec = Jvm.exec) (hb : c.code = cc) (hd : decode cc (mz_pc pcs i) = .ok (ins, len)) (hk : mz_kp (some .lcmp) pcs i len ins = true)
    (hl : lv_has ls nL rlo) (hlo : mz_LR ads lo rlo) (hst : mz_FR ads st rst) (h : mz_o11 i lo st = some r) (kk : mz_K p l e R s m args below meth c H locs cells slots Q pcs nL ads r) : W p l e R s m args below meth c H locs cells slots Q (F0 m (mz_pc pcs i) ls rst) := by
  obtain ⟨e1, rfl, e3⟩ := mz_kp_eq hk
  cases e1
  unfold mz_o11 at h
  split at h
  · rename_i yy xx rest
    match rst, hst with
    | v :: v2 :: rst, ⟨g1, g2, hst⟩ =>
    have g1 : v = .long yy := g1
    have g2 : v2 = .long xx := g2
    subst g1; subst g2
    cases h
    have k2 := kk ls rlo (.int (lg_cmp xx yy) :: rst) hl hlo ⟨rfl, hst⟩
    dsimp only at k2
    rw [e3] at k2
    exact W.lcmp hx hb hd k2
  · cases h
theorem mz_s12 (hx : p.tables.exec = Jvm.exec) (hb : c.code = cc) (hd : decode cc (mz_pc pcs i) = .ok (ins, len)) (hk : mz_kp (some .dup) pcs i len ins = true)
    (hl : lv_has ls nL rlo) (hlo : mz_LR ads lo rlo) (hst : mz_FR ads st rst) (h : mz_o12 i lo st = some r) (kk : mz_K p l e R s m args below meth c H locs cells slots Q pcs nL ads r) : W p l e R s m args below meth c H locs cells slots Q (F0 m (mz_pc pcs i) ls rst) := by
  obtain ⟨e1, rfl, e3⟩ := mz_kp_eq hk
  cases e1
  unfold mz_o12 at h
  split at h
  · rename_i xx rest
    match rst, hst with
    | v :: rst, ⟨g1, hst⟩ =>
    by_cases hc : mz_ty xx < 2
    · rw [if_pos hc] at h
      cases h
      have k2 := kk ls rlo (v :: v :: rst) hl hlo ⟨g1, g1, hst⟩
      dsimp only at k2
      rw [e3] at k2
      exact lv_dup hx hb hd (mz_tyc g1 hc) k2
    · rw [if_neg hc] at h; cases h
  · cases h
theorem mz_s13 (hx : p.tables.exec = Jvm.exec) (hb : c.code = cc) (hd : decode cc (mz_pc pcs i) = .ok (ins, len)) (hk : mz_kp (some .dup2) pcs i len ins = true)
    (hl : lv_has ls nL rlo) (hlo : mz_LR ads lo rlo) (hst : mz_FR ads st rst) (h : mz_o13 i lo st = some r) (kk : mz_K p l e R s m args below meth c H locs cells slots Q pcs nL ads r) : W p l e R s m args below meth c H locs cells slots Q (F0 m (mz_pc pcs i) ls rst) := by
  obtain ⟨e1, rfl, e3⟩ := mz_kp_eq hk
  cases e1
  unfold mz_o13 at h
  split at h
  · rename_i xx yy rest
    match rst, hst with
    | v :: v2 :: rst, ⟨g1, g2, hst⟩ =>
    by_cases hc : mz_ty xx < 2 ∧ mz_ty yy < 2
    · rw [if_pos hc] at h
      cases h
      have k2 := kk ls rlo (v :: v2 :: v :: v2 :: rst) hl hlo ⟨g1, g2, g1, g2, hst⟩
      dsimp only at k2
      rw [e3] at k2
      exact lv_dup2_11 hx hb hd (mz_tyc g1 hc.1) (mz_tyc g2 hc.2) k2
    · rw [if_neg hc] at h; cases h
  · cases h
theorem mz_s14 (hx : p.tables.exec = Jvm.exec) (hb : c.code = cc) (hd : decode cc (mz_pc pcs i) = .ok (ins, len)) (hk : mz_kp (some .pop) pcs i len ins = true)
    (hl : lv_has ls nL rlo) (hlo : mz_LR ads lo rlo) (hst : mz_FR ads st rst) (h : mz_o14 i lo st = some r) (kk : mz_K p l e R s m args below meth c H locs cells slots Q pcs nL ads r) : W p l e R s m args below meth c H locs cells slots Q (F0 m (mz_pc pcs i) ls rst) := by
  obtain ⟨e1, rfl, e3⟩ := mz_kp_eq hk
  cases e1
  unfold mz_o14 at h
  split at h
  · rename_i xx rest
    match rst, hst with
    | v :: rst, ⟨g1, hst⟩ =>
    by_cases hc : mz_ty xx < 2
    · rw [if_pos hc] at h
      cases h
      have k2 := kk ls rlo rst hl hlo hst
      dsimp only at k2
      rw [e3] at k2
      exact lv_pop hx hb hd (mz_tyc g1 hc) k2
    · rw [if_neg hc] at h; cases h
  · cases h
theorem mz_s15 (hx : p.tables.exec = Jvm.exec) (hb : c.code = cc) (hd : decode cc (mz_pc pcs i) = .ok (ins, len)) (hk : mz_kp (some .dup_x1) pcs i len ins = true)
    (hl : lv_has ls nL rlo) (hlo : mz_LR ads lo rlo) (hst : mz_FR ads st rst) (h : mz_o15 i lo st = some r) (kk : mz_K p l e R s m args below meth c H locs cells slots Q pcs nL ads r) : W p l e R s m args below meth c H locs cells slots Q (F0 m (mz_pc pcs i) ls rst) := by
  obtain ⟨e1, rfl, e3⟩ := mz_kp_eq hk
  cases e1
  unfold mz_o15 at h
  split at h
  · rename_i xx yy rest
    match rst, hst with
    | v :: v2 :: rst, ⟨g1, g2, hst⟩ =>
    by_cases hc : mz_ty xx < 2 ∧ mz_ty yy < 2
    · rw [if_pos hc] at h
      cases h
      have k2 := kk ls rlo (v :: v2 :: v :: rst) hl hlo ⟨g1, g2, g1, hst⟩
      dsimp only at k2
      rw [e3] at k2
      exact lv_dup_x1 hx hb hd (mz_tyc g1 hc.1) (mz_tyc g2 hc.2) k2
    · rw [if_neg hc] at h; cases h
  · cases h
theorem mz_s16 (hx : p.tables.exec = Jvm.exec) (hb : c.code = cc) (hd : decode cc (mz_pc pcs i) = .ok (ins, len)) (hk : mz_k16 a b pcs i len ins = true)
    (hl : lv_has ls nL rlo) (hlo : mz_LR ads lo rlo) (hst : mz_FR ads st rst) (h : mz_o16 a b i lo st = some r) (kk : mz_K p l e R s m args below meth c H locs cells slots Q pcs nL ads r) : W p l e R s m args below meth c H locs cells slots Q (F0 m (mz_pc pcs i) ls rst) := by
  unfold mz_k16 at hk
  split at hk
  · rename_i cd off
    simp only [Bool.and_eq_true, decide_eq_true_eq] at hk
    obtain ⟨⟨⟨q1, rfl⟩, q3⟩, q4⟩ := hk
    have e3 := mz_nx_eq q3
    have e4 := mz_tg_eq q4
    unfold mz_o16 at h
    split at h
    · rename_i xx rest
      match rst, hst with
      | v :: rst, ⟨g1, hst⟩ =>
      have g1 : v = .int xx := g1
      subst g1
      have kt : mz_cond a xx 0 = some true → W p l e R s m args below meth c H locs cells slots Q (F0 m (mz_pc pcs b) ls rst) := fun q => by
        rw [q] at h; cases h; exact kk ls rlo rst hl hlo hst
      have kf : mz_cond a xx 0 = some false → W p l e R s m args below meth c H locs cells slots Q (F0 m (mz_pc pcs i + 3) ls rst) := fun q => by
        rw [q] at h; cases h; rw [← e3]; exact kk ls rlo rst hl hlo hst
      clear h kk
      unfold mz_cI at q1
      split at q1 <;> (try simp only [Option.some.injEq] at q1) <;> (try subst q1)
      · exact lv_if_eq hx hb hd e4 (fun z => kt (by simp [mz_cond, z])) (fun z => kf (by simp [mz_cond, z]))
      · exact lv_if_ne hx hb hd e4 (fun z => kt (by simp [mz_cond, z])) (fun z => kf (by simp [mz_cond, z]))
      · exact lv_if_lt hx hb hd e4 (fun z => kt (by simp [mz_cond, z])) (fun z => kf (by simp only [mz_cond, z, decide_false]))
      · exact lv_if_ge hx hb hd e4 (fun z => kt (by simp [mz_cond, z])) (fun z => kf (by simp only [mz_cond, z, decide_false]))
      · exact lv_if_gt hx hb hd e4 (fun z => kt (by simp [mz_cond, z])) (fun z => kf (by simp only [mz_cond, z, decide_false]))
      · exact lv_if_le hx hb hd e4 (fun z => kt (by simp [mz_cond, z])) (fun z => kf (by simp only [mz_cond, z, decide_false]))
      · cases q1
    · cases h
  · cases hk
theorem mz_s17 (hx : p.tables.exec = Jvm.exec) (hb : c.code = cc) (hd : decode cc (mz_pc pcs i) = .ok (ins, len)) (hk : mz_k17 a b pcs i len ins = true)
    (hl : lv_has ls nL rlo) (hlo : mz_LR ads lo rlo) (hst : mz_FR ads st rst) (h : mz_o17 a b i lo st = some r) (kk : mz_K p l e R s m args below meth c H locs cells slots Q pcs nL ads r) : W p l e R s m args below meth c H locs cells slots Q (F0 m (mz_pc pcs i) ls rst) := by
  unfold mz_k17 at hk
  split at hk
  · rename_i cd off
    simp only [Bool.and_eq_true, decide_eq_true_eq] at hk
    obtain ⟨⟨⟨q1, rfl⟩, q3⟩, q4⟩ := hk
    have e3 := mz_nx_eq q3
    have e4 := mz_tg_eq q4
    unfold mz_o17 at h
    split at h
    · rename_i yy xx rest
      match rst, hst with
      | v :: v2 :: rst, ⟨g1, g2, hst⟩ =>
      have g1 : v = .int yy := g1
      have g2 : v2 = .int xx := g2
      subst g1; subst g2
      have kt : mz_cond a xx yy = some true → W p l e R s m args below meth c H locs cells slots Q (F0 m (mz_pc pcs b) ls rst) := fun q => by
        rw [q] at h; cases h; exact kk ls rlo rst hl hlo hst
      have kf : mz_cond a xx yy = some false → W p l e R s m args below meth c H locs cells slots Q (F0 m (mz_pc pcs i + 3) ls rst) := fun q => by
        rw [q] at h; cases h; rw [← e3]; exact kk ls rlo rst hl hlo hst
      clear h kk
      unfold mz_cI at q1
      split at q1 <;> (try simp only [Option.some.injEq] at q1) <;> (try subst q1)
      · exact lv_icmp_eq hx hb hd e4 (fun z => kt (by simp [mz_cond, z])) (fun z => kf (by simp [mz_cond, z]))
      · exact lv_icmp_ne hx hb hd e4 (fun z => kt (by simp [mz_cond, z])) (fun z => kf (by simp [mz_cond, z]))
      · exact lv_icmp_lt hx hb hd e4 (fun z => kt (by simp [mz_cond, z])) (fun z => kf (by simp only [mz_cond, z, decide_false]))
      · exact lv_icmp_ge hx hb hd e4 (fun z => kt (by simp [mz_cond, z])) (fun z => kf (by simp only [mz_cond, z, decide_false]))
      · exact lv_icmp_gt hx hb hd e4 (fun z => kt (by simp [mz_cond, z])) (fun z => kf (by simp only [mz_cond, z, decide_false]))
      · exact lv_icmp_le hx hb hd e4 (fun z => kt (by simp [mz_cond, z])) (fun z => kf (by simp only [mz_cond, z, decide_false]))
      · cases q1
    · cases h
  · cases hk
theorem mz_s18 (hx : p.tables.exec = Jvm.exec) (hb : c.code = cc) (hd : decode cc (mz_pc pcs i) = .ok (ins, len)) (hk : mz_k18 b pcs i len ins = true)
    (hl : lv_has ls nL rlo) (hlo : mz_LR ads lo rlo) (hst : mz_FR ads st rst) (kk : mz_K p l e R s m args below meth c H locs cells slots Q pcs nL ads (b, lo, st)) : W p l e R s m args below meth c H locs cells slots Q (F0 m (mz_pc pcs i) ls rst) := by
  unfold mz_k18 at hk
  split at hk
  · simp only [Bool.and_eq_true, decide_eq_true_eq] at hk
    obtain ⟨rfl, q4⟩ := hk
    exact lv_goto hx hb hd (mz_tg_eq q4) (kk ls rlo rst hl hlo hst)
  · cases hk
theorem mz_zip_at {i : Nat} : ∀ {os : List Int} {sw : List (Int × Nat)}, mz_zip pcs i os sw = true → ∀ {k : Nat} {q : Int × Nat}, sw[k]? = some q → ∃ o, os[k]? = some o ∧ (mz_pc pcs i : Int) + o = ((mz_pc pcs q.2 : Nat) : Int)
  | [], [], _, _, _, h => by simp at h
  | [], _ :: _, h, _, _, _ => by simp [mz_zip] at h
  | _ :: _, [], h, _, _, _ => by simp [mz_zip] at h
  | o :: os, z :: sw, h, k, q, hq => by
    simp only [mz_zip, Bool.and_eq_true] at h
    cases k with
    | zero => simp at hq; subst hq; exact ⟨o, rfl, mz_tg_eq h.1⟩
    | succ k => simp at hq; simpa using mz_zip_at h.2 hq
theorem mz_s19 (hx : p.tables.exec = Jvm.exec) (hb : c.code = cc) (hd : decode cc (mz_pc pcs i) = .ok (ins, len)) {k : Int} {sw : List (Int × Nat)} (hk : mz_k19 b k sw pcs i ins = true)
    (hl : lv_has ls nL rlo) (hlo : mz_LR ads lo rlo) (hst : mz_FR ads st rst) (h : mz_o19 b k sw lo st = some r) (kk : mz_K p l e R s m args below meth c H locs cells slots Q pcs nL ads r) : W p l e R s m args below meth c H locs cells slots Q (F0 m (mz_pc pcs i) ls rst) := by
  unfold mz_k19 at hk
  split at hk
  · rename_i d lo0 hi offs
    simp only [Bool.and_eq_true, decide_eq_true_eq] at hk
    obtain ⟨⟨⟨rfl, rfl⟩, q3⟩, q4⟩ := hk
    unfold mz_o19 at h
    split at h
    · rename_i xx rest
      match rst, hst with
      | v :: rst, ⟨g1, hst⟩ =>
      have g1 : v = .int xx := g1
      subst g1
      split at h
      · rename_i t ht
        cases h
        have k2 := kk ls rlo rst hl hlo hst
        dsimp only at k2
        unfold mz_tab at ht
        by_cases hr : xx.toInt - lo0 < 0 ∨ (sw.length : Int) ≤ xx.toInt - lo0
        · rw [if_pos hr] at ht
          cases ht
          exact lv_tableOut hx hb hd (by omega) (mz_tg_eq q3) k2
        · rw [if_neg hr] at ht
          obtain ⟨q, hq, rfl⟩ := Option.map_eq_some_iff.mp ht
          obtain ⟨o, ho, he⟩ := mz_zip_at q4 hq
          exact lv_tableIn hx hb hd (by omega) (by omega) (by rw [← Array.getElem?_toList]; exact ho) he k2
      · cases h
    · cases h
  · cases hk
theorem mz_look_at {i : Nat} {d : Int} (hd : (mz_pc pcs i : Int) + d = ((mz_pc pcs b : Nat) : Int)) (x : Int) : ∀ {ps : List (Int × Int)} {sw : List (Int × Nat)}, mz_zipL pcs i ps sw = true → (mz_pc pcs i : Int) + Op.lookupswitch.offset ps d x = ((mz_pc pcs (mz_look sw b x) : Nat) : Int)
  | [], [], _ => by simpa [mz_look, Op.lookupswitch.offset] using hd
  | [], _ :: _, h => by simp [mz_zipL] at h
  | _ :: _, [], h => by simp [mz_zipL] at h
  | (o1, o2) :: os, (z1, z2) :: sw, h => by
    simp only [mz_zipL, Bool.and_eq_true, decide_eq_true_eq] at h
    obtain ⟨⟨h1, h2⟩, h3⟩ := h
    subst h1
    rw [Op.lookupswitch.offset_cons]
    unfold mz_look
    by_cases hz : x = o1
    · subst hz
      simp only [if_true]
      exact mz_tg_eq h2
    · rw [if_neg hz, if_neg (fun q => hz q.symm)]
      exact mz_look_at hd x h3
theorem mz_s39 (hx : p.tables.exec = Jvm.exec) (hb : c.code = cc) (hd : decode cc (mz_pc pcs i) = .ok (ins, len)) {sw : List (Int × Nat)} (hk : mz_k39 b sw pcs i ins = true)
    (hl : lv_has ls nL rlo) (hlo : mz_LR ads lo rlo) (hst : mz_FR ads st rst) (h : mz_o39 b sw lo st = some r) (kk : mz_K p l e R s m args below meth c H locs cells slots Q pcs nL ads r) : W p l e R s m args below meth c H locs cells slots Q (F0 m (mz_pc pcs i) ls rst) := by
  unfold mz_k39 at hk
  split at hk
  · rename_i d ps
    rw [Bool.and_eq_true, Bool.and_eq_true] at hk
    obtain ⟨⟨q1, q2⟩, q3⟩ := hk
    unfold mz_o39 at h
    split at h
    · rename_i xx rest
      match rst, hst with
      | v :: rst, ⟨g1, hst⟩ =>
      have g1 : v = .int xx := g1
      subst g1
      cases h
      exact lv_lookup hx hb hd q3 rfl (mz_look_at (mz_tg_eq q1) xx.toInt q2) (kk ls rlo rst hl hlo hst)
    · cases h
  · cases hk
theorem mz_sim1 (hx : p.tables.exec = Jvm.exec) (hb : c.code = cc) (hown : s.vm.findClass y.cls = some m.cls) (hts : ∀ w ∈ mz_WS, w.before args s = true) (hd : decode cc (mz_pc pcs i) = .ok (ins, len)) {ri : mzI} (hk : mz_okI y pcs w i len ri ins = true) (hop : ri.1 < 20 ∨ ri.1 = 39)
    (hl : lv_has ls nL rlo) (hlo : mz_LR ads lo rlo) (hst : mz_FR ads st rst) (h : mz_one ri i nL lo st = some r) (kk : mz_K p l e R s m args below meth c H locs cells slots Q pcs nL ads r) : W p l e R s m args below meth c H locs cells slots Q (F0 m (mz_pc pcs i) ls rst) := by
  obtain ⟨op, aa, bb, k, sw⟩ := ri
  have ho : op < 20 ∨ op = 39 := hop
  unfold mz_one at h
  unfold mz_okI at hk
  dsimp only at h hk
  match op, ho, h, hk with
  | 0, _, h, hk => cases h; exact mz_s0 hx hb hown hts hd hk hl hlo hst kk
  | 1, _, h, hk => cases h; exact mz_s1 hx hb hd hk hl hlo hst kk
  | 2, _, h, hk => exact mz_s2 hx hb hd hk hl hlo hst h kk
  | 3, _, h, hk => exact mz_s3 hx hb hd hk hl hlo hst h kk
  | 4, _, h, hk => exact mz_s4 hx hb hd hk hl hlo hst h kk
  | 5, _, h, hk => exact mz_s5 hx hb hd hk hl hlo hst h kk
  | 6, _, h, hk => exact mz_s6 hx hb hd hk hl hlo hst h kk
  | 7, _, h, hk => exact mz_s7 hx hb hd hk hl hlo hst h kk
  | 8, _, h, hk => exact mz_s8 hx hb hd hk hl hlo hst h kk
  | 9, _, h, hk => exact mz_s9 hx hb hd hk hl hlo hst h kk
  | 10, _, h, hk => exact mz_s10 hx hb hd hk hl hlo hst h kk
  | 11, _, h, hk => exact mz_s11 hx hb hd hk hl hlo hst h kk
  | 12, _, h, hk => exact mz_s12 hx hb hd hk hl hlo hst h kk
  | 13, _, h, hk => exact mz_s13 hx hb hd hk hl hlo hst h kk
  | 14, _, h, hk => exact mz_s14 hx hb hd hk hl hlo hst h kk
  | 15, _, h, hk => exact mz_s15 hx hb hd hk hl hlo hst h kk
  | 16, _, h, hk => exact mz_s16 hx hb hd hk hl hlo hst h kk
  | 17, _, h, hk => exact mz_s17 hx hb hd hk hl hlo hst h kk
  | 18, _, h, hk => cases h; exact mz_s18 hx hb hd hk hl hlo hst kk
  | 19, _, h, hk => exact mz_s19 hx hb hd hk hl hlo hst h kk
  | 39, _, h, hk => exact mz_s39 hx hb hd hk hl hlo hst h kk
  | n + 20, ho, h, hk =>
    rcases ho with ho | ho
    · omega
    · have : n = 19 := by omega
      subst this
      exact mz_s39 hx hb hd hk hl hlo hst h kk
end MZ2
end
section
/-! the heap of M beside the JVM's -/
def mz_tys (cA : Nat → ClassId) : List (ClassId × FieldType) := [(cA 0, .int), (cA 1, .long), (cA 2, .byte), (cA 3, .boolean), (cA 4, .object "LoopsToUnits$Held")]
/-- a cell of M beside a thing of the kit's worlds -/
def mz_cr (cA : Nat → ClassId) (ads : List Nat) (c : mzC) (e : va_E) : Prop := match e with
  | .inr (ci, fs) => c.1 = 2 * ci ∧ mz_FR ads c.2 fs
  | .inl (cl, n, .inl f) => (c.1 = 1 ∨ c.1 = 5 ∨ c.1 = 7) ∧ cl = cA (c.1 / 2) ∧ n = c.2.length ∧ ∀ (j : Nat) (v : Value), c.2[j]? = some v → v = .int (f j)
  | .inl (cl, n, .inr (.inl f)) => c.1 = 3 ∧ cl = cA 1 ∧ n = c.2.length ∧ ∀ (j : Nat) (v : Value), c.2[j]? = some v → v = .long (f j)
  | .inl (cl, n, .inr (.inr (.inr (.inr f)))) => c.1 = 9 ∧ cl = cA 4 ∧ n = c.2.length ∧ ∀ (j : Nat) (v : Value), c.2[j]? = some v → mz_rel ads v (va_rf (f j))
  | _ => False
theorem mz_cr.app {cA : Nat → ClassId} {ads : List Nat} {c : mzC} {e : va_E} (h : mz_cr cA ads c e) (q : List Nat) : mz_cr cA (ads ++ q) c e := by
  rcases e with ⟨cl, n, f | f | f | f | f⟩ | ⟨ci, fs⟩
  · exact h
  · exact h
  · exact h
  · exact h
  · exact ⟨h.1, h.2.1, h.2.2.1, fun j v hv => (h.2.2.2 j v hv).app q⟩
  · exact ⟨h.1, mz_FR.app h.2 q⟩
abbrev mz_ads (xt : List Nat) (ws : va_W) : List Nat := xt ++ ws.map Prod.fst
abbrev mz_HR (cA : Nat → ClassId) (xt : List Nat) (h : List mzC) (ws : va_W) : Prop := mz_F2 (fun c q => mz_cr cA (mz_ads xt ws) c q.2) h ws
/-- M's heap h lies in the JVM's heap H as the world ws -/
def mz_HP (D : va_G) (A : Nat → Prop) (cA : Nat → ClassId) (xt : List Nat) (H0 : Heap) (h : List mzC) (ws : va_W) (H : Heap) (locs : List Loc) : Prop := va_P D vwCl ws H ∧ va_D A ws ∧ va_S A H0 H locs ∧ mz_HR cA xt h ws
/-- the script and the static arrays -/
def mz_EX (xt : List Nat) (X : List (List Value)) (A : Nat → Prop) (U : State) (H : Heap) : Prop :=
  (∀ (k : Nat) (fs : List Value), X[k]? = some fs → ∃ t, xt[k]? = some t ∧ va_T .int t fs.length (fun j => fs.getD j .null) A U H ∧ ∀ v ∈ fs, ∃ x, v = Value.int x) ∧
  ∀ k, 1 ≤ k → k < 4 → ∃ t, xt[k]? = some t ∧ va_Z "LoopsToUnitsModel" (mz_sn k) "[I" (.ref t) A U H
/-- what stays as it is while a method runs -/
def mz_CT (D : va_G) (A : Nat → Prop) (cA : Nat → ClassId) (xt : List Nat) (X : List (List Value)) (s : State) : Prop :=
  xt.length = 4 ∧ va_K D vwCl (mz_tys cA) s ∧ mz_EX xt X A s s.heap ∧ (∀ q, s.heap.size ≤ q → A q) ∧ va_AO "LoopsToUnits$Held" s
theorem mz_gw {cA : Nat → ClassId} {xt : List Nat} {s : mzS} {ws : va_W} {r : Nat} {c : mzC} {w : Value} (hxt : xt.length = 4) (hR : mz_HR cA xt s.1 ws) (hg : mz_get s r = some c) (hw : mz_rel (mz_ads xt ws) (.ref r) w) :
    ∃ a e, w = .ref a ∧ ws[r - 4]? = some (a, e) ∧ mz_cr cA (mz_ads xt ws) c e ∧ 4 ≤ r := by
  unfold mz_get at hg
  by_cases h4 : r < 4
  · rw [if_pos h4] at hg; cases hg
  · rw [if_neg h4] at hg
    obtain ⟨⟨a, e⟩, h1, h2⟩ := mz_F2.get hR hg
    obtain ⟨a', h3, rfl⟩ := hw
    rw [List.getElem?_append_right (by omega), hxt, List.getElem?_map, h1] at h3
    cases h3
    exact ⟨a, e, rfl, h1, h2, by omega⟩
theorem mz_ads_set {xt : List Nat} {ws : va_W} {q a : Nat} {e e' : va_E} (h : ws[q]? = some (a, e)) : mz_ads xt (ws.set q (a, e')) = mz_ads xt ws := by
  unfold mz_ads
  congr 1
  rw [List.map_set]
  apply List.ext_getElem?
  intro j
  rw [List.getElem?_set]
  by_cases hj : q = j
  · subst hj
    rw [if_pos rfl, List.getElem?_map, h, if_pos (by rw [List.length_map]; exact (List.getElem?_eq_some_iff.mp h).1)]
    rfl
  · rw [if_neg hj]
theorem mz_HR_set {cA : Nat → ClassId} {xt : List Nat} {s : mzS} {ws : va_W} {r a : Nat} {c : mzC} {e e' : va_E} (hR : mz_HR cA xt s.1 ws) (h : ws[r - 4]? = some (a, e)) (hc : mz_cr cA (mz_ads xt ws) c e') : mz_HR cA xt (mz_set s r c).1 (ws.set (r - 4) (a, e')) := by
  unfold mz_HR mz_set
  rw [mz_ads_set h]
  exact mz_F2.set (P := fun c q => mz_cr cA (mz_ads xt ws) c q.2) (b := (a, e')) hc hR (r - 4)
theorem mz_ads_app {xt : List Nat} {ws : va_W} {q : Nat} {e : va_E} : mz_ads xt (ws ++ [(q, e)]) = mz_ads xt ws ++ [q] := by
  unfold mz_ads
  rw [List.map_append, List.append_assoc]
  rfl
theorem mz_HR_app {cA : Nat → ClassId} {xt : List Nat} {h : List mzC} {ws : va_W} {q : Nat} {c : mzC} {e : va_E} (hR : mz_HR cA xt h ws) (hc : mz_cr cA (mz_ads xt (ws ++ [(q, e)])) c e) : mz_HR cA xt (h ++ [c]) (ws ++ [(q, e)]) := by
  unfold mz_HR
  refine mz_F2.app (k := [c]) (k' := [(q, e)]) ⟨hc, trivial⟩ ?_
  rw [mz_ads_app]
  exact mz_F2.mono (fun _ _ h => h.app _) hR
theorem mz_top {cA : Nat → ClassId} {xt : List Nat} {h : List mzC} {ws : va_W} {q : Nat} {e : va_E} (hxt : xt.length = 4) (hR : mz_HR cA xt h ws) : mz_rel (mz_ads xt (ws ++ [(q, e)])) (.ref (4 + h.length)) (.ref q) := by
  refine ⟨q, ?_, rfl⟩
  have hlen := hR.len
  rw [mz_ads_app]
  unfold mz_ads
  rw [List.getElem?_append_right (by simp; omega)]
  simp [hxt, hlen]
/-- a read of an array of ints, of longs, of references -/
theorem mz_in_eq {i : Int32} {fs : List Value} {v : Value} (h : mz_in i fs = some v) : vp_in i fs.length ∧ fs[i.toNatClampNeg]? = some v := by
  unfold mz_in at h
  by_cases h0 : i < 0
  · rw [if_pos h0] at h; cases h
  · rw [if_neg h0] at h
    refine ⟨?_, h⟩
    rintro (q | q)
    · exact h0 q
    · exact absurd (List.getElem?_eq_some_iff.mp h).1 (by omega)
section MZ3
variable {p : Program} {l : Launch} {e : Env} {R : Room} {s : State} {m : MethodId} {args : Array Value} {below : List Frame} {meth : Method} {c : Code} {H : Heap} {locs : List Loc} {cells slots : Nat} {Q : State → Prop}
variable {cc : ByteArray} {pcs : List Nat} {ls : Array Slot} {nL i w len : Nat} {y : MethodName} {ins : Instr} {st rst : List Value} {a b : Nat} {r : List Value × mzS}
variable {D : va_G} {A : Nat → Prop} {cA : Nat → ClassId} {xt : List Nat} {X : List (List Value)} {ws : va_W} {σ : mzS} {c0 n0 : Nat}
/-- where it goes on -/
abbrev mz_KH (p : Program) (l : Launch) (e : Env) (R : Room) (s : State) (m : MethodId) (args : Array Value) (below : List Frame) (meth : Method) (c : Code) (Q : State → Prop) (pcs : List Nat) (i : Nat) (ls : Array Slot) (D : va_G) (A : Nat → Prop) (cA : Nat → ClassId) (xt : List Nat) (ws : va_W) (c0 n0 : Nat) (r : List Value × mzS) : Prop :=
  ∀ (H' : Heap) (locs' : List Loc) (ws' : va_W) (rst' : List Value) (cells' slots' : Nat), mz_HP D A cA xt s.heap r.2.1 ws' H' locs' → (∃ q, mz_ads xt ws' = mz_ads xt ws ++ q) → mz_FR (mz_ads xt ws') r.1 rst' → r.2.2.1 = c0 + cells' → r.2.2.2 = n0 + slots' → W p l e R s m args below meth c H' locs' cells' slots' Q (F0 m (mz_pc pcs (i + 1)) ls rst')
theorem mz_h20s (hx : p.tables.exec = Jvm.exec) (hb : c.code = cc) (hown : s.vm.findClass y.cls = some m.cls) (hts : ∀ w ∈ mz_WS, w.before args s = true) (hd : decode cc (mz_pc pcs i) = .ok (ins, len)) (hk : mz_k20 y.cls w a b pcs i len ins = true)
    (hC : mz_CT D A cA xt X s) (hP : mz_HP D A cA xt s.heap σ.1 ws H locs) (hst : mz_FR (mz_ads xt ws) st rst) (hcn : σ.2.1 = c0 + cells) (hsn : σ.2.2 = n0 + slots) (h : mz_h20 a b st σ = some r) (kk : mz_KH p l e R s m args below meth c Q pcs i ls D A cA xt ws c0 n0 r) : W p l e R s m args below meth c H locs cells slots Q (F0 m (mz_pc pcs i) ls rst) := by
  unfold mz_k20 at hk
  split at hk
  · rename_i k
    simp only [Bool.and_eq_true, decide_eq_true_eq] at hk
    obtain ⟨⟨q1, rfl⟩, q3⟩ := hk
    unfold mz_h20 at h
    split at h
    · rename_i rr rest
      match rst, hst with
      | v :: rst, ⟨g1, hst⟩ =>
      split at h
      · rename_i cell hcell
        obtain ⟨ad, e, rfl, g2, g3, -⟩ := mz_gw hC.1 hP.2.2.2 hcell g1
        by_cases ht : cell.1 = 2 * b
        · rw [if_pos ht] at h
          split at h
          · rename_i z hz
            cases h
            rcases e with ⟨cl, n, f | f | f | f | f⟩ | ⟨ci, fs⟩
            · rcases g3.1 with q | q | q <;> omega
            · have := g3.1; omega
            · exact g3.elim
            · exact g3.elim
            · have := g3.1; omega
            · obtain ⟨g4, g5⟩ := g3
              have hci : ci = b := by omega
              subst hci
              obtain ⟨x, hx1, hx2⟩ := g5.get hz
              unfold mz_fld at q1
              cases hv : vwCl[ci]? with
              | none => rw [hv] at q1; cases q1
              | some rr =>
                obtain ⟨C, T, N⟩ := rr
                rw [hv] at q1
                dsimp only at q1
                by_cases hN : a < N
                · rw [if_pos hN] at q1
                  dsimp only at q1
                  have k2 := kk H locs ws (x :: rst) cells slots hP ⟨[], by simp⟩ ⟨hx2, hst⟩ hcn hsn
                  rw [mz_nx_eq q3] at k2
                  exact va_get hx hb (Ts := mz_WS) hts (mz_cl ci C T N hv) hown hC.2.1 hP.1 (rr - 4) g2 hv a hN (hts _ (mz_wok_mem q1)) (fun _ h => h) hx1 hd k2
                · rw [if_neg hN] at q1; cases q1
          · cases h
        · rw [if_neg ht] at h; cases h
      · cases h
    · cases h
  · cases hk
end MZ3
end
section
/-! instructions on the heap -/
section MZ4
variable {p : Program} {l : Launch} {e : Env} {R : Room} {s : State} {m : MethodId} {args : Array Value} {below : List Frame} {meth : Method} {c : Code} {H : Heap} {locs : List Loc} {cells slots : Nat} {Q : State → Prop}
variable {cc : ByteArray} {pcs : List Nat} {ls : Array Slot} {nL i w len : Nat} {y : MethodName} {ins : Instr} {st rst : List Value} {a b : Nat} {r : List Value × mzS}
variable {D : va_G} {A : Nat → Prop} {cA : Nat → ClassId} {xt : List Nat} {X : List (List Value)} {ws : va_W} {σ : mzS} {c0 n0 : Nat}
theorem mz_fits {k : Int} {d : String} {ads : List Nat} {v x : Value} {ty : FieldType} (hd : parseFieldDescriptor d = some ty) (hk : mz_kd k d = true) (hf : mz_fit k v = true) (hr : mz_rel ads v x) : narrow ty x = x ∧ fits ty x = true := by
  unfold mz_kd at hk
  rw [hd] at hk
  cases v with
  | int z =>
    have hr : x = .int z := hr
    subst hr
    simp only [mz_fit, Bool.or_eq_true, Bool.and_eq_true, beq_iff_eq] at hf
    cases ty <;> simp at hk
    all_goals first
      | exact ⟨rfl, rfl⟩
      | (exfalso; rcases hf with h | ⟨h, -⟩ <;> omega)
      | (rcases hf with h | ⟨_, rfl | rfl⟩ <;> first | omega | decide)
  | ref z =>
    obtain ⟨a, -, rfl⟩ := hr
    simp only [mz_fit, beq_iff_eq] at hf
    cases ty <;> simp at hk
    all_goals first
      | exact ⟨rfl, rfl⟩
      | (exfalso; omega)
  | long _ => simp [mz_fit] at hf
  | float _ => simp [mz_fit] at hf
  | double _ => simp [mz_fit] at hf
  | null => simp [mz_fit] at hf
  | retAddr _ => simp [mz_fit] at hf
theorem mz_h21s (hx : p.tables.exec = Jvm.exec) (hb : c.code = cc) (hown : s.vm.findClass y.cls = some m.cls) (hts : ∀ w ∈ mz_WS, w.before args s = true) (hnm : y.name = "<init>" → meth.name = "<init>") (hd : decode cc (mz_pc pcs i) = .ok (ins, len)) {k : Int} (hk : mz_k21 y.cls y.name w a b k pcs i len ins = true)
    (hC : mz_CT D A cA xt X s) (hP : mz_HP D A cA xt s.heap σ.1 ws H locs) (hst : mz_FR (mz_ads xt ws) st rst) (hcn : σ.2.1 = c0 + cells) (hsn : σ.2.2 = n0 + slots) (h : mz_h21 a b k st σ = some r) (kk : mz_KH p l e R s m args below meth c Q pcs i ls D A cA xt ws c0 n0 r) : W p l e R s m args below meth c H locs cells slots Q (F0 m (mz_pc pcs i) ls rst) := by
  unfold mz_k21 at hk
  split at hk
  · rename_i ix
    simp only [Bool.and_eq_true, decide_eq_true_eq] at hk
    obtain ⟨⟨q1, rfl⟩, q3⟩ := hk
    unfold mz_h21 at h
    split at h
    · rename_i vv rr rest
      match rst, hst with
      | v1 :: v :: rst, ⟨g0, g1, hst⟩ =>
      split at h
      · rename_i cell hcell
        obtain ⟨ad, e, rfl, g2, g3, -⟩ := mz_gw hC.1 hP.2.2.2 hcell g1
        by_cases ht : cell.1 = 2 * b ∧ a < cell.2.length ∧ mz_fit k vv = true
        · rw [if_pos ht] at h
          cases h
          obtain ⟨ht, hal, hfit⟩ := ht
          rcases e with ⟨cl, n, f | f | f | f | f⟩ | ⟨ci, fs⟩
          · rcases g3.1 with q | q | q <;> omega
          · have := g3.1; omega
          · exact g3.elim
          · exact g3.elim
          · have := g3.1; omega
          · obtain ⟨g4, g5⟩ := g3
            have hci : ci = b := by omega
            subst hci
            unfold mz_fld at q1
            cases hv : vwCl[ci]? with
            | none => rw [hv] at q1; cases q1
            | some rr2 =>
              obtain ⟨C, T, N⟩ := rr2
              rw [hv] at q1
              dsimp only at q1
              by_cases hN : a < N
              · rw [if_pos hN] at q1
                dsimp only at q1
                simp only [Bool.and_eq_true, Bool.or_eq_true, Bool.not_eq_true', decide_eq_true_eq] at q1
                obtain ⟨⟨q5, q6⟩, q7⟩ := q1
                have hdesc := mz_tyok ci C T N hv a hN
                obtain ⟨hn, hf⟩ := mz_fits hdesc q6 hfit g0
                have k2 : ∀ (H1 : Heap) (locs1 : List Loc), va_P D vwCl (ws.set (rr - 4) (ad, .inr (ci, fs.set a v1))) H1 → va_D A (ws.set (rr - 4) (ad, .inr (ci, fs.set a v1))) → va_S A s.heap H1 locs1 → W p l e R s m args below meth c H1 locs1 cells slots Q (F0 m (mz_pc pcs i + 3) ls rst) := by
                  intro H1 locs1 p1 p2 p3
                  rw [← mz_nx_eq q3]
                  refine kk H1 locs1 _ rst cells slots ⟨p1, p2, p3, ?_⟩ ⟨[], by rw [mz_ads_set g2]; simp⟩ (by rw [mz_ads_set g2]; exact hst) hcn hsn
                  exact mz_HR_set hP.2.2.2 g2 ⟨ht, mz_F2.set g0 g5 a⟩
                have hal' : a < fs.length := by rw [← g5.len]; exact hal
                cases hfin : (T a).2.2.2 with
                | false => exact va_put hx hb (Ts := mz_WS) hts (mz_cl ci C T N hv) (mz_t0 ci) (mz_tyok ci C T N hv) (mz_nmok ci C T N hv) hown hC.2.1 hP.1 hP.2.1 hP.2.2.1 (rr - 4) g2 hv a hN (hts _ (mz_wok_mem q5)) (fun _ h => h) hfin hdesc hn hf hal' hd k2
                | true =>
                  rcases q7 with q7 | ⟨q7, q8⟩
                  · rw [hfin] at q7; cases q7
                  · exact va_putF hx hb (Ts := mz_WS) hts (mz_cl ci C T N hv) (mz_t0 ci) (mz_tyok ci C T N hv) (mz_nmok ci C T N hv) hown hC.2.1 hP.1 hP.2.1 hP.2.2.1 (rr - 4) g2 hv a hN (hts _ (mz_wok_mem q5)) (fun _ h => h) hfin (hnm q7) q8 hdesc hn hf hal' hd k2
              · rw [if_neg hN] at q1; cases q1
        · rw [if_neg ht] at h; cases h
      · cases h
    · cases h
  · cases hk
theorem mz_akind_eq {a t : Nat} (h : mz_akind a t = true) : (a = 0 ∧ t = 1) ∨ (a = 1 ∧ t = 3) ∨ (a = 2 ∧ (t = 5 ∨ t = 7)) ∨ (a = 3 ∧ t = 9) := by
  simp only [mz_akind, Bool.or_eq_true, Bool.and_eq_true, beq_iff_eq] at h
  omega
theorem mz_h22s (hx : p.tables.exec = Jvm.exec) (hb : c.code = cc) (hd : decode cc (mz_pc pcs i) = .ok (ins, len)) (hk : mz_kp (mz_aldI a) pcs i len ins = true)
    (hC : mz_CT D A cA xt X s) (hP : mz_HP D A cA xt s.heap σ.1 ws H locs) (hst : mz_FR (mz_ads xt ws) st rst) (hcn : σ.2.1 = c0 + cells) (hsn : σ.2.2 = n0 + slots) (h : mz_h22 X a st σ = some r) (kk : mz_KH p l e R s m args below meth c Q pcs i ls D A cA xt ws c0 n0 r) : W p l e R s m args below meth c H locs cells slots Q (F0 m (mz_pc pcs i) ls rst) := by
  obtain ⟨e1, rfl, e3⟩ := mz_kp_eq hk
  unfold mz_h22 at h
  split at h
  · rename_i ii rr rest
    match rst, hst with
    | v1 :: v :: rst, ⟨g0, g1, hst⟩ =>
    have g0 : v1 = .int ii := g0
    subst g0
    by_cases h4 : rr < 4
    · rw [if_pos h4] at h
      split at h
      · rename_i fs hfs
        by_cases ha : a = 0
        · subst ha
          rw [if_pos rfl] at h
          split at h
          · rename_i z hz
            cases h
            obtain ⟨hin, hat⟩ := mz_in_eq hz
            obtain ⟨t, t1, t2, t3⟩ := hC.2.2.1.1 rr fs hfs
            obtain ⟨ad, g2, rfl⟩ := g1
            have : t = ad := by
              unfold mz_ads at g2
              rw [List.getElem?_append_left (by rw [hC.1]; exact h4), t1] at g2
              exact Option.some.inj g2
            subst this
            obtain ⟨zx, rfl⟩ := t3 z (List.mem_of_getElem? hat)
            have k2 := kk H locs ws (.int zx :: rst) cells slots hP ⟨[], by simp⟩ ⟨rfl, hst⟩ hcn hsn
            rw [e3] at k2
            cases e1
            exact va_ti hx hb t2 hP.2.2.1 hin (by rw [List.getD_eq_getElem?_getD, hat]; rfl) hd k2
          · cases h
        · rw [if_neg ha] at h; cases h
      · cases h
    · rw [if_neg h4] at h
      split at h
      · rename_i cell hcell
        obtain ⟨ad, e, rfl, g2, g3, -⟩ := mz_gw hC.1 hP.2.2.2 hcell g1
        by_cases ht : mz_akind a cell.1 = true
        · rw [if_pos ht] at h
          have ht := mz_akind_eq ht
          split at h
          · rename_i z hz
            cases h
            obtain ⟨hin, hat⟩ := mz_in_eq hz
            rcases e with ⟨cl, n, f | f | f | f | f⟩ | ⟨ci, fs⟩
            · obtain ⟨g4, rfl, rfl, g6⟩ := g3
              have hz2 := g6 _ _ hat
              subst hz2
              have k2 := kk H locs ws (.int (f ii.toNatClampNeg) :: rst) cells slots hP ⟨[], by simp⟩ ⟨rfl, hst⟩ hcn hsn
              rw [e3] at k2
              rcases ht with ⟨rfl, t1⟩ | ⟨rfl, t1⟩ | ⟨rfl, t1 | t1⟩ | ⟨rfl, t1⟩
              · cases e1
                rw [t1] at g2
                exact va_iald hx hb hC.2.1 hP.1 (rr - 4) 0 g2 rfl hin hd k2
              · omega
              · cases e1
                rw [t1] at g2
                exact va_bald hx hb hC.2.1 hP.1 (rr - 4) 2 g2 rfl hin hd k2
              · cases e1
                rw [t1] at g2
                exact va_zald hx hb hC.2.1 hP.1 (rr - 4) 3 g2 rfl hin hd k2
              · omega
            · obtain ⟨g4, rfl, rfl, g6⟩ := g3
              have hz2 := g6 _ _ hat
              subst hz2
              have k2 := kk H locs ws (.long (f ii.toNatClampNeg) :: rst) cells slots hP ⟨[], by simp⟩ ⟨rfl, hst⟩ hcn hsn
              rw [e3] at k2
              rcases ht with ⟨rfl, t1⟩ | ⟨rfl, t1⟩ | ⟨rfl, t1 | t1⟩ | ⟨rfl, t1⟩
              · omega
              · cases e1
                exact va_lald hx hb hC.2.1 hP.1 (rr - 4) 1 g2 rfl hin hd k2
              · omega
              · omega
              · omega
            · exact g3.elim
            · exact g3.elim
            · obtain ⟨g4, rfl, rfl, g6⟩ := g3
              have hz2 := g6 _ _ hat
              have k2 := kk H locs ws (va_rf (f ii.toNatClampNeg) :: rst) cells slots hP ⟨[], by simp⟩ ⟨hz2, hst⟩ hcn hsn
              rw [e3] at k2
              rcases ht with ⟨rfl, t1⟩ | ⟨rfl, t1⟩ | ⟨rfl, t1 | t1⟩ | ⟨rfl, t1⟩
              · omega
              · omega
              · omega
              · omega
              · cases e1
                exact va_aldq hx hb hC.2.1 hP.1 (rr - 4) 4 g2 rfl hin hd k2
            · have := g3.1; omega
          · cases h
        · rw [if_neg ht] at h; cases h
      · cases h
  · cases h
end MZ4
end
section
/-! instructions on the heap: the rest, and all of them -/
theorem mz_set_at {l : List Value} {k j : Nat} {w v : Value} (h : (l.set k w)[j]? = some v) : (j = k ∧ v = w) ∨ (j ≠ k ∧ l[j]? = some v) := by
  rw [List.getElem?_set] at h
  by_cases hj : k = j
  · rw [if_pos hj] at h
    by_cases hl : k < l.length
    · rw [if_pos hl] at h; exact Or.inl ⟨hj.symm, (Option.some.inj h).symm⟩
    · rw [if_neg hl] at h; cases h
  · rw [if_neg hj] at h; exact Or.inr ⟨fun q => hj q.symm, h⟩
theorem mz_cpy_at {F G : List Value} {sp dp n j : Nat} {v : Value} (h : (mz_cpy F G sp dp n)[j]? = some v) : j < G.length ∧ v = if dp ≤ j ∧ j < dp + n then F.getD (sp + (j - dp)) .null else G.getD j .null := by
  unfold mz_cpy at h
  rw [List.getElem?_map] at h
  obtain ⟨q, h1, h2⟩ := Option.map_eq_some_iff.mp h
  obtain ⟨h3, h4⟩ := List.getElem?_eq_some_iff.mp h1
  rw [List.getElem_range] at h4
  subst h4
  exact ⟨by simpa using h3, h2.symm⟩
section MZ5
variable {p : Program} {l : Launch} {e : Env} {R : Room} {s : State} {m : MethodId} {args : Array Value} {below : List Frame} {meth : Method} {c : Code} {H : Heap} {locs : List Loc} {cells slots : Nat} {Q : State → Prop}
variable {cc : ByteArray} {pcs : List Nat} {ls : Array Slot} {nL i w len : Nat} {y : MethodName} {ins : Instr} {st rst : List Value} {a b : Nat} {r : List Value × mzS}
variable {D : va_G} {A : Nat → Prop} {cA : Nat → ClassId} {xt : List Nat} {X : List (List Value)} {ws : va_W} {σ : mzS} {c0 n0 : Nat}
theorem mz_h23s (hx : p.tables.exec = Jvm.exec) (hb : c.code = cc) (hd : decode cc (mz_pc pcs i) = .ok (ins, len)) (hk : mz_kp (mz_astI a) pcs i len ins = true)
    (hC : mz_CT D A cA xt X s) (hP : mz_HP D A cA xt s.heap σ.1 ws H locs) (hst : mz_FR (mz_ads xt ws) st rst) (hcn : σ.2.1 = c0 + cells) (hsn : σ.2.2 = n0 + slots) (h : mz_h23 a st σ = some r) (kk : mz_KH p l e R s m args below meth c Q pcs i ls D A cA xt ws c0 n0 r) : W p l e R s m args below meth c H locs cells slots Q (F0 m (mz_pc pcs i) ls rst) := by
  obtain ⟨e1, rfl, e3⟩ := mz_kp_eq hk
  unfold mz_h23 at h
  split at h
  · rename_i vv ii rr rest
    match rst, hst with
    | v2 :: v1 :: v :: rst, ⟨g00, g0, g1, hst⟩ =>
    have g0 : v1 = .int ii := g0
    subst g0
    split at h
    · rename_i cell hcell
      obtain ⟨ad, ev, rfl, g2, g3, -⟩ := mz_gw hC.1 hP.2.2.2 hcell g1
      by_cases ht : mz_akind a cell.1 = true
      · rw [if_pos ht] at h
        have ht := mz_akind_eq ht
        split at h
        · rename_i z zz hz hnar
          cases h
          obtain ⟨hin, hat⟩ := mz_in_eq hz
          have fin : ∀ (e' : va_E), mz_cr cA (mz_ads xt ws) (cell.1, cell.2.set ii.toNatClampNeg zz) e' → ∀ (H1 : Heap) (locs1 : List Loc), va_P D vwCl (ws.set (rr - 4) (ad, e')) H1 → va_D A (ws.set (rr - 4) (ad, e')) → va_S A s.heap H1 locs1 → W p l e R s m args below meth c H1 locs1 cells slots Q (F0 m (mz_pc pcs i + 1) ls rst) := by
            intro e' hcr H1 locs1 p1 p2 p3
            rw [← e3]
            exact kk H1 locs1 _ rst cells slots ⟨p1, p2, p3, mz_HR_set hP.2.2.2 g2 hcr⟩ ⟨[], by rw [mz_ads_set g2]; simp⟩ (by rw [mz_ads_set g2]; exact hst) hcn hsn
          rcases ev with ⟨cl, n, f | f | f | f | f⟩ | ⟨ci, fs⟩
          · obtain ⟨g4, rfl, rfl, g6⟩ := g3
            have hvv : ∃ x, vv = .int x ∧ v2 = .int x := by
              cases vv <;> simp only [mz_nar] at hnar
              · exact ⟨_, rfl, g00⟩
              · rw [if_neg (by omega)] at hnar; cases hnar
              · cases hnar
              · cases hnar
              · cases hnar
              · rw [if_neg (by omega)] at hnar; cases hnar
              · cases hnar
            obtain ⟨x, rfl, rfl⟩ := hvv
            simp only [mz_nar] at hnar
            have cr : ∀ x' : Int32, zz = .int x' → mz_cr cA (mz_ads xt ws) (cell.1, cell.2.set ii.toNatClampNeg zz) (.inl (cA (cell.1 / 2), cell.2.length, .inl (upd f ii.toNatClampNeg x'))) := by
              rintro x' rfl
              refine ⟨g4, rfl, by simp, fun j v hv => ?_⟩
              rcases mz_set_at hv with ⟨rfl, rfl⟩ | ⟨hj, hv⟩
              · simp [upd]
              · rw [g6 j v hv]; simp [upd, hj]
            rcases ht with ⟨rfl, t1⟩ | ⟨rfl, t1⟩ | ⟨rfl, t1 | t1⟩ | ⟨rfl, t1⟩
            · cases e1
              rw [if_pos t1] at hnar
              have f2 := fin _ (cr x (Option.some.inj hnar).symm)
              rw [t1] at g2 f2
              exact va_iast hx hb hC.2.1 hP.1 hP.2.1 hP.2.2.1 (rr - 4) 0 g2 rfl hin hd f2
            · omega
            · cases e1
              rw [if_neg (by omega), if_pos t1] at hnar
              have f2 := fin _ (cr (vp_nar .byte x) (by rw [vp_nar_byte]; exact (Option.some.inj hnar).symm))
              rw [t1] at g2 f2
              exact va_bast hx hb hC.2.1 hP.1 hP.2.1 hP.2.2.1 (rr - 4) 2 g2 rfl hin hd f2
            · cases e1
              rw [if_neg (by omega), if_neg (by omega), if_pos t1] at hnar
              have f2 := fin _ (cr (vp_nar .boolean x) (Option.some.inj hnar).symm)
              rw [t1] at g2 f2
              exact va_zast hx hb hC.2.1 hP.1 hP.2.1 hP.2.2.1 (rr - 4) 3 g2 rfl hin hd f2
            · omega
          · obtain ⟨g4, rfl, rfl, g6⟩ := g3
            have hvv : ∃ x, vv = .long x ∧ v2 = .long x ∧ zz = .long x := by
              cases vv <;> simp only [mz_nar] at hnar
              · rw [if_neg (by omega), if_neg (by omega), if_neg (by omega)] at hnar; cases hnar
              · rw [if_pos g4] at hnar; exact ⟨_, rfl, g00, (Option.some.inj hnar).symm⟩
              · cases hnar
              · cases hnar
              · cases hnar
              · rw [if_neg (by omega)] at hnar; cases hnar
              · cases hnar
            obtain ⟨x, rfl, rfl, rfl⟩ := hvv
            have f2 := fin (.inl (cA 1, cell.2.length, .inr (.inl (vp_updL f ii.toNatClampNeg x)))) (by
              refine ⟨g4, rfl, by simp, fun j v hv => ?_⟩
              rcases mz_set_at hv with ⟨rfl, rfl⟩ | ⟨hj, hv⟩
              · simp [vp_updL]
              · rw [g6 j v hv]; simp [vp_updL, hj])
            rcases ht with ⟨rfl, t1⟩ | ⟨rfl, t1⟩ | ⟨rfl, t1 | t1⟩ | ⟨rfl, t1⟩
            · omega
            · cases e1
              exact va_last hx hb hC.2.1 hP.1 hP.2.1 hP.2.2.1 (rr - 4) 1 g2 rfl hin hd f2
            · omega
            · omega
            · omega
          · exact g3.elim
          · exact g3.elim
          · obtain ⟨g4, rfl, rfl, g6⟩ := g3
            have hvv : ∃ (k : Nat) (c2 : mzC), vv = .ref k ∧ zz = .ref k ∧ mz_get σ k = some c2 ∧ c2.1 = 6 := by
              cases vv <;> simp only [mz_nar] at hnar
              · rw [if_neg (by omega), if_neg (by omega), if_neg (by omega)] at hnar; cases hnar
              · rw [if_neg (by omega)] at hnar; cases hnar
              · cases hnar
              · cases hnar
              · cases hnar
              · rename_i k
                rw [if_pos g4] at hnar
                split at hnar
                · rename_i c2 hc2
                  by_cases h6 : c2.1 = 6
                  · rw [if_pos h6] at hnar; exact ⟨k, c2, rfl, (Option.some.inj hnar).symm, hc2, h6⟩
                  · rw [if_neg h6] at hnar; cases hnar
                · cases hnar
              · cases hnar
            obtain ⟨k, c2, rfl, rfl, hc2, h6⟩ := hvv
            obtain ⟨ak, ek, rfl, gk, gkr, -⟩ := mz_gw hC.1 hP.2.2.2 hc2 g00
            have hek : ∃ vs, ek = .inr (3, vs) := by
              rcases ek with ⟨cl, n, f' | f' | f' | f' | f'⟩ | ⟨ci, fs⟩
              · rcases gkr.1 with q | q | q <;> omega
              · have := gkr.1; omega
              · exact gkr.elim
              · exact gkr.elim
              · have := gkr.1; omega
              · have := gkr.1
                have : ci = 3 := by omega
                subst this
                exact ⟨fs, rfl⟩
            obtain ⟨vs, rfl⟩ := hek
            have f2 := fin (.inl (cA 4, cell.2.length, .inr (.inr (.inr (.inr (va_up f ii.toNatClampNeg (some ak))))))) (by
              refine ⟨g4, rfl, by simp, fun j v hv => ?_⟩
              rcases mz_set_at hv with ⟨rfl, rfl⟩ | ⟨hj, hv⟩
              · simpa [va_up, va_rf] using g00
              · simpa [va_up, hj] using g6 j v hv)
            rcases ht with ⟨rfl, t1⟩ | ⟨rfl, t1⟩ | ⟨rfl, t1 | t1⟩ | ⟨rfl, t1⟩
            · omega
            · omega
            · omega
            · omega
            · cases e1
              exact va_astq hx hb hC.2.1 hP.1 hP.2.1 hP.2.2.1 (rr - 4) 4 (k - 4) 3 (r := (RX3, TX3, 7)) g2 rfl gk rfl hin hd f2
          · have := g3.1; omega
        · cases h
      · rw [if_neg ht] at h; cases h
    · cases h
  · cases h
theorem mz_h24s (hx : p.tables.exec = Jvm.exec) (hb : c.code = cc) (hd : decode cc (mz_pc pcs i) = .ok (ins, len)) (hk : mz_kp (some .arraylength) pcs i len ins = true)
    (hC : mz_CT D A cA xt X s) (hP : mz_HP D A cA xt s.heap σ.1 ws H locs) (hst : mz_FR (mz_ads xt ws) st rst) (hcn : σ.2.1 = c0 + cells) (hsn : σ.2.2 = n0 + slots) (h : mz_h24 X st σ = some r) (kk : mz_KH p l e R s m args below meth c Q pcs i ls D A cA xt ws c0 n0 r) : W p l e R s m args below meth c H locs cells slots Q (F0 m (mz_pc pcs i) ls rst) := by
  obtain ⟨e1, rfl, e3⟩ := mz_kp_eq hk
  cases e1
  unfold mz_h24 at h
  split at h
  · rename_i rr rest
    match rst, hst with
    | v :: rst, ⟨g1, hst⟩ =>
    by_cases h4 : rr < 4
    · rw [if_pos h4] at h
      split at h
      · rename_i fs hfs
        cases h
        obtain ⟨t, t1, t2, t3⟩ := hC.2.2.1.1 rr fs hfs
        obtain ⟨ad, g2, rfl⟩ := g1
        have : t = ad := by
          unfold mz_ads at g2
          rw [List.getElem?_append_left (by rw [hC.1]; exact h4), t1] at g2
          exact Option.some.inj g2
        subst this
        have k2 := kk H locs ws (.int (Int32.ofNat fs.length) :: rst) cells slots hP ⟨[], by simp⟩ ⟨rfl, hst⟩ hcn hsn
        rw [e3] at k2
        exact va_tlen hx hb t2 hP.2.2.1 rfl hd k2
      · cases h
    · rw [if_neg h4] at h
      split at h
      · rename_i cell hcell
        obtain ⟨ad, ev, rfl, g2, g3, -⟩ := mz_gw hC.1 hP.2.2.2 hcell g1
        by_cases ht : cell.1 % 2 = 1 ∧ cell.1 < 10
        · rw [if_pos ht] at h
          cases h
          have k2 := kk H locs ws (.int (Int32.ofNat cell.2.length) :: rst) cells slots hP ⟨[], by simp⟩ ⟨rfl, hst⟩ hcn hsn
          rw [e3] at k2
          rcases ev with ⟨cl, n, f | f | f | f | f⟩ | ⟨ci, fs⟩
          · obtain ⟨g4, rfl, rfl, g6⟩ := g3
            rcases g4 with t1 | t1 | t1
            · rw [t1] at g2
              exact va_alen hx hb hC.2.1 hP.1 (rr - 4) 0 g2 rfl rfl hd k2
            · rw [t1] at g2
              exact va_alen hx hb hC.2.1 hP.1 (rr - 4) 2 g2 rfl rfl hd k2
            · rw [t1] at g2
              exact va_alen hx hb hC.2.1 hP.1 (rr - 4) 3 g2 rfl rfl hd k2
          · obtain ⟨g4, rfl, rfl, g6⟩ := g3
            exact va_alen hx hb hC.2.1 hP.1 (rr - 4) 1 g2 rfl rfl hd k2
          · exact g3.elim
          · exact g3.elim
          · obtain ⟨g4, rfl, rfl, g6⟩ := g3
            exact va_alen hx hb hC.2.1 hP.1 (rr - 4) 4 g2 rfl rfl hd k2
          · have := g3.1; omega
        · rw [if_neg ht] at h; cases h
      · cases h
  · cases h
end MZ5
end
section
/-! instructions on the heap: what is made, statics, copies; and all of them -/
section MZ6
variable {p : Program} {l : Launch} {e : Env} {R : Room} {s : State} {m : MethodId} {args : Array Value} {below : List Frame} {meth : Method} {c : Code} {H : Heap} {locs : List Loc} {cells slots : Nat} {Q : State → Prop}
variable {cc : ByteArray} {pcs : List Nat} {ls : Array Slot} {nL i w len : Nat} {y : MethodName} {ins : Instr} {st rst : List Value} {a b : Nat} {r : List Value × mzS}
variable {D : va_G} {A : Nat → Prop} {cA : Nat → ClassId} {xt : List Nat} {X : List (List Value)} {ws : va_W} {σ : mzS} {c0 n0 : Nat}
theorem mz_hnull : ∀ (ads : List Nat) (ci : Nat), mz_FR ads (mz_def ci) (mz_def ci) := by
  intro ads ci
  match ci with
  | 0 | 1 | 2 | 3 | 4 | 5 | 6 | 7 | 8 | 9 | 10 | 11 => simp [mz_def, mz_FR, mz_F2, mz_rel]
  | n + 12 => trivial
theorem mz_h25s (hx : p.tables.exec = Jvm.exec) (hb : c.code = cc) (hown : s.vm.findClass y.cls = some m.cls) (hts : ∀ w ∈ mz_WS, w.before args s = true) (hd : decode cc (mz_pc pcs i) = .ok (ins, len)) (hk : mz_k25 y.cls w a b pcs i len ins = true)
    (hC : mz_CT D A cA xt X s) (hP : mz_HP D A cA xt s.heap σ.1 ws H locs) (hst : mz_FR (mz_ads xt ws) st rst) (hcn : σ.2.1 = c0 + cells) (hsn : σ.2.2 = n0 + slots) (h : mz_h25 a b st σ = some r) (hRc : r.2.2.1 ≤ c0 + R.cells) (hRs : r.2.2.2 ≤ n0 + R.slots) (kk : mz_KH p l e R s m args below meth c Q pcs i ls D A cA xt ws c0 n0 r) : W p l e R s m args below meth c H locs cells slots Q (F0 m (mz_pc pcs i) ls rst) := by
  unfold mz_k25 at hk
  split at hk
  · rename_i ix
    simp only [Bool.and_eq_true, decide_eq_true_eq] at hk
    obtain ⟨⟨q1, rfl⟩, q3⟩ := hk
    cases hv : vwCl[a]? with
    | none => rw [hv] at q1; cases q1
    | some rr =>
      obtain ⟨C, T, N⟩ := rr
      rw [hv] at q1
      dsimp only at q1
      simp only [Bool.and_eq_true, decide_eq_true_eq] at q1
      obtain ⟨q4, rfl⟩ := q1
      unfold mz_h25 at h
      by_cases ha : a < 12
      · rw [if_pos ha] at h
        cases h
        dsimp only at hRc hRs
        obtain ⟨hi1, hi2⟩ := mz_inst a C T N hv
        refine va_new (fs := mz_def a) hx hb (Ts := mz_WS) hts (mz_cl a C T N hv) (mz_t0 a) (mz_tyok a C T N hv) hown (hts _ (mz_wok_mem q4)) (hts _ hi1) (hts _ hi2) hC.2.1 hP.1 hP.2.1 hP.2.2.1 hC.2.2.2.1 hv (mz_dfok a C T N hv).2 (by omega) (by omega) hd (fun q H1 p1 p2 p3 => ?_)
        rw [← mz_nx_eq q3]
        exact kk H1 locs _ (.ref q :: rst) (cells + 1) (slots + N) ⟨p1, p2, p3, mz_HR_app hP.2.2.2 ⟨rfl, mz_hnull _ a⟩⟩ ⟨[q], mz_ads_app⟩ ⟨mz_top hC.1 hP.2.2.2, by rw [mz_ads_app]; exact mz_FR.app hst _⟩ (by show σ.2.1 + 1 = _; omega) (by show σ.2.2 + N = _; omega)
      · rw [if_neg ha] at h; cases h
  · cases hk
theorem mz_rep {n : Nat} {v w : Value} {j : Nat} (h : (List.replicate n v)[j]? = some w) : w = v := by
  rw [List.getElem?_replicate] at h
  by_cases hj : j < n
  · rw [if_pos hj] at h; exact (Option.some.inj h).symm
  · rw [if_neg hj] at h; cases h
theorem mz_h26s (hx : p.tables.exec = Jvm.exec) (hb : c.code = cc) (hts : ∀ w ∈ mz_WS, w.before args s = true) (hd : decode cc (mz_pc pcs i) = .ok (ins, len)) (hk : mz_k26 a pcs i len ins = true)
    (hC : mz_CT D A cA xt X s) (hP : mz_HP D A cA xt s.heap σ.1 ws H locs) (hst : mz_FR (mz_ads xt ws) st rst) (hcn : σ.2.1 = c0 + cells) (hsn : σ.2.2 = n0 + slots) (h : mz_h26 a st σ = some r) (hRc : r.2.2.1 ≤ c0 + R.cells) (hRs : r.2.2.2 ≤ n0 + R.slots) (kk : mz_KH p l e R s m args below meth c Q pcs i ls D A cA xt ws c0 n0 r) : W p l e R s m args below meth c H locs cells slots Q (F0 m (mz_pc pcs i) ls rst) := by
  unfold mz_k26 at hk
  split at hk
  · rename_i t
    simp only [Bool.and_eq_true, decide_eq_true_eq] at hk
    obtain ⟨⟨q1, rfl⟩, q3⟩ := hk
    unfold mz_h26 at h
    split at h
    · rename_i n rest
      match rst, hst with
      | v :: rst, ⟨g1, hst⟩ =>
      have g1 : v = .int n := g1
      subst g1
      by_cases hn : n < 0 ∨ 60000 < n.toNatClampNeg ∨ 3 < a
      · rw [if_pos hn] at h; cases h
      · rw [if_neg hn] at h
        cases h
        dsimp only at hRc hRs
        have hn0 : ¬ n < 0 := fun q => hn (Or.inl q)
        have hn1 : n.toNatClampNeg ≤ 60000 := by omega
        have same : ∀ {k : Nat} {ty : FieldType} {cA' : ClassId}, (mz_tys cA)[k]? = some (cA k, ty) → (ty = .int ∨ ty = .long ∨ ty = .byte ∨ ty = .boolean) → va_K D vwCl (mz_tys cA ++ [(cA', ty)]) s → cA' = cA k := by
          intro k ty cA' hk1 hty hK
          have h1 := (hC.2.1.2 k _ hk1).2
          have h2 := (hK.2 5 (cA', ty) rfl).2
          dsimp only at h1 h2
          rcases hty with rfl | rfl | rfl | rfl <;> exact Option.some.inj (h2.symm.trans h1)
        have fin : ∀ (q : Nat) (H1 : Heap) (e' : va_E), mz_cr cA (mz_ads xt (ws ++ [(q, e')])) (2 * a + 1, List.replicate n.toNatClampNeg (mz_zero a)) e' → va_P D vwCl (ws ++ [(q, e')]) H1 → va_D A (ws ++ [(q, e')]) → va_S A s.heap H1 locs → W p l e R s m args below meth c H1 locs (cells + 1) (slots + n.toNatClampNeg) Q (F0 m (mz_pc pcs i + 2) ls (.ref q :: rst)) := by
          intro q H1 e' hcr p1 p2 p3
          rw [← mz_nx_eq q3]
          exact kk H1 locs _ (.ref q :: rst) (cells + 1) (slots + n.toNatClampNeg) ⟨p1, p2, p3, mz_HR_app hP.2.2.2 hcr⟩ ⟨[q], mz_ads_app⟩ ⟨mz_top hC.1 hP.2.2.2, by rw [mz_ads_app]; exact mz_FR.app hst _⟩ (by show σ.2.1 + 1 = _; omega) (by show σ.2.2 + n.toNatClampNeg = _; omega)
        rcases q1 with ⟨rfl, rfl⟩ | ⟨rfl, rfl⟩ | ⟨rfl, rfl⟩ | ⟨rfl, rfl⟩
        · refine va_newa (atype := .int) (a0 := (n.toNatClampNeg, .inl (fun _ => 0))) hx hb (hts _ mz_ac_int) rfl hC.2.1 hP.1 hP.2.1 hP.2.2.1 hC.2.2.2.1 (fun _ => rfl) hn0 rfl (by show _ * 4 ≤ _; omega) (by omega) (by omega) hd (fun q cA' H1 hK p1 p2 p3 => ?_)
          have e9 := same (k := 0) rfl (Or.inl rfl) hK
          subst e9
          exact fin q H1 (.inl (cA 0, n.toNatClampNeg, .inl (fun _ => 0))) ⟨Or.inl rfl, by simp, by simp, fun j v hv => mz_rep hv⟩ p1 p2 p3
        · refine va_newa (atype := .long) (a0 := (n.toNatClampNeg, .inr (.inl (fun _ => 0)))) hx hb (hts _ mz_ac_long) rfl hC.2.1 hP.1 hP.2.1 hP.2.2.1 hC.2.2.2.1 (fun _ => rfl) hn0 rfl (by show _ * 8 ≤ _; omega) (by omega) (by omega) hd (fun q cA' H1 hK p1 p2 p3 => ?_)
          have e9 := same (k := 1) rfl (Or.inr (Or.inl rfl)) hK
          subst e9
          exact fin q H1 (.inl (cA 1, n.toNatClampNeg, .inr (.inl (fun _ => 0)))) ⟨rfl, rfl, by simp, fun j v hv => mz_rep hv⟩ p1 p2 p3
        · refine va_newa (atype := .byte) (a0 := (n.toNatClampNeg, .inl (fun _ => 0))) hx hb (hts _ mz_ac_byte) rfl hC.2.1 hP.1 hP.2.1 hP.2.2.1 hC.2.2.2.1 (fun _ => rfl) hn0 rfl (by show _ * 1 ≤ _; omega) (by omega) (by omega) hd (fun q cA' H1 hK p1 p2 p3 => ?_)
          have e9 := same (k := 2) rfl (Or.inr (Or.inr (Or.inl rfl))) hK
          subst e9
          exact fin q H1 (.inl (cA 2, n.toNatClampNeg, .inl (fun _ => 0))) ⟨Or.inr (Or.inl rfl), by simp, by simp, fun j v hv => mz_rep hv⟩ p1 p2 p3
        · refine va_newa (atype := .boolean) (a0 := (n.toNatClampNeg, .inl (fun _ => 0))) hx hb (hts _ mz_ac_boolean) rfl hC.2.1 hP.1 hP.2.1 hP.2.2.1 hC.2.2.2.1 (fun _ => rfl) hn0 rfl (by show _ * 1 ≤ _; omega) (by omega) (by omega) hd (fun q cA' H1 hK p1 p2 p3 => ?_)
          have e9 := same (k := 3) rfl (Or.inr (Or.inr (Or.inr rfl))) hK
          subst e9
          exact fin q H1 (.inl (cA 3, n.toNatClampNeg, .inl (fun _ => 0))) ⟨Or.inr (Or.inr rfl), by simp, by simp, fun j v hv => mz_rep hv⟩ p1 p2 p3
    · cases h
  · cases hk
theorem mz_h27s (hx : p.tables.exec = Jvm.exec) (hb : c.code = cc) (hown : s.vm.findClass y.cls = some m.cls) (hts : ∀ w ∈ mz_WS, w.before args s = true) (hd : decode cc (mz_pc pcs i) = .ok (ins, len)) (hk : mz_k27 y.cls w pcs i len ins = true)
    (hC : mz_CT D A cA xt X s) (hP : mz_HP D A cA xt s.heap σ.1 ws H locs) (hst : mz_FR (mz_ads xt ws) st rst) (hcn : σ.2.1 = c0 + cells) (hsn : σ.2.2 = n0 + slots) (h : mz_h27 st σ = some r) (hRc : r.2.2.1 ≤ c0 + R.cells) (hRs : r.2.2.2 ≤ n0 + R.slots) (kk : mz_KH p l e R s m args below meth c Q pcs i ls D A cA xt ws c0 n0 r) : W p l e R s m args below meth c H locs cells slots Q (F0 m (mz_pc pcs i) ls rst) := by
  unfold mz_k27 at hk
  split at hk
  · simp only [Bool.and_eq_true, decide_eq_true_eq] at hk
    obtain ⟨⟨q1, rfl⟩, q3⟩ := hk
    unfold mz_h27 at h
    split at h
    · rename_i n rest
      match rst, hst with
      | v :: rst, ⟨g1, hst⟩ =>
      have g1 : v = .int n := g1
      subst g1
      by_cases hn : n < 0 ∨ 60000 < n.toNatClampNeg
      · rw [if_pos hn] at h; cases h
      · rw [if_neg hn] at h
        cases h
        dsimp only at hRc hRs
        have hn0 : ¬ n < 0 := fun q => hn (Or.inl q)
        have hn1 : n.toNatClampNeg ≤ 60000 := by omega
        refine va_newq hx hb hown (hts _ (mz_wok_mem q1)) hC.2.2.2.2 hC.2.1 hP.1 hP.2.1 hP.2.2.1 hC.2.2.2.1 hn0 rfl (by omega) (by omega) (by omega) hd (fun q cA' H1 hK p1 p2 p3 => ?_)
        have e9 : cA' = cA 4 := by
          obtain ⟨_, _, -, -, -, h1⟩ := (hC.2.1.2 4 _ rfl).2
          obtain ⟨_, _, -, -, -, h2⟩ := (hK.2 5 (cA', .object "LoopsToUnits$Held") rfl).2
          exact Option.some.inj (h2.symm.trans h1)
        subst e9
        rw [← mz_nx_eq q3]
        exact kk H1 locs _ (.ref q :: rst) (cells + 1) (slots + n.toNatClampNeg) ⟨p1, p2, p3, mz_HR_app hP.2.2.2 ⟨rfl, rfl, by simp, fun j v hv => by rw [mz_rep hv]; rfl⟩⟩ ⟨[q], mz_ads_app⟩ ⟨mz_top hC.1 hP.2.2.2, by rw [mz_ads_app]; exact mz_FR.app hst _⟩ (by show σ.2.1 + 1 = _; omega) (by show σ.2.2 + n.toNatClampNeg = _; omega)
    · cases h
  · cases hk
theorem mz_h28s (hx : p.tables.exec = Jvm.exec) (hb : c.code = cc) (hown : s.vm.findClass y.cls = some m.cls) (hts : ∀ w ∈ mz_WS, w.before args s = true) (hd : decode cc (mz_pc pcs i) = .ok (ins, len)) (hk : mz_k28 y.cls w a pcs i len ins = true)
    (hC : mz_CT D A cA xt X s) (hP : mz_HP D A cA xt s.heap σ.1 ws H locs) (hst : mz_FR (mz_ads xt ws) st rst) (hcn : σ.2.1 = c0 + cells) (hsn : σ.2.2 = n0 + slots) (h : (if 1 ≤ a ∧ a < 4 then some (Value.ref a :: st, σ) else none) = some r) (kk : mz_KH p l e R s m args below meth c Q pcs i ls D A cA xt ws c0 n0 r) : W p l e R s m args below meth c H locs cells slots Q (F0 m (mz_pc pcs i) ls rst) := by
  unfold mz_k28 at hk
  split at hk
  · simp only [Bool.and_eq_true, decide_eq_true_eq] at hk
    obtain ⟨⟨q1, rfl⟩, q3⟩ := hk
    by_cases ha : 1 ≤ a ∧ a < 4
    · rw [if_pos ha] at h
      cases h
      obtain ⟨t, t1, t2⟩ := hC.2.2.1.2 a ha.1 ha.2
      have k2 := kk H locs ws (.ref t :: rst) cells slots hP ⟨[], by simp⟩ ⟨⟨t, by unfold mz_ads; rw [List.getElem?_append_left (by rw [hC.1]; exact ha.2)]; exact t1, rfl⟩, hst⟩ hcn hsn
      rw [mz_nx_eq q3] at k2
      exact va_gets hx hb t2 hP.2.2.1 hown (hts _ (mz_wok_mem q1)) (fun _ h => h) hd k2
    · rw [if_neg ha] at h; cases h
  · cases hk
theorem mz_h29s (hx : p.tables.exec = Jvm.exec) (hb : c.code = cc) (hown : s.vm.findClass y.cls = some m.cls) (hts : ∀ w ∈ mz_WS, w.before args s = true) (hsz : ls.size = c.maxLocals) (hRf : 1 ≤ R.frames) (hRl : 200 ≤ R.locals) (hd : decode cc (mz_pc pcs i) = .ok (ins, len)) (hk : mz_k29 y.cls w pcs i len ins = true)
    (hP : mz_HP D A cA xt s.heap σ.1 ws H locs) (hst : mz_FR (mz_ads xt ws) st rst) (hcn : σ.2.1 = c0 + cells) (hsn : σ.2.2 = n0 + slots) (h : mz_h29 st σ = some r) (kk : mz_KH p l e R s m args below meth c Q pcs i ls D A cA xt ws c0 n0 r) : W p l e R s m args below meth c H locs cells slots Q (F0 m (mz_pc pcs i) ls rst) := by
  unfold mz_k29 at hk
  split at hk
  · simp only [Bool.and_eq_true, decide_eq_true_eq] at hk
    obtain ⟨⟨q1, rfl⟩, q3⟩ := hk
    unfold mz_h29 at h
    split at h
    · rename_i rr rest
      match rst, hst with
      | v :: rst, ⟨g1, hst⟩ =>
      obtain ⟨ad, -, rfl⟩ := g1
      by_cases hs8 : (rest.map fun v => v.category).sum ≤ 8
      · rw [if_pos hs8] at h
        cases h
        have k2 := kk H locs ws rst cells slots hP ⟨[], by simp⟩ hst hcn hsn
        rw [mz_nx_eq q3] at k2
        have h8 : (rst.map fun v => v.category).sum ≤ 8 := by rw [mz_FR.sum hst]; exact hs8
        have h9 := lv_room (m := m) (pc := mz_pc pcs i) (ls := ls) (rest := .ref ad :: rst) h8
        exact W.objInit hx hb hown (hts _ (mz_wok_mem q1)) (hts _ mz_oi.1) (hts _ mz_oi.2) (g := F0 m (mz_pc pcs i) ls (.ref ad :: rst)) rfl hsz rfl hd hRf (by omega) k2
      · rw [if_neg hs8] at h; cases h
    · cases h
  · cases hk
theorem mz_nfw : nativeFrameWords "java/lang/System" "arraycopy" 5 + 11 ≤ 150 := by decide +kernel
theorem mz_h30s (hx : p.tables.exec = Jvm.exec) (hb : c.code = cc) (hown : s.vm.findClass y.cls = some m.cls) (hts : ∀ w ∈ mz_WS, w.before args s = true) (hsz : ls.size = c.maxLocals) (hRf : 1 ≤ R.frames) (hRl : 200 ≤ R.locals) (hd : decode cc (mz_pc pcs i) = .ok (ins, len)) (hk : mz_k30 y.cls w pcs i len ins = true)
    (hC : mz_CT D A cA xt X s) (hP : mz_HP D A cA xt s.heap σ.1 ws H locs) (hst : mz_FR (mz_ads xt ws) st rst) (hcn : σ.2.1 = c0 + cells) (hsn : σ.2.2 = n0 + slots) (h : mz_h30 st σ = some r) (kk : mz_KH p l e R s m args below meth c Q pcs i ls D A cA xt ws c0 n0 r) : W p l e R s m args below meth c H locs cells slots Q (F0 m (mz_pc pcs i) ls rst) := by
  unfold mz_k30 at hk
  split at hk
  · simp only [Bool.and_eq_true, decide_eq_true_eq] at hk
    obtain ⟨⟨q1, rfl⟩, q3⟩ := hk
    unfold mz_h30 at h
    split at h
    · rename_i n dp rd sp rs rest
      match rst, hst with
      | v1 :: v2 :: v3 :: v4 :: v5 :: rst, ⟨g1, g2, g3, g4, g5, hst⟩ =>
      have g1 : v1 = .int n := g1
      have g2 : v2 = .int dp := g2
      have g4 : v4 = .int sp := g4
      subst g1; subst g2; subst g4
      split at h
      · rename_i cf cg hcf hcg
        obtain ⟨af, ef, rfl, gf, gfr, -⟩ := mz_gw hC.1 hP.2.2.2 hcf g5
        obtain ⟨ag, eg, rfl, gg, ggr, -⟩ := mz_gw hC.1 hP.2.2.2 hcg g3
        by_cases hq : cf.1 = 1 ∧ cg.1 = 1 ∧ ¬ n < 0 ∧ ¬ dp < 0 ∧ ¬ sp < 0 ∧ sp.toNatClampNeg + n.toNatClampNeg ≤ cf.2.length ∧ dp.toNatClampNeg + n.toNatClampNeg ≤ cg.2.length ∧ (rest.map fun v => v.category).sum ≤ 8
        · rw [if_pos hq] at h
          cases h
          obtain ⟨t1, t2, t3, t4, t5, t6, t7, t8⟩ := hq
          have ar : ∀ {cl : mzC} {ev : va_E}, cl.1 = 1 → mz_cr cA (mz_ads xt ws) cl ev → ∃ f, ev = .inl (cA 0, cl.2.length, .inl f) ∧ ∀ (j : Nat) (v : Value), cl.2[j]? = some v → v = .int (f j) := by
            intro cl ev h1 hr
            rcases ev with ⟨cl', n', f | f | f | f | f⟩ | ⟨ci, fs⟩
            · obtain ⟨-, rfl, rfl, g6⟩ := hr
              exact ⟨f, by rw [h1], g6⟩
            · have := hr.1; omega
            · exact hr.elim
            · exact hr.elim
            · have := hr.1; omega
            · have := hr.1; omega
          obtain ⟨f, rfl, hf⟩ := ar t1 gfr
          obtain ⟨g, rfl, hg⟩ := ar t2 ggr
          have h8 : (rst.map fun v => v.category).sum ≤ 8 := by rw [mz_FR.sum hst]; exact t8
          have h150 := mz_nfw
          refine va_copyi hx hb hsz.symm hown (hts _ (mz_wok_mem q1)) (hts _ mz_cpw.1) (hts _ mz_cpw.2.1) (hts _ mz_cpw.2.2) hC.2.1 hP.1 hP.2.1 hP.2.2.1 (rs - 4) (rd - 4) 0 0 (ty := .int) gf gg rfl rfl rfl t5 t4 t3 t6 t7 (fun _ _ => rfl) hRf (by omega) hd (fun H1 locs1 p1 p2 p3 => ?_)
          rw [← mz_nx_eq q3]
          refine kk H1 locs1 _ rst cells slots ⟨p1, p2, p3, mz_HR_set hP.2.2.2 gg ?_⟩ ⟨[], by rw [mz_ads_set gg]; simp⟩ (by rw [mz_ads_set gg]; exact hst) hcn hsn
          refine ⟨Or.inl rfl, by simp, by simp [mz_cpy], fun j v hv => ?_⟩
          obtain ⟨hj, rfl⟩ := mz_cpy_at hv
          unfold va_cpy
          by_cases hr : dp.toNatClampNeg ≤ j ∧ j < dp.toNatClampNeg + n.toNatClampNeg
          · rw [if_pos hr, if_pos hr]
            have hlt : sp.toNatClampNeg + (j - dp.toNatClampNeg) < cf.2.length := by omega
            rw [List.getD_eq_getElem?_getD, List.getElem?_eq_getElem hlt]
            exact hf _ _ (List.getElem?_eq_getElem hlt)
          · rw [if_neg hr, if_neg hr]
            rw [List.getD_eq_getElem?_getD, List.getElem?_eq_getElem hj]
            exact hg _ _ (List.getElem?_eq_getElem hj)
        · rw [if_neg hq] at h; cases h
      · cases h
    · cases h
  · cases hk
theorem mz_sim2 (hx : p.tables.exec = Jvm.exec) (hb : c.code = cc) (hown : s.vm.findClass y.cls = some m.cls) (hts : ∀ w ∈ mz_WS, w.before args s = true) (hnm : y.name = "<init>" → meth.name = "<init>") (hsz : ls.size = c.maxLocals) (hRf : 1 ≤ R.frames) (hRl : 200 ≤ R.locals) (hd : decode cc (mz_pc pcs i) = .ok (ins, len)) {ri : mzI} (hk : mz_okI y pcs w i len ri ins = true)
    (hC : mz_CT D A cA xt X s) (hP : mz_HP D A cA xt s.heap σ.1 ws H locs) (hst : mz_FR (mz_ads xt ws) st rst) (hcn : σ.2.1 = c0 + cells) (hsn : σ.2.2 = n0 + slots) (h : mz_heap X ri st σ = some r) (hRc : r.2.2.1 ≤ c0 + R.cells) (hRs : r.2.2.2 ≤ n0 + R.slots) (kk : mz_KH p l e R s m args below meth c Q pcs i ls D A cA xt ws c0 n0 r) : W p l e R s m args below meth c H locs cells slots Q (F0 m (mz_pc pcs i) ls rst) := by
  obtain ⟨op, aa, bb, k, sw⟩ := ri
  unfold mz_heap at h
  unfold mz_okI at hk
  dsimp only at h hk
  split at h
  · exact mz_h20s hx hb hown hts hd hk hC hP hst hcn hsn h kk
  · exact mz_h21s hx hb hown hts hnm hd hk hC hP hst hcn hsn h kk
  · exact mz_h22s hx hb hd hk hC hP hst hcn hsn h kk
  · exact mz_h23s hx hb hd hk hC hP hst hcn hsn h kk
  · exact mz_h24s hx hb hd hk hC hP hst hcn hsn h kk
  · exact mz_h25s hx hb hown hts hd hk hC hP hst hcn hsn h hRc hRs kk
  · exact mz_h26s hx hb hts hd hk hC hP hst hcn hsn h hRc hRs kk
  · exact mz_h27s hx hb hown hts hd hk hC hP hst hcn hsn h hRc hRs kk
  · exact mz_h28s hx hb hown hts hd hk hC hP hst hcn hsn h kk
  · exact mz_h29s hx hb hown hts hsz hRf hRl hd hk hP hst hcn hsn h kk
  · exact mz_h30s hx hb hown hts hsz hRf hRl hd hk hC hP hst hcn hsn h kk
  · cases h
end MZ6
end
section
/-! the methods as the JVM has them: written by program (wip/p1/gen13.py) -/
def mzt_0 : mzT := (yL_law, cL_law, (some .boolean), [0, 3, 4, 7, 8, 11, 12, 15, 16, 17, 19, 20, 21, 23, 25, 26, 27, 28, 29, 32, 33, 35, 36, 38, 39, 200, 201, 202, 204, 205, 206, 207, 210, 211, 212, 213, 215, 216, 217, 218, 221, 222, 225, 226, 227, 229, 230, 231, 232, 235, 236, 237, 238, 240, 241, 242, 243, 246, 247, 250, 251, 254, 255, 256, 259, 260, 263, 264, 265, 267, 268, 269, 270, 273, 274, 275, 276, 278, 279, 280, 281, 284, 285, 288, 289, 290, 292, 293, 294, 295, 296, 298, 299, 300, 301, 302, 305, 307, 308, 309, 311, 312, 313, 314, 315, 317, 318, 319, 320, 323, 325, 328, 329, 330, 332, 333, 334, 335, 336, 338, 339, 340, 341, 342, 345, 347, 348, 349, 351, 352, 353, 354, 355, 357, 358, 359, 360, 363, 365, 368, 369, 370, 372, 373, 374, 375, 376, 378, 379, 380, 381, 382, 384, 385, 386, 387, 388, 390, 391, 392, 393, 396, 397, 398, 399, 401, 402, 403, 404, 405, 407, 408, 409, 410, 411, 413, 414, 415, 416, 417, 419, 420, 421, 422, 425, 426, 429, 430, 431, 433, 434, 435, 436, 437, 439, 440, 441, 442, 445, 446, 447, 448, 450, 451, 452, 453, 454, 456, 457, 458, 459, 462, 463, 466, 467, 468, 470, 471, 472, 473, 474, 476, 477, 478, 479, 480, 482, 483, 484, 485, 488, 489, 490, 491, 493, 494, 495, 496, 497, 499, 500, 501, 502, 503, 505, 506, 507, 508, 511, 512, 515, 516, 517, 519, 520, 521, 522, 525, 526, 527, 528, 530, 531, 532, 533, 536, 537, 540, 541, 544, 545, 546, 549, 550, 553, 554, 557, 558, 559, 562, 563, 566, 567, 570, 571, 572, 575, 576, 579, 580, 581, 583, 584, 585, 586, 589, 590, 591, 592, 594, 595, 596, 597, 600, 601, 604, 605, 606, 608, 609, 610, 611, 614, 615, 616, 617, 619, 620, 621, 622, 625, 626, 629, 630, 633, 634, 635, 638, 639, 642, 643, 644, 646, 647, 648, 649, 652, 653, 654, 655, 657, 658, 659, 660, 663, 664, 667, 668, 671, 672, 673, 676, 677, 680, 681, 682, 684, 685, 686, 687, 688, 691, 693, 694, 695, 697, 698, 699, 700, 703, 705, 708, 709, 712, 713, 714, 717, 718, 721, 722, 723, 725, 726, 727, 728, 731, 732, 733, 734, 736, 737, 738, 739, 742, 743, 746, 747, 750, 751, 752, 755, 756, 759, 760, 761, 763, 764, 765, 766, 769, 770, 771, 772, 774, 775, 776, 777, 780, 781, 784, 785, 786, 788, 789, 790, 791, 792, 794, 795, 796, 797, 800, 801, 802, 803, 805, 806, 807, 808, 809, 811, 812, 813, 814, 817, 818, 821, 822, 825, 826, 827, 830, 831, 834, 835, 836, 838, 839, 840, 841, 844, 845, 846, 847, 849, 850, 851, 852, 855, 856, 859, 860, 861, 863, 864, 865, 866, 869, 870, 871, 872, 874, 875, 876, 877, 880, 881, 884, 885, 886, 888, 889, 890, 891, 894, 895, 896, 897, 899, 900, 901, 902, 905, 906, 909, 910, 911, 913, 914, 915, 916, 919, 920, 921, 922, 924, 925, 926, 927, 930, 931, 934, 935, 936, 938, 939, 940, 941, 944, 945, 946, 947, 949, 950, 951, 952, 955, 956, 959, 960, 961, 963, 964, 965, 966, 969, 970, 971, 972, 974, 975, 976, 977, 980, 981, 984, 985, 986, 988, 989, 990, 991, 992, 994, 995, 996, 997, 1000, 1001, 1002, 1003, 1005, 1006, 1007, 1008, 1009, 1011, 1012, 1013, 1014, 1017, 1018, 1021, 1022, 1023, 1025, 1026, 1027, 1028, 1029, 1031, 1032, 1033, 1034, 1037, 1038, 1039, 1040, 1042, 1043, 1044, 1045, 1046, 1048, 1049, 1050, 1051, 1054, 1055, 1058, 1059, 1060, 1062, 1063, 1064, 1065, 1068, 1069, 1070, 1072, 1073, 1074, 1075, 1078, 1081, 1082, 1083, 1084, 1085, 1087, 1088, 1089, 1090, 1093, 1094, 1095, 1096, 1098, 1099, 1100, 1101, 1104, 1105, 1108, 1109, 1110, 1112, 1113, 1114, 1115, 1118, 1119, 1120, 1121, 1123, 1124, 1125, 1126, 1129, 1130, 1133, 1134, 1135, 1137, 1138, 1139, 1140, 1141, 1144, 1146, 1147, 1148, 1150, 1151, 1152, 1153, 1156, 1158, 1161, 1164, 1167, 1168], [1021, 0, 1023, 0, 5183, 0, 5185, 0, 0, 2070, 0, 0, 0, 0, 0, 0, 0, 0, 0, 0, 0, 0, 0, 0, 0, 0, 0, 0, 0, 0, 0, 2143, 0, 0, 0, 0, 0, 0, 0, 6048, 0, 0, 0, 0, 0, 0, 0, 0, 2151, 0, 0, 0, 0, 0, 0, 0, 6052, 0, 0, 0, 2155, 0, 0, 6059, 0, 0, 0, 0, 0, 0, 0, 0, 3015, 0, 0, 0, 0, 0, 0, 0, 6112, 0, 0, 0, 0, 0, 0, 0, 0, 0, 0, 0, 0, 0, 0, 5085, 0, 0, 0, 0, 0, 0, 0, 0, 0, 0, 0, 0, 6123, 0, 0, 0, 0, 0, 0, 0, 0, 0, 0, 0, 0, 0, 0, 5159, 0, 0, 0, 0, 0, 0, 0, 0, 0, 0, 0, 0, 6131, 0, 0, 0, 0, 0, 0, 0, 0, 0, 0, 0, 0, 0, 0, 0, 0, 0, 0, 0, 0, 0, 0, 0, 3038, 0, 0, 0, 0, 0, 0, 0, 0, 0, 0, 0, 0, 0, 0, 0, 0, 0, 0, 0, 0, 0, 0, 6139, 0, 0, 0, 0, 0, 0, 0, 0, 0, 0, 0, 0, 0, 3046, 0, 0, 0, 0, 0, 0, 0, 0, 0, 0, 0, 0, 6143, 0, 0, 0, 0, 0, 0, 0, 0, 0, 0, 0, 0, 0, 0, 0, 0, 0, 0, 3064, 0, 0, 0, 0, 0, 0, 0, 0, 0, 0, 0, 0, 0, 0, 0, 0, 0, 6155, 0, 0, 0, 0, 0, 0, 0, 0, 3075, 0, 0, 0, 0, 0, 0, 0, 6163, 0, 0, 0, 3124, 0, 0, 6209, 0, 0, 0, 3151, 0, 0, 6225, 0, 0, 0, 3159, 0, 0, 6229, 0, 0, 0, 0, 0, 0, 0, 0, 4021, 0, 0, 0, 0, 0, 0, 0, 7036, 0, 0, 0, 0, 0, 0, 0, 0, 4034, 0, 0, 0, 0, 0, 0, 0, 7048, 0, 0, 0, 4042, 0, 0, 7066, 0, 0, 0, 0, 0, 0, 0, 0, 4056, 0, 0, 0, 0, 0, 0, 0, 7075, 0, 0, 0, 4064, 0, 0, 7087, 0, 0, 0, 0, 0, 0, 0, 0, 0, 5167, 0, 0, 0, 0, 0, 0, 0, 7127, 0, 0, 0, 4118, 0, 0, 7131, 0, 0, 0, 0, 0, 0, 0, 0, 4122, 0, 0, 0, 0, 0, 0, 0, 7135, 0, 0, 0, 4127, 0, 0, 7139, 0, 0, 0, 0, 0, 0, 0, 0, 4141, 0, 0, 0, 0, 0, 0, 0, 7143, 0, 0, 0, 0, 0, 0, 0, 0, 0, 0, 0, 0, 0, 4150, 0, 0, 0, 0, 0, 0, 0, 0, 0, 0, 0, 0, 7147, 0, 0, 0, 4158, 0, 0, 7155, 0, 0, 0, 0, 0, 0, 0, 0, 4179, 0, 0, 0, 0, 0, 0, 0, 7163, 0, 0, 0, 0, 0, 0, 0, 0, 4211, 0, 0, 0, 0, 0, 0, 0, 7180, 0, 0, 0, 0, 0, 0, 0, 0, 4215, 0, 0, 0, 0, 0, 0, 0, 7184, 0, 0, 0, 0, 0, 0, 0, 0, 4228, 0, 0, 0, 0, 0, 0, 0, 7200, 0, 0, 0, 0, 0, 0, 0, 0, 5013, 0, 0, 0, 0, 0, 0, 0, 7212, 0, 0, 0, 0, 0, 0, 0, 0, 5017, 0, 0, 0, 0, 0, 0, 0, 7216, 0, 0, 0, 0, 0, 0, 0, 0, 0, 0, 0, 0, 0, 5033, 0, 0, 0, 0, 0, 0, 0, 0, 0, 0, 0, 0, 7228, 0, 0, 0, 0, 0, 0, 0, 0, 0, 0, 0, 0, 0, 5037, 0, 0, 0, 0, 0, 0, 0, 0, 0, 0, 0, 0, 7232, 0, 0, 0, 0, 0, 0, 0, 0, 5064, 0, 0, 0, 0, 0, 0, 8005, 0, 0, 0, 0, 0, 0, 0, 0, 0, 5072, 0, 0, 0, 0, 0, 0, 0, 8009, 0, 0, 0, 0, 0, 0, 0, 0, 5080, 0, 0, 0, 0, 0, 0, 0, 8013, 0, 0, 0, 0, 0, 0, 0, 0, 0, 5175, 0, 0, 0, 0, 0, 0, 0, 8021, 0, 0, 0, 0, 0, 0], [0, 0, 0, 0, 1], [])
def mzt_1 : mzT := (yL_cell, cL_cell, (some .int), [0, 1, 2, 3, 4, 5, 8, 9, 10, 13, 15, 16, 17, 18], [0, 0, 0, 0, 0, 5089, 0, 0, 0, 0, 0, 0, 0, 0], [5087, 1000, 5086, 0, 4], [(0, 10, 13, 13)])
def mzt_2 : mzT := (yL_act, cL_act, (some .int), [0, 1, 2, 3, 4, 5, 8, 9, 10, 13, 15, 16, 17, 18], [0, 0, 0, 0, 0, 5162, 0, 0, 0, 0, 0, 0, 0, 0], [5161, 1000, 5160, 0, 4], [(0, 10, 13, 13)])
def mzt_3 : mzT := (yL_begins, cL_begins, (some .int), [0, 1, 2, 3, 4, 7, 8, 9, 12, 13, 14, 15, 16], [0, 0, 0, 0, 5170, 0, 0, 0, 0, 0, 0, 0, 0], [5169, 1000, 5168, 0, 3], [(0, 9, 12, 13)])
def mzt_4 : mzT := (yL_row, cL_row, (some .int), [0, 1, 2, 3, 4, 7, 8, 11, 12, 13, 14, 15], [0, 0, 0, 0, 5178, 0, 0, 0, 0, 0, 0, 0], [5177, 1000, 5176, 0, 3], [(0, 8, 11, 13)])
def mzt_5 : mzT := (yX10_init, cX10_init, none, [0, 1, 4, 5, 8, 9, 12, 15, 16, 19, 20, 23, 26, 27, 30, 31, 32, 35, 38, 41, 42, 45, 46, 47, 50, 53, 56, 57, 60, 61, 62, 65, 66, 69, 72, 75, 76, 79, 80, 81, 84, 85, 88, 91, 94, 95, 98, 99, 100, 103, 104, 107, 110, 113, 114, 117, 118, 121, 124, 125, 128, 129, 130, 133, 136, 139], [0, 1026, 0, 1029, 0, 1031, 2115, 0, 1089, 0, 1091, 2116, 0, 1108, 0, 0, 2116, 1110, 2117, 0, 1127, 0, 0, 2115, 1129, 2118, 0, 1202, 0, 0, 2115, 0, 2118, 1204, 2119, 0, 1233, 0, 0, 2115, 0, 2119, 1235, 2120, 0, 2022, 0, 0, 2115, 0, 2119, 2024, 2121, 0, 2071, 0, 2073, 2122, 0, 2086, 0, 0, 2115, 2088, 2123, 0], [1025, 1001, 1024, 0, 0], [])
def mzt_6 : mzT := (yX10_sign, cX10_sign, (some .int), [0, 1, 4, 7, 8, 9, 11, 14, 15, 16, 18, 19, 20, 23, 24, 27, 28, 29, 30, 33, 34, 37, 40, 43, 44, 47, 50], [0, 2116, 1097, 0, 0, 0, 0, 0, 0, 0, 0, 0, 0, 0, 2116, 0, 0, 0, 0, 0, 2147, 0, 0, 0, 2116, 1097, 0], [2146, 1001, 2144, 2145, 1], [])
def mzt_7 : mzT := (yX10_end, cX10_end, (some .boolean), [0, 1, 4, 5, 6, 9, 12, 15, 16, 17, 18, 21, 22, 25, 26], [0, 0, 0, 0, 2116, 1097, 0, 0, 0, 0, 2116, 0, 1097, 0, 0], [2154, 1001, 2152, 2153, 1], [])
def mzt_8 : mzT := (yX10_loop, cX10_loop, (some .int), [0, 1, 4, 7, 8, 9, 12, 13, 16, 17, 20, 21, 22, 23, 26, 29, 30, 33, 34, 37, 40, 43, 44, 47, 50, 51, 54, 55], [0, 2117, 2159, 0, 0, 2116, 0, 1097, 0, 0, 0, 0, 0, 2123, 2220, 0, 2115, 0, 2117, 1118, 2235, 0, 2123, 2236, 0, 3003, 0, 0], [2158, 1001, 2156, 2157, 0], [])
def mzt_9 : mzT := (yX10_memory, cX10_memory, (some .int), [0, 1, 4, 7, 8, 9, 12, 13, 16, 17, 20, 21, 22, 23, 26, 29, 30, 31, 32, 35, 38, 39, 42, 45, 48, 49, 50, 53, 56, 57, 59, 60, 62, 65, 66, 69, 72, 73], [0, 2117, 3019, 0, 0, 2116, 0, 1097, 0, 0, 0, 0, 0, 3034, 0, 0, 0, 0, 2123, 2220, 0, 2117, 1118, 1066, 0, 0, 2115, 1066, 0, 0, 0, 0, 3037, 0, 2123, 2236, 0, 0], [3018, 1001, 3016, 3017, 1], [])
def mzt_10 : mzT := (yX10_cell, cX10_cell, (some .int), [0, 1, 4, 7, 8, 11, 14, 17, 18, 20, 23, 24, 25, 28, 31, 32, 34, 35, 36, 37, 38], [0, 3034, 0, 0, 3072, 0, 5093, 0, 0, 0, 0, 0, 2115, 1066, 0, 0, 0, 0, 0, 0, 0], [5092, 1001, 5090, 5091, 2], [])
def mzt_11 : mzT := (yX10_act, cX10_act, (some .int), [0, 1, 2, 5, 8, 9, 12, 13, 14, 17, 20, 21, 23, 26, 27, 28, 56, 57, 60, 63, 64, 65, 66, 67, 70, 73, 74, 75, 76, 77, 80, 83, 84, 85, 86, 87, 90, 93, 94, 95], [0, 0, 4060, 0, 0, 0, 0, 0, 0, 5093, 0, 0, 0, 0, 0, 0, 0, 2115, 1046, 0, 0, 0, 0, 2115, 1049, 0, 0, 0, 0, 2115, 1056, 0, 0, 0, 0, 2115, 1062, 0, 0, 0], [5165, 1001, 5163, 5164, 2], [])
def mzt_12 : mzT := (yX10_sheet, cX10_sheet, (some .int), [0, 1, 4, 5, 6, 9, 10, 12, 15, 16, 17, 18, 19, 22, 23, 24, 25, 26, 28, 31, 32, 34, 35, 36, 39, 41, 42, 43, 44, 45, 46, 48, 51], [0, 0, 0, 0, 0, 0, 0, 0, 0, 0, 0, 0, 0, 0, 0, 0, 0, 0, 3042, 0, 0, 0, 0, 0, 0, 0, 0, 0, 0, 0, 0, 3042, 0], [3041, 1001, 3039, 3040, 4], [])
def mzt_13 : mzT := (yX10_sets, cX10_sets, (some .int), [0, 1, 4, 7, 8, 9, 10, 13, 14, 15, 18, 19, 22, 25, 26], [0, 2123, 2220, 0, 0, 0, 3050, 0, 0, 0, 0, 2123, 2236, 0, 0], [3049, 1001, 3047, 3048, 2], [])
def mzt_14 : mzT := (yX10_writes, cX10_writes, (some .int), [0, 1, 4, 7, 8, 9, 10, 11, 14, 16, 18, 21, 22, 25, 28, 30], [0, 2123, 2220, 0, 0, 0, 0, 3068, 0, 0, 0, 0, 2123, 2236, 0, 0], [3067, 1001, 3065, 3066, 3], [])
def mzt_15 : mzT := (yX10_runs, cX10_runs, (some .int), [0, 1, 4, 7, 8, 9, 10, 13, 16, 17, 20, 21, 24, 27, 28, 31, 32, 35, 38, 39, 40, 43, 44], [0, 3079, 0, 0, 0, 0, 2123, 2220, 0, 2120, 0, 2115, 1066, 0, 3082, 0, 2123, 2236, 0, 0, 3111, 0, 0], [3078, 1001, 3076, 3077, 1], [])
def mzt_16 : mzT := (yX10_day, cX10_day, (some .int), [0, 1, 4, 7, 8, 9, 12, 13, 16, 17, 20, 21, 22, 23, 26, 29, 30, 33, 34, 35, 38, 41, 42, 43, 46, 47, 50, 51, 54, 55, 58, 61, 62, 65, 68, 69, 72, 73, 76, 77, 80, 81, 84, 85], [0, 2117, 3128, 0, 0, 0, 0, 2116, 0, 1097, 0, 0, 0, 2123, 2220, 0, 3136, 0, 0, 2116, 3140, 0, 0, 2116, 0, 1097, 0, 0, 0, 2123, 2236, 0, 2122, 3115, 0, 2122, 0, 0, 0, 0, 0, 3120, 0, 0], [3127, 1001, 3125, 3126, 0], [])
def mzt_17 : mzT := (yX10_undo, cX10_undo, (some .int), [0, 1, 4, 7, 10, 11, 12, 13, 16, 19, 20, 23, 24, 27, 30], [0, 2123, 2099, 0, 0, 0, 0, 2123, 3155, 0, 3003, 0, 2123, 2099, 0], [3154, 1001, 3152, 3153, 0], [])
def mzt_18 : mzT := (yX10_least, cX10_least, (some .int), [0, 1, 4, 7, 8, 11, 14, 15, 18, 19, 22, 25, 26, 29, 30, 31, 32, 33, 36, 37, 40, 41, 44, 45, 48, 49, 52, 55, 58, 59, 62, 65], [0, 2118, 3163, 0, 2122, 3115, 0, 2122, 0, 2118, 1136, 0, 3120, 0, 0, 0, 0, 0, 0, 2122, 0, 2118, 0, 4012, 0, 3120, 0, 0, 0, 2118, 4016, 0], [3162, 1001, 3160, 3161, 0], [])
def mzt_19 : mzT := (yX10_earliest, cX10_earliest, (some .int), [0, 1, 4, 7, 8, 9, 10, 13, 16, 17, 20, 21, 24, 27, 29, 30, 31, 32, 35, 38, 39, 41, 42, 45, 46, 49, 50, 53], [0, 4025, 0, 0, 0, 0, 2118, 3163, 0, 2118, 0, 4028, 0, 0, 0, 0, 0, 2118, 1158, 0, 0, 0, 4029, 0, 2118, 0, 4033, 0], [4024, 1001, 4022, 4023, 1], [])
def mzt_20 : mzT := (yX10_latest, cX10_latest, (some .int), [0, 1, 4, 7, 8, 9, 10, 13, 16, 17, 20, 21, 24, 27, 29, 30, 31, 32, 35, 38, 39, 41, 42, 45, 46, 49, 50, 53], [0, 4025, 0, 0, 0, 0, 2118, 3163, 0, 2118, 0, 4028, 0, 0, 0, 0, 0, 2118, 1160, 0, 0, 0, 4029, 0, 2118, 0, 4038, 0], [4037, 1001, 4035, 4036, 1], [])
def mzt_21 : mzT := (yX10_knots, cX10_knots, (some .int), [0, 1, 4, 7, 8, 11, 14, 15, 16, 19, 22, 23, 26, 27, 30, 31, 34, 35], [0, 2118, 3163, 0, 2118, 4046, 0, 0, 2122, 3115, 0, 2122, 0, 4050, 0, 3120, 0, 0], [4045, 1001, 4043, 4044, 0], [])
def mzt_22 : mzT := (yX10_address, cX10_address, (some .int), [0, 1, 2, 5, 8, 9, 10, 11, 14, 17, 18, 21, 24, 25, 28, 31, 32, 33, 36, 37, 40, 41, 44, 47, 48, 49, 50, 53, 54, 57, 60, 61, 62], [0, 0, 4060, 0, 0, 0, 0, 2118, 3163, 0, 2122, 3115, 0, 2118, 1144, 0, 0, 0, 0, 2122, 0, 2118, 1147, 0, 0, 0, 3120, 0, 2118, 1144, 0, 0, 0], [4059, 1001, 4057, 4058, 1], [])
def mzt_23 : mzT := (yX10_gap, cX10_gap, (some .int), [0, 1, 4, 5, 6, 9, 10], [0, 4068, 0, 0, 4110, 0, 0], [4067, 1001, 4065, 4066, 0], [])
def mzt_24 : mzT := (yX10_begins, cX10_begins, (some .int), [0, 1, 2, 5, 8, 11, 12, 14, 17, 18, 19, 22, 23, 24, 27, 30, 31, 32], [0, 0, 4060, 0, 5093, 0, 0, 0, 0, 0, 4068, 0, 0, 2119, 1217, 0, 0, 0], [5173, 1001, 5171, 5172, 1], [])
def mzt_25 : mzT := (yX10_why, cX10_why, (some .int), [0, 1, 4, 5, 6, 7, 8, 9, 10, 11, 14, 15, 18, 19, 22, 23, 26, 27, 28, 29, 30, 31, 32, 35, 38, 39, 42, 45, 46, 49, 50, 52, 53, 54, 55, 58, 61, 62, 65, 66, 67, 70, 73, 74, 75, 78, 79], [0, 4068, 0, 0, 0, 0, 0, 0, 0, 0, 0, 2118, 0, 4012, 0, 0, 0, 0, 0, 0, 0, 0, 0, 0, 0, 2118, 1136, 0, 0, 0, 0, 0, 0, 0, 2122, 3115, 0, 2122, 0, 0, 2118, 4016, 0, 0, 3120, 0, 0], [4121, 1001, 4119, 4120, 0], [])
def mzt_26 : mzT := (yX10_plan, cX10_plan, (some .int), [0, 1, 4, 7, 8, 9, 10, 13, 16, 17, 20, 23, 24, 27, 28, 31, 34, 35, 36, 37, 40, 41], [0, 4025, 0, 0, 0, 0, 2118, 3163, 0, 2119, 3011, 0, 2119, 0, 4126, 0, 0, 0, 0, 4110, 0, 0], [4125, 1001, 4123, 4124, 1], [])
def mzt_27 : mzT := (yX10_length, cX10_length, (some .int), [0, 1, 4, 5, 6, 9, 12, 13, 14, 17, 20, 21, 24, 25, 26, 29, 30, 33, 34], [0, 4068, 0, 0, 2119, 4131, 0, 0, 2122, 3115, 0, 2122, 0, 0, 4140, 0, 3120, 0, 0], [4130, 1001, 4128, 4129, 0], [])
def mzt_28 : mzT := (yX10_state, cX10_state, (some .int), [0, 1, 4, 5, 6, 9, 10, 11, 14, 15, 16, 17, 18, 19, 21, 23, 24, 27, 30, 33, 34, 37, 39, 42, 43, 46, 47, 48, 50, 51, 52, 53, 56, 59, 60], [0, 4068, 0, 0, 0, 0, 0, 0, 0, 0, 0, 0, 0, 0, 0, 0, 2115, 1041, 0, 0, 2119, 0, 4145, 0, 0, 0, 0, 0, 0, 0, 0, 0, 0, 0, 0], [4144, 1001, 4142, 4143, 1], [])
def mzt_29 : mzT := (yX10_tick, cX10_tick, (some .int), [0, 1, 4, 5, 8, 11, 12, 13, 14, 17, 18, 19, 20, 21, 24, 27, 28, 30, 32, 33, 36, 39, 42, 43, 46, 48, 49, 50, 53, 55, 56, 59, 61, 62, 65, 67, 68, 71, 72, 73, 75, 76, 77, 78, 81, 84, 85], [0, 0, 0, 3079, 0, 0, 0, 0, 4068, 0, 0, 0, 0, 2122, 3115, 0, 0, 0, 0, 2115, 1041, 0, 0, 2119, 0, 0, 0, 4154, 0, 0, 2122, 0, 0, 3120, 0, 0, 0, 0, 0, 0, 0, 0, 0, 0, 0, 0, 0], [4153, 1001, 4151, 4152, 2], [])
def mzt_30 : mzT := (yX10_registers, cX10_registers, (some .int), [0, 1, 4, 5, 6, 7, 8, 9, 10, 12, 14, 15, 18, 19, 22, 24, 27, 29, 31, 32, 35, 37, 38, 40, 41, 44, 47, 48, 51, 54, 55, 56, 59, 60, 61, 62, 65, 66, 67, 70, 71], [0, 4068, 0, 0, 0, 0, 0, 0, 0, 0, 0, 0, 0, 2119, 0, 4162, 0, 0, 0, 0, 0, 0, 0, 0, 0, 0, 0, 2122, 3115, 0, 0, 0, 0, 0, 0, 2122, 0, 0, 3120, 0, 0], [4161, 1001, 4159, 4160, 0], [])
def mzt_31 : mzT := (yX10_binds, cX10_binds, (some .int), [0, 1, 4, 5, 6, 9, 10, 11, 12, 15, 16, 17, 20, 21, 24, 25, 26, 29, 32, 33, 34, 35, 36, 39, 42, 45, 46, 49, 50, 53, 56, 57, 58, 59, 62, 65, 68, 69], [0, 0, 0, 0, 0, 0, 0, 0, 4068, 0, 0, 2121, 0, 4183, 0, 0, 2122, 3115, 0, 0, 0, 0, 2121, 2031, 0, 0, 2122, 0, 2121, 2033, 0, 0, 0, 3120, 0, 0, 0, 0], [4182, 1001, 4180, 4181, 1], [])
def mzt_32 : mzT := (yX10_shares, cX10_shares, (some .int), [0, 1, 4, 7, 8, 9, 10, 13, 14, 15, 16, 17, 20, 23, 24, 25, 26, 27, 30, 33, 36, 37, 38, 39, 41, 43, 44, 47, 50, 53, 54, 57, 60, 61, 62, 63, 66, 67, 70, 73, 75, 76, 77, 80, 81, 84, 85, 88, 89, 92, 94, 97, 100, 101, 104, 105, 108, 109, 110, 113, 114, 117, 119, 120, 123, 126, 129, 132, 135, 138, 139], [0, 3034, 0, 0, 0, 0, 4068, 0, 0, 0, 0, 2122, 3115, 0, 0, 0, 0, 2115, 1041, 0, 0, 0, 0, 0, 0, 0, 2115, 1041, 0, 0, 2115, 1049, 0, 0, 0, 0, 0, 2115, 1049, 0, 0, 0, 0, 0, 2119, 0, 4145, 0, 2119, 0, 4145, 0, 0, 0, 0, 2122, 0, 0, 3120, 0, 2122, 0, 0, 3120, 0, 0, 0, 0, 0, 0, 0], [4214, 1001, 4212, 4213, 1], [])
def mzt_33 : mzT := (yX10_plays, cX10_plays, (some .int), [0, 1, 4, 7, 8, 9, 10, 13, 16, 17, 20, 21, 24, 27, 28, 31, 32, 33, 36, 37, 40, 43], [0, 3079, 0, 0, 0, 0, 2120, 4219, 0, 2120, 0, 2120, 2002, 0, 3082, 0, 0, 3111, 0, 2120, 4224, 0], [4218, 1001, 4216, 4217, 1], [])
def mzt_34 : mzT := (yX10_machine, cX10_machine, (some .int), [0, 1, 4, 7, 8, 9, 10, 13, 14, 15, 18, 21, 22, 25, 26, 29, 32, 33, 36, 37, 38, 41, 42, 45, 46, 49, 52, 53, 56, 57, 58, 61], [0, 3079, 0, 0, 0, 0, 4068, 0, 0, 2120, 4219, 0, 2120, 0, 2120, 2002, 0, 4232, 0, 0, 3111, 0, 2122, 0, 2120, 4224, 0, 3120, 0, 0, 5009, 0], [4231, 1001, 4229, 4230, 1], [])
def mzt_35 : mzT := (yX10_saves, cX10_saves, (some .int), [0, 1, 4, 7, 8, 9, 10, 13, 14, 17, 18, 19, 22, 25, 26, 27, 28, 29, 32, 33], [0, 3079, 0, 0, 0, 0, 4068, 0, 0, 0, 0, 2119, 4131, 0, 0, 0, 0, 5009, 0, 0], [5016, 1001, 5014, 5015, 1], [])
def mzt_36 : mzT := (yX10_cheapest, cX10_cheapest, (some .int), [0, 1, 4, 7, 8, 9, 10, 13, 16, 17, 18, 19, 20, 23, 26, 27, 28, 29, 30, 33, 36, 37, 38, 40, 41, 44, 47, 48, 49, 51, 52, 55, 58, 59, 62, 65, 67, 69, 71, 73, 76, 77, 79, 80, 83, 86, 89, 92, 94, 96, 99, 100, 103, 104, 105, 106, 108, 110, 113, 115, 117, 120, 122, 125, 127], [0, 4025, 0, 0, 0, 0, 2115, 1072, 0, 0, 0, 0, 2115, 1072, 0, 0, 0, 0, 2115, 1072, 0, 0, 0, 0, 2115, 1072, 0, 0, 0, 0, 2118, 3163, 0, 2119, 3011, 0, 0, 0, 0, 0, 0, 0, 0, 5021, 0, 0, 0, 0, 0, 0, 0, 5029, 0, 0, 0, 0, 0, 5025, 0, 0, 0, 0, 0, 0, 0], [5020, 1001, 5018, 5019, 1], [])
def mzt_37 : mzT := (yX10_would, cX10_would, (some .int), [0, 1, 2, 5, 8, 9, 10, 11, 14, 17, 18, 19, 20, 21, 22, 25, 27, 28, 29, 32, 34, 35, 36, 37, 40, 41, 44, 46, 47, 48, 49, 52, 53, 56, 59, 60, 63, 65, 67, 68, 69, 72, 74], [0, 0, 3054, 0, 0, 0, 0, 2115, 1072, 0, 0, 0, 0, 0, 0, 0, 0, 0, 4068, 0, 0, 0, 0, 3060, 0, 4068, 0, 0, 0, 0, 3060, 0, 2122, 3115, 0, 2122, 0, 0, 0, 0, 3120, 0, 0], [5036, 1001, 5034, 5035, 2], [])
def mzt_38 : mzT := (yX10_years, cX10_years, (some .int), [0, 1, 2, 5, 6, 8, 11, 12, 13, 16, 17, 18, 21, 22, 23, 25, 27, 28, 31, 32, 33, 36, 39, 42, 43, 46, 48, 49, 52, 55, 56, 59, 60, 63, 66, 67, 70, 71, 74, 75, 78, 81, 82, 85, 87], [0, 0, 0, 0, 0, 0, 0, 0, 5041, 0, 0, 5043, 0, 0, 0, 0, 0, 0, 0, 0, 5051, 0, 0, 0, 4068, 0, 0, 2122, 3115, 0, 2122, 0, 2119, 4131, 0, 3120, 0, 2122, 0, 2115, 5060, 0, 3120, 0, 0], [5040, 1001, 5038, 5039, 2], [])
def mzt_39 : mzT := (yX10_keep, cX10_keep, (some .boolean), [0, 1, 4, 5, 8], [0, 2123, 0, 5068, 0], [5067, 1001, 5065, 5066, 1], [])
def mzt_40 : mzT := (yX10_again, cX10_again, (some .boolean), [0, 1, 4, 5, 8, 11, 12, 13, 14, 17, 18], [0, 2123, 0, 5076, 0, 0, 0, 0, 3003, 0, 0], [5075, 1001, 5073, 5074, 1], [])
def mzt_41 : mzT := (yX10_count, cX10_count, (some .int), [0, 1, 2, 5, 6, 8, 11, 12, 15, 18, 19, 20, 21, 22, 23, 24, 108, 109, 112, 115, 116, 117, 120, 121, 122, 125, 126, 127, 130, 131, 132, 135, 136, 137, 140, 141, 142, 145, 146, 147, 150, 151, 152, 155, 156, 157, 160, 163, 164, 165, 168, 171, 172, 173, 176, 179, 180, 181], [0, 0, 0, 0, 0, 0, 0, 2115, 1072, 0, 0, 0, 0, 0, 0, 0, 0, 2115, 1041, 0, 0, 2115, 0, 0, 5084, 0, 0, 2115, 0, 0, 5084, 0, 0, 2115, 0, 0, 5084, 0, 0, 2115, 0, 0, 5084, 0, 0, 2123, 2099, 0, 0, 2122, 2080, 0, 0, 2116, 1097, 0, 0, 0], [5083, 1001, 5081, 5082, 1], [])
def mzt_42 : mzT := (yX10_row, cX10_row, (some .long), [0, 1, 4, 5, 6, 9, 12, 15, 18, 19, 22, 25, 26, 27, 30, 33, 34, 35], [0, 0, 0, 0, 2122, 2080, 0, 5093, 0, 0, 0, 0, 0, 2122, 2078, 0, 0, 0], [5181, 1001, 5179, 5180, 1], [])
def mzt_43 : mzT := (yX10_isMemory, cX10_isMemory, (some .boolean), [0, 1, 4, 5, 6, 9, 10, 13, 14], [0, 0, 0, 0, 0, 0, 0, 0, 0], [3036, 1001, 3035, 0, 1], [])
def mzt_44 : mzT := (yX10_isCell, cX10_isCell, (some .boolean), [0, 1, 4, 5, 7, 10, 11, 14, 15], [0, 0, 0, 0, 0, 0, 0, 0, 0], [3074, 1001, 3073, 0, 1], [])
def mzt_45 : mzT := (yX10_isRounds, cX10_isRounds, (some .boolean), [0, 1, 4, 5, 7, 10, 11, 14, 15], [0, 0, 0, 0, 0, 0, 0, 0, 0], [3081, 1001, 3080, 0, 1], [])
def mzt_46 : mzT := (yX10_isGap, cX10_isGap, (some .boolean), [0, 1, 2, 5, 6, 8, 11, 12, 15, 16], [0, 0, 0, 0, 0, 0, 0, 0, 0, 0], [4027, 1001, 4026, 0, 1], [])
def mzt_47 : mzT := (yX10_isBanks, cX10_isBanks, (some .boolean), [0, 1, 2, 5, 6, 7, 10, 11, 12, 15, 16, 19, 20], [0, 0, 0, 0, 0, 0, 0, 0, 0, 0, 0, 0, 0], [3059, 1001, 3058, 0, 1], [])
def mzt_48 : mzT := (yX10_isUnit, cX10_isUnit, (some .boolean), [0, 1, 52, 53, 54, 57, 58, 59, 62, 63, 66, 67, 68, 69, 70, 73, 74, 75, 78, 79, 82, 83, 84, 85, 88, 89, 90, 93, 94, 95, 98, 99, 102, 103, 104, 105, 106, 109, 110, 112, 115, 116, 119, 120, 121, 122], [0, 0, 0, 0, 0, 0, 0, 0, 0, 0, 0, 0, 0, 0, 0, 0, 0, 0, 0, 0, 0, 0, 0, 3057, 0, 0, 0, 0, 0, 0, 0, 0, 0, 0, 0, 0, 0, 0, 0, 0, 0, 0, 0, 0, 0, 0], [3056, 1001, 3055, 0, 2], [])
def mzt_49 : mzT := (yX10_upBy, cX10_upBy, (some .int), [0, 1, 2, 5, 6, 9, 10, 11, 12, 13, 14, 15, 16], [0, 0, 0, 0, 0, 0, 0, 0, 0, 0, 0, 0, 0], [3239, 1001, 3238, 0, 2], [])
def mzt_50 : mzT := (yX10_isAct, cX10_isAct, (some .boolean), [0, 1, 4, 5, 6, 9, 12, 15, 16, 19, 20], [0, 0, 0, 0, 2115, 1041, 0, 0, 0, 0, 0], [4063, 1001, 4062, 32, 1], [])
def mzt_51 : mzT := (yX10_forgetTimes, cX10_forgetTimes, none, [0, 1, 4, 7, 8, 11, 14], [0, 2118, 3007, 0, 2119, 3011, 0], [3006, 1001, 3005, 5, 0], [])
def mzt_52 : mzT := (yX10_writeSheet, cX10_writeSheet, (some .int), [0, 1, 3, 4, 6, 8, 10, 13, 15, 16, 19, 20, 22, 24, 25, 26, 29, 30, 32, 33, 36, 38, 39, 41, 44, 45, 46, 49, 51, 52, 54, 55, 58, 61, 63, 65, 66, 68, 71, 74, 77, 80, 82], [0, 0, 0, 0, 0, 0, 0, 0, 0, 0, 0, 0, 0, 0, 0, 0, 0, 0, 0, 0, 0, 0, 0, 0, 0, 0, 0, 0, 0, 0, 0, 2115, 1066, 0, 0, 0, 0, 0, 0, 0, 0, 0, 0], [3045, 1001, 3044, 7, 4], [])
def mzt_53 : mzT := (yX10_setUnit, cX10_setUnit, (some .int), [0, 1, 2, 5, 8, 9, 10, 11, 14, 17, 18, 19, 20, 21, 22, 25, 27, 28, 29, 30, 31, 34, 35], [0, 0, 3054, 0, 0, 0, 0, 2115, 1072, 0, 0, 0, 0, 0, 0, 0, 0, 0, 0, 0, 3060, 0, 0], [3053, 1001, 3052, 8, 2], [])
def mzt_54 : mzT := (yX10_putUnit, cX10_putUnit, none, [0, 1, 4, 7, 8, 9, 10, 11, 14, 17, 18, 20, 23, 24, 27, 30], [0, 2115, 1072, 0, 0, 0, 0, 2119, 3011, 0, 0, 0, 0, 2118, 3007, 0], [3063, 1001, 3062, 9, 2], [])
def mzt_55 : mzT := (yX10_putPools, cX10_putPools, none, [0, 1, 4, 7, 8, 9, 10, 11, 14, 17, 18, 19, 20, 21, 24, 27, 28, 29, 30, 31, 34, 37, 38, 40, 41], [0, 2115, 1072, 0, 0, 0, 0, 2115, 1072, 0, 0, 0, 0, 2115, 1072, 0, 0, 0, 0, 2115, 1072, 0, 0, 0, 0], [5028, 1001, 5027, 49, 4], [])
def mzt_56 : mzT := (yX10_writeCell, cX10_writeCell, (some .int), [0, 1, 4, 7, 8, 11, 14, 15, 16, 17, 20, 23, 24, 26, 27, 28, 29, 30, 31, 34, 36, 37, 38, 41, 44, 45, 47, 48, 49, 50, 51, 52, 53], [0, 3034, 0, 0, 3072, 0, 0, 0, 0, 2115, 1066, 0, 0, 0, 0, 0, 0, 0, 0, 0, 0, 0, 2115, 1066, 0, 0, 0, 0, 0, 0, 0, 0, 0], [3071, 1001, 3070, 10, 3], [])
def mzt_57 : mzT := (yX10_doDay, cX10_doDay, (some .int), [0, 1, 4, 5, 8, 9, 10, 11, 12, 13, 15, 18, 19, 22, 25, 28, 29, 30, 33, 36, 39, 42, 43, 44, 47, 48, 51, 52, 55, 56, 59, 62, 65, 66, 69, 72, 75, 76], [0, 2116, 0, 1100, 0, 0, 0, 0, 0, 0, 0, 0, 2116, 3140, 0, 0, 0, 2116, 1100, 3141, 0, 0, 0, 0, 0, 2116, 0, 1100, 0, 2116, 3147, 3148, 0, 1100, 0, 0, 0, 0], [3139, 1001, 3138, 16, 0], [])
def mzt_58 : mzT := (yX10_doChange, cX10_doChange, (some .int), [0, 1, 4, 5, 8, 36, 37, 38, 41, 42, 43, 44, 47, 48, 51, 52, 53, 54, 57, 60, 61, 62, 63, 66, 67, 68, 69, 72, 74, 75, 76, 79, 80, 81, 82, 85, 87, 88, 89, 92, 93, 94, 95, 98, 99, 100, 103, 104, 105, 106, 109, 112, 113, 114, 117, 118, 121, 124, 125, 128, 129, 130, 131, 134, 137, 138], [0, 2116, 0, 3145, 0, 0, 0, 2116, 0, 0, 0, 3146, 0, 2116, 0, 0, 0, 3146, 3050, 0, 0, 0, 2116, 0, 0, 0, 3145, 0, 0, 0, 2116, 0, 0, 0, 3146, 0, 0, 0, 2116, 0, 0, 0, 3146, 0, 0, 2116, 0, 0, 0, 3146, 3068, 0, 0, 2120, 0, 2115, 1066, 0, 2116, 0, 0, 0, 3146, 3082, 0, 0], [3144, 1001, 3143, 17, 1], [])
def mzt_59 : mzT := (yX10_tellValues, cX10_tellValues, none, [0, 1, 4, 7, 8, 9, 10, 11, 14, 17, 20, 21, 24, 25, 28, 29, 30, 31, 32, 35, 36, 39, 42, 45], [0, 2122, 3115, 0, 0, 0, 0, 2115, 1041, 0, 0, 2122, 0, 2120, 0, 0, 0, 0, 3119, 0, 3120, 0, 0, 0], [3114, 1001, 3113, 14, 1], [])
def mzt_60 : mzT := (yX10_tellPools, cX10_tellPools, none, [0, 1, 4, 7, 8, 9, 10, 11, 14, 15, 18, 19, 22, 25, 26, 27, 28, 31, 34, 37], [0, 2122, 3115, 0, 0, 0, 0, 0, 0, 2122, 0, 2115, 1072, 0, 0, 0, 3120, 0, 0, 0], [5032, 1001, 5031, 50, 0], [])
def mzt_61 : mzT := (yX10_tellTimes, cX10_tellTimes, none, [0, 1, 4, 7, 8, 9, 10, 11, 14, 17, 20, 21, 24, 25, 26, 27, 28, 29, 30, 33, 36, 39], [0, 2122, 3115, 0, 0, 0, 0, 2115, 1041, 0, 0, 2122, 0, 0, 0, 0, 0, 0, 3120, 0, 0, 0], [4032, 1001, 4031, 31, 2], [])
def mzt_62 : mzT := (yX10_tellTicks, cX10_tellTicks, none, [0, 1, 4, 7, 8, 9, 10, 11, 14, 17, 20, 21, 24, 25, 28, 29, 32, 33, 36, 39, 42], [0, 2122, 3115, 0, 0, 0, 0, 2115, 1041, 0, 0, 2122, 0, 2119, 0, 4114, 0, 3120, 0, 0, 0], [4113, 1001, 4112, 40, 0], [])
def mzt_63 : mzT := (yX10_ticksOfMachine, cX10_ticksOfMachine, (some .int), [0, 1, 4, 5, 8, 9, 10, 11, 12, 15, 18, 19, 20, 23, 26, 27], [0, 0, 0, 0, 0, 0, 0, 0, 2119, 1214, 0, 0, 2119, 4131, 0, 0], [5012, 1001, 5011, 47, 1], [])
def mzt_64 : mzT := (yX10_gapNow, cX10_gapNow, (some .int), [0, 1, 4, 7, 8, 11, 14, 17, 18, 21, 22, 23, 26, 28, 31, 34, 37, 38, 41, 42, 45, 46, 49, 52], [0, 2118, 3163, 0, 2119, 1211, 0, 0, 2119, 0, 0, 2119, 0, 4072, 4109, 1214, 0, 2119, 0, 1211, 0, 2119, 1214, 0], [4071, 1001, 4070, 33, 0], [])
def mzt_65 : mzT := (yX10_fitsFor, cX10_fitsFor, (some .boolean), [0, 1, 2, 3, 4, 7, 8, 10, 12, 13, 16, 17, 19, 21, 22, 25, 26, 27, 28, 29, 31, 32, 33, 35, 36, 38, 40, 43, 46, 47, 48, 50, 52, 54, 57, 58, 61, 62, 65, 66, 69, 70, 71, 73, 74, 75, 77, 80, 83, 86, 89, 92, 93], [0, 0, 0, 0, 0, 0, 0, 0, 0, 0, 0, 0, 0, 0, 0, 0, 0, 0, 0, 0, 0, 0, 0, 0, 0, 0, 3057, 0, 0, 0, 0, 0, 0, 5025, 0, 2119, 0, 4072, 0, 0, 0, 0, 0, 0, 0, 0, 0, 0, 0, 0, 0, 0, 0], [5024, 1001, 5023, 48, 2], [])
def mzt_66 : mzT := (yX10_drawUnit, cX10_drawUnit, none, [0, 1, 3, 6, 7, 8, 44, 45, 46, 47, 48, 51, 52, 53, 56, 59, 60, 61, 62, 63, 66, 67, 68, 71, 74, 75, 76, 77, 78, 79, 82, 83, 86, 89, 90, 92, 93, 95, 98, 99, 100, 103, 106, 107, 109, 110, 111, 114, 115, 116, 119], [0, 0, 5055, 0, 0, 0, 0, 0, 0, 0, 5055, 0, 0, 3060, 0, 0, 0, 0, 0, 5055, 0, 0, 3060, 0, 0, 0, 0, 0, 0, 5055, 0, 3060, 0, 0, 0, 0, 0, 5055, 0, 0, 3060, 0, 0, 0, 0, 0, 5055, 0, 0, 3060, 0], [5054, 1001, 5053, 51, 1], [])
def mzt_67 : mzT := (yX11_init, cX11_init, none, [0, 1, 4, 5, 7, 9, 12, 13, 15, 17, 20, 21, 23, 25, 28, 29, 31, 33, 36, 37, 39, 41, 44, 45, 48, 50, 53, 54, 56, 58, 61, 62, 65, 67, 70, 71, 74, 76, 79, 80, 82, 84, 87, 88, 90, 92, 95, 96, 98, 100, 103, 104, 106, 108, 111, 112, 114, 116, 119, 120, 122, 124, 127, 128, 130, 132, 135, 136, 138, 140, 143, 144, 146, 148, 151, 152, 155, 157, 160, 161, 162, 164, 167, 168, 169, 170, 172, 175, 176, 179, 181, 182, 183, 186, 187, 188, 189, 192, 195], [0, 5188, 0, 0, 1088, 5191, 0, 0, 5158, 5192, 0, 0, 2070, 5194, 0, 0, 1088, 5200, 0, 0, 1088, 5202, 0, 0, 1088, 5203, 0, 0, 1088, 5205, 0, 0, 1088, 5206, 0, 0, 1088, 5207, 0, 0, 1088, 5208, 0, 0, 1088, 5209, 0, 0, 1088, 5210, 0, 0, 1088, 5212, 0, 0, 1088, 5213, 0, 0, 1088, 5214, 0, 0, 1088, 5217, 0, 0, 1088, 5218, 0, 0, 1088, 5219, 0, 0, 1088, 5221, 0, 0, 1232, 5222, 0, 0, 0, 0, 0, 0, 5191, 0, 0, 0, 5189, 0, 0, 0, 0, 0, 0], [5187, 1011, 5186, 0, 0], [])
def mzt_68 : mzT := (yX11_in, cX11_in, (some .boolean), [0, 1, 2, 5, 6, 7, 10, 11, 14, 15], [0, 0, 0, 0, 0, 0, 0, 0, 0, 0], [6058, 1011, 6057, 0, 3], [])
def mzt_69 : mzT := (yX11_lost, cX11_lost, (some .int), [0, 1, 2, 5, 6], [0, 0, 5196, 0, 0], [6130, 1011, 6129, 66, 0], [])
def mzt_70 : mzT := (yX11_tell, cX11_tell, none, [0, 1, 4, 5, 8, 9, 10, 11, 12, 15, 16, 17, 20], [0, 5194, 0, 5195, 0, 0, 0, 0, 5195, 0, 0, 5195, 0], [6208, 1011, 6207, 78, 1], [])
def mzt_71 : mzT := (yX11_tellRow, cX11_tellRow, none, [0, 1, 2, 5, 6, 7, 8, 9, 12, 13, 14, 17, 18, 19, 20, 21, 22, 25, 28, 31], [0, 0, 5195, 0, 0, 0, 0, 5191, 0, 0, 0, 0, 0, 0, 0, 0, 6205, 0, 0, 0], [7043, 1011, 7042, 91, 1], [])
def mzt_72 : mzT := (yX11_isAct, cX11_isAct, (some .boolean), [0, 1, 2, 3, 6, 7, 8, 9, 10, 13], [0, 0, 0, 5191, 0, 0, 0, 0, 6056, 0], [6138, 1011, 6137, 67, 1], [])
def mzt_73 : mzT := (yX11_sort, cX11_sort, (some .int), [0, 1, 4, 5, 6, 7, 8, 9, 10], [0, 5191, 0, 0, 0, 0, 0, 0, 0], [6174, 1011, 6173, 71, 1], [])
def mzt_74 : mzT := (yX11_memoryOf, cX11_memoryOf, (some .int), [0, 1, 4, 5, 6, 7, 8, 9, 10, 11, 12], [0, 5191, 0, 0, 0, 0, 0, 0, 0, 0, 0], [6182, 1011, 6181, 73, 1], [])
def mzt_75 : mzT := (yX11_operand, cX11_operand, (some .int), [0, 1, 4, 5, 6, 7, 8, 9, 10, 11, 12, 13, 14], [0, 5191, 0, 0, 0, 0, 0, 0, 0, 0, 0, 0, 0], [6186, 1011, 6185, 74, 2], [])
def mzt_76 : mzT := (yX11_isLetter, cX11_isLetter, (some .boolean), [0, 1, 3, 6, 7, 10, 11], [0, 0, 0, 0, 0, 0, 0], [7012, 1011, 7011, 0, 1], [])
def mzt_77 : mzT := (yX11_letterOf, cX11_letterOf, (some .int), [0, 1, 3, 4, 6, 7], [0, 0, 0, 0, 0, 0], [6196, 1011, 6195, 0, 1], [])
def mzt_78 : mzT := (yX11_primesOf, cX11_primesOf, (some .int), [0, 1, 3, 4, 6, 7], [0, 0, 0, 0, 0, 0], [6193, 1011, 6192, 0, 1], [])
def mzt_79 : mzT := (yX11_isSum, cX11_isSum, (some .boolean), [0, 1, 2, 5, 6, 9, 10, 13, 14], [0, 0, 6171, 0, 0, 0, 0, 0, 0], [7020, 1011, 7019, 87, 1], [])
def mzt_80 : mzT := (yX11_floorBy, cX11_floorBy, (some .int), [0, 1, 2, 3, 4, 5, 6, 9, 10, 11, 12, 15, 16, 17, 18, 19], [0, 0, 0, 0, 0, 0, 0, 0, 0, 0, 0, 0, 0, 0, 0, 0], [7065, 1011, 7064, 0, 2], [])
def mzt_81 : mzT := (yX11_restBy, cX11_restBy, (some .int), [0, 1, 2, 3, 4, 7, 8, 9], [0, 0, 0, 0, 7063, 0, 0, 0], [7062, 1011, 7061, 0, 2], [])
def mzt_82 : mzT := (yX11_up, cX11_up, (some .int), [0, 1, 2, 3, 4, 5, 6, 7], [0, 0, 0, 0, 0, 0, 0, 0], [7035, 1011, 7034, 0, 2], [])
def mzt_83 : mzT := (yX11_sign, cX11_sign, (some .int), [0, 1, 2, 5, 6, 9, 10, 11, 13, 16, 17, 18, 19, 20, 21, 24, 25, 28, 29, 30, 33, 34, 35, 36, 39, 40, 42, 43, 44, 45, 46, 47, 50, 53, 54, 57], [0, 0, 5196, 0, 5193, 0, 0, 0, 0, 0, 0, 0, 0, 0, 0, 0, 5192, 0, 0, 5193, 0, 0, 0, 5193, 0, 0, 0, 0, 0, 0, 0, 0, 0, 0, 5193, 0], [6051, 1011, 6049, 6050, 1], [])
def mzt_84 : mzT := (yX11_end, cX11_end, (some .boolean), [0, 1, 2, 5, 6, 7, 8, 11, 14, 17, 18, 19, 20, 21, 24, 25], [0, 0, 5196, 0, 0, 0, 5193, 6056, 0, 0, 0, 0, 0, 5193, 0, 0], [6055, 1011, 6053, 6054, 1], [])
def mzt_85 : mzT := (yX11_begin, cX11_begin, none, [0, 1, 2, 5, 8, 9, 10, 13, 14, 15, 18, 19, 20, 23], [0, 0, 5193, 5197, 0, 0, 5198, 0, 0, 5199, 0, 0, 5193, 0], [6066, 1011, 6065, 53, 0], [])
def mzt_86 : mzT := (yX11_here, cX11_here, (some .int), [0, 1, 4, 5, 8, 11, 12, 15, 16, 19, 20, 23, 24, 27, 28], [0, 5198, 0, 5197, 0, 0, 5192, 0, 5198, 0, 0, 0, 0, 0, 0], [6078, 1011, 6077, 56, 0], [])
def mzt_87 : mzT := (yX11_fine, cX11_fine, (some .boolean), [0, 1, 4, 5, 8, 9, 12, 13], [0, 5199, 0, 0, 0, 0, 0, 0], [6070, 1011, 6069, 54, 0], [])
def mzt_88 : mzT := (yX11_fault, cX11_fault, none, [0, 1, 4, 7, 8, 9, 12], [0, 6067, 0, 0, 0, 5199, 0], [6090, 1011, 6089, 59, 1], [])
def mzt_89 : mzT := (yX11_passes, cX11_passes, (some .boolean), [0, 1, 4, 7, 8, 11, 12, 15, 16, 17, 18, 19, 22, 23, 24, 27, 28], [0, 6067, 0, 0, 6075, 0, 0, 0, 0, 0, 0, 5198, 0, 0, 5198, 0, 0], [6086, 1011, 6085, 58, 1], [])
def mzt_90 : mzT := (yX11_need, cX11_need, none, [0, 1, 2, 5, 8, 9, 10, 13, 16], [0, 0, 6083, 0, 0, 0, 5198, 6087, 0], [6082, 1011, 6081, 57, 1], [])
def mzt_91 : mzT := (yX11_oneOf, cX11_oneOf, (some .int), [0, 1, 4, 7, 8, 9, 10, 13, 14, 15, 16, 17, 18, 19, 22, 25, 26, 27, 30, 33, 34, 35, 36, 37, 40, 41, 42, 45, 46, 49, 50, 53, 54, 55, 56, 57, 58], [0, 6067, 0, 0, 0, 0, 6075, 0, 0, 0, 0, 0, 0, 6056, 0, 0, 0, 5198, 6087, 0, 0, 0, 0, 5198, 0, 0, 5198, 0, 5192, 0, 5198, 0, 0, 0, 0, 0, 0], [6098, 1011, 6097, 61, 2], [])
def mzt_92 : mzT := (yX11_twoDigits, cX11_twoDigits, (some .int), [0, 1, 3, 5, 8, 9, 11, 12, 13, 14, 16, 18, 21, 22], [0, 0, 0, 6095, 0, 0, 0, 0, 0, 0, 0, 6095, 0, 0], [6220, 1011, 6219, 80, 0], [])
def mzt_93 : mzT := (yX11_wasRight, cX11_wasRight, (some .boolean), [0, 1, 4, 5, 8, 11, 12, 13, 16, 19, 20, 23], [0, 5198, 0, 5197, 0, 0, 0, 5198, 6087, 0, 6067, 0], [6103, 1011, 6102, 62, 0], [])
def mzt_94 : mzT := (yX11_readOperand, cX11_readOperand, (some .int), [0, 1, 4, 7, 8, 9, 10, 13, 15, 17, 20, 23, 24, 26, 28, 31, 32, 33, 35, 38, 41, 43, 44, 45, 48, 49, 50, 52, 54, 57, 58, 59, 61, 64, 67, 68, 71, 72, 74, 76, 77, 80, 81, 83, 86, 89, 90, 92, 94, 97, 98, 99, 102, 103, 104, 107, 109, 112, 113, 114, 117, 118, 121, 124, 126, 127, 128, 130, 132, 133, 134], [0, 6067, 0, 0, 0, 0, 6075, 0, 0, 6056, 0, 0, 0, 0, 6095, 0, 0, 0, 6083, 0, 0, 0, 0, 5198, 0, 0, 0, 0, 6095, 0, 0, 0, 6083, 0, 0, 0, 0, 0, 0, 0, 0, 0, 0, 6083, 0, 0, 0, 0, 0, 0, 0, 0, 0, 0, 6087, 0, 0, 0, 0, 5201, 0, 6099, 5201, 0, 0, 0, 0, 0, 0, 0, 0], [6094, 1011, 6093, 60, 1], [])
def mzt_95 : mzT := (yX11_readAct, cX11_readAct, none, [0, 1, 2, 3, 4, 5, 8, 9, 10, 11, 12, 13, 14, 17, 18, 19, 20, 21, 22, 23, 26, 28, 31, 32, 35, 37, 40, 41, 44, 45, 46, 47, 48, 51, 53, 54, 55, 56, 57, 60, 61, 62, 65, 66, 68, 71, 72, 75, 76, 77, 78, 79, 80, 83, 84, 85, 87, 90, 91, 94, 95, 96, 98, 101, 104, 105, 108, 109, 110, 111, 114, 115, 116, 117, 120, 121, 124, 125, 126, 127, 128, 129, 132, 133, 134, 135, 138, 139, 140, 141, 142, 143, 146, 147, 148, 151, 152, 153, 155, 158, 161, 162, 165, 166, 168, 171, 174, 175, 178, 179, 181, 184, 187, 188, 191, 192, 193, 194, 197, 198, 199, 200, 203, 204, 206, 209, 210, 213, 214, 215, 216, 217, 218, 221, 222], [0, 0, 0, 0, 0, 5200, 0, 0, 0, 0, 0, 0, 5200, 0, 0, 0, 0, 0, 0, 6075, 0, 0, 0, 6075, 0, 0, 0, 5200, 0, 0, 0, 0, 6075, 0, 0, 0, 0, 0, 5198, 0, 0, 5198, 0, 0, 6079, 0, 5200, 0, 0, 0, 0, 0, 6091, 0, 0, 0, 6079, 0, 5200, 0, 0, 0, 6083, 0, 0, 0, 0, 0, 0, 5200, 0, 0, 0, 0, 0, 5200, 0, 0, 0, 0, 0, 6091, 0, 0, 0, 5200, 0, 0, 0, 0, 0, 6091, 0, 0, 5200, 0, 0, 0, 6083, 0, 0, 0, 0, 0, 6083, 0, 0, 0, 0, 0, 6083, 0, 0, 0, 0, 0, 0, 5200, 0, 0, 0, 0, 0, 0, 6079, 0, 5200, 0, 0, 0, 0, 0, 6091, 0, 0], [6074, 1011, 6073, 55, 1], [])
def mzt_96 : mzT := (yX11_loop, cX11_loop, (some .int), [0, 1, 2, 5, 6, 9, 10, 11, 14, 15, 16, 17, 20, 23, 24, 27, 28, 29, 30, 33, 34, 37, 40, 41, 42, 45, 48, 49, 52, 55, 56, 59, 61, 64, 65, 68, 69, 70, 71, 74, 77, 78, 80, 83, 84, 85, 88, 91, 92, 93, 96, 97, 98, 101, 104, 105, 108, 111, 112, 113, 116, 117, 118, 119, 122, 123, 126, 129, 130, 131, 134, 135, 138, 139, 140, 141, 142, 143, 144, 146, 149, 150, 153, 154, 155, 156, 157, 158, 159, 160, 163, 164, 167, 168, 169, 172, 173, 174, 177, 180, 181], [0, 0, 5196, 0, 6063, 0, 0, 5201, 0, 0, 0, 5197, 0, 0, 0, 0, 0, 0, 0, 0, 6067, 0, 0, 0, 6071, 0, 0, 6067, 0, 0, 6075, 0, 0, 0, 0, 0, 0, 0, 0, 0, 0, 0, 0, 0, 0, 5198, 6087, 0, 0, 5198, 0, 0, 5198, 0, 0, 6100, 0, 0, 0, 5199, 0, 0, 0, 5201, 0, 0, 0, 0, 0, 6104, 0, 5191, 0, 0, 0, 0, 0, 0, 0, 0, 0, 5191, 0, 0, 0, 0, 0, 0, 0, 0, 0, 5200, 0, 0, 0, 0, 0, 0, 0, 0, 0], [6062, 1011, 6060, 6061, 0], [])
def mzt_97 : mzT := (yX11_readNumber, cX11_readNumber, (some .int), [0, 1, 3, 6, 7, 8, 10, 12, 15, 16, 17, 18, 19, 20, 23, 24, 27, 30, 31, 34, 36, 38, 41, 44, 46, 47, 48, 49, 51, 53, 56, 57, 58, 61, 64, 65, 68, 69, 70, 73, 74], [0, 0, 6083, 0, 0, 0, 0, 6095, 0, 0, 0, 0, 0, 0, 0, 6067, 0, 0, 6075, 0, 0, 6056, 0, 0, 0, 0, 0, 0, 0, 6095, 0, 0, 0, 0, 0, 0, 0, 0, 0, 0, 0], [6119, 1011, 6118, 65, 0], [])
def mzt_98 : mzT := (yX11_isMemory, cX11_isMemory, (some .boolean), [0, 1, 2, 3, 6], [0, 0, 0, 6056, 0], [6122, 1011, 6121, 0, 1], [])
def mzt_99 : mzT := (yX11_memory, cX11_memory, (some .int), [0, 1, 2, 5, 6, 9, 10, 11, 12, 15, 18, 19, 22, 23, 24, 25, 28, 29, 32, 35, 36, 39, 40, 41, 44, 45, 48, 49, 52, 55, 56, 59, 61, 64, 65, 68, 69, 70, 71, 74, 77, 78, 80, 83, 84, 85, 88, 91, 92, 93, 96, 97, 98, 101, 104, 105, 108, 111, 112, 113, 116, 117, 118, 119, 122, 125, 126, 127, 128, 131, 132, 134, 136, 138, 141, 142, 145, 147, 149, 150, 151, 152, 154, 155, 157, 158, 161, 162, 165, 167, 168, 171, 172, 173, 176, 179, 180], [0, 0, 5196, 0, 6063, 0, 0, 0, 5197, 0, 0, 0, 0, 0, 0, 0, 0, 6067, 0, 0, 5202, 0, 0, 6116, 0, 0, 0, 6067, 0, 0, 6075, 0, 0, 0, 0, 0, 0, 0, 0, 0, 0, 0, 0, 0, 0, 5198, 6087, 0, 0, 5198, 0, 0, 5198, 0, 0, 6100, 0, 0, 0, 5199, 0, 0, 0, 6120, 0, 0, 0, 0, 6104, 0, 0, 0, 0, 0, 0, 5191, 0, 0, 0, 0, 0, 0, 0, 0, 0, 0, 0, 5202, 0, 0, 0, 0, 0, 0, 0, 0, 0], [6115, 1011, 6113, 6114, 1], [])
def mzt_100 : mzT := (yX11_cell, cX11_cell, (some .int), [0, 1, 2, 5, 6, 9, 12, 13, 14, 16, 19, 22, 23, 26, 28, 30, 31, 32, 33, 34, 35, 36, 39, 40, 43], [0, 0, 5196, 0, 6120, 0, 0, 0, 0, 6056, 0, 0, 5191, 0, 0, 0, 0, 0, 0, 0, 0, 0, 0, 6127, 0], [6126, 1011, 6124, 6125, 2], [])
def mzt_101 : mzT := (yX11_act, cX11_act, (some .int), [0, 1, 2, 5, 6, 7, 10, 13, 14, 15, 16, 19, 22, 23, 26, 27, 28, 29, 30, 31, 32, 33, 34, 37, 38, 41], [0, 0, 5196, 0, 0, 6135, 0, 0, 0, 0, 6056, 0, 0, 5191, 0, 0, 0, 0, 0, 0, 0, 0, 0, 0, 6127, 0], [6134, 1011, 6132, 6133, 2], [])
def mzt_102 : mzT := (yX11_sheet, cX11_sheet, (some .int), [0, 1, 2, 5, 6, 7, 8, 11, 14, 15, 17, 20, 21, 22, 23, 24, 27, 28, 31, 33, 34, 35, 37, 38, 40, 41, 43, 45, 47, 50, 51, 54, 56, 57, 60, 61, 62, 65, 67, 68, 71, 73, 75, 76, 79, 81, 83, 84, 85, 86, 89, 91, 92, 95, 97, 100, 101, 102, 104, 105, 108, 110, 112, 113, 114, 117, 118, 121, 122, 123, 125, 127, 129, 130, 132, 135, 138, 139, 140, 143, 145, 148, 150], [0, 0, 5196, 0, 0, 0, 6056, 0, 0, 0, 0, 0, 0, 0, 0, 0, 0, 0, 0, 0, 0, 0, 0, 0, 0, 0, 0, 0, 0, 0, 0, 0, 0, 0, 0, 0, 0, 0, 0, 0, 0, 0, 0, 5191, 0, 0, 0, 0, 0, 0, 0, 0, 0, 0, 0, 0, 0, 0, 0, 5191, 0, 0, 0, 0, 0, 0, 0, 0, 0, 0, 0, 0, 0, 0, 0, 0, 0, 0, 0, 0, 0, 0, 0], [6142, 1011, 6140, 6141, 4], [])
def mzt_103 : mzT := (yX11_change, cX11_change, none, [0, 1, 2, 3, 5, 8, 9, 12, 13, 14, 17, 18, 19, 20, 23, 26, 27, 30], [0, 0, 0, 0, 0, 0, 5205, 0, 0, 5191, 0, 0, 0, 0, 0, 0, 6108, 0], [6107, 1011, 6106, 63, 0], [])
def mzt_104 : mzT := (yX11_note, cX11_note, none, [0, 1, 4, 6, 9, 10, 11, 12, 15, 18, 19, 22, 23, 24, 27, 28, 30, 31, 32, 33, 36, 39, 40, 41, 44, 45, 46, 49, 50, 51, 52, 54, 57, 58, 61, 63, 64, 67, 68, 69, 70, 71, 74, 75, 76, 77, 80, 83, 84, 85, 88, 89, 90, 93], [0, 5204, 0, 0, 0, 0, 0, 0, 0, 0, 5203, 0, 0, 5203, 0, 0, 0, 0, 0, 0, 0, 0, 0, 5204, 0, 0, 5204, 0, 0, 0, 0, 0, 0, 5203, 0, 0, 5204, 0, 0, 0, 0, 5205, 0, 0, 0, 0, 0, 0, 0, 5204, 0, 0, 5204, 0], [6111, 1011, 6110, 64, 0], [])
def mzt_105 : mzT := (yX11_refusesSet, cX11_refusesSet, (some .int), [0, 1, 2, 4, 7, 10, 11, 14, 15, 16, 19, 20, 21, 24, 27, 28, 29, 30, 31, 34, 35, 36, 39, 40, 41, 44, 45, 46, 47, 50, 52, 53, 54, 55, 56, 59, 61, 64, 65], [0, 0, 0, 6056, 0, 0, 6151, 0, 0, 6153, 0, 0, 6056, 0, 0, 0, 0, 0, 0, 0, 0, 0, 0, 0, 0, 0, 0, 0, 5191, 0, 0, 0, 0, 0, 0, 0, 0, 0, 0], [6150, 1011, 6149, 68, 2], [])
def mzt_106 : mzT := (yX11_sets, cX11_sets, (some .int), [0, 1, 2, 5, 6, 7, 8, 11, 12, 13, 16, 17, 18, 19, 22, 23, 26, 28, 29, 30, 31, 33, 34, 37, 39, 40, 41, 42, 43, 45], [0, 0, 5196, 0, 0, 0, 6147, 0, 0, 0, 0, 0, 0, 6104, 0, 5191, 0, 0, 0, 0, 0, 0, 5191, 0, 0, 0, 0, 0, 0, 0], [6146, 1011, 6144, 6145, 2], [])
def mzt_107 : mzT := (yX11_refusesWrite, cX11_refusesWrite, (some .int), [0, 1, 4, 7, 8, 9, 11, 14, 17, 18, 19, 20, 23, 25, 27, 28, 29, 30, 31, 32, 33, 34, 37, 39, 42, 43], [0, 6120, 0, 0, 0, 0, 6056, 0, 0, 0, 0, 5191, 0, 0, 0, 0, 0, 0, 0, 0, 0, 0, 0, 0, 0, 0], [6162, 1011, 6161, 69, 3], [])
def mzt_108 : mzT := (yX11_writes, cX11_writes, (some .int), [0, 1, 2, 5, 6, 7, 8, 9, 12, 14, 16, 19, 21, 22, 23, 26, 27, 30, 32, 34, 35, 36, 37, 38, 39, 40, 41, 42], [0, 0, 5196, 0, 0, 0, 0, 6159, 0, 0, 0, 0, 0, 0, 6104, 0, 5191, 0, 0, 0, 0, 0, 0, 0, 0, 0, 0, 0], [6158, 1011, 6156, 6157, 3], [])
def mzt_109 : mzT := (yX11_value, cX11_value, (some .int), [0, 1, 3, 6, 7, 8, 9, 11, 14, 15, 16, 17, 18, 21, 22, 23, 24, 27, 28, 31, 32, 35, 37, 38, 39, 40, 43, 44, 45], [0, 0, 0, 0, 0, 0, 0, 0, 0, 0, 0, 0, 6191, 0, 0, 0, 0, 0, 0, 0, 5206, 0, 0, 0, 0, 6194, 0, 0, 0], [6190, 1011, 6189, 75, 2], [])
def mzt_110 : mzT := (yX11_place, cX11_place, (some .int), [0, 2, 4, 5, 6, 9, 10, 11, 12, 13, 14, 15, 18, 19, 22, 24, 25, 26], [0, 0, 0, 0, 6179, 0, 0, 0, 0, 0, 0, 6183, 0, 6187, 0, 0, 0, 0], [6178, 1011, 6177, 72, 2], [])
def mzt_111 : mzT := (yX11_work, cX11_work, (some .int), [0, 1, 2, 3, 4, 7, 8, 11, 12, 13, 14, 15, 16, 19, 20, 23, 25, 26, 27, 30, 56, 57, 59, 60, 61, 62, 64, 65, 66, 67, 69, 72, 73, 76, 77, 78, 79, 81, 82], [0, 0, 0, 0, 6183, 0, 6187, 0, 0, 0, 0, 0, 6183, 0, 6187, 0, 0, 0, 6171, 0, 0, 0, 0, 0, 0, 0, 0, 0, 0, 0, 0, 0, 0, 0, 0, 0, 0, 0, 0], [6200, 1011, 6199, 76, 2], [])
def mzt_112 : mzT := (yX11_play, cX11_play, none, [0, 1, 2, 3, 4, 7, 8, 9, 10, 11, 14, 15, 16, 19, 20, 21, 24, 25, 28, 29, 32, 33, 34, 35, 38, 39, 41, 44, 45, 46, 49, 50, 53, 54, 55, 56, 57, 60, 61, 64, 66, 67, 70, 71, 72, 73, 76, 78, 79, 82, 83, 84, 85, 88, 90, 91, 94, 96, 97, 98, 99, 100, 102, 103, 106, 109, 112, 115], [0, 0, 0, 0, 0, 0, 0, 0, 0, 5191, 0, 0, 0, 0, 0, 6171, 0, 0, 0, 5191, 0, 0, 0, 6175, 0, 0, 0, 0, 0, 6171, 0, 0, 0, 0, 0, 0, 6183, 0, 6187, 0, 0, 5191, 0, 0, 0, 6175, 0, 0, 0, 0, 0, 0, 6197, 0, 0, 5206, 0, 0, 0, 0, 0, 0, 0, 0, 0, 0, 0, 0], [6170, 1011, 6169, 70, 1], [])
def mzt_113 : mzT := (yX11_tellLast, cX11_tellLast, none, [0, 1, 2, 5, 6, 7, 8, 9, 12, 13, 14, 17, 18, 19, 22, 23, 26, 27, 30, 32, 33, 34, 35, 36, 37, 38, 39, 40, 43, 46, 49], [0, 0, 5195, 0, 0, 0, 0, 5191, 0, 0, 0, 0, 0, 0, 0, 0, 0, 5206, 0, 0, 0, 0, 0, 0, 0, 0, 0, 6205, 0, 0, 0], [6204, 1011, 6203, 77, 1], [])
def mzt_114 : mzT := (yX11_runs, cX11_runs, (some .int), [0, 1, 2, 5, 6, 7, 9, 12, 15, 16, 17, 18, 21, 22, 23, 26, 27, 28, 31, 32], [0, 0, 5196, 0, 0, 0, 6056, 0, 0, 0, 0, 6104, 0, 0, 6167, 0, 0, 6201, 0, 0], [6166, 1011, 6164, 6165, 1], [])
def mzt_115 : mzT := (yX11_readChange, cX11_readChange, none, [0, 1, 4, 5, 6, 8, 11, 12, 14, 17, 18, 20, 23, 24, 25, 28, 31, 32, 33, 34, 37, 38, 39, 42, 43, 46, 47, 48, 49, 50, 53, 54, 55, 56, 57, 59, 62, 63, 65, 66, 69, 72, 73, 75, 77, 80, 81, 82, 84, 87, 88, 89, 92, 93, 94, 95, 96, 98, 101, 102, 105, 108, 109, 111, 113, 116, 117, 118, 120, 123, 124, 127, 128, 129, 130, 131, 133, 135, 138, 139], [0, 6075, 0, 0, 0, 0, 0, 0, 0, 0, 0, 0, 0, 0, 5198, 6087, 0, 0, 0, 5198, 0, 0, 5198, 0, 5207, 0, 0, 0, 0, 5207, 0, 0, 0, 0, 0, 0, 0, 0, 0, 6095, 0, 0, 0, 0, 6095, 0, 0, 0, 0, 0, 0, 5207, 0, 0, 0, 0, 0, 0, 0, 6217, 0, 0, 0, 0, 6095, 0, 0, 0, 0, 0, 5207, 0, 0, 0, 0, 0, 0, 6095, 0, 0], [6216, 1011, 6215, 79, 1], [])
def mzt_116 : mzT := (yX11_goes, cX11_goes, (some .boolean), [0, 1, 4, 5, 6, 7, 8, 9, 10, 13, 14, 15, 16, 17, 18, 19, 22, 23, 24, 25, 26, 28, 29, 32, 33, 34, 36, 39, 40, 41, 42, 45, 48, 49, 50, 51, 54, 56, 57, 58, 59, 60, 63, 64, 67, 68, 69, 71, 74, 75, 76, 77, 79, 82, 85, 86, 87, 88, 91, 93, 95, 96, 97, 98, 99, 100, 102, 103, 106, 107, 108, 111, 112], [0, 5207, 0, 0, 0, 0, 0, 0, 5207, 0, 0, 0, 0, 0, 0, 5207, 0, 0, 0, 0, 0, 0, 5207, 0, 0, 0, 0, 0, 0, 0, 6147, 0, 0, 0, 0, 5191, 0, 0, 0, 0, 0, 0, 0, 5207, 0, 0, 0, 0, 0, 0, 0, 0, 6159, 0, 0, 0, 0, 5191, 0, 0, 0, 0, 0, 0, 0, 0, 0, 0, 0, 0, 6167, 0, 0], [6224, 1011, 6223, 81, 1], [])
def mzt_117 : mzT := (yX11_day, cX11_day, (some .int), [0, 1, 2, 5, 6, 9, 10, 11, 12, 15, 18, 19, 22, 23, 26, 29, 30, 31, 32, 33, 36, 39, 42, 43, 46, 49, 50, 51, 54, 55, 56, 57, 58, 59, 61, 64, 65, 68, 69, 70, 73, 74, 75, 76, 79, 82, 83, 84, 85, 86, 89, 90, 91, 92, 93, 96, 99, 102, 105, 106, 109, 110, 113, 114, 115, 118, 119, 120, 121, 124, 125, 128, 129, 132, 133], [0, 0, 5196, 0, 6063, 0, 0, 0, 6067, 0, 0, 5198, 0, 5197, 0, 0, 0, 0, 0, 6213, 0, 0, 0, 6100, 0, 0, 0, 5199, 0, 0, 0, 0, 0, 0, 0, 0, 5205, 0, 0, 5191, 0, 0, 0, 0, 0, 0, 0, 0, 0, 0, 0, 0, 0, 0, 6221, 0, 0, 0, 0, 0, 0, 6108, 0, 0, 5195, 0, 0, 0, 0, 0, 0, 0, 6205, 0, 0], [6212, 1011, 6210, 6211, 0], [])
def mzt_118 : mzT := (yX11_undo, cX11_undo, (some .int), [0, 1, 2, 5, 6, 9, 12, 13, 14, 15, 16, 19, 20, 21, 24, 25, 26, 27, 29, 32, 33, 36, 37, 38, 41, 43, 44, 47, 48, 49, 50, 51, 52, 55, 58, 59, 62], [0, 0, 5196, 0, 5204, 0, 0, 0, 0, 0, 5204, 0, 0, 5204, 0, 0, 0, 0, 0, 0, 5191, 0, 0, 5203, 0, 0, 5204, 0, 0, 0, 0, 0, 0, 0, 0, 5204, 0], [6228, 1011, 6226, 6227, 0], [])
def mzt_119 : mzT := (yX11_lasts, cX11_lasts, (some .int), [0, 1, 2, 5, 8, 9, 12, 14, 15, 18, 19, 20, 23, 24, 27, 29, 30, 33, 35, 36, 37, 40, 41, 42, 45, 46, 49, 51, 52, 55, 57, 58, 59, 62, 64], [0, 0, 7017, 0, 0, 5191, 0, 0, 0, 0, 0, 6171, 0, 0, 0, 0, 5191, 0, 0, 0, 0, 0, 0, 6171, 0, 0, 0, 0, 5191, 0, 0, 0, 0, 0, 0], [7016, 1011, 7015, 86, 1], [])
def mzt_120 : mzT := (yX11_later, cX11_later, (some .int), [0, 1, 3, 4, 5, 6, 7, 10, 13, 14, 15, 18, 20, 21, 22, 24, 27, 28, 31, 32, 35, 36, 39, 40, 43, 44, 46, 48, 51, 52, 55, 56, 57, 58, 60, 61], [0, 0, 0, 0, 0, 0, 7017, 0, 0, 0, 5191, 0, 0, 0, 0, 0, 0, 0, 0, 0, 0, 0, 0, 0, 0, 0, 0, 0, 0, 0, 0, 0, 0, 0, 0, 0], [7024, 1011, 7023, 88, 2], [])
def mzt_121 : mzT := (yX11_sooner, cX11_sooner, (some .int), [0, 1, 3, 6, 7, 8, 9, 12, 15, 17, 18, 21, 23, 24, 25, 28, 29, 31, 32, 34, 37, 38, 41, 42, 43, 44, 46, 47], [0, 0, 7060, 0, 0, 0, 7017, 0, 0, 0, 5191, 0, 0, 0, 0, 0, 0, 0, 0, 0, 0, 0, 0, 0, 0, 0, 0, 0], [7059, 1011, 7058, 94, 2], [])
def mzt_122 : mzT := (yX11_behind, cX11_behind, (some .int), [0, 2, 4, 5, 7, 9, 10, 13, 14, 15, 17, 20, 22, 24, 27, 30, 32, 35, 36, 39, 41, 42, 43, 46, 48, 49, 50, 52, 55, 56, 57, 60, 62, 65, 68, 69, 70, 73, 74, 75, 78, 79, 82, 83, 84, 87, 88, 89, 92, 95, 96, 97, 100, 101, 104, 105, 106, 109, 110, 113, 114, 117, 118, 120, 122, 125, 127, 128, 129, 132, 134, 137, 139, 141, 142, 143, 144, 147, 149, 151], [7009, 0, 0, 0, 0, 0, 0, 0, 0, 0, 6183, 0, 0, 7010, 0, 0, 6194, 0, 0, 0, 0, 0, 7013, 0, 0, 0, 0, 6191, 0, 0, 6099, 0, 0, 0, 0, 0, 0, 0, 0, 6179, 0, 0, 0, 0, 6179, 0, 0, 6179, 0, 0, 0, 6171, 0, 0, 0, 0, 6171, 0, 0, 0, 0, 0, 0, 0, 0, 0, 0, 0, 0, 0, 0, 0, 0, 0, 0, 0, 6099, 0, 0, 0], [7008, 1011, 7007, 85, 3], [])
def mzt_123 : mzT := (yX11_layEarly, cX11_layEarly, (some .boolean), [0, 1, 4, 5, 6, 7, 8, 9, 10, 11, 14, 15, 18, 19, 20, 21, 24, 27, 28, 31, 32, 35, 36, 37, 38, 41, 42, 43, 44, 46, 48, 49, 52, 53, 55, 57, 58, 61, 62, 65, 67, 68, 69, 71, 73, 74, 77, 78, 80, 82, 83, 86, 88, 89, 92, 95, 96, 99, 101, 102, 104, 106, 109, 110, 111, 112, 113, 116, 118, 119, 122, 125, 126, 127, 130, 133, 136, 139, 142, 143], [0, 5191, 0, 0, 0, 0, 0, 0, 0, 0, 0, 5208, 0, 0, 0, 0, 0, 0, 0, 0, 0, 0, 0, 0, 0, 0, 0, 0, 0, 0, 0, 0, 0, 0, 0, 0, 0, 0, 5208, 0, 0, 0, 0, 0, 0, 7005, 0, 0, 0, 0, 5208, 0, 0, 0, 0, 0, 5208, 0, 0, 0, 0, 7021, 0, 0, 0, 0, 5208, 0, 0, 0, 0, 0, 0, 0, 0, 0, 0, 0, 0, 0], [7004, 1011, 7003, 84, 1], [])
def mzt_124 : mzT := (yX11_longBy, cX11_longBy, (some .int), [0, 1, 2, 3, 4, 5, 6, 9, 10, 11, 14, 15, 16, 17, 18, 19, 20, 23, 24, 27, 28, 31, 34, 35, 37, 40], [0, 0, 0, 0, 0, 0, 5191, 0, 0, 0, 0, 0, 0, 0, 0, 0, 7013, 0, 6099, 0, 0, 0, 0, 0, 7033, 0], [7047, 1011, 7046, 92, 1], [])
def mzt_125 : mzT := (yX11_layLate, cX11_layLate, none, [0, 1, 4, 5, 6, 7, 9, 10, 11, 14, 17, 18, 19, 20, 22, 24, 25, 28, 29, 32, 34, 35, 37, 38, 39, 41, 44, 45, 48, 49, 52, 55, 56, 59, 60, 63, 64, 66, 68, 71, 72, 74, 75, 77, 79, 80, 83, 84, 86, 88, 89, 92, 93, 95, 97, 98, 101, 103, 105, 107, 110, 111, 114, 116, 117, 118, 121, 123, 124, 126, 127, 130, 133, 134, 137, 139, 140, 142, 143, 146, 148, 149, 151, 152, 155, 156, 157, 159, 162, 165, 168, 171, 174], [0, 5191, 0, 0, 0, 0, 0, 0, 5208, 7044, 0, 0, 0, 0, 0, 0, 0, 0, 5209, 0, 0, 0, 0, 0, 0, 7013, 0, 7056, 0, 0, 0, 0, 0, 0, 0, 0, 0, 0, 0, 0, 0, 0, 0, 0, 0, 0, 0, 0, 0, 0, 0, 0, 0, 0, 0, 7005, 0, 0, 7009, 0, 0, 5209, 0, 0, 0, 5209, 0, 0, 0, 0, 0, 0, 0, 5209, 0, 0, 0, 0, 5209, 0, 0, 0, 0, 7056, 0, 0, 0, 0, 0, 0, 0, 0, 0], [7055, 1011, 7054, 93, 1], [])
def mzt_126 : mzT := (yX11_rings, cX11_rings, (some .int), [0, 1, 4, 5, 6, 9, 10, 11, 12, 13, 14, 17, 20, 21, 22, 25, 28, 31, 34, 35], [0, 5191, 0, 0, 0, 0, 0, 0, 0, 0, 0, 0, 0, 0, 7001, 0, 0, 0, 0, 0], [7000, 1011, 6239, 83, 0], [])
def mzt_127 : mzT := (yX11_manyOf, cX11_manyOf, (some .int), [0, 1, 2, 3, 4, 5, 6, 9, 10, 11, 14, 15, 18, 19, 20, 23, 26, 27, 28, 31, 32, 33, 36, 37, 40, 41, 44, 45, 48, 49, 50, 53, 54, 55, 56, 59, 60, 63, 64, 66, 67, 69, 72, 73, 76, 77, 78, 79, 82, 85, 86], [0, 0, 0, 0, 0, 0, 5191, 0, 0, 0, 0, 0, 0, 0, 7017, 0, 0, 0, 0, 0, 0, 6171, 0, 0, 0, 0, 0, 0, 0, 0, 6179, 0, 0, 0, 0, 0, 0, 0, 0, 0, 0, 0, 0, 0, 0, 0, 0, 0, 0, 0, 0], [7032, 1011, 7031, 90, 1], [])
def mzt_128 : mzT := (yX11_need_, cX11_need_, (some .int), [0, 1, 2, 5, 6, 9, 11, 12, 13, 14, 17], [0, 0, 7029, 0, 5191, 0, 0, 0, 0, 7033, 0], [7028, 1011, 7027, 89, 1], [])
def mzt_129 : mzT := (yX11_leastOf, cX11_leastOf, (some .int), [0, 1, 4, 5, 6, 7, 8, 9, 12, 13, 14, 15, 18, 21, 22, 25, 28, 29], [0, 6237, 0, 0, 0, 0, 0, 0, 0, 0, 0, 7025, 6099, 0, 0, 0, 0, 0], [6236, 1011, 6235, 82, 0], [])
def mzt_130 : mzT := (yX11_least, cX11_least, (some .int), [0, 1, 2, 5, 6, 9, 10, 11, 12, 15, 16, 17, 20, 21, 24, 25, 26, 27, 28, 31, 32, 33, 34, 37, 38, 41, 44, 47, 48], [0, 0, 5196, 0, 6233, 0, 0, 0, 5195, 0, 0, 6237, 0, 6205, 0, 0, 0, 0, 0, 0, 0, 0, 7025, 0, 6205, 0, 0, 0, 0], [6232, 1011, 6230, 6231, 0], [])
def mzt_131 : mzT := (yX11_earliest, cX11_earliest, (some .int), [0, 1, 2, 5, 6, 7, 9, 12, 15, 16, 17, 18, 19, 22, 25, 27, 28, 29, 30, 33, 36, 37, 38, 41, 44], [0, 0, 5196, 0, 0, 0, 6056, 0, 0, 0, 0, 0, 7001, 0, 0, 0, 0, 0, 5208, 7040, 0, 0, 5208, 7044, 0], [7039, 1011, 7037, 7038, 1], [])
def mzt_132 : mzT := (yX11_latest, cX11_latest, (some .int), [0, 1, 2, 5, 6, 7, 9, 12, 15, 16, 17, 18, 19, 22, 25, 27, 28, 29, 30, 33, 34, 35, 36, 37, 38, 39, 42, 43, 44, 47, 48, 49, 52, 53, 54, 55, 58, 59, 60, 63, 64, 67, 68, 69, 70, 73, 76, 77, 78, 81, 84, 85], [0, 0, 5196, 0, 0, 0, 6056, 0, 0, 0, 0, 0, 7001, 0, 0, 0, 0, 0, 7052, 0, 0, 0, 0, 0, 0, 5191, 0, 0, 0, 0, 0, 5208, 0, 0, 0, 5209, 0, 0, 0, 0, 0, 0, 0, 0, 0, 0, 0, 0, 5209, 7040, 0, 0], [7051, 1011, 7049, 7050, 1], [])
def mzt_133 : mzT := (yX11_reached, cX11_reached, (some .int), [0, 1, 2, 3, 4, 5, 6, 9, 10, 11, 12, 14, 16, 17, 20, 21, 22, 25, 27, 28, 31, 32, 34, 35, 36, 37, 40, 43, 44, 46, 48, 49, 52, 53, 54, 57, 58, 60, 62, 63, 66, 68, 71, 72, 73, 75, 76, 77, 78, 81, 84, 87, 90, 93, 94], [0, 0, 0, 0, 0, 0, 0, 0, 0, 0, 0, 0, 0, 5191, 0, 0, 0, 0, 0, 0, 0, 0, 0, 0, 0, 0, 0, 0, 0, 0, 0, 5191, 0, 0, 0, 0, 0, 0, 0, 7005, 7009, 0, 0, 0, 0, 0, 0, 0, 0, 0, 0, 0, 0, 0, 0], [7073, 1011, 7072, 95, 1], [])
def mzt_134 : mzT := (yX11_knots, cX11_knots, (some .int), [0, 1, 2, 5, 6, 7, 8, 9, 10, 11, 14, 15, 16, 19, 20, 21, 24, 25, 26, 27, 28, 29, 32, 33, 34, 35, 36, 37, 38, 41, 44, 45, 46, 49, 50, 51, 54, 55, 58, 59], [0, 0, 5196, 0, 0, 0, 0, 0, 0, 5191, 0, 0, 0, 0, 0, 7070, 0, 0, 0, 0, 0, 0, 0, 0, 0, 0, 0, 0, 0, 0, 0, 0, 5195, 0, 0, 7074, 0, 6205, 0, 0], [7069, 1011, 7067, 7068, 0], [])
def mzt_135 : mzT := (yX11_addressKind, cX11_addressKind, (some .int), [0, 1, 2, 5, 6, 9, 10, 11, 12, 13, 14, 17, 18, 19, 21, 24, 25, 26, 27, 29, 32, 33, 34, 35, 38, 41, 42, 43, 44, 47, 48, 49, 50, 51, 54, 56, 57, 58, 59, 62, 64, 65, 66, 69, 72, 74, 76, 79, 81, 83, 86, 88, 90, 93, 95, 97, 100, 101, 102, 105, 106, 109, 111, 113, 116, 118, 120, 123, 124, 127, 128, 130, 132, 135, 136, 139, 140], [0, 0, 6179, 0, 0, 0, 0, 0, 0, 0, 6183, 0, 0, 0, 0, 0, 0, 0, 0, 0, 0, 0, 0, 6191, 0, 0, 0, 0, 6194, 0, 0, 0, 0, 6183, 0, 0, 0, 0, 6183, 0, 0, 0, 6171, 0, 0, 0, 0, 0, 0, 0, 0, 0, 0, 0, 0, 0, 0, 0, 6171, 0, 0, 0, 0, 0, 0, 0, 0, 0, 0, 0, 0, 0, 0, 0, 0, 0, 0], [7082, 1011, 7081, 96, 1], [])
def mzt_136 : mzT := (yX11_addressIn, cX11_addressIn, (some .int), [0, 1, 2, 3, 6, 7, 8, 10, 13, 14, 15, 16, 18, 21, 22, 23, 24, 27, 29, 30, 32, 33, 36, 38, 39, 41, 42, 45, 47, 48, 50, 53, 54, 57, 58, 60, 61, 64, 66, 68, 71, 72, 74, 75, 78, 79, 81, 82], [0, 0, 0, 6183, 0, 0, 0, 0, 0, 0, 0, 0, 0, 0, 0, 0, 6194, 0, 0, 0, 0, 6183, 0, 0, 0, 0, 6183, 0, 0, 0, 6171, 0, 0, 0, 0, 0, 0, 0, 0, 0, 0, 0, 0, 0, 0, 0, 0, 0], [7086, 1011, 7085, 97, 2], [])
def mzt_137 : mzT := (yX11_address, cX11_address, (some .int), [0, 1, 2, 5, 6, 7, 10, 13, 14, 15, 16, 17, 20, 21, 22, 23, 26, 27, 30, 31, 32, 33, 34, 37, 38, 41, 42], [0, 0, 5196, 0, 0, 6135, 0, 0, 0, 0, 0, 7079, 0, 0, 0, 5195, 0, 0, 0, 0, 0, 0, 7083, 0, 6205, 0, 0], [7078, 1011, 7076, 7077, 1], [])
def mzt_138 : mzT := (yX11_bankOf, cX11_bankOf, (some .int), [0, 1, 3, 4, 5, 6, 9, 11, 12, 13, 14, 16, 17, 20, 22, 23, 24, 25, 28, 29, 31, 32, 35, 36, 38, 40, 41, 42], [0, 0, 0, 0, 0, 5191, 0, 0, 0, 0, 0, 0, 5191, 0, 0, 0, 0, 0, 0, 0, 0, 0, 0, 0, 0, 0, 0, 0], [7122, 1011, 7121, 105, 2], [])
def mzt_139 : mzT := (yX11_arePeaceful, cX11_arePeaceful, (some .boolean), [0, 1, 2, 5, 8, 9, 10, 13, 16, 17, 18, 19, 21, 23, 25, 28, 29, 30, 31, 34, 35, 36, 38, 41, 44, 45, 46, 47, 50, 51, 52, 54, 55, 56, 59, 62, 65, 66, 67, 70, 73, 74], [0, 0, 7079, 0, 0, 0, 7079, 0, 0, 0, 0, 0, 0, 0, 0, 0, 0, 0, 6179, 0, 0, 0, 7083, 7119, 0, 0, 0, 6179, 0, 0, 0, 0, 0, 7083, 7119, 0, 0, 0, 0, 0, 0, 0], [7118, 1011, 7117, 104, 3], [])
def mzt_140 : mzT := (yX11_isPut, cX11_isPut, (some .boolean), [0, 1, 4, 5, 6, 7, 8, 9, 12, 13, 16, 17], [0, 5211, 0, 0, 0, 0, 0, 0, 0, 0, 0, 0], [7106, 1011, 7105, 101, 1], [])
def mzt_141 : mzT := (yX11_hasRoom, cX11_hasRoom, (some .boolean), [0, 1, 3, 4, 6, 8, 9, 12, 13, 14, 17, 18, 20, 23, 26, 27, 28, 31, 33, 34, 36, 37, 38, 39, 40, 43, 46, 47, 48, 51, 52, 55, 56, 58, 61, 62, 63, 66, 69, 70, 71, 73, 74, 75, 78, 80, 81, 83, 84, 85, 86, 87, 90, 93, 94, 95, 96, 98, 101, 102, 105, 106, 108, 111, 112, 113, 116, 119, 122, 125, 128, 129, 130, 133, 134, 137, 139, 140, 143, 144, 145, 148, 151, 153, 156, 158, 159, 162, 163, 166, 167], [0, 0, 0, 0, 0, 0, 5191, 0, 0, 0, 0, 0, 7103, 0, 0, 0, 5210, 0, 0, 0, 0, 0, 0, 0, 0, 0, 0, 0, 6179, 0, 0, 0, 0, 6179, 0, 0, 6179, 0, 0, 0, 0, 0, 0, 5210, 0, 0, 0, 0, 0, 0, 0, 7115, 0, 0, 0, 0, 0, 6179, 0, 0, 0, 0, 7017, 0, 0, 7017, 0, 0, 0, 0, 0, 0, 6179, 0, 0, 0, 0, 5191, 0, 0, 7017, 0, 0, 0, 0, 0, 0, 0, 0, 0, 0], [7114, 1011, 7113, 103, 3], [])
def mzt_142 : mzT := (yX11_putOne, cX11_putOne, (some .boolean), [0, 1, 4, 5, 6, 7, 8, 10, 12, 13, 16, 17, 18, 21, 22, 24, 27, 30, 31, 32, 35, 37, 38, 39, 40, 42, 43, 46, 47, 50, 51, 54, 57, 58, 59, 60, 63, 64, 65, 67, 68, 70, 71, 73, 75, 76, 79, 80, 81, 83, 85, 86, 87, 90, 93, 96, 97, 100, 101, 103, 106, 107, 110, 112, 114, 116, 117, 118, 119, 120, 121, 124, 125, 126, 127, 128, 131, 132, 134, 136, 137, 140, 141, 142, 145, 146, 148, 151, 154, 155, 158, 160, 161, 162, 165, 166, 167, 168, 170, 171, 172, 175, 176, 179, 180, 181, 184, 187, 188, 189, 192, 195, 196], [0, 5208, 0, 0, 0, 0, 0, 0, 0, 5191, 0, 0, 0, 0, 0, 7103, 0, 0, 0, 5210, 0, 0, 0, 0, 0, 0, 7005, 0, 6099, 0, 0, 0, 0, 0, 0, 7021, 0, 0, 0, 0, 0, 0, 0, 0, 0, 0, 0, 0, 0, 0, 0, 0, 7111, 0, 0, 0, 5210, 0, 0, 0, 0, 0, 0, 0, 0, 0, 0, 0, 0, 0, 5211, 0, 0, 0, 0, 5211, 0, 0, 0, 0, 5191, 0, 0, 0, 0, 0, 7103, 0, 0, 5210, 0, 0, 0, 5210, 0, 0, 0, 0, 0, 0, 7005, 0, 0, 0, 0, 0, 0, 0, 0, 0, 0, 0, 0], [7110, 1011, 7109, 102, 2], [])
def mzt_143 : mzT := (yX11_planOf, cX11_planOf, (some .boolean), [0, 1, 2, 5, 6, 7, 8, 9, 12, 13, 14, 17, 18, 19, 20, 22, 24, 25, 28, 29, 30, 33, 34, 36, 39, 42, 43, 44, 47, 48, 51, 53, 54, 55, 58, 59, 60, 63, 65, 66, 69, 72, 73, 74, 75, 78, 81, 82, 83, 86, 89, 90], [0, 0, 5211, 0, 0, 0, 0, 5191, 0, 0, 0, 0, 0, 0, 0, 0, 0, 5191, 0, 0, 0, 0, 0, 7103, 0, 0, 0, 0, 0, 5209, 0, 0, 0, 5209, 0, 0, 0, 0, 0, 0, 0, 0, 0, 0, 7107, 0, 0, 0, 0, 0, 0, 0], [7102, 1011, 7101, 100, 1], [])
def mzt_144 : mzT := (yX11_isPlan, cX11_isPlan, (some .boolean), [0, 1, 2, 5, 8, 9, 10, 11, 12, 15, 16, 17, 20], [0, 0, 7001, 0, 0, 0, 0, 0, 7052, 0, 0, 7099, 0], [7098, 1011, 7097, 99, 1], [])
def mzt_145 : mzT := (yX11_gapOf, cX11_gapOf, (some .int), [0, 1, 4, 5, 6, 9, 10, 11, 12, 15, 16, 17, 20, 23, 24, 25, 28, 31, 34, 37, 38], [0, 5191, 0, 0, 0, 0, 0, 0, 6233, 0, 0, 0, 0, 0, 0, 7095, 0, 0, 0, 0, 0], [7094, 1011, 7093, 98, 0], [])
def mzt_146 : mzT := (yX11_tellTicks, cX11_tellTicks, none, [0, 1, 2, 5, 6, 7, 8, 9, 12, 13, 14, 17, 18, 19, 22, 23, 24, 26, 27, 28, 31, 34, 37], [0, 0, 5195, 0, 0, 0, 0, 5191, 0, 0, 0, 0, 0, 5210, 0, 0, 0, 0, 0, 6205, 0, 0, 0], [7126, 1011, 7125, 106, 0], [])
def mzt_147 : mzT := (yX11_gap, cX11_gap, (some .int), [0, 1, 2, 5, 6, 9, 10, 11, 14, 15], [0, 0, 5196, 0, 7091, 0, 0, 7123, 0, 0], [7090, 1011, 7088, 7089, 0], [])
def mzt_148 : mzT := (yX11_begins, cX11_begins, (some .int), [0, 1, 2, 5, 6, 7, 10, 13, 14, 17, 18, 19, 22, 25, 26, 29, 30, 33, 34, 35], [0, 0, 5196, 0, 0, 6135, 0, 0, 6127, 0, 0, 7091, 0, 0, 0, 0, 5210, 0, 0, 0], [7130, 1011, 7128, 7129, 1], [])
def mzt_149 : mzT := (yX11_why, cX11_why, (some .int), [0, 1, 2, 5, 6, 9, 10, 11, 12, 13, 14, 15, 16, 19, 20, 21, 24, 25, 28, 29, 30, 31, 32, 33, 34, 37, 40, 41, 44, 45, 48, 49, 51, 52, 53, 54, 55, 58, 59, 60, 61, 64, 65, 66, 69, 70], [0, 0, 5196, 0, 7091, 0, 0, 0, 0, 0, 0, 0, 0, 0, 0, 7025, 0, 0, 0, 0, 0, 0, 0, 0, 0, 0, 0, 6237, 0, 0, 0, 0, 0, 0, 0, 0, 5195, 0, 0, 0, 6233, 0, 0, 6205, 0, 0], [7134, 1011, 7132, 7133, 0], [])
def mzt_150 : mzT := (yX11_plan, cX11_plan, (some .int), [0, 1, 2, 5, 6, 7, 9, 12, 15, 16, 17, 18, 19, 22, 23, 24, 27, 28, 31, 32, 35, 36, 39, 40], [0, 0, 5196, 0, 0, 0, 6056, 0, 0, 0, 0, 0, 7095, 0, 0, 0, 0, 7123, 0, 0, 0, 0, 0, 0], [7138, 1011, 7136, 7137, 1], [])
def mzt_151 : mzT := (yX11_length, cX11_length, (some .int), [0, 1, 2, 5, 6, 9, 10, 11, 14, 15, 16, 19, 20, 23, 24, 25, 28, 31, 32, 33, 34, 37, 38, 39, 42, 43, 44, 47, 48, 51, 52, 53, 56, 57, 60, 61], [0, 0, 5196, 0, 7091, 0, 0, 5191, 0, 0, 0, 0, 0, 0, 0, 5210, 7044, 0, 0, 0, 5195, 0, 0, 5191, 0, 0, 0, 0, 0, 0, 0, 7033, 0, 6205, 0, 0], [7142, 1011, 7140, 7141, 0], [])
def mzt_152 : mzT := (yX11_state, cX11_state, (some .int), [0, 1, 2, 5, 6, 9, 10, 11, 12, 13, 14, 15, 18, 21, 22, 23, 24, 25, 26, 28, 30, 31, 34, 35, 36, 39, 40, 41, 44, 46, 47, 49, 50, 51, 52, 53, 56, 57, 59, 60, 63, 64, 65, 66, 69, 72, 73], [0, 0, 5196, 0, 7091, 0, 0, 0, 0, 0, 0, 6056, 0, 0, 0, 0, 0, 0, 0, 0, 0, 5191, 0, 0, 0, 0, 0, 5210, 0, 0, 0, 0, 0, 0, 0, 0, 0, 0, 0, 0, 0, 0, 0, 0, 0, 0, 0], [7146, 1011, 7144, 7145, 1], [])
def mzt_153 : mzT := (yX11_roundAt, cX11_roundAt, (some .int), [0, 1, 2, 5, 6, 7, 9, 10, 11, 13, 15, 18, 20, 22, 23, 26, 28, 30, 31, 32, 35, 37, 39, 40, 43, 44], [0, 0, 5210, 0, 0, 0, 0, 0, 0, 0, 0, 0, 0, 0, 0, 0, 0, 0, 0, 0, 0, 0, 0, 0, 0, 0], [7154, 1011, 7153, 107, 4], [])
def mzt_154 : mzT := (yX11_tick, cX11_tick, (some .int), [0, 1, 2, 5, 6, 9, 10, 11, 13, 16, 19, 20, 21, 22, 25, 26, 27, 29, 30, 31, 34, 35, 37, 39, 40, 43, 44, 45, 48, 49, 51, 52, 53, 54, 57, 59, 61, 63, 64, 67, 68, 70, 71, 74, 75, 76, 78, 79, 81, 82, 85, 88, 91, 93], [0, 0, 5196, 0, 0, 0, 0, 0, 6056, 0, 0, 0, 0, 7091, 0, 0, 0, 0, 0, 5195, 0, 0, 0, 0, 5191, 0, 0, 0, 0, 0, 0, 0, 0, 7151, 0, 0, 0, 0, 0, 0, 0, 0, 0, 0, 0, 0, 0, 0, 0, 6205, 0, 0, 0, 0], [7150, 1011, 7148, 7149, 2], [])
def mzt_155 : mzT := (yX11_lastUse, cX11_lastUse, (some .int), [0, 1, 2, 3, 5, 7, 8, 11, 12, 13, 16, 17, 19, 21, 22, 25, 26, 28, 30, 33, 35, 37, 40, 43, 45, 48, 49, 52, 53, 54, 57, 59, 60, 62, 63, 64, 66, 69, 70, 71, 74, 75, 78, 81, 84, 87, 88], [0, 0, 0, 0, 0, 0, 5191, 0, 0, 0, 0, 0, 0, 0, 0, 0, 0, 0, 6183, 0, 0, 7010, 0, 0, 6194, 0, 0, 0, 0, 5210, 0, 0, 0, 0, 0, 0, 6191, 0, 0, 6099, 0, 0, 0, 0, 0, 0, 0], [7162, 1011, 7161, 108, 2], [])
def mzt_156 : mzT := (yX11_registers, cX11_registers, (some .int), [0, 1, 2, 5, 6, 9, 10, 11, 12, 13, 14, 15, 17, 19, 20, 23, 24, 26, 27, 29, 31, 32, 35, 36, 37, 40, 41, 43, 44, 47, 49, 50, 53, 55, 56, 57, 59, 62, 63, 65, 68, 70, 72, 74, 75, 77, 80, 82, 84, 85, 86, 88, 91, 92, 95, 96, 97, 99, 102, 105, 108, 111, 113, 114, 117, 120, 122, 123, 125, 126, 129, 132, 133, 134, 137, 138, 141, 142, 143, 146, 147, 148, 149, 152, 153], [0, 0, 5196, 0, 7091, 0, 0, 0, 0, 0, 0, 0, 0, 0, 0, 0, 0, 0, 0, 0, 0, 5191, 0, 0, 0, 0, 0, 0, 7159, 0, 0, 5210, 0, 0, 0, 0, 7013, 0, 0, 7033, 0, 0, 0, 0, 0, 0, 0, 0, 0, 0, 0, 0, 0, 0, 0, 0, 0, 0, 0, 0, 0, 0, 0, 0, 0, 0, 0, 0, 0, 0, 0, 0, 0, 5195, 0, 5191, 0, 0, 0, 0, 0, 0, 6205, 0, 0], [7158, 1011, 7156, 7157, 0], [])
def mzt_157 : mzT := (yX11_newAt, cX11_newAt, (some .int), [0, 1, 2, 3, 5, 7, 8, 11, 12, 15, 17, 18, 19, 22, 23, 24, 27, 30, 31, 32, 33, 34, 37, 39, 40, 41, 44, 45, 46, 49, 50, 51, 52, 55, 58, 59, 60, 63, 66, 67, 70, 71, 74, 75], [0, 0, 0, 0, 0, 0, 0, 0, 5212, 0, 0, 0, 5212, 0, 0, 0, 0, 0, 0, 0, 0, 5214, 0, 0, 0, 6183, 0, 0, 5214, 0, 0, 0, 6183, 0, 0, 0, 0, 0, 0, 0, 0, 0, 0, 0], [7179, 1011, 7178, 111, 2], [])
def mzt_158 : mzT := (yX11_isFree, cX11_isFree, (some .boolean), [0, 1, 2, 3, 4, 7, 8, 11, 12, 13, 14, 17, 18, 19, 22, 23, 26, 27, 30, 31, 32, 33, 35, 36, 37, 40, 41, 44, 45, 46, 47, 49, 50, 51, 52, 53, 56, 57, 58, 61, 64, 65], [0, 0, 0, 0, 0, 0, 5212, 0, 0, 0, 5212, 0, 0, 0, 0, 5210, 0, 5214, 0, 0, 0, 0, 0, 0, 5210, 0, 5214, 0, 0, 0, 0, 0, 0, 0, 0, 0, 0, 0, 0, 0, 0, 0], [7175, 1011, 7174, 110, 2], [])
def mzt_159 : mzT := (yX11_bind, cX11_bind, none, [0, 2, 3, 6, 9, 10, 11, 12, 15, 18, 19, 21, 24, 25, 27, 29, 30, 33, 34, 37, 39, 40, 43, 45, 46, 47, 50, 53, 54, 55, 57, 59, 60, 63, 64, 67, 68, 70, 71, 72, 73, 74, 77, 80, 81, 82, 83, 84, 85, 86, 88, 89, 90, 91, 94, 95, 96, 97, 98, 101, 102, 105, 108, 111], [0, 0, 5216, 0, 0, 0, 0, 5215, 0, 0, 0, 5216, 0, 0, 0, 0, 0, 0, 5213, 0, 0, 5212, 0, 0, 0, 0, 0, 0, 0, 0, 0, 0, 0, 0, 5212, 0, 0, 0, 0, 0, 0, 7172, 0, 0, 0, 0, 0, 0, 0, 0, 0, 0, 0, 7176, 0, 0, 0, 0, 7176, 0, 7168, 0, 0, 0], [7171, 1011, 7170, 109, 4], [])
def mzt_160 : mzT := (yX11_binds, cX11_binds, (some .int), [0, 1, 2, 5, 6, 7, 8, 11, 14, 15, 16, 17, 20, 21, 22, 23, 26, 27, 28, 29, 30, 33, 34, 35, 38, 39, 40, 43, 44, 47, 48, 49, 52, 53, 56, 57, 60, 61, 64, 65, 68, 69, 70, 73, 74, 75, 76, 79, 80, 81, 84, 87, 88, 91, 94, 95, 96, 97, 100, 102, 103, 104, 105, 106, 107, 110, 111, 112, 115, 116, 117, 118, 119, 122, 125, 126, 127, 130, 131, 132, 133, 136, 139, 142, 143, 146], [0, 0, 5196, 0, 0, 0, 6056, 0, 0, 0, 0, 7091, 0, 0, 0, 5215, 0, 0, 0, 0, 5191, 0, 0, 0, 0, 0, 6179, 0, 0, 0, 0, 7017, 0, 0, 0, 0, 0, 0, 0, 5214, 0, 0, 5215, 0, 0, 0, 5215, 0, 0, 0, 0, 0, 7167, 5216, 0, 0, 0, 5191, 0, 0, 0, 0, 0, 0, 7168, 0, 0, 5195, 0, 0, 0, 0, 5215, 0, 0, 0, 5213, 0, 0, 0, 6205, 0, 0, 0, 5216, 0], [7166, 1011, 7164, 7165, 1], [])
def mzt_161 : mzT := (yX11_shares, cX11_shares, (some .int), [0, 1, 2, 5, 6, 9, 12, 13, 14, 15, 18, 19, 20, 21, 22, 23, 26, 27, 29, 31, 32, 35, 36, 37, 40, 42, 43, 44, 46, 48, 49, 52, 53, 54, 57, 58, 60, 63, 64, 67, 68, 70, 73, 74, 77, 78, 81, 83, 84, 86, 87, 88, 91, 93, 94, 96, 97, 98, 99, 100, 103, 106, 107, 110, 111, 113, 114, 117, 118, 120, 121, 124, 127, 130, 133, 136, 139, 140], [0, 0, 5196, 0, 6120, 0, 0, 0, 0, 7091, 0, 0, 0, 0, 0, 5195, 0, 0, 0, 0, 5191, 0, 0, 0, 0, 0, 0, 0, 0, 0, 5191, 0, 0, 0, 0, 0, 6179, 0, 0, 0, 0, 6179, 0, 0, 0, 5210, 0, 0, 0, 0, 0, 5210, 0, 0, 0, 0, 0, 0, 0, 0, 0, 0, 0, 0, 0, 0, 6205, 0, 0, 0, 6205, 0, 0, 0, 0, 0, 0, 0], [7183, 1011, 7181, 7182, 1], [])
def mzt_162 : mzT := (yX11_sumOfCells, cX11_sumOfCells, (some .int), [0, 1, 2, 3, 4, 5, 7, 10, 11, 12, 15, 17, 18, 19, 20, 21, 22, 25, 28, 29], [0, 0, 0, 0, 0, 0, 0, 0, 0, 5191, 0, 0, 0, 0, 0, 0, 0, 0, 0, 0], [7195, 1011, 7194, 113, 0], [])
def mzt_163 : mzT := (yX11_keepNow, cX11_keepNow, none, [0, 1, 2, 3, 5, 8, 9, 12, 13, 14, 17, 18, 19, 20, 23, 26], [0, 0, 0, 0, 0, 0, 5217, 0, 0, 5191, 0, 0, 0, 0, 0, 0], [7191, 1011, 7190, 112, 0], [])
def mzt_164 : mzT := (yX11_backNow, cX11_backNow, none, [0, 1, 2, 3, 5, 8, 9, 12, 13, 14, 17, 18, 19, 20, 23, 26], [0, 0, 0, 0, 0, 0, 5191, 0, 0, 5217, 0, 0, 0, 0, 0, 0], [7199, 1011, 7198, 114, 0], [])
def mzt_165 : mzT := (yX11_plays, cX11_plays, (some .int), [0, 1, 2, 5, 6, 7, 9, 12, 15, 16, 17, 18, 21, 22, 23, 26, 27, 30, 31, 32, 35, 36, 37, 40, 41], [0, 0, 5196, 0, 0, 0, 6056, 0, 0, 0, 0, 7188, 0, 0, 6167, 0, 7192, 0, 0, 7196, 0, 0, 6201, 0, 0], [7187, 1011, 7185, 7186, 1], [])
def mzt_166 : mzT := (yX11_goTick, cX11_goTick, none, [0, 1, 3, 4, 6, 8, 10, 13, 14, 16, 18, 19, 22, 23, 24, 27, 28, 30, 31, 32, 33, 36, 38, 40, 41, 44, 45, 48, 50, 51, 53, 54, 56, 59, 62, 63, 65, 68, 69, 72, 73, 76, 77, 79, 81, 84, 85, 87, 90, 91, 93, 96, 97, 100, 101, 102, 104, 105, 108, 110, 113, 115, 116, 119, 121, 122, 124, 126, 129, 130, 131, 134, 136, 138, 139, 142, 145, 146, 148, 150, 153, 155, 156, 159, 161, 163, 164, 166, 167, 169, 170, 173, 176, 179, 182, 183, 185, 187, 189, 192, 193, 196, 197, 200, 202, 203, 204, 207, 209, 210, 211, 214, 217], [0, 0, 0, 0, 0, 0, 0, 0, 0, 0, 0, 5191, 0, 0, 0, 0, 0, 0, 0, 0, 7151, 0, 0, 0, 0, 0, 5210, 0, 0, 0, 0, 0, 0, 0, 0, 0, 6171, 0, 0, 0, 5191, 0, 0, 0, 6175, 0, 0, 0, 0, 0, 6171, 0, 0, 0, 0, 0, 0, 6183, 0, 6187, 0, 0, 5218, 0, 0, 0, 0, 6175, 0, 0, 5219, 0, 0, 0, 0, 0, 0, 0, 0, 6197, 0, 0, 5206, 0, 0, 0, 0, 0, 0, 0, 0, 0, 0, 0, 0, 0, 0, 0, 0, 0, 5191, 0, 5218, 0, 0, 0, 5219, 0, 0, 0, 0, 0, 0], [7211, 1011, 7210, 116, 3], [])
def mzt_167 : mzT := (yX11_ticksOf, cX11_ticksOf, (some .int), [0, 1, 4, 5, 6, 9, 10, 13, 14, 17, 18, 19, 20, 21, 22, 23, 24, 27, 30, 31], [0, 5191, 0, 0, 0, 0, 0, 0, 0, 0, 0, 0, 0, 0, 0, 0, 5210, 7044, 0, 0], [7207, 1011, 7206, 115, 2], [])
def mzt_168 : mzT := (yX11_machine, cX11_machine, (some .int), [0, 1, 2, 5, 6, 7, 9, 12, 15, 16, 17, 18, 21, 22, 23, 26, 27, 28, 29, 32, 33, 34, 36, 38, 39, 42, 43, 45, 46, 47, 50, 53, 56, 57, 60, 62, 63, 66, 67, 68, 71, 72, 74, 75, 78, 79], [0, 0, 5196, 0, 0, 0, 6056, 0, 0, 0, 0, 7091, 0, 0, 7188, 0, 0, 0, 7204, 0, 0, 0, 0, 0, 0, 0, 0, 0, 0, 7208, 0, 0, 0, 7192, 0, 0, 7196, 0, 0, 6201, 0, 0, 0, 6205, 0, 0], [7203, 1011, 7201, 7202, 1], [])
def mzt_169 : mzT := (yX11_saves, cX11_saves, (some .int), [0, 1, 2, 5, 6, 7, 9, 12, 15, 16, 17, 18, 21, 22, 23, 26, 27, 28, 31, 32, 35, 36, 37, 40, 43, 44, 47, 48, 49, 50, 51, 52, 53, 54, 57, 58], [0, 0, 5196, 0, 0, 0, 6056, 0, 0, 0, 0, 7091, 0, 0, 5191, 0, 0, 0, 0, 0, 0, 0, 5210, 7044, 0, 0, 0, 0, 0, 0, 0, 0, 0, 7204, 0, 0], [7215, 1011, 7213, 7214, 1], [])
def mzt_170 : mzT := (yX11_isWithin, cX11_isWithin, (some .boolean), [0, 1, 4, 5, 8, 9, 12, 13], [0, 7091, 0, 0, 0, 0, 0, 0], [7227, 1011, 7226, 118, 1], [])
def mzt_171 : mzT := (yX11_costOf, cX11_costOf, (some .int), [0, 1, 4, 6, 7, 8, 9, 12, 14, 15, 16, 17, 18, 21, 23, 24, 25, 26, 29, 31, 32, 33], [0, 5191, 0, 0, 0, 0, 5191, 0, 0, 0, 0, 0, 5191, 0, 0, 0, 0, 5191, 0, 0, 0, 0], [7223, 1011, 7222, 117, 0], [])
def mzt_172 : mzT := (yX11_cheapest, cX11_cheapest, (some .int), [0, 1, 2, 5, 6, 7, 9, 12, 15, 16, 17, 18, 21, 24, 25, 26, 27, 28, 30, 32, 33, 36, 37, 39, 41, 42, 45, 46, 48, 50, 51, 54, 55, 57, 59, 60, 63, 64, 67, 69, 71, 72, 73, 76, 78, 80, 81, 82, 85, 87, 89, 90, 91, 94, 96, 98, 99, 100, 103, 104, 107, 108, 109, 112, 115, 118, 119, 122, 123, 126, 128, 129, 131, 133, 134, 135, 137, 139, 140, 141, 143, 144, 145, 147, 148, 149, 151, 154, 156, 157, 158, 160, 163, 166, 169, 172, 175, 176, 179, 180, 183, 186, 188, 189, 190, 191, 194, 197, 199, 201, 204, 205, 206, 208, 209, 211, 212, 213, 216, 218, 220, 221, 223, 226, 227], [0, 0, 5196, 0, 0, 0, 6056, 0, 0, 0, 0, 7188, 7167, 0, 0, 0, 0, 0, 0, 0, 0, 0, 0, 0, 0, 0, 0, 0, 0, 0, 0, 0, 0, 0, 0, 0, 0, 5191, 0, 0, 0, 0, 5191, 0, 0, 0, 0, 5191, 0, 0, 0, 0, 5191, 0, 0, 0, 0, 7220, 0, 0, 0, 0, 7224, 0, 0, 0, 7220, 0, 0, 0, 0, 0, 0, 0, 0, 0, 0, 0, 0, 0, 0, 0, 0, 0, 0, 0, 0, 0, 0, 0, 0, 0, 0, 0, 0, 0, 0, 7196, 0, 7167, 0, 0, 0, 0, 0, 5195, 0, 0, 0, 0, 0, 0, 0, 0, 0, 0, 0, 6205, 0, 0, 0, 0, 0, 0, 0], [7219, 1011, 7217, 7218, 1], [])
def mzt_173 : mzT := (yX11_would, cX11_would, (some .int), [0, 1, 2, 5, 6, 7, 8, 11, 12, 13, 16, 17, 18, 19, 22, 24, 25, 28, 30, 31, 32, 33, 35, 36, 39, 41, 42, 43, 44, 45, 46, 49, 51, 52, 55, 57, 58, 59, 61, 62, 63, 64, 67, 68, 70, 72, 73, 74, 77, 79], [0, 0, 5196, 0, 0, 0, 6147, 0, 0, 0, 0, 0, 0, 7091, 0, 0, 5191, 0, 0, 0, 0, 0, 0, 5191, 0, 0, 0, 0, 0, 0, 7091, 0, 0, 5191, 0, 0, 0, 0, 0, 0, 0, 5195, 0, 0, 0, 0, 0, 6205, 0, 0], [7231, 1011, 7229, 7230, 2], [])
def mzt_174 : mzT := (yX11_draw, cX11_draw, (some .int), [0, 1, 2, 5, 8, 9, 12, 13, 16, 17, 20, 22, 23, 24, 25], [0, 0, 5220, 8004, 0, 0, 0, 5220, 0, 5220, 0, 0, 0, 0, 0], [8003, 1011, 8002, 120, 1], [])
def mzt_175 : mzT := (yX11_goDrawn, cX11_goDrawn, none, [0, 1, 3, 6, 40, 41, 44, 46, 47, 48, 51, 52, 53, 54, 55, 56, 59, 61, 62, 63, 66, 67, 68, 69, 70, 71, 74, 76, 77, 78, 79, 82, 83, 84, 85, 86, 89, 91, 92, 93, 94, 97, 98, 99, 100, 101, 104, 106, 107, 109, 112, 113, 114, 115, 116, 117, 120, 122, 123, 124, 127, 128, 129, 130], [0, 0, 8000, 0, 0, 5191, 0, 0, 0, 8000, 0, 0, 0, 0, 0, 5191, 0, 0, 0, 8000, 0, 0, 0, 0, 0, 5191, 0, 0, 0, 0, 8000, 0, 0, 0, 0, 5191, 0, 0, 0, 0, 8000, 0, 0, 0, 0, 5191, 0, 0, 0, 8000, 0, 0, 0, 0, 0, 5191, 0, 0, 0, 8000, 0, 0, 0, 0], [7239, 1011, 7238, 119, 0], [])
def mzt_176 : mzT := (yX11_years, cX11_years, (some .int), [0, 1, 2, 5, 6, 7, 9, 12, 15, 16, 17, 18, 19, 22, 23, 26, 27, 28, 29, 30, 33, 34, 37, 40, 43, 44, 47, 48, 49, 50, 53, 54, 55, 58, 59, 60, 63, 64, 67, 68, 69, 72, 75, 76, 79, 80, 81, 84, 85, 88, 89, 92, 93], [0, 0, 5196, 0, 0, 0, 6056, 0, 0, 0, 0, 0, 5220, 0, 7188, 0, 0, 0, 0, 0, 0, 7236, 0, 0, 0, 7091, 0, 0, 0, 5195, 0, 0, 5191, 0, 0, 0, 0, 0, 0, 0, 5210, 7044, 0, 6205, 0, 0, 7220, 0, 6205, 0, 7196, 0, 0], [7235, 1011, 7233, 7234, 2], [])
def mzt_177 : mzT := (yX11_keep, cX11_keep, (some .boolean), [0, 1, 2, 5, 6, 7, 8, 11, 14, 15, 16, 17, 20, 21, 22, 23, 24, 25, 26, 28, 31, 32, 35, 37, 38, 39, 40, 41, 42, 45, 46, 47, 48, 51, 54, 55], [0, 0, 5196, 0, 0, 0, 6056, 0, 0, 0, 0, 5222, 0, 0, 0, 0, 0, 0, 0, 0, 0, 5221, 0, 0, 0, 0, 0, 0, 5191, 0, 0, 0, 0, 0, 0, 0], [8008, 1011, 8006, 8007, 1], [])
def mzt_178 : mzT := (yX11_again, cX11_again, (some .boolean), [0, 1, 2, 5, 6, 7, 8, 11, 14, 15, 18, 19, 20, 23, 24, 25, 26, 27, 28, 30, 33, 34, 37, 38, 39, 42, 44, 45, 46, 47, 48, 49, 50, 53, 56, 57, 58, 61, 62], [0, 0, 5196, 0, 0, 0, 6056, 0, 0, 5222, 0, 0, 0, 0, 0, 0, 0, 0, 0, 0, 0, 5191, 0, 0, 5221, 0, 0, 0, 0, 0, 0, 0, 0, 0, 0, 0, 5204, 0, 0], [8012, 1011, 8010, 8011, 1], [])
def mzt_179 : mzT := (yX11_sortMany, cX11_sortMany, (some .int), [0, 1, 2, 3, 4, 5, 6, 9, 10, 11, 14, 15, 16, 17, 20, 21, 24, 25, 28, 29, 30, 31, 34, 37, 38], [0, 0, 0, 0, 0, 0, 5191, 0, 0, 0, 0, 0, 0, 6171, 0, 0, 0, 0, 0, 0, 0, 0, 0, 0, 0], [8020, 1011, 8019, 121, 1], [])
def mzt_180 : mzT := (yX11_count, cX11_count, (some .int), [0, 1, 2, 5, 6, 7, 9, 12, 15, 16, 19, 21, 22, 23, 24, 25, 26, 27, 28, 112, 113, 116, 117, 118, 119, 120, 121, 124, 125, 126, 127, 130, 131, 132, 133, 136, 137, 138, 139, 142, 143, 144, 147, 148, 149, 152, 153, 154, 157, 158, 159], [0, 0, 5196, 0, 0, 0, 6056, 0, 0, 5191, 0, 0, 0, 0, 0, 0, 0, 0, 0, 0, 5191, 0, 0, 0, 0, 0, 7029, 0, 0, 0, 7029, 0, 0, 0, 8017, 0, 0, 0, 8017, 0, 0, 5204, 0, 0, 5195, 0, 0, 5193, 0, 0, 0], [8016, 1011, 8014, 8015, 1], [])
def mzt_181 : mzT := (yX11_row, cX11_row, (some .long), [0, 1, 2, 5, 6, 7, 8, 11, 12, 13, 16, 19, 20, 23, 24, 25, 28, 29, 32, 33], [0, 0, 5196, 0, 0, 0, 5195, 0, 0, 6056, 0, 0, 5194, 0, 0, 0, 0, 6127, 0, 0], [8024, 1011, 8022, 8023, 1], [])
def mzt_182 : mzT := (yX0_init, cX0_init, none, [0, 1, 4, 5, 6, 9, 10, 12, 14, 17, 18, 19, 22, 23, 24, 27, 28, 30, 32, 35, 36, 38, 40, 43, 44, 46, 48, 51, 52, 54, 56, 59, 60, 61, 63, 66, 67, 68, 70, 73, 74, 75, 77, 80, 81, 82, 85, 86, 87, 90], [0, 2027, 0, 0, 2030, 0, 0, 1088, 2032, 0, 0, 2034, 0, 0, 2035, 0, 0, 1088, 2036, 0, 0, 2070, 2037, 0, 0, 2070, 2038, 0, 0, 2070, 2039, 0, 0, 2070, 2040, 0, 0, 2070, 2041, 0, 0, 2070, 2042, 0, 0, 2028, 0, 0, 2029, 0], [2026, 1008, 2025, 0, 2], [])
def mzt_183 : mzT := (yX0_bind, cX0_bind, (some .int), [0, 1, 2, 5, 6, 7, 8, 9, 12, 15, 18, 19, 22, 23, 26, 27, 30, 33, 36, 37, 40, 43, 44, 45, 46, 49, 50, 53, 54, 57, 58, 59, 62, 63, 66, 67, 68, 69, 72, 73, 76, 77, 78, 81, 84, 85, 86, 89, 90, 91, 92, 95, 96, 99, 100, 101, 104, 107, 108, 109, 112, 113, 114, 115, 116, 119, 120, 121, 124, 127, 130, 131, 132, 135, 138, 139, 140, 141, 144, 147, 148, 150, 153, 154, 157, 158, 161, 162, 165, 166, 169, 170, 173, 174, 177, 178, 179, 180, 181, 184, 185, 188], [0, 0, 2030, 0, 0, 0, 0, 2028, 1036, 0, 0, 0, 0, 2028, 0, 4187, 0, 0, 0, 2028, 1043, 0, 0, 0, 0, 0, 2037, 0, 2030, 0, 0, 2029, 0, 4188, 0, 0, 0, 2038, 0, 2030, 0, 0, 2028, 1053, 0, 0, 4189, 0, 0, 0, 2039, 0, 2030, 0, 0, 2028, 1059, 0, 0, 4189, 0, 0, 0, 0, 2030, 0, 0, 2030, 0, 0, 0, 0, 2028, 1069, 0, 0, 0, 4194, 2034, 0, 0, 2035, 0, 2040, 0, 4195, 0, 2041, 0, 4195, 0, 2042, 0, 4195, 0, 0, 0, 0, 4198, 0, 2035, 0], [4186, 1008, 4184, 4185, 1], [])
def mzt_184 : mzT := (yX0_closeUp, cX0_closeUp, (some .int), [0, 1, 3, 6, 7, 8, 10, 11, 14, 15, 17, 18, 21, 22, 23], [0, 0, 0, 0, 0, 0, 0, 4192, 0, 0, 0, 4193, 0, 0, 0], [4191, 1008, 4190, 0, 1], [])
def mzt_185 : mzT := (yX0_bindFrom, cX0_bindFrom, none, [0, 1, 2, 5, 8, 9, 10, 11, 14, 17, 18, 19, 22, 23, 26, 27, 28, 31, 32, 33, 36, 39, 40, 41, 43, 45, 46, 49, 51, 52, 55, 58, 59, 62, 64, 65, 66, 69, 70, 71, 72, 73, 74, 77, 78, 80, 81, 82, 83, 86, 89, 92], [0, 0, 2035, 0, 0, 0, 0, 2030, 0, 0, 0, 2035, 0, 2036, 0, 0, 2032, 0, 0, 2030, 4202, 0, 0, 0, 0, 0, 0, 0, 0, 2034, 0, 0, 2040, 0, 0, 0, 2037, 0, 0, 0, 0, 0, 0, 0, 0, 0, 0, 0, 4203, 0, 0, 0], [4201, 1008, 4200, 43, 3], [])
def mzt_186 : mzT := (yX0_bindTo, cX0_bindTo, none, [0, 1, 4, 5, 6, 8, 9, 12, 13, 14, 16, 17, 20, 21, 22, 24, 25, 28, 29, 30, 31, 32, 35, 36, 37, 38, 39, 40, 43, 44, 45, 46, 47, 50, 51, 52, 53, 54, 55, 58, 59, 60, 61, 62, 65, 66, 67, 68, 69, 70, 73, 74, 75, 76, 78, 79, 82, 83, 84, 87, 89, 90, 93, 94, 95, 98, 99, 101, 102, 103, 104, 105, 106, 108, 109, 111, 112, 113, 114, 117, 120, 121, 124, 125, 127, 128, 129, 132, 133, 135, 136, 137, 140, 141, 143, 144], [0, 2040, 0, 0, 0, 0, 2041, 0, 0, 0, 0, 2042, 0, 0, 0, 0, 2040, 0, 0, 0, 0, 2037, 0, 0, 0, 0, 0, 2041, 0, 0, 0, 0, 2038, 0, 0, 0, 0, 0, 2042, 0, 0, 0, 0, 2039, 0, 0, 0, 0, 0, 2036, 0, 0, 0, 0, 0, 2038, 0, 0, 4207, 0, 0, 2039, 0, 0, 4207, 0, 0, 0, 0, 0, 0, 0, 0, 0, 0, 0, 0, 0, 4210, 4198, 0, 2040, 0, 0, 0, 0, 2041, 0, 0, 0, 0, 2042, 0, 0, 0, 0], [4206, 1008, 4205, 44, 4], [])
def mzt_187 : mzT := (yX0_switchesFor, cX0_switchesFor, (some .int), [0, 1, 2, 3, 6, 7, 8, 9, 10, 11, 14, 15, 18, 19], [0, 0, 0, 0, 0, 0, 0, 0, 0, 0, 0, 0, 0, 0], [4209, 1008, 4208, 0, 2], [])
def mzt_188 : mzT := (yX1_init, cX1_init, none, [0, 1, 4, 5, 6, 9, 10, 11, 14, 15, 17, 19, 22, 23, 25, 27, 30, 31, 33, 35, 38, 39, 41, 43, 46, 47, 49, 51, 54, 55, 56, 59, 60, 62, 64, 67, 68, 70, 72, 75, 76, 78, 80, 83, 84, 86, 88, 91, 92, 95, 97, 100, 101, 104, 106, 109, 110, 113, 115, 118, 119, 121, 123, 126, 127, 129, 131, 134, 135, 136, 139], [0, 1132, 0, 0, 1134, 0, 0, 1135, 0, 0, 1088, 1137, 0, 0, 1088, 1139, 0, 0, 1088, 1141, 0, 0, 1088, 1142, 0, 0, 1088, 1145, 0, 0, 1148, 0, 0, 1088, 1150, 0, 0, 1088, 1152, 0, 0, 1088, 1154, 0, 0, 1088, 1155, 0, 0, 1088, 1156, 0, 0, 1088, 1159, 0, 0, 1088, 1161, 0, 0, 1088, 1163, 0, 0, 1088, 1164, 0, 0, 1133, 0], [1131, 1005, 1130, 0, 1], [])
def mzt_189 : mzT := (yX1_forget, cX1_forget, none, [0, 1, 2, 5], [0, 0, 1134, 0], [3010, 1005, 3008, 3009, 0], [])
def mzt_190 : mzT := (yX1_renew, cX1_renew, none, [0, 1, 4, 7, 8, 9, 10, 13, 14, 15, 16, 17, 20, 23, 26, 27, 28, 31, 32, 33, 36, 39, 42, 43, 44, 47, 48, 49, 50, 51, 54, 57, 60, 61, 62, 63, 66, 69, 70, 71, 74, 75, 76, 77, 80, 83, 84, 85, 88, 89, 90, 91, 92, 95, 96, 97, 98, 101, 104, 107, 110, 113, 114, 117, 118, 121, 122, 125], [0, 1134, 0, 0, 0, 0, 1134, 0, 0, 0, 0, 1133, 1039, 0, 0, 0, 3167, 0, 0, 3175, 0, 0, 0, 0, 1148, 0, 0, 0, 0, 1133, 1039, 0, 0, 0, 0, 1133, 1054, 0, 0, 3184, 0, 0, 0, 1133, 1060, 0, 0, 3184, 0, 0, 0, 0, 0, 0, 0, 0, 3193, 0, 0, 0, 0, 0, 1163, 0, 3197, 0, 3198, 0], [3166, 1005, 3164, 3165, 0], [])
def mzt_191 : mzT := (yX1_findSort, cX1_findSort, none, [0, 1, 4, 5, 6, 7, 8, 11, 12, 15, 18, 19, 22, 23, 24, 25, 26, 29, 30, 31, 34, 37, 39, 40, 41, 42, 45, 46, 48, 49, 52, 55, 57, 58, 59, 60, 63, 64, 67, 70, 71, 72, 73, 76, 77, 80, 81, 82, 83, 84, 87, 88, 89, 92, 95, 97, 98, 100, 101, 102, 105, 106, 109, 110, 111, 112, 115, 118, 119, 120, 121, 122, 123, 126, 127, 128, 131, 134, 135, 136, 137, 140, 141, 144, 147, 149, 150, 152, 153, 156, 158, 159], [0, 1141, 0, 0, 0, 0, 1133, 0, 3171, 0, 0, 1137, 0, 0, 0, 0, 1139, 0, 0, 1133, 1070, 0, 0, 0, 0, 1141, 0, 0, 0, 1133, 1070, 0, 0, 0, 0, 0, 0, 1133, 1044, 0, 0, 0, 0, 0, 1137, 0, 0, 0, 0, 1139, 0, 0, 1133, 1070, 0, 0, 0, 0, 0, 0, 0, 1137, 0, 0, 0, 1133, 1048, 0, 0, 0, 0, 0, 1139, 0, 0, 1133, 1044, 0, 0, 0, 0, 0, 1133, 1070, 0, 0, 0, 0, 0, 0, 0, 0], [3170, 1005, 3169, 18, 1], [])
def mzt_192 : mzT := (yX1_findAddress, cX1_findAddress, none, [0, 1, 4, 5, 6, 7, 8, 11, 12, 13, 14, 15, 18, 21, 22, 23, 24, 27, 28, 29, 32, 35, 36, 37, 38, 39, 41, 44, 45, 48, 49, 50, 51, 52, 55, 56, 57, 58, 61, 62, 64, 67, 68, 71, 72, 73, 74, 77, 78, 80, 83, 84, 85, 86, 89, 92], [0, 1142, 0, 0, 0, 0, 1145, 0, 0, 0, 0, 1133, 1044, 0, 0, 0, 0, 0, 0, 1133, 1054, 0, 0, 0, 0, 0, 0, 0, 1142, 0, 0, 0, 0, 1145, 0, 0, 0, 0, 0, 0, 0, 0, 1142, 0, 0, 0, 0, 0, 0, 0, 0, 0, 0, 3179, 3180, 0], [3178, 1005, 3177, 19, 1], [])
def mzt_193 : mzT := (yX1_findAddressBy, cX1_findAddressBy, none, [0, 1, 4, 7, 8, 9, 10, 11, 14, 17, 18, 19, 21, 22, 25, 28, 29, 30, 32, 33, 35, 38, 40, 42, 45, 47, 50, 52, 53, 56, 57, 60, 61, 62, 63, 64, 67, 68, 70, 73, 75, 78, 80, 81, 82, 85, 87, 89, 92, 93, 95, 98, 100, 103, 104, 107, 108, 109, 110, 111, 114, 115, 116, 117], [0, 1133, 1054, 0, 0, 0, 0, 1133, 1060, 0, 0, 0, 0, 1133, 1044, 0, 0, 0, 0, 0, 0, 0, 0, 0, 0, 0, 0, 0, 0, 0, 1142, 0, 0, 0, 0, 1145, 0, 0, 0, 0, 0, 0, 0, 0, 0, 0, 0, 0, 0, 0, 0, 0, 0, 0, 1142, 0, 0, 0, 0, 1145, 0, 0, 0, 0], [3183, 1005, 3182, 20, 2], [])
def mzt_194 : mzT := (yX1_addOperand, cX1_addOperand, none, [0, 1, 3, 6, 7, 10, 11, 12, 13, 14, 15, 18, 19, 20, 21, 24, 27], [0, 0, 0, 0, 3179, 0, 0, 0, 0, 0, 1139, 0, 0, 0, 3188, 3189, 0], [3187, 1005, 3186, 21, 2], [])
def mzt_195 : mzT := (yX1_addAccess, cX1_addAccess, none, [0, 1, 4, 7, 8, 9, 10, 13, 14, 17, 20, 21, 22, 23, 26, 29, 30, 31, 34, 35, 38, 39, 40, 41, 44, 45, 48, 51, 52, 53, 54, 57, 58, 61, 64, 65, 66, 67, 70, 71, 72, 73, 75, 76, 79, 80, 81, 82, 84, 85, 88], [0, 1133, 1048, 0, 0, 0, 0, 0, 1133, 1048, 0, 0, 0, 1133, 1048, 0, 0, 0, 0, 0, 0, 0, 0, 0, 0, 1133, 1044, 0, 0, 0, 0, 0, 1133, 1044, 0, 0, 0, 0, 0, 0, 0, 0, 0, 3189, 0, 0, 0, 0, 0, 3189, 0], [3196, 1005, 3195, 23, 2], [])
def mzt_196 : mzT := (yX1_add, cX1_add, none, [0, 1, 4, 6, 9, 10, 13, 14, 17, 18, 19, 20, 23, 24, 27, 28, 29, 30, 33, 34, 37, 38, 39, 40, 43, 44, 47, 49, 50, 51, 52, 55, 56, 57, 60], [0, 1148, 0, 0, 0, 1150, 0, 1148, 0, 0, 0, 1152, 0, 1148, 0, 0, 0, 1154, 0, 1148, 0, 0, 0, 1155, 0, 1148, 0, 0, 0, 0, 1148, 0, 0, 1148, 0], [3192, 1005, 3191, 22, 4], [])
def mzt_197 : mzT := (yX1_behind, cX1_behind, (some .int), [0, 1, 4, 5, 6, 7, 10, 11, 12, 13, 14, 16, 17, 18], [0, 1154, 0, 0, 0, 1155, 0, 0, 0, 0, 0, 0, 0, 0], [3221, 1005, 3219, 3220, 2], [])
def mzt_198 : mzT := (yX1_findRings, cX1_findRings, none, [0, 1, 2, 5, 8, 11, 12, 15, 16, 19, 20, 23, 26, 27, 30, 32, 35, 36, 37, 40, 43, 46, 47, 48, 51, 52, 53, 56, 59], [0, 0, 1133, 1039, 0, 0, 0, 0, 1135, 0, 1135, 0, 0, 1135, 0, 0, 0, 0, 1135, 3202, 0, 0, 0, 1135, 0, 0, 1135, 0, 0], [3201, 1005, 3200, 24, 0], [])
def mzt_199 : mzT := (yX1_need, cX1_need, (some .int), [0, 1, 2, 3, 4, 5, 6, 9, 12, 15, 16, 19, 20, 21, 22, 25, 28, 31, 34, 35, 36, 39, 42, 43, 44, 47], [0, 0, 0, 0, 0, 0, 1133, 1039, 0, 0, 1137, 0, 0, 0, 0, 0, 0, 0, 0, 0, 1133, 1070, 0, 0, 3237, 0], [4015, 1005, 4013, 4014, 1], [])
def mzt_200 : mzT := (yX1_leastGap, cX1_leastGap, (some .int), [0, 1, 4, 5, 6, 7, 8, 9, 12, 13, 14, 15, 18, 21, 22, 25, 28, 29], [0, 1135, 0, 0, 0, 0, 0, 0, 0, 0, 0, 4020, 3234, 0, 0, 0, 0, 0], [4019, 1005, 4017, 4018, 0], [])
def mzt_201 : mzT := (yX1_haveTimes, cX1_haveTimes, (some .boolean), [0, 1, 2, 5, 6, 8, 11, 12, 13, 14, 17, 18, 19, 22, 23, 26, 27, 28, 29, 32, 35, 36, 39, 40, 41, 42, 45, 46, 47, 48, 51, 52, 53, 56, 57, 58, 61, 62, 65, 66, 67, 68, 71, 72, 75, 76], [0, 0, 0, 0, 0, 0, 0, 0, 0, 1163, 0, 0, 0, 0, 1163, 0, 0, 0, 3206, 0, 0, 0, 0, 0, 0, 1163, 0, 0, 0, 0, 0, 0, 3226, 0, 0, 4008, 0, 1163, 0, 0, 0, 0, 0, 0, 0, 0], [3205, 1005, 3203, 3204, 1], [])
def mzt_202 : mzT := (yX1_findsEarliest, cX1_findsEarliest, (some .boolean), [0, 1, 3, 4, 5, 6, 7, 8, 9, 12, 15, 18, 19, 22, 23, 24, 25, 26, 27, 30, 33, 34, 37, 38, 39, 42, 43, 44, 45, 46, 47, 50, 53, 54, 55, 56, 57, 58, 60, 61, 63, 65, 67, 70, 71, 72, 73, 76, 79, 80, 81, 84, 87, 88], [0, 0, 0, 0, 0, 0, 0, 0, 1133, 1039, 0, 0, 1156, 0, 0, 0, 0, 0, 0, 0, 0, 1133, 0, 0, 3210, 0, 0, 0, 0, 0, 1133, 1039, 0, 0, 0, 0, 0, 0, 0, 0, 0, 0, 0, 0, 0, 0, 3214, 0, 0, 0, 0, 0, 0, 0], [3209, 1005, 3208, 25, 1], [])
def mzt_203 : mzT := (yX1_raises, cX1_raises, (some .boolean), [0, 1, 2, 3, 5, 7, 8, 11, 14, 15, 16, 19, 21, 22, 23, 26, 27, 28, 31, 33, 34, 35, 36, 37, 39, 40, 43, 44, 47, 49, 51, 52, 55, 56, 57, 60, 62, 63, 64, 65, 68, 69, 72, 73, 74, 77, 79, 80, 81, 83, 84, 85, 86, 89, 92, 93], [0, 0, 0, 0, 0, 0, 1148, 0, 0, 0, 1152, 0, 0, 0, 1156, 0, 0, 1150, 0, 0, 0, 0, 0, 0, 0, 3218, 0, 3222, 0, 0, 0, 1156, 0, 0, 1152, 0, 0, 0, 0, 0, 0, 1156, 0, 0, 1152, 0, 0, 0, 0, 0, 0, 0, 0, 0, 0, 0], [3217, 1005, 3216, 26, 2], [])
def mzt_204 : mzT := (yX1_findLatest, cX1_findLatest, none, [0, 1, 3, 4, 5, 6, 7, 10, 12, 13, 14, 15, 17, 19, 20, 23, 26, 29, 30, 33, 34, 36, 37, 38, 40, 41, 42, 45, 47, 48, 49, 52, 53, 56, 59, 60, 62, 63, 65, 67, 69, 72, 74, 77, 78, 79, 80, 83, 85, 88, 91], [0, 0, 0, 0, 0, 0, 3230, 0, 0, 0, 0, 0, 0, 0, 1133, 1039, 0, 0, 1159, 0, 0, 0, 0, 0, 0, 0, 1139, 0, 0, 0, 4000, 0, 0, 0, 0, 0, 0, 0, 0, 0, 0, 0, 0, 0, 0, 0, 4004, 0, 0, 0, 0], [3229, 1005, 3228, 27, 1], [])
def mzt_205 : mzT := (yX1_lowers, cX1_lowers, (some .boolean), [0, 1, 2, 3, 5, 7, 8, 11, 14, 15, 16, 19, 21, 22, 23, 26, 27, 28, 31, 33, 34, 35, 36, 37, 39, 40, 43, 44, 47, 49, 51, 52, 55, 56, 57, 60, 62, 63, 64, 65, 68, 69, 72, 73, 74, 77, 79, 80, 81, 83, 84, 85, 86, 89, 92, 93], [0, 0, 0, 0, 0, 0, 1148, 0, 0, 0, 1150, 0, 0, 0, 1159, 0, 0, 1152, 0, 0, 0, 0, 0, 0, 0, 3218, 0, 4000, 0, 0, 0, 1159, 0, 0, 1150, 0, 0, 0, 0, 0, 0, 1159, 0, 0, 1150, 0, 0, 0, 0, 0, 0, 0, 0, 0, 0, 0], [4007, 1005, 4006, 29, 2], [])
def mzt_206 : mzT := (yX1_findOrder, cX1_findOrder, none, [0, 1, 3, 4, 5, 6, 7, 8, 9, 12, 15, 18, 19, 21, 23, 26, 27, 30, 31, 32, 35, 36, 38, 39, 40, 41, 42, 43, 44, 45, 48, 49, 50, 51, 52, 55, 56, 59, 60, 62, 63, 64, 67, 68, 70, 71, 72, 73, 74, 75, 78, 81, 82, 85, 86, 88, 89, 90, 91, 94, 97], [0, 0, 0, 0, 0, 0, 0, 0, 1133, 1039, 0, 0, 0, 0, 0, 0, 1159, 0, 0, 1161, 0, 0, 0, 0, 0, 0, 0, 0, 0, 1159, 0, 0, 0, 0, 0, 0, 1161, 0, 0, 0, 0, 1161, 0, 0, 0, 0, 0, 0, 0, 0, 0, 0, 1161, 0, 0, 0, 0, 0, 0, 0, 0], [4011, 1005, 4010, 30, 1], [])
def mzt_207 : mzT := (yX1_firstTime, cX1_firstTime, (some .int), [0, 1, 4, 5, 6, 7, 9, 10, 11, 12, 13, 16, 17, 18, 21, 22, 25, 26, 27, 28, 30, 31], [0, 0, 0, 0, 0, 0, 0, 0, 0, 0, 1141, 0, 0, 0, 0, 0, 0, 0, 0, 0, 0, 0], [3225, 1005, 3223, 3224, 2], [])
def mzt_208 : mzT := (yX1_lastTime, cX1_lastTime, (some .int), [0, 1, 3, 4, 5, 6, 7, 10, 11, 12, 15, 16, 19, 20, 21, 22, 23, 26, 27, 28, 29], [0, 0, 0, 0, 0, 0, 1141, 0, 0, 0, 0, 0, 0, 0, 0, 0, 1141, 0, 0, 0, 0], [4003, 1005, 4002, 28, 2], [])
def mzt_209 : mzT := (yX1_lengthBy, cX1_lengthBy, (some .int), [0, 1, 2, 3, 4, 5, 6, 9, 12, 15, 16, 17, 20, 21, 23, 24, 25, 26, 27, 28, 31, 32, 33, 34, 37, 38, 41, 44, 45, 47, 50], [0, 0, 0, 0, 0, 0, 1133, 1039, 0, 0, 0, 1156, 0, 0, 0, 0, 0, 0, 0, 1139, 0, 0, 0, 3234, 0, 0, 0, 0, 0, 3237, 0], [3233, 1005, 3231, 3232, 1], [])
def mzt_210 : mzT := (yX1_fixedBy, cX1_fixedBy, (some .int), [0, 1, 2, 3, 4, 5, 6, 9, 12, 15, 16, 19, 20, 22, 23, 24, 25, 26, 27, 30, 31, 33, 34, 35, 36, 37, 40, 43, 46, 49, 50], [0, 0, 0, 0, 0, 0, 1133, 1039, 0, 0, 1156, 0, 0, 0, 0, 0, 0, 0, 1159, 0, 0, 0, 0, 0, 0, 0, 0, 0, 0, 0, 0], [4041, 1005, 4039, 4040, 1], [])
def mzt_211 : mzT := (yX1_inRings, cX1_inRings, (some .int), [0, 1, 4, 5, 8, 9, 10, 11, 12, 15, 18, 19, 22, 23, 26, 27, 28, 29, 30, 31, 32, 35, 36, 37, 38, 39, 40, 43, 46, 47, 48, 49, 50, 53, 56, 59, 60, 61, 62, 63, 66, 69, 72, 73, 76, 77, 78, 79, 80, 81, 82, 85, 86, 89, 90, 91, 92, 93, 96, 97, 98, 99, 100, 103, 106, 109, 112, 113, 114, 115, 116, 117, 118, 121, 124, 127, 128, 129, 132, 133, 134, 135, 136, 137, 138, 139, 140, 143, 146, 147], [0, 1164, 0, 3197, 0, 0, 0, 0, 1148, 0, 0, 1164, 0, 1150, 0, 0, 0, 0, 0, 0, 1152, 0, 0, 0, 0, 0, 0, 0, 0, 0, 0, 0, 1133, 1039, 0, 0, 0, 0, 0, 1133, 1039, 0, 0, 1164, 0, 0, 0, 0, 0, 0, 0, 0, 1164, 0, 0, 0, 0, 1164, 0, 0, 0, 0, 0, 0, 0, 0, 0, 0, 0, 0, 0, 0, 1133, 1039, 0, 0, 0, 1164, 0, 0, 0, 0, 0, 0, 0, 0, 0, 0, 0, 0], [4049, 1005, 4047, 4048, 0], [])
def mzt_212 : mzT := (yX2_init, cX2_init, none, [0, 1, 4, 5, 6, 9], [0, 5046, 0, 0, 5047, 0], [5045, 1020, 5044, 0, 1], [])
def mzt_213 : mzT := (yX2_next, cX2_next, (some .int), [0, 1, 2, 5, 7, 8, 11, 12, 15, 16, 17, 20, 21, 24, 25, 28, 30, 31, 32, 33], [0, 0, 5047, 5059, 0, 0, 0, 5047, 0, 0, 0, 0, 0, 0, 5047, 0, 0, 0, 0, 0], [5058, 1020, 5056, 5057, 1], [])
def mzt_214 : mzT := (yX3_init, cX3_init, none, [0, 1, 4, 5, 6, 9, 10, 12, 14, 17, 18, 20, 22, 25, 26, 28, 30, 33, 34, 36, 38, 41, 42, 44, 46, 49, 50, 52, 54, 55, 56, 57, 58, 59, 60, 61, 62, 63, 64, 65, 66, 67, 68, 69, 70, 71, 72, 73, 74, 75, 76, 77, 78, 79, 81, 82, 83, 84, 86, 87, 88, 89, 91, 92, 93, 96], [0, 1034, 0, 0, 1035, 0, 0, 1088, 1042, 0, 0, 1088, 1047, 0, 0, 1088, 1052, 0, 0, 1088, 1058, 0, 0, 1088, 1064, 0, 0, 1088, 0, 0, 0, 0, 0, 0, 0, 0, 0, 0, 0, 0, 0, 0, 0, 0, 0, 0, 0, 0, 0, 0, 0, 0, 0, 0, 0, 0, 0, 0, 0, 0, 0, 0, 0, 0, 1068, 0], [1033, 1002, 1032, 0, 0], [])
def mzt_215 : mzT := (yX3_take, cX3_take, none, [0, 1, 2, 5, 6, 9, 10, 11, 14, 15, 16, 19, 20, 23, 24, 27, 28, 29, 32, 33, 34, 37, 38, 41], [0, 0, 2228, 0, 1064, 0, 0, 1064, 0, 0, 1064, 0, 2232, 0, 1068, 0, 0, 1068, 0, 0, 1068, 0, 2232, 0], [2227, 1002, 2225, 2226, 1], [])
def mzt_216 : mzT := (yX3_takeLoop, cX3_takeLoop, none, [0, 1, 2, 5, 8, 9, 12, 13, 14, 17, 18, 20, 23, 24, 27, 28, 29, 32, 33, 35, 38, 39, 42, 43, 44, 47, 48, 50, 53, 54, 57, 58, 59, 62, 63, 65, 68], [0, 0, 1035, 1035, 0, 1042, 0, 0, 1042, 0, 0, 2232, 0, 1047, 0, 0, 1047, 0, 0, 2232, 0, 1052, 0, 0, 1052, 0, 0, 2232, 0, 1058, 0, 0, 1058, 0, 0, 2232, 0], [2231, 1002, 2229, 2230, 1], [])
def mzt_217 : mzT := (yX3_putAct, cX3_putAct, none, [0, 1, 4, 5, 6, 7, 8, 11, 12, 13, 14, 15, 18, 19, 21, 22, 23, 26, 27, 29, 30], [0, 1042, 0, 0, 0, 0, 1047, 0, 0, 0, 0, 1052, 0, 0, 0, 0, 1058, 0, 0, 0, 0], [2212, 1002, 2210, 2211, 5], [])
def mzt_218 : mzT := (yX3_isSum, cX3_isSum, (some .boolean), [0, 1, 4, 5, 6, 7, 10, 11, 14, 15], [0, 1042, 0, 0, 0, 0, 0, 0, 0, 0], [3174, 1002, 3172, 3173, 1], [])
def mzt_219 : mzT := (yX3_countSorts, cX3_countSorts, (some .int), [0, 1, 2, 3, 5, 7, 8, 11, 14, 15, 18, 20, 21, 22, 25, 26, 29, 31, 32, 33, 36, 39, 42, 45, 46], [0, 0, 0, 0, 0, 0, 1035, 0, 0, 1042, 0, 0, 0, 0, 0, 1042, 0, 0, 0, 0, 0, 0, 0, 0, 0], [3213, 1002, 3211, 3212, 2], [])
def mzt_220 : mzT := (yX3_cost, cX3_cost, (some .int), [0, 1, 4, 5, 6, 7, 8, 11, 12, 13, 14, 15, 16, 19, 20, 21, 22, 23, 26, 27, 28, 29], [0, 1068, 0, 0, 0, 0, 1068, 0, 0, 0, 0, 0, 1068, 0, 0, 0, 0, 1068, 0, 0, 0, 0], [5063, 1002, 5061, 5062, 0], [])
def mzt_221 : mzT := (yX3_letterOf, cX3_letterOf, (some .int), [0, 1, 3, 4, 6, 7], [0, 0, 0, 0, 0, 0], [3096, 1002, 3095, 0, 1], [])
def mzt_222 : mzT := (yX3_marksOf, cX3_marksOf, (some .int), [0, 1, 3, 4, 6, 7], [0, 0, 0, 0, 0, 0], [3099, 1002, 3098, 0, 1], [])
def mzt_223 : mzT := (yX4_init, cX4_init, none, [0, 1, 4, 5, 7, 10, 13, 14, 15, 18, 19, 20, 23, 24, 25, 28, 31, 32, 33, 35, 38, 39, 40, 43, 44, 45, 46, 47, 50, 51, 54, 55, 58, 59, 62, 63, 66, 67, 70, 73, 74, 75, 76, 77, 80, 81, 84, 85, 88, 89, 92, 93, 96, 97, 100, 103], [0, 2091, 0, 0, 2092, 2096, 0, 0, 2097, 0, 0, 2098, 0, 0, 2092, 2100, 0, 0, 1232, 2101, 0, 0, 2095, 0, 0, 0, 0, 2096, 0, 0, 0, 2096, 0, 2092, 0, 2094, 0, 0, 0, 0, 0, 0, 0, 2100, 0, 0, 0, 2100, 0, 2092, 0, 2094, 0, 0, 0, 0], [2090, 1010, 2089, 0, 1], [])
def mzt_224 : mzT := (yX4_mark, cX4_mark, none, [0, 1, 4, 5, 8, 9, 10, 13, 16], [0, 2096, 0, 2097, 0, 0, 2095, 2224, 0], [2223, 1010, 2221, 2222, 0], [])
def mzt_225 : mzT := (yX4_keepMark, cX4_keepMark, none, [0, 1, 2, 5, 6, 7, 8, 11, 12, 13, 16, 17, 18, 21, 22, 23, 25, 28, 31], [0, 0, 2097, 0, 0, 0, 2096, 0, 0, 2097, 0, 0, 2098, 0, 0, 0, 3000, 2098, 0], [2239, 1010, 2237, 2238, 0], [])
def mzt_226 : mzT := (yX4_takeBack, cX4_takeBack, none, [0, 1, 4, 7, 8, 9, 12, 13, 16, 17, 18, 19, 20, 21, 24, 25, 26, 29, 30, 33, 34, 37, 38, 41, 42, 45, 46, 47, 50, 51, 52, 55], [0, 2098, 0, 0, 0, 2097, 0, 2096, 0, 0, 0, 0, 0, 2096, 0, 0, 2097, 0, 2095, 0, 2096, 0, 2097, 0, 2224, 0, 0, 2098, 0, 0, 2098, 0], [3158, 1010, 3156, 3157, 0], [])
def mzt_227 : mzT := (yX4_keepUnder, cX4_keepUnder, (some .boolean), [0, 1, 4, 5, 6, 9, 10, 11, 12, 15, 16, 17, 18, 21, 24, 25, 28, 29, 30, 31, 32], [0, 0, 0, 0, 0, 0, 0, 0, 2100, 0, 0, 0, 2095, 2224, 0, 2101, 0, 0, 0, 0, 0], [5071, 1010, 5069, 5070, 1], [])
def mzt_228 : mzT := (yX4_takeFrom, cX4_takeFrom, (some .boolean), [0, 1, 4, 5, 6, 9, 10, 13, 14, 15, 18, 19, 20, 21, 24, 25, 28, 29, 30, 33, 34, 35, 38, 39], [0, 0, 0, 0, 0, 0, 2101, 0, 0, 0, 0, 0, 0, 2095, 0, 2100, 0, 0, 2224, 0, 0, 2098, 0, 0], [5079, 1010, 5077, 5078, 1], [])
def mzt_229 : mzT := (yX5_init, cX5_init, none, [0, 1, 4, 5, 6, 9, 10, 11, 14, 15, 17, 19, 22, 23, 25, 27, 30, 31, 32, 35, 36, 37, 40], [0, 1207, 0, 0, 1210, 0, 0, 1212, 0, 0, 1088, 1215, 0, 0, 1232, 1218, 0, 0, 1208, 0, 0, 1209, 0], [1206, 1006, 1205, 0, 2], [])
def mzt_230 : mzT := (yX5_forget, cX5_forget, none, [0, 1, 2, 5], [0, 0, 1210, 0], [3014, 1006, 3012, 3013, 0], [])
def mzt_231 : mzT := (yX5_findGap, cX5_findGap, (some .int), [0, 1, 4, 7, 10, 11, 12, 13, 16, 19, 20, 21, 22, 25, 26, 28, 31, 32, 33, 36, 39, 40, 41, 44, 47, 48], [0, 1208, 1038, 0, 0, 0, 0, 1209, 4076, 0, 0, 0, 0, 0, 0, 0, 0, 0, 4077, 0, 0, 0, 0, 0, 0, 0], [4075, 1006, 4073, 4074, 1], [])
def mzt_232 : mzT := (yX5_planBy, cX5_planBy, (some .boolean), [0, 1, 4, 5, 8, 11, 12, 13, 14, 15, 16, 17, 20, 23, 26, 27, 30, 31, 32, 33, 36, 39, 40, 41, 42, 43, 46, 49, 52, 53, 56, 59, 60, 62, 63, 64, 65, 66, 67, 68, 69, 70, 73, 75, 77, 78, 81, 82, 83, 84, 87, 88, 90, 91, 92, 95, 96, 97, 98, 99, 100, 101, 104, 107, 108, 109, 112, 115, 116], [0, 1209, 0, 4081, 0, 0, 0, 0, 0, 0, 0, 1208, 1038, 0, 0, 1218, 0, 0, 0, 0, 0, 0, 0, 0, 0, 1208, 1038, 0, 0, 1209, 1162, 0, 0, 0, 0, 0, 0, 0, 0, 0, 0, 4082, 0, 0, 0, 0, 0, 0, 0, 1215, 0, 0, 0, 0, 1218, 0, 0, 0, 0, 0, 0, 4105, 0, 0, 0, 0, 0, 0, 0], [4080, 1006, 4078, 4079, 1], [])
def mzt_233 : mzT := (yX5_timeFor, cX5_timeFor, (some .int), [0, 1, 2, 3, 6, 7, 8, 9, 10, 12, 13, 14, 17, 20, 21, 22, 23, 25, 27, 28, 31, 32, 34, 35, 37, 38, 40, 41, 42, 44, 45, 48, 51, 53, 55, 56, 57, 60, 63, 64], [0, 0, 0, 4086, 0, 0, 0, 0, 0, 0, 0, 4093, 0, 0, 0, 0, 0, 0, 0, 0, 0, 0, 0, 0, 0, 0, 0, 0, 0, 0, 4093, 0, 0, 0, 0, 0, 0, 0, 0, 0], [4085, 1006, 4084, 34, 2], [])
def mzt_234 : mzT := (yX5_firstFor, cX5_firstFor, (some .int), [0, 1, 4, 7, 8, 10, 11, 12, 13, 14, 15, 16, 18, 20, 21, 24, 27, 30, 31, 34, 37, 39, 40, 41, 44, 45, 48, 49, 52, 55, 57, 58, 59, 62, 63, 64, 67, 68, 71, 74, 76, 77, 78, 79, 82, 84, 85, 88, 89, 92, 93, 96, 99, 100, 103, 104, 105, 108], [0, 1209, 1157, 0, 0, 0, 0, 0, 0, 0, 0, 0, 0, 0, 1209, 1149, 0, 0, 1209, 1153, 0, 0, 0, 0, 0, 1218, 0, 1209, 1151, 0, 0, 0, 0, 0, 0, 1215, 0, 1209, 1151, 0, 0, 0, 0, 1209, 0, 0, 4090, 0, 4091, 0, 0, 0, 0, 1209, 0, 0, 4092, 0], [4089, 1006, 4088, 35, 2], [])
def mzt_235 : mzT := (yX5_comesTooLate, cX5_comesTooLate, (some .boolean), [0, 1, 2, 3, 4, 7, 10, 13, 14, 17, 20, 21, 22, 24, 25, 28, 31, 32, 33, 34, 37, 38, 41, 43, 44, 47, 48, 51, 53, 54, 55, 58, 59, 60, 61, 64, 65, 66, 69, 70, 73, 74, 75, 78, 81, 82], [0, 0, 0, 0, 1209, 1149, 0, 0, 1209, 1153, 0, 0, 0, 0, 1209, 1151, 0, 0, 0, 0, 0, 1218, 0, 0, 0, 0, 1215, 0, 0, 0, 1215, 0, 0, 0, 1209, 0, 0, 4090, 0, 0, 0, 0, 0, 0, 0, 0], [4108, 1006, 4107, 39, 2], [])
def mzt_236 : mzT := (yX5_hasRoom, cX5_hasRoom, (some .boolean), [0, 1, 2, 5, 6, 7, 8, 11, 14, 15, 16, 18, 19, 21, 22, 24, 26, 27, 30, 33, 36, 37, 38, 41, 43, 44, 46, 47, 48, 50, 51, 54, 56, 57, 60, 61, 64, 67, 69, 70, 72, 75, 77, 78, 79, 82, 84, 85, 88, 89, 90, 92, 94, 95, 96, 99, 102, 103, 104, 107, 110, 113, 115, 116, 119, 121, 122, 125, 128, 130, 131, 134, 135, 138, 139], [0, 0, 0, 0, 0, 0, 1209, 1138, 0, 0, 0, 0, 0, 0, 0, 0, 0, 1208, 1038, 0, 0, 0, 1215, 0, 0, 0, 0, 0, 0, 0, 1218, 0, 0, 0, 0, 1209, 1138, 0, 0, 0, 0, 0, 0, 0, 0, 0, 0, 0, 0, 0, 0, 0, 0, 0, 4097, 0, 0, 0, 0, 0, 0, 0, 0, 0, 0, 0, 1208, 1071, 0, 0, 0, 0, 0, 0, 0], [4096, 1006, 4095, 36, 3], [])
def mzt_237 : mzT := (yX5_mayMeet, cX5_mayMeet, (some .boolean), [0, 1, 4, 7, 8, 9, 12, 13, 16, 19, 20, 21, 24, 25, 26, 27, 29, 31, 33, 36, 37, 38, 40, 43, 44, 45, 47, 48, 49, 52, 55, 56, 57, 60, 63, 64], [0, 1209, 1143, 0, 0, 0, 0, 1209, 1143, 0, 0, 0, 0, 0, 0, 0, 0, 0, 0, 0, 0, 0, 4101, 0, 0, 0, 0, 0, 4101, 0, 0, 0, 0, 0, 0, 0], [4100, 1006, 4099, 37, 3], [])
def mzt_238 : mzT := (yX5_bankIn, cX5_bankIn, (some .int), [0, 1, 4, 7, 8, 11, 14, 15, 16, 17, 18, 19, 20, 23, 24, 26, 29, 30, 31, 32, 35, 38, 39, 40, 41, 44, 47, 48, 49, 50, 53, 54, 57, 58, 59, 61, 63, 65, 66, 68, 69, 72, 75, 76, 77, 80, 83, 84, 85, 86, 87, 90, 92, 93, 94, 97, 99, 101, 102, 103, 104], [0, 1208, 1071, 0, 1209, 1138, 0, 0, 0, 0, 0, 0, 0, 0, 0, 0, 0, 0, 0, 1209, 1146, 0, 0, 0, 1209, 1143, 0, 0, 0, 0, 0, 0, 0, 0, 0, 0, 0, 0, 0, 0, 1208, 1071, 0, 0, 1208, 1051, 0, 0, 0, 0, 0, 0, 0, 0, 0, 0, 0, 0, 0, 0, 0], [4104, 1006, 4103, 38, 2], [])
def mzt_239 : mzT := (yX5_tickOf, cX5_tickOf, (some .int), [0, 1, 4, 5, 6, 8, 9], [0, 1215, 0, 0, 0, 0, 0], [4117, 1006, 4115, 4116, 1], [])
def mzt_240 : mzT := (yX5_phaseOf, cX5_phaseOf, (some .int), [0, 1, 4, 5, 8, 9, 12, 13, 14, 17, 18, 21, 22], [0, 1212, 0, 0, 0, 0, 0, 0, 4149, 0, 1212, 0, 0], [4148, 1006, 4146, 4147, 1], [])
def mzt_241 : mzT := (yX5_roundAt, cX5_roundAt, (some .int), [0, 1, 2, 3, 6, 7, 9, 10, 13, 14, 17, 19, 22, 24, 25, 28, 29, 32, 33, 34, 36, 37, 40, 41, 43, 45, 46, 49, 51, 54, 55], [0, 0, 0, 4149, 0, 0, 0, 1212, 0, 0, 0, 0, 0, 0, 1212, 0, 0, 0, 0, 0, 0, 1212, 0, 0, 0, 0, 0, 0, 0, 0, 0], [4157, 1006, 4155, 4156, 3], [])
def mzt_242 : mzT := (yX5_readyOf, cX5_readyOf, (some .int), [0, 1, 4, 5, 6, 7, 10, 13, 14, 15, 16], [0, 1215, 0, 0, 0, 1209, 1140, 0, 0, 0, 0], [4138, 1006, 4136, 4137, 1], [])
def mzt_243 : mzT := (yX5_ticksOfPlan, cX5_ticksOfPlan, (some .int), [0, 1, 2, 3, 4, 5, 6, 9, 12, 15, 16, 17, 18, 21, 24, 25, 28, 31, 32, 34, 37], [0, 0, 0, 0, 0, 0, 1208, 1038, 0, 0, 0, 0, 4135, 4091, 0, 0, 0, 0, 0, 4139, 0], [4134, 1006, 4132, 4133, 0], [])
def mzt_244 : mzT := (yX5_lastTick, cX5_lastTick, (some .int), [0, 1, 2, 3, 4, 5, 6, 9, 12, 15, 16, 17, 18, 21, 24, 25, 28, 31, 32], [0, 0, 0, 0, 0, 0, 1208, 1038, 0, 0, 0, 0, 4149, 4091, 0, 0, 0, 0, 0], [5003, 1006, 5001, 5002, 0], [])
def mzt_245 : mzT := (yX5_keptAt, cX5_keptAt, (some .int), [0, 1, 4, 5, 8, 9, 10, 11, 12, 13, 14, 15, 16, 19, 22, 25, 26, 27, 30, 32, 35, 37, 38, 39, 42, 44, 45, 47, 49, 51, 54, 55, 57, 58, 59, 60, 63, 66, 68, 69, 70, 71, 72, 73, 76, 79, 80, 81, 82, 85, 88, 89], [0, 1212, 0, 0, 0, 0, 0, 0, 0, 0, 0, 0, 1208, 1038, 0, 0, 0, 4135, 0, 4139, 0, 0, 0, 4166, 0, 0, 0, 0, 0, 0, 0, 0, 0, 0, 0, 1212, 4176, 0, 0, 0, 0, 0, 0, 1212, 4176, 0, 0, 0, 0, 0, 0, 0], [4165, 1006, 4163, 4164, 1], [])
def mzt_246 : mzT := (yX5_lastUseOf, cX5_lastUseOf, (some .int), [0, 1, 2, 3, 4, 5, 6, 9, 12, 15, 16, 17, 18, 19, 22, 25, 26, 27, 28, 31, 34, 35, 36, 37, 38, 39, 42, 45, 46, 47, 48, 51, 54, 55, 58, 61, 62], [0, 0, 0, 0, 0, 0, 1208, 1038, 0, 0, 0, 0, 0, 1208, 1057, 0, 0, 0, 4170, 4091, 0, 0, 0, 0, 0, 1208, 1063, 0, 0, 0, 4170, 4091, 0, 0, 0, 0, 0], [4169, 1006, 4168, 41, 1], [])
def mzt_247 : mzT := (yX5_useBy, cX5_useBy, (some .int), [0, 1, 3, 6, 7, 10, 11, 14, 15, 16, 17, 20, 21, 22, 23, 26, 27, 30, 31, 33, 34, 35], [0, 0, 0, 0, 4174, 0, 0, 0, 0, 0, 1215, 0, 0, 0, 4175, 0, 1212, 0, 0, 0, 0, 0], [4173, 1006, 4172, 42, 3], [])
def mzt_248 : mzT := (yX6_init, cX6_init, none, [0, 1, 4, 5, 7, 9, 12, 13, 16, 18, 21, 22, 24, 26, 29, 30, 32, 34, 37, 38, 40, 42, 45, 46, 47, 50, 51, 52, 55], [0, 1238, 0, 0, 1088, 2001, 0, 0, 1088, 2003, 0, 0, 1088, 2004, 0, 0, 1088, 2005, 0, 0, 1088, 2006, 0, 0, 1239, 0, 0, 2000, 0], [1237, 1007, 1236, 0, 2], [])
def mzt_249 : mzT := (yX6_copyCells, cX6_copyCells, none, [0, 1, 4, 7, 8, 9, 12, 13, 14, 17, 18, 21], [0, 1239, 1065, 0, 0, 2001, 0, 0, 2001, 0, 4223, 0], [4222, 1007, 4220, 4221, 0], [])
def mzt_250 : mzT := (yX6_sumOfCells, cX6_sumOfCells, (some .int), [0, 1, 2, 3, 6, 7, 8, 9, 10, 11, 13, 15, 16, 19, 20, 22, 23, 25, 26, 28, 29, 30, 33, 36, 37], [0, 0, 0, 2001, 0, 0, 0, 0, 0, 0, 0, 0, 0, 0, 0, 0, 0, 0, 0, 0, 0, 0, 0, 0, 0], [4227, 1007, 4225, 4226, 0], [])
def mzt_251 : mzT := (yX6_valueOf, cX6_valueOf, (some .int), [0, 1, 4, 5, 7, 10, 11, 14, 15, 18, 19, 21, 22, 23, 24, 25], [0, 0, 0, 0, 0, 0, 0, 0, 2003, 0, 0, 0, 0, 0, 0, 0], [3103, 1007, 3101, 3102, 2], [])
def mzt_252 : mzT := (yX6_play, cX6_play, none, [0, 1, 2, 3, 4, 7, 8, 10, 13, 14, 16, 18, 19, 22, 25, 28, 29, 31, 32, 33, 36, 38, 39, 42, 43, 45, 46, 48, 49, 51, 52, 53, 56, 59, 61, 62, 63, 66, 67, 68, 70, 71, 74, 76, 77, 80, 83, 86, 89], [0, 0, 0, 0, 0, 0, 0, 0, 0, 0, 0, 0, 1239, 1040, 0, 0, 0, 0, 0, 3086, 0, 0, 2003, 0, 0, 0, 0, 0, 0, 0, 0, 1239, 1045, 0, 0, 0, 0, 0, 0, 0, 0, 3104, 0, 0, 0, 0, 0, 0, 0], [3085, 1007, 3083, 3084, 2], [])
def mzt_253 : mzT := (yX6_find, cX6_find, (some .int), [0, 1, 2, 5, 8, 9, 10, 11, 14, 16, 17, 18, 21, 24, 25, 26, 27, 30, 32, 33, 36, 39, 40, 41, 76, 78, 80, 81, 82, 84, 86, 87, 88, 90, 92, 95, 96, 99, 100, 101, 103, 105, 106, 107, 108, 109, 110, 111, 114, 115, 116, 118], [0, 0, 1239, 1055, 0, 0, 0, 3090, 0, 0, 0, 1239, 1061, 0, 0, 0, 3090, 0, 0, 1239, 1045, 0, 0, 0, 0, 0, 0, 0, 0, 0, 0, 0, 0, 0, 0, 0, 0, 0, 0, 0, 0, 0, 0, 0, 0, 0, 0, 3104, 0, 0, 0, 0], [3089, 1007, 3088, 11, 3], [])
def mzt_254 : mzT := (yX6_operand, cX6_operand, (some .int), [0, 1, 3, 6, 7, 8, 9, 11, 14, 15, 16, 17, 18, 21, 22, 23, 26, 27, 30], [0, 0, 0, 0, 0, 0, 0, 0, 0, 0, 0, 0, 3094, 0, 0, 3097, 0, 3100, 0], [3093, 1007, 3092, 12, 2], [])
def mzt_255 : mzT := (yX6_cellOf, cX6_cellOf, (some .int), [0, 1, 4, 7, 8, 9, 11, 12, 13, 14, 17, 20, 21, 22, 23, 26, 28, 31, 32], [0, 1239, 1050, 0, 0, 0, 0, 0, 0, 1239, 1055, 0, 0, 0, 3090, 0, 3108, 0, 0], [3107, 1007, 3106, 13, 2], [])
def mzt_256 : mzT := (yX6_work, cX6_work, none, [0, 1, 4, 5, 6, 7, 8, 11, 14, 15, 16, 19, 22, 23, 24, 25, 27, 29, 30, 33, 34, 35, 37, 38, 41, 44, 47], [0, 4236, 0, 0, 0, 0, 2000, 1213, 0, 0, 2000, 5000, 0, 0, 0, 0, 0, 0, 0, 0, 0, 0, 0, 5004, 0, 0, 0], [4235, 1007, 4233, 4234, 2], [])
def mzt_257 : mzT := (yX6_findOrder, cX6_findOrder, none, [0, 1, 2, 3, 4, 7, 10, 13, 14, 15, 16, 19, 20, 23, 26, 27, 30, 31, 32, 33, 34, 35, 37, 38, 39, 42, 45, 46, 47, 49, 50, 53, 54, 57, 58, 59, 62, 63, 64, 65, 66, 67, 70, 73, 74, 77, 78, 79, 80, 83, 86], [0, 0, 0, 0, 1239, 1040, 0, 0, 0, 0, 0, 0, 2000, 1216, 0, 2004, 0, 0, 0, 0, 0, 0, 0, 0, 2000, 1216, 0, 0, 0, 0, 0, 0, 2004, 0, 0, 2004, 0, 0, 0, 0, 0, 0, 0, 0, 2004, 0, 0, 0, 0, 0, 0], [4239, 1007, 4238, 45, 0], [])
def mzt_258 : mzT := (yX6_workTick, cX6_workTick, none, [0, 1, 3, 4, 6, 8, 9, 12, 15, 18, 19, 22, 24, 25, 27, 28, 31, 33, 34, 35, 38, 40, 42, 43, 46, 47, 49, 51, 52, 55, 57, 58, 61, 63, 65, 66, 68, 69, 71, 72, 73, 76, 79, 81, 82, 83, 86, 87, 90, 92, 93, 95, 97, 100, 101, 102, 105, 107, 109, 110, 113, 116, 119, 120, 122, 124, 126, 129, 130, 131, 134, 136, 137, 138, 141, 143, 144, 145, 148, 151], [0, 0, 0, 0, 0, 0, 1239, 1040, 0, 0, 2004, 0, 0, 0, 0, 2000, 0, 0, 0, 5008, 0, 0, 0, 0, 0, 0, 0, 0, 3086, 0, 0, 2003, 0, 0, 0, 0, 0, 0, 0, 0, 1239, 1045, 0, 0, 0, 0, 0, 2005, 0, 0, 0, 0, 3104, 0, 0, 2006, 0, 0, 0, 0, 0, 0, 0, 0, 0, 0, 0, 0, 0, 2005, 0, 0, 0, 2006, 0, 0, 0, 0, 0, 0], [5007, 1007, 5006, 46, 3], [])
def mzt_259 : mzT := (yX7_init, cX7_init, none, [0, 1, 4, 5, 8, 9, 12, 15, 16, 17, 20, 21, 22, 25], [0, 1113, 0, 1114, 0, 1115, 1117, 0, 0, 1119, 0, 0, 1116, 0], [1112, 1004, 1111, 0, 1], [])
def mzt_260 : mzT := (yX7_readLoop, cX7_readLoop, (some .int), [0, 1, 4, 5, 8, 9, 12, 13, 16, 17, 18, 21, 22, 25, 28, 31, 32, 35, 38, 39, 42, 45, 46, 47, 50, 51, 54, 57, 60, 63, 66, 67, 70, 73], [0, 1116, 0, 1099, 0, 1117, 0, 1037, 0, 0, 1119, 0, 1116, 2163, 0, 0, 2167, 0, 0, 1116, 2216, 0, 0, 1119, 0, 1117, 1037, 0, 0, 0, 0, 1117, 1037, 0], [2162, 1004, 2160, 2161, 0], [])
def mzt_261 : mzT := (yX7_readsActs, cX7_readsActs, (some .boolean), [0, 1, 2, 3, 5, 8, 9, 10, 13, 16, 17, 18, 19, 22, 23, 24, 25, 28, 29, 32, 35, 38, 39, 40, 41, 43, 46, 47, 50, 52, 55, 58, 59, 60, 63, 66, 67], [0, 0, 0, 0, 0, 0, 0, 2171, 0, 0, 0, 0, 1117, 0, 0, 0, 1037, 0, 1116, 2163, 0, 0, 0, 0, 0, 0, 0, 1116, 0, 2195, 0, 0, 0, 0, 0, 0, 0], [2170, 1004, 2169, 0, 0], [])
def mzt_262 : mzT := (yX7_readsAct, cX7_readsAct, (some .boolean), [0, 1, 4, 7, 9, 10, 11, 12, 15, 18, 21, 22, 23, 24, 27, 28, 29, 30, 33, 34, 35, 36, 39, 40, 41, 42, 45, 48, 51, 53, 55, 56, 59, 60, 61, 62, 65, 66, 69, 70, 71, 74, 75, 76, 79, 81, 83, 84, 87, 88, 89, 90, 93, 94, 96, 97, 98, 100, 103, 104], [0, 1116, 2175, 0, 0, 0, 0, 1116, 2183, 0, 0, 0, 0, 2191, 0, 0, 0, 2196, 0, 0, 0, 0, 0, 0, 0, 1116, 2175, 2213, 0, 0, 0, 0, 0, 0, 0, 1116, 0, 1099, 0, 0, 1099, 0, 0, 2196, 0, 0, 0, 0, 0, 0, 0, 1117, 0, 0, 0, 0, 0, 2209, 0, 0], [2174, 1004, 2173, 1, 1], [])
def mzt_263 : mzT := (yX7_readsAccess, cX7_readsAccess, (some .boolean), [0, 1, 4, 6, 9, 12, 13, 14, 15, 16, 19, 20, 21, 22, 25, 26, 29, 31, 34, 37, 38, 39, 40, 43, 45, 48, 51, 52, 55, 56, 57, 58, 59, 60, 63, 64, 65, 66, 67, 70, 72, 74, 75, 78, 79, 80, 81, 84, 85, 86, 87, 88, 90, 93, 94], [0, 1116, 0, 2195, 0, 0, 0, 0, 0, 2196, 0, 0, 0, 0, 0, 1116, 0, 2195, 0, 0, 0, 0, 1116, 0, 2195, 0, 0, 1117, 0, 0, 0, 0, 0, 2209, 0, 0, 0, 0, 2196, 0, 0, 0, 0, 0, 0, 0, 1117, 0, 0, 0, 0, 0, 2209, 0, 0], [2194, 1004, 2193, 2, 2], [])
def mzt_264 : mzT := (yX7_sortOf, cX7_sortOf, (some .int), [0, 1, 44, 45, 46, 47, 48, 49, 50, 51, 52, 53], [0, 0, 0, 0, 0, 0, 0, 0, 0, 0, 0, 0], [2215, 1004, 2214, 0, 1], [])
def mzt_265 : mzT := (yX7_readOperand, cX7_readOperand, (some .int), [0, 1, 4, 7, 8, 9, 12, 15, 18, 19, 21, 22, 23, 24, 27, 29, 32, 35, 37, 38, 39, 41, 42, 43, 44, 47, 48, 50, 53, 54, 55, 56, 59, 61, 63, 66, 67, 68, 71, 72, 73, 75, 78, 79, 80, 83, 86, 87, 88, 91, 92, 95, 96, 99, 100, 102, 103, 104, 107, 109, 110, 111, 113, 115, 116, 117], [0, 1116, 2175, 0, 0, 1116, 2200, 0, 0, 0, 0, 0, 0, 1116, 0, 2195, 0, 0, 0, 0, 0, 0, 0, 0, 0, 0, 0, 0, 0, 0, 0, 2204, 0, 0, 0, 0, 0, 0, 0, 0, 0, 0, 0, 0, 1119, 0, 0, 0, 1119, 0, 1116, 0, 1099, 0, 0, 0, 0, 1099, 0, 0, 0, 0, 0, 0, 0, 0], [2199, 1004, 2198, 3, 1], [])
def mzt_266 : mzT := (yX7_marksBehind, cX7_marksBehind, (some .int), [0, 1, 4, 5, 8, 11, 12, 13, 16, 18, 21, 22, 23, 24, 27, 28, 31, 34, 35, 36, 39, 41, 44, 45, 48, 49], [0, 1116, 0, 1116, 1099, 0, 0, 2208, 0, 0, 0, 0, 0, 1116, 0, 1116, 1099, 0, 0, 2208, 0, 0, 0, 0, 0, 0], [2207, 1004, 2206, 4, 0], [])
def mzt_267 : mzT := (yX7_readCells, cX7_readCells, (some .int), [0, 1, 4, 5, 8, 9, 12, 15, 16, 19, 20, 23, 26, 29, 30, 31, 32, 33, 34, 36, 39, 40, 41, 44, 47, 48, 51, 54, 55, 56, 59, 62, 65, 66, 67, 68, 69, 70, 72, 75, 76, 79, 81, 84, 87, 88, 91, 94, 95, 98, 101, 102, 105, 108], [0, 1116, 0, 1099, 0, 1117, 1067, 0, 3023, 0, 1116, 2163, 0, 0, 0, 0, 0, 0, 0, 0, 0, 0, 3026, 0, 0, 1116, 2216, 0, 0, 1116, 2163, 0, 0, 0, 0, 0, 0, 0, 0, 0, 1116, 0, 2195, 0, 0, 1116, 2216, 0, 0, 0, 0, 1116, 2216, 0], [3022, 1004, 3020, 3021, 0], [])
def mzt_268 : mzT := (yX7_readsNumber, cX7_readsNumber, (some .boolean), [0, 1, 4, 6, 9, 10, 11, 14, 17, 18, 19, 21, 22, 24, 26, 27, 30, 31, 34, 35, 38, 41, 44, 46, 47, 50, 53, 56, 58, 60, 61, 63, 64, 66, 69, 72, 73, 76, 79, 80, 81, 84, 86, 87, 90, 92, 93, 94, 97, 100, 101, 104, 105, 108, 109], [0, 1116, 0, 2195, 0, 0, 1116, 1099, 0, 0, 0, 0, 0, 0, 0, 0, 0, 1116, 0, 1116, 1099, 3030, 0, 0, 1116, 2200, 0, 0, 0, 0, 0, 0, 0, 0, 0, 0, 1117, 1067, 0, 0, 0, 0, 0, 0, 0, 0, 0, 1116, 1099, 0, 0, 0, 0, 0, 0], [3029, 1004, 3028, 6, 1], [])
def mzt_269 : mzT := (yX7_checkDay, cX7_checkDay, (some .int), [0, 1, 4, 5, 8, 9, 10, 11, 13, 16, 17, 20, 23, 26, 27, 30, 33, 34, 37, 40, 41, 44, 47, 48], [0, 1116, 0, 1099, 0, 0, 0, 0, 0, 0, 1116, 2163, 0, 0, 3132, 0, 0, 1116, 2216, 0, 0, 0, 0, 0], [3131, 1004, 3129, 3130, 0], [])
def mzt_270 : mzT := (yX7_readsChange, cX7_readsChange, (some .boolean), [0, 1, 4, 6, 9, 12, 13, 16, 19, 22, 23, 26, 29, 32, 33, 36, 37, 38, 39, 42, 44, 47, 50, 51, 54, 57, 60, 61, 64, 67, 70, 71, 74, 77, 80, 81, 84, 87, 90, 91, 94, 95, 96, 97, 100, 102, 105, 108, 109, 112, 115, 118, 119, 122, 123], [0, 1116, 0, 2195, 0, 0, 1116, 2200, 0, 0, 1116, 2200, 0, 0, 0, 0, 0, 0, 1116, 0, 2195, 0, 0, 1116, 2183, 0, 0, 1116, 2200, 0, 0, 1116, 2200, 0, 0, 1116, 2200, 0, 0, 0, 0, 0, 0, 1116, 0, 2195, 0, 0, 1116, 2200, 0, 0, 0, 0, 0], [3135, 1004, 3134, 15, 0], [])
def mzt_271 : mzT := (yX7_signsOfChange, cX7_signsOfChange, (some .int), [0, 1, 3, 6, 7, 8, 9, 11, 14, 15, 18, 19], [0, 0, 0, 0, 0, 0, 0, 0, 0, 0, 0, 0], [3150, 1004, 3149, 0, 1], [])
def mzt_272 : mzT := (yX8_init, cX8_init, none, [0, 1, 4, 5, 7, 9, 12, 13, 14, 17], [0, 2076, 0, 0, 2070, 2077, 0, 0, 2079, 0], [2075, 1009, 2074, 0, 0], [])
def mzt_273 : mzT := (yX8_clear, cX8_clear, none, [0, 1, 2, 5], [0, 0, 2079, 0], [3118, 1009, 3116, 3117, 0], [])
def mzt_274 : mzT := (yX8_add, cX8_add, none, [0, 1, 4, 5, 8, 9, 12, 13, 16, 17, 20, 21, 22, 23, 24, 27, 28, 29, 32], [0, 2079, 0, 2077, 0, 0, 0, 2077, 0, 2079, 0, 0, 0, 0, 2079, 0, 0, 2079, 0], [3123, 1009, 3121, 3122, 1], [])
def mzt_275 : mzT := (yX9_init, cX9_init, none, [0, 1, 4, 5, 7, 9, 12, 13, 14, 17, 18, 19, 22], [0, 1094, 0, 0, 1088, 1095, 0, 0, 1096, 0, 0, 1098, 0], [1093, 1003, 1092, 0, 0], [])
def mzt_276 : mzT := (yX9_add, cX9_add, none, [0, 1, 4, 6, 9, 10, 13, 14, 17, 18, 19, 20, 21, 24, 25, 26, 29], [0, 1096, 0, 0, 0, 1095, 0, 1096, 0, 0, 0, 0, 1096, 0, 0, 1096, 0], [2150, 1003, 2148, 2149, 1], [])
def mzt_277 : mzT := (yX9_signAt, cX9_signAt, (some .int), [0, 1, 4, 5, 6, 9, 12, 13, 16, 17, 18, 21, 22], [0, 0, 0, 0, 1096, 0, 0, 1095, 0, 0, 0, 0, 0], [2182, 1003, 2180, 2181, 1], [])
def mzt_278 : mzT := (yX9_now, cX9_now, (some .int), [0, 1, 2, 5, 8], [0, 0, 1098, 2179, 0], [2178, 1003, 2176, 2177, 0], [])
def mzt_279 : mzT := (yX9_isOver, cX9_isOver, (some .boolean), [0, 1, 4, 5, 8, 11, 12, 15, 16], [0, 1098, 0, 1096, 0, 0, 0, 0, 0], [2166, 1003, 2164, 2165, 0], [])
def mzt_280 : mzT := (yX9_takes, cX9_takes, (some .boolean), [0, 1, 4, 5, 8, 11, 12, 15, 16, 19, 20, 21, 24, 25, 26, 27, 28, 31, 32, 33, 36, 37], [0, 1098, 0, 1096, 0, 0, 1095, 0, 1098, 0, 0, 0, 0, 0, 0, 0, 1098, 0, 0, 1098, 0, 0], [2190, 1003, 2188, 2189, 1], [])
def mzt_281 : mzT := (yX9_takesDigit, cX9_takesDigit, (some .boolean), [0, 1, 4, 5, 8, 11, 12, 15, 16, 19, 20, 22, 25, 26, 29, 30, 33, 34, 36, 39, 40, 41, 42, 43, 46, 47, 48, 51, 52], [0, 1098, 0, 1096, 0, 0, 1095, 0, 1098, 0, 0, 0, 0, 1095, 0, 1098, 0, 0, 0, 0, 0, 0, 0, 1098, 0, 0, 1098, 0, 0], [2203, 1003, 2201, 2202, 0], [])
def mzt_282 : mzT := (yX9_takesMemory, cX9_takesMemory, (some .boolean), [0, 1, 3, 6, 9, 10, 12, 15, 18, 19, 22, 23], [0, 0, 2187, 0, 0, 0, 2187, 0, 0, 0, 0, 0], [2186, 1003, 2184, 2185, 0], [])
def mzt_283 : mzT := (yX9_digitAt, cX9_digitAt, (some .int), [0, 1, 2, 5, 6, 7, 9, 12, 13, 15, 18, 19, 21, 22, 25, 26], [0, 0, 2179, 0, 0, 0, 0, 0, 0, 0, 0, 0, 0, 0, 0, 0], [3033, 1003, 3031, 3032, 1], [])
def mzt_284 : mzT := (yX9_refusal, cX9_refusal, (some .int), [0, 1, 2, 5, 6], [0, 0, 1098, 0, 0], [2219, 1003, 2217, 2218, 0], [])
def mzt_285 : mzT := (yJ6_bitCount_0f7a4, cJ6_bitCount_0f7a4, (some .int), [0, 1, 2, 3, 4, 7, 8, 9, 10, 11, 14, 15, 16, 17, 18, 21, 22, 23, 24, 25, 26, 27, 28, 29, 32, 33, 34, 35, 36, 38, 39, 40, 41, 42, 43, 45, 46, 47, 48, 49, 51, 52], [0, 0, 0, 0, 4053, 0, 0, 0, 0, 4054, 0, 0, 0, 0, 4054, 0, 0, 0, 0, 0, 0, 0, 0, 4055, 0, 0, 0, 0, 0, 0, 0, 0, 0, 0, 0, 0, 0, 0, 0, 0, 0, 0], [4052, 1019, 4051, 0, 1], [])
def mzt_286 : mzT := (yJ9_floorDiv_7cf53, cJ9_floorDiv_7cf53, (some .int), [0, 1, 2, 3, 4, 5, 6, 7, 10, 11, 12, 13, 14, 17, 18, 19, 20, 21, 22], [0, 0, 0, 0, 0, 0, 0, 0, 0, 0, 0, 0, 0, 0, 0, 0, 0, 0, 0], [4178, 1013, 4177, 0, 2], [])
def mzt_287 : mzT := (yJ9_floorMod_7cf53, cJ9_floorMod_7cf53, (some .int), [0, 1, 2, 3, 4, 5, 6, 7, 10, 11, 14, 15, 16, 17, 18, 19], [0, 0, 0, 0, 0, 0, 0, 0, 0, 0, 0, 0, 0, 0, 0, 0], [3110, 1013, 3109, 0, 2], [])
def mzt_288 : mzT := (yJ9_max_7cf53, cJ9_max_7cf53, (some .int), [0, 1, 2, 5, 6, 9, 10], [0, 0, 0, 0, 0, 0, 0], [3236, 1013, 3235, 0, 2], [])
def mzt_289 : mzT := (yJ9_min_7cf53, cJ9_min_7cf53, (some .int), [0, 1, 2, 5, 6, 9, 10], [0, 0, 0, 0, 0, 0, 0], [3002, 1013, 3001, 0, 2], [])
def mzt_290 : mzT := (yJ7_fill_53178, cJ7_fill_53178, none, [0, 1, 2, 3, 4, 5, 6, 7, 10, 11, 12, 13, 14, 17, 20], [0, 0, 0, 0, 0, 0, 0, 0, 0, 0, 0, 0, 0, 0, 0], [3025, 1014, 3024, 0, 2], [])
def mzt_291 : mzT := (yJ7_fill_d0a16, cJ7_fill_d0a16, none, [0, 1, 2, 3, 4, 6, 7, 9, 12, 13, 14, 15, 16, 19, 22], [0, 0, 0, 0, 0, 0, 0, 0, 0, 0, 0, 0, 0, 0, 0], [4197, 1014, 4196, 0, 2], [])
def mzQ_0 : List mzT := [mzt_0, mzt_1, mzt_2, mzt_3, mzt_4, mzt_5, mzt_6, mzt_7, mzt_8, mzt_9, mzt_10, mzt_11, mzt_12, mzt_13, mzt_14, mzt_15, mzt_16, mzt_17, mzt_18, mzt_19, mzt_20, mzt_21, mzt_22, mzt_23, mzt_24, mzt_25, mzt_26, mzt_27, mzt_28, mzt_29, mzt_30, mzt_31, mzt_32, mzt_33, mzt_34, mzt_35, mzt_36, mzt_37, mzt_38, mzt_39, mzt_40, mzt_41, mzt_42, mzt_43, mzt_44, mzt_45, mzt_46, mzt_47, mzt_48, mzt_49]
def mzQ_1 : List mzT := [mzt_50, mzt_51, mzt_52, mzt_53, mzt_54, mzt_55, mzt_56, mzt_57, mzt_58, mzt_59, mzt_60, mzt_61, mzt_62, mzt_63, mzt_64, mzt_65, mzt_66, mzt_67, mzt_68, mzt_69, mzt_70, mzt_71, mzt_72, mzt_73, mzt_74, mzt_75, mzt_76, mzt_77, mzt_78, mzt_79, mzt_80, mzt_81, mzt_82, mzt_83, mzt_84, mzt_85, mzt_86, mzt_87, mzt_88, mzt_89, mzt_90, mzt_91, mzt_92, mzt_93, mzt_94, mzt_95, mzt_96, mzt_97, mzt_98, mzt_99]
def mzQ_2 : List mzT := [mzt_100, mzt_101, mzt_102, mzt_103, mzt_104, mzt_105, mzt_106, mzt_107, mzt_108, mzt_109, mzt_110, mzt_111, mzt_112, mzt_113, mzt_114, mzt_115, mzt_116, mzt_117, mzt_118, mzt_119, mzt_120, mzt_121, mzt_122, mzt_123, mzt_124, mzt_125, mzt_126, mzt_127, mzt_128, mzt_129, mzt_130, mzt_131, mzt_132, mzt_133, mzt_134, mzt_135, mzt_136, mzt_137, mzt_138, mzt_139, mzt_140, mzt_141, mzt_142, mzt_143, mzt_144, mzt_145, mzt_146, mzt_147, mzt_148, mzt_149]
def mzQ_3 : List mzT := [mzt_150, mzt_151, mzt_152, mzt_153, mzt_154, mzt_155, mzt_156, mzt_157, mzt_158, mzt_159, mzt_160, mzt_161, mzt_162, mzt_163, mzt_164, mzt_165, mzt_166, mzt_167, mzt_168, mzt_169, mzt_170, mzt_171, mzt_172, mzt_173, mzt_174, mzt_175, mzt_176, mzt_177, mzt_178, mzt_179, mzt_180, mzt_181, mzt_182, mzt_183, mzt_184, mzt_185, mzt_186, mzt_187, mzt_188, mzt_189, mzt_190, mzt_191, mzt_192, mzt_193, mzt_194, mzt_195, mzt_196, mzt_197, mzt_198, mzt_199]
def mzQ_4 : List mzT := [mzt_200, mzt_201, mzt_202, mzt_203, mzt_204, mzt_205, mzt_206, mzt_207, mzt_208, mzt_209, mzt_210, mzt_211, mzt_212, mzt_213, mzt_214, mzt_215, mzt_216, mzt_217, mzt_218, mzt_219, mzt_220, mzt_221, mzt_222, mzt_223, mzt_224, mzt_225, mzt_226, mzt_227, mzt_228, mzt_229, mzt_230, mzt_231, mzt_232, mzt_233, mzt_234, mzt_235, mzt_236, mzt_237, mzt_238, mzt_239, mzt_240, mzt_241, mzt_242, mzt_243, mzt_244, mzt_245, mzt_246, mzt_247, mzt_248, mzt_249]
def mzQ_5 : List mzT := [mzt_250, mzt_251, mzt_252, mzt_253, mzt_254, mzt_255, mzt_256, mzt_257, mzt_258, mzt_259, mzt_260, mzt_261, mzt_262, mzt_263, mzt_264, mzt_265, mzt_266, mzt_267, mzt_268, mzt_269, mzt_270, mzt_271, mzt_272, mzt_273, mzt_274, mzt_275, mzt_276, mzt_277, mzt_278, mzt_279, mzt_280, mzt_281, mzt_282, mzt_283, mzt_284, mzt_285, mzt_286, mzt_287, mzt_288, mzt_289, mzt_290, mzt_291]
def mzQ : List mzT := mzQ_0 ++ (mzQ_1 ++ (mzQ_2 ++ (mzQ_3 ++ (mzQ_4 ++ (mzQ_5)))))
/-- a method's own words: its code, that its class is initialised, that it is an instance's or static, that it is selected (places 0 .. 3 of its words; place 4: how many parameters) -/
def mz_okY (M : mzM) (t : mzT) : Bool := match t with
  | (y, bytes, ret, _, _, mws, hh) =>
    (if hh = [] then mz_wok (mws.getD 0 0) (.code y bytes M.1 ret) else mz_wok (mws.getD 0 0) (.codeWith y bytes M.1 ret hh)) && mz_wok (mws.getD 1 0) (.initialized y.cls) && plainFor y && decide (y.cls ≠ "java/lang/invoke/MethodHandle" ∧ y.cls ≠ "java/lang/invoke/VarHandle" ∧ (parseMethodDescriptor y.desc).map (fun d => d.parameters.length) = some (mws.getD 4 0)) &&
    (match M.2.1 with
    | 0 => mz_wok (mws.getD 2 0) (.static y)
    | ci + 1 => mz_wok (mws.getD 2 0) (.instanceMethod y) && decide (hh = []) && (decide (y.name = "<init>" ∧ ret = none) || (decide (y.name ≠ "<init>") && mz_wok (mws.getD 3 0) (.selects y.cls y y))) && (match vwCl[ci]? with
      | some q => decide (q.1 = y.cls)
      | none => false))
/-- a call: of method t' (M'), as the instruction has it -/
def mz_k40 (own : String) (w b : Nat) (M' : mzM) (t' : mzT) (pcs : List Nat) (i len : Nat) (ins : Instr) : Bool := decide (len = 3) && mz_nx pcs i 3 && match ins with
  | .invokevirtual k => decide (b = t'.2.2.2.2.2.1.getD 4 0 + 1) && decide (0 < M'.2.1) && decide (t'.1.name ≠ "<init>") && mz_wok w (.methodLink own k t'.1)
  | .invokestatic k => decide (b = t'.2.2.2.2.2.1.getD 4 0) && decide (M'.2.1 = 0) && (mz_wok w (.methodLink own k t'.1) || (decide (t'.2.2.2.2.2.2 = []) && decide (mz_wq w = some (.methodLinkNest own k t'.1 "LoopsToUnits"))))
  | .invokespecial k => decide (b = t'.2.2.2.2.2.1.getD 4 0 + 1) && decide (0 < M'.2.1) && decide (t'.1.name = "<init>") && (mz_wok w (.methodLink own k t'.1) || decide (mz_wq w = some (.methodLinkNest own k t'.1 "LoopsToUnits")))
  | _ => false
def mz_k42 (a b : Nat) (ret : Option FieldType) (len : Nat) (ins : Instr) : Bool := decide (len = 1) && match ins with
  | .ireturn => decide (a = 0) && (decide (ret = some .int) || (decide (ret = some .boolean) && decide (b = 1)))
  | .lreturn => decide (a = 2) && decide (ret = some .long)
  | _ => false
/-- 'throw new NoSuchElementException("..")' -/
def mz_k43 (own : String) (w : Nat) (cc : ByteArray) (pc : Nat) (ins : Instr) : Bool := match ins with
  | .new k => mz_wok w (.classLink own k "java/util/NoSuchElementException") && decide (decode cc (pc + 3) = .ok (.dup, 1)) && (match decode cc (pc + 4) with
    | .ok (.ldc _, 2) => (match decode cc (pc + 6) with
      | .ok (.invokespecial _, 3) => decide (decode cc (pc + 9) = .ok (.athrow, 1))
      | _ => false)
    | .ok (.ldc_w _, 3) => (match decode cc (pc + 7) with
      | .ok (.invokespecial _, 3) => decide (decode cc (pc + 10) = .ok (.athrow, 1))
      | _ => false)
    | _ => false)
  | _ => false
def mz_okAt (M : mzM) (t : mzT) (i : Nat) : Bool := match M.2.2.2[i]? with
  | none => true
  | some ri => match decode t.2.1 (mz_pc t.2.2.2.1 i) with
    | .ok (ins, len) =>
      if ri.1 = 40 then (match mzP[ri.2.1]?, mzQ[ri.2.1]? with
        | some M', some t' => mz_k40 t.1.cls (t.2.2.2.2.1.getD i 0) ri.2.2.1 M' t' t.2.2.2.1 i len ins
        | _, _ => false)
      else if ri.1 = 41 then decide (ins = .return_ ∧ len = 1 ∧ t.2.2.1 = none)
      else if ri.1 = 42 then mz_k42 ri.2.1 ri.2.2.1 t.2.2.1 len ins
      else if ri.1 = 43 then mz_k43 t.1.cls (t.2.2.2.2.1.getD i 0) t.2.1 (mz_pc t.2.2.2.1 i) ins && decide (t.1.cls = "LoopsToUnits" ∧ t.2.2.2.2.2.2 = [])
      else if ri.1 = 44 then true
      else mz_okI t.1 t.2.2.2.1 (t.2.2.2.2.1.getD i 0) i len ri ins
    | _ => false
/-- instructions a .. a + n - 1 of method j -/
def mz_okR (M : mzM) (t : mzT) (a n : Nat) : Bool := (List.range' a n).all (mz_okAt M t)
end
section
/-! every method is as the machine has it: checked by the kernel -/
set_option maxRecDepth 100000 in
theorem mz_okr_0_0 : mz_okR (8, 0, (0, 0, 0), mzc_0) mzt_0 0 30 = true := by decide +kernel
set_option maxRecDepth 100000 in
theorem mz_okr_0_1 : mz_okR (8, 0, (0, 0, 0), mzc_0) mzt_0 30 30 = true := by decide +kernel
set_option maxRecDepth 100000 in
theorem mz_okr_0_2 : mz_okR (8, 0, (0, 0, 0), mzc_0) mzt_0 60 30 = true := by decide +kernel
set_option maxRecDepth 100000 in
theorem mz_okr_0_3 : mz_okR (8, 0, (0, 0, 0), mzc_0) mzt_0 90 30 = true := by decide +kernel
set_option maxRecDepth 100000 in
theorem mz_okr_0_4 : mz_okR (8, 0, (0, 0, 0), mzc_0) mzt_0 120 30 = true := by decide +kernel
set_option maxRecDepth 100000 in
theorem mz_okr_0_5 : mz_okR (8, 0, (0, 0, 0), mzc_0) mzt_0 150 30 = true := by decide +kernel
set_option maxRecDepth 100000 in
theorem mz_okr_0_6 : mz_okR (8, 0, (0, 0, 0), mzc_0) mzt_0 180 30 = true := by decide +kernel
set_option maxRecDepth 100000 in
theorem mz_okr_0_7 : mz_okR (8, 0, (0, 0, 0), mzc_0) mzt_0 210 30 = true := by decide +kernel
set_option maxRecDepth 100000 in
theorem mz_okr_0_8 : mz_okR (8, 0, (0, 0, 0), mzc_0) mzt_0 240 30 = true := by decide +kernel
set_option maxRecDepth 100000 in
theorem mz_okr_0_9 : mz_okR (8, 0, (0, 0, 0), mzc_0) mzt_0 270 30 = true := by decide +kernel
set_option maxRecDepth 100000 in
theorem mz_okr_0_10 : mz_okR (8, 0, (0, 0, 0), mzc_0) mzt_0 300 30 = true := by decide +kernel
set_option maxRecDepth 100000 in
theorem mz_okr_0_11 : mz_okR (8, 0, (0, 0, 0), mzc_0) mzt_0 330 30 = true := by decide +kernel
set_option maxRecDepth 100000 in
theorem mz_okr_0_12 : mz_okR (8, 0, (0, 0, 0), mzc_0) mzt_0 360 30 = true := by decide +kernel
set_option maxRecDepth 100000 in
theorem mz_okr_0_13 : mz_okR (8, 0, (0, 0, 0), mzc_0) mzt_0 390 30 = true := by decide +kernel
set_option maxRecDepth 100000 in
theorem mz_okr_0_14 : mz_okR (8, 0, (0, 0, 0), mzc_0) mzt_0 420 30 = true := by decide +kernel
set_option maxRecDepth 100000 in
theorem mz_okr_0_15 : mz_okR (8, 0, (0, 0, 0), mzc_0) mzt_0 450 30 = true := by decide +kernel
set_option maxRecDepth 100000 in
theorem mz_okr_0_16 : mz_okR (8, 0, (0, 0, 0), mzc_0) mzt_0 480 30 = true := by decide +kernel
set_option maxRecDepth 100000 in
theorem mz_okr_0_17 : mz_okR (8, 0, (0, 0, 0), mzc_0) mzt_0 510 30 = true := by decide +kernel
set_option maxRecDepth 100000 in
theorem mz_okr_0_18 : mz_okR (8, 0, (0, 0, 0), mzc_0) mzt_0 540 30 = true := by decide +kernel
set_option maxRecDepth 100000 in
theorem mz_okr_0_19 : mz_okR (8, 0, (0, 0, 0), mzc_0) mzt_0 570 30 = true := by decide +kernel
set_option maxRecDepth 100000 in
theorem mz_okr_0_20 : mz_okR (8, 0, (0, 0, 0), mzc_0) mzt_0 600 30 = true := by decide +kernel
set_option maxRecDepth 100000 in
theorem mz_okr_0_21 : mz_okR (8, 0, (0, 0, 0), mzc_0) mzt_0 630 30 = true := by decide +kernel
set_option maxRecDepth 100000 in
theorem mz_okr_0_22 : mz_okR (8, 0, (0, 0, 0), mzc_0) mzt_0 660 22 = true := by decide +kernel
set_option maxRecDepth 100000 in
theorem mz_okr_1_0 : mz_okR (5, 0, (0, 8, 9), mzc_1) mzt_1 0 14 = true := by decide +kernel
set_option maxRecDepth 100000 in
theorem mz_oky_1 : mz_okY (5, 0, (0, 8, 9), mzc_1) mzt_1 = true := by decide +kernel
set_option maxRecDepth 100000 in
theorem mz_okr_2_0 : mz_okR (5, 0, (0, 8, 9), mzc_2) mzt_2 0 14 = true := by decide +kernel
set_option maxRecDepth 100000 in
theorem mz_oky_2 : mz_okY (5, 0, (0, 8, 9), mzc_2) mzt_2 = true := by decide +kernel
set_option maxRecDepth 100000 in
theorem mz_okr_3_0 : mz_okR (4, 0, (0, 7, 8), mzc_3) mzt_3 0 13 = true := by decide +kernel
set_option maxRecDepth 100000 in
theorem mz_oky_3 : mz_okY (4, 0, (0, 7, 8), mzc_3) mzt_3 = true := by decide +kernel
set_option maxRecDepth 100000 in
theorem mz_okr_4_0 : mz_okR (4, 0, (0, 6, 7), mzc_4) mzt_4 0 12 = true := by decide +kernel
set_option maxRecDepth 100000 in
theorem mz_oky_4 : mz_okY (4, 0, (0, 6, 7), mzc_4) mzt_4 = true := by decide +kernel
set_option maxRecDepth 100000 in
theorem mz_okr_5_0 : mz_okR (1, 11, (0, 0, 0), mzc_5) mzt_5 0 60 = true := by decide +kernel
set_option maxRecDepth 100000 in
theorem mz_okr_5_1 : mz_okR (1, 11, (0, 0, 0), mzc_5) mzt_5 60 6 = true := by decide +kernel
set_option maxRecDepth 100000 in
theorem mz_oky_5 : mz_okY (1, 11, (0, 0, 0), mzc_5) mzt_5 = true := by decide +kernel
set_option maxRecDepth 100000 in
theorem mz_okr_6_0 : mz_okR (3, 11, (0, 0, 0), mzc_6) mzt_6 0 27 = true := by decide +kernel
set_option maxRecDepth 100000 in
theorem mz_oky_6 : mz_okY (3, 11, (0, 0, 0), mzc_6) mzt_6 = true := by decide +kernel
set_option maxRecDepth 100000 in
theorem mz_okr_7_0 : mz_okR (2, 11, (0, 0, 0), mzc_7) mzt_7 0 15 = true := by decide +kernel
set_option maxRecDepth 100000 in
theorem mz_oky_7 : mz_okY (2, 11, (0, 0, 0), mzc_7) mzt_7 = true := by decide +kernel
set_option maxRecDepth 100000 in
theorem mz_okr_8_0 : mz_okR (2, 11, (0, 0, 0), mzc_8) mzt_8 0 28 = true := by decide +kernel
set_option maxRecDepth 100000 in
theorem mz_oky_8 : mz_okY (2, 11, (0, 0, 0), mzc_8) mzt_8 = true := by decide +kernel
set_option maxRecDepth 100000 in
theorem mz_okr_9_0 : mz_okR (3, 11, (0, 0, 0), mzc_9) mzt_9 0 38 = true := by decide +kernel
set_option maxRecDepth 100000 in
theorem mz_oky_9 : mz_okY (3, 11, (0, 0, 0), mzc_9) mzt_9 = true := by decide +kernel
set_option maxRecDepth 100000 in
theorem mz_okr_10_0 : mz_okR (3, 11, (0, 0, 0), mzc_10) mzt_10 0 21 = true := by decide +kernel
set_option maxRecDepth 100000 in
theorem mz_oky_10 : mz_okY (3, 11, (0, 0, 0), mzc_10) mzt_10 = true := by decide +kernel
set_option maxRecDepth 100000 in
theorem mz_okr_11_0 : mz_okR (3, 11, (0, 0, 0), mzc_11) mzt_11 0 40 = true := by decide +kernel
set_option maxRecDepth 100000 in
theorem mz_oky_11 : mz_okY (3, 11, (0, 0, 0), mzc_11) mzt_11 = true := by decide +kernel
set_option maxRecDepth 100000 in
theorem mz_okr_12_0 : mz_okR (5, 11, (0, 0, 0), mzc_12) mzt_12 0 33 = true := by decide +kernel
set_option maxRecDepth 100000 in
theorem mz_oky_12 : mz_okY (5, 11, (0, 0, 0), mzc_12) mzt_12 = true := by decide +kernel
set_option maxRecDepth 100000 in
theorem mz_okr_13_0 : mz_okR (4, 11, (0, 0, 0), mzc_13) mzt_13 0 15 = true := by decide +kernel
set_option maxRecDepth 100000 in
theorem mz_oky_13 : mz_okY (4, 11, (0, 0, 0), mzc_13) mzt_13 = true := by decide +kernel
set_option maxRecDepth 100000 in
theorem mz_okr_14_0 : mz_okR (5, 11, (0, 0, 0), mzc_14) mzt_14 0 16 = true := by decide +kernel
set_option maxRecDepth 100000 in
theorem mz_oky_14 : mz_okY (5, 11, (0, 0, 0), mzc_14) mzt_14 = true := by decide +kernel
set_option maxRecDepth 100000 in
theorem mz_okr_15_0 : mz_okR (2, 11, (0, 0, 0), mzc_15) mzt_15 0 23 = true := by decide +kernel
set_option maxRecDepth 100000 in
theorem mz_oky_15 : mz_okY (2, 11, (0, 0, 0), mzc_15) mzt_15 = true := by decide +kernel
set_option maxRecDepth 100000 in
theorem mz_okr_16_0 : mz_okR (4, 11, (0, 0, 0), mzc_16) mzt_16 0 44 = true := by decide +kernel
set_option maxRecDepth 100000 in
theorem mz_oky_16 : mz_okY (4, 11, (0, 0, 0), mzc_16) mzt_16 = true := by decide +kernel
set_option maxRecDepth 100000 in
theorem mz_okr_17_0 : mz_okR (1, 11, (0, 0, 0), mzc_17) mzt_17 0 15 = true := by decide +kernel
set_option maxRecDepth 100000 in
theorem mz_oky_17 : mz_okY (1, 11, (0, 0, 0), mzc_17) mzt_17 = true := by decide +kernel
set_option maxRecDepth 100000 in
theorem mz_okr_18_0 : mz_okR (2, 11, (0, 0, 0), mzc_18) mzt_18 0 32 = true := by decide +kernel
set_option maxRecDepth 100000 in
theorem mz_oky_18 : mz_okY (2, 11, (0, 0, 0), mzc_18) mzt_18 = true := by decide +kernel
set_option maxRecDepth 100000 in
theorem mz_okr_19_0 : mz_okR (2, 11, (0, 0, 0), mzc_19) mzt_19 0 28 = true := by decide +kernel
set_option maxRecDepth 100000 in
theorem mz_oky_19 : mz_okY (2, 11, (0, 0, 0), mzc_19) mzt_19 = true := by decide +kernel
set_option maxRecDepth 100000 in
theorem mz_okr_20_0 : mz_okR (2, 11, (0, 0, 0), mzc_20) mzt_20 0 28 = true := by decide +kernel
set_option maxRecDepth 100000 in
theorem mz_oky_20 : mz_okY (2, 11, (0, 0, 0), mzc_20) mzt_20 = true := by decide +kernel
set_option maxRecDepth 100000 in
theorem mz_okr_21_0 : mz_okR (2, 11, (0, 0, 0), mzc_21) mzt_21 0 18 = true := by decide +kernel
set_option maxRecDepth 100000 in
theorem mz_oky_21 : mz_okY (2, 11, (0, 0, 0), mzc_21) mzt_21 = true := by decide +kernel
set_option maxRecDepth 100000 in
theorem mz_okr_22_0 : mz_okR (2, 11, (0, 0, 0), mzc_22) mzt_22 0 33 = true := by decide +kernel
set_option maxRecDepth 100000 in
theorem mz_oky_22 : mz_okY (2, 11, (0, 0, 0), mzc_22) mzt_22 = true := by decide +kernel
set_option maxRecDepth 100000 in
theorem mz_okr_23_0 : mz_okR (2, 11, (0, 0, 0), mzc_23) mzt_23 0 7 = true := by decide +kernel
set_option maxRecDepth 100000 in
theorem mz_oky_23 : mz_okY (2, 11, (0, 0, 0), mzc_23) mzt_23 = true := by decide +kernel
set_option maxRecDepth 100000 in
theorem mz_okr_24_0 : mz_okR (2, 11, (0, 0, 0), mzc_24) mzt_24 0 18 = true := by decide +kernel
set_option maxRecDepth 100000 in
theorem mz_oky_24 : mz_okY (2, 11, (0, 0, 0), mzc_24) mzt_24 = true := by decide +kernel
set_option maxRecDepth 100000 in
theorem mz_okr_25_0 : mz_okR (4, 11, (0, 0, 0), mzc_25) mzt_25 0 47 = true := by decide +kernel
set_option maxRecDepth 100000 in
theorem mz_oky_25 : mz_okY (4, 11, (0, 0, 0), mzc_25) mzt_25 = true := by decide +kernel
set_option maxRecDepth 100000 in
theorem mz_okr_26_0 : mz_okR (2, 11, (0, 0, 0), mzc_26) mzt_26 0 22 = true := by decide +kernel
set_option maxRecDepth 100000 in
theorem mz_oky_26 : mz_okY (2, 11, (0, 0, 0), mzc_26) mzt_26 = true := by decide +kernel
set_option maxRecDepth 100000 in
theorem mz_okr_27_0 : mz_okR (3, 11, (0, 0, 0), mzc_27) mzt_27 0 19 = true := by decide +kernel
set_option maxRecDepth 100000 in
theorem mz_oky_27 : mz_okY (3, 11, (0, 0, 0), mzc_27) mzt_27 = true := by decide +kernel
set_option maxRecDepth 100000 in
theorem mz_okr_28_0 : mz_okR (5, 11, (0, 0, 0), mzc_28) mzt_28 0 35 = true := by decide +kernel
set_option maxRecDepth 100000 in
theorem mz_oky_28 : mz_okY (5, 11, (0, 0, 0), mzc_28) mzt_28 = true := by decide +kernel
set_option maxRecDepth 100000 in
theorem mz_okr_29_0 : mz_okR (6, 11, (0, 0, 0), mzc_29) mzt_29 0 47 = true := by decide +kernel
set_option maxRecDepth 100000 in
theorem mz_oky_29 : mz_okY (6, 11, (0, 0, 0), mzc_29) mzt_29 = true := by decide +kernel
set_option maxRecDepth 100000 in
theorem mz_okr_30_0 : mz_okR (6, 11, (0, 0, 0), mzc_30) mzt_30 0 41 = true := by decide +kernel
set_option maxRecDepth 100000 in
theorem mz_oky_30 : mz_okY (6, 11, (0, 0, 0), mzc_30) mzt_30 = true := by decide +kernel
set_option maxRecDepth 100000 in
theorem mz_okr_31_0 : mz_okR (4, 11, (0, 0, 0), mzc_31) mzt_31 0 38 = true := by decide +kernel
set_option maxRecDepth 100000 in
theorem mz_oky_31 : mz_okY (4, 11, (0, 0, 0), mzc_31) mzt_31 = true := by decide +kernel
end
section
/-! every method is as the machine has it: checked by the kernel -/
set_option maxRecDepth 100000 in
theorem mz_okr_32_0 : mz_okR (5, 11, (0, 0, 0), mzc_32) mzt_32 0 60 = true := by decide +kernel
set_option maxRecDepth 100000 in
theorem mz_okr_32_1 : mz_okR (5, 11, (0, 0, 0), mzc_32) mzt_32 60 11 = true := by decide +kernel
set_option maxRecDepth 100000 in
theorem mz_oky_32 : mz_okY (5, 11, (0, 0, 0), mzc_32) mzt_32 = true := by decide +kernel
set_option maxRecDepth 100000 in
theorem mz_okr_33_0 : mz_okR (2, 11, (0, 0, 0), mzc_33) mzt_33 0 22 = true := by decide +kernel
set_option maxRecDepth 100000 in
theorem mz_oky_33 : mz_okY (2, 11, (0, 0, 0), mzc_33) mzt_33 = true := by decide +kernel
set_option maxRecDepth 100000 in
theorem mz_okr_34_0 : mz_okR (2, 11, (0, 0, 0), mzc_34) mzt_34 0 32 = true := by decide +kernel
set_option maxRecDepth 100000 in
theorem mz_oky_34 : mz_okY (2, 11, (0, 0, 0), mzc_34) mzt_34 = true := by decide +kernel
set_option maxRecDepth 100000 in
theorem mz_okr_35_0 : mz_okR (2, 11, (0, 0, 0), mzc_35) mzt_35 0 20 = true := by decide +kernel
set_option maxRecDepth 100000 in
theorem mz_oky_35 : mz_okY (2, 11, (0, 0, 0), mzc_35) mzt_35 = true := by decide +kernel
set_option maxRecDepth 100000 in
theorem mz_okr_36_0 : mz_okR (7, 11, (0, 0, 0), mzc_36) mzt_36 0 60 = true := by decide +kernel
set_option maxRecDepth 100000 in
theorem mz_okr_36_1 : mz_okR (7, 11, (0, 0, 0), mzc_36) mzt_36 60 5 = true := by decide +kernel
set_option maxRecDepth 100000 in
theorem mz_oky_36 : mz_okY (7, 11, (0, 0, 0), mzc_36) mzt_36 = true := by decide +kernel
set_option maxRecDepth 100000 in
theorem mz_okr_37_0 : mz_okR (6, 11, (0, 0, 0), mzc_37) mzt_37 0 43 = true := by decide +kernel
set_option maxRecDepth 100000 in
theorem mz_oky_37 : mz_okY (6, 11, (0, 0, 0), mzc_37) mzt_37 = true := by decide +kernel
set_option maxRecDepth 100000 in
theorem mz_okr_38_0 : mz_okR (5, 11, (0, 0, 0), mzc_38) mzt_38 0 45 = true := by decide +kernel
set_option maxRecDepth 100000 in
theorem mz_oky_38 : mz_okY (5, 11, (0, 0, 0), mzc_38) mzt_38 = true := by decide +kernel
set_option maxRecDepth 100000 in
theorem mz_okr_39_0 : mz_okR (2, 11, (0, 0, 0), mzc_39) mzt_39 0 5 = true := by decide +kernel
set_option maxRecDepth 100000 in
theorem mz_oky_39 : mz_okY (2, 11, (0, 0, 0), mzc_39) mzt_39 = true := by decide +kernel
set_option maxRecDepth 100000 in
theorem mz_okr_40_0 : mz_okR (2, 11, (0, 0, 0), mzc_40) mzt_40 0 11 = true := by decide +kernel
set_option maxRecDepth 100000 in
theorem mz_oky_40 : mz_okY (2, 11, (0, 0, 0), mzc_40) mzt_40 = true := by decide +kernel
set_option maxRecDepth 100000 in
theorem mz_okr_41_0 : mz_okR (2, 11, (0, 0, 0), mzc_41) mzt_41 0 58 = true := by decide +kernel
set_option maxRecDepth 100000 in
theorem mz_oky_41 : mz_okY (2, 11, (0, 0, 0), mzc_41) mzt_41 = true := by decide +kernel
set_option maxRecDepth 100000 in
theorem mz_okr_42_0 : mz_okR (2, 11, (0, 0, 0), mzc_42) mzt_42 0 18 = true := by decide +kernel
set_option maxRecDepth 100000 in
theorem mz_oky_42 : mz_okY (2, 11, (0, 0, 0), mzc_42) mzt_42 = true := by decide +kernel
set_option maxRecDepth 100000 in
theorem mz_okr_43_0 : mz_okR (1, 0, (0, 0, 0), mzc_43) mzt_43 0 9 = true := by decide +kernel
set_option maxRecDepth 100000 in
theorem mz_oky_43 : mz_okY (1, 0, (0, 0, 0), mzc_43) mzt_43 = true := by decide +kernel
set_option maxRecDepth 100000 in
theorem mz_okr_44_0 : mz_okR (1, 0, (0, 0, 0), mzc_44) mzt_44 0 9 = true := by decide +kernel
set_option maxRecDepth 100000 in
theorem mz_oky_44 : mz_okY (1, 0, (0, 0, 0), mzc_44) mzt_44 = true := by decide +kernel
set_option maxRecDepth 100000 in
theorem mz_okr_45_0 : mz_okR (1, 0, (0, 0, 0), mzc_45) mzt_45 0 9 = true := by decide +kernel
set_option maxRecDepth 100000 in
theorem mz_oky_45 : mz_okY (1, 0, (0, 0, 0), mzc_45) mzt_45 = true := by decide +kernel
set_option maxRecDepth 100000 in
theorem mz_okr_46_0 : mz_okR (1, 0, (0, 0, 0), mzc_46) mzt_46 0 10 = true := by decide +kernel
set_option maxRecDepth 100000 in
theorem mz_oky_46 : mz_okY (1, 0, (0, 0, 0), mzc_46) mzt_46 = true := by decide +kernel
set_option maxRecDepth 100000 in
theorem mz_okr_47_0 : mz_okR (1, 0, (0, 0, 0), mzc_47) mzt_47 0 13 = true := by decide +kernel
set_option maxRecDepth 100000 in
theorem mz_oky_47 : mz_okY (1, 0, (0, 0, 0), mzc_47) mzt_47 = true := by decide +kernel
set_option maxRecDepth 100000 in
theorem mz_okr_48_0 : mz_okR (2, 0, (0, 0, 0), mzc_48) mzt_48 0 46 = true := by decide +kernel
set_option maxRecDepth 100000 in
theorem mz_oky_48 : mz_okY (2, 0, (0, 0, 0), mzc_48) mzt_48 = true := by decide +kernel
set_option maxRecDepth 100000 in
theorem mz_okr_49_0 : mz_okR (2, 0, (0, 0, 0), mzc_49) mzt_49 0 13 = true := by decide +kernel
set_option maxRecDepth 100000 in
theorem mz_oky_49 : mz_okY (2, 0, (0, 0, 0), mzc_49) mzt_49 = true := by decide +kernel
set_option maxRecDepth 100000 in
theorem mz_okr_50_0 : mz_okR (2, 11, (0, 0, 0), mzc_50) mzt_50 0 11 = true := by decide +kernel
set_option maxRecDepth 100000 in
theorem mz_oky_50 : mz_okY (2, 11, (0, 0, 0), mzc_50) mzt_50 = true := by decide +kernel
set_option maxRecDepth 100000 in
theorem mz_okr_51_0 : mz_okR (1, 11, (0, 0, 0), mzc_51) mzt_51 0 7 = true := by decide +kernel
set_option maxRecDepth 100000 in
theorem mz_oky_51 : mz_okY (1, 11, (0, 0, 0), mzc_51) mzt_51 = true := by decide +kernel
set_option maxRecDepth 100000 in
theorem mz_okr_52_0 : mz_okR (8, 11, (0, 0, 0), mzc_52) mzt_52 0 43 = true := by decide +kernel
set_option maxRecDepth 100000 in
theorem mz_oky_52 : mz_okY (8, 11, (0, 0, 0), mzc_52) mzt_52 = true := by decide +kernel
set_option maxRecDepth 100000 in
theorem mz_okr_53_0 : mz_okR (4, 11, (0, 0, 0), mzc_53) mzt_53 0 23 = true := by decide +kernel
set_option maxRecDepth 100000 in
theorem mz_oky_53 : mz_okY (4, 11, (0, 0, 0), mzc_53) mzt_53 = true := by decide +kernel
set_option maxRecDepth 100000 in
theorem mz_okr_54_0 : mz_okR (3, 11, (0, 0, 0), mzc_54) mzt_54 0 16 = true := by decide +kernel
set_option maxRecDepth 100000 in
theorem mz_oky_54 : mz_okY (3, 11, (0, 0, 0), mzc_54) mzt_54 = true := by decide +kernel
set_option maxRecDepth 100000 in
theorem mz_okr_55_0 : mz_okR (5, 11, (0, 0, 0), mzc_55) mzt_55 0 25 = true := by decide +kernel
set_option maxRecDepth 100000 in
theorem mz_oky_55 : mz_okY (5, 11, (0, 0, 0), mzc_55) mzt_55 = true := by decide +kernel
set_option maxRecDepth 100000 in
theorem mz_okr_56_0 : mz_okR (4, 11, (0, 0, 0), mzc_56) mzt_56 0 33 = true := by decide +kernel
set_option maxRecDepth 100000 in
theorem mz_oky_56 : mz_okY (4, 11, (0, 0, 0), mzc_56) mzt_56 = true := by decide +kernel
set_option maxRecDepth 100000 in
theorem mz_okr_57_0 : mz_okR (3, 11, (0, 0, 0), mzc_57) mzt_57 0 38 = true := by decide +kernel
set_option maxRecDepth 100000 in
theorem mz_oky_57 : mz_okY (3, 11, (0, 0, 0), mzc_57) mzt_57 = true := by decide +kernel
set_option maxRecDepth 100000 in
theorem mz_okr_58_0 : mz_okR (2, 11, (0, 0, 0), mzc_58) mzt_58 0 60 = true := by decide +kernel
set_option maxRecDepth 100000 in
theorem mz_okr_58_1 : mz_okR (2, 11, (0, 0, 0), mzc_58) mzt_58 60 6 = true := by decide +kernel
set_option maxRecDepth 100000 in
theorem mz_oky_58 : mz_okY (2, 11, (0, 0, 0), mzc_58) mzt_58 = true := by decide +kernel
set_option maxRecDepth 100000 in
theorem mz_okr_59_0 : mz_okR (3, 11, (0, 0, 0), mzc_59) mzt_59 0 24 = true := by decide +kernel
set_option maxRecDepth 100000 in
theorem mz_oky_59 : mz_okY (3, 11, (0, 0, 0), mzc_59) mzt_59 = true := by decide +kernel
set_option maxRecDepth 100000 in
theorem mz_okr_60_0 : mz_okR (2, 11, (0, 0, 0), mzc_60) mzt_60 0 20 = true := by decide +kernel
set_option maxRecDepth 100000 in
theorem mz_oky_60 : mz_okY (2, 11, (0, 0, 0), mzc_60) mzt_60 = true := by decide +kernel
set_option maxRecDepth 100000 in
theorem mz_okr_61_0 : mz_okR (4, 11, (0, 0, 0), mzc_61) mzt_61 0 22 = true := by decide +kernel
set_option maxRecDepth 100000 in
theorem mz_oky_61 : mz_okY (4, 11, (0, 0, 0), mzc_61) mzt_61 = true := by decide +kernel
set_option maxRecDepth 100000 in
theorem mz_okr_62_0 : mz_okR (2, 11, (0, 0, 0), mzc_62) mzt_62 0 21 = true := by decide +kernel
set_option maxRecDepth 100000 in
theorem mz_oky_62 : mz_okY (2, 11, (0, 0, 0), mzc_62) mzt_62 = true := by decide +kernel
set_option maxRecDepth 100000 in
theorem mz_okr_63_0 : mz_okR (2, 11, (0, 0, 0), mzc_63) mzt_63 0 16 = true := by decide +kernel
set_option maxRecDepth 100000 in
theorem mz_oky_63 : mz_okY (2, 11, (0, 0, 0), mzc_63) mzt_63 = true := by decide +kernel
set_option maxRecDepth 100000 in
theorem mz_okr_64_0 : mz_okR (1, 11, (0, 0, 0), mzc_64) mzt_64 0 24 = true := by decide +kernel
set_option maxRecDepth 100000 in
theorem mz_oky_64 : mz_okY (1, 11, (0, 0, 0), mzc_64) mzt_64 = true := by decide +kernel
set_option maxRecDepth 100000 in
theorem mz_okr_65_0 : mz_okR (7, 11, (0, 0, 0), mzc_65) mzt_65 0 53 = true := by decide +kernel
set_option maxRecDepth 100000 in
theorem mz_oky_65 : mz_okY (7, 11, (0, 0, 0), mzc_65) mzt_65 = true := by decide +kernel
set_option maxRecDepth 100000 in
theorem mz_okr_66_0 : mz_okR (3, 11, (0, 0, 0), mzc_66) mzt_66 0 51 = true := by decide +kernel
set_option maxRecDepth 100000 in
theorem mz_oky_66 : mz_okY (3, 11, (0, 0, 0), mzc_66) mzt_66 = true := by decide +kernel
set_option maxRecDepth 100000 in
theorem mz_okr_67_0 : mz_okR (2, 12, (0, 0, 0), mzc_67) mzt_67 0 60 = true := by decide +kernel
set_option maxRecDepth 100000 in
theorem mz_okr_67_1 : mz_okR (2, 12, (0, 0, 0), mzc_67) mzt_67 60 39 = true := by decide +kernel
set_option maxRecDepth 100000 in
theorem mz_oky_67 : mz_okY (2, 12, (0, 0, 0), mzc_67) mzt_67 = true := by decide +kernel
set_option maxRecDepth 100000 in
theorem mz_okr_68_0 : mz_okR (3, 0, (0, 0, 0), mzc_68) mzt_68 0 10 = true := by decide +kernel
set_option maxRecDepth 100000 in
theorem mz_oky_68 : mz_okY (3, 0, (0, 0, 0), mzc_68) mzt_68 = true := by decide +kernel
set_option maxRecDepth 100000 in
theorem mz_okr_69_0 : mz_okR (1, 12, (0, 0, 0), mzc_69) mzt_69 0 5 = true := by decide +kernel
set_option maxRecDepth 100000 in
theorem mz_oky_69 : mz_okY (1, 12, (0, 0, 0), mzc_69) mzt_69 = true := by decide +kernel
set_option maxRecDepth 100000 in
theorem mz_okr_70_0 : mz_okR (3, 12, (0, 0, 0), mzc_70) mzt_70 0 13 = true := by decide +kernel
set_option maxRecDepth 100000 in
theorem mz_oky_70 : mz_okY (3, 12, (0, 0, 0), mzc_70) mzt_70 = true := by decide +kernel
set_option maxRecDepth 100000 in
theorem mz_okr_71_0 : mz_okR (3, 12, (0, 0, 0), mzc_71) mzt_71 0 20 = true := by decide +kernel
set_option maxRecDepth 100000 in
theorem mz_oky_71 : mz_okY (3, 12, (0, 0, 0), mzc_71) mzt_71 = true := by decide +kernel
set_option maxRecDepth 100000 in
theorem mz_okr_72_0 : mz_okR (2, 12, (0, 0, 0), mzc_72) mzt_72 0 10 = true := by decide +kernel
set_option maxRecDepth 100000 in
theorem mz_oky_72 : mz_okY (2, 12, (0, 0, 0), mzc_72) mzt_72 = true := by decide +kernel
set_option maxRecDepth 100000 in
theorem mz_okr_73_0 : mz_okR (2, 12, (0, 0, 0), mzc_73) mzt_73 0 9 = true := by decide +kernel
set_option maxRecDepth 100000 in
theorem mz_oky_73 : mz_okY (2, 12, (0, 0, 0), mzc_73) mzt_73 = true := by decide +kernel
set_option maxRecDepth 100000 in
theorem mz_okr_74_0 : mz_okR (2, 12, (0, 0, 0), mzc_74) mzt_74 0 11 = true := by decide +kernel
set_option maxRecDepth 100000 in
theorem mz_oky_74 : mz_okY (2, 12, (0, 0, 0), mzc_74) mzt_74 = true := by decide +kernel
set_option maxRecDepth 100000 in
theorem mz_okr_75_0 : mz_okR (3, 12, (0, 0, 0), mzc_75) mzt_75 0 13 = true := by decide +kernel
set_option maxRecDepth 100000 in
theorem mz_oky_75 : mz_okY (3, 12, (0, 0, 0), mzc_75) mzt_75 = true := by decide +kernel
set_option maxRecDepth 100000 in
theorem mz_okr_76_0 : mz_okR (1, 0, (0, 0, 0), mzc_76) mzt_76 0 7 = true := by decide +kernel
set_option maxRecDepth 100000 in
theorem mz_oky_76 : mz_okY (1, 0, (0, 0, 0), mzc_76) mzt_76 = true := by decide +kernel
set_option maxRecDepth 100000 in
theorem mz_okr_77_0 : mz_okR (1, 0, (0, 0, 0), mzc_77) mzt_77 0 6 = true := by decide +kernel
set_option maxRecDepth 100000 in
theorem mz_oky_77 : mz_okY (1, 0, (0, 0, 0), mzc_77) mzt_77 = true := by decide +kernel
set_option maxRecDepth 100000 in
theorem mz_okr_78_0 : mz_okR (1, 0, (0, 0, 0), mzc_78) mzt_78 0 6 = true := by decide +kernel
set_option maxRecDepth 100000 in
theorem mz_oky_78 : mz_okY (1, 0, (0, 0, 0), mzc_78) mzt_78 = true := by decide +kernel
set_option maxRecDepth 100000 in
theorem mz_okr_79_0 : mz_okR (2, 12, (0, 0, 0), mzc_79) mzt_79 0 9 = true := by decide +kernel
set_option maxRecDepth 100000 in
theorem mz_oky_79 : mz_okY (2, 12, (0, 0, 0), mzc_79) mzt_79 = true := by decide +kernel
set_option maxRecDepth 100000 in
theorem mz_okr_80_0 : mz_okR (3, 0, (0, 0, 0), mzc_80) mzt_80 0 16 = true := by decide +kernel
set_option maxRecDepth 100000 in
theorem mz_oky_80 : mz_okY (3, 0, (0, 0, 0), mzc_80) mzt_80 = true := by decide +kernel
set_option maxRecDepth 100000 in
theorem mz_okr_81_0 : mz_okR (2, 0, (0, 0, 0), mzc_81) mzt_81 0 8 = true := by decide +kernel
set_option maxRecDepth 100000 in
theorem mz_oky_81 : mz_okY (2, 0, (0, 0, 0), mzc_81) mzt_81 = true := by decide +kernel
set_option maxRecDepth 100000 in
theorem mz_okr_82_0 : mz_okR (2, 0, (0, 0, 0), mzc_82) mzt_82 0 8 = true := by decide +kernel
set_option maxRecDepth 100000 in
theorem mz_oky_82 : mz_okY (2, 0, (0, 0, 0), mzc_82) mzt_82 = true := by decide +kernel
set_option maxRecDepth 100000 in
theorem mz_okr_83_0 : mz_okR (3, 12, (0, 0, 0), mzc_83) mzt_83 0 36 = true := by decide +kernel
set_option maxRecDepth 100000 in
theorem mz_oky_83 : mz_okY (3, 12, (0, 0, 0), mzc_83) mzt_83 = true := by decide +kernel
set_option maxRecDepth 100000 in
theorem mz_okr_84_0 : mz_okR (2, 12, (0, 0, 0), mzc_84) mzt_84 0 16 = true := by decide +kernel
set_option maxRecDepth 100000 in
theorem mz_oky_84 : mz_okY (2, 12, (0, 0, 0), mzc_84) mzt_84 = true := by decide +kernel
set_option maxRecDepth 100000 in
theorem mz_okr_85_0 : mz_okR (1, 12, (0, 0, 0), mzc_85) mzt_85 0 14 = true := by decide +kernel
set_option maxRecDepth 100000 in
theorem mz_oky_85 : mz_okY (1, 12, (0, 0, 0), mzc_85) mzt_85 = true := by decide +kernel
set_option maxRecDepth 100000 in
theorem mz_okr_86_0 : mz_okR (1, 12, (0, 0, 0), mzc_86) mzt_86 0 15 = true := by decide +kernel
set_option maxRecDepth 100000 in
theorem mz_oky_86 : mz_okY (1, 12, (0, 0, 0), mzc_86) mzt_86 = true := by decide +kernel
set_option maxRecDepth 100000 in
theorem mz_okr_87_0 : mz_okR (1, 12, (0, 0, 0), mzc_87) mzt_87 0 8 = true := by decide +kernel
set_option maxRecDepth 100000 in
theorem mz_oky_87 : mz_okY (1, 12, (0, 0, 0), mzc_87) mzt_87 = true := by decide +kernel
set_option maxRecDepth 100000 in
theorem mz_okr_88_0 : mz_okR (2, 12, (0, 0, 0), mzc_88) mzt_88 0 7 = true := by decide +kernel
set_option maxRecDepth 100000 in
theorem mz_oky_88 : mz_okY (2, 12, (0, 0, 0), mzc_88) mzt_88 = true := by decide +kernel
set_option maxRecDepth 100000 in
theorem mz_okr_89_0 : mz_okR (2, 12, (0, 0, 0), mzc_89) mzt_89 0 17 = true := by decide +kernel
set_option maxRecDepth 100000 in
theorem mz_oky_89 : mz_okY (2, 12, (0, 0, 0), mzc_89) mzt_89 = true := by decide +kernel
set_option maxRecDepth 100000 in
theorem mz_okr_90_0 : mz_okR (2, 12, (0, 0, 0), mzc_90) mzt_90 0 9 = true := by decide +kernel
set_option maxRecDepth 100000 in
theorem mz_oky_90 : mz_okY (2, 12, (0, 0, 0), mzc_90) mzt_90 = true := by decide +kernel
set_option maxRecDepth 100000 in
theorem mz_okr_91_0 : mz_okR (3, 12, (0, 0, 0), mzc_91) mzt_91 0 37 = true := by decide +kernel
set_option maxRecDepth 100000 in
theorem mz_oky_91 : mz_okY (3, 12, (0, 0, 0), mzc_91) mzt_91 = true := by decide +kernel
set_option maxRecDepth 100000 in
theorem mz_okr_92_0 : mz_okR (2, 12, (0, 0, 0), mzc_92) mzt_92 0 14 = true := by decide +kernel
set_option maxRecDepth 100000 in
theorem mz_oky_92 : mz_okY (2, 12, (0, 0, 0), mzc_92) mzt_92 = true := by decide +kernel
set_option maxRecDepth 100000 in
theorem mz_okr_93_0 : mz_okR (1, 12, (0, 0, 0), mzc_93) mzt_93 0 12 = true := by decide +kernel
set_option maxRecDepth 100000 in
theorem mz_oky_93 : mz_okY (1, 12, (0, 0, 0), mzc_93) mzt_93 = true := by decide +kernel
set_option maxRecDepth 100000 in
theorem mz_okr_94_0 : mz_okR (5, 12, (0, 0, 0), mzc_94) mzt_94 0 60 = true := by decide +kernel
set_option maxRecDepth 100000 in
theorem mz_okr_94_1 : mz_okR (5, 12, (0, 0, 0), mzc_94) mzt_94 60 11 = true := by decide +kernel
set_option maxRecDepth 100000 in
theorem mz_oky_94 : mz_okY (5, 12, (0, 0, 0), mzc_94) mzt_94 = true := by decide +kernel
set_option maxRecDepth 100000 in
theorem mz_okr_95_0 : mz_okR (3, 12, (0, 0, 0), mzc_95) mzt_95 0 60 = true := by decide +kernel
set_option maxRecDepth 100000 in
theorem mz_okr_95_1 : mz_okR (3, 12, (0, 0, 0), mzc_95) mzt_95 60 60 = true := by decide +kernel
set_option maxRecDepth 100000 in
theorem mz_okr_95_2 : mz_okR (3, 12, (0, 0, 0), mzc_95) mzt_95 120 15 = true := by decide +kernel
set_option maxRecDepth 100000 in
theorem mz_oky_95 : mz_okY (3, 12, (0, 0, 0), mzc_95) mzt_95 = true := by decide +kernel
end
section
/-! every method is as the machine has it: checked by the kernel -/
set_option maxRecDepth 100000 in
theorem mz_okr_96_0 : mz_okR (4, 12, (0, 0, 0), mzc_96) mzt_96 0 60 = true := by decide +kernel
set_option maxRecDepth 100000 in
theorem mz_okr_96_1 : mz_okR (4, 12, (0, 0, 0), mzc_96) mzt_96 60 41 = true := by decide +kernel
set_option maxRecDepth 100000 in
theorem mz_oky_96 : mz_okY (4, 12, (0, 0, 0), mzc_96) mzt_96 = true := by decide +kernel
set_option maxRecDepth 100000 in
theorem mz_okr_97_0 : mz_okR (4, 12, (0, 0, 0), mzc_97) mzt_97 0 41 = true := by decide +kernel
set_option maxRecDepth 100000 in
theorem mz_oky_97 : mz_okY (4, 12, (0, 0, 0), mzc_97) mzt_97 = true := by decide +kernel
set_option maxRecDepth 100000 in
theorem mz_okr_98_0 : mz_okR (1, 0, (0, 0, 0), mzc_98) mzt_98 0 5 = true := by decide +kernel
set_option maxRecDepth 100000 in
theorem mz_oky_98 : mz_okY (1, 0, (0, 0, 0), mzc_98) mzt_98 = true := by decide +kernel
set_option maxRecDepth 100000 in
theorem mz_okr_99_0 : mz_okR (5, 12, (0, 0, 0), mzc_99) mzt_99 0 60 = true := by decide +kernel
set_option maxRecDepth 100000 in
theorem mz_okr_99_1 : mz_okR (5, 12, (0, 0, 0), mzc_99) mzt_99 60 37 = true := by decide +kernel
set_option maxRecDepth 100000 in
theorem mz_oky_99 : mz_okY (5, 12, (0, 0, 0), mzc_99) mzt_99 = true := by decide +kernel
set_option maxRecDepth 100000 in
theorem mz_okr_100_0 : mz_okR (3, 12, (0, 0, 0), mzc_100) mzt_100 0 25 = true := by decide +kernel
set_option maxRecDepth 100000 in
theorem mz_oky_100 : mz_okY (3, 12, (0, 0, 0), mzc_100) mzt_100 = true := by decide +kernel
set_option maxRecDepth 100000 in
theorem mz_okr_101_0 : mz_okR (3, 12, (0, 0, 0), mzc_101) mzt_101 0 26 = true := by decide +kernel
set_option maxRecDepth 100000 in
theorem mz_oky_101 : mz_okY (3, 12, (0, 0, 0), mzc_101) mzt_101 = true := by decide +kernel
set_option maxRecDepth 100000 in
theorem mz_okr_102_0 : mz_okR (9, 12, (0, 0, 0), mzc_102) mzt_102 0 60 = true := by decide +kernel
set_option maxRecDepth 100000 in
theorem mz_okr_102_1 : mz_okR (9, 12, (0, 0, 0), mzc_102) mzt_102 60 23 = true := by decide +kernel
set_option maxRecDepth 100000 in
theorem mz_oky_102 : mz_okY (9, 12, (0, 0, 0), mzc_102) mzt_102 = true := by decide +kernel
set_option maxRecDepth 100000 in
theorem mz_okr_103_0 : mz_okR (2, 12, (0, 0, 0), mzc_103) mzt_103 0 18 = true := by decide +kernel
set_option maxRecDepth 100000 in
theorem mz_oky_103 : mz_okY (2, 12, (0, 0, 0), mzc_103) mzt_103 = true := by decide +kernel
set_option maxRecDepth 100000 in
theorem mz_okr_104_0 : mz_okR (2, 12, (0, 0, 0), mzc_104) mzt_104 0 54 = true := by decide +kernel
set_option maxRecDepth 100000 in
theorem mz_oky_104 : mz_okY (2, 12, (0, 0, 0), mzc_104) mzt_104 = true := by decide +kernel
set_option maxRecDepth 100000 in
theorem mz_okr_105_0 : mz_okR (3, 12, (0, 0, 0), mzc_105) mzt_105 0 39 = true := by decide +kernel
set_option maxRecDepth 100000 in
theorem mz_oky_105 : mz_okY (3, 12, (0, 0, 0), mzc_105) mzt_105 = true := by decide +kernel
set_option maxRecDepth 100000 in
theorem mz_okr_106_0 : mz_okR (5, 12, (0, 0, 0), mzc_106) mzt_106 0 30 = true := by decide +kernel
set_option maxRecDepth 100000 in
theorem mz_oky_106 : mz_okY (5, 12, (0, 0, 0), mzc_106) mzt_106 = true := by decide +kernel
set_option maxRecDepth 100000 in
theorem mz_okr_107_0 : mz_okR (4, 12, (0, 0, 0), mzc_107) mzt_107 0 26 = true := by decide +kernel
set_option maxRecDepth 100000 in
theorem mz_oky_107 : mz_okY (4, 12, (0, 0, 0), mzc_107) mzt_107 = true := by decide +kernel
set_option maxRecDepth 100000 in
theorem mz_okr_108_0 : mz_okR (5, 12, (0, 0, 0), mzc_108) mzt_108 0 28 = true := by decide +kernel
set_option maxRecDepth 100000 in
theorem mz_oky_108 : mz_okY (5, 12, (0, 0, 0), mzc_108) mzt_108 = true := by decide +kernel
set_option maxRecDepth 100000 in
theorem mz_okr_109_0 : mz_okR (4, 12, (0, 0, 0), mzc_109) mzt_109 0 29 = true := by decide +kernel
set_option maxRecDepth 100000 in
theorem mz_oky_109 : mz_okY (4, 12, (0, 0, 0), mzc_109) mzt_109 = true := by decide +kernel
set_option maxRecDepth 100000 in
theorem mz_okr_110_0 : mz_okR (3, 12, (0, 0, 0), mzc_110) mzt_110 0 18 = true := by decide +kernel
set_option maxRecDepth 100000 in
theorem mz_oky_110 : mz_okY (3, 12, (0, 0, 0), mzc_110) mzt_110 = true := by decide +kernel
set_option maxRecDepth 100000 in
theorem mz_okr_111_0 : mz_okR (5, 12, (0, 0, 0), mzc_111) mzt_111 0 39 = true := by decide +kernel
set_option maxRecDepth 100000 in
theorem mz_oky_111 : mz_okY (5, 12, (0, 0, 0), mzc_111) mzt_111 = true := by decide +kernel
set_option maxRecDepth 100000 in
theorem mz_okr_112_0 : mz_okR (5, 12, (0, 0, 0), mzc_112) mzt_112 0 60 = true := by decide +kernel
set_option maxRecDepth 100000 in
theorem mz_okr_112_1 : mz_okR (5, 12, (0, 0, 0), mzc_112) mzt_112 60 8 = true := by decide +kernel
set_option maxRecDepth 100000 in
theorem mz_oky_112 : mz_okY (5, 12, (0, 0, 0), mzc_112) mzt_112 = true := by decide +kernel
set_option maxRecDepth 100000 in
theorem mz_okr_113_0 : mz_okR (3, 12, (0, 0, 0), mzc_113) mzt_113 0 31 = true := by decide +kernel
set_option maxRecDepth 100000 in
theorem mz_oky_113 : mz_okY (3, 12, (0, 0, 0), mzc_113) mzt_113 = true := by decide +kernel
set_option maxRecDepth 100000 in
theorem mz_okr_114_0 : mz_okR (2, 12, (0, 0, 0), mzc_114) mzt_114 0 20 = true := by decide +kernel
set_option maxRecDepth 100000 in
theorem mz_oky_114 : mz_okY (2, 12, (0, 0, 0), mzc_114) mzt_114 = true := by decide +kernel
set_option maxRecDepth 100000 in
theorem mz_okr_115_0 : mz_okR (3, 12, (0, 0, 0), mzc_115) mzt_115 0 60 = true := by decide +kernel
set_option maxRecDepth 100000 in
theorem mz_okr_115_1 : mz_okR (3, 12, (0, 0, 0), mzc_115) mzt_115 60 20 = true := by decide +kernel
set_option maxRecDepth 100000 in
theorem mz_oky_115 : mz_okY (3, 12, (0, 0, 0), mzc_115) mzt_115 = true := by decide +kernel
set_option maxRecDepth 100000 in
theorem mz_okr_116_0 : mz_okR (5, 12, (0, 0, 0), mzc_116) mzt_116 0 60 = true := by decide +kernel
set_option maxRecDepth 100000 in
theorem mz_okr_116_1 : mz_okR (5, 12, (0, 0, 0), mzc_116) mzt_116 60 13 = true := by decide +kernel
set_option maxRecDepth 100000 in
theorem mz_oky_116 : mz_okY (5, 12, (0, 0, 0), mzc_116) mzt_116 = true := by decide +kernel
set_option maxRecDepth 100000 in
theorem mz_okr_117_0 : mz_okR (3, 12, (0, 0, 0), mzc_117) mzt_117 0 60 = true := by decide +kernel
set_option maxRecDepth 100000 in
theorem mz_okr_117_1 : mz_okR (3, 12, (0, 0, 0), mzc_117) mzt_117 60 15 = true := by decide +kernel
set_option maxRecDepth 100000 in
theorem mz_oky_117 : mz_okY (3, 12, (0, 0, 0), mzc_117) mzt_117 = true := by decide +kernel
set_option maxRecDepth 100000 in
theorem mz_okr_118_0 : mz_okR (2, 12, (0, 0, 0), mzc_118) mzt_118 0 37 = true := by decide +kernel
set_option maxRecDepth 100000 in
theorem mz_oky_118 : mz_okY (2, 12, (0, 0, 0), mzc_118) mzt_118 = true := by decide +kernel
set_option maxRecDepth 100000 in
theorem mz_okr_119_0 : mz_okR (2, 12, (0, 0, 0), mzc_119) mzt_119 0 35 = true := by decide +kernel
set_option maxRecDepth 100000 in
theorem mz_oky_119 : mz_okY (2, 12, (0, 0, 0), mzc_119) mzt_119 = true := by decide +kernel
set_option maxRecDepth 100000 in
theorem mz_okr_120_0 : mz_okR (5, 12, (0, 0, 0), mzc_120) mzt_120 0 36 = true := by decide +kernel
set_option maxRecDepth 100000 in
theorem mz_oky_120 : mz_okY (5, 12, (0, 0, 0), mzc_120) mzt_120 = true := by decide +kernel
set_option maxRecDepth 100000 in
theorem mz_okr_121_0 : mz_okR (5, 12, (0, 0, 0), mzc_121) mzt_121 0 28 = true := by decide +kernel
set_option maxRecDepth 100000 in
theorem mz_oky_121 : mz_okY (5, 12, (0, 0, 0), mzc_121) mzt_121 = true := by decide +kernel
set_option maxRecDepth 100000 in
theorem mz_okr_122_0 : mz_okR (7, 12, (0, 0, 0), mzc_122) mzt_122 0 60 = true := by decide +kernel
set_option maxRecDepth 100000 in
theorem mz_okr_122_1 : mz_okR (7, 12, (0, 0, 0), mzc_122) mzt_122 60 20 = true := by decide +kernel
set_option maxRecDepth 100000 in
theorem mz_oky_122 : mz_okY (7, 12, (0, 0, 0), mzc_122) mzt_122 = true := by decide +kernel
set_option maxRecDepth 100000 in
theorem mz_okr_123_0 : mz_okR (7, 12, (0, 0, 0), mzc_123) mzt_123 0 60 = true := by decide +kernel
set_option maxRecDepth 100000 in
theorem mz_okr_123_1 : mz_okR (7, 12, (0, 0, 0), mzc_123) mzt_123 60 20 = true := by decide +kernel
set_option maxRecDepth 100000 in
theorem mz_oky_123 : mz_okY (7, 12, (0, 0, 0), mzc_123) mzt_123 = true := by decide +kernel
set_option maxRecDepth 100000 in
theorem mz_okr_124_0 : mz_okR (4, 12, (0, 0, 0), mzc_124) mzt_124 0 26 = true := by decide +kernel
set_option maxRecDepth 100000 in
theorem mz_oky_124 : mz_okY (4, 12, (0, 0, 0), mzc_124) mzt_124 = true := by decide +kernel
set_option maxRecDepth 100000 in
theorem mz_okr_125_0 : mz_okR (8, 12, (0, 0, 0), mzc_125) mzt_125 0 60 = true := by decide +kernel
set_option maxRecDepth 100000 in
theorem mz_okr_125_1 : mz_okR (8, 12, (0, 0, 0), mzc_125) mzt_125 60 33 = true := by decide +kernel
set_option maxRecDepth 100000 in
theorem mz_oky_125 : mz_okY (8, 12, (0, 0, 0), mzc_125) mzt_125 = true := by decide +kernel
set_option maxRecDepth 100000 in
theorem mz_okr_126_0 : mz_okR (2, 12, (0, 0, 0), mzc_126) mzt_126 0 20 = true := by decide +kernel
set_option maxRecDepth 100000 in
theorem mz_oky_126 : mz_okY (2, 12, (0, 0, 0), mzc_126) mzt_126 = true := by decide +kernel
set_option maxRecDepth 100000 in
theorem mz_okr_127_0 : mz_okR (5, 12, (0, 0, 0), mzc_127) mzt_127 0 51 = true := by decide +kernel
set_option maxRecDepth 100000 in
theorem mz_oky_127 : mz_okY (5, 12, (0, 0, 0), mzc_127) mzt_127 = true := by decide +kernel
set_option maxRecDepth 100000 in
theorem mz_okr_128_0 : mz_okR (2, 12, (0, 0, 0), mzc_128) mzt_128 0 11 = true := by decide +kernel
set_option maxRecDepth 100000 in
theorem mz_oky_128 : mz_okY (2, 12, (0, 0, 0), mzc_128) mzt_128 = true := by decide +kernel
end
section
/-! every method is as the machine has it: checked by the kernel -/
set_option maxRecDepth 100000 in
theorem mz_okr_129_0 : mz_okR (3, 12, (0, 0, 0), mzc_129) mzt_129 0 18 = true := by decide +kernel
set_option maxRecDepth 100000 in
theorem mz_oky_129 : mz_okY (3, 12, (0, 0, 0), mzc_129) mzt_129 = true := by decide +kernel
set_option maxRecDepth 100000 in
theorem mz_okr_130_0 : mz_okR (3, 12, (0, 0, 0), mzc_130) mzt_130 0 29 = true := by decide +kernel
set_option maxRecDepth 100000 in
theorem mz_oky_130 : mz_okY (3, 12, (0, 0, 0), mzc_130) mzt_130 = true := by decide +kernel
set_option maxRecDepth 100000 in
theorem mz_okr_131_0 : mz_okR (2, 12, (0, 0, 0), mzc_131) mzt_131 0 25 = true := by decide +kernel
set_option maxRecDepth 100000 in
theorem mz_oky_131 : mz_okY (2, 12, (0, 0, 0), mzc_131) mzt_131 = true := by decide +kernel
set_option maxRecDepth 100000 in
theorem mz_okr_132_0 : mz_okR (4, 12, (0, 0, 0), mzc_132) mzt_132 0 52 = true := by decide +kernel
set_option maxRecDepth 100000 in
theorem mz_oky_132 : mz_okY (4, 12, (0, 0, 0), mzc_132) mzt_132 = true := by decide +kernel
set_option maxRecDepth 100000 in
theorem mz_okr_133_0 : mz_okR (6, 12, (0, 0, 0), mzc_133) mzt_133 0 55 = true := by decide +kernel
set_option maxRecDepth 100000 in
theorem mz_oky_133 : mz_okY (6, 12, (0, 0, 0), mzc_133) mzt_133 = true := by decide +kernel
set_option maxRecDepth 100000 in
theorem mz_okr_134_0 : mz_okR (3, 12, (0, 0, 0), mzc_134) mzt_134 0 40 = true := by decide +kernel
set_option maxRecDepth 100000 in
theorem mz_oky_134 : mz_okY (3, 12, (0, 0, 0), mzc_134) mzt_134 = true := by decide +kernel
set_option maxRecDepth 100000 in
theorem mz_okr_135_0 : mz_okR (7, 12, (0, 0, 0), mzc_135) mzt_135 0 60 = true := by decide +kernel
set_option maxRecDepth 100000 in
theorem mz_okr_135_1 : mz_okR (7, 12, (0, 0, 0), mzc_135) mzt_135 60 17 = true := by decide +kernel
set_option maxRecDepth 100000 in
theorem mz_oky_135 : mz_okY (7, 12, (0, 0, 0), mzc_135) mzt_135 = true := by decide +kernel
set_option maxRecDepth 100000 in
theorem mz_okr_136_0 : mz_okR (7, 12, (0, 0, 0), mzc_136) mzt_136 0 48 = true := by decide +kernel
set_option maxRecDepth 100000 in
theorem mz_oky_136 : mz_okY (7, 12, (0, 0, 0), mzc_136) mzt_136 = true := by decide +kernel
set_option maxRecDepth 100000 in
theorem mz_okr_137_0 : mz_okR (3, 12, (0, 0, 0), mzc_137) mzt_137 0 27 = true := by decide +kernel
set_option maxRecDepth 100000 in
theorem mz_oky_137 : mz_okY (3, 12, (0, 0, 0), mzc_137) mzt_137 = true := by decide +kernel
set_option maxRecDepth 100000 in
theorem mz_okr_138_0 : mz_okR (5, 12, (0, 0, 0), mzc_138) mzt_138 0 28 = true := by decide +kernel
set_option maxRecDepth 100000 in
theorem mz_oky_138 : mz_okY (5, 12, (0, 0, 0), mzc_138) mzt_138 = true := by decide +kernel
set_option maxRecDepth 100000 in
theorem mz_okr_139_0 : mz_okR (5, 12, (0, 0, 0), mzc_139) mzt_139 0 42 = true := by decide +kernel
set_option maxRecDepth 100000 in
theorem mz_oky_139 : mz_okY (5, 12, (0, 0, 0), mzc_139) mzt_139 = true := by decide +kernel
set_option maxRecDepth 100000 in
theorem mz_okr_140_0 : mz_okR (2, 12, (0, 0, 0), mzc_140) mzt_140 0 12 = true := by decide +kernel
set_option maxRecDepth 100000 in
theorem mz_oky_140 : mz_okY (2, 12, (0, 0, 0), mzc_140) mzt_140 = true := by decide +kernel
set_option maxRecDepth 100000 in
theorem mz_okr_141_0 : mz_okR (6, 12, (0, 0, 0), mzc_141) mzt_141 0 60 = true := by decide +kernel
set_option maxRecDepth 100000 in
theorem mz_okr_141_1 : mz_okR (6, 12, (0, 0, 0), mzc_141) mzt_141 60 31 = true := by decide +kernel
set_option maxRecDepth 100000 in
theorem mz_oky_141 : mz_okY (6, 12, (0, 0, 0), mzc_141) mzt_141 = true := by decide +kernel
set_option maxRecDepth 100000 in
theorem mz_okr_142_0 : mz_okR (7, 12, (0, 0, 0), mzc_142) mzt_142 0 60 = true := by decide +kernel
set_option maxRecDepth 100000 in
theorem mz_okr_142_1 : mz_okR (7, 12, (0, 0, 0), mzc_142) mzt_142 60 53 = true := by decide +kernel
set_option maxRecDepth 100000 in
theorem mz_oky_142 : mz_okY (7, 12, (0, 0, 0), mzc_142) mzt_142 = true := by decide +kernel
set_option maxRecDepth 100000 in
theorem mz_okr_143_0 : mz_okR (5, 12, (0, 0, 0), mzc_143) mzt_143 0 52 = true := by decide +kernel
set_option maxRecDepth 100000 in
theorem mz_oky_143 : mz_okY (5, 12, (0, 0, 0), mzc_143) mzt_143 = true := by decide +kernel
set_option maxRecDepth 100000 in
theorem mz_okr_144_0 : mz_okR (2, 12, (0, 0, 0), mzc_144) mzt_144 0 13 = true := by decide +kernel
set_option maxRecDepth 100000 in
theorem mz_oky_144 : mz_okY (2, 12, (0, 0, 0), mzc_144) mzt_144 = true := by decide +kernel
set_option maxRecDepth 100000 in
theorem mz_okr_145_0 : mz_okR (2, 12, (0, 0, 0), mzc_145) mzt_145 0 21 = true := by decide +kernel
set_option maxRecDepth 100000 in
theorem mz_oky_145 : mz_okY (2, 12, (0, 0, 0), mzc_145) mzt_145 = true := by decide +kernel
set_option maxRecDepth 100000 in
theorem mz_okr_146_0 : mz_okR (2, 12, (0, 0, 0), mzc_146) mzt_146 0 23 = true := by decide +kernel
set_option maxRecDepth 100000 in
theorem mz_oky_146 : mz_okY (2, 12, (0, 0, 0), mzc_146) mzt_146 = true := by decide +kernel
set_option maxRecDepth 100000 in
theorem mz_okr_147_0 : mz_okR (2, 12, (0, 0, 0), mzc_147) mzt_147 0 10 = true := by decide +kernel
set_option maxRecDepth 100000 in
theorem mz_oky_147 : mz_okY (2, 12, (0, 0, 0), mzc_147) mzt_147 = true := by decide +kernel
set_option maxRecDepth 100000 in
theorem mz_okr_148_0 : mz_okR (2, 12, (0, 0, 0), mzc_148) mzt_148 0 20 = true := by decide +kernel
set_option maxRecDepth 100000 in
theorem mz_oky_148 : mz_okY (2, 12, (0, 0, 0), mzc_148) mzt_148 = true := by decide +kernel
set_option maxRecDepth 100000 in
theorem mz_okr_149_0 : mz_okR (4, 12, (0, 0, 0), mzc_149) mzt_149 0 46 = true := by decide +kernel
set_option maxRecDepth 100000 in
theorem mz_oky_149 : mz_okY (4, 12, (0, 0, 0), mzc_149) mzt_149 = true := by decide +kernel
set_option maxRecDepth 100000 in
theorem mz_okr_150_0 : mz_okR (3, 12, (0, 0, 0), mzc_150) mzt_150 0 24 = true := by decide +kernel
set_option maxRecDepth 100000 in
theorem mz_oky_150 : mz_okY (3, 12, (0, 0, 0), mzc_150) mzt_150 = true := by decide +kernel
set_option maxRecDepth 100000 in
theorem mz_okr_151_0 : mz_okR (3, 12, (0, 0, 0), mzc_151) mzt_151 0 36 = true := by decide +kernel
set_option maxRecDepth 100000 in
theorem mz_oky_151 : mz_okY (3, 12, (0, 0, 0), mzc_151) mzt_151 = true := by decide +kernel
set_option maxRecDepth 100000 in
theorem mz_okr_152_0 : mz_okR (5, 12, (0, 0, 0), mzc_152) mzt_152 0 47 = true := by decide +kernel
set_option maxRecDepth 100000 in
theorem mz_oky_152 : mz_okY (5, 12, (0, 0, 0), mzc_152) mzt_152 = true := by decide +kernel
set_option maxRecDepth 100000 in
theorem mz_okr_153_0 : mz_okR (6, 12, (0, 0, 0), mzc_153) mzt_153 0 26 = true := by decide +kernel
set_option maxRecDepth 100000 in
theorem mz_oky_153 : mz_okY (6, 12, (0, 0, 0), mzc_153) mzt_153 = true := by decide +kernel
set_option maxRecDepth 100000 in
theorem mz_okr_154_0 : mz_okR (7, 12, (0, 0, 0), mzc_154) mzt_154 0 54 = true := by decide +kernel
set_option maxRecDepth 100000 in
theorem mz_oky_154 : mz_okY (7, 12, (0, 0, 0), mzc_154) mzt_154 = true := by decide +kernel
set_option maxRecDepth 100000 in
theorem mz_okr_155_0 : mz_okR (7, 12, (0, 0, 0), mzc_155) mzt_155 0 47 = true := by decide +kernel
set_option maxRecDepth 100000 in
theorem mz_oky_155 : mz_okY (7, 12, (0, 0, 0), mzc_155) mzt_155 = true := by decide +kernel
set_option maxRecDepth 100000 in
theorem mz_okr_156_0 : mz_okR (9, 12, (0, 0, 0), mzc_156) mzt_156 0 60 = true := by decide +kernel
set_option maxRecDepth 100000 in
theorem mz_okr_156_1 : mz_okR (9, 12, (0, 0, 0), mzc_156) mzt_156 60 25 = true := by decide +kernel
set_option maxRecDepth 100000 in
theorem mz_oky_156 : mz_okY (9, 12, (0, 0, 0), mzc_156) mzt_156 = true := by decide +kernel
set_option maxRecDepth 100000 in
theorem mz_okr_157_0 : mz_okR (5, 12, (0, 0, 0), mzc_157) mzt_157 0 44 = true := by decide +kernel
set_option maxRecDepth 100000 in
theorem mz_oky_157 : mz_okY (5, 12, (0, 0, 0), mzc_157) mzt_157 = true := by decide +kernel
set_option maxRecDepth 100000 in
theorem mz_okr_158_0 : mz_okR (4, 12, (0, 0, 0), mzc_158) mzt_158 0 42 = true := by decide +kernel
set_option maxRecDepth 100000 in
theorem mz_oky_158 : mz_okY (4, 12, (0, 0, 0), mzc_158) mzt_158 = true := by decide +kernel
set_option maxRecDepth 100000 in
theorem mz_okr_159_0 : mz_okR (6, 12, (0, 0, 0), mzc_159) mzt_159 0 60 = true := by decide +kernel
set_option maxRecDepth 100000 in
theorem mz_okr_159_1 : mz_okR (6, 12, (0, 0, 0), mzc_159) mzt_159 60 4 = true := by decide +kernel
set_option maxRecDepth 100000 in
theorem mz_oky_159 : mz_okY (6, 12, (0, 0, 0), mzc_159) mzt_159 = true := by decide +kernel
set_option maxRecDepth 100000 in
theorem mz_okr_160_0 : mz_okR (4, 12, (0, 0, 0), mzc_160) mzt_160 0 60 = true := by decide +kernel
set_option maxRecDepth 100000 in
theorem mz_okr_160_1 : mz_okR (4, 12, (0, 0, 0), mzc_160) mzt_160 60 26 = true := by decide +kernel
set_option maxRecDepth 100000 in
theorem mz_oky_160 : mz_okY (4, 12, (0, 0, 0), mzc_160) mzt_160 = true := by decide +kernel
set_option maxRecDepth 100000 in
theorem mz_okr_161_0 : mz_okR (6, 12, (0, 0, 0), mzc_161) mzt_161 0 60 = true := by decide +kernel
set_option maxRecDepth 100000 in
theorem mz_okr_161_1 : mz_okR (6, 12, (0, 0, 0), mzc_161) mzt_161 60 18 = true := by decide +kernel
set_option maxRecDepth 100000 in
theorem mz_oky_161 : mz_okY (6, 12, (0, 0, 0), mzc_161) mzt_161 = true := by decide +kernel
set_option maxRecDepth 100000 in
theorem mz_okr_162_0 : mz_okR (3, 12, (0, 0, 0), mzc_162) mzt_162 0 20 = true := by decide +kernel
set_option maxRecDepth 100000 in
theorem mz_oky_162 : mz_okY (3, 12, (0, 0, 0), mzc_162) mzt_162 = true := by decide +kernel
set_option maxRecDepth 100000 in
theorem mz_okr_163_0 : mz_okR (2, 12, (0, 0, 0), mzc_163) mzt_163 0 16 = true := by decide +kernel
set_option maxRecDepth 100000 in
theorem mz_oky_163 : mz_okY (2, 12, (0, 0, 0), mzc_163) mzt_163 = true := by decide +kernel
end
section
/-! every method is as the machine has it: checked by the kernel -/
set_option maxRecDepth 100000 in
theorem mz_okr_164_0 : mz_okR (2, 12, (0, 0, 0), mzc_164) mzt_164 0 16 = true := by decide +kernel
set_option maxRecDepth 100000 in
theorem mz_oky_164 : mz_okY (2, 12, (0, 0, 0), mzc_164) mzt_164 = true := by decide +kernel
set_option maxRecDepth 100000 in
theorem mz_okr_165_0 : mz_okR (3, 12, (0, 0, 0), mzc_165) mzt_165 0 25 = true := by decide +kernel
set_option maxRecDepth 100000 in
theorem mz_oky_165 : mz_okY (3, 12, (0, 0, 0), mzc_165) mzt_165 = true := by decide +kernel
set_option maxRecDepth 100000 in
theorem mz_okr_166_0 : mz_okR (9, 12, (0, 0, 0), mzc_166) mzt_166 0 60 = true := by decide +kernel
set_option maxRecDepth 100000 in
theorem mz_okr_166_1 : mz_okR (9, 12, (0, 0, 0), mzc_166) mzt_166 60 53 = true := by decide +kernel
set_option maxRecDepth 100000 in
theorem mz_oky_166 : mz_okY (9, 12, (0, 0, 0), mzc_166) mzt_166 = true := by decide +kernel
set_option maxRecDepth 100000 in
theorem mz_okr_167_0 : mz_okR (3, 12, (0, 0, 0), mzc_167) mzt_167 0 20 = true := by decide +kernel
set_option maxRecDepth 100000 in
theorem mz_oky_167 : mz_okY (3, 12, (0, 0, 0), mzc_167) mzt_167 = true := by decide +kernel
set_option maxRecDepth 100000 in
theorem mz_okr_168_0 : mz_okR (5, 12, (0, 0, 0), mzc_168) mzt_168 0 46 = true := by decide +kernel
set_option maxRecDepth 100000 in
theorem mz_oky_168 : mz_okY (5, 12, (0, 0, 0), mzc_168) mzt_168 = true := by decide +kernel
set_option maxRecDepth 100000 in
theorem mz_okr_169_0 : mz_okR (4, 12, (0, 0, 0), mzc_169) mzt_169 0 36 = true := by decide +kernel
set_option maxRecDepth 100000 in
theorem mz_oky_169 : mz_okY (4, 12, (0, 0, 0), mzc_169) mzt_169 = true := by decide +kernel
set_option maxRecDepth 100000 in
theorem mz_okr_170_0 : mz_okR (2, 12, (0, 0, 0), mzc_170) mzt_170 0 8 = true := by decide +kernel
set_option maxRecDepth 100000 in
theorem mz_oky_170 : mz_okY (2, 12, (0, 0, 0), mzc_170) mzt_170 = true := by decide +kernel
set_option maxRecDepth 100000 in
theorem mz_okr_171_0 : mz_okR (1, 12, (0, 0, 0), mzc_171) mzt_171 0 22 = true := by decide +kernel
set_option maxRecDepth 100000 in
theorem mz_oky_171 : mz_okY (1, 12, (0, 0, 0), mzc_171) mzt_171 = true := by decide +kernel
set_option maxRecDepth 100000 in
theorem mz_okr_172_0 : mz_okR (8, 12, (0, 0, 0), mzc_172) mzt_172 0 60 = true := by decide +kernel
set_option maxRecDepth 100000 in
theorem mz_okr_172_1 : mz_okR (8, 12, (0, 0, 0), mzc_172) mzt_172 60 60 = true := by decide +kernel
set_option maxRecDepth 100000 in
theorem mz_okr_172_2 : mz_okR (8, 12, (0, 0, 0), mzc_172) mzt_172 120 5 = true := by decide +kernel
set_option maxRecDepth 100000 in
theorem mz_oky_172 : mz_okY (8, 12, (0, 0, 0), mzc_172) mzt_172 = true := by decide +kernel
set_option maxRecDepth 100000 in
theorem mz_okr_173_0 : mz_okR (7, 12, (0, 0, 0), mzc_173) mzt_173 0 50 = true := by decide +kernel
set_option maxRecDepth 100000 in
theorem mz_oky_173 : mz_okY (7, 12, (0, 0, 0), mzc_173) mzt_173 = true := by decide +kernel
set_option maxRecDepth 100000 in
theorem mz_okr_174_0 : mz_okR (2, 12, (0, 0, 0), mzc_174) mzt_174 0 15 = true := by decide +kernel
set_option maxRecDepth 100000 in
theorem mz_oky_174 : mz_okY (2, 12, (0, 0, 0), mzc_174) mzt_174 = true := by decide +kernel
set_option maxRecDepth 100000 in
theorem mz_okr_175_0 : mz_okR (1, 12, (0, 0, 0), mzc_175) mzt_175 0 60 = true := by decide +kernel
set_option maxRecDepth 100000 in
theorem mz_okr_175_1 : mz_okR (1, 12, (0, 0, 0), mzc_175) mzt_175 60 4 = true := by decide +kernel
set_option maxRecDepth 100000 in
theorem mz_oky_175 : mz_okY (1, 12, (0, 0, 0), mzc_175) mzt_175 = true := by decide +kernel
set_option maxRecDepth 100000 in
theorem mz_okr_176_0 : mz_okR (4, 12, (0, 0, 0), mzc_176) mzt_176 0 53 = true := by decide +kernel
set_option maxRecDepth 100000 in
theorem mz_oky_176 : mz_okY (4, 12, (0, 0, 0), mzc_176) mzt_176 = true := by decide +kernel
set_option maxRecDepth 100000 in
theorem mz_okr_177_0 : mz_okR (3, 12, (0, 0, 0), mzc_177) mzt_177 0 36 = true := by decide +kernel
set_option maxRecDepth 100000 in
theorem mz_oky_177 : mz_okY (3, 12, (0, 0, 0), mzc_177) mzt_177 = true := by decide +kernel
set_option maxRecDepth 100000 in
theorem mz_okr_178_0 : mz_okR (3, 12, (0, 0, 0), mzc_178) mzt_178 0 39 = true := by decide +kernel
set_option maxRecDepth 100000 in
theorem mz_oky_178 : mz_okY (3, 12, (0, 0, 0), mzc_178) mzt_178 = true := by decide +kernel
set_option maxRecDepth 100000 in
theorem mz_okr_179_0 : mz_okR (4, 12, (0, 0, 0), mzc_179) mzt_179 0 25 = true := by decide +kernel
set_option maxRecDepth 100000 in
theorem mz_oky_179 : mz_okY (4, 12, (0, 0, 0), mzc_179) mzt_179 = true := by decide +kernel
set_option maxRecDepth 100000 in
theorem mz_okr_180_0 : mz_okR (2, 12, (0, 0, 0), mzc_180) mzt_180 0 51 = true := by decide +kernel
set_option maxRecDepth 100000 in
theorem mz_oky_180 : mz_okY (2, 12, (0, 0, 0), mzc_180) mzt_180 = true := by decide +kernel
set_option maxRecDepth 100000 in
theorem mz_okr_181_0 : mz_okR (2, 12, (0, 0, 0), mzc_181) mzt_181 0 20 = true := by decide +kernel
set_option maxRecDepth 100000 in
theorem mz_oky_181 : mz_okY (2, 12, (0, 0, 0), mzc_181) mzt_181 = true := by decide +kernel
set_option maxRecDepth 100000 in
theorem mz_okr_182_0 : mz_okR (3, 1, (0, 0, 0), mzc_182) mzt_182 0 50 = true := by decide +kernel
set_option maxRecDepth 100000 in
theorem mz_oky_182 : mz_okY (3, 1, (0, 0, 0), mzc_182) mzt_182 = true := by decide +kernel
set_option maxRecDepth 100000 in
theorem mz_okr_183_0 : mz_okR (3, 1, (0, 0, 0), mzc_183) mzt_183 0 60 = true := by decide +kernel
set_option maxRecDepth 100000 in
theorem mz_okr_183_1 : mz_okR (3, 1, (0, 0, 0), mzc_183) mzt_183 60 42 = true := by decide +kernel
set_option maxRecDepth 100000 in
theorem mz_oky_183 : mz_okY (3, 1, (0, 0, 0), mzc_183) mzt_183 = true := by decide +kernel
set_option maxRecDepth 100000 in
theorem mz_okr_184_0 : mz_okR (1, 0, (0, 0, 0), mzc_184) mzt_184 0 15 = true := by decide +kernel
set_option maxRecDepth 100000 in
theorem mz_oky_184 : mz_okY (1, 0, (0, 0, 0), mzc_184) mzt_184 = true := by decide +kernel
set_option maxRecDepth 100000 in
theorem mz_okr_185_0 : mz_okR (5, 1, (0, 0, 0), mzc_185) mzt_185 0 52 = true := by decide +kernel
set_option maxRecDepth 100000 in
theorem mz_oky_185 : mz_okY (5, 1, (0, 0, 0), mzc_185) mzt_185 = true := by decide +kernel
set_option maxRecDepth 100000 in
theorem mz_okr_186_0 : mz_okR (12, 1, (0, 0, 0), mzc_186) mzt_186 0 60 = true := by decide +kernel
set_option maxRecDepth 100000 in
theorem mz_okr_186_1 : mz_okR (12, 1, (0, 0, 0), mzc_186) mzt_186 60 36 = true := by decide +kernel
set_option maxRecDepth 100000 in
theorem mz_oky_186 : mz_okY (12, 1, (0, 0, 0), mzc_186) mzt_186 = true := by decide +kernel
set_option maxRecDepth 100000 in
theorem mz_okr_187_0 : mz_okR (4, 0, (0, 0, 0), mzc_187) mzt_187 0 14 = true := by decide +kernel
set_option maxRecDepth 100000 in
theorem mz_oky_187 : mz_okY (4, 0, (0, 0, 0), mzc_187) mzt_187 = true := by decide +kernel
set_option maxRecDepth 100000 in
theorem mz_okr_188_0 : mz_okR (2, 2, (0, 0, 0), mzc_188) mzt_188 0 60 = true := by decide +kernel
set_option maxRecDepth 100000 in
theorem mz_okr_188_1 : mz_okR (2, 2, (0, 0, 0), mzc_188) mzt_188 60 11 = true := by decide +kernel
set_option maxRecDepth 100000 in
theorem mz_oky_188 : mz_okY (2, 2, (0, 0, 0), mzc_188) mzt_188 = true := by decide +kernel
set_option maxRecDepth 100000 in
theorem mz_okr_189_0 : mz_okR (1, 2, (0, 0, 0), mzc_189) mzt_189 0 4 = true := by decide +kernel
set_option maxRecDepth 100000 in
theorem mz_oky_189 : mz_okY (1, 2, (0, 0, 0), mzc_189) mzt_189 = true := by decide +kernel
set_option maxRecDepth 100000 in
theorem mz_okr_190_0 : mz_okR (3, 2, (0, 0, 0), mzc_190) mzt_190 0 60 = true := by decide +kernel
set_option maxRecDepth 100000 in
theorem mz_okr_190_1 : mz_okR (3, 2, (0, 0, 0), mzc_190) mzt_190 60 8 = true := by decide +kernel
set_option maxRecDepth 100000 in
theorem mz_oky_190 : mz_okY (3, 2, (0, 0, 0), mzc_190) mzt_190 = true := by decide +kernel
set_option maxRecDepth 100000 in
theorem mz_okr_191_0 : mz_okR (2, 2, (0, 0, 0), mzc_191) mzt_191 0 60 = true := by decide +kernel
set_option maxRecDepth 100000 in
theorem mz_okr_191_1 : mz_okR (2, 2, (0, 0, 0), mzc_191) mzt_191 60 32 = true := by decide +kernel
set_option maxRecDepth 100000 in
theorem mz_oky_191 : mz_okY (2, 2, (0, 0, 0), mzc_191) mzt_191 = true := by decide +kernel
set_option maxRecDepth 100000 in
theorem mz_okr_192_0 : mz_okR (3, 2, (0, 0, 0), mzc_192) mzt_192 0 56 = true := by decide +kernel
set_option maxRecDepth 100000 in
theorem mz_oky_192 : mz_okY (3, 2, (0, 0, 0), mzc_192) mzt_192 = true := by decide +kernel
set_option maxRecDepth 100000 in
theorem mz_okr_193_0 : mz_okR (6, 2, (0, 0, 0), mzc_193) mzt_193 0 60 = true := by decide +kernel
set_option maxRecDepth 100000 in
theorem mz_okr_193_1 : mz_okR (6, 2, (0, 0, 0), mzc_193) mzt_193 60 4 = true := by decide +kernel
set_option maxRecDepth 100000 in
theorem mz_oky_193 : mz_okY (6, 2, (0, 0, 0), mzc_193) mzt_193 = true := by decide +kernel
set_option maxRecDepth 100000 in
theorem mz_okr_194_0 : mz_okR (4, 2, (0, 0, 0), mzc_194) mzt_194 0 17 = true := by decide +kernel
set_option maxRecDepth 100000 in
theorem mz_oky_194 : mz_okY (4, 2, (0, 0, 0), mzc_194) mzt_194 = true := by decide +kernel
set_option maxRecDepth 100000 in
theorem mz_okr_195_0 : mz_okR (4, 2, (0, 0, 0), mzc_195) mzt_195 0 51 = true := by decide +kernel
set_option maxRecDepth 100000 in
theorem mz_oky_195 : mz_okY (4, 2, (0, 0, 0), mzc_195) mzt_195 = true := by decide +kernel
end
section
/-! every method is as the machine has it: checked by the kernel -/
set_option maxRecDepth 100000 in
theorem mz_okr_196_0 : mz_okR (5, 2, (0, 0, 0), mzc_196) mzt_196 0 35 = true := by decide +kernel
set_option maxRecDepth 100000 in
theorem mz_oky_196 : mz_okY (5, 2, (0, 0, 0), mzc_196) mzt_196 = true := by decide +kernel
set_option maxRecDepth 100000 in
theorem mz_okr_197_0 : mz_okR (3, 2, (0, 0, 0), mzc_197) mzt_197 0 14 = true := by decide +kernel
set_option maxRecDepth 100000 in
theorem mz_oky_197 : mz_okY (3, 2, (0, 0, 0), mzc_197) mzt_197 = true := by decide +kernel
set_option maxRecDepth 100000 in
theorem mz_okr_198_0 : mz_okR (1, 2, (0, 0, 0), mzc_198) mzt_198 0 29 = true := by decide +kernel
set_option maxRecDepth 100000 in
theorem mz_oky_198 : mz_okY (1, 2, (0, 0, 0), mzc_198) mzt_198 = true := by decide +kernel
set_option maxRecDepth 100000 in
theorem mz_okr_199_0 : mz_okR (4, 2, (0, 0, 0), mzc_199) mzt_199 0 26 = true := by decide +kernel
set_option maxRecDepth 100000 in
theorem mz_oky_199 : mz_okY (4, 2, (0, 0, 0), mzc_199) mzt_199 = true := by decide +kernel
set_option maxRecDepth 100000 in
theorem mz_okr_200_0 : mz_okR (3, 2, (0, 0, 0), mzc_200) mzt_200 0 18 = true := by decide +kernel
set_option maxRecDepth 100000 in
theorem mz_oky_200 : mz_okY (3, 2, (0, 0, 0), mzc_200) mzt_200 = true := by decide +kernel
set_option maxRecDepth 100000 in
theorem mz_okr_201_0 : mz_okR (2, 2, (0, 0, 0), mzc_201) mzt_201 0 46 = true := by decide +kernel
set_option maxRecDepth 100000 in
theorem mz_oky_201 : mz_okY (2, 2, (0, 0, 0), mzc_201) mzt_201 = true := by decide +kernel
set_option maxRecDepth 100000 in
theorem mz_okr_202_0 : mz_okR (6, 2, (0, 0, 0), mzc_202) mzt_202 0 54 = true := by decide +kernel
set_option maxRecDepth 100000 in
theorem mz_oky_202 : mz_okY (6, 2, (0, 0, 0), mzc_202) mzt_202 = true := by decide +kernel
set_option maxRecDepth 100000 in
theorem mz_okr_203_0 : mz_okR (6, 2, (0, 0, 0), mzc_203) mzt_203 0 56 = true := by decide +kernel
set_option maxRecDepth 100000 in
theorem mz_oky_203 : mz_okY (6, 2, (0, 0, 0), mzc_203) mzt_203 = true := by decide +kernel
set_option maxRecDepth 100000 in
theorem mz_okr_204_0 : mz_okR (6, 2, (0, 0, 0), mzc_204) mzt_204 0 51 = true := by decide +kernel
set_option maxRecDepth 100000 in
theorem mz_oky_204 : mz_okY (6, 2, (0, 0, 0), mzc_204) mzt_204 = true := by decide +kernel
set_option maxRecDepth 100000 in
theorem mz_okr_205_0 : mz_okR (6, 2, (0, 0, 0), mzc_205) mzt_205 0 56 = true := by decide +kernel
set_option maxRecDepth 100000 in
theorem mz_oky_205 : mz_okY (6, 2, (0, 0, 0), mzc_205) mzt_205 = true := by decide +kernel
set_option maxRecDepth 100000 in
theorem mz_okr_206_0 : mz_okR (5, 2, (0, 0, 0), mzc_206) mzt_206 0 60 = true := by decide +kernel
set_option maxRecDepth 100000 in
theorem mz_okr_206_1 : mz_okR (5, 2, (0, 0, 0), mzc_206) mzt_206 60 1 = true := by decide +kernel
set_option maxRecDepth 100000 in
theorem mz_oky_206 : mz_okY (5, 2, (0, 0, 0), mzc_206) mzt_206 = true := by decide +kernel
set_option maxRecDepth 100000 in
theorem mz_okr_207_0 : mz_okR (4, 2, (0, 0, 0), mzc_207) mzt_207 0 22 = true := by decide +kernel
set_option maxRecDepth 100000 in
theorem mz_oky_207 : mz_okY (4, 2, (0, 0, 0), mzc_207) mzt_207 = true := by decide +kernel
set_option maxRecDepth 100000 in
theorem mz_okr_208_0 : mz_okR (4, 2, (0, 0, 0), mzc_208) mzt_208 0 21 = true := by decide +kernel
set_option maxRecDepth 100000 in
theorem mz_oky_208 : mz_okY (4, 2, (0, 0, 0), mzc_208) mzt_208 = true := by decide +kernel
set_option maxRecDepth 100000 in
theorem mz_okr_209_0 : mz_okR (4, 2, (0, 0, 0), mzc_209) mzt_209 0 31 = true := by decide +kernel
set_option maxRecDepth 100000 in
theorem mz_oky_209 : mz_okY (4, 2, (0, 0, 0), mzc_209) mzt_209 = true := by decide +kernel
set_option maxRecDepth 100000 in
theorem mz_okr_210_0 : mz_okR (4, 2, (0, 0, 0), mzc_210) mzt_210 0 31 = true := by decide +kernel
set_option maxRecDepth 100000 in
theorem mz_oky_210 : mz_okY (4, 2, (0, 0, 0), mzc_210) mzt_210 = true := by decide +kernel
set_option maxRecDepth 100000 in
theorem mz_okr_211_0 : mz_okR (3, 2, (0, 0, 0), mzc_211) mzt_211 0 60 = true := by decide +kernel
set_option maxRecDepth 100000 in
theorem mz_okr_211_1 : mz_okR (3, 2, (0, 0, 0), mzc_211) mzt_211 60 30 = true := by decide +kernel
set_option maxRecDepth 100000 in
theorem mz_oky_211 : mz_okY (3, 2, (0, 0, 0), mzc_211) mzt_211 = true := by decide +kernel
set_option maxRecDepth 100000 in
theorem mz_okr_212_0 : mz_okR (2, 3, (0, 0, 0), mzc_212) mzt_212 0 6 = true := by decide +kernel
set_option maxRecDepth 100000 in
theorem mz_oky_212 : mz_okY (2, 3, (0, 0, 0), mzc_212) mzt_212 = true := by decide +kernel
set_option maxRecDepth 100000 in
theorem mz_okr_213_0 : mz_okR (2, 3, (0, 0, 0), mzc_213) mzt_213 0 20 = true := by decide +kernel
set_option maxRecDepth 100000 in
theorem mz_oky_213 : mz_okY (2, 3, (0, 0, 0), mzc_213) mzt_213 = true := by decide +kernel
set_option maxRecDepth 100000 in
theorem mz_okr_214_0 : mz_okR (1, 4, (0, 0, 0), mzc_214) mzt_214 0 60 = true := by decide +kernel
set_option maxRecDepth 100000 in
theorem mz_okr_214_1 : mz_okR (1, 4, (0, 0, 0), mzc_214) mzt_214 60 6 = true := by decide +kernel
set_option maxRecDepth 100000 in
theorem mz_oky_214 : mz_okY (1, 4, (0, 0, 0), mzc_214) mzt_214 = true := by decide +kernel
set_option maxRecDepth 100000 in
theorem mz_okr_215_0 : mz_okR (2, 4, (0, 0, 0), mzc_215) mzt_215 0 24 = true := by decide +kernel
set_option maxRecDepth 100000 in
theorem mz_oky_215 : mz_okY (2, 4, (0, 0, 0), mzc_215) mzt_215 = true := by decide +kernel
set_option maxRecDepth 100000 in
theorem mz_okr_216_0 : mz_okR (2, 4, (0, 0, 0), mzc_216) mzt_216 0 37 = true := by decide +kernel
set_option maxRecDepth 100000 in
theorem mz_oky_216 : mz_okY (2, 4, (0, 0, 0), mzc_216) mzt_216 = true := by decide +kernel
set_option maxRecDepth 100000 in
theorem mz_okr_217_0 : mz_okR (6, 4, (0, 0, 0), mzc_217) mzt_217 0 21 = true := by decide +kernel
set_option maxRecDepth 100000 in
theorem mz_oky_217 : mz_okY (6, 4, (0, 0, 0), mzc_217) mzt_217 = true := by decide +kernel
set_option maxRecDepth 100000 in
theorem mz_okr_218_0 : mz_okR (2, 4, (0, 0, 0), mzc_218) mzt_218 0 10 = true := by decide +kernel
set_option maxRecDepth 100000 in
theorem mz_oky_218 : mz_okY (2, 4, (0, 0, 0), mzc_218) mzt_218 = true := by decide +kernel
set_option maxRecDepth 100000 in
theorem mz_okr_219_0 : mz_okR (5, 4, (0, 0, 0), mzc_219) mzt_219 0 25 = true := by decide +kernel
set_option maxRecDepth 100000 in
theorem mz_oky_219 : mz_okY (5, 4, (0, 0, 0), mzc_219) mzt_219 = true := by decide +kernel
set_option maxRecDepth 100000 in
theorem mz_okr_220_0 : mz_okR (1, 4, (0, 0, 0), mzc_220) mzt_220 0 22 = true := by decide +kernel
set_option maxRecDepth 100000 in
theorem mz_oky_220 : mz_okY (1, 4, (0, 0, 0), mzc_220) mzt_220 = true := by decide +kernel
set_option maxRecDepth 100000 in
theorem mz_okr_221_0 : mz_okR (1, 0, (0, 0, 0), mzc_221) mzt_221 0 6 = true := by decide +kernel
set_option maxRecDepth 100000 in
theorem mz_oky_221 : mz_okY (1, 0, (0, 0, 0), mzc_221) mzt_221 = true := by decide +kernel
set_option maxRecDepth 100000 in
theorem mz_okr_222_0 : mz_okR (1, 0, (0, 0, 0), mzc_222) mzt_222 0 6 = true := by decide +kernel
set_option maxRecDepth 100000 in
theorem mz_oky_222 : mz_okY (1, 0, (0, 0, 0), mzc_222) mzt_222 = true := by decide +kernel
set_option maxRecDepth 100000 in
theorem mz_okr_223_0 : mz_okR (3, 5, (0, 0, 0), mzc_223) mzt_223 0 56 = true := by decide +kernel
set_option maxRecDepth 100000 in
theorem mz_oky_223 : mz_okY (3, 5, (0, 0, 0), mzc_223) mzt_223 = true := by decide +kernel
set_option maxRecDepth 100000 in
theorem mz_okr_224_0 : mz_okR (1, 5, (0, 0, 0), mzc_224) mzt_224 0 9 = true := by decide +kernel
set_option maxRecDepth 100000 in
theorem mz_oky_224 : mz_okY (1, 5, (0, 0, 0), mzc_224) mzt_224 = true := by decide +kernel
set_option maxRecDepth 100000 in
theorem mz_okr_225_0 : mz_okR (1, 5, (0, 0, 0), mzc_225) mzt_225 0 19 = true := by decide +kernel
set_option maxRecDepth 100000 in
theorem mz_oky_225 : mz_okY (1, 5, (0, 0, 0), mzc_225) mzt_225 = true := by decide +kernel
set_option maxRecDepth 100000 in
theorem mz_okr_226_0 : mz_okR (1, 5, (0, 0, 0), mzc_226) mzt_226 0 32 = true := by decide +kernel
set_option maxRecDepth 100000 in
theorem mz_oky_226 : mz_okY (1, 5, (0, 0, 0), mzc_226) mzt_226 = true := by decide +kernel
set_option maxRecDepth 100000 in
theorem mz_okr_227_0 : mz_okR (2, 5, (0, 0, 0), mzc_227) mzt_227 0 21 = true := by decide +kernel
set_option maxRecDepth 100000 in
theorem mz_oky_227 : mz_okY (2, 5, (0, 0, 0), mzc_227) mzt_227 = true := by decide +kernel
set_option maxRecDepth 100000 in
theorem mz_okr_228_0 : mz_okR (2, 5, (0, 0, 0), mzc_228) mzt_228 0 24 = true := by decide +kernel
set_option maxRecDepth 100000 in
theorem mz_oky_228 : mz_okY (2, 5, (0, 0, 0), mzc_228) mzt_228 = true := by decide +kernel
set_option maxRecDepth 100000 in
theorem mz_okr_229_0 : mz_okR (3, 6, (0, 0, 0), mzc_229) mzt_229 0 23 = true := by decide +kernel
set_option maxRecDepth 100000 in
theorem mz_oky_229 : mz_okY (3, 6, (0, 0, 0), mzc_229) mzt_229 = true := by decide +kernel
set_option maxRecDepth 100000 in
theorem mz_okr_230_0 : mz_okR (1, 6, (0, 0, 0), mzc_230) mzt_230 0 4 = true := by decide +kernel
set_option maxRecDepth 100000 in
theorem mz_oky_230 : mz_okY (1, 6, (0, 0, 0), mzc_230) mzt_230 = true := by decide +kernel
set_option maxRecDepth 100000 in
theorem mz_okr_231_0 : mz_okR (3, 6, (0, 0, 0), mzc_231) mzt_231 0 26 = true := by decide +kernel
set_option maxRecDepth 100000 in
theorem mz_oky_231 : mz_okY (3, 6, (0, 0, 0), mzc_231) mzt_231 = true := by decide +kernel
set_option maxRecDepth 100000 in
theorem mz_okr_232_0 : mz_okR (5, 6, (0, 0, 0), mzc_232) mzt_232 0 60 = true := by decide +kernel
set_option maxRecDepth 100000 in
theorem mz_okr_232_1 : mz_okR (5, 6, (0, 0, 0), mzc_232) mzt_232 60 9 = true := by decide +kernel
set_option maxRecDepth 100000 in
theorem mz_oky_232 : mz_okY (5, 6, (0, 0, 0), mzc_232) mzt_232 = true := by decide +kernel
set_option maxRecDepth 100000 in
theorem mz_okr_233_0 : mz_okR (6, 6, (0, 0, 0), mzc_233) mzt_233 0 40 = true := by decide +kernel
set_option maxRecDepth 100000 in
theorem mz_oky_233 : mz_okY (6, 6, (0, 0, 0), mzc_233) mzt_233 = true := by decide +kernel
set_option maxRecDepth 100000 in
theorem mz_okr_234_0 : mz_okR (5, 6, (0, 0, 0), mzc_234) mzt_234 0 58 = true := by decide +kernel
set_option maxRecDepth 100000 in
theorem mz_oky_234 : mz_okY (5, 6, (0, 0, 0), mzc_234) mzt_234 = true := by decide +kernel
set_option maxRecDepth 100000 in
theorem mz_okr_235_0 : mz_okR (5, 6, (0, 0, 0), mzc_235) mzt_235 0 46 = true := by decide +kernel
set_option maxRecDepth 100000 in
theorem mz_oky_235 : mz_okY (5, 6, (0, 0, 0), mzc_235) mzt_235 = true := by decide +kernel
set_option maxRecDepth 100000 in
theorem mz_okr_236_0 : mz_okR (8, 6, (0, 0, 0), mzc_236) mzt_236 0 60 = true := by decide +kernel
set_option maxRecDepth 100000 in
theorem mz_okr_236_1 : mz_okR (8, 6, (0, 0, 0), mzc_236) mzt_236 60 15 = true := by decide +kernel
set_option maxRecDepth 100000 in
theorem mz_oky_236 : mz_okY (8, 6, (0, 0, 0), mzc_236) mzt_236 = true := by decide +kernel
set_option maxRecDepth 100000 in
theorem mz_okr_237_0 : mz_okR (5, 6, (0, 0, 0), mzc_237) mzt_237 0 36 = true := by decide +kernel
set_option maxRecDepth 100000 in
theorem mz_oky_237 : mz_okY (5, 6, (0, 0, 0), mzc_237) mzt_237 = true := by decide +kernel
set_option maxRecDepth 100000 in
theorem mz_okr_238_0 : mz_okR (6, 6, (0, 0, 0), mzc_238) mzt_238 0 60 = true := by decide +kernel
set_option maxRecDepth 100000 in
theorem mz_okr_238_1 : mz_okR (6, 6, (0, 0, 0), mzc_238) mzt_238 60 1 = true := by decide +kernel
set_option maxRecDepth 100000 in
theorem mz_oky_238 : mz_okY (6, 6, (0, 0, 0), mzc_238) mzt_238 = true := by decide +kernel
set_option maxRecDepth 100000 in
theorem mz_okr_239_0 : mz_okR (2, 6, (0, 0, 0), mzc_239) mzt_239 0 7 = true := by decide +kernel
set_option maxRecDepth 100000 in
theorem mz_oky_239 : mz_okY (2, 6, (0, 0, 0), mzc_239) mzt_239 = true := by decide +kernel
set_option maxRecDepth 100000 in
theorem mz_okr_240_0 : mz_okR (2, 6, (0, 0, 0), mzc_240) mzt_240 0 13 = true := by decide +kernel
set_option maxRecDepth 100000 in
theorem mz_oky_240 : mz_okY (2, 6, (0, 0, 0), mzc_240) mzt_240 = true := by decide +kernel
end
section
/-! every method is as the machine has it: checked by the kernel -/
set_option maxRecDepth 100000 in
theorem mz_okr_241_0 : mz_okR (6, 6, (0, 0, 0), mzc_241) mzt_241 0 31 = true := by decide +kernel
set_option maxRecDepth 100000 in
theorem mz_oky_241 : mz_okY (6, 6, (0, 0, 0), mzc_241) mzt_241 = true := by decide +kernel
set_option maxRecDepth 100000 in
theorem mz_okr_242_0 : mz_okR (2, 6, (0, 0, 0), mzc_242) mzt_242 0 11 = true := by decide +kernel
set_option maxRecDepth 100000 in
theorem mz_oky_242 : mz_okY (2, 6, (0, 0, 0), mzc_242) mzt_242 = true := by decide +kernel
set_option maxRecDepth 100000 in
theorem mz_okr_243_0 : mz_okR (3, 6, (0, 0, 0), mzc_243) mzt_243 0 21 = true := by decide +kernel
set_option maxRecDepth 100000 in
theorem mz_oky_243 : mz_okY (3, 6, (0, 0, 0), mzc_243) mzt_243 = true := by decide +kernel
set_option maxRecDepth 100000 in
theorem mz_okr_244_0 : mz_okR (3, 6, (0, 0, 0), mzc_244) mzt_244 0 19 = true := by decide +kernel
set_option maxRecDepth 100000 in
theorem mz_oky_244 : mz_okY (3, 6, (0, 0, 0), mzc_244) mzt_244 = true := by decide +kernel
set_option maxRecDepth 100000 in
theorem mz_okr_245_0 : mz_okR (6, 6, (0, 0, 0), mzc_245) mzt_245 0 52 = true := by decide +kernel
set_option maxRecDepth 100000 in
theorem mz_oky_245 : mz_okY (6, 6, (0, 0, 0), mzc_245) mzt_245 = true := by decide +kernel
set_option maxRecDepth 100000 in
theorem mz_okr_246_0 : mz_okR (4, 6, (0, 0, 0), mzc_246) mzt_246 0 37 = true := by decide +kernel
set_option maxRecDepth 100000 in
theorem mz_oky_246 : mz_okY (4, 6, (0, 0, 0), mzc_246) mzt_246 = true := by decide +kernel
set_option maxRecDepth 100000 in
theorem mz_okr_247_0 : mz_okR (4, 6, (0, 0, 0), mzc_247) mzt_247 0 22 = true := by decide +kernel
set_option maxRecDepth 100000 in
theorem mz_oky_247 : mz_okY (4, 6, (0, 0, 0), mzc_247) mzt_247 = true := by decide +kernel
set_option maxRecDepth 100000 in
theorem mz_okr_248_0 : mz_okR (3, 7, (0, 0, 0), mzc_248) mzt_248 0 29 = true := by decide +kernel
set_option maxRecDepth 100000 in
theorem mz_oky_248 : mz_okY (3, 7, (0, 0, 0), mzc_248) mzt_248 = true := by decide +kernel
set_option maxRecDepth 100000 in
theorem mz_okr_249_0 : mz_okR (1, 7, (0, 0, 0), mzc_249) mzt_249 0 12 = true := by decide +kernel
set_option maxRecDepth 100000 in
theorem mz_oky_249 : mz_okY (1, 7, (0, 0, 0), mzc_249) mzt_249 = true := by decide +kernel
set_option maxRecDepth 100000 in
theorem mz_okr_250_0 : mz_okR (6, 7, (0, 0, 0), mzc_250) mzt_250 0 25 = true := by decide +kernel
set_option maxRecDepth 100000 in
theorem mz_oky_250 : mz_okY (6, 7, (0, 0, 0), mzc_250) mzt_250 = true := by decide +kernel
set_option maxRecDepth 100000 in
theorem mz_okr_251_0 : mz_okR (3, 7, (0, 0, 0), mzc_251) mzt_251 0 16 = true := by decide +kernel
set_option maxRecDepth 100000 in
theorem mz_oky_251 : mz_okY (3, 7, (0, 0, 0), mzc_251) mzt_251 = true := by decide +kernel
set_option maxRecDepth 100000 in
theorem mz_okr_252_0 : mz_okR (6, 7, (0, 0, 0), mzc_252) mzt_252 0 49 = true := by decide +kernel
set_option maxRecDepth 100000 in
theorem mz_oky_252 : mz_okY (6, 7, (0, 0, 0), mzc_252) mzt_252 = true := by decide +kernel
set_option maxRecDepth 100000 in
theorem mz_okr_253_0 : mz_okR (6, 7, (0, 0, 0), mzc_253) mzt_253 0 52 = true := by decide +kernel
set_option maxRecDepth 100000 in
theorem mz_oky_253 : mz_okY (6, 7, (0, 0, 0), mzc_253) mzt_253 = true := by decide +kernel
set_option maxRecDepth 100000 in
theorem mz_okr_254_0 : mz_okR (3, 7, (0, 0, 0), mzc_254) mzt_254 0 19 = true := by decide +kernel
set_option maxRecDepth 100000 in
theorem mz_oky_254 : mz_okY (3, 7, (0, 0, 0), mzc_254) mzt_254 = true := by decide +kernel
set_option maxRecDepth 100000 in
theorem mz_okr_255_0 : mz_okR (3, 7, (0, 0, 0), mzc_255) mzt_255 0 19 = true := by decide +kernel
set_option maxRecDepth 100000 in
theorem mz_oky_255 : mz_okY (3, 7, (0, 0, 0), mzc_255) mzt_255 = true := by decide +kernel
set_option maxRecDepth 100000 in
theorem mz_okr_256_0 : mz_okR (5, 7, (0, 0, 0), mzc_256) mzt_256 0 27 = true := by decide +kernel
set_option maxRecDepth 100000 in
theorem mz_oky_256 : mz_okY (5, 7, (0, 0, 0), mzc_256) mzt_256 = true := by decide +kernel
set_option maxRecDepth 100000 in
theorem mz_okr_257_0 : mz_okR (3, 7, (0, 0, 0), mzc_257) mzt_257 0 51 = true := by decide +kernel
set_option maxRecDepth 100000 in
theorem mz_oky_257 : mz_okY (3, 7, (0, 0, 0), mzc_257) mzt_257 = true := by decide +kernel
set_option maxRecDepth 100000 in
theorem mz_okr_258_0 : mz_okR (9, 7, (0, 0, 0), mzc_258) mzt_258 0 60 = true := by decide +kernel
set_option maxRecDepth 100000 in
theorem mz_okr_258_1 : mz_okR (9, 7, (0, 0, 0), mzc_258) mzt_258 60 20 = true := by decide +kernel
set_option maxRecDepth 100000 in
theorem mz_oky_258 : mz_okY (9, 7, (0, 0, 0), mzc_258) mzt_258 = true := by decide +kernel
set_option maxRecDepth 100000 in
theorem mz_okr_259_0 : mz_okR (2, 8, (0, 0, 0), mzc_259) mzt_259 0 14 = true := by decide +kernel
set_option maxRecDepth 100000 in
theorem mz_oky_259 : mz_okY (2, 8, (0, 0, 0), mzc_259) mzt_259 = true := by decide +kernel
set_option maxRecDepth 100000 in
theorem mz_okr_260_0 : mz_okR (1, 8, (0, 0, 0), mzc_260) mzt_260 0 34 = true := by decide +kernel
set_option maxRecDepth 100000 in
theorem mz_oky_260 : mz_okY (1, 8, (0, 0, 0), mzc_260) mzt_260 = true := by decide +kernel
set_option maxRecDepth 100000 in
theorem mz_okr_261_0 : mz_okR (2, 8, (0, 0, 0), mzc_261) mzt_261 0 37 = true := by decide +kernel
set_option maxRecDepth 100000 in
theorem mz_oky_261 : mz_okY (2, 8, (0, 0, 0), mzc_261) mzt_261 = true := by decide +kernel
set_option maxRecDepth 100000 in
theorem mz_okr_262_0 : mz_okR (6, 8, (0, 0, 0), mzc_262) mzt_262 0 60 = true := by decide +kernel
set_option maxRecDepth 100000 in
theorem mz_oky_262 : mz_okY (6, 8, (0, 0, 0), mzc_262) mzt_262 = true := by decide +kernel
set_option maxRecDepth 100000 in
theorem mz_okr_263_0 : mz_okR (5, 8, (0, 0, 0), mzc_263) mzt_263 0 55 = true := by decide +kernel
set_option maxRecDepth 100000 in
theorem mz_oky_263 : mz_okY (5, 8, (0, 0, 0), mzc_263) mzt_263 = true := by decide +kernel
set_option maxRecDepth 100000 in
theorem mz_okr_264_0 : mz_okR (1, 0, (0, 0, 0), mzc_264) mzt_264 0 12 = true := by decide +kernel
set_option maxRecDepth 100000 in
theorem mz_oky_264 : mz_okY (1, 0, (0, 0, 0), mzc_264) mzt_264 = true := by decide +kernel
set_option maxRecDepth 100000 in
theorem mz_okr_265_0 : mz_okR (5, 8, (0, 0, 0), mzc_265) mzt_265 0 60 = true := by decide +kernel
set_option maxRecDepth 100000 in
theorem mz_okr_265_1 : mz_okR (5, 8, (0, 0, 0), mzc_265) mzt_265 60 6 = true := by decide +kernel
set_option maxRecDepth 100000 in
theorem mz_oky_265 : mz_okY (5, 8, (0, 0, 0), mzc_265) mzt_265 = true := by decide +kernel
set_option maxRecDepth 100000 in
theorem mz_okr_266_0 : mz_okR (1, 8, (0, 0, 0), mzc_266) mzt_266 0 26 = true := by decide +kernel
set_option maxRecDepth 100000 in
theorem mz_oky_266 : mz_okY (1, 8, (0, 0, 0), mzc_266) mzt_266 = true := by decide +kernel
set_option maxRecDepth 100000 in
theorem mz_okr_267_0 : mz_okR (2, 8, (0, 0, 0), mzc_267) mzt_267 0 54 = true := by decide +kernel
set_option maxRecDepth 100000 in
theorem mz_oky_267 : mz_okY (2, 8, (0, 0, 0), mzc_267) mzt_267 = true := by decide +kernel
set_option maxRecDepth 100000 in
theorem mz_okr_268_0 : mz_okR (7, 8, (0, 0, 0), mzc_268) mzt_268 0 55 = true := by decide +kernel
set_option maxRecDepth 100000 in
theorem mz_oky_268 : mz_okY (7, 8, (0, 0, 0), mzc_268) mzt_268 = true := by decide +kernel
set_option maxRecDepth 100000 in
theorem mz_okr_269_0 : mz_okR (2, 8, (0, 0, 0), mzc_269) mzt_269 0 24 = true := by decide +kernel
set_option maxRecDepth 100000 in
theorem mz_oky_269 : mz_okY (2, 8, (0, 0, 0), mzc_269) mzt_269 = true := by decide +kernel
set_option maxRecDepth 100000 in
theorem mz_okr_270_0 : mz_okR (1, 8, (0, 0, 0), mzc_270) mzt_270 0 55 = true := by decide +kernel
set_option maxRecDepth 100000 in
theorem mz_oky_270 : mz_okY (1, 8, (0, 0, 0), mzc_270) mzt_270 = true := by decide +kernel
set_option maxRecDepth 100000 in
theorem mz_okr_271_0 : mz_okR (1, 0, (0, 0, 0), mzc_271) mzt_271 0 12 = true := by decide +kernel
set_option maxRecDepth 100000 in
theorem mz_oky_271 : mz_okY (1, 0, (0, 0, 0), mzc_271) mzt_271 = true := by decide +kernel
set_option maxRecDepth 100000 in
theorem mz_okr_272_0 : mz_okR (1, 9, (0, 0, 0), mzc_272) mzt_272 0 10 = true := by decide +kernel
set_option maxRecDepth 100000 in
theorem mz_oky_272 : mz_okY (1, 9, (0, 0, 0), mzc_272) mzt_272 = true := by decide +kernel
set_option maxRecDepth 100000 in
theorem mz_okr_273_0 : mz_okR (1, 9, (0, 0, 0), mzc_273) mzt_273 0 4 = true := by decide +kernel
set_option maxRecDepth 100000 in
theorem mz_oky_273 : mz_okY (1, 9, (0, 0, 0), mzc_273) mzt_273 = true := by decide +kernel
set_option maxRecDepth 100000 in
theorem mz_okr_274_0 : mz_okR (3, 9, (0, 0, 0), mzc_274) mzt_274 0 19 = true := by decide +kernel
set_option maxRecDepth 100000 in
theorem mz_oky_274 : mz_okY (3, 9, (0, 0, 0), mzc_274) mzt_274 = true := by decide +kernel
set_option maxRecDepth 100000 in
theorem mz_okr_275_0 : mz_okR (1, 10, (0, 0, 0), mzc_275) mzt_275 0 13 = true := by decide +kernel
set_option maxRecDepth 100000 in
theorem mz_oky_275 : mz_okY (1, 10, (0, 0, 0), mzc_275) mzt_275 = true := by decide +kernel
set_option maxRecDepth 100000 in
theorem mz_okr_276_0 : mz_okR (2, 10, (0, 0, 0), mzc_276) mzt_276 0 17 = true := by decide +kernel
set_option maxRecDepth 100000 in
theorem mz_oky_276 : mz_okY (2, 10, (0, 0, 0), mzc_276) mzt_276 = true := by decide +kernel
set_option maxRecDepth 100000 in
theorem mz_okr_277_0 : mz_okR (2, 10, (0, 0, 0), mzc_277) mzt_277 0 13 = true := by decide +kernel
set_option maxRecDepth 100000 in
theorem mz_oky_277 : mz_okY (2, 10, (0, 0, 0), mzc_277) mzt_277 = true := by decide +kernel
set_option maxRecDepth 100000 in
theorem mz_okr_278_0 : mz_okR (1, 10, (0, 0, 0), mzc_278) mzt_278 0 5 = true := by decide +kernel
set_option maxRecDepth 100000 in
theorem mz_oky_278 : mz_okY (1, 10, (0, 0, 0), mzc_278) mzt_278 = true := by decide +kernel
set_option maxRecDepth 100000 in
theorem mz_okr_279_0 : mz_okR (1, 10, (0, 0, 0), mzc_279) mzt_279 0 9 = true := by decide +kernel
set_option maxRecDepth 100000 in
theorem mz_oky_279 : mz_okY (1, 10, (0, 0, 0), mzc_279) mzt_279 = true := by decide +kernel
set_option maxRecDepth 100000 in
theorem mz_okr_280_0 : mz_okR (2, 10, (0, 0, 0), mzc_280) mzt_280 0 22 = true := by decide +kernel
set_option maxRecDepth 100000 in
theorem mz_oky_280 : mz_okY (2, 10, (0, 0, 0), mzc_280) mzt_280 = true := by decide +kernel
set_option maxRecDepth 100000 in
theorem mz_okr_281_0 : mz_okR (1, 10, (0, 0, 0), mzc_281) mzt_281 0 29 = true := by decide +kernel
set_option maxRecDepth 100000 in
theorem mz_oky_281 : mz_okY (1, 10, (0, 0, 0), mzc_281) mzt_281 = true := by decide +kernel
set_option maxRecDepth 100000 in
theorem mz_okr_282_0 : mz_okR (1, 10, (0, 0, 0), mzc_282) mzt_282 0 12 = true := by decide +kernel
set_option maxRecDepth 100000 in
theorem mz_oky_282 : mz_okY (1, 10, (0, 0, 0), mzc_282) mzt_282 = true := by decide +kernel
set_option maxRecDepth 100000 in
theorem mz_okr_283_0 : mz_okR (3, 10, (0, 0, 0), mzc_283) mzt_283 0 16 = true := by decide +kernel
set_option maxRecDepth 100000 in
theorem mz_oky_283 : mz_okY (3, 10, (0, 0, 0), mzc_283) mzt_283 = true := by decide +kernel
set_option maxRecDepth 100000 in
theorem mz_okr_284_0 : mz_okR (1, 10, (0, 0, 0), mzc_284) mzt_284 0 5 = true := by decide +kernel
set_option maxRecDepth 100000 in
theorem mz_oky_284 : mz_okY (1, 10, (0, 0, 0), mzc_284) mzt_284 = true := by decide +kernel
set_option maxRecDepth 100000 in
theorem mz_okr_285_0 : mz_okR (1, 0, (0, 0, 0), mzc_285) mzt_285 0 42 = true := by decide +kernel
set_option maxRecDepth 100000 in
theorem mz_oky_285 : mz_okY (1, 0, (0, 0, 0), mzc_285) mzt_285 = true := by decide +kernel
set_option maxRecDepth 100000 in
theorem mz_okr_286_0 : mz_okR (3, 0, (0, 0, 0), mzc_286) mzt_286 0 19 = true := by decide +kernel
set_option maxRecDepth 100000 in
theorem mz_oky_286 : mz_okY (3, 0, (0, 0, 0), mzc_286) mzt_286 = true := by decide +kernel
set_option maxRecDepth 100000 in
theorem mz_okr_287_0 : mz_okR (3, 0, (0, 0, 0), mzc_287) mzt_287 0 16 = true := by decide +kernel
set_option maxRecDepth 100000 in
theorem mz_oky_287 : mz_okY (3, 0, (0, 0, 0), mzc_287) mzt_287 = true := by decide +kernel
set_option maxRecDepth 100000 in
theorem mz_okr_288_0 : mz_okR (2, 0, (0, 0, 0), mzc_288) mzt_288 0 7 = true := by decide +kernel
set_option maxRecDepth 100000 in
theorem mz_oky_288 : mz_okY (2, 0, (0, 0, 0), mzc_288) mzt_288 = true := by decide +kernel
set_option maxRecDepth 100000 in
theorem mz_okr_289_0 : mz_okR (2, 0, (0, 0, 0), mzc_289) mzt_289 0 7 = true := by decide +kernel
set_option maxRecDepth 100000 in
theorem mz_oky_289 : mz_okY (2, 0, (0, 0, 0), mzc_289) mzt_289 = true := by decide +kernel
set_option maxRecDepth 100000 in
theorem mz_okr_290_0 : mz_okR (4, 0, (0, 0, 0), mzc_290) mzt_290 0 15 = true := by decide +kernel
set_option maxRecDepth 100000 in
theorem mz_oky_290 : mz_okY (4, 0, (0, 0, 0), mzc_290) mzt_290 = true := by decide +kernel
set_option maxRecDepth 100000 in
theorem mz_okr_291_0 : mz_okR (5, 0, (0, 0, 0), mzc_291) mzt_291 0 15 = true := by decide +kernel
set_option maxRecDepth 100000 in
theorem mz_oky_291 : mz_okY (5, 0, (0, 0, 0), mzc_291) mzt_291 = true := by decide +kernel
end
section
/-! all of the checks together: written by program (wip/p1/gen149.py) -/
theorem mz_okR_at {M : mzM} {t : mzT} {a n i : Nat} (h : mz_okR M t a n = true) (h1 : a ≤ i) (h2 : i < a + n) : mz_okAt M t i = true := List.all_eq_true.mp h i (List.mem_range'_1.mpr ⟨h1, h2⟩)
theorem mz_okAt_out {M : mzM} {t : mzT} {i : Nat} (h : M.2.2.2.length ≤ i) : mz_okAt M t i = true := by unfold mz_okAt; rw [List.getElem?_eq_none h]
def mz_okQ (M : mzM) (t : mzT) : Prop := (∀ i, mz_okAt M t i = true) ∧ mz_pc t.2.2.2.1 0 = 0 ∧ (M.1 = 8 ∧ M.2.2.2.length = 682 ∨ mz_okY M t = true)
theorem mz_oka_0 : mz_okQ (8, 0, (0, 0, 0), mzc_0) mzt_0 := by
  refine ⟨fun i => ?_, rfl, Or.inl ⟨rfl, by decide +kernel⟩⟩
  rcases Nat.lt_or_ge i 30 with h0 | h0
  · exact mz_okR_at mz_okr_0_0 (Nat.zero_le i) h0
  rcases Nat.lt_or_ge i 60 with h1 | h1
  · exact mz_okR_at mz_okr_0_1 h0 h1
  rcases Nat.lt_or_ge i 90 with h2 | h2
  · exact mz_okR_at mz_okr_0_2 h1 h2
  rcases Nat.lt_or_ge i 120 with h3 | h3
  · exact mz_okR_at mz_okr_0_3 h2 h3
  rcases Nat.lt_or_ge i 150 with h4 | h4
  · exact mz_okR_at mz_okr_0_4 h3 h4
  rcases Nat.lt_or_ge i 180 with h5 | h5
  · exact mz_okR_at mz_okr_0_5 h4 h5
  rcases Nat.lt_or_ge i 210 with h6 | h6
  · exact mz_okR_at mz_okr_0_6 h5 h6
  rcases Nat.lt_or_ge i 240 with h7 | h7
  · exact mz_okR_at mz_okr_0_7 h6 h7
  rcases Nat.lt_or_ge i 270 with h8 | h8
  · exact mz_okR_at mz_okr_0_8 h7 h8
  rcases Nat.lt_or_ge i 300 with h9 | h9
  · exact mz_okR_at mz_okr_0_9 h8 h9
  rcases Nat.lt_or_ge i 330 with h10 | h10
  · exact mz_okR_at mz_okr_0_10 h9 h10
  rcases Nat.lt_or_ge i 360 with h11 | h11
  · exact mz_okR_at mz_okr_0_11 h10 h11
  rcases Nat.lt_or_ge i 390 with h12 | h12
  · exact mz_okR_at mz_okr_0_12 h11 h12
  rcases Nat.lt_or_ge i 420 with h13 | h13
  · exact mz_okR_at mz_okr_0_13 h12 h13
  rcases Nat.lt_or_ge i 450 with h14 | h14
  · exact mz_okR_at mz_okr_0_14 h13 h14
  rcases Nat.lt_or_ge i 480 with h15 | h15
  · exact mz_okR_at mz_okr_0_15 h14 h15
  rcases Nat.lt_or_ge i 510 with h16 | h16
  · exact mz_okR_at mz_okr_0_16 h15 h16
  rcases Nat.lt_or_ge i 540 with h17 | h17
  · exact mz_okR_at mz_okr_0_17 h16 h17
  rcases Nat.lt_or_ge i 570 with h18 | h18
  · exact mz_okR_at mz_okr_0_18 h17 h18
  rcases Nat.lt_or_ge i 600 with h19 | h19
  · exact mz_okR_at mz_okr_0_19 h18 h19
  rcases Nat.lt_or_ge i 630 with h20 | h20
  · exact mz_okR_at mz_okr_0_20 h19 h20
  rcases Nat.lt_or_ge i 660 with h21 | h21
  · exact mz_okR_at mz_okr_0_21 h20 h21
  rcases Nat.lt_or_ge i 682 with h22 | h22
  · exact mz_okR_at mz_okr_0_22 h21 h22
  exact mz_okAt_out (M := (8, 0, (0, 0, 0), mzc_0)) (Nat.le_trans (show mzc_0.length ≤ 682 by decide +kernel) h22)
theorem mz_oka_1 : mz_okQ (5, 0, (0, 8, 9), mzc_1) mzt_1 := by
  refine ⟨fun i => ?_, rfl, Or.inr mz_oky_1⟩
  rcases Nat.lt_or_ge i 14 with h0 | h0
  · exact mz_okR_at mz_okr_1_0 (Nat.zero_le i) h0
  exact mz_okAt_out (M := (5, 0, (0, 8, 9), mzc_1)) (Nat.le_trans (show mzc_1.length ≤ 14 by decide +kernel) h0)
theorem mz_oka_2 : mz_okQ (5, 0, (0, 8, 9), mzc_2) mzt_2 := by
  refine ⟨fun i => ?_, rfl, Or.inr mz_oky_2⟩
  rcases Nat.lt_or_ge i 14 with h0 | h0
  · exact mz_okR_at mz_okr_2_0 (Nat.zero_le i) h0
  exact mz_okAt_out (M := (5, 0, (0, 8, 9), mzc_2)) (Nat.le_trans (show mzc_2.length ≤ 14 by decide +kernel) h0)
theorem mz_oka_3 : mz_okQ (4, 0, (0, 7, 8), mzc_3) mzt_3 := by
  refine ⟨fun i => ?_, rfl, Or.inr mz_oky_3⟩
  rcases Nat.lt_or_ge i 13 with h0 | h0
  · exact mz_okR_at mz_okr_3_0 (Nat.zero_le i) h0
  exact mz_okAt_out (M := (4, 0, (0, 7, 8), mzc_3)) (Nat.le_trans (show mzc_3.length ≤ 13 by decide +kernel) h0)
theorem mz_oka_4 : mz_okQ (4, 0, (0, 6, 7), mzc_4) mzt_4 := by
  refine ⟨fun i => ?_, rfl, Or.inr mz_oky_4⟩
  rcases Nat.lt_or_ge i 12 with h0 | h0
  · exact mz_okR_at mz_okr_4_0 (Nat.zero_le i) h0
  exact mz_okAt_out (M := (4, 0, (0, 6, 7), mzc_4)) (Nat.le_trans (show mzc_4.length ≤ 12 by decide +kernel) h0)
theorem mz_oka_5 : mz_okQ (1, 11, (0, 0, 0), mzc_5) mzt_5 := by
  refine ⟨fun i => ?_, rfl, Or.inr mz_oky_5⟩
  rcases Nat.lt_or_ge i 60 with h0 | h0
  · exact mz_okR_at mz_okr_5_0 (Nat.zero_le i) h0
  rcases Nat.lt_or_ge i 66 with h1 | h1
  · exact mz_okR_at mz_okr_5_1 h0 h1
  exact mz_okAt_out (M := (1, 11, (0, 0, 0), mzc_5)) (Nat.le_trans (show mzc_5.length ≤ 66 by decide +kernel) h1)
theorem mz_oka_6 : mz_okQ (3, 11, (0, 0, 0), mzc_6) mzt_6 := by
  refine ⟨fun i => ?_, rfl, Or.inr mz_oky_6⟩
  rcases Nat.lt_or_ge i 27 with h0 | h0
  · exact mz_okR_at mz_okr_6_0 (Nat.zero_le i) h0
  exact mz_okAt_out (M := (3, 11, (0, 0, 0), mzc_6)) (Nat.le_trans (show mzc_6.length ≤ 27 by decide +kernel) h0)
theorem mz_oka_7 : mz_okQ (2, 11, (0, 0, 0), mzc_7) mzt_7 := by
  refine ⟨fun i => ?_, rfl, Or.inr mz_oky_7⟩
  rcases Nat.lt_or_ge i 15 with h0 | h0
  · exact mz_okR_at mz_okr_7_0 (Nat.zero_le i) h0
  exact mz_okAt_out (M := (2, 11, (0, 0, 0), mzc_7)) (Nat.le_trans (show mzc_7.length ≤ 15 by decide +kernel) h0)
theorem mz_oka_8 : mz_okQ (2, 11, (0, 0, 0), mzc_8) mzt_8 := by
  refine ⟨fun i => ?_, rfl, Or.inr mz_oky_8⟩
  rcases Nat.lt_or_ge i 28 with h0 | h0
  · exact mz_okR_at mz_okr_8_0 (Nat.zero_le i) h0
  exact mz_okAt_out (M := (2, 11, (0, 0, 0), mzc_8)) (Nat.le_trans (show mzc_8.length ≤ 28 by decide +kernel) h0)
theorem mz_oka_9 : mz_okQ (3, 11, (0, 0, 0), mzc_9) mzt_9 := by
  refine ⟨fun i => ?_, rfl, Or.inr mz_oky_9⟩
  rcases Nat.lt_or_ge i 38 with h0 | h0
  · exact mz_okR_at mz_okr_9_0 (Nat.zero_le i) h0
  exact mz_okAt_out (M := (3, 11, (0, 0, 0), mzc_9)) (Nat.le_trans (show mzc_9.length ≤ 38 by decide +kernel) h0)
theorem mz_oka_10 : mz_okQ (3, 11, (0, 0, 0), mzc_10) mzt_10 := by
  refine ⟨fun i => ?_, rfl, Or.inr mz_oky_10⟩
  rcases Nat.lt_or_ge i 21 with h0 | h0
  · exact mz_okR_at mz_okr_10_0 (Nat.zero_le i) h0
  exact mz_okAt_out (M := (3, 11, (0, 0, 0), mzc_10)) (Nat.le_trans (show mzc_10.length ≤ 21 by decide +kernel) h0)
theorem mz_oka_11 : mz_okQ (3, 11, (0, 0, 0), mzc_11) mzt_11 := by
  refine ⟨fun i => ?_, rfl, Or.inr mz_oky_11⟩
  rcases Nat.lt_or_ge i 40 with h0 | h0
  · exact mz_okR_at mz_okr_11_0 (Nat.zero_le i) h0
  exact mz_okAt_out (M := (3, 11, (0, 0, 0), mzc_11)) (Nat.le_trans (show mzc_11.length ≤ 40 by decide +kernel) h0)
theorem mz_oka_12 : mz_okQ (5, 11, (0, 0, 0), mzc_12) mzt_12 := by
  refine ⟨fun i => ?_, rfl, Or.inr mz_oky_12⟩
  rcases Nat.lt_or_ge i 33 with h0 | h0
  · exact mz_okR_at mz_okr_12_0 (Nat.zero_le i) h0
  exact mz_okAt_out (M := (5, 11, (0, 0, 0), mzc_12)) (Nat.le_trans (show mzc_12.length ≤ 33 by decide +kernel) h0)
theorem mz_oka_13 : mz_okQ (4, 11, (0, 0, 0), mzc_13) mzt_13 := by
  refine ⟨fun i => ?_, rfl, Or.inr mz_oky_13⟩
  rcases Nat.lt_or_ge i 15 with h0 | h0
  · exact mz_okR_at mz_okr_13_0 (Nat.zero_le i) h0
  exact mz_okAt_out (M := (4, 11, (0, 0, 0), mzc_13)) (Nat.le_trans (show mzc_13.length ≤ 15 by decide +kernel) h0)
theorem mz_oka_14 : mz_okQ (5, 11, (0, 0, 0), mzc_14) mzt_14 := by
  refine ⟨fun i => ?_, rfl, Or.inr mz_oky_14⟩
  rcases Nat.lt_or_ge i 16 with h0 | h0
  · exact mz_okR_at mz_okr_14_0 (Nat.zero_le i) h0
  exact mz_okAt_out (M := (5, 11, (0, 0, 0), mzc_14)) (Nat.le_trans (show mzc_14.length ≤ 16 by decide +kernel) h0)
theorem mz_oka_15 : mz_okQ (2, 11, (0, 0, 0), mzc_15) mzt_15 := by
  refine ⟨fun i => ?_, rfl, Or.inr mz_oky_15⟩
  rcases Nat.lt_or_ge i 23 with h0 | h0
  · exact mz_okR_at mz_okr_15_0 (Nat.zero_le i) h0
  exact mz_okAt_out (M := (2, 11, (0, 0, 0), mzc_15)) (Nat.le_trans (show mzc_15.length ≤ 23 by decide +kernel) h0)
theorem mz_oka_16 : mz_okQ (4, 11, (0, 0, 0), mzc_16) mzt_16 := by
  refine ⟨fun i => ?_, rfl, Or.inr mz_oky_16⟩
  rcases Nat.lt_or_ge i 44 with h0 | h0
  · exact mz_okR_at mz_okr_16_0 (Nat.zero_le i) h0
  exact mz_okAt_out (M := (4, 11, (0, 0, 0), mzc_16)) (Nat.le_trans (show mzc_16.length ≤ 44 by decide +kernel) h0)
theorem mz_oka_17 : mz_okQ (1, 11, (0, 0, 0), mzc_17) mzt_17 := by
  refine ⟨fun i => ?_, rfl, Or.inr mz_oky_17⟩
  rcases Nat.lt_or_ge i 15 with h0 | h0
  · exact mz_okR_at mz_okr_17_0 (Nat.zero_le i) h0
  exact mz_okAt_out (M := (1, 11, (0, 0, 0), mzc_17)) (Nat.le_trans (show mzc_17.length ≤ 15 by decide +kernel) h0)
theorem mz_oka_18 : mz_okQ (2, 11, (0, 0, 0), mzc_18) mzt_18 := by
  refine ⟨fun i => ?_, rfl, Or.inr mz_oky_18⟩
  rcases Nat.lt_or_ge i 32 with h0 | h0
  · exact mz_okR_at mz_okr_18_0 (Nat.zero_le i) h0
  exact mz_okAt_out (M := (2, 11, (0, 0, 0), mzc_18)) (Nat.le_trans (show mzc_18.length ≤ 32 by decide +kernel) h0)
theorem mz_oka_19 : mz_okQ (2, 11, (0, 0, 0), mzc_19) mzt_19 := by
  refine ⟨fun i => ?_, rfl, Or.inr mz_oky_19⟩
  rcases Nat.lt_or_ge i 28 with h0 | h0
  · exact mz_okR_at mz_okr_19_0 (Nat.zero_le i) h0
  exact mz_okAt_out (M := (2, 11, (0, 0, 0), mzc_19)) (Nat.le_trans (show mzc_19.length ≤ 28 by decide +kernel) h0)
theorem mz_oka_20 : mz_okQ (2, 11, (0, 0, 0), mzc_20) mzt_20 := by
  refine ⟨fun i => ?_, rfl, Or.inr mz_oky_20⟩
  rcases Nat.lt_or_ge i 28 with h0 | h0
  · exact mz_okR_at mz_okr_20_0 (Nat.zero_le i) h0
  exact mz_okAt_out (M := (2, 11, (0, 0, 0), mzc_20)) (Nat.le_trans (show mzc_20.length ≤ 28 by decide +kernel) h0)
theorem mz_oka_21 : mz_okQ (2, 11, (0, 0, 0), mzc_21) mzt_21 := by
  refine ⟨fun i => ?_, rfl, Or.inr mz_oky_21⟩
  rcases Nat.lt_or_ge i 18 with h0 | h0
  · exact mz_okR_at mz_okr_21_0 (Nat.zero_le i) h0
  exact mz_okAt_out (M := (2, 11, (0, 0, 0), mzc_21)) (Nat.le_trans (show mzc_21.length ≤ 18 by decide +kernel) h0)
theorem mz_oka_22 : mz_okQ (2, 11, (0, 0, 0), mzc_22) mzt_22 := by
  refine ⟨fun i => ?_, rfl, Or.inr mz_oky_22⟩
  rcases Nat.lt_or_ge i 33 with h0 | h0
  · exact mz_okR_at mz_okr_22_0 (Nat.zero_le i) h0
  exact mz_okAt_out (M := (2, 11, (0, 0, 0), mzc_22)) (Nat.le_trans (show mzc_22.length ≤ 33 by decide +kernel) h0)
theorem mz_oka_23 : mz_okQ (2, 11, (0, 0, 0), mzc_23) mzt_23 := by
  refine ⟨fun i => ?_, rfl, Or.inr mz_oky_23⟩
  rcases Nat.lt_or_ge i 7 with h0 | h0
  · exact mz_okR_at mz_okr_23_0 (Nat.zero_le i) h0
  exact mz_okAt_out (M := (2, 11, (0, 0, 0), mzc_23)) (Nat.le_trans (show mzc_23.length ≤ 7 by decide +kernel) h0)
theorem mz_oka_24 : mz_okQ (2, 11, (0, 0, 0), mzc_24) mzt_24 := by
  refine ⟨fun i => ?_, rfl, Or.inr mz_oky_24⟩
  rcases Nat.lt_or_ge i 18 with h0 | h0
  · exact mz_okR_at mz_okr_24_0 (Nat.zero_le i) h0
  exact mz_okAt_out (M := (2, 11, (0, 0, 0), mzc_24)) (Nat.le_trans (show mzc_24.length ≤ 18 by decide +kernel) h0)
theorem mz_oka_25 : mz_okQ (4, 11, (0, 0, 0), mzc_25) mzt_25 := by
  refine ⟨fun i => ?_, rfl, Or.inr mz_oky_25⟩
  rcases Nat.lt_or_ge i 47 with h0 | h0
  · exact mz_okR_at mz_okr_25_0 (Nat.zero_le i) h0
  exact mz_okAt_out (M := (4, 11, (0, 0, 0), mzc_25)) (Nat.le_trans (show mzc_25.length ≤ 47 by decide +kernel) h0)
theorem mz_oka_26 : mz_okQ (2, 11, (0, 0, 0), mzc_26) mzt_26 := by
  refine ⟨fun i => ?_, rfl, Or.inr mz_oky_26⟩
  rcases Nat.lt_or_ge i 22 with h0 | h0
  · exact mz_okR_at mz_okr_26_0 (Nat.zero_le i) h0
  exact mz_okAt_out (M := (2, 11, (0, 0, 0), mzc_26)) (Nat.le_trans (show mzc_26.length ≤ 22 by decide +kernel) h0)
theorem mz_oka_27 : mz_okQ (3, 11, (0, 0, 0), mzc_27) mzt_27 := by
  refine ⟨fun i => ?_, rfl, Or.inr mz_oky_27⟩
  rcases Nat.lt_or_ge i 19 with h0 | h0
  · exact mz_okR_at mz_okr_27_0 (Nat.zero_le i) h0
  exact mz_okAt_out (M := (3, 11, (0, 0, 0), mzc_27)) (Nat.le_trans (show mzc_27.length ≤ 19 by decide +kernel) h0)
theorem mz_oka_28 : mz_okQ (5, 11, (0, 0, 0), mzc_28) mzt_28 := by
  refine ⟨fun i => ?_, rfl, Or.inr mz_oky_28⟩
  rcases Nat.lt_or_ge i 35 with h0 | h0
  · exact mz_okR_at mz_okr_28_0 (Nat.zero_le i) h0
  exact mz_okAt_out (M := (5, 11, (0, 0, 0), mzc_28)) (Nat.le_trans (show mzc_28.length ≤ 35 by decide +kernel) h0)
theorem mz_oka_29 : mz_okQ (6, 11, (0, 0, 0), mzc_29) mzt_29 := by
  refine ⟨fun i => ?_, rfl, Or.inr mz_oky_29⟩
  rcases Nat.lt_or_ge i 47 with h0 | h0
  · exact mz_okR_at mz_okr_29_0 (Nat.zero_le i) h0
  exact mz_okAt_out (M := (6, 11, (0, 0, 0), mzc_29)) (Nat.le_trans (show mzc_29.length ≤ 47 by decide +kernel) h0)
theorem mz_oka_30 : mz_okQ (6, 11, (0, 0, 0), mzc_30) mzt_30 := by
  refine ⟨fun i => ?_, rfl, Or.inr mz_oky_30⟩
  rcases Nat.lt_or_ge i 41 with h0 | h0
  · exact mz_okR_at mz_okr_30_0 (Nat.zero_le i) h0
  exact mz_okAt_out (M := (6, 11, (0, 0, 0), mzc_30)) (Nat.le_trans (show mzc_30.length ≤ 41 by decide +kernel) h0)
theorem mz_oka_31 : mz_okQ (4, 11, (0, 0, 0), mzc_31) mzt_31 := by
  refine ⟨fun i => ?_, rfl, Or.inr mz_oky_31⟩
  rcases Nat.lt_or_ge i 38 with h0 | h0
  · exact mz_okR_at mz_okr_31_0 (Nat.zero_le i) h0
  exact mz_okAt_out (M := (4, 11, (0, 0, 0), mzc_31)) (Nat.le_trans (show mzc_31.length ≤ 38 by decide +kernel) h0)
theorem mz_oka_32 : mz_okQ (5, 11, (0, 0, 0), mzc_32) mzt_32 := by
  refine ⟨fun i => ?_, rfl, Or.inr mz_oky_32⟩
  rcases Nat.lt_or_ge i 60 with h0 | h0
  · exact mz_okR_at mz_okr_32_0 (Nat.zero_le i) h0
  rcases Nat.lt_or_ge i 71 with h1 | h1
  · exact mz_okR_at mz_okr_32_1 h0 h1
  exact mz_okAt_out (M := (5, 11, (0, 0, 0), mzc_32)) (Nat.le_trans (show mzc_32.length ≤ 71 by decide +kernel) h1)
theorem mz_oka_33 : mz_okQ (2, 11, (0, 0, 0), mzc_33) mzt_33 := by
  refine ⟨fun i => ?_, rfl, Or.inr mz_oky_33⟩
  rcases Nat.lt_or_ge i 22 with h0 | h0
  · exact mz_okR_at mz_okr_33_0 (Nat.zero_le i) h0
  exact mz_okAt_out (M := (2, 11, (0, 0, 0), mzc_33)) (Nat.le_trans (show mzc_33.length ≤ 22 by decide +kernel) h0)
theorem mz_oka_34 : mz_okQ (2, 11, (0, 0, 0), mzc_34) mzt_34 := by
  refine ⟨fun i => ?_, rfl, Or.inr mz_oky_34⟩
  rcases Nat.lt_or_ge i 32 with h0 | h0
  · exact mz_okR_at mz_okr_34_0 (Nat.zero_le i) h0
  exact mz_okAt_out (M := (2, 11, (0, 0, 0), mzc_34)) (Nat.le_trans (show mzc_34.length ≤ 32 by decide +kernel) h0)
theorem mz_oka_35 : mz_okQ (2, 11, (0, 0, 0), mzc_35) mzt_35 := by
  refine ⟨fun i => ?_, rfl, Or.inr mz_oky_35⟩
  rcases Nat.lt_or_ge i 20 with h0 | h0
  · exact mz_okR_at mz_okr_35_0 (Nat.zero_le i) h0
  exact mz_okAt_out (M := (2, 11, (0, 0, 0), mzc_35)) (Nat.le_trans (show mzc_35.length ≤ 20 by decide +kernel) h0)
theorem mz_oka_36 : mz_okQ (7, 11, (0, 0, 0), mzc_36) mzt_36 := by
  refine ⟨fun i => ?_, rfl, Or.inr mz_oky_36⟩
  rcases Nat.lt_or_ge i 60 with h0 | h0
  · exact mz_okR_at mz_okr_36_0 (Nat.zero_le i) h0
  rcases Nat.lt_or_ge i 65 with h1 | h1
  · exact mz_okR_at mz_okr_36_1 h0 h1
  exact mz_okAt_out (M := (7, 11, (0, 0, 0), mzc_36)) (Nat.le_trans (show mzc_36.length ≤ 65 by decide +kernel) h1)
theorem mz_oka_37 : mz_okQ (6, 11, (0, 0, 0), mzc_37) mzt_37 := by
  refine ⟨fun i => ?_, rfl, Or.inr mz_oky_37⟩
  rcases Nat.lt_or_ge i 43 with h0 | h0
  · exact mz_okR_at mz_okr_37_0 (Nat.zero_le i) h0
  exact mz_okAt_out (M := (6, 11, (0, 0, 0), mzc_37)) (Nat.le_trans (show mzc_37.length ≤ 43 by decide +kernel) h0)
theorem mz_oka_38 : mz_okQ (5, 11, (0, 0, 0), mzc_38) mzt_38 := by
  refine ⟨fun i => ?_, rfl, Or.inr mz_oky_38⟩
  rcases Nat.lt_or_ge i 45 with h0 | h0
  · exact mz_okR_at mz_okr_38_0 (Nat.zero_le i) h0
  exact mz_okAt_out (M := (5, 11, (0, 0, 0), mzc_38)) (Nat.le_trans (show mzc_38.length ≤ 45 by decide +kernel) h0)
theorem mz_oka_39 : mz_okQ (2, 11, (0, 0, 0), mzc_39) mzt_39 := by
  refine ⟨fun i => ?_, rfl, Or.inr mz_oky_39⟩
  rcases Nat.lt_or_ge i 5 with h0 | h0
  · exact mz_okR_at mz_okr_39_0 (Nat.zero_le i) h0
  exact mz_okAt_out (M := (2, 11, (0, 0, 0), mzc_39)) (Nat.le_trans (show mzc_39.length ≤ 5 by decide +kernel) h0)
theorem mz_oka_40 : mz_okQ (2, 11, (0, 0, 0), mzc_40) mzt_40 := by
  refine ⟨fun i => ?_, rfl, Or.inr mz_oky_40⟩
  rcases Nat.lt_or_ge i 11 with h0 | h0
  · exact mz_okR_at mz_okr_40_0 (Nat.zero_le i) h0
  exact mz_okAt_out (M := (2, 11, (0, 0, 0), mzc_40)) (Nat.le_trans (show mzc_40.length ≤ 11 by decide +kernel) h0)
theorem mz_oka_41 : mz_okQ (2, 11, (0, 0, 0), mzc_41) mzt_41 := by
  refine ⟨fun i => ?_, rfl, Or.inr mz_oky_41⟩
  rcases Nat.lt_or_ge i 58 with h0 | h0
  · exact mz_okR_at mz_okr_41_0 (Nat.zero_le i) h0
  exact mz_okAt_out (M := (2, 11, (0, 0, 0), mzc_41)) (Nat.le_trans (show mzc_41.length ≤ 58 by decide +kernel) h0)
theorem mz_oka_42 : mz_okQ (2, 11, (0, 0, 0), mzc_42) mzt_42 := by
  refine ⟨fun i => ?_, rfl, Or.inr mz_oky_42⟩
  rcases Nat.lt_or_ge i 18 with h0 | h0
  · exact mz_okR_at mz_okr_42_0 (Nat.zero_le i) h0
  exact mz_okAt_out (M := (2, 11, (0, 0, 0), mzc_42)) (Nat.le_trans (show mzc_42.length ≤ 18 by decide +kernel) h0)
theorem mz_oka_43 : mz_okQ (1, 0, (0, 0, 0), mzc_43) mzt_43 := by
  refine ⟨fun i => ?_, rfl, Or.inr mz_oky_43⟩
  rcases Nat.lt_or_ge i 9 with h0 | h0
  · exact mz_okR_at mz_okr_43_0 (Nat.zero_le i) h0
  exact mz_okAt_out (M := (1, 0, (0, 0, 0), mzc_43)) (Nat.le_trans (show mzc_43.length ≤ 9 by decide +kernel) h0)
theorem mz_oka_44 : mz_okQ (1, 0, (0, 0, 0), mzc_44) mzt_44 := by
  refine ⟨fun i => ?_, rfl, Or.inr mz_oky_44⟩
  rcases Nat.lt_or_ge i 9 with h0 | h0
  · exact mz_okR_at mz_okr_44_0 (Nat.zero_le i) h0
  exact mz_okAt_out (M := (1, 0, (0, 0, 0), mzc_44)) (Nat.le_trans (show mzc_44.length ≤ 9 by decide +kernel) h0)
theorem mz_oka_45 : mz_okQ (1, 0, (0, 0, 0), mzc_45) mzt_45 := by
  refine ⟨fun i => ?_, rfl, Or.inr mz_oky_45⟩
  rcases Nat.lt_or_ge i 9 with h0 | h0
  · exact mz_okR_at mz_okr_45_0 (Nat.zero_le i) h0
  exact mz_okAt_out (M := (1, 0, (0, 0, 0), mzc_45)) (Nat.le_trans (show mzc_45.length ≤ 9 by decide +kernel) h0)
theorem mz_oka_46 : mz_okQ (1, 0, (0, 0, 0), mzc_46) mzt_46 := by
  refine ⟨fun i => ?_, rfl, Or.inr mz_oky_46⟩
  rcases Nat.lt_or_ge i 10 with h0 | h0
  · exact mz_okR_at mz_okr_46_0 (Nat.zero_le i) h0
  exact mz_okAt_out (M := (1, 0, (0, 0, 0), mzc_46)) (Nat.le_trans (show mzc_46.length ≤ 10 by decide +kernel) h0)
theorem mz_oka_47 : mz_okQ (1, 0, (0, 0, 0), mzc_47) mzt_47 := by
  refine ⟨fun i => ?_, rfl, Or.inr mz_oky_47⟩
  rcases Nat.lt_or_ge i 13 with h0 | h0
  · exact mz_okR_at mz_okr_47_0 (Nat.zero_le i) h0
  exact mz_okAt_out (M := (1, 0, (0, 0, 0), mzc_47)) (Nat.le_trans (show mzc_47.length ≤ 13 by decide +kernel) h0)
theorem mz_oka_48 : mz_okQ (2, 0, (0, 0, 0), mzc_48) mzt_48 := by
  refine ⟨fun i => ?_, rfl, Or.inr mz_oky_48⟩
  rcases Nat.lt_or_ge i 46 with h0 | h0
  · exact mz_okR_at mz_okr_48_0 (Nat.zero_le i) h0
  exact mz_okAt_out (M := (2, 0, (0, 0, 0), mzc_48)) (Nat.le_trans (show mzc_48.length ≤ 46 by decide +kernel) h0)
theorem mz_oka_49 : mz_okQ (2, 0, (0, 0, 0), mzc_49) mzt_49 := by
  refine ⟨fun i => ?_, rfl, Or.inr mz_oky_49⟩
  rcases Nat.lt_or_ge i 13 with h0 | h0
  · exact mz_okR_at mz_okr_49_0 (Nat.zero_le i) h0
  exact mz_okAt_out (M := (2, 0, (0, 0, 0), mzc_49)) (Nat.le_trans (show mzc_49.length ≤ 13 by decide +kernel) h0)
theorem mz_oka_50 : mz_okQ (2, 11, (0, 0, 0), mzc_50) mzt_50 := by
  refine ⟨fun i => ?_, rfl, Or.inr mz_oky_50⟩
  rcases Nat.lt_or_ge i 11 with h0 | h0
  · exact mz_okR_at mz_okr_50_0 (Nat.zero_le i) h0
  exact mz_okAt_out (M := (2, 11, (0, 0, 0), mzc_50)) (Nat.le_trans (show mzc_50.length ≤ 11 by decide +kernel) h0)
theorem mz_oka_51 : mz_okQ (1, 11, (0, 0, 0), mzc_51) mzt_51 := by
  refine ⟨fun i => ?_, rfl, Or.inr mz_oky_51⟩
  rcases Nat.lt_or_ge i 7 with h0 | h0
  · exact mz_okR_at mz_okr_51_0 (Nat.zero_le i) h0
  exact mz_okAt_out (M := (1, 11, (0, 0, 0), mzc_51)) (Nat.le_trans (show mzc_51.length ≤ 7 by decide +kernel) h0)
theorem mz_oka_52 : mz_okQ (8, 11, (0, 0, 0), mzc_52) mzt_52 := by
  refine ⟨fun i => ?_, rfl, Or.inr mz_oky_52⟩
  rcases Nat.lt_or_ge i 43 with h0 | h0
  · exact mz_okR_at mz_okr_52_0 (Nat.zero_le i) h0
  exact mz_okAt_out (M := (8, 11, (0, 0, 0), mzc_52)) (Nat.le_trans (show mzc_52.length ≤ 43 by decide +kernel) h0)
theorem mz_oka_53 : mz_okQ (4, 11, (0, 0, 0), mzc_53) mzt_53 := by
  refine ⟨fun i => ?_, rfl, Or.inr mz_oky_53⟩
  rcases Nat.lt_or_ge i 23 with h0 | h0
  · exact mz_okR_at mz_okr_53_0 (Nat.zero_le i) h0
  exact mz_okAt_out (M := (4, 11, (0, 0, 0), mzc_53)) (Nat.le_trans (show mzc_53.length ≤ 23 by decide +kernel) h0)
theorem mz_oka_54 : mz_okQ (3, 11, (0, 0, 0), mzc_54) mzt_54 := by
  refine ⟨fun i => ?_, rfl, Or.inr mz_oky_54⟩
  rcases Nat.lt_or_ge i 16 with h0 | h0
  · exact mz_okR_at mz_okr_54_0 (Nat.zero_le i) h0
  exact mz_okAt_out (M := (3, 11, (0, 0, 0), mzc_54)) (Nat.le_trans (show mzc_54.length ≤ 16 by decide +kernel) h0)
theorem mz_oka_55 : mz_okQ (5, 11, (0, 0, 0), mzc_55) mzt_55 := by
  refine ⟨fun i => ?_, rfl, Or.inr mz_oky_55⟩
  rcases Nat.lt_or_ge i 25 with h0 | h0
  · exact mz_okR_at mz_okr_55_0 (Nat.zero_le i) h0
  exact mz_okAt_out (M := (5, 11, (0, 0, 0), mzc_55)) (Nat.le_trans (show mzc_55.length ≤ 25 by decide +kernel) h0)
theorem mz_oka_56 : mz_okQ (4, 11, (0, 0, 0), mzc_56) mzt_56 := by
  refine ⟨fun i => ?_, rfl, Or.inr mz_oky_56⟩
  rcases Nat.lt_or_ge i 33 with h0 | h0
  · exact mz_okR_at mz_okr_56_0 (Nat.zero_le i) h0
  exact mz_okAt_out (M := (4, 11, (0, 0, 0), mzc_56)) (Nat.le_trans (show mzc_56.length ≤ 33 by decide +kernel) h0)
theorem mz_oka_57 : mz_okQ (3, 11, (0, 0, 0), mzc_57) mzt_57 := by
  refine ⟨fun i => ?_, rfl, Or.inr mz_oky_57⟩
  rcases Nat.lt_or_ge i 38 with h0 | h0
  · exact mz_okR_at mz_okr_57_0 (Nat.zero_le i) h0
  exact mz_okAt_out (M := (3, 11, (0, 0, 0), mzc_57)) (Nat.le_trans (show mzc_57.length ≤ 38 by decide +kernel) h0)
theorem mz_oka_58 : mz_okQ (2, 11, (0, 0, 0), mzc_58) mzt_58 := by
  refine ⟨fun i => ?_, rfl, Or.inr mz_oky_58⟩
  rcases Nat.lt_or_ge i 60 with h0 | h0
  · exact mz_okR_at mz_okr_58_0 (Nat.zero_le i) h0
  rcases Nat.lt_or_ge i 66 with h1 | h1
  · exact mz_okR_at mz_okr_58_1 h0 h1
  exact mz_okAt_out (M := (2, 11, (0, 0, 0), mzc_58)) (Nat.le_trans (show mzc_58.length ≤ 66 by decide +kernel) h1)
theorem mz_oka_59 : mz_okQ (3, 11, (0, 0, 0), mzc_59) mzt_59 := by
  refine ⟨fun i => ?_, rfl, Or.inr mz_oky_59⟩
  rcases Nat.lt_or_ge i 24 with h0 | h0
  · exact mz_okR_at mz_okr_59_0 (Nat.zero_le i) h0
  exact mz_okAt_out (M := (3, 11, (0, 0, 0), mzc_59)) (Nat.le_trans (show mzc_59.length ≤ 24 by decide +kernel) h0)
theorem mz_oka_60 : mz_okQ (2, 11, (0, 0, 0), mzc_60) mzt_60 := by
  refine ⟨fun i => ?_, rfl, Or.inr mz_oky_60⟩
  rcases Nat.lt_or_ge i 20 with h0 | h0
  · exact mz_okR_at mz_okr_60_0 (Nat.zero_le i) h0
  exact mz_okAt_out (M := (2, 11, (0, 0, 0), mzc_60)) (Nat.le_trans (show mzc_60.length ≤ 20 by decide +kernel) h0)
theorem mz_oka_61 : mz_okQ (4, 11, (0, 0, 0), mzc_61) mzt_61 := by
  refine ⟨fun i => ?_, rfl, Or.inr mz_oky_61⟩
  rcases Nat.lt_or_ge i 22 with h0 | h0
  · exact mz_okR_at mz_okr_61_0 (Nat.zero_le i) h0
  exact mz_okAt_out (M := (4, 11, (0, 0, 0), mzc_61)) (Nat.le_trans (show mzc_61.length ≤ 22 by decide +kernel) h0)
theorem mz_oka_62 : mz_okQ (2, 11, (0, 0, 0), mzc_62) mzt_62 := by
  refine ⟨fun i => ?_, rfl, Or.inr mz_oky_62⟩
  rcases Nat.lt_or_ge i 21 with h0 | h0
  · exact mz_okR_at mz_okr_62_0 (Nat.zero_le i) h0
  exact mz_okAt_out (M := (2, 11, (0, 0, 0), mzc_62)) (Nat.le_trans (show mzc_62.length ≤ 21 by decide +kernel) h0)
theorem mz_oka_63 : mz_okQ (2, 11, (0, 0, 0), mzc_63) mzt_63 := by
  refine ⟨fun i => ?_, rfl, Or.inr mz_oky_63⟩
  rcases Nat.lt_or_ge i 16 with h0 | h0
  · exact mz_okR_at mz_okr_63_0 (Nat.zero_le i) h0
  exact mz_okAt_out (M := (2, 11, (0, 0, 0), mzc_63)) (Nat.le_trans (show mzc_63.length ≤ 16 by decide +kernel) h0)
theorem mz_oka_64 : mz_okQ (1, 11, (0, 0, 0), mzc_64) mzt_64 := by
  refine ⟨fun i => ?_, rfl, Or.inr mz_oky_64⟩
  rcases Nat.lt_or_ge i 24 with h0 | h0
  · exact mz_okR_at mz_okr_64_0 (Nat.zero_le i) h0
  exact mz_okAt_out (M := (1, 11, (0, 0, 0), mzc_64)) (Nat.le_trans (show mzc_64.length ≤ 24 by decide +kernel) h0)
theorem mz_oka_65 : mz_okQ (7, 11, (0, 0, 0), mzc_65) mzt_65 := by
  refine ⟨fun i => ?_, rfl, Or.inr mz_oky_65⟩
  rcases Nat.lt_or_ge i 53 with h0 | h0
  · exact mz_okR_at mz_okr_65_0 (Nat.zero_le i) h0
  exact mz_okAt_out (M := (7, 11, (0, 0, 0), mzc_65)) (Nat.le_trans (show mzc_65.length ≤ 53 by decide +kernel) h0)
theorem mz_oka_66 : mz_okQ (3, 11, (0, 0, 0), mzc_66) mzt_66 := by
  refine ⟨fun i => ?_, rfl, Or.inr mz_oky_66⟩
  rcases Nat.lt_or_ge i 51 with h0 | h0
  · exact mz_okR_at mz_okr_66_0 (Nat.zero_le i) h0
  exact mz_okAt_out (M := (3, 11, (0, 0, 0), mzc_66)) (Nat.le_trans (show mzc_66.length ≤ 51 by decide +kernel) h0)
theorem mz_oka_67 : mz_okQ (2, 12, (0, 0, 0), mzc_67) mzt_67 := by
  refine ⟨fun i => ?_, rfl, Or.inr mz_oky_67⟩
  rcases Nat.lt_or_ge i 60 with h0 | h0
  · exact mz_okR_at mz_okr_67_0 (Nat.zero_le i) h0
  rcases Nat.lt_or_ge i 99 with h1 | h1
  · exact mz_okR_at mz_okr_67_1 h0 h1
  exact mz_okAt_out (M := (2, 12, (0, 0, 0), mzc_67)) (Nat.le_trans (show mzc_67.length ≤ 99 by decide +kernel) h1)
theorem mz_oka_68 : mz_okQ (3, 0, (0, 0, 0), mzc_68) mzt_68 := by
  refine ⟨fun i => ?_, rfl, Or.inr mz_oky_68⟩
  rcases Nat.lt_or_ge i 10 with h0 | h0
  · exact mz_okR_at mz_okr_68_0 (Nat.zero_le i) h0
  exact mz_okAt_out (M := (3, 0, (0, 0, 0), mzc_68)) (Nat.le_trans (show mzc_68.length ≤ 10 by decide +kernel) h0)
theorem mz_oka_69 : mz_okQ (1, 12, (0, 0, 0), mzc_69) mzt_69 := by
  refine ⟨fun i => ?_, rfl, Or.inr mz_oky_69⟩
  rcases Nat.lt_or_ge i 5 with h0 | h0
  · exact mz_okR_at mz_okr_69_0 (Nat.zero_le i) h0
  exact mz_okAt_out (M := (1, 12, (0, 0, 0), mzc_69)) (Nat.le_trans (show mzc_69.length ≤ 5 by decide +kernel) h0)
theorem mz_oka_70 : mz_okQ (3, 12, (0, 0, 0), mzc_70) mzt_70 := by
  refine ⟨fun i => ?_, rfl, Or.inr mz_oky_70⟩
  rcases Nat.lt_or_ge i 13 with h0 | h0
  · exact mz_okR_at mz_okr_70_0 (Nat.zero_le i) h0
  exact mz_okAt_out (M := (3, 12, (0, 0, 0), mzc_70)) (Nat.le_trans (show mzc_70.length ≤ 13 by decide +kernel) h0)
theorem mz_oka_71 : mz_okQ (3, 12, (0, 0, 0), mzc_71) mzt_71 := by
  refine ⟨fun i => ?_, rfl, Or.inr mz_oky_71⟩
  rcases Nat.lt_or_ge i 20 with h0 | h0
  · exact mz_okR_at mz_okr_71_0 (Nat.zero_le i) h0
  exact mz_okAt_out (M := (3, 12, (0, 0, 0), mzc_71)) (Nat.le_trans (show mzc_71.length ≤ 20 by decide +kernel) h0)
theorem mz_oka_72 : mz_okQ (2, 12, (0, 0, 0), mzc_72) mzt_72 := by
  refine ⟨fun i => ?_, rfl, Or.inr mz_oky_72⟩
  rcases Nat.lt_or_ge i 10 with h0 | h0
  · exact mz_okR_at mz_okr_72_0 (Nat.zero_le i) h0
  exact mz_okAt_out (M := (2, 12, (0, 0, 0), mzc_72)) (Nat.le_trans (show mzc_72.length ≤ 10 by decide +kernel) h0)
theorem mz_oka_73 : mz_okQ (2, 12, (0, 0, 0), mzc_73) mzt_73 := by
  refine ⟨fun i => ?_, rfl, Or.inr mz_oky_73⟩
  rcases Nat.lt_or_ge i 9 with h0 | h0
  · exact mz_okR_at mz_okr_73_0 (Nat.zero_le i) h0
  exact mz_okAt_out (M := (2, 12, (0, 0, 0), mzc_73)) (Nat.le_trans (show mzc_73.length ≤ 9 by decide +kernel) h0)
theorem mz_oka_74 : mz_okQ (2, 12, (0, 0, 0), mzc_74) mzt_74 := by
  refine ⟨fun i => ?_, rfl, Or.inr mz_oky_74⟩
  rcases Nat.lt_or_ge i 11 with h0 | h0
  · exact mz_okR_at mz_okr_74_0 (Nat.zero_le i) h0
  exact mz_okAt_out (M := (2, 12, (0, 0, 0), mzc_74)) (Nat.le_trans (show mzc_74.length ≤ 11 by decide +kernel) h0)
theorem mz_oka_75 : mz_okQ (3, 12, (0, 0, 0), mzc_75) mzt_75 := by
  refine ⟨fun i => ?_, rfl, Or.inr mz_oky_75⟩
  rcases Nat.lt_or_ge i 13 with h0 | h0
  · exact mz_okR_at mz_okr_75_0 (Nat.zero_le i) h0
  exact mz_okAt_out (M := (3, 12, (0, 0, 0), mzc_75)) (Nat.le_trans (show mzc_75.length ≤ 13 by decide +kernel) h0)
theorem mz_oka_76 : mz_okQ (1, 0, (0, 0, 0), mzc_76) mzt_76 := by
  refine ⟨fun i => ?_, rfl, Or.inr mz_oky_76⟩
  rcases Nat.lt_or_ge i 7 with h0 | h0
  · exact mz_okR_at mz_okr_76_0 (Nat.zero_le i) h0
  exact mz_okAt_out (M := (1, 0, (0, 0, 0), mzc_76)) (Nat.le_trans (show mzc_76.length ≤ 7 by decide +kernel) h0)
theorem mz_oka_77 : mz_okQ (1, 0, (0, 0, 0), mzc_77) mzt_77 := by
  refine ⟨fun i => ?_, rfl, Or.inr mz_oky_77⟩
  rcases Nat.lt_or_ge i 6 with h0 | h0
  · exact mz_okR_at mz_okr_77_0 (Nat.zero_le i) h0
  exact mz_okAt_out (M := (1, 0, (0, 0, 0), mzc_77)) (Nat.le_trans (show mzc_77.length ≤ 6 by decide +kernel) h0)
theorem mz_oka_78 : mz_okQ (1, 0, (0, 0, 0), mzc_78) mzt_78 := by
  refine ⟨fun i => ?_, rfl, Or.inr mz_oky_78⟩
  rcases Nat.lt_or_ge i 6 with h0 | h0
  · exact mz_okR_at mz_okr_78_0 (Nat.zero_le i) h0
  exact mz_okAt_out (M := (1, 0, (0, 0, 0), mzc_78)) (Nat.le_trans (show mzc_78.length ≤ 6 by decide +kernel) h0)
theorem mz_oka_79 : mz_okQ (2, 12, (0, 0, 0), mzc_79) mzt_79 := by
  refine ⟨fun i => ?_, rfl, Or.inr mz_oky_79⟩
  rcases Nat.lt_or_ge i 9 with h0 | h0
  · exact mz_okR_at mz_okr_79_0 (Nat.zero_le i) h0
  exact mz_okAt_out (M := (2, 12, (0, 0, 0), mzc_79)) (Nat.le_trans (show mzc_79.length ≤ 9 by decide +kernel) h0)
theorem mz_oka_80 : mz_okQ (3, 0, (0, 0, 0), mzc_80) mzt_80 := by
  refine ⟨fun i => ?_, rfl, Or.inr mz_oky_80⟩
  rcases Nat.lt_or_ge i 16 with h0 | h0
  · exact mz_okR_at mz_okr_80_0 (Nat.zero_le i) h0
  exact mz_okAt_out (M := (3, 0, (0, 0, 0), mzc_80)) (Nat.le_trans (show mzc_80.length ≤ 16 by decide +kernel) h0)
theorem mz_oka_81 : mz_okQ (2, 0, (0, 0, 0), mzc_81) mzt_81 := by
  refine ⟨fun i => ?_, rfl, Or.inr mz_oky_81⟩
  rcases Nat.lt_or_ge i 8 with h0 | h0
  · exact mz_okR_at mz_okr_81_0 (Nat.zero_le i) h0
  exact mz_okAt_out (M := (2, 0, (0, 0, 0), mzc_81)) (Nat.le_trans (show mzc_81.length ≤ 8 by decide +kernel) h0)
theorem mz_oka_82 : mz_okQ (2, 0, (0, 0, 0), mzc_82) mzt_82 := by
  refine ⟨fun i => ?_, rfl, Or.inr mz_oky_82⟩
  rcases Nat.lt_or_ge i 8 with h0 | h0
  · exact mz_okR_at mz_okr_82_0 (Nat.zero_le i) h0
  exact mz_okAt_out (M := (2, 0, (0, 0, 0), mzc_82)) (Nat.le_trans (show mzc_82.length ≤ 8 by decide +kernel) h0)
theorem mz_oka_83 : mz_okQ (3, 12, (0, 0, 0), mzc_83) mzt_83 := by
  refine ⟨fun i => ?_, rfl, Or.inr mz_oky_83⟩
  rcases Nat.lt_or_ge i 36 with h0 | h0
  · exact mz_okR_at mz_okr_83_0 (Nat.zero_le i) h0
  exact mz_okAt_out (M := (3, 12, (0, 0, 0), mzc_83)) (Nat.le_trans (show mzc_83.length ≤ 36 by decide +kernel) h0)
theorem mz_oka_84 : mz_okQ (2, 12, (0, 0, 0), mzc_84) mzt_84 := by
  refine ⟨fun i => ?_, rfl, Or.inr mz_oky_84⟩
  rcases Nat.lt_or_ge i 16 with h0 | h0
  · exact mz_okR_at mz_okr_84_0 (Nat.zero_le i) h0
  exact mz_okAt_out (M := (2, 12, (0, 0, 0), mzc_84)) (Nat.le_trans (show mzc_84.length ≤ 16 by decide +kernel) h0)
theorem mz_oka_85 : mz_okQ (1, 12, (0, 0, 0), mzc_85) mzt_85 := by
  refine ⟨fun i => ?_, rfl, Or.inr mz_oky_85⟩
  rcases Nat.lt_or_ge i 14 with h0 | h0
  · exact mz_okR_at mz_okr_85_0 (Nat.zero_le i) h0
  exact mz_okAt_out (M := (1, 12, (0, 0, 0), mzc_85)) (Nat.le_trans (show mzc_85.length ≤ 14 by decide +kernel) h0)
theorem mz_oka_86 : mz_okQ (1, 12, (0, 0, 0), mzc_86) mzt_86 := by
  refine ⟨fun i => ?_, rfl, Or.inr mz_oky_86⟩
  rcases Nat.lt_or_ge i 15 with h0 | h0
  · exact mz_okR_at mz_okr_86_0 (Nat.zero_le i) h0
  exact mz_okAt_out (M := (1, 12, (0, 0, 0), mzc_86)) (Nat.le_trans (show mzc_86.length ≤ 15 by decide +kernel) h0)
theorem mz_oka_87 : mz_okQ (1, 12, (0, 0, 0), mzc_87) mzt_87 := by
  refine ⟨fun i => ?_, rfl, Or.inr mz_oky_87⟩
  rcases Nat.lt_or_ge i 8 with h0 | h0
  · exact mz_okR_at mz_okr_87_0 (Nat.zero_le i) h0
  exact mz_okAt_out (M := (1, 12, (0, 0, 0), mzc_87)) (Nat.le_trans (show mzc_87.length ≤ 8 by decide +kernel) h0)
theorem mz_oka_88 : mz_okQ (2, 12, (0, 0, 0), mzc_88) mzt_88 := by
  refine ⟨fun i => ?_, rfl, Or.inr mz_oky_88⟩
  rcases Nat.lt_or_ge i 7 with h0 | h0
  · exact mz_okR_at mz_okr_88_0 (Nat.zero_le i) h0
  exact mz_okAt_out (M := (2, 12, (0, 0, 0), mzc_88)) (Nat.le_trans (show mzc_88.length ≤ 7 by decide +kernel) h0)
theorem mz_oka_89 : mz_okQ (2, 12, (0, 0, 0), mzc_89) mzt_89 := by
  refine ⟨fun i => ?_, rfl, Or.inr mz_oky_89⟩
  rcases Nat.lt_or_ge i 17 with h0 | h0
  · exact mz_okR_at mz_okr_89_0 (Nat.zero_le i) h0
  exact mz_okAt_out (M := (2, 12, (0, 0, 0), mzc_89)) (Nat.le_trans (show mzc_89.length ≤ 17 by decide +kernel) h0)
theorem mz_oka_90 : mz_okQ (2, 12, (0, 0, 0), mzc_90) mzt_90 := by
  refine ⟨fun i => ?_, rfl, Or.inr mz_oky_90⟩
  rcases Nat.lt_or_ge i 9 with h0 | h0
  · exact mz_okR_at mz_okr_90_0 (Nat.zero_le i) h0
  exact mz_okAt_out (M := (2, 12, (0, 0, 0), mzc_90)) (Nat.le_trans (show mzc_90.length ≤ 9 by decide +kernel) h0)
theorem mz_oka_91 : mz_okQ (3, 12, (0, 0, 0), mzc_91) mzt_91 := by
  refine ⟨fun i => ?_, rfl, Or.inr mz_oky_91⟩
  rcases Nat.lt_or_ge i 37 with h0 | h0
  · exact mz_okR_at mz_okr_91_0 (Nat.zero_le i) h0
  exact mz_okAt_out (M := (3, 12, (0, 0, 0), mzc_91)) (Nat.le_trans (show mzc_91.length ≤ 37 by decide +kernel) h0)
theorem mz_oka_92 : mz_okQ (2, 12, (0, 0, 0), mzc_92) mzt_92 := by
  refine ⟨fun i => ?_, rfl, Or.inr mz_oky_92⟩
  rcases Nat.lt_or_ge i 14 with h0 | h0
  · exact mz_okR_at mz_okr_92_0 (Nat.zero_le i) h0
  exact mz_okAt_out (M := (2, 12, (0, 0, 0), mzc_92)) (Nat.le_trans (show mzc_92.length ≤ 14 by decide +kernel) h0)
theorem mz_oka_93 : mz_okQ (1, 12, (0, 0, 0), mzc_93) mzt_93 := by
  refine ⟨fun i => ?_, rfl, Or.inr mz_oky_93⟩
  rcases Nat.lt_or_ge i 12 with h0 | h0
  · exact mz_okR_at mz_okr_93_0 (Nat.zero_le i) h0
  exact mz_okAt_out (M := (1, 12, (0, 0, 0), mzc_93)) (Nat.le_trans (show mzc_93.length ≤ 12 by decide +kernel) h0)
theorem mz_oka_94 : mz_okQ (5, 12, (0, 0, 0), mzc_94) mzt_94 := by
  refine ⟨fun i => ?_, rfl, Or.inr mz_oky_94⟩
  rcases Nat.lt_or_ge i 60 with h0 | h0
  · exact mz_okR_at mz_okr_94_0 (Nat.zero_le i) h0
  rcases Nat.lt_or_ge i 71 with h1 | h1
  · exact mz_okR_at mz_okr_94_1 h0 h1
  exact mz_okAt_out (M := (5, 12, (0, 0, 0), mzc_94)) (Nat.le_trans (show mzc_94.length ≤ 71 by decide +kernel) h1)
theorem mz_oka_95 : mz_okQ (3, 12, (0, 0, 0), mzc_95) mzt_95 := by
  refine ⟨fun i => ?_, rfl, Or.inr mz_oky_95⟩
  rcases Nat.lt_or_ge i 60 with h0 | h0
  · exact mz_okR_at mz_okr_95_0 (Nat.zero_le i) h0
  rcases Nat.lt_or_ge i 120 with h1 | h1
  · exact mz_okR_at mz_okr_95_1 h0 h1
  rcases Nat.lt_or_ge i 135 with h2 | h2
  · exact mz_okR_at mz_okr_95_2 h1 h2
  exact mz_okAt_out (M := (3, 12, (0, 0, 0), mzc_95)) (Nat.le_trans (show mzc_95.length ≤ 135 by decide +kernel) h2)
theorem mz_oka_96 : mz_okQ (4, 12, (0, 0, 0), mzc_96) mzt_96 := by
  refine ⟨fun i => ?_, rfl, Or.inr mz_oky_96⟩
  rcases Nat.lt_or_ge i 60 with h0 | h0
  · exact mz_okR_at mz_okr_96_0 (Nat.zero_le i) h0
  rcases Nat.lt_or_ge i 101 with h1 | h1
  · exact mz_okR_at mz_okr_96_1 h0 h1
  exact mz_okAt_out (M := (4, 12, (0, 0, 0), mzc_96)) (Nat.le_trans (show mzc_96.length ≤ 101 by decide +kernel) h1)
theorem mz_oka_97 : mz_okQ (4, 12, (0, 0, 0), mzc_97) mzt_97 := by
  refine ⟨fun i => ?_, rfl, Or.inr mz_oky_97⟩
  rcases Nat.lt_or_ge i 41 with h0 | h0
  · exact mz_okR_at mz_okr_97_0 (Nat.zero_le i) h0
  exact mz_okAt_out (M := (4, 12, (0, 0, 0), mzc_97)) (Nat.le_trans (show mzc_97.length ≤ 41 by decide +kernel) h0)
theorem mz_oka_98 : mz_okQ (1, 0, (0, 0, 0), mzc_98) mzt_98 := by
  refine ⟨fun i => ?_, rfl, Or.inr mz_oky_98⟩
  rcases Nat.lt_or_ge i 5 with h0 | h0
  · exact mz_okR_at mz_okr_98_0 (Nat.zero_le i) h0
  exact mz_okAt_out (M := (1, 0, (0, 0, 0), mzc_98)) (Nat.le_trans (show mzc_98.length ≤ 5 by decide +kernel) h0)
theorem mz_oka_99 : mz_okQ (5, 12, (0, 0, 0), mzc_99) mzt_99 := by
  refine ⟨fun i => ?_, rfl, Or.inr mz_oky_99⟩
  rcases Nat.lt_or_ge i 60 with h0 | h0
  · exact mz_okR_at mz_okr_99_0 (Nat.zero_le i) h0
  rcases Nat.lt_or_ge i 97 with h1 | h1
  · exact mz_okR_at mz_okr_99_1 h0 h1
  exact mz_okAt_out (M := (5, 12, (0, 0, 0), mzc_99)) (Nat.le_trans (show mzc_99.length ≤ 97 by decide +kernel) h1)
theorem mz_oka_100 : mz_okQ (3, 12, (0, 0, 0), mzc_100) mzt_100 := by
  refine ⟨fun i => ?_, rfl, Or.inr mz_oky_100⟩
  rcases Nat.lt_or_ge i 25 with h0 | h0
  · exact mz_okR_at mz_okr_100_0 (Nat.zero_le i) h0
  exact mz_okAt_out (M := (3, 12, (0, 0, 0), mzc_100)) (Nat.le_trans (show mzc_100.length ≤ 25 by decide +kernel) h0)
theorem mz_oka_101 : mz_okQ (3, 12, (0, 0, 0), mzc_101) mzt_101 := by
  refine ⟨fun i => ?_, rfl, Or.inr mz_oky_101⟩
  rcases Nat.lt_or_ge i 26 with h0 | h0
  · exact mz_okR_at mz_okr_101_0 (Nat.zero_le i) h0
  exact mz_okAt_out (M := (3, 12, (0, 0, 0), mzc_101)) (Nat.le_trans (show mzc_101.length ≤ 26 by decide +kernel) h0)
theorem mz_oka_102 : mz_okQ (9, 12, (0, 0, 0), mzc_102) mzt_102 := by
  refine ⟨fun i => ?_, rfl, Or.inr mz_oky_102⟩
  rcases Nat.lt_or_ge i 60 with h0 | h0
  · exact mz_okR_at mz_okr_102_0 (Nat.zero_le i) h0
  rcases Nat.lt_or_ge i 83 with h1 | h1
  · exact mz_okR_at mz_okr_102_1 h0 h1
  exact mz_okAt_out (M := (9, 12, (0, 0, 0), mzc_102)) (Nat.le_trans (show mzc_102.length ≤ 83 by decide +kernel) h1)
theorem mz_oka_103 : mz_okQ (2, 12, (0, 0, 0), mzc_103) mzt_103 := by
  refine ⟨fun i => ?_, rfl, Or.inr mz_oky_103⟩
  rcases Nat.lt_or_ge i 18 with h0 | h0
  · exact mz_okR_at mz_okr_103_0 (Nat.zero_le i) h0
  exact mz_okAt_out (M := (2, 12, (0, 0, 0), mzc_103)) (Nat.le_trans (show mzc_103.length ≤ 18 by decide +kernel) h0)
theorem mz_oka_104 : mz_okQ (2, 12, (0, 0, 0), mzc_104) mzt_104 := by
  refine ⟨fun i => ?_, rfl, Or.inr mz_oky_104⟩
  rcases Nat.lt_or_ge i 54 with h0 | h0
  · exact mz_okR_at mz_okr_104_0 (Nat.zero_le i) h0
  exact mz_okAt_out (M := (2, 12, (0, 0, 0), mzc_104)) (Nat.le_trans (show mzc_104.length ≤ 54 by decide +kernel) h0)
theorem mz_oka_105 : mz_okQ (3, 12, (0, 0, 0), mzc_105) mzt_105 := by
  refine ⟨fun i => ?_, rfl, Or.inr mz_oky_105⟩
  rcases Nat.lt_or_ge i 39 with h0 | h0
  · exact mz_okR_at mz_okr_105_0 (Nat.zero_le i) h0
  exact mz_okAt_out (M := (3, 12, (0, 0, 0), mzc_105)) (Nat.le_trans (show mzc_105.length ≤ 39 by decide +kernel) h0)
theorem mz_oka_106 : mz_okQ (5, 12, (0, 0, 0), mzc_106) mzt_106 := by
  refine ⟨fun i => ?_, rfl, Or.inr mz_oky_106⟩
  rcases Nat.lt_or_ge i 30 with h0 | h0
  · exact mz_okR_at mz_okr_106_0 (Nat.zero_le i) h0
  exact mz_okAt_out (M := (5, 12, (0, 0, 0), mzc_106)) (Nat.le_trans (show mzc_106.length ≤ 30 by decide +kernel) h0)
theorem mz_oka_107 : mz_okQ (4, 12, (0, 0, 0), mzc_107) mzt_107 := by
  refine ⟨fun i => ?_, rfl, Or.inr mz_oky_107⟩
  rcases Nat.lt_or_ge i 26 with h0 | h0
  · exact mz_okR_at mz_okr_107_0 (Nat.zero_le i) h0
  exact mz_okAt_out (M := (4, 12, (0, 0, 0), mzc_107)) (Nat.le_trans (show mzc_107.length ≤ 26 by decide +kernel) h0)
theorem mz_oka_108 : mz_okQ (5, 12, (0, 0, 0), mzc_108) mzt_108 := by
  refine ⟨fun i => ?_, rfl, Or.inr mz_oky_108⟩
  rcases Nat.lt_or_ge i 28 with h0 | h0
  · exact mz_okR_at mz_okr_108_0 (Nat.zero_le i) h0
  exact mz_okAt_out (M := (5, 12, (0, 0, 0), mzc_108)) (Nat.le_trans (show mzc_108.length ≤ 28 by decide +kernel) h0)
theorem mz_oka_109 : mz_okQ (4, 12, (0, 0, 0), mzc_109) mzt_109 := by
  refine ⟨fun i => ?_, rfl, Or.inr mz_oky_109⟩
  rcases Nat.lt_or_ge i 29 with h0 | h0
  · exact mz_okR_at mz_okr_109_0 (Nat.zero_le i) h0
  exact mz_okAt_out (M := (4, 12, (0, 0, 0), mzc_109)) (Nat.le_trans (show mzc_109.length ≤ 29 by decide +kernel) h0)
theorem mz_oka_110 : mz_okQ (3, 12, (0, 0, 0), mzc_110) mzt_110 := by
  refine ⟨fun i => ?_, rfl, Or.inr mz_oky_110⟩
  rcases Nat.lt_or_ge i 18 with h0 | h0
  · exact mz_okR_at mz_okr_110_0 (Nat.zero_le i) h0
  exact mz_okAt_out (M := (3, 12, (0, 0, 0), mzc_110)) (Nat.le_trans (show mzc_110.length ≤ 18 by decide +kernel) h0)
theorem mz_oka_111 : mz_okQ (5, 12, (0, 0, 0), mzc_111) mzt_111 := by
  refine ⟨fun i => ?_, rfl, Or.inr mz_oky_111⟩
  rcases Nat.lt_or_ge i 39 with h0 | h0
  · exact mz_okR_at mz_okr_111_0 (Nat.zero_le i) h0
  exact mz_okAt_out (M := (5, 12, (0, 0, 0), mzc_111)) (Nat.le_trans (show mzc_111.length ≤ 39 by decide +kernel) h0)
theorem mz_oka_112 : mz_okQ (5, 12, (0, 0, 0), mzc_112) mzt_112 := by
  refine ⟨fun i => ?_, rfl, Or.inr mz_oky_112⟩
  rcases Nat.lt_or_ge i 60 with h0 | h0
  · exact mz_okR_at mz_okr_112_0 (Nat.zero_le i) h0
  rcases Nat.lt_or_ge i 68 with h1 | h1
  · exact mz_okR_at mz_okr_112_1 h0 h1
  exact mz_okAt_out (M := (5, 12, (0, 0, 0), mzc_112)) (Nat.le_trans (show mzc_112.length ≤ 68 by decide +kernel) h1)
theorem mz_oka_113 : mz_okQ (3, 12, (0, 0, 0), mzc_113) mzt_113 := by
  refine ⟨fun i => ?_, rfl, Or.inr mz_oky_113⟩
  rcases Nat.lt_or_ge i 31 with h0 | h0
  · exact mz_okR_at mz_okr_113_0 (Nat.zero_le i) h0
  exact mz_okAt_out (M := (3, 12, (0, 0, 0), mzc_113)) (Nat.le_trans (show mzc_113.length ≤ 31 by decide +kernel) h0)
theorem mz_oka_114 : mz_okQ (2, 12, (0, 0, 0), mzc_114) mzt_114 := by
  refine ⟨fun i => ?_, rfl, Or.inr mz_oky_114⟩
  rcases Nat.lt_or_ge i 20 with h0 | h0
  · exact mz_okR_at mz_okr_114_0 (Nat.zero_le i) h0
  exact mz_okAt_out (M := (2, 12, (0, 0, 0), mzc_114)) (Nat.le_trans (show mzc_114.length ≤ 20 by decide +kernel) h0)
theorem mz_oka_115 : mz_okQ (3, 12, (0, 0, 0), mzc_115) mzt_115 := by
  refine ⟨fun i => ?_, rfl, Or.inr mz_oky_115⟩
  rcases Nat.lt_or_ge i 60 with h0 | h0
  · exact mz_okR_at mz_okr_115_0 (Nat.zero_le i) h0
  rcases Nat.lt_or_ge i 80 with h1 | h1
  · exact mz_okR_at mz_okr_115_1 h0 h1
  exact mz_okAt_out (M := (3, 12, (0, 0, 0), mzc_115)) (Nat.le_trans (show mzc_115.length ≤ 80 by decide +kernel) h1)
theorem mz_oka_116 : mz_okQ (5, 12, (0, 0, 0), mzc_116) mzt_116 := by
  refine ⟨fun i => ?_, rfl, Or.inr mz_oky_116⟩
  rcases Nat.lt_or_ge i 60 with h0 | h0
  · exact mz_okR_at mz_okr_116_0 (Nat.zero_le i) h0
  rcases Nat.lt_or_ge i 73 with h1 | h1
  · exact mz_okR_at mz_okr_116_1 h0 h1
  exact mz_okAt_out (M := (5, 12, (0, 0, 0), mzc_116)) (Nat.le_trans (show mzc_116.length ≤ 73 by decide +kernel) h1)
theorem mz_oka_117 : mz_okQ (3, 12, (0, 0, 0), mzc_117) mzt_117 := by
  refine ⟨fun i => ?_, rfl, Or.inr mz_oky_117⟩
  rcases Nat.lt_or_ge i 60 with h0 | h0
  · exact mz_okR_at mz_okr_117_0 (Nat.zero_le i) h0
  rcases Nat.lt_or_ge i 75 with h1 | h1
  · exact mz_okR_at mz_okr_117_1 h0 h1
  exact mz_okAt_out (M := (3, 12, (0, 0, 0), mzc_117)) (Nat.le_trans (show mzc_117.length ≤ 75 by decide +kernel) h1)
theorem mz_oka_118 : mz_okQ (2, 12, (0, 0, 0), mzc_118) mzt_118 := by
  refine ⟨fun i => ?_, rfl, Or.inr mz_oky_118⟩
  rcases Nat.lt_or_ge i 37 with h0 | h0
  · exact mz_okR_at mz_okr_118_0 (Nat.zero_le i) h0
  exact mz_okAt_out (M := (2, 12, (0, 0, 0), mzc_118)) (Nat.le_trans (show mzc_118.length ≤ 37 by decide +kernel) h0)
theorem mz_oka_119 : mz_okQ (2, 12, (0, 0, 0), mzc_119) mzt_119 := by
  refine ⟨fun i => ?_, rfl, Or.inr mz_oky_119⟩
  rcases Nat.lt_or_ge i 35 with h0 | h0
  · exact mz_okR_at mz_okr_119_0 (Nat.zero_le i) h0
  exact mz_okAt_out (M := (2, 12, (0, 0, 0), mzc_119)) (Nat.le_trans (show mzc_119.length ≤ 35 by decide +kernel) h0)
theorem mz_oka_120 : mz_okQ (5, 12, (0, 0, 0), mzc_120) mzt_120 := by
  refine ⟨fun i => ?_, rfl, Or.inr mz_oky_120⟩
  rcases Nat.lt_or_ge i 36 with h0 | h0
  · exact mz_okR_at mz_okr_120_0 (Nat.zero_le i) h0
  exact mz_okAt_out (M := (5, 12, (0, 0, 0), mzc_120)) (Nat.le_trans (show mzc_120.length ≤ 36 by decide +kernel) h0)
theorem mz_oka_121 : mz_okQ (5, 12, (0, 0, 0), mzc_121) mzt_121 := by
  refine ⟨fun i => ?_, rfl, Or.inr mz_oky_121⟩
  rcases Nat.lt_or_ge i 28 with h0 | h0
  · exact mz_okR_at mz_okr_121_0 (Nat.zero_le i) h0
  exact mz_okAt_out (M := (5, 12, (0, 0, 0), mzc_121)) (Nat.le_trans (show mzc_121.length ≤ 28 by decide +kernel) h0)
theorem mz_oka_122 : mz_okQ (7, 12, (0, 0, 0), mzc_122) mzt_122 := by
  refine ⟨fun i => ?_, rfl, Or.inr mz_oky_122⟩
  rcases Nat.lt_or_ge i 60 with h0 | h0
  · exact mz_okR_at mz_okr_122_0 (Nat.zero_le i) h0
  rcases Nat.lt_or_ge i 80 with h1 | h1
  · exact mz_okR_at mz_okr_122_1 h0 h1
  exact mz_okAt_out (M := (7, 12, (0, 0, 0), mzc_122)) (Nat.le_trans (show mzc_122.length ≤ 80 by decide +kernel) h1)
theorem mz_oka_123 : mz_okQ (7, 12, (0, 0, 0), mzc_123) mzt_123 := by
  refine ⟨fun i => ?_, rfl, Or.inr mz_oky_123⟩
  rcases Nat.lt_or_ge i 60 with h0 | h0
  · exact mz_okR_at mz_okr_123_0 (Nat.zero_le i) h0
  rcases Nat.lt_or_ge i 80 with h1 | h1
  · exact mz_okR_at mz_okr_123_1 h0 h1
  exact mz_okAt_out (M := (7, 12, (0, 0, 0), mzc_123)) (Nat.le_trans (show mzc_123.length ≤ 80 by decide +kernel) h1)
theorem mz_oka_124 : mz_okQ (4, 12, (0, 0, 0), mzc_124) mzt_124 := by
  refine ⟨fun i => ?_, rfl, Or.inr mz_oky_124⟩
  rcases Nat.lt_or_ge i 26 with h0 | h0
  · exact mz_okR_at mz_okr_124_0 (Nat.zero_le i) h0
  exact mz_okAt_out (M := (4, 12, (0, 0, 0), mzc_124)) (Nat.le_trans (show mzc_124.length ≤ 26 by decide +kernel) h0)
theorem mz_oka_125 : mz_okQ (8, 12, (0, 0, 0), mzc_125) mzt_125 := by
  refine ⟨fun i => ?_, rfl, Or.inr mz_oky_125⟩
  rcases Nat.lt_or_ge i 60 with h0 | h0
  · exact mz_okR_at mz_okr_125_0 (Nat.zero_le i) h0
  rcases Nat.lt_or_ge i 93 with h1 | h1
  · exact mz_okR_at mz_okr_125_1 h0 h1
  exact mz_okAt_out (M := (8, 12, (0, 0, 0), mzc_125)) (Nat.le_trans (show mzc_125.length ≤ 93 by decide +kernel) h1)
theorem mz_oka_126 : mz_okQ (2, 12, (0, 0, 0), mzc_126) mzt_126 := by
  refine ⟨fun i => ?_, rfl, Or.inr mz_oky_126⟩
  rcases Nat.lt_or_ge i 20 with h0 | h0
  · exact mz_okR_at mz_okr_126_0 (Nat.zero_le i) h0
  exact mz_okAt_out (M := (2, 12, (0, 0, 0), mzc_126)) (Nat.le_trans (show mzc_126.length ≤ 20 by decide +kernel) h0)
theorem mz_oka_127 : mz_okQ (5, 12, (0, 0, 0), mzc_127) mzt_127 := by
  refine ⟨fun i => ?_, rfl, Or.inr mz_oky_127⟩
  rcases Nat.lt_or_ge i 51 with h0 | h0
  · exact mz_okR_at mz_okr_127_0 (Nat.zero_le i) h0
  exact mz_okAt_out (M := (5, 12, (0, 0, 0), mzc_127)) (Nat.le_trans (show mzc_127.length ≤ 51 by decide +kernel) h0)
theorem mz_oka_128 : mz_okQ (2, 12, (0, 0, 0), mzc_128) mzt_128 := by
  refine ⟨fun i => ?_, rfl, Or.inr mz_oky_128⟩
  rcases Nat.lt_or_ge i 11 with h0 | h0
  · exact mz_okR_at mz_okr_128_0 (Nat.zero_le i) h0
  exact mz_okAt_out (M := (2, 12, (0, 0, 0), mzc_128)) (Nat.le_trans (show mzc_128.length ≤ 11 by decide +kernel) h0)
theorem mz_oka_129 : mz_okQ (3, 12, (0, 0, 0), mzc_129) mzt_129 := by
  refine ⟨fun i => ?_, rfl, Or.inr mz_oky_129⟩
  rcases Nat.lt_or_ge i 18 with h0 | h0
  · exact mz_okR_at mz_okr_129_0 (Nat.zero_le i) h0
  exact mz_okAt_out (M := (3, 12, (0, 0, 0), mzc_129)) (Nat.le_trans (show mzc_129.length ≤ 18 by decide +kernel) h0)
theorem mz_oka_130 : mz_okQ (3, 12, (0, 0, 0), mzc_130) mzt_130 := by
  refine ⟨fun i => ?_, rfl, Or.inr mz_oky_130⟩
  rcases Nat.lt_or_ge i 29 with h0 | h0
  · exact mz_okR_at mz_okr_130_0 (Nat.zero_le i) h0
  exact mz_okAt_out (M := (3, 12, (0, 0, 0), mzc_130)) (Nat.le_trans (show mzc_130.length ≤ 29 by decide +kernel) h0)
theorem mz_oka_131 : mz_okQ (2, 12, (0, 0, 0), mzc_131) mzt_131 := by
  refine ⟨fun i => ?_, rfl, Or.inr mz_oky_131⟩
  rcases Nat.lt_or_ge i 25 with h0 | h0
  · exact mz_okR_at mz_okr_131_0 (Nat.zero_le i) h0
  exact mz_okAt_out (M := (2, 12, (0, 0, 0), mzc_131)) (Nat.le_trans (show mzc_131.length ≤ 25 by decide +kernel) h0)
theorem mz_oka_132 : mz_okQ (4, 12, (0, 0, 0), mzc_132) mzt_132 := by
  refine ⟨fun i => ?_, rfl, Or.inr mz_oky_132⟩
  rcases Nat.lt_or_ge i 52 with h0 | h0
  · exact mz_okR_at mz_okr_132_0 (Nat.zero_le i) h0
  exact mz_okAt_out (M := (4, 12, (0, 0, 0), mzc_132)) (Nat.le_trans (show mzc_132.length ≤ 52 by decide +kernel) h0)
theorem mz_oka_133 : mz_okQ (6, 12, (0, 0, 0), mzc_133) mzt_133 := by
  refine ⟨fun i => ?_, rfl, Or.inr mz_oky_133⟩
  rcases Nat.lt_or_ge i 55 with h0 | h0
  · exact mz_okR_at mz_okr_133_0 (Nat.zero_le i) h0
  exact mz_okAt_out (M := (6, 12, (0, 0, 0), mzc_133)) (Nat.le_trans (show mzc_133.length ≤ 55 by decide +kernel) h0)
theorem mz_oka_134 : mz_okQ (3, 12, (0, 0, 0), mzc_134) mzt_134 := by
  refine ⟨fun i => ?_, rfl, Or.inr mz_oky_134⟩
  rcases Nat.lt_or_ge i 40 with h0 | h0
  · exact mz_okR_at mz_okr_134_0 (Nat.zero_le i) h0
  exact mz_okAt_out (M := (3, 12, (0, 0, 0), mzc_134)) (Nat.le_trans (show mzc_134.length ≤ 40 by decide +kernel) h0)
theorem mz_oka_135 : mz_okQ (7, 12, (0, 0, 0), mzc_135) mzt_135 := by
  refine ⟨fun i => ?_, rfl, Or.inr mz_oky_135⟩
  rcases Nat.lt_or_ge i 60 with h0 | h0
  · exact mz_okR_at mz_okr_135_0 (Nat.zero_le i) h0
  rcases Nat.lt_or_ge i 77 with h1 | h1
  · exact mz_okR_at mz_okr_135_1 h0 h1
  exact mz_okAt_out (M := (7, 12, (0, 0, 0), mzc_135)) (Nat.le_trans (show mzc_135.length ≤ 77 by decide +kernel) h1)
theorem mz_oka_136 : mz_okQ (7, 12, (0, 0, 0), mzc_136) mzt_136 := by
  refine ⟨fun i => ?_, rfl, Or.inr mz_oky_136⟩
  rcases Nat.lt_or_ge i 48 with h0 | h0
  · exact mz_okR_at mz_okr_136_0 (Nat.zero_le i) h0
  exact mz_okAt_out (M := (7, 12, (0, 0, 0), mzc_136)) (Nat.le_trans (show mzc_136.length ≤ 48 by decide +kernel) h0)
theorem mz_oka_137 : mz_okQ (3, 12, (0, 0, 0), mzc_137) mzt_137 := by
  refine ⟨fun i => ?_, rfl, Or.inr mz_oky_137⟩
  rcases Nat.lt_or_ge i 27 with h0 | h0
  · exact mz_okR_at mz_okr_137_0 (Nat.zero_le i) h0
  exact mz_okAt_out (M := (3, 12, (0, 0, 0), mzc_137)) (Nat.le_trans (show mzc_137.length ≤ 27 by decide +kernel) h0)
theorem mz_oka_138 : mz_okQ (5, 12, (0, 0, 0), mzc_138) mzt_138 := by
  refine ⟨fun i => ?_, rfl, Or.inr mz_oky_138⟩
  rcases Nat.lt_or_ge i 28 with h0 | h0
  · exact mz_okR_at mz_okr_138_0 (Nat.zero_le i) h0
  exact mz_okAt_out (M := (5, 12, (0, 0, 0), mzc_138)) (Nat.le_trans (show mzc_138.length ≤ 28 by decide +kernel) h0)
theorem mz_oka_139 : mz_okQ (5, 12, (0, 0, 0), mzc_139) mzt_139 := by
  refine ⟨fun i => ?_, rfl, Or.inr mz_oky_139⟩
  rcases Nat.lt_or_ge i 42 with h0 | h0
  · exact mz_okR_at mz_okr_139_0 (Nat.zero_le i) h0
  exact mz_okAt_out (M := (5, 12, (0, 0, 0), mzc_139)) (Nat.le_trans (show mzc_139.length ≤ 42 by decide +kernel) h0)
theorem mz_oka_140 : mz_okQ (2, 12, (0, 0, 0), mzc_140) mzt_140 := by
  refine ⟨fun i => ?_, rfl, Or.inr mz_oky_140⟩
  rcases Nat.lt_or_ge i 12 with h0 | h0
  · exact mz_okR_at mz_okr_140_0 (Nat.zero_le i) h0
  exact mz_okAt_out (M := (2, 12, (0, 0, 0), mzc_140)) (Nat.le_trans (show mzc_140.length ≤ 12 by decide +kernel) h0)
theorem mz_oka_141 : mz_okQ (6, 12, (0, 0, 0), mzc_141) mzt_141 := by
  refine ⟨fun i => ?_, rfl, Or.inr mz_oky_141⟩
  rcases Nat.lt_or_ge i 60 with h0 | h0
  · exact mz_okR_at mz_okr_141_0 (Nat.zero_le i) h0
  rcases Nat.lt_or_ge i 91 with h1 | h1
  · exact mz_okR_at mz_okr_141_1 h0 h1
  exact mz_okAt_out (M := (6, 12, (0, 0, 0), mzc_141)) (Nat.le_trans (show mzc_141.length ≤ 91 by decide +kernel) h1)
theorem mz_oka_142 : mz_okQ (7, 12, (0, 0, 0), mzc_142) mzt_142 := by
  refine ⟨fun i => ?_, rfl, Or.inr mz_oky_142⟩
  rcases Nat.lt_or_ge i 60 with h0 | h0
  · exact mz_okR_at mz_okr_142_0 (Nat.zero_le i) h0
  rcases Nat.lt_or_ge i 113 with h1 | h1
  · exact mz_okR_at mz_okr_142_1 h0 h1
  exact mz_okAt_out (M := (7, 12, (0, 0, 0), mzc_142)) (Nat.le_trans (show mzc_142.length ≤ 113 by decide +kernel) h1)
theorem mz_oka_143 : mz_okQ (5, 12, (0, 0, 0), mzc_143) mzt_143 := by
  refine ⟨fun i => ?_, rfl, Or.inr mz_oky_143⟩
  rcases Nat.lt_or_ge i 52 with h0 | h0
  · exact mz_okR_at mz_okr_143_0 (Nat.zero_le i) h0
  exact mz_okAt_out (M := (5, 12, (0, 0, 0), mzc_143)) (Nat.le_trans (show mzc_143.length ≤ 52 by decide +kernel) h0)
theorem mz_oka_144 : mz_okQ (2, 12, (0, 0, 0), mzc_144) mzt_144 := by
  refine ⟨fun i => ?_, rfl, Or.inr mz_oky_144⟩
  rcases Nat.lt_or_ge i 13 with h0 | h0
  · exact mz_okR_at mz_okr_144_0 (Nat.zero_le i) h0
  exact mz_okAt_out (M := (2, 12, (0, 0, 0), mzc_144)) (Nat.le_trans (show mzc_144.length ≤ 13 by decide +kernel) h0)
theorem mz_oka_145 : mz_okQ (2, 12, (0, 0, 0), mzc_145) mzt_145 := by
  refine ⟨fun i => ?_, rfl, Or.inr mz_oky_145⟩
  rcases Nat.lt_or_ge i 21 with h0 | h0
  · exact mz_okR_at mz_okr_145_0 (Nat.zero_le i) h0
  exact mz_okAt_out (M := (2, 12, (0, 0, 0), mzc_145)) (Nat.le_trans (show mzc_145.length ≤ 21 by decide +kernel) h0)
theorem mz_oka_146 : mz_okQ (2, 12, (0, 0, 0), mzc_146) mzt_146 := by
  refine ⟨fun i => ?_, rfl, Or.inr mz_oky_146⟩
  rcases Nat.lt_or_ge i 23 with h0 | h0
  · exact mz_okR_at mz_okr_146_0 (Nat.zero_le i) h0
  exact mz_okAt_out (M := (2, 12, (0, 0, 0), mzc_146)) (Nat.le_trans (show mzc_146.length ≤ 23 by decide +kernel) h0)
theorem mz_oka_147 : mz_okQ (2, 12, (0, 0, 0), mzc_147) mzt_147 := by
  refine ⟨fun i => ?_, rfl, Or.inr mz_oky_147⟩
  rcases Nat.lt_or_ge i 10 with h0 | h0
  · exact mz_okR_at mz_okr_147_0 (Nat.zero_le i) h0
  exact mz_okAt_out (M := (2, 12, (0, 0, 0), mzc_147)) (Nat.le_trans (show mzc_147.length ≤ 10 by decide +kernel) h0)
theorem mz_oka_148 : mz_okQ (2, 12, (0, 0, 0), mzc_148) mzt_148 := by
  refine ⟨fun i => ?_, rfl, Or.inr mz_oky_148⟩
  rcases Nat.lt_or_ge i 20 with h0 | h0
  · exact mz_okR_at mz_okr_148_0 (Nat.zero_le i) h0
  exact mz_okAt_out (M := (2, 12, (0, 0, 0), mzc_148)) (Nat.le_trans (show mzc_148.length ≤ 20 by decide +kernel) h0)
theorem mz_oka_149 : mz_okQ (4, 12, (0, 0, 0), mzc_149) mzt_149 := by
  refine ⟨fun i => ?_, rfl, Or.inr mz_oky_149⟩
  rcases Nat.lt_or_ge i 46 with h0 | h0
  · exact mz_okR_at mz_okr_149_0 (Nat.zero_le i) h0
  exact mz_okAt_out (M := (4, 12, (0, 0, 0), mzc_149)) (Nat.le_trans (show mzc_149.length ≤ 46 by decide +kernel) h0)
theorem mz_oka_150 : mz_okQ (3, 12, (0, 0, 0), mzc_150) mzt_150 := by
  refine ⟨fun i => ?_, rfl, Or.inr mz_oky_150⟩
  rcases Nat.lt_or_ge i 24 with h0 | h0
  · exact mz_okR_at mz_okr_150_0 (Nat.zero_le i) h0
  exact mz_okAt_out (M := (3, 12, (0, 0, 0), mzc_150)) (Nat.le_trans (show mzc_150.length ≤ 24 by decide +kernel) h0)
theorem mz_oka_151 : mz_okQ (3, 12, (0, 0, 0), mzc_151) mzt_151 := by
  refine ⟨fun i => ?_, rfl, Or.inr mz_oky_151⟩
  rcases Nat.lt_or_ge i 36 with h0 | h0
  · exact mz_okR_at mz_okr_151_0 (Nat.zero_le i) h0
  exact mz_okAt_out (M := (3, 12, (0, 0, 0), mzc_151)) (Nat.le_trans (show mzc_151.length ≤ 36 by decide +kernel) h0)
theorem mz_oka_152 : mz_okQ (5, 12, (0, 0, 0), mzc_152) mzt_152 := by
  refine ⟨fun i => ?_, rfl, Or.inr mz_oky_152⟩
  rcases Nat.lt_or_ge i 47 with h0 | h0
  · exact mz_okR_at mz_okr_152_0 (Nat.zero_le i) h0
  exact mz_okAt_out (M := (5, 12, (0, 0, 0), mzc_152)) (Nat.le_trans (show mzc_152.length ≤ 47 by decide +kernel) h0)
theorem mz_oka_153 : mz_okQ (6, 12, (0, 0, 0), mzc_153) mzt_153 := by
  refine ⟨fun i => ?_, rfl, Or.inr mz_oky_153⟩
  rcases Nat.lt_or_ge i 26 with h0 | h0
  · exact mz_okR_at mz_okr_153_0 (Nat.zero_le i) h0
  exact mz_okAt_out (M := (6, 12, (0, 0, 0), mzc_153)) (Nat.le_trans (show mzc_153.length ≤ 26 by decide +kernel) h0)
theorem mz_oka_154 : mz_okQ (7, 12, (0, 0, 0), mzc_154) mzt_154 := by
  refine ⟨fun i => ?_, rfl, Or.inr mz_oky_154⟩
  rcases Nat.lt_or_ge i 54 with h0 | h0
  · exact mz_okR_at mz_okr_154_0 (Nat.zero_le i) h0
  exact mz_okAt_out (M := (7, 12, (0, 0, 0), mzc_154)) (Nat.le_trans (show mzc_154.length ≤ 54 by decide +kernel) h0)
theorem mz_oka_155 : mz_okQ (7, 12, (0, 0, 0), mzc_155) mzt_155 := by
  refine ⟨fun i => ?_, rfl, Or.inr mz_oky_155⟩
  rcases Nat.lt_or_ge i 47 with h0 | h0
  · exact mz_okR_at mz_okr_155_0 (Nat.zero_le i) h0
  exact mz_okAt_out (M := (7, 12, (0, 0, 0), mzc_155)) (Nat.le_trans (show mzc_155.length ≤ 47 by decide +kernel) h0)
theorem mz_oka_156 : mz_okQ (9, 12, (0, 0, 0), mzc_156) mzt_156 := by
  refine ⟨fun i => ?_, rfl, Or.inr mz_oky_156⟩
  rcases Nat.lt_or_ge i 60 with h0 | h0
  · exact mz_okR_at mz_okr_156_0 (Nat.zero_le i) h0
  rcases Nat.lt_or_ge i 85 with h1 | h1
  · exact mz_okR_at mz_okr_156_1 h0 h1
  exact mz_okAt_out (M := (9, 12, (0, 0, 0), mzc_156)) (Nat.le_trans (show mzc_156.length ≤ 85 by decide +kernel) h1)
theorem mz_oka_157 : mz_okQ (5, 12, (0, 0, 0), mzc_157) mzt_157 := by
  refine ⟨fun i => ?_, rfl, Or.inr mz_oky_157⟩
  rcases Nat.lt_or_ge i 44 with h0 | h0
  · exact mz_okR_at mz_okr_157_0 (Nat.zero_le i) h0
  exact mz_okAt_out (M := (5, 12, (0, 0, 0), mzc_157)) (Nat.le_trans (show mzc_157.length ≤ 44 by decide +kernel) h0)
theorem mz_oka_158 : mz_okQ (4, 12, (0, 0, 0), mzc_158) mzt_158 := by
  refine ⟨fun i => ?_, rfl, Or.inr mz_oky_158⟩
  rcases Nat.lt_or_ge i 42 with h0 | h0
  · exact mz_okR_at mz_okr_158_0 (Nat.zero_le i) h0
  exact mz_okAt_out (M := (4, 12, (0, 0, 0), mzc_158)) (Nat.le_trans (show mzc_158.length ≤ 42 by decide +kernel) h0)
theorem mz_oka_159 : mz_okQ (6, 12, (0, 0, 0), mzc_159) mzt_159 := by
  refine ⟨fun i => ?_, rfl, Or.inr mz_oky_159⟩
  rcases Nat.lt_or_ge i 60 with h0 | h0
  · exact mz_okR_at mz_okr_159_0 (Nat.zero_le i) h0
  rcases Nat.lt_or_ge i 64 with h1 | h1
  · exact mz_okR_at mz_okr_159_1 h0 h1
  exact mz_okAt_out (M := (6, 12, (0, 0, 0), mzc_159)) (Nat.le_trans (show mzc_159.length ≤ 64 by decide +kernel) h1)
theorem mz_oka_160 : mz_okQ (4, 12, (0, 0, 0), mzc_160) mzt_160 := by
  refine ⟨fun i => ?_, rfl, Or.inr mz_oky_160⟩
  rcases Nat.lt_or_ge i 60 with h0 | h0
  · exact mz_okR_at mz_okr_160_0 (Nat.zero_le i) h0
  rcases Nat.lt_or_ge i 86 with h1 | h1
  · exact mz_okR_at mz_okr_160_1 h0 h1
  exact mz_okAt_out (M := (4, 12, (0, 0, 0), mzc_160)) (Nat.le_trans (show mzc_160.length ≤ 86 by decide +kernel) h1)
theorem mz_oka_161 : mz_okQ (6, 12, (0, 0, 0), mzc_161) mzt_161 := by
  refine ⟨fun i => ?_, rfl, Or.inr mz_oky_161⟩
  rcases Nat.lt_or_ge i 60 with h0 | h0
  · exact mz_okR_at mz_okr_161_0 (Nat.zero_le i) h0
  rcases Nat.lt_or_ge i 78 with h1 | h1
  · exact mz_okR_at mz_okr_161_1 h0 h1
  exact mz_okAt_out (M := (6, 12, (0, 0, 0), mzc_161)) (Nat.le_trans (show mzc_161.length ≤ 78 by decide +kernel) h1)
theorem mz_oka_162 : mz_okQ (3, 12, (0, 0, 0), mzc_162) mzt_162 := by
  refine ⟨fun i => ?_, rfl, Or.inr mz_oky_162⟩
  rcases Nat.lt_or_ge i 20 with h0 | h0
  · exact mz_okR_at mz_okr_162_0 (Nat.zero_le i) h0
  exact mz_okAt_out (M := (3, 12, (0, 0, 0), mzc_162)) (Nat.le_trans (show mzc_162.length ≤ 20 by decide +kernel) h0)
theorem mz_oka_163 : mz_okQ (2, 12, (0, 0, 0), mzc_163) mzt_163 := by
  refine ⟨fun i => ?_, rfl, Or.inr mz_oky_163⟩
  rcases Nat.lt_or_ge i 16 with h0 | h0
  · exact mz_okR_at mz_okr_163_0 (Nat.zero_le i) h0
  exact mz_okAt_out (M := (2, 12, (0, 0, 0), mzc_163)) (Nat.le_trans (show mzc_163.length ≤ 16 by decide +kernel) h0)
theorem mz_oka_164 : mz_okQ (2, 12, (0, 0, 0), mzc_164) mzt_164 := by
  refine ⟨fun i => ?_, rfl, Or.inr mz_oky_164⟩
  rcases Nat.lt_or_ge i 16 with h0 | h0
  · exact mz_okR_at mz_okr_164_0 (Nat.zero_le i) h0
  exact mz_okAt_out (M := (2, 12, (0, 0, 0), mzc_164)) (Nat.le_trans (show mzc_164.length ≤ 16 by decide +kernel) h0)
theorem mz_oka_165 : mz_okQ (3, 12, (0, 0, 0), mzc_165) mzt_165 := by
  refine ⟨fun i => ?_, rfl, Or.inr mz_oky_165⟩
  rcases Nat.lt_or_ge i 25 with h0 | h0
  · exact mz_okR_at mz_okr_165_0 (Nat.zero_le i) h0
  exact mz_okAt_out (M := (3, 12, (0, 0, 0), mzc_165)) (Nat.le_trans (show mzc_165.length ≤ 25 by decide +kernel) h0)
theorem mz_oka_166 : mz_okQ (9, 12, (0, 0, 0), mzc_166) mzt_166 := by
  refine ⟨fun i => ?_, rfl, Or.inr mz_oky_166⟩
  rcases Nat.lt_or_ge i 60 with h0 | h0
  · exact mz_okR_at mz_okr_166_0 (Nat.zero_le i) h0
  rcases Nat.lt_or_ge i 113 with h1 | h1
  · exact mz_okR_at mz_okr_166_1 h0 h1
  exact mz_okAt_out (M := (9, 12, (0, 0, 0), mzc_166)) (Nat.le_trans (show mzc_166.length ≤ 113 by decide +kernel) h1)
theorem mz_oka_167 : mz_okQ (3, 12, (0, 0, 0), mzc_167) mzt_167 := by
  refine ⟨fun i => ?_, rfl, Or.inr mz_oky_167⟩
  rcases Nat.lt_or_ge i 20 with h0 | h0
  · exact mz_okR_at mz_okr_167_0 (Nat.zero_le i) h0
  exact mz_okAt_out (M := (3, 12, (0, 0, 0), mzc_167)) (Nat.le_trans (show mzc_167.length ≤ 20 by decide +kernel) h0)
theorem mz_oka_168 : mz_okQ (5, 12, (0, 0, 0), mzc_168) mzt_168 := by
  refine ⟨fun i => ?_, rfl, Or.inr mz_oky_168⟩
  rcases Nat.lt_or_ge i 46 with h0 | h0
  · exact mz_okR_at mz_okr_168_0 (Nat.zero_le i) h0
  exact mz_okAt_out (M := (5, 12, (0, 0, 0), mzc_168)) (Nat.le_trans (show mzc_168.length ≤ 46 by decide +kernel) h0)
theorem mz_oka_169 : mz_okQ (4, 12, (0, 0, 0), mzc_169) mzt_169 := by
  refine ⟨fun i => ?_, rfl, Or.inr mz_oky_169⟩
  rcases Nat.lt_or_ge i 36 with h0 | h0
  · exact mz_okR_at mz_okr_169_0 (Nat.zero_le i) h0
  exact mz_okAt_out (M := (4, 12, (0, 0, 0), mzc_169)) (Nat.le_trans (show mzc_169.length ≤ 36 by decide +kernel) h0)
theorem mz_oka_170 : mz_okQ (2, 12, (0, 0, 0), mzc_170) mzt_170 := by
  refine ⟨fun i => ?_, rfl, Or.inr mz_oky_170⟩
  rcases Nat.lt_or_ge i 8 with h0 | h0
  · exact mz_okR_at mz_okr_170_0 (Nat.zero_le i) h0
  exact mz_okAt_out (M := (2, 12, (0, 0, 0), mzc_170)) (Nat.le_trans (show mzc_170.length ≤ 8 by decide +kernel) h0)
theorem mz_oka_171 : mz_okQ (1, 12, (0, 0, 0), mzc_171) mzt_171 := by
  refine ⟨fun i => ?_, rfl, Or.inr mz_oky_171⟩
  rcases Nat.lt_or_ge i 22 with h0 | h0
  · exact mz_okR_at mz_okr_171_0 (Nat.zero_le i) h0
  exact mz_okAt_out (M := (1, 12, (0, 0, 0), mzc_171)) (Nat.le_trans (show mzc_171.length ≤ 22 by decide +kernel) h0)
theorem mz_oka_172 : mz_okQ (8, 12, (0, 0, 0), mzc_172) mzt_172 := by
  refine ⟨fun i => ?_, rfl, Or.inr mz_oky_172⟩
  rcases Nat.lt_or_ge i 60 with h0 | h0
  · exact mz_okR_at mz_okr_172_0 (Nat.zero_le i) h0
  rcases Nat.lt_or_ge i 120 with h1 | h1
  · exact mz_okR_at mz_okr_172_1 h0 h1
  rcases Nat.lt_or_ge i 125 with h2 | h2
  · exact mz_okR_at mz_okr_172_2 h1 h2
  exact mz_okAt_out (M := (8, 12, (0, 0, 0), mzc_172)) (Nat.le_trans (show mzc_172.length ≤ 125 by decide +kernel) h2)
theorem mz_oka_173 : mz_okQ (7, 12, (0, 0, 0), mzc_173) mzt_173 := by
  refine ⟨fun i => ?_, rfl, Or.inr mz_oky_173⟩
  rcases Nat.lt_or_ge i 50 with h0 | h0
  · exact mz_okR_at mz_okr_173_0 (Nat.zero_le i) h0
  exact mz_okAt_out (M := (7, 12, (0, 0, 0), mzc_173)) (Nat.le_trans (show mzc_173.length ≤ 50 by decide +kernel) h0)
theorem mz_oka_174 : mz_okQ (2, 12, (0, 0, 0), mzc_174) mzt_174 := by
  refine ⟨fun i => ?_, rfl, Or.inr mz_oky_174⟩
  rcases Nat.lt_or_ge i 15 with h0 | h0
  · exact mz_okR_at mz_okr_174_0 (Nat.zero_le i) h0
  exact mz_okAt_out (M := (2, 12, (0, 0, 0), mzc_174)) (Nat.le_trans (show mzc_174.length ≤ 15 by decide +kernel) h0)
theorem mz_oka_175 : mz_okQ (1, 12, (0, 0, 0), mzc_175) mzt_175 := by
  refine ⟨fun i => ?_, rfl, Or.inr mz_oky_175⟩
  rcases Nat.lt_or_ge i 60 with h0 | h0
  · exact mz_okR_at mz_okr_175_0 (Nat.zero_le i) h0
  rcases Nat.lt_or_ge i 64 with h1 | h1
  · exact mz_okR_at mz_okr_175_1 h0 h1
  exact mz_okAt_out (M := (1, 12, (0, 0, 0), mzc_175)) (Nat.le_trans (show mzc_175.length ≤ 64 by decide +kernel) h1)
theorem mz_oka_176 : mz_okQ (4, 12, (0, 0, 0), mzc_176) mzt_176 := by
  refine ⟨fun i => ?_, rfl, Or.inr mz_oky_176⟩
  rcases Nat.lt_or_ge i 53 with h0 | h0
  · exact mz_okR_at mz_okr_176_0 (Nat.zero_le i) h0
  exact mz_okAt_out (M := (4, 12, (0, 0, 0), mzc_176)) (Nat.le_trans (show mzc_176.length ≤ 53 by decide +kernel) h0)
theorem mz_oka_177 : mz_okQ (3, 12, (0, 0, 0), mzc_177) mzt_177 := by
  refine ⟨fun i => ?_, rfl, Or.inr mz_oky_177⟩
  rcases Nat.lt_or_ge i 36 with h0 | h0
  · exact mz_okR_at mz_okr_177_0 (Nat.zero_le i) h0
  exact mz_okAt_out (M := (3, 12, (0, 0, 0), mzc_177)) (Nat.le_trans (show mzc_177.length ≤ 36 by decide +kernel) h0)
theorem mz_oka_178 : mz_okQ (3, 12, (0, 0, 0), mzc_178) mzt_178 := by
  refine ⟨fun i => ?_, rfl, Or.inr mz_oky_178⟩
  rcases Nat.lt_or_ge i 39 with h0 | h0
  · exact mz_okR_at mz_okr_178_0 (Nat.zero_le i) h0
  exact mz_okAt_out (M := (3, 12, (0, 0, 0), mzc_178)) (Nat.le_trans (show mzc_178.length ≤ 39 by decide +kernel) h0)
theorem mz_oka_179 : mz_okQ (4, 12, (0, 0, 0), mzc_179) mzt_179 := by
  refine ⟨fun i => ?_, rfl, Or.inr mz_oky_179⟩
  rcases Nat.lt_or_ge i 25 with h0 | h0
  · exact mz_okR_at mz_okr_179_0 (Nat.zero_le i) h0
  exact mz_okAt_out (M := (4, 12, (0, 0, 0), mzc_179)) (Nat.le_trans (show mzc_179.length ≤ 25 by decide +kernel) h0)
theorem mz_oka_180 : mz_okQ (2, 12, (0, 0, 0), mzc_180) mzt_180 := by
  refine ⟨fun i => ?_, rfl, Or.inr mz_oky_180⟩
  rcases Nat.lt_or_ge i 51 with h0 | h0
  · exact mz_okR_at mz_okr_180_0 (Nat.zero_le i) h0
  exact mz_okAt_out (M := (2, 12, (0, 0, 0), mzc_180)) (Nat.le_trans (show mzc_180.length ≤ 51 by decide +kernel) h0)
theorem mz_oka_181 : mz_okQ (2, 12, (0, 0, 0), mzc_181) mzt_181 := by
  refine ⟨fun i => ?_, rfl, Or.inr mz_oky_181⟩
  rcases Nat.lt_or_ge i 20 with h0 | h0
  · exact mz_okR_at mz_okr_181_0 (Nat.zero_le i) h0
  exact mz_okAt_out (M := (2, 12, (0, 0, 0), mzc_181)) (Nat.le_trans (show mzc_181.length ≤ 20 by decide +kernel) h0)
theorem mz_oka_182 : mz_okQ (3, 1, (0, 0, 0), mzc_182) mzt_182 := by
  refine ⟨fun i => ?_, rfl, Or.inr mz_oky_182⟩
  rcases Nat.lt_or_ge i 50 with h0 | h0
  · exact mz_okR_at mz_okr_182_0 (Nat.zero_le i) h0
  exact mz_okAt_out (M := (3, 1, (0, 0, 0), mzc_182)) (Nat.le_trans (show mzc_182.length ≤ 50 by decide +kernel) h0)
theorem mz_oka_183 : mz_okQ (3, 1, (0, 0, 0), mzc_183) mzt_183 := by
  refine ⟨fun i => ?_, rfl, Or.inr mz_oky_183⟩
  rcases Nat.lt_or_ge i 60 with h0 | h0
  · exact mz_okR_at mz_okr_183_0 (Nat.zero_le i) h0
  rcases Nat.lt_or_ge i 102 with h1 | h1
  · exact mz_okR_at mz_okr_183_1 h0 h1
  exact mz_okAt_out (M := (3, 1, (0, 0, 0), mzc_183)) (Nat.le_trans (show mzc_183.length ≤ 102 by decide +kernel) h1)
theorem mz_oka_184 : mz_okQ (1, 0, (0, 0, 0), mzc_184) mzt_184 := by
  refine ⟨fun i => ?_, rfl, Or.inr mz_oky_184⟩
  rcases Nat.lt_or_ge i 15 with h0 | h0
  · exact mz_okR_at mz_okr_184_0 (Nat.zero_le i) h0
  exact mz_okAt_out (M := (1, 0, (0, 0, 0), mzc_184)) (Nat.le_trans (show mzc_184.length ≤ 15 by decide +kernel) h0)
theorem mz_oka_185 : mz_okQ (5, 1, (0, 0, 0), mzc_185) mzt_185 := by
  refine ⟨fun i => ?_, rfl, Or.inr mz_oky_185⟩
  rcases Nat.lt_or_ge i 52 with h0 | h0
  · exact mz_okR_at mz_okr_185_0 (Nat.zero_le i) h0
  exact mz_okAt_out (M := (5, 1, (0, 0, 0), mzc_185)) (Nat.le_trans (show mzc_185.length ≤ 52 by decide +kernel) h0)
theorem mz_oka_186 : mz_okQ (12, 1, (0, 0, 0), mzc_186) mzt_186 := by
  refine ⟨fun i => ?_, rfl, Or.inr mz_oky_186⟩
  rcases Nat.lt_or_ge i 60 with h0 | h0
  · exact mz_okR_at mz_okr_186_0 (Nat.zero_le i) h0
  rcases Nat.lt_or_ge i 96 with h1 | h1
  · exact mz_okR_at mz_okr_186_1 h0 h1
  exact mz_okAt_out (M := (12, 1, (0, 0, 0), mzc_186)) (Nat.le_trans (show mzc_186.length ≤ 96 by decide +kernel) h1)
theorem mz_oka_187 : mz_okQ (4, 0, (0, 0, 0), mzc_187) mzt_187 := by
  refine ⟨fun i => ?_, rfl, Or.inr mz_oky_187⟩
  rcases Nat.lt_or_ge i 14 with h0 | h0
  · exact mz_okR_at mz_okr_187_0 (Nat.zero_le i) h0
  exact mz_okAt_out (M := (4, 0, (0, 0, 0), mzc_187)) (Nat.le_trans (show mzc_187.length ≤ 14 by decide +kernel) h0)
theorem mz_oka_188 : mz_okQ (2, 2, (0, 0, 0), mzc_188) mzt_188 := by
  refine ⟨fun i => ?_, rfl, Or.inr mz_oky_188⟩
  rcases Nat.lt_or_ge i 60 with h0 | h0
  · exact mz_okR_at mz_okr_188_0 (Nat.zero_le i) h0
  rcases Nat.lt_or_ge i 71 with h1 | h1
  · exact mz_okR_at mz_okr_188_1 h0 h1
  exact mz_okAt_out (M := (2, 2, (0, 0, 0), mzc_188)) (Nat.le_trans (show mzc_188.length ≤ 71 by decide +kernel) h1)
theorem mz_oka_189 : mz_okQ (1, 2, (0, 0, 0), mzc_189) mzt_189 := by
  refine ⟨fun i => ?_, rfl, Or.inr mz_oky_189⟩
  rcases Nat.lt_or_ge i 4 with h0 | h0
  · exact mz_okR_at mz_okr_189_0 (Nat.zero_le i) h0
  exact mz_okAt_out (M := (1, 2, (0, 0, 0), mzc_189)) (Nat.le_trans (show mzc_189.length ≤ 4 by decide +kernel) h0)
theorem mz_oka_190 : mz_okQ (3, 2, (0, 0, 0), mzc_190) mzt_190 := by
  refine ⟨fun i => ?_, rfl, Or.inr mz_oky_190⟩
  rcases Nat.lt_or_ge i 60 with h0 | h0
  · exact mz_okR_at mz_okr_190_0 (Nat.zero_le i) h0
  rcases Nat.lt_or_ge i 68 with h1 | h1
  · exact mz_okR_at mz_okr_190_1 h0 h1
  exact mz_okAt_out (M := (3, 2, (0, 0, 0), mzc_190)) (Nat.le_trans (show mzc_190.length ≤ 68 by decide +kernel) h1)
theorem mz_oka_191 : mz_okQ (2, 2, (0, 0, 0), mzc_191) mzt_191 := by
  refine ⟨fun i => ?_, rfl, Or.inr mz_oky_191⟩
  rcases Nat.lt_or_ge i 60 with h0 | h0
  · exact mz_okR_at mz_okr_191_0 (Nat.zero_le i) h0
  rcases Nat.lt_or_ge i 92 with h1 | h1
  · exact mz_okR_at mz_okr_191_1 h0 h1
  exact mz_okAt_out (M := (2, 2, (0, 0, 0), mzc_191)) (Nat.le_trans (show mzc_191.length ≤ 92 by decide +kernel) h1)
theorem mz_oka_192 : mz_okQ (3, 2, (0, 0, 0), mzc_192) mzt_192 := by
  refine ⟨fun i => ?_, rfl, Or.inr mz_oky_192⟩
  rcases Nat.lt_or_ge i 56 with h0 | h0
  · exact mz_okR_at mz_okr_192_0 (Nat.zero_le i) h0
  exact mz_okAt_out (M := (3, 2, (0, 0, 0), mzc_192)) (Nat.le_trans (show mzc_192.length ≤ 56 by decide +kernel) h0)
theorem mz_oka_193 : mz_okQ (6, 2, (0, 0, 0), mzc_193) mzt_193 := by
  refine ⟨fun i => ?_, rfl, Or.inr mz_oky_193⟩
  rcases Nat.lt_or_ge i 60 with h0 | h0
  · exact mz_okR_at mz_okr_193_0 (Nat.zero_le i) h0
  rcases Nat.lt_or_ge i 64 with h1 | h1
  · exact mz_okR_at mz_okr_193_1 h0 h1
  exact mz_okAt_out (M := (6, 2, (0, 0, 0), mzc_193)) (Nat.le_trans (show mzc_193.length ≤ 64 by decide +kernel) h1)
theorem mz_oka_194 : mz_okQ (4, 2, (0, 0, 0), mzc_194) mzt_194 := by
  refine ⟨fun i => ?_, rfl, Or.inr mz_oky_194⟩
  rcases Nat.lt_or_ge i 17 with h0 | h0
  · exact mz_okR_at mz_okr_194_0 (Nat.zero_le i) h0
  exact mz_okAt_out (M := (4, 2, (0, 0, 0), mzc_194)) (Nat.le_trans (show mzc_194.length ≤ 17 by decide +kernel) h0)
theorem mz_oka_195 : mz_okQ (4, 2, (0, 0, 0), mzc_195) mzt_195 := by
  refine ⟨fun i => ?_, rfl, Or.inr mz_oky_195⟩
  rcases Nat.lt_or_ge i 51 with h0 | h0
  · exact mz_okR_at mz_okr_195_0 (Nat.zero_le i) h0
  exact mz_okAt_out (M := (4, 2, (0, 0, 0), mzc_195)) (Nat.le_trans (show mzc_195.length ≤ 51 by decide +kernel) h0)
theorem mz_oka_196 : mz_okQ (5, 2, (0, 0, 0), mzc_196) mzt_196 := by
  refine ⟨fun i => ?_, rfl, Or.inr mz_oky_196⟩
  rcases Nat.lt_or_ge i 35 with h0 | h0
  · exact mz_okR_at mz_okr_196_0 (Nat.zero_le i) h0
  exact mz_okAt_out (M := (5, 2, (0, 0, 0), mzc_196)) (Nat.le_trans (show mzc_196.length ≤ 35 by decide +kernel) h0)
theorem mz_oka_197 : mz_okQ (3, 2, (0, 0, 0), mzc_197) mzt_197 := by
  refine ⟨fun i => ?_, rfl, Or.inr mz_oky_197⟩
  rcases Nat.lt_or_ge i 14 with h0 | h0
  · exact mz_okR_at mz_okr_197_0 (Nat.zero_le i) h0
  exact mz_okAt_out (M := (3, 2, (0, 0, 0), mzc_197)) (Nat.le_trans (show mzc_197.length ≤ 14 by decide +kernel) h0)
theorem mz_oka_198 : mz_okQ (1, 2, (0, 0, 0), mzc_198) mzt_198 := by
  refine ⟨fun i => ?_, rfl, Or.inr mz_oky_198⟩
  rcases Nat.lt_or_ge i 29 with h0 | h0
  · exact mz_okR_at mz_okr_198_0 (Nat.zero_le i) h0
  exact mz_okAt_out (M := (1, 2, (0, 0, 0), mzc_198)) (Nat.le_trans (show mzc_198.length ≤ 29 by decide +kernel) h0)
theorem mz_oka_199 : mz_okQ (4, 2, (0, 0, 0), mzc_199) mzt_199 := by
  refine ⟨fun i => ?_, rfl, Or.inr mz_oky_199⟩
  rcases Nat.lt_or_ge i 26 with h0 | h0
  · exact mz_okR_at mz_okr_199_0 (Nat.zero_le i) h0
  exact mz_okAt_out (M := (4, 2, (0, 0, 0), mzc_199)) (Nat.le_trans (show mzc_199.length ≤ 26 by decide +kernel) h0)
theorem mz_oka_200 : mz_okQ (3, 2, (0, 0, 0), mzc_200) mzt_200 := by
  refine ⟨fun i => ?_, rfl, Or.inr mz_oky_200⟩
  rcases Nat.lt_or_ge i 18 with h0 | h0
  · exact mz_okR_at mz_okr_200_0 (Nat.zero_le i) h0
  exact mz_okAt_out (M := (3, 2, (0, 0, 0), mzc_200)) (Nat.le_trans (show mzc_200.length ≤ 18 by decide +kernel) h0)
theorem mz_oka_201 : mz_okQ (2, 2, (0, 0, 0), mzc_201) mzt_201 := by
  refine ⟨fun i => ?_, rfl, Or.inr mz_oky_201⟩
  rcases Nat.lt_or_ge i 46 with h0 | h0
  · exact mz_okR_at mz_okr_201_0 (Nat.zero_le i) h0
  exact mz_okAt_out (M := (2, 2, (0, 0, 0), mzc_201)) (Nat.le_trans (show mzc_201.length ≤ 46 by decide +kernel) h0)
theorem mz_oka_202 : mz_okQ (6, 2, (0, 0, 0), mzc_202) mzt_202 := by
  refine ⟨fun i => ?_, rfl, Or.inr mz_oky_202⟩
  rcases Nat.lt_or_ge i 54 with h0 | h0
  · exact mz_okR_at mz_okr_202_0 (Nat.zero_le i) h0
  exact mz_okAt_out (M := (6, 2, (0, 0, 0), mzc_202)) (Nat.le_trans (show mzc_202.length ≤ 54 by decide +kernel) h0)
theorem mz_oka_203 : mz_okQ (6, 2, (0, 0, 0), mzc_203) mzt_203 := by
  refine ⟨fun i => ?_, rfl, Or.inr mz_oky_203⟩
  rcases Nat.lt_or_ge i 56 with h0 | h0
  · exact mz_okR_at mz_okr_203_0 (Nat.zero_le i) h0
  exact mz_okAt_out (M := (6, 2, (0, 0, 0), mzc_203)) (Nat.le_trans (show mzc_203.length ≤ 56 by decide +kernel) h0)
theorem mz_oka_204 : mz_okQ (6, 2, (0, 0, 0), mzc_204) mzt_204 := by
  refine ⟨fun i => ?_, rfl, Or.inr mz_oky_204⟩
  rcases Nat.lt_or_ge i 51 with h0 | h0
  · exact mz_okR_at mz_okr_204_0 (Nat.zero_le i) h0
  exact mz_okAt_out (M := (6, 2, (0, 0, 0), mzc_204)) (Nat.le_trans (show mzc_204.length ≤ 51 by decide +kernel) h0)
theorem mz_oka_205 : mz_okQ (6, 2, (0, 0, 0), mzc_205) mzt_205 := by
  refine ⟨fun i => ?_, rfl, Or.inr mz_oky_205⟩
  rcases Nat.lt_or_ge i 56 with h0 | h0
  · exact mz_okR_at mz_okr_205_0 (Nat.zero_le i) h0
  exact mz_okAt_out (M := (6, 2, (0, 0, 0), mzc_205)) (Nat.le_trans (show mzc_205.length ≤ 56 by decide +kernel) h0)
theorem mz_oka_206 : mz_okQ (5, 2, (0, 0, 0), mzc_206) mzt_206 := by
  refine ⟨fun i => ?_, rfl, Or.inr mz_oky_206⟩
  rcases Nat.lt_or_ge i 60 with h0 | h0
  · exact mz_okR_at mz_okr_206_0 (Nat.zero_le i) h0
  rcases Nat.lt_or_ge i 61 with h1 | h1
  · exact mz_okR_at mz_okr_206_1 h0 h1
  exact mz_okAt_out (M := (5, 2, (0, 0, 0), mzc_206)) (Nat.le_trans (show mzc_206.length ≤ 61 by decide +kernel) h1)
theorem mz_oka_207 : mz_okQ (4, 2, (0, 0, 0), mzc_207) mzt_207 := by
  refine ⟨fun i => ?_, rfl, Or.inr mz_oky_207⟩
  rcases Nat.lt_or_ge i 22 with h0 | h0
  · exact mz_okR_at mz_okr_207_0 (Nat.zero_le i) h0
  exact mz_okAt_out (M := (4, 2, (0, 0, 0), mzc_207)) (Nat.le_trans (show mzc_207.length ≤ 22 by decide +kernel) h0)
theorem mz_oka_208 : mz_okQ (4, 2, (0, 0, 0), mzc_208) mzt_208 := by
  refine ⟨fun i => ?_, rfl, Or.inr mz_oky_208⟩
  rcases Nat.lt_or_ge i 21 with h0 | h0
  · exact mz_okR_at mz_okr_208_0 (Nat.zero_le i) h0
  exact mz_okAt_out (M := (4, 2, (0, 0, 0), mzc_208)) (Nat.le_trans (show mzc_208.length ≤ 21 by decide +kernel) h0)
theorem mz_oka_209 : mz_okQ (4, 2, (0, 0, 0), mzc_209) mzt_209 := by
  refine ⟨fun i => ?_, rfl, Or.inr mz_oky_209⟩
  rcases Nat.lt_or_ge i 31 with h0 | h0
  · exact mz_okR_at mz_okr_209_0 (Nat.zero_le i) h0
  exact mz_okAt_out (M := (4, 2, (0, 0, 0), mzc_209)) (Nat.le_trans (show mzc_209.length ≤ 31 by decide +kernel) h0)
theorem mz_oka_210 : mz_okQ (4, 2, (0, 0, 0), mzc_210) mzt_210 := by
  refine ⟨fun i => ?_, rfl, Or.inr mz_oky_210⟩
  rcases Nat.lt_or_ge i 31 with h0 | h0
  · exact mz_okR_at mz_okr_210_0 (Nat.zero_le i) h0
  exact mz_okAt_out (M := (4, 2, (0, 0, 0), mzc_210)) (Nat.le_trans (show mzc_210.length ≤ 31 by decide +kernel) h0)
theorem mz_oka_211 : mz_okQ (3, 2, (0, 0, 0), mzc_211) mzt_211 := by
  refine ⟨fun i => ?_, rfl, Or.inr mz_oky_211⟩
  rcases Nat.lt_or_ge i 60 with h0 | h0
  · exact mz_okR_at mz_okr_211_0 (Nat.zero_le i) h0
  rcases Nat.lt_or_ge i 90 with h1 | h1
  · exact mz_okR_at mz_okr_211_1 h0 h1
  exact mz_okAt_out (M := (3, 2, (0, 0, 0), mzc_211)) (Nat.le_trans (show mzc_211.length ≤ 90 by decide +kernel) h1)
theorem mz_oka_212 : mz_okQ (2, 3, (0, 0, 0), mzc_212) mzt_212 := by
  refine ⟨fun i => ?_, rfl, Or.inr mz_oky_212⟩
  rcases Nat.lt_or_ge i 6 with h0 | h0
  · exact mz_okR_at mz_okr_212_0 (Nat.zero_le i) h0
  exact mz_okAt_out (M := (2, 3, (0, 0, 0), mzc_212)) (Nat.le_trans (show mzc_212.length ≤ 6 by decide +kernel) h0)
theorem mz_oka_213 : mz_okQ (2, 3, (0, 0, 0), mzc_213) mzt_213 := by
  refine ⟨fun i => ?_, rfl, Or.inr mz_oky_213⟩
  rcases Nat.lt_or_ge i 20 with h0 | h0
  · exact mz_okR_at mz_okr_213_0 (Nat.zero_le i) h0
  exact mz_okAt_out (M := (2, 3, (0, 0, 0), mzc_213)) (Nat.le_trans (show mzc_213.length ≤ 20 by decide +kernel) h0)
theorem mz_oka_214 : mz_okQ (1, 4, (0, 0, 0), mzc_214) mzt_214 := by
  refine ⟨fun i => ?_, rfl, Or.inr mz_oky_214⟩
  rcases Nat.lt_or_ge i 60 with h0 | h0
  · exact mz_okR_at mz_okr_214_0 (Nat.zero_le i) h0
  rcases Nat.lt_or_ge i 66 with h1 | h1
  · exact mz_okR_at mz_okr_214_1 h0 h1
  exact mz_okAt_out (M := (1, 4, (0, 0, 0), mzc_214)) (Nat.le_trans (show mzc_214.length ≤ 66 by decide +kernel) h1)
theorem mz_oka_215 : mz_okQ (2, 4, (0, 0, 0), mzc_215) mzt_215 := by
  refine ⟨fun i => ?_, rfl, Or.inr mz_oky_215⟩
  rcases Nat.lt_or_ge i 24 with h0 | h0
  · exact mz_okR_at mz_okr_215_0 (Nat.zero_le i) h0
  exact mz_okAt_out (M := (2, 4, (0, 0, 0), mzc_215)) (Nat.le_trans (show mzc_215.length ≤ 24 by decide +kernel) h0)
theorem mz_oka_216 : mz_okQ (2, 4, (0, 0, 0), mzc_216) mzt_216 := by
  refine ⟨fun i => ?_, rfl, Or.inr mz_oky_216⟩
  rcases Nat.lt_or_ge i 37 with h0 | h0
  · exact mz_okR_at mz_okr_216_0 (Nat.zero_le i) h0
  exact mz_okAt_out (M := (2, 4, (0, 0, 0), mzc_216)) (Nat.le_trans (show mzc_216.length ≤ 37 by decide +kernel) h0)
theorem mz_oka_217 : mz_okQ (6, 4, (0, 0, 0), mzc_217) mzt_217 := by
  refine ⟨fun i => ?_, rfl, Or.inr mz_oky_217⟩
  rcases Nat.lt_or_ge i 21 with h0 | h0
  · exact mz_okR_at mz_okr_217_0 (Nat.zero_le i) h0
  exact mz_okAt_out (M := (6, 4, (0, 0, 0), mzc_217)) (Nat.le_trans (show mzc_217.length ≤ 21 by decide +kernel) h0)
theorem mz_oka_218 : mz_okQ (2, 4, (0, 0, 0), mzc_218) mzt_218 := by
  refine ⟨fun i => ?_, rfl, Or.inr mz_oky_218⟩
  rcases Nat.lt_or_ge i 10 with h0 | h0
  · exact mz_okR_at mz_okr_218_0 (Nat.zero_le i) h0
  exact mz_okAt_out (M := (2, 4, (0, 0, 0), mzc_218)) (Nat.le_trans (show mzc_218.length ≤ 10 by decide +kernel) h0)
theorem mz_oka_219 : mz_okQ (5, 4, (0, 0, 0), mzc_219) mzt_219 := by
  refine ⟨fun i => ?_, rfl, Or.inr mz_oky_219⟩
  rcases Nat.lt_or_ge i 25 with h0 | h0
  · exact mz_okR_at mz_okr_219_0 (Nat.zero_le i) h0
  exact mz_okAt_out (M := (5, 4, (0, 0, 0), mzc_219)) (Nat.le_trans (show mzc_219.length ≤ 25 by decide +kernel) h0)
theorem mz_oka_220 : mz_okQ (1, 4, (0, 0, 0), mzc_220) mzt_220 := by
  refine ⟨fun i => ?_, rfl, Or.inr mz_oky_220⟩
  rcases Nat.lt_or_ge i 22 with h0 | h0
  · exact mz_okR_at mz_okr_220_0 (Nat.zero_le i) h0
  exact mz_okAt_out (M := (1, 4, (0, 0, 0), mzc_220)) (Nat.le_trans (show mzc_220.length ≤ 22 by decide +kernel) h0)
theorem mz_oka_221 : mz_okQ (1, 0, (0, 0, 0), mzc_221) mzt_221 := by
  refine ⟨fun i => ?_, rfl, Or.inr mz_oky_221⟩
  rcases Nat.lt_or_ge i 6 with h0 | h0
  · exact mz_okR_at mz_okr_221_0 (Nat.zero_le i) h0
  exact mz_okAt_out (M := (1, 0, (0, 0, 0), mzc_221)) (Nat.le_trans (show mzc_221.length ≤ 6 by decide +kernel) h0)
theorem mz_oka_222 : mz_okQ (1, 0, (0, 0, 0), mzc_222) mzt_222 := by
  refine ⟨fun i => ?_, rfl, Or.inr mz_oky_222⟩
  rcases Nat.lt_or_ge i 6 with h0 | h0
  · exact mz_okR_at mz_okr_222_0 (Nat.zero_le i) h0
  exact mz_okAt_out (M := (1, 0, (0, 0, 0), mzc_222)) (Nat.le_trans (show mzc_222.length ≤ 6 by decide +kernel) h0)
theorem mz_oka_223 : mz_okQ (3, 5, (0, 0, 0), mzc_223) mzt_223 := by
  refine ⟨fun i => ?_, rfl, Or.inr mz_oky_223⟩
  rcases Nat.lt_or_ge i 56 with h0 | h0
  · exact mz_okR_at mz_okr_223_0 (Nat.zero_le i) h0
  exact mz_okAt_out (M := (3, 5, (0, 0, 0), mzc_223)) (Nat.le_trans (show mzc_223.length ≤ 56 by decide +kernel) h0)
theorem mz_oka_224 : mz_okQ (1, 5, (0, 0, 0), mzc_224) mzt_224 := by
  refine ⟨fun i => ?_, rfl, Or.inr mz_oky_224⟩
  rcases Nat.lt_or_ge i 9 with h0 | h0
  · exact mz_okR_at mz_okr_224_0 (Nat.zero_le i) h0
  exact mz_okAt_out (M := (1, 5, (0, 0, 0), mzc_224)) (Nat.le_trans (show mzc_224.length ≤ 9 by decide +kernel) h0)
theorem mz_oka_225 : mz_okQ (1, 5, (0, 0, 0), mzc_225) mzt_225 := by
  refine ⟨fun i => ?_, rfl, Or.inr mz_oky_225⟩
  rcases Nat.lt_or_ge i 19 with h0 | h0
  · exact mz_okR_at mz_okr_225_0 (Nat.zero_le i) h0
  exact mz_okAt_out (M := (1, 5, (0, 0, 0), mzc_225)) (Nat.le_trans (show mzc_225.length ≤ 19 by decide +kernel) h0)
theorem mz_oka_226 : mz_okQ (1, 5, (0, 0, 0), mzc_226) mzt_226 := by
  refine ⟨fun i => ?_, rfl, Or.inr mz_oky_226⟩
  rcases Nat.lt_or_ge i 32 with h0 | h0
  · exact mz_okR_at mz_okr_226_0 (Nat.zero_le i) h0
  exact mz_okAt_out (M := (1, 5, (0, 0, 0), mzc_226)) (Nat.le_trans (show mzc_226.length ≤ 32 by decide +kernel) h0)
theorem mz_oka_227 : mz_okQ (2, 5, (0, 0, 0), mzc_227) mzt_227 := by
  refine ⟨fun i => ?_, rfl, Or.inr mz_oky_227⟩
  rcases Nat.lt_or_ge i 21 with h0 | h0
  · exact mz_okR_at mz_okr_227_0 (Nat.zero_le i) h0
  exact mz_okAt_out (M := (2, 5, (0, 0, 0), mzc_227)) (Nat.le_trans (show mzc_227.length ≤ 21 by decide +kernel) h0)
theorem mz_oka_228 : mz_okQ (2, 5, (0, 0, 0), mzc_228) mzt_228 := by
  refine ⟨fun i => ?_, rfl, Or.inr mz_oky_228⟩
  rcases Nat.lt_or_ge i 24 with h0 | h0
  · exact mz_okR_at mz_okr_228_0 (Nat.zero_le i) h0
  exact mz_okAt_out (M := (2, 5, (0, 0, 0), mzc_228)) (Nat.le_trans (show mzc_228.length ≤ 24 by decide +kernel) h0)
theorem mz_oka_229 : mz_okQ (3, 6, (0, 0, 0), mzc_229) mzt_229 := by
  refine ⟨fun i => ?_, rfl, Or.inr mz_oky_229⟩
  rcases Nat.lt_or_ge i 23 with h0 | h0
  · exact mz_okR_at mz_okr_229_0 (Nat.zero_le i) h0
  exact mz_okAt_out (M := (3, 6, (0, 0, 0), mzc_229)) (Nat.le_trans (show mzc_229.length ≤ 23 by decide +kernel) h0)
theorem mz_oka_230 : mz_okQ (1, 6, (0, 0, 0), mzc_230) mzt_230 := by
  refine ⟨fun i => ?_, rfl, Or.inr mz_oky_230⟩
  rcases Nat.lt_or_ge i 4 with h0 | h0
  · exact mz_okR_at mz_okr_230_0 (Nat.zero_le i) h0
  exact mz_okAt_out (M := (1, 6, (0, 0, 0), mzc_230)) (Nat.le_trans (show mzc_230.length ≤ 4 by decide +kernel) h0)
theorem mz_oka_231 : mz_okQ (3, 6, (0, 0, 0), mzc_231) mzt_231 := by
  refine ⟨fun i => ?_, rfl, Or.inr mz_oky_231⟩
  rcases Nat.lt_or_ge i 26 with h0 | h0
  · exact mz_okR_at mz_okr_231_0 (Nat.zero_le i) h0
  exact mz_okAt_out (M := (3, 6, (0, 0, 0), mzc_231)) (Nat.le_trans (show mzc_231.length ≤ 26 by decide +kernel) h0)
theorem mz_oka_232 : mz_okQ (5, 6, (0, 0, 0), mzc_232) mzt_232 := by
  refine ⟨fun i => ?_, rfl, Or.inr mz_oky_232⟩
  rcases Nat.lt_or_ge i 60 with h0 | h0
  · exact mz_okR_at mz_okr_232_0 (Nat.zero_le i) h0
  rcases Nat.lt_or_ge i 69 with h1 | h1
  · exact mz_okR_at mz_okr_232_1 h0 h1
  exact mz_okAt_out (M := (5, 6, (0, 0, 0), mzc_232)) (Nat.le_trans (show mzc_232.length ≤ 69 by decide +kernel) h1)
theorem mz_oka_233 : mz_okQ (6, 6, (0, 0, 0), mzc_233) mzt_233 := by
  refine ⟨fun i => ?_, rfl, Or.inr mz_oky_233⟩
  rcases Nat.lt_or_ge i 40 with h0 | h0
  · exact mz_okR_at mz_okr_233_0 (Nat.zero_le i) h0
  exact mz_okAt_out (M := (6, 6, (0, 0, 0), mzc_233)) (Nat.le_trans (show mzc_233.length ≤ 40 by decide +kernel) h0)
theorem mz_oka_234 : mz_okQ (5, 6, (0, 0, 0), mzc_234) mzt_234 := by
  refine ⟨fun i => ?_, rfl, Or.inr mz_oky_234⟩
  rcases Nat.lt_or_ge i 58 with h0 | h0
  · exact mz_okR_at mz_okr_234_0 (Nat.zero_le i) h0
  exact mz_okAt_out (M := (5, 6, (0, 0, 0), mzc_234)) (Nat.le_trans (show mzc_234.length ≤ 58 by decide +kernel) h0)
theorem mz_oka_235 : mz_okQ (5, 6, (0, 0, 0), mzc_235) mzt_235 := by
  refine ⟨fun i => ?_, rfl, Or.inr mz_oky_235⟩
  rcases Nat.lt_or_ge i 46 with h0 | h0
  · exact mz_okR_at mz_okr_235_0 (Nat.zero_le i) h0
  exact mz_okAt_out (M := (5, 6, (0, 0, 0), mzc_235)) (Nat.le_trans (show mzc_235.length ≤ 46 by decide +kernel) h0)
theorem mz_oka_236 : mz_okQ (8, 6, (0, 0, 0), mzc_236) mzt_236 := by
  refine ⟨fun i => ?_, rfl, Or.inr mz_oky_236⟩
  rcases Nat.lt_or_ge i 60 with h0 | h0
  · exact mz_okR_at mz_okr_236_0 (Nat.zero_le i) h0
  rcases Nat.lt_or_ge i 75 with h1 | h1
  · exact mz_okR_at mz_okr_236_1 h0 h1
  exact mz_okAt_out (M := (8, 6, (0, 0, 0), mzc_236)) (Nat.le_trans (show mzc_236.length ≤ 75 by decide +kernel) h1)
theorem mz_oka_237 : mz_okQ (5, 6, (0, 0, 0), mzc_237) mzt_237 := by
  refine ⟨fun i => ?_, rfl, Or.inr mz_oky_237⟩
  rcases Nat.lt_or_ge i 36 with h0 | h0
  · exact mz_okR_at mz_okr_237_0 (Nat.zero_le i) h0
  exact mz_okAt_out (M := (5, 6, (0, 0, 0), mzc_237)) (Nat.le_trans (show mzc_237.length ≤ 36 by decide +kernel) h0)
theorem mz_oka_238 : mz_okQ (6, 6, (0, 0, 0), mzc_238) mzt_238 := by
  refine ⟨fun i => ?_, rfl, Or.inr mz_oky_238⟩
  rcases Nat.lt_or_ge i 60 with h0 | h0
  · exact mz_okR_at mz_okr_238_0 (Nat.zero_le i) h0
  rcases Nat.lt_or_ge i 61 with h1 | h1
  · exact mz_okR_at mz_okr_238_1 h0 h1
  exact mz_okAt_out (M := (6, 6, (0, 0, 0), mzc_238)) (Nat.le_trans (show mzc_238.length ≤ 61 by decide +kernel) h1)
theorem mz_oka_239 : mz_okQ (2, 6, (0, 0, 0), mzc_239) mzt_239 := by
  refine ⟨fun i => ?_, rfl, Or.inr mz_oky_239⟩
  rcases Nat.lt_or_ge i 7 with h0 | h0
  · exact mz_okR_at mz_okr_239_0 (Nat.zero_le i) h0
  exact mz_okAt_out (M := (2, 6, (0, 0, 0), mzc_239)) (Nat.le_trans (show mzc_239.length ≤ 7 by decide +kernel) h0)
theorem mz_oka_240 : mz_okQ (2, 6, (0, 0, 0), mzc_240) mzt_240 := by
  refine ⟨fun i => ?_, rfl, Or.inr mz_oky_240⟩
  rcases Nat.lt_or_ge i 13 with h0 | h0
  · exact mz_okR_at mz_okr_240_0 (Nat.zero_le i) h0
  exact mz_okAt_out (M := (2, 6, (0, 0, 0), mzc_240)) (Nat.le_trans (show mzc_240.length ≤ 13 by decide +kernel) h0)
theorem mz_oka_241 : mz_okQ (6, 6, (0, 0, 0), mzc_241) mzt_241 := by
  refine ⟨fun i => ?_, rfl, Or.inr mz_oky_241⟩
  rcases Nat.lt_or_ge i 31 with h0 | h0
  · exact mz_okR_at mz_okr_241_0 (Nat.zero_le i) h0
  exact mz_okAt_out (M := (6, 6, (0, 0, 0), mzc_241)) (Nat.le_trans (show mzc_241.length ≤ 31 by decide +kernel) h0)
theorem mz_oka_242 : mz_okQ (2, 6, (0, 0, 0), mzc_242) mzt_242 := by
  refine ⟨fun i => ?_, rfl, Or.inr mz_oky_242⟩
  rcases Nat.lt_or_ge i 11 with h0 | h0
  · exact mz_okR_at mz_okr_242_0 (Nat.zero_le i) h0
  exact mz_okAt_out (M := (2, 6, (0, 0, 0), mzc_242)) (Nat.le_trans (show mzc_242.length ≤ 11 by decide +kernel) h0)
theorem mz_oka_243 : mz_okQ (3, 6, (0, 0, 0), mzc_243) mzt_243 := by
  refine ⟨fun i => ?_, rfl, Or.inr mz_oky_243⟩
  rcases Nat.lt_or_ge i 21 with h0 | h0
  · exact mz_okR_at mz_okr_243_0 (Nat.zero_le i) h0
  exact mz_okAt_out (M := (3, 6, (0, 0, 0), mzc_243)) (Nat.le_trans (show mzc_243.length ≤ 21 by decide +kernel) h0)
theorem mz_oka_244 : mz_okQ (3, 6, (0, 0, 0), mzc_244) mzt_244 := by
  refine ⟨fun i => ?_, rfl, Or.inr mz_oky_244⟩
  rcases Nat.lt_or_ge i 19 with h0 | h0
  · exact mz_okR_at mz_okr_244_0 (Nat.zero_le i) h0
  exact mz_okAt_out (M := (3, 6, (0, 0, 0), mzc_244)) (Nat.le_trans (show mzc_244.length ≤ 19 by decide +kernel) h0)
theorem mz_oka_245 : mz_okQ (6, 6, (0, 0, 0), mzc_245) mzt_245 := by
  refine ⟨fun i => ?_, rfl, Or.inr mz_oky_245⟩
  rcases Nat.lt_or_ge i 52 with h0 | h0
  · exact mz_okR_at mz_okr_245_0 (Nat.zero_le i) h0
  exact mz_okAt_out (M := (6, 6, (0, 0, 0), mzc_245)) (Nat.le_trans (show mzc_245.length ≤ 52 by decide +kernel) h0)
theorem mz_oka_246 : mz_okQ (4, 6, (0, 0, 0), mzc_246) mzt_246 := by
  refine ⟨fun i => ?_, rfl, Or.inr mz_oky_246⟩
  rcases Nat.lt_or_ge i 37 with h0 | h0
  · exact mz_okR_at mz_okr_246_0 (Nat.zero_le i) h0
  exact mz_okAt_out (M := (4, 6, (0, 0, 0), mzc_246)) (Nat.le_trans (show mzc_246.length ≤ 37 by decide +kernel) h0)
theorem mz_oka_247 : mz_okQ (4, 6, (0, 0, 0), mzc_247) mzt_247 := by
  refine ⟨fun i => ?_, rfl, Or.inr mz_oky_247⟩
  rcases Nat.lt_or_ge i 22 with h0 | h0
  · exact mz_okR_at mz_okr_247_0 (Nat.zero_le i) h0
  exact mz_okAt_out (M := (4, 6, (0, 0, 0), mzc_247)) (Nat.le_trans (show mzc_247.length ≤ 22 by decide +kernel) h0)
theorem mz_oka_248 : mz_okQ (3, 7, (0, 0, 0), mzc_248) mzt_248 := by
  refine ⟨fun i => ?_, rfl, Or.inr mz_oky_248⟩
  rcases Nat.lt_or_ge i 29 with h0 | h0
  · exact mz_okR_at mz_okr_248_0 (Nat.zero_le i) h0
  exact mz_okAt_out (M := (3, 7, (0, 0, 0), mzc_248)) (Nat.le_trans (show mzc_248.length ≤ 29 by decide +kernel) h0)
theorem mz_oka_249 : mz_okQ (1, 7, (0, 0, 0), mzc_249) mzt_249 := by
  refine ⟨fun i => ?_, rfl, Or.inr mz_oky_249⟩
  rcases Nat.lt_or_ge i 12 with h0 | h0
  · exact mz_okR_at mz_okr_249_0 (Nat.zero_le i) h0
  exact mz_okAt_out (M := (1, 7, (0, 0, 0), mzc_249)) (Nat.le_trans (show mzc_249.length ≤ 12 by decide +kernel) h0)
theorem mz_oka_250 : mz_okQ (6, 7, (0, 0, 0), mzc_250) mzt_250 := by
  refine ⟨fun i => ?_, rfl, Or.inr mz_oky_250⟩
  rcases Nat.lt_or_ge i 25 with h0 | h0
  · exact mz_okR_at mz_okr_250_0 (Nat.zero_le i) h0
  exact mz_okAt_out (M := (6, 7, (0, 0, 0), mzc_250)) (Nat.le_trans (show mzc_250.length ≤ 25 by decide +kernel) h0)
theorem mz_oka_251 : mz_okQ (3, 7, (0, 0, 0), mzc_251) mzt_251 := by
  refine ⟨fun i => ?_, rfl, Or.inr mz_oky_251⟩
  rcases Nat.lt_or_ge i 16 with h0 | h0
  · exact mz_okR_at mz_okr_251_0 (Nat.zero_le i) h0
  exact mz_okAt_out (M := (3, 7, (0, 0, 0), mzc_251)) (Nat.le_trans (show mzc_251.length ≤ 16 by decide +kernel) h0)
theorem mz_oka_252 : mz_okQ (6, 7, (0, 0, 0), mzc_252) mzt_252 := by
  refine ⟨fun i => ?_, rfl, Or.inr mz_oky_252⟩
  rcases Nat.lt_or_ge i 49 with h0 | h0
  · exact mz_okR_at mz_okr_252_0 (Nat.zero_le i) h0
  exact mz_okAt_out (M := (6, 7, (0, 0, 0), mzc_252)) (Nat.le_trans (show mzc_252.length ≤ 49 by decide +kernel) h0)
theorem mz_oka_253 : mz_okQ (6, 7, (0, 0, 0), mzc_253) mzt_253 := by
  refine ⟨fun i => ?_, rfl, Or.inr mz_oky_253⟩
  rcases Nat.lt_or_ge i 52 with h0 | h0
  · exact mz_okR_at mz_okr_253_0 (Nat.zero_le i) h0
  exact mz_okAt_out (M := (6, 7, (0, 0, 0), mzc_253)) (Nat.le_trans (show mzc_253.length ≤ 52 by decide +kernel) h0)
theorem mz_oka_254 : mz_okQ (3, 7, (0, 0, 0), mzc_254) mzt_254 := by
  refine ⟨fun i => ?_, rfl, Or.inr mz_oky_254⟩
  rcases Nat.lt_or_ge i 19 with h0 | h0
  · exact mz_okR_at mz_okr_254_0 (Nat.zero_le i) h0
  exact mz_okAt_out (M := (3, 7, (0, 0, 0), mzc_254)) (Nat.le_trans (show mzc_254.length ≤ 19 by decide +kernel) h0)
theorem mz_oka_255 : mz_okQ (3, 7, (0, 0, 0), mzc_255) mzt_255 := by
  refine ⟨fun i => ?_, rfl, Or.inr mz_oky_255⟩
  rcases Nat.lt_or_ge i 19 with h0 | h0
  · exact mz_okR_at mz_okr_255_0 (Nat.zero_le i) h0
  exact mz_okAt_out (M := (3, 7, (0, 0, 0), mzc_255)) (Nat.le_trans (show mzc_255.length ≤ 19 by decide +kernel) h0)
theorem mz_oka_256 : mz_okQ (5, 7, (0, 0, 0), mzc_256) mzt_256 := by
  refine ⟨fun i => ?_, rfl, Or.inr mz_oky_256⟩
  rcases Nat.lt_or_ge i 27 with h0 | h0
  · exact mz_okR_at mz_okr_256_0 (Nat.zero_le i) h0
  exact mz_okAt_out (M := (5, 7, (0, 0, 0), mzc_256)) (Nat.le_trans (show mzc_256.length ≤ 27 by decide +kernel) h0)
theorem mz_oka_257 : mz_okQ (3, 7, (0, 0, 0), mzc_257) mzt_257 := by
  refine ⟨fun i => ?_, rfl, Or.inr mz_oky_257⟩
  rcases Nat.lt_or_ge i 51 with h0 | h0
  · exact mz_okR_at mz_okr_257_0 (Nat.zero_le i) h0
  exact mz_okAt_out (M := (3, 7, (0, 0, 0), mzc_257)) (Nat.le_trans (show mzc_257.length ≤ 51 by decide +kernel) h0)
theorem mz_oka_258 : mz_okQ (9, 7, (0, 0, 0), mzc_258) mzt_258 := by
  refine ⟨fun i => ?_, rfl, Or.inr mz_oky_258⟩
  rcases Nat.lt_or_ge i 60 with h0 | h0
  · exact mz_okR_at mz_okr_258_0 (Nat.zero_le i) h0
  rcases Nat.lt_or_ge i 80 with h1 | h1
  · exact mz_okR_at mz_okr_258_1 h0 h1
  exact mz_okAt_out (M := (9, 7, (0, 0, 0), mzc_258)) (Nat.le_trans (show mzc_258.length ≤ 80 by decide +kernel) h1)
theorem mz_oka_259 : mz_okQ (2, 8, (0, 0, 0), mzc_259) mzt_259 := by
  refine ⟨fun i => ?_, rfl, Or.inr mz_oky_259⟩
  rcases Nat.lt_or_ge i 14 with h0 | h0
  · exact mz_okR_at mz_okr_259_0 (Nat.zero_le i) h0
  exact mz_okAt_out (M := (2, 8, (0, 0, 0), mzc_259)) (Nat.le_trans (show mzc_259.length ≤ 14 by decide +kernel) h0)
theorem mz_oka_260 : mz_okQ (1, 8, (0, 0, 0), mzc_260) mzt_260 := by
  refine ⟨fun i => ?_, rfl, Or.inr mz_oky_260⟩
  rcases Nat.lt_or_ge i 34 with h0 | h0
  · exact mz_okR_at mz_okr_260_0 (Nat.zero_le i) h0
  exact mz_okAt_out (M := (1, 8, (0, 0, 0), mzc_260)) (Nat.le_trans (show mzc_260.length ≤ 34 by decide +kernel) h0)
theorem mz_oka_261 : mz_okQ (2, 8, (0, 0, 0), mzc_261) mzt_261 := by
  refine ⟨fun i => ?_, rfl, Or.inr mz_oky_261⟩
  rcases Nat.lt_or_ge i 37 with h0 | h0
  · exact mz_okR_at mz_okr_261_0 (Nat.zero_le i) h0
  exact mz_okAt_out (M := (2, 8, (0, 0, 0), mzc_261)) (Nat.le_trans (show mzc_261.length ≤ 37 by decide +kernel) h0)
theorem mz_oka_262 : mz_okQ (6, 8, (0, 0, 0), mzc_262) mzt_262 := by
  refine ⟨fun i => ?_, rfl, Or.inr mz_oky_262⟩
  rcases Nat.lt_or_ge i 60 with h0 | h0
  · exact mz_okR_at mz_okr_262_0 (Nat.zero_le i) h0
  exact mz_okAt_out (M := (6, 8, (0, 0, 0), mzc_262)) (Nat.le_trans (show mzc_262.length ≤ 60 by decide +kernel) h0)
theorem mz_oka_263 : mz_okQ (5, 8, (0, 0, 0), mzc_263) mzt_263 := by
  refine ⟨fun i => ?_, rfl, Or.inr mz_oky_263⟩
  rcases Nat.lt_or_ge i 55 with h0 | h0
  · exact mz_okR_at mz_okr_263_0 (Nat.zero_le i) h0
  exact mz_okAt_out (M := (5, 8, (0, 0, 0), mzc_263)) (Nat.le_trans (show mzc_263.length ≤ 55 by decide +kernel) h0)
theorem mz_oka_264 : mz_okQ (1, 0, (0, 0, 0), mzc_264) mzt_264 := by
  refine ⟨fun i => ?_, rfl, Or.inr mz_oky_264⟩
  rcases Nat.lt_or_ge i 12 with h0 | h0
  · exact mz_okR_at mz_okr_264_0 (Nat.zero_le i) h0
  exact mz_okAt_out (M := (1, 0, (0, 0, 0), mzc_264)) (Nat.le_trans (show mzc_264.length ≤ 12 by decide +kernel) h0)
theorem mz_oka_265 : mz_okQ (5, 8, (0, 0, 0), mzc_265) mzt_265 := by
  refine ⟨fun i => ?_, rfl, Or.inr mz_oky_265⟩
  rcases Nat.lt_or_ge i 60 with h0 | h0
  · exact mz_okR_at mz_okr_265_0 (Nat.zero_le i) h0
  rcases Nat.lt_or_ge i 66 with h1 | h1
  · exact mz_okR_at mz_okr_265_1 h0 h1
  exact mz_okAt_out (M := (5, 8, (0, 0, 0), mzc_265)) (Nat.le_trans (show mzc_265.length ≤ 66 by decide +kernel) h1)
theorem mz_oka_266 : mz_okQ (1, 8, (0, 0, 0), mzc_266) mzt_266 := by
  refine ⟨fun i => ?_, rfl, Or.inr mz_oky_266⟩
  rcases Nat.lt_or_ge i 26 with h0 | h0
  · exact mz_okR_at mz_okr_266_0 (Nat.zero_le i) h0
  exact mz_okAt_out (M := (1, 8, (0, 0, 0), mzc_266)) (Nat.le_trans (show mzc_266.length ≤ 26 by decide +kernel) h0)
theorem mz_oka_267 : mz_okQ (2, 8, (0, 0, 0), mzc_267) mzt_267 := by
  refine ⟨fun i => ?_, rfl, Or.inr mz_oky_267⟩
  rcases Nat.lt_or_ge i 54 with h0 | h0
  · exact mz_okR_at mz_okr_267_0 (Nat.zero_le i) h0
  exact mz_okAt_out (M := (2, 8, (0, 0, 0), mzc_267)) (Nat.le_trans (show mzc_267.length ≤ 54 by decide +kernel) h0)
theorem mz_oka_268 : mz_okQ (7, 8, (0, 0, 0), mzc_268) mzt_268 := by
  refine ⟨fun i => ?_, rfl, Or.inr mz_oky_268⟩
  rcases Nat.lt_or_ge i 55 with h0 | h0
  · exact mz_okR_at mz_okr_268_0 (Nat.zero_le i) h0
  exact mz_okAt_out (M := (7, 8, (0, 0, 0), mzc_268)) (Nat.le_trans (show mzc_268.length ≤ 55 by decide +kernel) h0)
theorem mz_oka_269 : mz_okQ (2, 8, (0, 0, 0), mzc_269) mzt_269 := by
  refine ⟨fun i => ?_, rfl, Or.inr mz_oky_269⟩
  rcases Nat.lt_or_ge i 24 with h0 | h0
  · exact mz_okR_at mz_okr_269_0 (Nat.zero_le i) h0
  exact mz_okAt_out (M := (2, 8, (0, 0, 0), mzc_269)) (Nat.le_trans (show mzc_269.length ≤ 24 by decide +kernel) h0)
theorem mz_oka_270 : mz_okQ (1, 8, (0, 0, 0), mzc_270) mzt_270 := by
  refine ⟨fun i => ?_, rfl, Or.inr mz_oky_270⟩
  rcases Nat.lt_or_ge i 55 with h0 | h0
  · exact mz_okR_at mz_okr_270_0 (Nat.zero_le i) h0
  exact mz_okAt_out (M := (1, 8, (0, 0, 0), mzc_270)) (Nat.le_trans (show mzc_270.length ≤ 55 by decide +kernel) h0)
theorem mz_oka_271 : mz_okQ (1, 0, (0, 0, 0), mzc_271) mzt_271 := by
  refine ⟨fun i => ?_, rfl, Or.inr mz_oky_271⟩
  rcases Nat.lt_or_ge i 12 with h0 | h0
  · exact mz_okR_at mz_okr_271_0 (Nat.zero_le i) h0
  exact mz_okAt_out (M := (1, 0, (0, 0, 0), mzc_271)) (Nat.le_trans (show mzc_271.length ≤ 12 by decide +kernel) h0)
theorem mz_oka_272 : mz_okQ (1, 9, (0, 0, 0), mzc_272) mzt_272 := by
  refine ⟨fun i => ?_, rfl, Or.inr mz_oky_272⟩
  rcases Nat.lt_or_ge i 10 with h0 | h0
  · exact mz_okR_at mz_okr_272_0 (Nat.zero_le i) h0
  exact mz_okAt_out (M := (1, 9, (0, 0, 0), mzc_272)) (Nat.le_trans (show mzc_272.length ≤ 10 by decide +kernel) h0)
theorem mz_oka_273 : mz_okQ (1, 9, (0, 0, 0), mzc_273) mzt_273 := by
  refine ⟨fun i => ?_, rfl, Or.inr mz_oky_273⟩
  rcases Nat.lt_or_ge i 4 with h0 | h0
  · exact mz_okR_at mz_okr_273_0 (Nat.zero_le i) h0
  exact mz_okAt_out (M := (1, 9, (0, 0, 0), mzc_273)) (Nat.le_trans (show mzc_273.length ≤ 4 by decide +kernel) h0)
theorem mz_oka_274 : mz_okQ (3, 9, (0, 0, 0), mzc_274) mzt_274 := by
  refine ⟨fun i => ?_, rfl, Or.inr mz_oky_274⟩
  rcases Nat.lt_or_ge i 19 with h0 | h0
  · exact mz_okR_at mz_okr_274_0 (Nat.zero_le i) h0
  exact mz_okAt_out (M := (3, 9, (0, 0, 0), mzc_274)) (Nat.le_trans (show mzc_274.length ≤ 19 by decide +kernel) h0)
theorem mz_oka_275 : mz_okQ (1, 10, (0, 0, 0), mzc_275) mzt_275 := by
  refine ⟨fun i => ?_, rfl, Or.inr mz_oky_275⟩
  rcases Nat.lt_or_ge i 13 with h0 | h0
  · exact mz_okR_at mz_okr_275_0 (Nat.zero_le i) h0
  exact mz_okAt_out (M := (1, 10, (0, 0, 0), mzc_275)) (Nat.le_trans (show mzc_275.length ≤ 13 by decide +kernel) h0)
theorem mz_oka_276 : mz_okQ (2, 10, (0, 0, 0), mzc_276) mzt_276 := by
  refine ⟨fun i => ?_, rfl, Or.inr mz_oky_276⟩
  rcases Nat.lt_or_ge i 17 with h0 | h0
  · exact mz_okR_at mz_okr_276_0 (Nat.zero_le i) h0
  exact mz_okAt_out (M := (2, 10, (0, 0, 0), mzc_276)) (Nat.le_trans (show mzc_276.length ≤ 17 by decide +kernel) h0)
theorem mz_oka_277 : mz_okQ (2, 10, (0, 0, 0), mzc_277) mzt_277 := by
  refine ⟨fun i => ?_, rfl, Or.inr mz_oky_277⟩
  rcases Nat.lt_or_ge i 13 with h0 | h0
  · exact mz_okR_at mz_okr_277_0 (Nat.zero_le i) h0
  exact mz_okAt_out (M := (2, 10, (0, 0, 0), mzc_277)) (Nat.le_trans (show mzc_277.length ≤ 13 by decide +kernel) h0)
theorem mz_oka_278 : mz_okQ (1, 10, (0, 0, 0), mzc_278) mzt_278 := by
  refine ⟨fun i => ?_, rfl, Or.inr mz_oky_278⟩
  rcases Nat.lt_or_ge i 5 with h0 | h0
  · exact mz_okR_at mz_okr_278_0 (Nat.zero_le i) h0
  exact mz_okAt_out (M := (1, 10, (0, 0, 0), mzc_278)) (Nat.le_trans (show mzc_278.length ≤ 5 by decide +kernel) h0)
theorem mz_oka_279 : mz_okQ (1, 10, (0, 0, 0), mzc_279) mzt_279 := by
  refine ⟨fun i => ?_, rfl, Or.inr mz_oky_279⟩
  rcases Nat.lt_or_ge i 9 with h0 | h0
  · exact mz_okR_at mz_okr_279_0 (Nat.zero_le i) h0
  exact mz_okAt_out (M := (1, 10, (0, 0, 0), mzc_279)) (Nat.le_trans (show mzc_279.length ≤ 9 by decide +kernel) h0)
theorem mz_oka_280 : mz_okQ (2, 10, (0, 0, 0), mzc_280) mzt_280 := by
  refine ⟨fun i => ?_, rfl, Or.inr mz_oky_280⟩
  rcases Nat.lt_or_ge i 22 with h0 | h0
  · exact mz_okR_at mz_okr_280_0 (Nat.zero_le i) h0
  exact mz_okAt_out (M := (2, 10, (0, 0, 0), mzc_280)) (Nat.le_trans (show mzc_280.length ≤ 22 by decide +kernel) h0)
theorem mz_oka_281 : mz_okQ (1, 10, (0, 0, 0), mzc_281) mzt_281 := by
  refine ⟨fun i => ?_, rfl, Or.inr mz_oky_281⟩
  rcases Nat.lt_or_ge i 29 with h0 | h0
  · exact mz_okR_at mz_okr_281_0 (Nat.zero_le i) h0
  exact mz_okAt_out (M := (1, 10, (0, 0, 0), mzc_281)) (Nat.le_trans (show mzc_281.length ≤ 29 by decide +kernel) h0)
theorem mz_oka_282 : mz_okQ (1, 10, (0, 0, 0), mzc_282) mzt_282 := by
  refine ⟨fun i => ?_, rfl, Or.inr mz_oky_282⟩
  rcases Nat.lt_or_ge i 12 with h0 | h0
  · exact mz_okR_at mz_okr_282_0 (Nat.zero_le i) h0
  exact mz_okAt_out (M := (1, 10, (0, 0, 0), mzc_282)) (Nat.le_trans (show mzc_282.length ≤ 12 by decide +kernel) h0)
theorem mz_oka_283 : mz_okQ (3, 10, (0, 0, 0), mzc_283) mzt_283 := by
  refine ⟨fun i => ?_, rfl, Or.inr mz_oky_283⟩
  rcases Nat.lt_or_ge i 16 with h0 | h0
  · exact mz_okR_at mz_okr_283_0 (Nat.zero_le i) h0
  exact mz_okAt_out (M := (3, 10, (0, 0, 0), mzc_283)) (Nat.le_trans (show mzc_283.length ≤ 16 by decide +kernel) h0)
theorem mz_oka_284 : mz_okQ (1, 10, (0, 0, 0), mzc_284) mzt_284 := by
  refine ⟨fun i => ?_, rfl, Or.inr mz_oky_284⟩
  rcases Nat.lt_or_ge i 5 with h0 | h0
  · exact mz_okR_at mz_okr_284_0 (Nat.zero_le i) h0
  exact mz_okAt_out (M := (1, 10, (0, 0, 0), mzc_284)) (Nat.le_trans (show mzc_284.length ≤ 5 by decide +kernel) h0)
theorem mz_oka_285 : mz_okQ (1, 0, (0, 0, 0), mzc_285) mzt_285 := by
  refine ⟨fun i => ?_, rfl, Or.inr mz_oky_285⟩
  rcases Nat.lt_or_ge i 42 with h0 | h0
  · exact mz_okR_at mz_okr_285_0 (Nat.zero_le i) h0
  exact mz_okAt_out (M := (1, 0, (0, 0, 0), mzc_285)) (Nat.le_trans (show mzc_285.length ≤ 42 by decide +kernel) h0)
theorem mz_oka_286 : mz_okQ (3, 0, (0, 0, 0), mzc_286) mzt_286 := by
  refine ⟨fun i => ?_, rfl, Or.inr mz_oky_286⟩
  rcases Nat.lt_or_ge i 19 with h0 | h0
  · exact mz_okR_at mz_okr_286_0 (Nat.zero_le i) h0
  exact mz_okAt_out (M := (3, 0, (0, 0, 0), mzc_286)) (Nat.le_trans (show mzc_286.length ≤ 19 by decide +kernel) h0)
theorem mz_oka_287 : mz_okQ (3, 0, (0, 0, 0), mzc_287) mzt_287 := by
  refine ⟨fun i => ?_, rfl, Or.inr mz_oky_287⟩
  rcases Nat.lt_or_ge i 16 with h0 | h0
  · exact mz_okR_at mz_okr_287_0 (Nat.zero_le i) h0
  exact mz_okAt_out (M := (3, 0, (0, 0, 0), mzc_287)) (Nat.le_trans (show mzc_287.length ≤ 16 by decide +kernel) h0)
theorem mz_oka_288 : mz_okQ (2, 0, (0, 0, 0), mzc_288) mzt_288 := by
  refine ⟨fun i => ?_, rfl, Or.inr mz_oky_288⟩
  rcases Nat.lt_or_ge i 7 with h0 | h0
  · exact mz_okR_at mz_okr_288_0 (Nat.zero_le i) h0
  exact mz_okAt_out (M := (2, 0, (0, 0, 0), mzc_288)) (Nat.le_trans (show mzc_288.length ≤ 7 by decide +kernel) h0)
theorem mz_oka_289 : mz_okQ (2, 0, (0, 0, 0), mzc_289) mzt_289 := by
  refine ⟨fun i => ?_, rfl, Or.inr mz_oky_289⟩
  rcases Nat.lt_or_ge i 7 with h0 | h0
  · exact mz_okR_at mz_okr_289_0 (Nat.zero_le i) h0
  exact mz_okAt_out (M := (2, 0, (0, 0, 0), mzc_289)) (Nat.le_trans (show mzc_289.length ≤ 7 by decide +kernel) h0)
theorem mz_oka_290 : mz_okQ (4, 0, (0, 0, 0), mzc_290) mzt_290 := by
  refine ⟨fun i => ?_, rfl, Or.inr mz_oky_290⟩
  rcases Nat.lt_or_ge i 15 with h0 | h0
  · exact mz_okR_at mz_okr_290_0 (Nat.zero_le i) h0
  exact mz_okAt_out (M := (4, 0, (0, 0, 0), mzc_290)) (Nat.le_trans (show mzc_290.length ≤ 15 by decide +kernel) h0)
theorem mz_oka_291 : mz_okQ (5, 0, (0, 0, 0), mzc_291) mzt_291 := by
  refine ⟨fun i => ?_, rfl, Or.inr mz_oky_291⟩
  rcases Nat.lt_or_ge i 15 with h0 | h0
  · exact mz_okR_at mz_okr_291_0 (Nat.zero_le i) h0
  exact mz_okAt_out (M := (5, 0, (0, 0, 0), mzc_291)) (Nat.le_trans (show mzc_291.length ≤ 15 by decide +kernel) h0)
theorem mz_okg_0 : mz_F2 mz_okQ mzP_0 mzQ_0 := ⟨mz_oka_0, mz_oka_1, mz_oka_2, mz_oka_3, mz_oka_4, mz_oka_5, mz_oka_6, mz_oka_7, mz_oka_8, mz_oka_9, mz_oka_10, mz_oka_11, mz_oka_12, mz_oka_13, mz_oka_14, mz_oka_15, mz_oka_16, mz_oka_17, mz_oka_18, mz_oka_19, mz_oka_20, mz_oka_21, mz_oka_22, mz_oka_23, mz_oka_24, mz_oka_25, mz_oka_26, mz_oka_27, mz_oka_28, mz_oka_29, mz_oka_30, mz_oka_31, mz_oka_32, mz_oka_33, mz_oka_34, mz_oka_35, mz_oka_36, mz_oka_37, mz_oka_38, mz_oka_39, mz_oka_40, mz_oka_41, mz_oka_42, mz_oka_43, mz_oka_44, mz_oka_45, mz_oka_46, mz_oka_47, mz_oka_48, mz_oka_49, trivial⟩
theorem mz_okg_1 : mz_F2 mz_okQ mzP_1 mzQ_1 := ⟨mz_oka_50, mz_oka_51, mz_oka_52, mz_oka_53, mz_oka_54, mz_oka_55, mz_oka_56, mz_oka_57, mz_oka_58, mz_oka_59, mz_oka_60, mz_oka_61, mz_oka_62, mz_oka_63, mz_oka_64, mz_oka_65, mz_oka_66, mz_oka_67, mz_oka_68, mz_oka_69, mz_oka_70, mz_oka_71, mz_oka_72, mz_oka_73, mz_oka_74, mz_oka_75, mz_oka_76, mz_oka_77, mz_oka_78, mz_oka_79, mz_oka_80, mz_oka_81, mz_oka_82, mz_oka_83, mz_oka_84, mz_oka_85, mz_oka_86, mz_oka_87, mz_oka_88, mz_oka_89, mz_oka_90, mz_oka_91, mz_oka_92, mz_oka_93, mz_oka_94, mz_oka_95, mz_oka_96, mz_oka_97, mz_oka_98, mz_oka_99, trivial⟩
theorem mz_okg_2 : mz_F2 mz_okQ mzP_2 mzQ_2 := ⟨mz_oka_100, mz_oka_101, mz_oka_102, mz_oka_103, mz_oka_104, mz_oka_105, mz_oka_106, mz_oka_107, mz_oka_108, mz_oka_109, mz_oka_110, mz_oka_111, mz_oka_112, mz_oka_113, mz_oka_114, mz_oka_115, mz_oka_116, mz_oka_117, mz_oka_118, mz_oka_119, mz_oka_120, mz_oka_121, mz_oka_122, mz_oka_123, mz_oka_124, mz_oka_125, mz_oka_126, mz_oka_127, mz_oka_128, mz_oka_129, mz_oka_130, mz_oka_131, mz_oka_132, mz_oka_133, mz_oka_134, mz_oka_135, mz_oka_136, mz_oka_137, mz_oka_138, mz_oka_139, mz_oka_140, mz_oka_141, mz_oka_142, mz_oka_143, mz_oka_144, mz_oka_145, mz_oka_146, mz_oka_147, mz_oka_148, mz_oka_149, trivial⟩
theorem mz_okg_3 : mz_F2 mz_okQ mzP_3 mzQ_3 := ⟨mz_oka_150, mz_oka_151, mz_oka_152, mz_oka_153, mz_oka_154, mz_oka_155, mz_oka_156, mz_oka_157, mz_oka_158, mz_oka_159, mz_oka_160, mz_oka_161, mz_oka_162, mz_oka_163, mz_oka_164, mz_oka_165, mz_oka_166, mz_oka_167, mz_oka_168, mz_oka_169, mz_oka_170, mz_oka_171, mz_oka_172, mz_oka_173, mz_oka_174, mz_oka_175, mz_oka_176, mz_oka_177, mz_oka_178, mz_oka_179, mz_oka_180, mz_oka_181, mz_oka_182, mz_oka_183, mz_oka_184, mz_oka_185, mz_oka_186, mz_oka_187, mz_oka_188, mz_oka_189, mz_oka_190, mz_oka_191, mz_oka_192, mz_oka_193, mz_oka_194, mz_oka_195, mz_oka_196, mz_oka_197, mz_oka_198, mz_oka_199, trivial⟩
theorem mz_okg_4 : mz_F2 mz_okQ mzP_4 mzQ_4 := ⟨mz_oka_200, mz_oka_201, mz_oka_202, mz_oka_203, mz_oka_204, mz_oka_205, mz_oka_206, mz_oka_207, mz_oka_208, mz_oka_209, mz_oka_210, mz_oka_211, mz_oka_212, mz_oka_213, mz_oka_214, mz_oka_215, mz_oka_216, mz_oka_217, mz_oka_218, mz_oka_219, mz_oka_220, mz_oka_221, mz_oka_222, mz_oka_223, mz_oka_224, mz_oka_225, mz_oka_226, mz_oka_227, mz_oka_228, mz_oka_229, mz_oka_230, mz_oka_231, mz_oka_232, mz_oka_233, mz_oka_234, mz_oka_235, mz_oka_236, mz_oka_237, mz_oka_238, mz_oka_239, mz_oka_240, mz_oka_241, mz_oka_242, mz_oka_243, mz_oka_244, mz_oka_245, mz_oka_246, mz_oka_247, mz_oka_248, mz_oka_249, trivial⟩
theorem mz_okg_5 : mz_F2 mz_okQ mzP_5 mzQ_5 := ⟨mz_oka_250, mz_oka_251, mz_oka_252, mz_oka_253, mz_oka_254, mz_oka_255, mz_oka_256, mz_oka_257, mz_oka_258, mz_oka_259, mz_oka_260, mz_oka_261, mz_oka_262, mz_oka_263, mz_oka_264, mz_oka_265, mz_oka_266, mz_oka_267, mz_oka_268, mz_oka_269, mz_oka_270, mz_oka_271, mz_oka_272, mz_oka_273, mz_oka_274, mz_oka_275, mz_oka_276, mz_oka_277, mz_oka_278, mz_oka_279, mz_oka_280, mz_oka_281, mz_oka_282, mz_oka_283, mz_oka_284, mz_oka_285, mz_oka_286, mz_oka_287, mz_oka_288, mz_oka_289, mz_oka_290, mz_oka_291, trivial⟩
theorem mz_okall : mz_F2 mz_okQ mzP mzQ := mz_F2.app (mz_F2.app (mz_F2.app (mz_F2.app (mz_F2.app (mz_okg_5) mz_okg_4) mz_okg_3) mz_okg_2) mz_okg_1) mz_okg_0
set_option maxRecDepth 100000 in
theorem mz_nolaw : mzP.all (fun M => M.2.2.2.all (fun ri => !(ri.1 == 40) || decide (0 < ri.2.1))) = true := by decide +kernel
theorem mz_nolaw_at {j i : Nat} {M : mzM} {ri : mzI} (hM : mzP[j]? = some M) (hr : M.2.2.2[i]? = some ri) (h : ri.1 = 40) : 0 < ri.2.1 := by
  have h1 := List.all_eq_true.mp (List.all_eq_true.mp mz_nolaw M (List.mem_of_getElem? hM)) ri (List.mem_of_getElem? hr)
  rw [h] at h1
  simpa using h1
set_option maxRecDepth 100000 in
theorem mz_only0 : (mzP.drop 1).all (fun M => !(M.2.2.2.length == 682)) = true := by decide +kernel
theorem mz_okY_at {j : Nat} {M : mzM} {t : mzT} (hj : 0 < j) (hM : mzP[j]? = some M) (h : mz_okQ M t) : mz_okY M t = true := by
  rcases h.2.2 with ⟨-, h1⟩ | h1
  · exfalso
    have h2 := List.all_eq_true.mp mz_only0 M (List.mem_of_getElem? (i := j - 1) (by rw [List.getElem?_drop]; rw [show 1 + (j - 1) = j by omega]; exact hM))
    rw [h1] at h2
    cases h2
  · exact h1
end
section
/-! calls: what is the same for every method -/
theorem mz_heap_mono {X : List (List Value)} {ri : mzI} {st : List Value} {σ : mzS} {r : List Value × mzS} (h : mz_heap X ri st σ = some r) : σ.2.1 ≤ r.2.2.1 ∧ σ.2.2 ≤ r.2.2.2 := by
  unfold mz_heap at h
  split at h
  · unfold mz_h20 at h
    split at h
    · split at h
      · split at h
        · split at h
          · cases h; exact ⟨Nat.le_refl _, Nat.le_refl _⟩
          · cases h
        · cases h
      · cases h
    · cases h
  · unfold mz_h21 at h
    split at h
    · split at h
      · split at h
        · cases h; exact ⟨Nat.le_refl _, Nat.le_refl _⟩
        · cases h
      · cases h
    · cases h
  · unfold mz_h22 at h
    split at h
    · split at h
      · split at h
        · split at h
          · split at h
            · cases h; exact ⟨Nat.le_refl _, Nat.le_refl _⟩
            · cases h
          · cases h
        · cases h
      · split at h
        · split at h
          · split at h
            · cases h; exact ⟨Nat.le_refl _, Nat.le_refl _⟩
            · cases h
          · cases h
        · cases h
    · cases h
  · unfold mz_h23 at h
    split at h
    · split at h
      · split at h
        · split at h
          · cases h; exact ⟨Nat.le_refl _, Nat.le_refl _⟩
          · cases h
        · cases h
      · cases h
    · cases h
  · unfold mz_h24 at h
    split at h
    · split at h
      · split at h
        · cases h; exact ⟨Nat.le_refl _, Nat.le_refl _⟩
        · cases h
      · split at h
        · split at h
          · cases h; exact ⟨Nat.le_refl _, Nat.le_refl _⟩
          · cases h
        · cases h
    · cases h
  · unfold mz_h25 at h
    split at h
    · cases h; exact ⟨Nat.le_add_right _ _, Nat.le_add_right _ _⟩
    · cases h
  · unfold mz_h26 at h
    split at h
    · split at h
      · cases h
      · cases h; exact ⟨Nat.le_add_right _ _, Nat.le_add_right _ _⟩
    · cases h
  · unfold mz_h27 at h
    split at h
    · split at h
      · cases h
      · cases h; exact ⟨Nat.le_add_right _ _, Nat.le_add_right _ _⟩
    · cases h
  · split at h
    · cases h; exact ⟨Nat.le_refl _, Nat.le_refl _⟩
    · cases h
  · unfold mz_h29 at h
    split at h
    · split at h
      · cases h; exact ⟨Nat.le_refl _, Nat.le_refl _⟩
      · cases h
    · cases h
  · unfold mz_h30 at h
    split at h
    · split at h
      · split at h
        · cases h; exact ⟨Nat.le_refl _, Nat.le_refl _⟩
        · cases h
      · cases h
    · cases h
  · cases h
/-- the last instruction of a frame -/
def mz_fin (ri : mzI) (st : List Value) (s : mzS) : Option (Option (Option Value) × mzS) :=
  if ri.1 = 41 then (if st = [] then some (some none, s) else none)
  else if ri.1 = 42 then match st with
    | [v] => if mz_ty v = ri.2.1 ∧ ri.2.1 < 3 ∧ (ri.2.2.1 = 0 ∨ v = .int 0 ∨ v = .int 1) then some (some (some v), s) else none
    | _ => none
  else if ri.1 = 43 then (if mz_sum st ≤ 8 then some (none, (s.1, s.2.1 + 1, s.2.2 + 6)) else none)
  else none
/-- how a caller goes on -/
def mz_res (M : mzM) (i : Nat) (rest : List Value) (o : Option (Option Value)) : Option (Nat × List Value) := match o with
  | some none => some (i + 1, rest)
  | some (some v) => some (i + 1, v :: rest)
  | none => if M.2.2.1.1 ≤ i ∧ i < M.2.2.1.2.1 then some (M.2.2.1.2.2, [.retAddr 0]) else none
/-- one step of the machine, told apart -/
theorem mz_run_cases {P : List mzM} {X : List (List Value)} {n d j i : Nat} {lo : mzL} {st : List Value} {s : mzS} {r : Option (Option Value) × mzS} (h : mz_run P X (n + 1) d j i lo st s = some r) :
    ∃ M ri, P[j]? = some M ∧ M.2.2.2[i]? = some ri ∧
      ((ri.1 = 40 ∧ ∃ d' as rest M' o s' q, d = d' + 1 ∧ mz_take ri.2.2.1 st = some (as, rest) ∧ P[ri.2.1]? = some M' ∧ mz_sum rest ≤ 8 ∧ mz_sum as ≤ M'.1 ∧ mz_recv M'.2.1 as s = true ∧ mz_run P X n d' ri.2.1 0 (lv_args 0 as) [] s = some (o, s') ∧ mz_res M i rest o = some q ∧ mz_run P X n d j q.1 lo q.2 s' = some r) ∨
      (mz_fin ri st s = some r) ∨
      ((ri.1 < 20 ∨ ri.1 = 39) ∧ ∃ q, mz_one ri i M.1 lo st = some q ∧ mz_run P X n d j q.1 q.2.1 q.2.2 s = some r) ∨
      (ri.1 ≠ 40 ∧ ri.1 ≠ 41 ∧ ri.1 ≠ 42 ∧ ri.1 ≠ 43 ∧ ∃ q, mz_heap X ri st s = some q ∧ mz_run P X n d j (i + 1) lo q.1 q.2 = some r)) := by
  unfold mz_run at h
  split at h
  · cases h
  · rename_i M hM
    split at h
    · cases h
    · rename_i ri hri
      refine ⟨M, ri, hM, hri, ?_⟩
      by_cases h40 : ri.1 = 40
      · rw [if_pos h40] at h
        refine Or.inl ⟨h40, ?_⟩
        split at h
        · rename_i d' as rest M' htk hM'
          by_cases hc : mz_sum rest ≤ 8 ∧ mz_sum as ≤ M'.1 ∧ mz_recv M'.2.1 as s = true
          · rw [if_pos hc] at h
            split at h
            · cases h
            · rename_i s' hrun
              exact ⟨d', as, rest, M', some none, s', (i + 1, rest), rfl, htk, hM', hc.1, hc.2.1, hc.2.2, hrun, rfl, h⟩
            · rename_i v s' hrun
              exact ⟨d', as, rest, M', some (some v), s', (i + 1, v :: rest), rfl, htk, hM', hc.1, hc.2.1, hc.2.2, hrun, rfl, h⟩
            · rename_i s' hrun
              by_cases hh : M.2.2.1.1 ≤ i ∧ i < M.2.2.1.2.1
              · rw [if_pos hh] at h
                exact ⟨d', as, rest, M', none, s', (M.2.2.1.2.2, [.retAddr 0]), rfl, htk, hM', hc.1, hc.2.1, hc.2.2, hrun, by simp only [mz_res]; rw [if_pos hh], h⟩
              · rw [if_neg hh] at h; cases h
          · rw [if_neg hc] at h; cases h
        · cases h
      · rw [if_neg h40] at h
        refine Or.inr ?_
        by_cases h41 : ri.1 = 41
        · rw [if_pos h41] at h
          exact Or.inl (by unfold mz_fin; rw [if_pos h41]; exact h)
        · rw [if_neg h41] at h
          by_cases h42 : ri.1 = 42
          · rw [if_pos h42] at h
            exact Or.inl (by unfold mz_fin; rw [if_neg h41, if_pos h42]; exact h)
          · rw [if_neg h42] at h
            by_cases h43 : ri.1 = 43
            · rw [if_pos h43] at h
              exact Or.inl (by unfold mz_fin; rw [if_neg h41, if_neg h42, if_pos h43]; exact h)
            · rw [if_neg h43] at h
              refine Or.inr ?_
              by_cases h20 : ri.1 < 20 ∨ ri.1 = 39
              · rw [if_pos h20] at h
                split at h
                · rename_i q hq
                  exact Or.inl ⟨h20, q, hq, h⟩
                · cases h
              · rw [if_neg h20] at h
                split at h
                · rename_i q hq
                  exact Or.inr ⟨h40, h41, h42, h43, q, hq, h⟩
                · cases h
theorem mz_fin_mono {ri : mzI} {st : List Value} {s : mzS} {r : Option (Option Value) × mzS} (h : mz_fin ri st s = some r) : s.2.1 ≤ r.2.2.1 ∧ s.2.2 ≤ r.2.2.2 := by
  unfold mz_fin at h
  split at h
  · split at h
    · cases h; exact ⟨Nat.le_refl _, Nat.le_refl _⟩
    · cases h
  · split at h
    · split at h
      · split at h
        · cases h; exact ⟨Nat.le_refl _, Nat.le_refl _⟩
        · cases h
      · cases h
    · split at h
      · split at h
        · cases h; exact ⟨Nat.le_add_right _ _, Nat.le_add_right _ _⟩
        · cases h
      · cases h
theorem mz_mono {P : List mzM} {X : List (List Value)} : ∀ {n d j i : Nat} {lo : mzL} {st : List Value} {s : mzS} {r : Option (Option Value) × mzS}, mz_run P X n d j i lo st s = some r → s.2.1 ≤ r.2.2.1 ∧ s.2.2 ≤ r.2.2.2
  | 0, _, _, _, _, _, _, _, h => by simp [mz_run] at h
  | n + 1, d, j, i, lo, st, s, r, h => by
    obtain ⟨M, ri, -, -, h⟩ := mz_run_cases h
    rcases h with ⟨-, d', as, rest, M', o, s', q, -, -, -, -, -, -, h1, -, h2⟩ | h | ⟨-, q, -, h⟩ | ⟨-, -, -, -, q, h1, h2⟩
    · have a := mz_mono h1
      have b := mz_mono h2
      dsimp only at a
      omega
    · exact mz_fin_mono h
    · exact mz_mono h
    · have a := mz_heap_mono h1
      have b := mz_mono h2
      omega
/-- what the start gives, seen at a later state -/
theorem mz_CT_moved {D : va_G} {cA : Nat → ClassId} {xt : List Nat} {X : List (List Value)} {s0 s : State} (h : mz_CT D (fun q => s0.heap.size ≤ q) cA xt X s0) (hW : s0.WarmedH s.vm) (hz : s0.heap.size ≤ s.heap.size) (hk : ∀ q, q < s0.heap.size → s.heap[q]? = s0.heap[q]?) : mz_CT D (fun q => s0.heap.size ≤ q) cA xt X s := by
  obtain ⟨h1, h2, ⟨h3, h4⟩, h5, h6⟩ := h
  refine ⟨h1, va_K.moved hW.alike h2, ⟨fun k fs hfs => ?_, fun k k1 k2 => ?_⟩, fun q hq => Nat.le_trans hz hq, va_AO.moved hW.alike h6⟩
  · obtain ⟨t, t1, t2, t3⟩ := h3 k fs hfs
    exact ⟨t, t1, va_T.moved hW.alike (t2.kept (fun a ha _ => hk a ha)), t3⟩
  · obtain ⟨t, t1, t2⟩ := h4 k k1 k2
    exact ⟨t, t1, va_Z.moved hW.alike (t2.kept (fun a ha _ => hk a ha))⟩
/-- what a method asks for: arguments, heap -/
def mz_Pc (s0 : State) (D : va_G) (cA : Nat → ClassId) (xt : List Nat) (h : List mzC) (ws : va_W) (av : List Value) : Array Value → State → Prop :=
  va_Pc av (fun U => s0.WarmedH U.vm ∧ s0.heap.size ≤ U.heap.size ∧ (∀ q, q < s0.heap.size → U.heap[q]? = s0.heap[q]?) ∧ va_P D vwCl ws U.heap ∧ va_D (fun q => s0.heap.size ≤ q) ws ∧ mz_HR cA xt h ws)
theorem mz_blind (s0 : State) (D : va_G) (cA : Nat → ClassId) (xt : List Nat) (h : List mzC) (ws : va_W) (av : List Value) : FrameBlind (mz_Pc s0 D cA xt h ws av) := fun _ _ _ _ hp => hp
def mz_ov (ads : List Nat) (o : Option (Option Value)) (v : Option Value) : Prop := match o with
  | some none => v = none
  | some (some x) => ∃ w, v = some w ∧ mz_rel ads x w
  | none => False
/-- the world behind a method -/
def mz_B (s0 : State) (D : va_G) (cA : Nat → ClassId) (xt : List Nat) (h' : List mzC) (ads : List Nat) (ws' : va_W) (H : Heap) : Prop :=
  va_P D vwCl ws' H ∧ va_D (fun q => s0.heap.size ≤ q) ws' ∧ mz_HR cA xt h' ws' ∧ ∃ q, mz_ads xt ws' = ads ++ q
def mz_Qc (s0 : State) (D : va_G) (cA : Nat → ClassId) (xt : List Nat) (h' : List mzC) (ads : List Nat) (o : Option (Option Value)) : Array Value → State → Outcome → State → Prop := fun _ st oc t =>
  (∃ v, oc = .returned v ∧ ∃ ws', mz_ov (mz_ads xt ws') o v ∧ mz_B s0 D cA xt h' ads ws' t.heap) ∧ va_F (fun q => s0.heap.size ≤ q) st t
def mz_XC (s0 : State) (D : va_G) (cA : Nat → ClassId) (xt : List Nat) (h' : List mzC) (ads : List Nat) (o : Option (Option Value)) : String → State → State → Prop := fun E st t =>
  o = none ∧ E = "java/util/NoSuchElementException" ∧ (∃ ws', mz_B s0 D cA xt h' ads ws' t.heap) ∧ va_F (fun q => s0.heap.size ≤ q) st t
abbrev mz_rm (d mc ms : Nat) : Room := { frames := d + 10, cells := mc, slots := ms, locals := 200 + 40 * d }
theorem mz_met {l : Launch} {y : MethodName} {ws : List Cond} {rm : Room} {Pc : Array Value → State → Prop} {Qc : Array Value → State → Outcome → State → Prop} {XC : String → State → State → Prop} {mc ms : Nat} {free : Addr → Prop} (h : vx_Met l y ws rm Pc Qc XC mc ms free) (hno : ∀ E st t, ¬ XC E st t) : Met l y ws rm Pc Qc mc ms free := by
  intro p e ha hc hk s m args below hf happ hP hK
  obtain ⟨n, o, h1, h2, h3, hq⟩ := h p e ha hc hk s m args below hf happ hP hK
  refine ⟨n, o, h1, h2, h3, ?_⟩
  rcases hq with hq | ⟨q, -, E, ce, L, hx, -⟩
  · exact hq
  · exact absurd hx (hno _ _ _)
section MZG
variable {p : Program} {l : Launch} {e : Env} {R : Room} {s : State} {m : MethodId} {args : Array Value} {below : List Frame} {meth : Method} {c : Code} {H : Heap} {locs : List Loc} {cells slots : Nat} {Q : State → Prop}
variable {pc mc ms : Nat} {ls : Array Slot} {rest st0 : List Value} {A : Nat → Prop} {H0 : Heap}
theorem mz_callg {Bq : Option Value → State → Prop} (hr : va_Run p l e R s m args below meth c H locs cells slots mc ms (F0 m pc ls st0) rest (fun st oc t => (∃ v, oc = .returned v ∧ Bq v t) ∧ va_F A st t) A) (hS : va_S A H0 H locs)
    (kk : ∀ (v : Option Value) (t : State) (H1 : Heap) (locs1 : List Loc), t.heap = H1 → Bq v t → va_S A H0 H1 locs1 → W p l e R s m args below meth c H1 locs1 (cells + mc) (slots + ms) Q (F0 m (pc + 3) ls (v.toList ++ rest))) : W p l e R s m args below meth c H locs cells slots Q (F0 m pc ls st0) := by
  intro T hT X
  obtain ⟨v, st₀, t, T', L, h0, X', hL, e1, e2, ⟨⟨v', hv, hb⟩, hz, hk⟩, st⟩ := hr T hT X
  cases hv
  rw [h0] at hz hk
  obtain ⟨t2, a1, b1⟩ := kk v t T'.heap (locs ++ L) e1.symm hb
    ⟨Nat.le_trans hS.1 (by rw [e1]; exact hz), fun q h1 h2 => by rw [e1, hk q (Nat.lt_of_lt_of_le h1 hS.1) h2]; exact hS.2.1 q h1 h2, fun q hq => by
      rcases List.mem_append.mp hq with h | h
      · exact hS.2.2 q h
      · exact hL q h⟩ T' rfl X'
  exact ⟨t2, st t2 a1, b1⟩
/-- a callee that throws, and the caller's table takes it -/
theorem mz_callx {Qa : State → Outcome → State → Prop} {XC : String → State → State → Prop} {Bx : State → Prop} {E0 : String} (hr : vx_Run p l e R s m args below meth c H locs cells slots mc ms (F0 m pc ls st0) rest Qa XC A) (hno : ∀ st v t, ¬ Qa st (.returned v) t) (hXC : ∀ E st t, XC E st t → E = E0 ∧ Bx t ∧ va_F A st t) (hS : va_S A H0 H locs)
    (kk : ∀ (q : Addr) (ce : Cell) (t : State) (H1 : Heap) (locs1 : List Loc), t.heap = H1 → Bx t → va_S A H0 H1 locs1 → H1[q]? = some ce → ce.vm = .none → s.vm.findClass E0 = some ce.cls → vx_W p l e R s m args below meth c H1 locs1 (cells + mc) (slots + ms) Q (F0 m pc ls rest) q) : W p l e R s m args below meth c H locs cells slots Q (F0 m pc ls st0) := by
  intro T hT X
  rcases hr T hT X with ⟨v, st₀, t, T', L, h0, X', hL, e1, e2, hq, st⟩ | ⟨q, st₀, t, T', L, E, ce, h0, X', hL, e1, e2, hxc, hce, hcv, hcl, st⟩
  · exact absurd hq (hno _ _ _)
  · obtain ⟨rfl, hb, hz, hk⟩ := hXC _ _ _ hxc
    rw [h0] at hz hk
    obtain ⟨t2, a1, b1⟩ := kk q ce t T'.heap (locs ++ L) e1.symm hb
      ⟨Nat.le_trans hS.1 (by rw [e1]; exact hz), fun q h1 h2 => by rw [e1, hk q (Nat.lt_of_lt_of_le h1 hS.1) h2]; exact hS.2.1 q h1 h2, fun q hq => by
        rcases List.mem_append.mp hq with h | h
        · exact hS.2.2 q h
        · exact hL q h⟩ (by rw [e1]; exact hce) hcv hcl T' rfl X'
    exact ⟨t2, st.trans a1, b1⟩
end MZG
end
section
/-! a thrown thing caught by the only row of a method's table -/
section MZC
variable {e : Env} {s : State} {f : JFrame} {a : Addr}
theorem mz_fgo {Q : Handler → Pre} {E : CtlPost} {d : Bool} {acts : List Action} {x : ExceptionTableEntry} {t : List ExceptionTableEntry} {k : ClassId} {cell : Cell} (hx : covers x f.pc = true) (h0 : x.catchType ≠ 0) (hl : s.vm.ClassLinks e.platform f.method.cls x.catchType k) (hcell : s.heap[a]? = some cell) (hobj : ∀ z, cell.vm ≠ .statics z)
    (hk : ∃ z, s.vm.classes[cell.cls]? = some z) (hc : ∃ z, s.vm.classes[k]? = some z) (hfit : s.vm.assignable cell.cls k = true) :
    wp (findHandler.go f a (x :: t)) Q E e d acts s ↔ Q (.found x.handlerPc) d acts (s.setVm (s.vm.noted f.method.cls x.catchType (.cls k))) := by
  obtain ⟨ha, ht⟩ := (resolveClass_links e.toSetting hl).op (op := VmOp.resolveClass f.method.cls x.catchType) rfl
  have hal : s.vm.Alike (s.vm.noted f.method.cls x.catchType (.cls k)) := (Vm.Alike.refl s.vm).noted _ _ _
  obtain ⟨z1, hz1⟩ := hk
  obtain ⟨z2, hz2⟩ := hc
  obtain ⟨y1, hy1, -⟩ := hal.2.2 _ _ hz1
  obtain ⟨y2, hy2, -⟩ := hal.2.2 _ _ hz2
  have hfit2 : (s.vm.noted f.method.cls x.catchType (.cls k)).assignable cell.cls k = true := by rw [hal.assignable]; exact hfit
  simp only [covers] at hx
  simp [findHandler.go, hx, h0, ha, ht, hcell, hobj, hy1, hy2, hfit2, VmOp.dirties, VmOp.acts]
theorem mz_fst {r : List Frame} {pc : Nat} {vm' : Vm} (hfind : ∀ (Q : Handler → Pre) (E : CtlPost) (d : Bool) (acts : List Action), wp (findHandler f a) Q E e d acts s ↔ Q (.found pc) d acts (s.setVm vm')) :
    (stepThrowing e s a (.java f :: r)).Is ((s.setVm vm').setFrames (.java { f with pc := pc, stack := [.ref a] } :: r)) [] := by
  simp only [stepThrowing, searchFrame, vmDo]
  generalize hr : Sem.go _ e false [] s = res
  obtain ⟨as, rfl, ha⟩ := Sem.eq_ok_of hr (a := Handler.found pc) (s' := s.setVm vm') (acts' := []) (by simp [hfind _ _ _ _])
  exact ⟨rfl, ha⟩
theorem mz_fsf (u : State) (vm' : Vm) (F G : List Frame) : ((u.setFrames F).setVm vm').setFrames G = (u.setVm vm').setFrames G := by
  have h1 : (u.setFrames F).setVm vm' = (u.setVm vm').setFrames F := rfl
  rw [h1, State.setFrames_setFrames]
theorem mz_fto {tb : Tables} {target : State} {g : JFrame} {c : Code} {below : List Frame} (h : At s g.method c below) {pc : Nat} {vm' : Vm}
    (hfind : ∀ (Q : Handler → Pre) (E : CtlPost) (d : Bool) (acts : List Action), wp (findHandler g a) Q E e d acts ((s.setTop g).pushFrame (.throwing a)) ↔ Q (.found pc) d acts (((s.setTop g).pushFrame (.throwing a)).setVm vm')) (hrest : Steps tb e below ((s.setVm vm').setTop { g with pc := pc, stack := [.ref a] }) target) :
    Steps tb e below ((s.setTop g).pushFrame (.throwing a)) target := by
  obtain ⟨hgo, hw⟩ := h.throwing a
  refine Steps.head hgo hw ?_
  rw [stepThread_throwing (frames_entered h.top _), (mz_fst (s := (s.setTop g).pushFrame (.throwing a)) hfind).1]
  obtain ⟨g₀, hg⟩ := Option.isSome_iff_exists.mp h.top
  obtain ⟨r, hr⟩ := State.topJava?_eq_some.mp hg
  have hr' : (s.setVm vm').frames = .java g₀ :: r := hr
  rw [State.setTop_of_frames _ hr'] at hrest
  rw [hr, List.tail_cons, State.pushFrame, mz_fsf, State.setTop_of_frames _ hr, mz_fsf]
  exact hrest
end MZC
theorem mz_catch {p : Program} {l : Launch} {e : Env} {R : Room} {s : State} {m : MethodId} {args : Array Value} {below : List Frame} {meth : Method} {c : Code} {H : Heap} {locs : List Loc} {cells slots : Nat} {Q : State → Prop} {pc : Nat} {ls : Array Slot} {rest : List Value}
    {own name : String} {E : String} {ce : Cell} {q : Addr} (hown : s.vm.findClass own = some m.cls) (x : ExceptionTableEntry) (hsplit : c.exceptionTable.toList = [x]) (hx : covers x pc = true) (h0 : x.catchType ≠ 0)
    (hlink : (Cond.classLink own x.catchType name).before args s = true) (hcast : (Cond.castable E name).before args s = true) (hcell : H[q]? = some ce) (hv : ce.vm = .none) (hcl : s.vm.findClass E = some ce.cls)
    (kk : W p l e R s m args below meth c H locs cells slots Q (F0 m x.handlerPc ls [.ref q])) : vx_W p l e R s m args below meth c H locs cells slots Q (F0 m pc ls rest) q := by
  intro T hT X
  have hpl : e.platform.magicAccessors = ({} : Platform).magicAccessors := by rw [X.admits.platform]
  obtain ⟨c3, c4, hc3, hc4, hasg⟩ := Cond.castable_spec hcast
  cases Option.some.inj (hc3.symm.trans hcl)
  obtain ⟨c5, hc5, hcl5⟩ := Cond.classLink_spec hown hlink e.platform hpl
  cases Option.some.inj (hc4.symm.trans hc5)
  obtain ⟨kx, hkx, -⟩ := Vm.findClass_spec hcl
  obtain ⟨dk, _, _, kt, hd, _, _, _, _, hkt, _, hopen⟩ := hcl5.here
  have hW := X.warmed
  obtain ⟨kx', hkx', -⟩ := hW.alike.2.2 _ _ hkx
  obtain ⟨kt', hkt', -⟩ := hW.alike.2.2 _ _ hkt
  have X' := X.noted (hW.noted hd hopen (State.rightAt_cls hcl5))
  obtain ⟨t, a1, b1⟩ := kk (T.setVm (T.vm.noted m.cls x.catchType (.cls c4))) hT X'
  refine ⟨t, ?_, b1⟩
  refine mz_fto (s := T) (a := q) (g := F0 m pc ls rest) X.here (pc := x.handlerPc) (vm' := T.vm.noted m.cls x.catchType (.cls c4)) (fun Q2 E2 d2 acts2 => ?_) a1
  rw [W.findHandler_eq (meth := meth) (code := c) X.method' X.code, hsplit]
  exact mz_fgo (e := e) (f := F0 m pc ls rest) (k := c4) (cell := ce) hx h0 (hW.classLinks hcl5) (by show T.heap[q]? = _; rw [hT]; exact hcell) (fun z hz => by rw [hv] at hz; cases hz) ⟨kx', hkx'⟩ ⟨kt', hkt'⟩ (by show T.vm.assignable _ _ = true; rw [hW.alike.assignable]; exact hasg)
end
section
/-! THE SIMULATION: a run of M is a run of the JVM -/
theorem mz_lgsl : ∀ (vs : List Value), (lg_sl vs).length = (vs.map fun v => v.category).sum
  | [] => rfl
  | v :: vs => by
    have ih := mz_lgsl vs
    unfold lg_sl at ih ⊢
    rw [List.flatMap_cons, List.length_append, ih, List.map_cons, List.sum_cons]
    congr 1
    rcases lv_cat v with h | h
    · rw [h]; rfl
    · rw [h]; rfl
theorem mz_args_rel {ads : List Nat} : ∀ {as ras : List Value}, mz_FR ads as ras → ∀ k, mz_LR ads (lv_args k as) (lv_args k ras)
  | [], [], _, _ => trivial
  | v :: as, w :: ras, ⟨h1, h2⟩, k => by
    unfold lv_args
    refine ⟨⟨rfl, h1⟩, ?_⟩
    rw [h1.cat]
    exact mz_args_rel h2 _
/-- a frame's own facts -/
def mz_FX (s0 : State) (p : Program) (s : State) (m : MethodId) (args : Array Value) (meth : Method) (c : Code) (M : mzM) (t : mzT) : Prop :=
  p.tables.exec = Jvm.exec ∧ c.code = t.2.1 ∧ c.maxLocals = M.1 ∧ s.vm.findClass t.1.cls = some m.cls ∧ (∀ w ∈ mz_WS, w.before args s = true) ∧ (t.1.name = "<init>" → meth.name = "<init>") ∧ meth.locks = false ∧ meth.sig.returnType = t.2.2.1 ∧ ((t.2.2.2.2.2.2 = [] ∧ t.1.cls = "LoopsToUnitsLaw") ∨ c.exceptionTable.toList = tableOf t.2.2.2.2.2.2) ∧ s0.WarmedH s.vm ∧ s0.heap.size ≤ s.heap.size ∧ ∀ q, q < s0.heap.size → s.heap[q]? = s0.heap[q]?
/-- what is owed at a frame's last instruction -/
def mz_END (s0 : State) (D : va_G) (cA : Nat → ClassId) (xt : List Nat) (p : Program) (l : Launch) (e : Env) (R : Room) (s : State) (m : MethodId) (args : Array Value) (below : List Frame) (meth : Method) (c : Code) (Q : State → Prop) (M : mzM) (t : mzT) (adsE : List Nat) (c0 n0 : Nat) (out : Option (Option Value)) (σ' : mzS) : Prop :=
  ∀ (i' : Nat) (ri : mzI) (ls' : Array Slot) (st' rst' : List Value) (σ'' : mzS) (H' : Heap) (locs' : List Loc) (ws' : va_W) (cells' slots' : Nat), M.2.2.2[i']? = some ri → mz_fin ri st' σ'' = some (out, σ') → ls'.size = M.1 → mz_FR (mz_ads xt ws') st' rst' → mz_HP D (fun q => s0.heap.size ≤ q) cA xt s.heap σ''.1 ws' H' locs' → (∃ q, mz_ads xt ws' = adsE ++ q) → σ''.2.1 = c0 + cells' → σ''.2.2 = n0 + slots' → W p l e R s m args below meth c H' locs' cells' slots' Q (F0 m (mz_pc t.2.2.2.1 i') ls' rst')
/-- the simulation, for runs of at most n steps -/
def mz_GO (l : Launch) (s0 : State) (D : va_G) (cA : Nat → ClassId) (xt : List Nat) (X : List (List Value)) (n : Nat) : Prop :=
  ∀ (d j i : Nat) (lo : mzL) (st : List Value) (σ : mzS) (out : Option (Option Value)) (σ' : mzS) (M : mzM) (t : mzT), mz_run mzP X n d j i lo st σ = some (out, σ') → mzP[j]? = some M → mzQ[j]? = some t →
  ∀ (p : Program) (e : Env) (R : Room) (s : State) (m : MethodId) (args : Array Value) (below : List Frame) (meth : Method) (c : Code) (H : Heap) (locs : List Loc) (cells slots : Nat) (Q : State → Prop) (ws : va_W) (ls : Array Slot) (rlo : mzL) (rst : List Value) (c0 n0 : Nat) (adsE : List Nat), mz_FX s0 p s m args meth c M t → d + 10 ≤ R.frames → 200 + 40 * d ≤ R.locals → σ'.2.1 ≤ c0 + R.cells → σ'.2.2 ≤ n0 + R.slots →
    lv_has ls M.1 rlo → mz_LR (mz_ads xt ws) lo rlo → mz_FR (mz_ads xt ws) st rst → mz_HP D (fun q => s0.heap.size ≤ q) cA xt s.heap σ.1 ws H locs → (∃ q, mz_ads xt ws = adsE ++ q) → σ.2.1 = c0 + cells → σ.2.2 = n0 + slots → mz_END s0 D cA xt p l e R s m args below meth c Q M t adsE c0 n0 out σ' →
    W p l e R s m args below meth c H locs cells slots Q (F0 m (mz_pc t.2.2.2.1 i) ls rst)
def mz_wsy (M : mzM) (t : mzT) : List Cond := (if t.2.2.2.2.2.2 = [] then Cond.code t.1 t.2.1 M.1 t.2.2.1 else Cond.codeWith t.1 t.2.1 M.1 t.2.2.1 t.2.2.2.2.2.2) :: mz_WS
/-- what 'throw new NoSuchElementException(..)' owes: proved below -/
def mz_THR (l : Launch) (s0 : State) : Prop := ∀ (j : Nat) (M : mzM) (t : mzT) (i : Nat) (ri : mzI), mzP[j]? = some M → mzQ[j]? = some t → M.2.2.2[i]? = some ri → ri.1 = 43 → mz_okAt M t i = true →
  ∀ (p : Program) (e : Env) (R : Room) (s : State) (m : MethodId) (args : Array Value) (below : List Frame) (meth : Method) (c : Code) (H : Heap) (locs : List Loc) (cells slots mc ms : Nat) (Qc : Array Value → State → Outcome → State → Prop) (XC : String → State → State → Prop) (ls : Array Slot) (rst : List Value), mz_FX s0 p s m args meth c M t → 10 ≤ R.frames → 200 ≤ R.locals → cells + 1 ≤ R.cells → slots + 6 ≤ R.slots → cells + 1 ≤ mc → slots + 6 ≤ ms → ls.size = M.1 → (rst.map fun v => v.category).sum ≤ 8 → va_S (fun q => s0.heap.size ≤ q) s.heap H locs →
    (∀ t' : State, s.vm.Alike t'.vm → H.size ≤ t'.heap.size → (∀ q : Nat, q < H.size → t'.heap[q]? = H[q]?) → XC "java/util/NoSuchElementException" s t') →
    W p l e R s m args below meth c H locs cells slots (vx_MQ below Qc XC args s mc ms (fun q => s0.heap.size ≤ q)) (F0 m (mz_pc t.2.2.2.1 i) ls rst)
theorem mz_FoS {A : Nat → Prop} {s t : State} {H : Heap} {locs : List Loc} (h : va_S A s.heap H locs) (ht : t.heap = H) : va_F A s t := ⟨by rw [ht]; exact h.1, fun q h1 h2 => by rw [ht]; exact h.2.1 q h1 h2⟩
theorem mz_contract {l : Launch} {s0 : State} {D : va_G} {cA : Nat → ClassId} {xt : List Nat} {X : List (List Value)} {n : Nat} (hTHR : mz_THR l s0) (IH : mz_GO l s0 D cA xt X n) {d a : Nat} {σ s1 : mzS} {o : Option (Option Value)} {as ras : List Value} {ws : va_W} {M : mzM} {t : mzT}
    (hrun : mz_run mzP X n d a 0 (lv_args 0 as) [] σ = some (o, s1)) (hM : mzP[a]? = some M) (ht : mzQ[a]? = some t) (hY : mz_okY M t = true) (hAt : ∀ i, mz_okAt M t i = true) (hp0 : mz_pc t.2.2.2.1 0 = 0) (hav : mz_FR (mz_ads xt ws) as ras) (hfit : mz_sum as ≤ M.1) :
    vx_Met l t.1 (mz_wsy M t) (mz_rm d (s1.2.1 - σ.2.1) (s1.2.2 - σ.2.2)) (mz_Pc s0 D cA xt σ.1 ws ras) (mz_Qc s0 D cA xt s1.1 (mz_ads xt ws) o) (mz_XC s0 D cA xt s1.1 (mz_ads xt ws) o) (s1.2.1 - σ.2.1) (s1.2.2 - σ.2.2) (fun q => s0.heap.size ≤ q) := by
  obtain ⟨y, bytes, ret, pcs, wl, mws, hh⟩ := t
  have hmono := mz_mono hrun
  dsimp only at hmono hp0
  unfold mz_okY at hY
  simp only [Bool.and_eq_true] at hY
  obtain ⟨⟨⟨⟨hY1, hY2⟩, hY3⟩, hY4⟩, hY5⟩ := hY
  refine MetFree.of_bodySF (code := bytes) (maxLocals := M.1) (ret := ret) hY3 ?_ ?_
  · intro args s m h hn
    have h9 := atoms_spec (ws := mz_wsy M (y, bytes, ret, pcs, wl, mws, hh)) h _ List.mem_cons_self
    by_cases hhe : hh = []
    · rw [if_pos hhe] at h9
      obtain ⟨meth, c, h1, h2, h3, h4, h5, h6, -, -⟩ := Cond.code_spec hn h9
      exact ⟨meth, c, h1, h2, h3, h4, h5, h6⟩
    · rw [if_neg hhe] at h9
      obtain ⟨m9, meth, c, hn9, h1, h2, h3, h4, -, h5, h6, -⟩ := Cond.codeWith_spec h9
      cases hn.symm.trans hn9
      exact ⟨meth, c, h1, h2, h3, h4, h5, h6⟩
  · intro p e s m args below meth c s₁ B hml hP _
    obtain ⟨rfl, hW0, hz, hk, hPw, hDw, hHR⟩ := hP
    have hh0 : s₁.heap = s.heap := by rw [B.state]; rfl
    have hts0 := atoms_spec (ws := mz_wsy M (y, bytes, ret, pcs, wl, mws, hh)) B.pre
    have htab : c.exceptionTable.toList = tableOf hh := by
      have h9 := hts0 _ List.mem_cons_self
      by_cases hhe : hh = []
      · rw [if_pos hhe] at h9
        obtain ⟨meth9, c9, h1, h2, -, -, -, -, h7, -⟩ := Cond.code_spec B.named h9
        cases Option.some.inj (h1.symm.trans B.method)
        cases Option.some.inj (h2.symm.trans (Stand.of_body B).code)
        rw [Array.isEmpty_iff.mp h7, hhe]
        rfl
      · rw [if_neg hhe] at h9
        exact vx_table (x := y) B h9
    have hFX : mz_FX s0 p s m ras.toArray meth c M (y, bytes, ret, pcs, wl, mws, hh) :=
      ⟨B.exec, B.bytes, hml, findClass_of_methodNamed B.named, fun w hw => hts0 w (List.mem_cons_of_mem _ hw), fun hn => by rw [(name_of_methodNamed B.named B.method).1]; exact hn, B.notSynchronized, B.returns, Or.inr htab, hW0, hz, hk⟩
    have hlen : (lg_sl ras).length ≤ M.1 := by rw [mz_lgsl, mz_FR.sum hav]; exact hfit
    have hl := lv_entry ras (n := M.1) hlen
    have K : W p l e (mz_rm d (s1.2.1 - σ.2.1) (s1.2.2 - σ.2.2)) s m ras.toArray below meth c s.heap [] 0 0 (vx_MQ below (mz_Qc s0 D cA xt s1.1 (mz_ads xt ws) o) (mz_XC s0 D cA xt s1.1 (mz_ads xt ws) o) ras.toArray s (s1.2.1 - σ.2.1) (s1.2.2 - σ.2.2) (fun q => s0.heap.size ≤ q)) (entryFrame m ras.toArray M.1) := by
      rw [lg_entry_eq]
      generalize (lg_sl ras ++ List.replicate (M.1 - (lg_sl ras).length) Slot.unset).toArray = ls at hl ⊢
      have hgo := IH d a 0 (lv_args 0 as) [] σ o s1 M (y, bytes, ret, pcs, wl, mws, hh) hrun hM ht p e (mz_rm d (s1.2.1 - σ.2.1) (s1.2.2 - σ.2.2)) s m ras.toArray below meth c s.heap [] 0 0 (vx_MQ below (mz_Qc s0 D cA xt s1.1 (mz_ads xt ws) o) (mz_XC s0 D cA xt s1.1 (mz_ads xt ws) o) ras.toArray s (s1.2.1 - σ.2.1) (s1.2.2 - σ.2.2) (fun q => s0.heap.size ≤ q)) ws ls (lv_args 0 ras) [] σ.2.1 σ.2.2 (mz_ads xt ws) hFX (Nat.le_refl _) (Nat.le_refl _) (by show s1.2.1 ≤ σ.2.1 + (s1.2.1 - σ.2.1); omega) (by show s1.2.2 ≤ σ.2.2 + (s1.2.2 - σ.2.2); omega) hl (mz_args_rel hav 0) trivial ⟨hPw, hDw, va_S.rf, hHR⟩ ⟨[], by simp⟩ rfl rfl ?_
      · dsimp only at hgo
        rw [hp0] at hgo
        exact hgo
      · intro i' ri ls' st' rst' σ'' H' locs' ws' cells' slots' hri hfin hls hst' hP' hext hc' hn'
        have hok := hAt i'
        obtain ⟨hx, hb, -, hown, hts, -, hlk, hret, -, -, -, -⟩ := id hFX
        dsimp only at hb hret
        unfold mz_okAt at hok
        dsimp only at hok ⊢
        rw [hri] at hok
        dsimp only at hok
        split at hok
        · rename_i ins len hdec
          unfold mz_fin at hfin
          by_cases h41 : ri.1 = 41
          · rw [if_neg (by omega), if_pos h41] at hok
            rw [if_pos h41] at hfin
            simp only [decide_eq_true_eq] at hok
            obtain ⟨rfl, rfl, hrt⟩ := hok
            split at hfin
            · rename_i hst0
              cases hfin
              subst hst0
              cases rst' with
              | cons _ _ => exact hst'.elim
              | nil =>
              have e1 : s1.2.1 - σ.2.1 = cells' := by omega
              have e2 : s1.2.2 - σ.2.2 = slots' := by omega
              rw [e1, e2]
              exact vx_ret (W.vret hx hb (hret.trans hrt) (fun t' h' _ => ⟨⟨none, rfl, ws', rfl, by rw [h']; exact ⟨hP'.1, hP'.2.1, hP'.2.2.2, hext⟩⟩, mz_FoS hP'.2.2.1 h'⟩) hP'.2.2.1.2.2 hdec hlk)
            · cases hfin
          · rw [if_neg h41] at hfin
            by_cases h42 : ri.1 = 42
            · rw [if_neg (by omega), if_neg h41, if_pos h42] at hok
              rw [if_pos h42] at hfin
              unfold mz_k42 at hok
              rw [Bool.and_eq_true] at hok
              obtain ⟨hl1, hok⟩ := hok
              have hl1 : len = 1 := by simpa using hl1
              subst hl1
              split at hfin
              · rename_i v
                by_cases hty : mz_ty v = ri.2.1 ∧ ri.2.1 < 3 ∧ (ri.2.2.1 = 0 ∨ v = .int 0 ∨ v = .int 1)
                · rw [if_pos hty] at hfin
                  cases hfin
                  match rst', hst' with
                  | [w], ⟨hvw, _⟩ =>
                  have e1 : s1.2.1 - σ.2.1 = cells' := by omega
                  have e2 : s1.2.2 - σ.2.2 = slots' := by omega
                  rw [e1, e2]
                  have hq : ∀ w', w = w' → ∀ t' : State, t'.heap = H' → s.WarmedH t'.vm → mz_Qc s0 D cA xt s1.1 (mz_ads xt ws) (some (some v)) ras.toArray s (.returned (some w')) t' := by
                    rintro w' rfl t' h' -
                    exact ⟨⟨some w, rfl, ws', ⟨w, rfl, hvw⟩, by rw [h']; exact ⟨hP'.1, hP'.2.1, hP'.2.2.2, hext⟩⟩, mz_FoS hP'.2.2.1 h'⟩
                  split at hok
                  · simp only [Bool.and_eq_true, Bool.or_eq_true, decide_eq_true_eq] at hok
                    obtain ⟨ha0, hok⟩ := hok
                    obtain ⟨z, rfl, rfl⟩ := mz_ty0 hvw (hty.1.trans ha0)
                    rcases hok with hok | ⟨hok, hb1⟩
                    · exact vx_ret (W.iret hx hb (hret.trans hok) (hq _ rfl) hP'.2.2.1.2.2 hdec hlk)
                    · refine vx_ret (W.zret hx hb (hret.trans hok) ?_ (hq _ rfl) hP'.2.2.1.2.2 hdec hlk)
                      rcases hty.2.2 with h0 | h0 | h0
                      · omega
                      · cases h0; rfl
                      · cases h0; rfl
                  · simp only [Bool.and_eq_true, decide_eq_true_eq] at hok
                    obtain ⟨ha0, hok⟩ := hok
                    obtain ⟨z, rfl, rfl⟩ := mz_ty2 hvw (hty.1.trans ha0)
                    exact vx_ret (W.lret hx hb (hret.trans hok) (hq _ rfl) hP'.2.2.1.2.2 hdec hlk)
                  · cases hok
                · rw [if_neg hty] at hfin; cases hfin
              · cases hfin
            · rw [if_neg h42] at hfin
              by_cases h43 : ri.1 = 43
              · rw [if_pos h43] at hfin
                by_cases hs8 : mz_sum st' ≤ 8
                · rw [if_pos hs8] at hfin
                  cases hfin
                  have hsr : (rst'.map fun v => v.category).sum ≤ 8 := by rw [mz_FR.sum hst']; exact hs8
                  dsimp only at hmono
                  refine hTHR a M (y, bytes, ret, pcs, wl, mws, hh) i' ri hM ht hri h43 (hAt i') p e _ s m ras.toArray below meth c H' locs' cells' slots' _ _ _ _ ls' rst' hFX (by show 10 ≤ d + 10; omega) (by show 200 ≤ 200 + 40 * d; omega) (by show cells' + 1 ≤ σ''.2.1 + 1 - σ.2.1; omega) (by show slots' + 6 ≤ σ''.2.2 + 6 - σ.2.2; omega) (by show cells' + 1 ≤ σ''.2.1 + 1 - σ.2.1; omega) (by show slots' + 6 ≤ σ''.2.2 + 6 - σ.2.2; omega) hls hsr hP'.2.2.1 ?_
                  intro t' hvm hz' hk'
                  refine ⟨rfl, rfl, ⟨ws', hP'.1.kept (fun k x hx => hk' x.1 ((hP'.1 k x hx).lt)), hP'.2.1, hP'.2.2.2, hext⟩, ?_⟩
                  exact ⟨Nat.le_trans hP'.2.2.1.1 hz', fun q h1 h2 => by rw [hk' q (Nat.lt_of_lt_of_le h1 hP'.2.2.1.1)]; exact hP'.2.2.1.2.1 q h1 h2⟩
                · rw [if_neg hs8] at hfin; cases hfin
              · rw [if_neg h43] at hfin; cases hfin
        · cases hok
    obtain ⟨t2, a1, o2, b1, b2, b3⟩ := K s₁ hh0 (Stand.of_body B)
    exact ⟨t2, o2, a1, b1, b2, b3⟩
end
section
/-! handlers, and the sizes of frames -/
def mz_hokB (M : mzM) (t : mzT) : Bool := decide (M.2.2.1.2.1 = 0) || match t.2.2.2.2.2.2 with
  | [(a, b, h, ct)] => (List.range M.2.2.2.length).all (fun i => !(decide (M.2.2.1.1 ≤ i ∧ i < M.2.2.1.2.1)) || (decide (a ≤ mz_pc t.2.2.2.1 i ∧ mz_pc t.2.2.2.1 i < b) && match M.2.2.2[i]? with
      | some ri => !(ri.1 == 40) || (match mzP[ri.2.1]?, mzQ[ri.2.1]? with
        | some M', some t' => decide (0 < M'.2.1) && decide (t'.1.name ≠ "<init>")
        | _, _ => false)
      | none => false)) && decide (h = mz_pc t.2.2.2.1 M.2.2.1.2.2) && decide (ct ≠ 0) && decide (Cond.classLink t.1.cls ct "java/util/NoSuchElementException" ∈ mz_WS)
  | _ => false
set_option maxRecDepth 100000 in
theorem mz_hokall : (mzP.zip mzQ).all (fun q => mz_hokB q.1 q.2) = true := by decide +kernel
theorem mz_hok_at {j : Nat} {M : mzM} {t : mzT} (hM : mzP[j]? = some M) (ht : mzQ[j]? = some t) : mz_hokB M t = true := by
  refine List.all_eq_true.mp mz_hokall (M, t) (List.mem_of_getElem? (i := j) ?_)
  rw [List.getElem?_zip_eq_some]
  exact ⟨hM, ht⟩
set_option maxRecDepth 100000 in
theorem mz_maxL : mzP.all (fun M => decide (M.1 ≤ 21)) = true := by decide +kernel
theorem mz_maxL_at {j : Nat} {M : mzM} (hM : mzP[j]? = some M) : M.1 ≤ 21 := by simpa using List.all_eq_true.mp mz_maxL M (List.mem_of_getElem? hM)
theorem mz_castw : Cond.castable "java/util/NoSuchElementException" "java/util/NoSuchElementException" ∈ lw_tbl := by decide +kernel
end
section
/-! a call -/
theorem mz_take_eq {n : Nat} {st as rest : List Value} (h : mz_take n st = some (as, rest)) : n ≤ st.length ∧ as = (st.take n).reverse ∧ rest = st.drop n ∧ st = as.reverse ++ rest ∧ as.length = n := by
  unfold mz_take at h
  by_cases hn : n ≤ st.length
  · rw [if_pos hn] at h
    cases h
    exact ⟨hn, rfl, rfl, by rw [List.reverse_reverse, List.take_append_drop], by simp; omega⟩
  · rw [if_neg hn] at h; cases h
theorem mz_wsy_good {M : mzM} {t : mzT} (hY : mz_okY M t = true) : ∀ w ∈ mz_wsy M t, w ∈ mz_WS := by
  obtain ⟨y, bytes, ret, pcs, wl, mws, hh⟩ := t
  unfold mz_okY at hY
  simp only [Bool.and_eq_true] at hY
  intro w hw
  rcases List.mem_cons.mp hw with rfl | hw
  · have h1 := hY.1.1.1.1
    dsimp only
    by_cases hhe : hh = []
    · rw [if_pos hhe] at h1 ⊢; exact mz_wok_mem h1
    · rw [if_neg hhe] at h1 ⊢; exact mz_wok_mem h1
  · exact hw
set_option maxHeartbeats 4000000 in
theorem mz_callcase {l : Launch} {s0 : State} {D : va_G} {cA : Nat → ClassId} {xt : List Nat} {X : List (List Value)} {args0 : Array Value} {n : Nat} (hT0 : ∀ w ∈ lw_tbl, w.before args0 s0 = true) (hC0 : mz_CT D (fun q => s0.heap.size ≤ q) cA xt X s0) (hTHR : mz_THR l s0) (IH : mz_GO l s0 D cA xt X n)
    {d' j i : Nat} {lo : mzL} {st : List Value} {σ σ' : mzS} {out : Option (Option Value)} {M : mzM} {t : mzT} {p : Program} {e : Env} {R : Room} {s : State} {m : MethodId} {args : Array Value} {below : List Frame} {meth : Method} {c : Code} {H : Heap} {locs : List Loc} {cells slots : Nat} {Q : State → Prop} {ws : va_W} {ls : Array Slot} {rlo : mzL} {rst : List Value} {c0 n0 : Nat} {adsE : List Nat}
    (hM : mzP[j]? = some M) (ht : mzQ[j]? = some t) (hoki : mz_okAt M t i = true) (hFX : mz_FX s0 p s m args meth c M t) (hRf : d' + 1 + 10 ≤ R.frames) (hRl : 200 + 40 * (d' + 1) ≤ R.locals) (hRc : σ'.2.1 ≤ c0 + R.cells) (hRs : σ'.2.2 ≤ n0 + R.slots)
    (hl : lv_has ls M.1 rlo) (hlo : mz_LR (mz_ads xt ws) lo rlo) (hst : mz_FR (mz_ads xt ws) st rst) (hP : mz_HP D (fun q => s0.heap.size ≤ q) cA xt s.heap σ.1 ws H locs) (hext : ∃ q, mz_ads xt ws = adsE ++ q) (hcn : σ.2.1 = c0 + cells) (hsn : σ.2.2 = n0 + slots) (hend : mz_END s0 D cA xt p l e R s m args below meth c Q M t adsE c0 n0 out σ')
    {ri : mzI} (hri : M.2.2.2[i]? = some ri) (h40 : ri.1 = 40) {as rest : List Value} {M' : mzM} {o : Option (Option Value)} {s' : mzS} {q : Nat × List Value} (htk : mz_take ri.2.2.1 st = some (as, rest)) (hM' : mzP[ri.2.1]? = some M') (hs8 : mz_sum rest ≤ 8) (hsa : mz_sum as ≤ M'.1) (hrecv : mz_recv M'.2.1 as σ = true) (hrun : mz_run mzP X n d' ri.2.1 0 (lv_args 0 as) [] σ = some (o, s')) (hres : mz_res M i rest o = some q) (hgo : mz_run mzP X n (d' + 1) j q.1 lo q.2 s' = some (out, σ')) :
    W p l e R s m args below meth c H locs cells slots Q (F0 m (mz_pc t.2.2.2.1 i) ls rst) := by
  obtain ⟨t', ht', hok'⟩ := mz_F2.get mz_okall hM'
  have hY' := mz_okY_at (mz_nolaw_at hM hri h40) hM' hok'
  obtain ⟨hx, hb, hml, hown, hts, hnm, hlk, hret, htab, hW0, hz0, hk0⟩ := id hFX
  have hCT : mz_CT D (fun q => s0.heap.size ≤ q) cA xt X s := mz_CT_moved hC0 hW0 hz0 hk0
  obtain ⟨hn, hasd, hrestd, -, haslen⟩ := mz_take_eq htk
  obtain ⟨ras, hrasd⟩ : ∃ z, z = (rst.take ri.2.2.1).reverse := ⟨_, rfl⟩
  obtain ⟨rrest, hrrd⟩ : ∃ z, z = rst.drop ri.2.2.1 := ⟨_, rfl⟩
  have hras : mz_FR (mz_ads xt ws) as ras := by rw [hasd, hrasd]; exact mz_F2.rev (mz_F2.take hst _)
  have hrr : mz_FR (mz_ads xt ws) rest rrest := by rw [hrestd, hrrd]; exact mz_F2.drop hst _
  have hrst : rst = ras.reverse ++ rrest := by rw [hrasd, hrrd, List.reverse_reverse, List.take_append_drop]
  have hraslen : ras.length = ri.2.2.1 := by rw [← mz_F2.len hras]; exact haslen
  have hMet := mz_contract hTHR IH hrun hM' ht' hY' hok'.1 hok'.2.1 hras hsa
  have hm1 := mz_mono hrun
  have hm2 := mz_mono hgo
  dsimp only at hm1 hm2
  have hmax := mz_maxL_at hM'
  have hws := mz_wsy_good hY'
  have hpre : ∀ U : State, U.heap = H → s.WarmedH U.vm → mz_Pc s0 D cA xt σ.1 ws ras ras.toArray U := by
    intro U hU hWU
    refine ⟨rfl, State.WarmedH.trans hW0 hWU, ?_, ?_, ?_, hP.2.1, hP.2.2.2⟩
    · rw [hU]; exact Nat.le_trans hz0 hP.2.2.1.1
    · intro z hz
      rw [hU, hP.2.2.1.2.1 z (Nat.lt_of_lt_of_le hz hz0) (by show ¬ s0.heap.size ≤ z; omega)]
      exact hk0 z hz
    · rw [hU]; exact hP.1
  have h8 : (rrest.map fun v => v.category).sum ≤ 8 := by rw [mz_FR.sum hrr]; exact hs8
  have hroom : 2 * (F0 m (mz_pc t.2.2.2.1 i) ls rst).monitorRoom + (rrest.map fun v => v.category).sum ≤ 8 := lv_room h8
  have hcc : cells + (s'.2.1 - σ.2.1) ≤ R.cells ∧ slots + (s'.2.2 - σ.2.2) ≤ R.slots := by omega
  have hRR : (mz_rm d' (s'.2.1 - σ.2.1) (s'.2.2 - σ.2.2)).frames + 1 ≤ R.frames ∧ 8 + (M'.1 + 11) + (mz_rm d' (s'.2.1 - σ.2.1) (s'.2.2 - σ.2.2)).locals ≤ R.locals := by
    show d' + 10 + 1 ≤ R.frames ∧ 8 + (M'.1 + 11) + (200 + 40 * d') ≤ R.locals
    omega
  have hFixed : CallFix p m c t.2.1 M.1 s args mz_WS t.1.cls := ⟨hx, hb, hml, hown, hts⟩
  obtain ⟨z0, hzz0⟩ := id hext
  unfold mz_okAt at hoki
  rw [hri] at hoki
  dsimp only at hoki
  split at hoki
  · rename_i ins len hdec
    rw [if_pos h40, hM', ht'] at hoki
    dsimp only at hoki
    obtain ⟨y', bytes', ret', pcs', wl', mws', hh'⟩ := t'
    dsimp only at hoki hMet
    unfold mz_k40 at hoki
    simp only [Bool.and_eq_true, decide_eq_true_eq] at hoki
    obtain ⟨⟨rfl, hnx⟩, hk⟩ := hoki
    have hnx := mz_nx_eq hnx
    have hY2 := hY'
    unfold mz_okY at hY2
    simp only [Bool.and_eq_true] at hY2
    obtain ⟨⟨⟨⟨hY1, hYi⟩, hYp⟩, hYd⟩, hYk⟩ := hY2
    have hYd := of_decide_eq_true hYd
    have kont : ∀ (v : Option Value) (t2 : State) (H1 : Heap) (locs1 : List Loc), t2.heap = H1 → (∃ ws', mz_ov (mz_ads xt ws') o v ∧ mz_B s0 D cA xt s'.1 (mz_ads xt ws) ws' t2.heap) → va_S (fun q => s0.heap.size ≤ q) s.heap H1 locs1 → W p l e R s m args below meth c H1 locs1 (cells + (s'.2.1 - σ.2.1)) (slots + (s'.2.2 - σ.2.2)) Q (F0 m (mz_pc t.2.2.2.1 i + 3) ls (v.toList ++ rrest)) := by
      rintro v t2 H1 locs1 rfl ⟨ws', hov, hB1, hB2, hB3, z, hz⟩ hS1
      have hq : ∃ st2, q = (i + 1, st2) ∧ mz_FR (mz_ads xt ws') st2 (v.toList ++ rrest) := by
        match o, hov, hres with
        | some none, hov, hres => cases hres; cases hov; exact ⟨rest, rfl, by rw [hz]; exact mz_FR.app hrr z⟩
        | some (some x), hov, hres =>
          cases hres
          obtain ⟨w, rfl, hw⟩ := hov
          exact ⟨x :: rest, rfl, hw, by rw [hz]; exact mz_FR.app hrr z⟩
        | none, hov, _ => exact hov.elim
      obtain ⟨st2, rfl, hst2⟩ := hq
      rw [← hnx]
      exact IH (d' + 1) j (i + 1) lo st2 s' out σ' M t hgo hM ht p e R s m args below meth c _ locs1 _ _ Q ws' ls rlo _ c0 n0 adsE hFX hRf hRl hRc hRs hl (by rw [hz]; exact mz_LR.app hlo z) hst2 ⟨hB1, hB2, hS1, hB3⟩ ⟨z0 ++ z, by rw [hz, hzz0, List.append_assoc]⟩ (by omega) (by omega) hend
    have hthrow : o = none → 0 < M'.2.1 ∧ y'.name ≠ "<init>" := by
      rintro rfl
      simp only [mz_res] at hres
      by_cases hcov : M.2.2.1.1 ≤ i ∧ i < M.2.2.1.2.1
      · have hhk := mz_hok_at hM ht
        unfold mz_hokB at hhk
        rw [Bool.or_eq_true] at hhk
        rcases hhk with hhk | hhk
        · have := of_decide_eq_true hhk; omega
        · split at hhk
          · rename_i xa xb xh xc hxt
            rw [Bool.and_eq_true, Bool.and_eq_true, Bool.and_eq_true] at hhk
            obtain ⟨⟨⟨g1, -⟩, -⟩, -⟩ := hhk
            have g5 := List.all_eq_true.mp g1 i (List.mem_range.mpr (List.getElem?_eq_some_iff.mp hri).1)
            rw [Bool.or_eq_true] at g5
            rcases g5 with g5 | g5
            · rw [decide_eq_true hcov] at g5; cases g5
            · rw [Bool.and_eq_true, hri] at g5
              have g7 := g5.2
              dsimp only at g7
              rw [h40, hM', ht'] at g7
              simpa using g7
          · cases hhk
      · rw [if_neg hcov] at hres; cases hres
    split at hk
    · rename_i ix
      simp only [Bool.and_eq_true, decide_eq_true_eq] at hk
      obtain ⟨⟨⟨hk1, hk2⟩, hk3⟩, hk4⟩ := hk
      obtain ⟨ci, hci⟩ : ∃ ci, M'.2.1 = ci + 1 := ⟨M'.2.1 - 1, by omega⟩
      rw [hci] at hYk hrecv
      dsimp only at hYk
      simp only [Bool.and_eq_true, Bool.or_eq_true, decide_eq_true_eq] at hYk
      obtain ⟨⟨⟨hv1, hv2⟩, hv3⟩, hv4⟩ := hYk
      have hv3 : mz_wok (mws'.getD 3 0) (.selects y'.cls y' y') = true := by
        rcases hv3 with ⟨h9, -⟩ | ⟨-, h9⟩
        · exact absurd h9 hk3
        · exact h9
      subst hv2
      unfold mz_recv at hrecv
      dsimp only at hrecv
      match as, hrecv, hras, haslen with
      | .ref r0 :: as', hrecv, hras, haslen =>
      match ras, hras, hraslen, hrst, hpre, hMet with
      | w0 :: ras', ⟨hw0, hras'⟩, hraslen, hrst, hpre, hMet =>
      dsimp only at hrecv
      cases hg0 : mz_get σ r0 with
      | none => rw [hg0] at hrecv; cases hrecv
      | some cell0 =>
      rw [hg0] at hrecv
      have hrecv : cell0.1 = 2 * ci := by simpa using hrecv
      obtain ⟨a0, ev, rfl, hwe, hcr, -⟩ := mz_gw hCT.1 hP.2.2.2 hg0 hw0
      have hev : ∃ fs, ev = .inr (ci, fs) := by
        rcases ev with ⟨cl, n', f | f | f | f | f⟩ | ⟨cj, fs⟩
        · rcases hcr.1 with q9 | q9 | q9 <;> omega
        · have := hcr.1; omega
        · exact hcr.elim
        · exact hcr.elim
        · have := hcr.1; omega
        · have h9 := hcr.1
          have : cj = ci := by omega
          subst this
          exact ⟨fs, rfl⟩
      obtain ⟨fs, rfl⟩ := hev
      cases hvc : vwCl[ci]? with
      | none => rw [hvc] at hv4; cases hv4
      | some rr =>
      rw [hvc] at hv4
      have hv4 : rr.1 = y'.cls := by simpa using hv4
      have hrec := va_recv hCT.2.1 hP.1 hvc hwe
      rw [hv4] at hrec
      have hstack : rst = ras'.reverse ++ .ref a0 :: rrest := by rw [hrst, List.reverse_cons, List.append_assoc]; rfl
      have hlen : ras'.length = mws'.getD 4 0 := by
        rw [List.length_cons] at hraslen
        omega
      have hgd : GoodIn mz_WS (wsV t.1.cls ix y'.cls y' (mz_wsy M' (y', bytes', ret', pcs', wl', mws', []))) := mz_good (by
        intro w hw
        unfold wsV at hw
        rcases List.mem_append.mp hw with h9 | h9
        · simp only [List.mem_cons, List.not_mem_nil, or_false] at h9
          rcases h9 with rfl | rfl | rfl | rfl
          · exact mz_wok_mem hk4
          · exact mz_wok_mem hv1
          · exact mz_wok_mem hv3
          · exact mz_wok_mem hYi
        · exact hws w h9)
      have hcw := cwV (R := R) (s := s) (args := args) (mws'.getD 4 0) hts hgd (y := y') (bytes := bytes') (maxL := M'.1) (ret := ret') (ws' := mz_WS) rfl (rm := mz_rm d' (s'.2.1 - σ.2.1) (s'.2.2 - σ.2.2)) (mc := s'.2.1 - σ.2.1) (ms := s'.2.2 - σ.2.2) rfl rfl ⟨rfl, hYd⟩ hRR
      cases o with
      | some rv =>
        have hM0 := mz_met hMet (fun _ _ _ h9 => by cases h9.1)
        have hr : va_Run p l e R s m args below meth c H locs cells slots (s'.2.1 - σ.2.1) (s'.2.2 - σ.2.2) (F0 m (mz_pc t.2.2.2.1 i) ls rst) rrest (mz_Qc s0 D cA xt s'.1 (mz_ads xt ws) (some rv) (Value.ref a0 :: ras').toArray) (fun q => s0.heap.size ≤ q) :=
          va_runV (As := ras') (rest := rrest) hFixed hM0 hcw ⟨mz_blind _ _ _ _ _ _ _, hrec, hpre⟩ rfl hlen hl.1 hstack hroom hdec hcc
        exact mz_callg hr hP.2.2.1 kont
      | none =>
        have hr : vx_Run p l e R s m args below meth c H locs cells slots (s'.2.1 - σ.2.1) (s'.2.2 - σ.2.2) (F0 m (mz_pc t.2.2.2.1 i) ls rst) rrest (mz_Qc s0 D cA xt s'.1 (mz_ads xt ws) none (Value.ref a0 :: ras').toArray) (mz_XC s0 D cA xt s'.1 (mz_ads xt ws) none) (fun q => s0.heap.size ≤ q) :=
          vx_runV (As := ras') (rest := rrest) hFixed hMet hcw ⟨mz_blind _ _ _ _ _ _ _, hrec, hpre⟩ rfl hlen hl.1 hstack hroom hdec hcc
        refine mz_callx (Bx := fun t2 => ∃ ws', mz_B s0 D cA xt s'.1 (mz_ads xt ws) ws' t2.heap) (E0 := "java/util/NoSuchElementException") hr (fun _ _ _ h9 => by obtain ⟨⟨v, -, ws', h8, -⟩, -⟩ := h9; exact h8) (fun E st9 t9 h9 => ⟨h9.2.1, h9.2.2.1, h9.2.2.2⟩) hP.2.2.1 ?_
        rintro qa ce t2 H1 locs1 rfl ⟨ws', hB1, hB2, hB3, z, hz⟩ hS1 hce hcv hcl
        simp only [mz_res] at hres
        by_cases hcov : M.2.2.1.1 ≤ i ∧ i < M.2.2.1.2.1
        · rw [if_pos hcov] at hres
          cases hres
          have hhk := mz_hok_at hM ht
          unfold mz_hokB at hhk
          rw [Bool.or_eq_true] at hhk
          rcases hhk with hhk | hhk
          · have := of_decide_eq_true hhk; omega
          · split at hhk
            · rename_i xa xb xh xc hxt
              rw [Bool.and_eq_true, Bool.and_eq_true, Bool.and_eq_true] at hhk
              obtain ⟨⟨⟨g1, g2⟩, g3⟩, g4⟩ := hhk
              have g2 := of_decide_eq_true g2
              have g3 := of_decide_eq_true g3
              have g4 := of_decide_eq_true g4
              have g5 := List.all_eq_true.mp g1 i (List.mem_range.mpr (List.getElem?_eq_some_iff.mp hri).1)
              rw [Bool.or_eq_true] at g5
              have g6 : xa ≤ mz_pc t.2.2.2.1 i ∧ mz_pc t.2.2.2.1 i < xb := by
                rcases g5 with g5 | g5
                · rw [decide_eq_true hcov] at g5; cases g5
                · rw [Bool.and_eq_true] at g5
                  exact of_decide_eq_true g5.1
              have htab : c.exceptionTable.toList = tableOf t.2.2.2.2.2.2 := by
                rcases htab with ⟨h9, -⟩ | h9
                · rw [hxt] at h9; cases h9
                · exact h9
              rw [hxt] at htab
              refine mz_catch (own := t.1.cls) (name := "java/util/NoSuchElementException") (E := "java/util/NoSuchElementException") hown ⟨xa, xb, xh, xc⟩ htab (by simp [covers, g6.1, g6.2]) g3 (hts _ g4) (va_Nw.use rfl (va_Nw.warmC hW0 (va_Nw.of rfl (hT0 _ mz_castw)))) hce hcv hcl ?_
              show W p l e R s m args below meth c t2.heap locs1 _ _ Q (F0 m xh ls [.ref qa])
              rw [g2]
              exact IH (d' + 1) j _ lo _ s' out σ' M t hgo hM ht p e R s m args below meth c _ locs1 _ _ Q ws' ls rlo [.ref qa] c0 n0 adsE hFX hRf hRl hRc hRs hl (by rw [hz]; exact mz_LR.app hlo z) ⟨⟨qa, rfl⟩, trivial⟩ ⟨hB1, hB2, hS1, hB3⟩ ⟨z0 ++ z, by rw [hz, hzz0, List.append_assoc]⟩ (by omega) (by omega) hend
            · cases hhk
        · rw [if_neg hcov] at hres; cases hres
    · rename_i ix
      simp only [Bool.and_eq_true, Bool.or_eq_true, decide_eq_true_eq] at hk
      obtain ⟨⟨hk1, hk2⟩, hk3⟩ := hk
      rw [hk2] at hYk
      dsimp only at hYk
      cases o with
      | none => exact absurd (hthrow rfl).1 (by omega)
      | some rv =>
      have hM0 := mz_met hMet (fun _ _ _ h9 => by cases h9.1)
      have hlen : ras.length = mws'.getD 4 0 := by rw [hraslen]; exact hk1
      have good : ∀ (lk : Cond), lk ∈ mz_WS → GoodIn mz_WS (([lk, .static y', .initialized y'.cls] : List Cond) ++ mz_wsy M' (y', bytes', ret', pcs', wl', mws', hh')) := fun lk hlk => mz_good (by
        intro w hw
        rcases List.mem_append.mp hw with h9 | h9
        · simp only [List.mem_cons, List.not_mem_nil, or_false] at h9
          rcases h9 with rfl | rfl | rfl
          · exact hlk
          · exact mz_wok_mem hYk
          · exact mz_wok_mem hYi
        · exact hws w h9)
      have hr : va_Run p l e R s m args below meth c H locs cells slots (s'.2.1 - σ.2.1) (s'.2.2 - σ.2.2) (F0 m (mz_pc t.2.2.2.1 i) ls rst) rrest (mz_Qc s0 D cA xt s'.1 (mz_ads xt ws) (some rv) ras.toArray) (fun q => s0.heap.size ≤ q) := by
        rcases hk3 with hk3 | ⟨hk3, hk4⟩
        · by_cases hhe : hh' = []
          · subst hhe
            exact va_runS (As := ras) (rest := rrest) hFixed hM0 (va_cwS (R := R) (s := s) (args := args) (mws'.getD 4 0) hts (good _ (mz_wok_mem hk3)) (y := y') (bytes := bytes') (maxL := M'.1) (ret := ret') (ws' := mz_WS) rfl rfl rfl hYd hRR) ⟨mz_blind _ _ _ _ _ _ _, hpre⟩ rfl hlen hl.1 hrst hroom hdec hcc
          · exact vx_runSW (As := ras) (rest := rrest) hFixed hM0 (vx_cwSW (R := R) (s := s) (args := args) (mws'.getD 4 0) hts (good _ (mz_wok_mem hk3)) (y := y') (bytes := bytes') (maxL := M'.1) (ret := ret') (hh := hh') (ws' := mz_WS) (by unfold mz_wsy; rw [if_neg hhe]) rfl rfl hYd hRR) ⟨mz_blind _ _ _ _ _ _ _, hpre⟩ rfl hlen hl.1 hrst hroom hdec hcc
        · subst hk3
          exact va_runSN (As := ras) (rest := rrest) hFixed hM0 ⟨va_cnB (R := R) (s := s) (args := args) (mws'.getD 4 0) hts (mz_good hws) (y := y') (bytes := bytes') (maxL := M'.1) (ret := ret') (ws' := mz_WS) rfl rfl rfl (va_Nw.warmM hW0 (va_Nw.of rfl (hT0 _ (mz_wq_mem hk4)))) (hts _ (mz_wok_mem hYi)) hYd hRR, hts _ (mz_wok_mem hYk), trivial⟩ ⟨mz_blind _ _ _ _ _ _ _, hpre⟩ rfl hlen hl.1 hrst hroom hdec hcc
      exact mz_callg hr hP.2.2.1 kont
    · rename_i ix
      simp only [Bool.and_eq_true, Bool.or_eq_true, decide_eq_true_eq] at hk
      obtain ⟨⟨⟨hk1, hk2⟩, hk3⟩, hk4⟩ := hk
      obtain ⟨ci, hci⟩ : ∃ ci, M'.2.1 = ci + 1 := ⟨M'.2.1 - 1, by omega⟩
      rw [hci] at hYk hrecv
      dsimp only at hYk
      simp only [Bool.and_eq_true, Bool.or_eq_true, decide_eq_true_eq] at hYk
      obtain ⟨⟨⟨hv1, hv2⟩, hv3⟩, hv4⟩ := hYk
      have hv3 : ret' = none := by
        rcases hv3 with ⟨-, h9⟩ | ⟨h9, -⟩
        · exact h9
        · exact absurd hk3 h9
      subst hv2
      subst hv3
      cases o with
      | none => exact absurd hk3 (hthrow rfl).2
      | some rv =>
      have hM0 := mz_met hMet (fun _ _ _ h9 => by cases h9.1)
      unfold mz_recv at hrecv
      dsimp only at hrecv
      match as, hrecv, hras, haslen with
      | .ref r0 :: as', hrecv, hras, haslen =>
      match ras, hras, hraslen, hrst, hpre, hM0 with
      | w0 :: ras', ⟨hw0, hras'⟩, hraslen, hrst, hpre, hM0 =>
      obtain ⟨a0, -, rfl⟩ := hw0
      have hstack : rst = ras'.reverse ++ .ref a0 :: rrest := by rw [hrst, List.reverse_cons, List.append_assoc]; rfl
      have hlen : ras'.length = mws'.getD 4 0 := by
        rw [List.length_cons] at hraslen
        omega
      have hr : va_Run p l e R s m args below meth c H locs cells slots (s'.2.1 - σ.2.1) (s'.2.2 - σ.2.2) (F0 m (mz_pc t.2.2.2.1 i) ls rst) rrest (mz_Qc s0 D cA xt s'.1 (mz_ads xt ws) (some rv) (Value.ref a0 :: ras').toArray) (fun q => s0.heap.size ≤ q) := by
        rcases hk4 with hk4 | hk4
        · exact va_runI (As := ras') (rest := rrest) hFixed hM0 (cwI (R := R) (s := s) (args := args) (mws'.getD 4 0) hts (mz_good hws) (y := y') (bytes := bytes') (maxL := M'.1) (ws' := mz_WS) rfl rfl rfl (hts _ (mz_wok_mem hYi)) (hts _ (mz_wok_mem hk4)) (hts _ (mz_wok_mem hv1)) hk3 hYd hRR) ⟨mz_blind _ _ _ _ _ _ _, hpre⟩ rfl hlen hl.1 hstack hroom hdec hcc
        · exact va_runIN (As := ras') (rest := rrest) hFixed hM0 ⟨va_cnB (R := R) (s := s) (args := args) (mws'.getD 4 0) hts (mz_good hws) (y := y') (bytes := bytes') (maxL := M'.1) (ret := none) (ws' := mz_WS) rfl rfl rfl (va_Nw.warmM hW0 (va_Nw.of rfl (hT0 _ (mz_wq_mem hk4)))) (hts _ (mz_wok_mem hYi)) hYd hRR, hk3, hts _ (mz_wok_mem hv1)⟩ ⟨mz_blind _ _ _ _ _ _ _, hpre⟩ rfl hlen hl.1 hstack hroom hdec hcc
      exact mz_callg hr hP.2.2.1 kont
    · cases hk
  · cases hoki
end
section
/-! the simulation itself, by the number of steps -/
theorem mz_main {l : Launch} {s0 : State} {D : va_G} {cA : Nat → ClassId} {xt : List Nat} {X : List (List Value)} {args0 : Array Value} (hT0 : ∀ w ∈ lw_tbl, w.before args0 s0 = true) (hC0 : mz_CT D (fun q => s0.heap.size ≤ q) cA xt X s0) (hTHR : mz_THR l s0) : ∀ n, mz_GO l s0 D cA xt X n := by
  intro n
  induction n with
  | zero => intro d j i lo st σ out σ' M t h; simp [mz_run] at h
  | succ n IH =>
    intro d j i lo st σ out σ' M t h hM ht p e R s m args below meth c H locs cells slots Q ws ls rlo rst c0 n0 adsE hFX hRf hRl hRc hRs hl hlo hst hP hext hcn hsn hend
    obtain ⟨M2, ri, hM2, hri, hcs⟩ := mz_run_cases h
    cases hM.symm.trans hM2
    obtain ⟨t', ht', hok⟩ := mz_F2.get mz_okall hM
    cases ht.symm.trans ht'
    have hoki := hok.1 i
    obtain ⟨hx, hb, hml, hown, hts, hnm, hlk, hret, htab, hW0, hz0, hk0⟩ := id hFX
    have hCT : mz_CT D (fun q => s0.heap.size ≤ q) cA xt X s := mz_CT_moved hC0 hW0 hz0 hk0
    have hmono := mz_mono h
    dsimp only at hmono
    rcases hcs with ⟨h40, d', as, rest, M', o, s', q, rfl, htk, hM', hs8, hsa, hrecv, hrun, hres, hgo⟩ | hfin | ⟨hop, q, hq, hgo⟩ | ⟨h40, h41, h42, h43, q, hq, hgo⟩
    · exact mz_callcase hT0 hC0 hTHR IH hM ht hoki hFX hRf hRl hRc hRs hl hlo hst hP hext hcn hsn hend hri h40 htk hM' hs8 hsa hrecv hrun hres hgo
    · exact hend i ri ls st rst σ H locs ws cells slots hri hfin hl.1 hst hP hext hcn hsn
    · unfold mz_okAt at hoki
      rw [hri] at hoki
      dsimp only at hoki
      split at hoki
      · rename_i ins len hdec
        rw [if_neg (by omega), if_neg (by omega), if_neg (by omega), if_neg (by omega), if_neg (by omega)] at hoki
        exact mz_sim1 hx hb hown hts hdec hoki hop hl hlo hst hq (fun ls' rlo' rst' g1 g2 g3 => IH d j q.1 q.2.1 q.2.2 σ out σ' M t hgo hM ht p e R s m args below meth c H locs cells slots Q ws ls' rlo' rst' c0 n0 adsE hFX hRf hRl hRc hRs g1 g2 g3 hP hext hcn hsn hend)
      · cases hoki
    · have hm2 := mz_mono hgo
      dsimp only at hm2
      unfold mz_okAt at hoki
      rw [hri] at hoki
      dsimp only at hoki
      split at hoki
      · rename_i ins len hdec
        have h44 : ri.1 ≠ 44 := by
          intro h44
          unfold mz_heap at hq
          rw [h44] at hq
          cases hq
        rw [if_neg h40, if_neg h41, if_neg h42, if_neg h43, if_neg h44] at hoki
        refine mz_sim2 hx hb hown hts hnm (hl.1.trans hml.symm) (by omega) (by omega) hdec hoki hCT hP hst hcn hsn hq (by omega) (by omega) (fun H' locs' ws' rst' cells' slots' g1 g2 g3 g4 g5 => ?_)
        obtain ⟨z, hz⟩ := g2
        obtain ⟨z0, hz0⟩ := hext
        exact IH d j (i + 1) lo q.1 q.2 out σ' M t hgo hM ht p e R s m args below meth c H' locs' cells' slots' Q ws' ls rlo rst' c0 n0 adsE hFX hRf hRl hRc hRs hl (by rw [hz]; exact mz_LR.app hlo z) g3 g1 ⟨z0 ++ z, by rw [hz, hz0, List.append_assoc]⟩ g4 g5 hend
      · cases hoki
end
section
/-! 'throw new NoSuchElementException("..")': the kit's row for throws asks for pool number 7 in the constructor; this one's is 13 -/
def mz_N : String := "java/util/NoSuchElementException"
def mz_RT : String := "java/lang/RuntimeException"
def mz_chain : List Cond := Bundle.passSAtoms mz_N mz_RT 13 prog_23_method_4_code ++ Bundle.chainSAtoms mz_RT ["java/lang/Exception"]
def mz_last : List Cond := [.methodLink "LoopsToUnits" 131 (Bundle.initS mz_N), .instantiable mz_N 6, .castable mz_N mz_N, .selects mz_N Bundle.tFill0 Bundle.tFill0, .selects mz_N Bundle.tFill Bundle.tFill, .lays mz_N Bundle.tN "cause" "Ljava/lang/Throwable;", .lays mz_N Bundle.tN "stackTrace" Bundle.steD, .lays mz_N Bundle.tN "suppressedExceptions" Bundle.listD, .lays mz_N Bundle.tN "detailMessage" "Ljava/lang/String;", .isRef (.static Bundle.tN "UNASSIGNED_STACK" Bundle.steD), .isRef (.static Bundle.tN "SUPPRESSED_SENTINEL" Bundle.listD), .fieldLink Bundle.tN 198 Bundle.tN "backtrace" "Ljava/lang/Object;", .lays Bundle.tN Bundle.tN "backtrace" "Ljava/lang/Object;", .lays mz_N Bundle.tN "backtrace" "Ljava/lang/Object;"]
def mz_at : List Cond := Bundle.throwableAtoms ++ (Bundle.throwableSAtoms ++ (mz_chain ++ mz_last))
section MZT
variable {p : Program} {l : Launch} {e : Env} {R : Room} {s : State} {m₀ : MethodId} {args : Array Value} {below : List Frame} {meth : Method} {c : Code} {W : State} {cells slots : Nat}
set_option maxHeartbeats 1000000 in
theorem mz_ctor (X : Stand p l e R s m₀ args below meth c W [] cells slots) (hexec : p.tables.exec = Jvm.exec) (htr : e.platform.stackTraces = false)
    (hown : s.vm.findClass "LoopsToUnits" = some m₀.cls) (h : ∀ a ∈ mz_at, a.before args s = true)
    {a : Addr} {cX : ClassId} {kX : Class} (hfoundX : s.vm.findClass mz_N = some cX) (hkX : s.vm.classes[cX]? = some kX) (hcell : W.heap[a]? = some (freshCell cX kX)) (hnew : s.heap.size ≤ a)
    {msg : Value} (hmsg : msg.isRef = true) {g : JFrame} (hg : g.method = m₀) (hsize : g.locals.size = c.maxLocals) (hlocked : g.locked = none) (hentered : g.entered = []) {rest : List Value} (hstack : g.stack = msg :: .ref a :: .ref a :: rest)
    (hd6 : decode c.code g.pc = .ok (.invokespecial 131, 3)) (hd9 : decode c.code (g.pc + 3) = .ok (.athrow, 1)) (hout : ∀ x ∈ c.exceptionTable.toList, covers x (g.pc + 3) = false)
    (hRframes : 5 < R.frames) (hRlocals : 2 * g.monitorRoom + ((Value.ref a :: rest).map fun v => v.category).sum + 81 ≤ R.locals) (hlocks : meth.locks = false) :
    ∃ U : State, Steps p.tables e below (W.setTop g) U ∧ U.status = .running ∧ Ended U below (.threw a) ∧ s.WarmedH U.vm ∧ s.sameButNew ({ U with vm := s.vm } : State) [] cells slots ∧
      ∃ ce, U.heap[a]? = some ce ∧ ce.vm = .none ∧ s.vm.findClass mz_N = some ce.cls := by
  have pf : e.platform.frameOwnsMonitors = true ∧ e.platform.finalization = false ∧ e.platform.magicAccessors = ({} : Platform).magicAccessors := by rw [X.admits.platform]; exact ⟨rfl, rfl, rfl⟩
  obtain ⟨howns, hfin, hpl⟩ := pf
  have w1 : ∀ x ∈ Bundle.throwableAtoms, x.before args s = true := fun x hx => h x (List.mem_append_left _ hx)
  have w2 : ∀ x ∈ Bundle.throwableSAtoms, x.before args s = true := fun x hx => h x (List.mem_append_right _ (List.mem_append_left _ hx))
  have w3 : ∀ x ∈ mz_chain, x.before args s = true := fun x hx => h x (List.mem_append_right _ (List.mem_append_right _ (List.mem_append_left _ hx)))
  have w4 : ∀ x ∈ mz_last, x.before args s = true := fun x hx => h x (List.mem_append_right _ (List.mem_append_right _ (List.mem_append_right _ hx)))
  obtain ⟨T, Z0, L, -, Y⟩ := ThrowableC.of_atoms (args := args) howns hfin hpl w1
  obtain ⟨Z, M, LZ, LM, hnZ⟩ := Init0T.ofS_atoms (args := args) hpl L Y w2
  obtain ⟨P0, L0, hm0, hs0⟩ := PassC.ofS_atoms (args := args) (s := s) hpl (X := mz_N) (Y := mz_RT) (index := 13) (bytes := prog_23_method_4_code) (by decide) (by decide) (by decide +kernel) (by decide +kernel) (by decide +kernel) (by decide +kernel) (fun x hx => w3 x (List.mem_append_left _ hx))
  obtain ⟨P1, Ps, hlen, L1, hL, hP1m, hlink1, hlink⟩ := Bundle.chainS (args := args) hpl hnZ ["java/lang/Exception"] mz_RT (by decide) (by decide) (fun x hx => w3 x (List.mem_append_right _ hx))
  have hP0 : P0.sup = P1.m := Option.some.inj (hs0.symm.trans hP1m)
  have hfound : s.vm.findClass mz_N = some P0.m.cls := findClass_of_methodNamed hm0
  cases Option.some.inj (hfoundX.symm.trans hfound)
  obtain ⟨c1, kX', hc1, hk, hord, -, -, hn6⟩ := Cond.instantiable_spec (w4 (.instantiable mz_N 6) (by simp [mz_last]))
  cases Option.some.inj (hc1.symm.trans hfound)
  cases Option.some.inj (hkX.symm.trans hk)
  have hsel : ∀ (y : MethodName) (k : MethodId), (Cond.selects mz_N y y).before args s = true → s.methodNamed? y = some k → (y.cls ≠ "java/lang/invoke/MethodHandle" ∧ y.cls ≠ "java/lang/invoke/VarHandle") → selectMethod e.platform s.vm P0.m.cls k = .method k := by
    intro y k hy hyk hyn
    obtain ⟨c2, r2, m2, q1, q2, q3, q4, -⟩ := Cond.selects_spec hy
    cases Option.some.inj (q1.symm.trans hfound)
    cases Option.some.inj (q2.symm.trans (State.methodFound?_of_named hyk hyn))
    cases Option.some.inj (q3.symm.trans hyk)
    rw [Launch.admits_selectMethod X.admits]; exact q4
  have hsel0 := hsel Bundle.tFill0 T.fill0 (w4 _ (by simp [mz_last])) Y.fill0 (by decide)
  have hselF := hsel Bundle.tFill T.fill (w4 _ (by simp [mz_last])) Y.fill (by decide)
  obtain ⟨cellS0, hcS0, hiss⟩ := Y.statics
  obtain ⟨u0, hu0⟩ := Cond.staticRefV Y.unassigned L.unassignedStatic L.statics hcS0 hiss (w4 (.isRef (.static Bundle.tN "UNASSIGNED_STACK" Bundle.steD)) (by simp [mz_last]))
  obtain ⟨sen, hsen⟩ := Cond.staticRefV Y.sentinel L.sentinelStatic L.statics hcS0 hiss (w4 (.isRef (.static Bundle.tN "SUPPRESSED_SENTINEL" Bundle.listD)) (by simp [mz_last]))
  obtain ⟨ci198, i198, fB, hk198, hg198, ha198, hsB, -, hnB, htB, hffB⟩ := Cond.ownField (t := .object "java/lang/Object") Y.found L.cls (by decide +kernel) (w4 (.fieldLink Bundle.tN 198 Bundle.tN "backtrace" "Ljava/lang/Object;") (by simp [mz_last])) (w4 (.lays Bundle.tN Bundle.tN "backtrace" "Ljava/lang/Object;") (by simp [mz_last])) e.platform hpl
  obtain ⟨cellS, hcellS, heS, -, hkeep⟩ := X.same.2.2.2.2.2 T.aS cellS0 hcS0
  have hcellS : W.heap[T.aS]? = some cellS := hcellS
  have hknownS : cellS.vm ≠ .unknown := by
    rw [heS]; intro hu
    rw [show cellS0.vm = .unknown from hu] at hiss
    cases hiss
  have hneS : T.aS ≠ a := Nat.ne_of_lt (Nat.lt_of_lt_of_le (Array.getElem?_eq_some_iff.mp hcS0).1 hnew)
  obtain ⟨iM, hffM⟩ := Y.msg
  obtain ⟨tyC, dC, hdC, hdnC⟩ := Cond.laysAt hfound hk Y.cause (w4 (.lays mz_N Bundle.tN "cause" "Ljava/lang/Throwable;") (by simp [mz_last]))
  obtain ⟨tyS, dS, hdS, hdnS⟩ := Cond.laysAt hfound hk Y.stack (w4 (.lays mz_N Bundle.tN "stackTrace" Bundle.steD) (by simp [mz_last]))
  obtain ⟨tyP, dP, hdP, hdnP⟩ := Cond.laysAt hfound hk Y.supp (w4 (.lays mz_N Bundle.tN "suppressedExceptions" Bundle.listD) (by simp [mz_last]))
  obtain ⟨tyM, dM, hdM, hdnM⟩ := Cond.laysAt hfound hk hffM (w4 (.lays mz_N Bundle.tN "detailMessage" "Ljava/lang/String;") (by simp [mz_last]))
  obtain ⟨tyB, dB, hdB, hdnB⟩ := Cond.laysAt hfound hk hffB (w4 (.lays mz_N Bundle.tN "backtrace" "Ljava/lang/Object;") (by simp [mz_last]))
  have bC := Cond.laysApart hdB hdC hdnB hdnC (by rw [hnB, Y.causeName]; decide)
  have bS := Cond.laysApart hdB hdS hdnB hdnS (by rw [hnB, Y.stackName]; decide)
  have bP := Cond.laysApart hdB hdP hdnB hdnP (by rw [hnB, Y.suppName]; decide)
  have hskip : SkipFacts T e.platform s (fun u => u) u0 ((preparedCellV T.toThrowableT (freshCell P0.m.cls kX) a u0 sen).withEntry W.cur) :=
    ⟨{ ci198 := ci198, i198 := i198, fBack := fB }, ⟨hk198, hg198, ha198, hsB⟩, by
      have := fresh_default (c := P0.m.cls) tyB
      rw [htB] at this
      simpa [preparedCellV, Cell.setSlot, Cell.withEntry, Array.getElem?_setIfInBounds, bC, bS, bP, bC.symm, bS.symm, bP.symm, defaultValue] using this, fun _ _ => rfl⟩
  obtain ⟨tm, methC, cdC, kC, vm₁, hnC, -, -, -, -, -, -, -, hW₁, st1⟩ := Steps.initColdS (tb := p.tables) (e := e) (below := below) (s := s) (U := W) X.here hexec X.warmed hpl hown (t := Bundle.initS mz_N) rfl rfl (by decide)
    (w4 (.methodLink "LoopsToUnits" 131 (Bundle.initS mz_N)) (by simp [mz_last])) (w3 (.instanceMethod (Bundle.initS mz_N)) (by simp [mz_chain, Bundle.passSAtoms])) (bytes := prog_23_method_4_code) (maxL := 2) (w3 (.code (Bundle.initS mz_N) prog_23_method_4_code 2 none) (by simp [mz_chain, Bundle.passSAtoms]))
    (f := g) hg (a := a) (msg := msg) (rest := .ref a :: rest) hstack hd6
  cases Option.some.inj (hnC.symm.trans hm0)
  have X₁ := X.noted hW₁
  obtain ⟨vm₂, X₂, st2⟩ := X₁.ctorMessageOffV hexec (g := { g with stack := .ref a :: rest }) hg hsize T L Z LZ M LM (P0 :: P1 :: Ps)
    (fun P hP => by
      rcases List.mem_cons.mp hP with rfl | hP
      · exact L0
      · rcases List.mem_cons.mp hP with rfl | hP
        · exact L1
        · exact hL P hP) ⟨hP0, hlink1, hlink⟩ (u0 := u0) (sen := sen) (self := a) hmsg (cell := freshCell P0.m.cls kX) (cellS := cellS)
    hcell (fun _ => by simp) (by simp) rfl rfl hsel0 hselF hcellS hneS hknownS (by rw [hkeep _ (by simp)]; exact hu0) (by rw [hkeep _ (by simp)]; exact hsen)
    (Takes.of_laid hk hord tyC (by rw [Y.causeType]; rfl)) (Takes.of_laid hk hord tyS (by rw [Y.stackType]; exact fits_refV_array _ u0)) (Takes.of_laid hk hord tyP (by rw [Y.suppType]; exact fits_refV_object _ sen))
    (Takes.of_laid hk hord tyM (by rw [Y.msgType]; exact fits_refV_object _ ⟨msg, hmsg⟩)) Y.objLocals hskip htr [] hd6
    (by simp only [List.length_cons, hlen]; simpa using hRframes) (by simp only [List.length_cons, hlen]; simpa using hRlocals)
  obtain ⟨hwalk, hrun, hended, hWU, hsame⟩ := X₂.athrowLeaves hexec (g := { g with stack := .ref a :: rest, pc := g.pc + 3 }) hg hlocked hentered hout (a := a) (rest := rest) rfl hd9
  have hlt : a < ((W.setVm vm₁).setVm vm₂).heap.size := (Array.getElem?_eq_some_iff.mp hcell).1
  have hU := heapAt_setCell_self (s := (W.setVm vm₁).setVm vm₂) (plainBareV T.toThrowableT (freshCell P0.m.cls kX) a u0 sen msg) hlt
  refine ⟨_, st1 _ (fun acts => ?_), hrun, hended, hWU, hsame.weaken (fun y hy hlt' => ?_) (Nat.le_refl _) (Nat.le_refl _), _, hU, rfl, hfound⟩
  · rw [doInvoke_state]
    exact st2 _ hwalk
  · exfalso
    have hb : y.base = a := by
      simp only [List.nil_append, List.mem_cons, List.not_mem_nil, or_false] at hy
      rcases hy with rfl | rfl | rfl | rfl | rfl <;> rfl
    rw [hb] at hlt'
    exact Nat.not_lt.mpr hnew hlt'
end MZT
end
section
/-! throws: the row, and that every throw of the class is one -/
def mz_dc (w : Cond) : Bool := match w with
  | .declares _ => true
  | .castable _ _ => true
  | _ => false
def mz_at2 : List Cond := mz_at.filter vx_no
set_option maxRecDepth 100000 in
theorem mz_at2_ok : mz_at2.all (fun w => decide (w ∈ lw_tbl) && (goodWord w || mz_dc w)) = true := by decide +kernel
set_option maxRecDepth 100000 in
theorem mz_at2_ot : mz_at2.all vx_ot = true := by decide +kernel
/-- the words of a throw, seen at a later state -/
theorem mz_at2_at {s0 s : State} {args0 args : Array Value} (hT0 : ∀ w ∈ lw_tbl, w.before args0 s0 = true) (hts : ∀ w ∈ mz_WS, w.before args s = true) (hW : s0.WarmedH s.vm) : ∀ w ∈ mz_at2, w.before args s = true := by
  intro w hw
  have h := List.all_eq_true.mp mz_at2_ok w hw
  simp only [Bool.and_eq_true, Bool.or_eq_true, decide_eq_true_eq] at h
  obtain ⟨h1, h2⟩ := h
  rcases h2 with h2 | h2
  · exact hts w (List.mem_filter.mpr ⟨h1, h2⟩)
  · unfold mz_dc at h2
    split at h2
    · exact va_Nw.use rfl (va_Nw.warmD hW (va_Nw.of rfl (hT0 _ h1)))
    · exact va_Nw.use rfl (va_Nw.warmC hW (va_Nw.of rfl (hT0 _ h1)))
    · cases h2
theorem mz_at_of {s : State} {args : Array Value} (h1 : ∀ w ∈ mz_at2, w.before args s = true) (a1 : (Cond.isRef (.static Bundle.tN "UNASSIGNED_STACK" Bundle.steD)).before args s = true) (a2 : (Cond.isRef (.static Bundle.tN "SUPPRESSED_SENTINEL" Bundle.listD)).before args s = true) (a3 : (Cond.laysStatic Bundle.tN "UNASSIGNED_STACK" Bundle.steD).before args s = true) (a4 : (Cond.laysStatic Bundle.tN "SUPPRESSED_SENTINEL" Bundle.listD).before args s = true) : ∀ w ∈ mz_at, w.before args s = true := by
  intro w hw
  by_cases hn : vx_no w = true
  · exact h1 w (List.mem_filter.mpr ⟨hw, hn⟩)
  · unfold vx_no at hn
    simp only [Bool.and_eq_true, decide_eq_true_eq, Classical.not_and_iff_not_or_not, Classical.not_not] at hn
    rcases hn with ((rfl | rfl) | rfl) | rfl
    · exact a1
    · exact a2
    · exact a3
    · exact a4
section MZU
variable {p : Program} {l : Launch} {e : Env} {R : Room} {s : State} {m : MethodId} {args : Array Value} {below : List Frame} {meth : Method} {c : Code} {H : Heap} {locs : List Loc} {cells slots : Nat}
variable {mc ms : Nat} {free : Addr → Prop} {ls : Array Slot} {rest : List Value}
variable {Qc : Array Value → State → Outcome → State → Prop} {XC : String → State → State → Prop}
theorem mz_throwW {cc : ByteArray} {pc wd : Nat} (hwd : wd = 6 ∨ wd = 7) (hexec : p.tables.exec = Jvm.exec) (hb : c.code = cc) (hl : l.stackTraces = false) {text : String} {is sa : Nat} {A : Nat → Prop}
    (hown : s.vm.findClass "LoopsToUnits" = some m.cls) (hk : (Cond.classLink "LoopsToUnits" 127 mz_N).before args s = true) (hini : (Cond.initialized mz_N).before args s = true) (hstr : vk_R "LoopsToUnits" is text sa s) (hat : ∀ w ∈ mz_at2, w.before args s = true)
    (hU : vx_Zq Bundle.tN "UNASSIGNED_STACK" Bundle.steD A s s.heap) (hN : vx_Zq Bundle.tN "SUPPRESSED_SENTINEL" Bundle.listD A s s.heap) (hS : va_S A s.heap H locs) (hsize : ls.size = c.maxLocals)
    (d0 : decode cc pc = .ok (.new 127, 3)) (d3 : decode cc (pc + 3) = .ok (.dup, 1)) (d4 : (wd = 6 ∧ decode cc (pc + 4) = .ok (.ldc is, 2)) ∨ (wd = 7 ∧ decode cc (pc + 4) = .ok (.ldc_w is, 3))) (d6 : decode cc (pc + wd) = .ok (.invokespecial 131, 3)) (d9 : decode cc (pc + wd + 3) = .ok (.athrow, 1))
    (hout : ∀ x ∈ c.exceptionTable.toList, covers x (pc + wd + 3) = false)
    (hRframes : 5 < R.frames) (hRlocals : (rest.map fun v => v.category).sum + 82 ≤ R.locals) (hRcells : cells + 1 ≤ R.cells) (hRslots : slots + 6 ≤ R.slots) (hlocks : meth.locks = false)
    (hx : ∀ t : State, s.vm.Alike t.vm → H.size ≤ t.heap.size → (∀ q : Nat, q < H.size → t.heap[q]? = H[q]?) → XC mz_N s t)
    (hf : ∀ z ∈ locs, free z.base) (hc : cells + 1 ≤ mc) (hs : slots + 6 ≤ ms) :
    W p l e R s m args below meth c H locs cells slots (vx_MQ below Qc XC args s mc ms free) (F0 m pc ls rest) := by
  intro T hT X
  have htr : e.platform.stackTraces = false := (show e.platform.stackTraces = l.stackTraces by rw [X.admits.platform]).trans hl
  have Y := vx_rebase X (R' := { frames := R.frames, locals := R.locals, cells := 1, slots := 6 }) (Nat.le_refl _) (Nat.le_refl _) hRcells hRslots
  obtain ⟨s', hA⟩ : ∃ z, z = (T.setVm s.vm).setFrames (.invoking m args :: below) := ⟨_, rfl⟩
  rw [← hA] at Y
  have hvm : s'.vm = s.vm := by rw [hA]; rfl
  have hhp : s'.heap = H := by rw [hA]; exact hT
  have hW0 : s.WarmedH s'.vm := by rw [hvm]; exact State.WarmedH.refl s
  have ot : ∀ w, vx_ot w = true → w.before args s = true → w.before args s' = true := fun w h1 h2 => vx_ot_at hW0 hvm.symm h1 h2
  have hat' : ∀ w ∈ mz_at2, w.before args s' = true := fun w hw => ot w (List.all_eq_true.mp mz_at2_ot w hw) (hat w hw)
  have hk' := ot _ (by decide) hk
  have hini' := ot _ (by decide) hini
  have hU' : vx_Zq Bundle.tN "UNASSIGNED_STACK" Bundle.steD A s' s'.heap := by rw [hhp]; exact vx_Zq.moved hW0.alike (hU.kept hS.2.1)
  have hN' : vx_Zq Bundle.tN "SUPPRESSED_SENTINEL" Bundle.listD A s' s'.heap := by rw [hhp]; exact vx_Zq.moved hW0.alike (hN.kept hS.2.1)
  have h : ∀ w ∈ mz_at, w.before args s' = true := mz_at_of hat' (vx_isRefq hU'.1) (vx_isRefq hN'.1) hU'.2.word hN'.2.word
  have hown' : s'.vm.findClass "LoopsToUnits" = some m.cls := by rw [hvm]; exact hown
  have hins : (Cond.instantiable mz_N 6).before args s' = true := h _ (by simp [mz_at, mz_last])
  obtain ⟨vm₁, cX, kX, hfX, hkX, -, -, X₁, st1⟩ := Y.newCold hexec (own := "LoopsToUnits") (C := mz_N) (index := 127) (n := 6) hown' hk' hins hini'
    (g := F0 m pc ls rest) rfl (by rw [hb]; exact d0) (Nat.le_refl _) (Nat.le_refl _)
  generalize hT1 : (T.setVm vm₁).pushCell { cls := cX, slots := kX.instanceTypes.map defaultValue, vm := .none } = T1 at X₁ st1
  have hcat : (Value.ref T.heap.size).category = 1 := rfl
  have hcellA : T1.heap[T.heap.size]? = some (freshCell cX kX) := by rw [← hT1]; exact State.heap_pushCell_size _ _
  have d3' : decode c.code (pc + 3) = .ok (.dup, 1) := by rw [hb]; exact d3
  have hstr' : vk_R "LoopsToUnits" is text sa s' := vk_R.warm hW0 hstr
  obtain ⟨U, hsteps, hrun, hend, hW, hsame, ce, hce, hcv, hcl0⟩ := mz_ctor X₁ hexec htr hown' h hfX hkX hcellA (by rw [hhp, hT]; exact Nat.le_refl _) (msg := .ref sa) rfl
    (g := { method := m, pc := pc + wd, locals := ls, stack := .ref sa :: .ref T.heap.size :: .ref T.heap.size :: rest, locked := none }) rfl hsize rfl rfl (rest := rest) rfl
    (by rw [hb]; exact d6) (by rw [hb]; exact d9) hout hRframes (by simp only [List.map_cons, List.sum_cons, hcat]; show 2 * 0 + _ + 81 ≤ _; omega) hlocks
  obtain ⟨f1, f2⟩ := vx_frame hsame
  rw [hhp] at f1 f2
  have hWs : s.WarmedH U.vm := State.WarmedH.trans hW0 hW
  have hcl : s.vm.findClass mz_N = some ce.cls := by rw [hvm] at hcl0; exact hcl0
  have hall : s.sameButNew ({ U with vm := s.vm } : State) locs mc ms := by
    subst hA
    obtain ⟨e1, e2⟩ := hsame
    rw [State.setFrames_setFrames] at e1
    have h2 : (T.setVm s.vm).sameButNew ({ U with vm := s.vm } : State) [] (0 + 1) (0 + 6) := ⟨e1, e2⟩
    have h3 := X.same.trans h2
    rw [List.append_nil] at h3
    exact h3.mono hc hs
  refine ⟨U, ?_, .threw T.heap.size, hrun, hend, Or.inr ⟨T.heap.size, rfl, mz_N, ce, locs, hx U hWs.alike f1 (fun q hq => f2 q hq (fun z hz => nomatch hz)), hce, hcv, hcl, hWs, hall, hf⟩⟩
  refine st1 _ ?_
  show Steps p.tables e below (T1.setTop { method := m, pc := pc + 3, locals := ls, stack := .ref T.heap.size :: rest, locked := none }) _
  jvm_step X₁.here [X₁.here.top, hexec, d3', Value.category]
  rcases d4 with ⟨rfl, d4⟩ | ⟨rfl, d4⟩
  · exact X₁.ldcString hexec (own := "LoopsToUnits") (text := text) (index := is) (a := sa) hown' hstr'.1 hstr'.2
      (g := { method := m, pc := pc + 4, locals := ls, stack := .ref T.heap.size :: .ref T.heap.size :: rest, locked := none }) rfl (by rw [hb]; exact d4) _ hsteps
  · exact X₁.ldcStringW hexec (own := "LoopsToUnits") (text := text) (index := is) (a := sa) hown' hstr'.1 hstr'.2
      (g := { method := m, pc := pc + 4, locals := ls, stack := .ref T.heap.size :: .ref T.heap.size :: rest, locked := none }) rfl (by rw [hb]; exact d4) _ hsteps
end MZU
def mz_strs : List (Nat × String) := [(129, "no such CELL"), (137, "no such ACT, or nothing such of it"), (247, "no such ACT"), (338, "no such number of the ROW")]
def mz_thrB (t : mzT) (pc : Nat) : Bool := decide (decode t.2.1 pc = .ok (.new 127, 3)) && decide (decode t.2.1 (pc + 3) = .ok (.dup, 1)) && decide (t.1.cls = "LoopsToUnits" ∧ t.2.2.2.2.2.2 = []) &&
  mz_strs.any (fun q => (decide (decode t.2.1 (pc + 4) = .ok (.ldc q.1, 2)) && decide (decode t.2.1 (pc + 6) = .ok (.invokespecial 131, 3)) && decide (decode t.2.1 (pc + 9) = .ok (.athrow, 1))) || (decide (decode t.2.1 (pc + 4) = .ok (.ldc_w q.1, 3)) && decide (decode t.2.1 (pc + 7) = .ok (.invokespecial 131, 3)) && decide (decode t.2.1 (pc + 10) = .ok (.athrow, 1))))
set_option maxRecDepth 100000 in
theorem mz_thrall : (mzP.zip mzQ).all (fun q => (List.range q.1.2.2.2.length).all (fun i => match q.1.2.2.2[i]? with
  | some ri => !(ri.1 == 43) || mz_thrB q.2 (mz_pc q.2.2.2.2.1 i)
  | none => true)) = true := by decide +kernel
theorem mz_thrw : Cond.classLink "LoopsToUnits" 127 mz_N ∈ mz_WS ∧ Cond.initialized mz_N ∈ mz_WS := by decide +kernel
theorem mz_THR_of {l : Launch} {s0 : State} {args0 : Array Value} (hl : l.stackTraces = false) (hT0 : ∀ w ∈ lw_tbl, w.before args0 s0 = true)
    (hU : vx_Zq Bundle.tN "UNASSIGNED_STACK" Bundle.steD (fun q => s0.heap.size ≤ q) s0 s0.heap) (hN : vx_Zq Bundle.tN "SUPPRESSED_SENTINEL" Bundle.listD (fun q => s0.heap.size ≤ q) s0 s0.heap) (hstr : ∀ q ∈ mz_strs, ∃ sa, vk_R "LoopsToUnits" q.1 q.2 sa s0) : mz_THR l s0 := by
  intro j M t i ri hM ht hri h43 hok p e R s m args below meth c H locs cells slots mc ms Qc XC ls rst hFX hRf hRl hc1 hs1 hc2 hs2 hls hsum hS hx
  obtain ⟨hx0, hb, hml, hown, hts, hnm, hlk, hret, htab, hW0, hz0, hk0⟩ := id hFX
  have h1 := List.all_eq_true.mp mz_thrall (M, t) (List.mem_of_getElem? (i := j) (by rw [List.getElem?_zip_eq_some]; exact ⟨hM, ht⟩))
  have h2 := List.all_eq_true.mp h1 i (List.mem_range.mpr (List.getElem?_eq_some_iff.mp hri).1)
  dsimp only at h2
  rw [hri] at h2
  dsimp only at h2
  rw [h43] at h2
  have h3 : mz_thrB t (mz_pc t.2.2.2.1 i) = true := by simpa using h2
  unfold mz_thrB at h3
  rw [Bool.and_eq_true, Bool.and_eq_true, Bool.and_eq_true] at h3
  obtain ⟨⟨⟨g1, g2⟩, g3⟩, g4⟩ := h3
  have g1 := of_decide_eq_true g1
  have g2 := of_decide_eq_true g2
  have g3 := of_decide_eq_true g3
  obtain ⟨q, hq, g5⟩ := List.any_eq_true.mp g4
  obtain ⟨sa, hsa⟩ := hstr q hq
  rw [g3.1] at hown
  have hout : ∀ (k : Nat), ∀ x ∈ c.exceptionTable.toList, covers x k = false := by
    intro k x hxm
    have htab : c.exceptionTable.toList = tableOf t.2.2.2.2.2.2 := by
      rcases htab with ⟨-, h9⟩ | h9
      · rw [g3.1] at h9; exact absurd h9 (by decide)
      · exact h9
    rw [htab, g3.2] at hxm
    cases hxm
  have U1 : vx_Zq Bundle.tN "UNASSIGNED_STACK" Bundle.steD (fun q => s0.heap.size ≤ q) s s.heap := vx_Zq.moved hW0.alike (hU.kept (fun a ha _ => hk0 a ha))
  have N1 : vx_Zq Bundle.tN "SUPPRESSED_SENTINEL" Bundle.listD (fun q => s0.heap.size ≤ q) s s.heap := vx_Zq.moved hW0.alike (hN.kept (fun a ha _ => hk0 a ha))
  rw [Bool.or_eq_true] at g5
  rcases g5 with g5 | g5
  · rw [Bool.and_eq_true, Bool.and_eq_true] at g5
    exact mz_throwW (wd := 6) (Or.inl rfl) hx0 hb hl hown (hts _ mz_thrw.1) (hts _ mz_thrw.2) (vk_R.warm hW0 hsa) (mz_at2_at hT0 hts hW0) U1 N1 hS (hls.trans hml.symm) g1 g2 (Or.inl ⟨rfl, of_decide_eq_true g5.1.1⟩) (of_decide_eq_true g5.1.2) (of_decide_eq_true g5.2) (hout _) (by omega) (by omega) hc1 hs1 hlk hx hS.2.2 hc2 hs2
  · rw [Bool.and_eq_true, Bool.and_eq_true] at g5
    exact mz_throwW (wd := 7) (Or.inr rfl) hx0 hb hl hown (hts _ mz_thrw.1) (hts _ mz_thrw.2) (vk_R.warm hW0 hsa) (mz_at2_at hT0 hts hW0) U1 N1 hS (hls.trans hml.symm) g1 g2 (Or.inr ⟨rfl, of_decide_eq_true g5.1.1⟩) (of_decide_eq_true g5.1.2) (of_decide_eq_true g5.2) (hout _) (by omega) (by omega) hc1 hs1 hlk hx hS.2.2 hc2 hs2
end
section
/-! THE CLAIM OUT OF ONE WALK OF THE LAW'S BODY. Your part is whole_start (and what it stands on); all else here is the same for every law, but numbers. -/
def R_law : String := "LoopsToUnitsLaw"
def lw_P (b : Addr) (xs : List Int32) (args : Array Value) (s : State) : Prop := args = #[.ref b] ∧ s.IntsAt b xs ∧ xs.length ≤ 5 ∧ (Jvm.Cond.and given_1 narrow_1).before args s = true
def lw_Q (_ : Array Value) (s : State) (o : Outcome) (t : State) : Prop := o = .returned (some (.int 1)) ∧ Framed s o t [] 601024 7293034
def lw_Z (below : List Frame) (a : Array Value) (s : State) : State → Prop := fun t => ∃ o, t.status = .running ∧ Ended t below o ∧ lw_Q a s o t
/-- the law's own end, with 1 on the stack, nothing written that was there before, its room as the claim has it -/
theorem lw_ret {p : Program} {l : Launch} {e : Env} {s : State} {m : MethodId} {below : List Frame} {meth : Method} {c : Code} {b : Nat} (hx : p.tables.exec = Jvm.exec) (hb : c.code = code) (hr : meth.sig.returnType = ret) (hlocks : meth.locks = false) {pc : Nat} {H : Heap} {ls : Array Slot} (hdg : decode code pc = .ok (.ireturn, 1)) : W p l e room_1 s m #[Value.ref b] below meth c H [] 601024 7293034 (lw_Z below #[Value.ref b] s) (F0 m pc ls [.int 1]) := by
  intro T hT X
  obtain ⟨fs, hret, hrun, hended, hW, hframe⟩ := X.leave (v := some (.int 1)) (hlocks := hlocks) (fun h => by rw [hr] at h; cases h)
  have hmeth' : T.vm.method? m = some meth := X.method'
  refine ⟨T.setFrames fs, ?_, .returned (some (.int 1)), hrun, hended, rfl, ⟨_, rfl⟩, hW, hframe⟩
  jvm_step X.here [X.here.top, hx, hb, hdg, hmeth', hr, ret, narrow_b1]
  (try refine ⟨rfl, ?_⟩); (try refine ⟨rfl, ?_⟩)
  first | (intro acts; rw [hret _ acts rfl rfl rfl]) | rw [hret _ _ rfl rfl rfl]
  exact Steps.refl _
/-- what holds at the law's entry: the machine, the code, the tables' words (any of lw_tbl by 'hts w (by decide +kernel)'), the script of L ints xs at the cell b, what the Statement gives of the start (any of its parts by flat_of_before) -/
def lw_At (p : Program) (s : State) (m : MethodId) (meth : Method) (c : Code) (b L : Nat) (xs : Nat → Int32) : Prop :=
  p.tables.exec = Jvm.exec ∧ c.code = code ∧ meth.sig.returnType = ret ∧ c.maxLocals = 8 ∧ s.vm.findClass R_law = some m.cls ∧ (∀ w ∈ lw_tbl, w.before #[Value.ref b] s = true) ∧ va_X b L xs s s.heap ∧ b < s.heap.size ∧ meth.locks = false ∧ (Jvm.Cond.and given_1 narrow_1).before #[Value.ref b] s = true
/-- the script and the static arrays -/
def mz_X (L : Nat) (xs : Nat → Int32) : List (List Value) := [(List.range L).map (fun j => Value.int (xs j)), [.int 1, .int 1, .int 1, .int 1, .int 0, .int 0, .int 4, .int 2, .int 2], [.int 1, .int 1, .int 1, .int 1, .int 0, .int 0, .int 1, .int 1, .int 1], [.int 4, .int 3, .int 4, .int 4, .int 1, .int 1, .int 10, .int 4, .int 3]]
theorem mz_st_FIRST {s : State} {b : Nat} {A : Nat → Prop} (hts : ∀ w ∈ lw_tbl, w.before #[Value.ref b] s = true) (hgv : (Jvm.Cond.and given_1 narrow_1).before #[Value.ref b] s = true) (hA : ∀ a : Nat, a < s.heap.size → ¬ A a) : ∃ t, va_T .int t 9 (fun j => ([.int 1, .int 1, .int 1, .int 1, .int 0, .int 0, .int 4, .int 2, .int 2] : List Value).getD j .null) A s s.heap ∧ va_Z "LoopsToUnitsModel" "FIRST" "[I" (.ref t) A s s.heap := by
  have hs := flat_of_before _ hgv
  have hl := va_eqt (hs (.eq (.length (.static "LoopsToUnitsModel" "FIRST" "[I")) (.int 9)) (by decide +kernel))
  obtain ⟨t, ht, hT⟩ := va_Tof (tm := .static "LoopsToUnitsModel" "FIRST" "[I") (ty := .int) (N := 9) (f := fun j => ([.int 1, .int 1, .int 1, .int 1, .int 0, .int 0, .int 4, .int 2, .int 2] : List Value).getD j .null) (A := A) (by decide) (hs (.arrayOf (.static "LoopsToUnitsModel" "FIRST" "[I") .int) (by decide +kernel)) hl (fun j hj => by
    match j, hj with
    | 0, _ => exact va_eqt (hs (.eq (.elem (.static "LoopsToUnitsModel" "FIRST" "[I") (.int 0)) (.int 1)) (by decide +kernel))
    | 1, _ => exact va_eqt (hs (.eq (.elem (.static "LoopsToUnitsModel" "FIRST" "[I") (.int 1)) (.int 1)) (by decide +kernel))
    | 2, _ => exact va_eqt (hs (.eq (.elem (.static "LoopsToUnitsModel" "FIRST" "[I") (.int 2)) (.int 1)) (by decide +kernel))
    | 3, _ => exact va_eqt (hs (.eq (.elem (.static "LoopsToUnitsModel" "FIRST" "[I") (.int 3)) (.int 1)) (by decide +kernel))
    | 4, _ => exact va_eqt (hs (.eq (.elem (.static "LoopsToUnitsModel" "FIRST" "[I") (.int 4)) (.int 0)) (by decide +kernel))
    | 5, _ => exact va_eqt (hs (.eq (.elem (.static "LoopsToUnitsModel" "FIRST" "[I") (.int 5)) (.int 0)) (by decide +kernel))
    | 6, _ => exact va_eqt (hs (.eq (.elem (.static "LoopsToUnitsModel" "FIRST" "[I") (.int 6)) (.int 4)) (by decide +kernel))
    | 7, _ => exact va_eqt (hs (.eq (.elem (.static "LoopsToUnitsModel" "FIRST" "[I") (.int 7)) (.int 2)) (by decide +kernel))
    | 8, _ => exact va_eqt (hs (.eq (.elem (.static "LoopsToUnitsModel" "FIRST" "[I") (.int 8)) (.int 2)) (by decide +kernel))
    | k + 9, hj => omega) hA
  exact ⟨t, hT, va_Zref (hts (.laysStatic "LoopsToUnitsModel" "FIRST" "[I") (by decide +kernel)) (hts (.initialized "LoopsToUnitsModel") (by decide +kernel)) ht hA⟩
theorem mz_st_LOWEST {s : State} {b : Nat} {A : Nat → Prop} (hts : ∀ w ∈ lw_tbl, w.before #[Value.ref b] s = true) (hgv : (Jvm.Cond.and given_1 narrow_1).before #[Value.ref b] s = true) (hA : ∀ a : Nat, a < s.heap.size → ¬ A a) : ∃ t, va_T .int t 9 (fun j => ([.int 1, .int 1, .int 1, .int 1, .int 0, .int 0, .int 1, .int 1, .int 1] : List Value).getD j .null) A s s.heap ∧ va_Z "LoopsToUnitsModel" "LOWEST" "[I" (.ref t) A s s.heap := by
  have hs := flat_of_before _ hgv
  have hl := va_eqt (hs (.eq (.length (.static "LoopsToUnitsModel" "LOWEST" "[I")) (.int 9)) (by decide +kernel))
  obtain ⟨t, ht, hT⟩ := va_Tof (tm := .static "LoopsToUnitsModel" "LOWEST" "[I") (ty := .int) (N := 9) (f := fun j => ([.int 1, .int 1, .int 1, .int 1, .int 0, .int 0, .int 1, .int 1, .int 1] : List Value).getD j .null) (A := A) (by decide) (hs (.arrayOf (.static "LoopsToUnitsModel" "LOWEST" "[I") .int) (by decide +kernel)) hl (fun j hj => by
    match j, hj with
    | 0, _ => exact va_eqt (hs (.eq (.elem (.static "LoopsToUnitsModel" "LOWEST" "[I") (.int 0)) (.int 1)) (by decide +kernel))
    | 1, _ => exact va_eqt (hs (.eq (.elem (.static "LoopsToUnitsModel" "LOWEST" "[I") (.int 1)) (.int 1)) (by decide +kernel))
    | 2, _ => exact va_eqt (hs (.eq (.elem (.static "LoopsToUnitsModel" "LOWEST" "[I") (.int 2)) (.int 1)) (by decide +kernel))
    | 3, _ => exact va_eqt (hs (.eq (.elem (.static "LoopsToUnitsModel" "LOWEST" "[I") (.int 3)) (.int 1)) (by decide +kernel))
    | 4, _ => exact va_eqt (hs (.eq (.elem (.static "LoopsToUnitsModel" "LOWEST" "[I") (.int 4)) (.int 0)) (by decide +kernel))
    | 5, _ => exact va_eqt (hs (.eq (.elem (.static "LoopsToUnitsModel" "LOWEST" "[I") (.int 5)) (.int 0)) (by decide +kernel))
    | 6, _ => exact va_eqt (hs (.eq (.elem (.static "LoopsToUnitsModel" "LOWEST" "[I") (.int 6)) (.int 1)) (by decide +kernel))
    | 7, _ => exact va_eqt (hs (.eq (.elem (.static "LoopsToUnitsModel" "LOWEST" "[I") (.int 7)) (.int 1)) (by decide +kernel))
    | 8, _ => exact va_eqt (hs (.eq (.elem (.static "LoopsToUnitsModel" "LOWEST" "[I") (.int 8)) (.int 1)) (by decide +kernel))
    | k + 9, hj => omega) hA
  exact ⟨t, hT, va_Zref (hts (.laysStatic "LoopsToUnitsModel" "LOWEST" "[I") (by decide +kernel)) (hts (.initialized "LoopsToUnitsModel") (by decide +kernel)) ht hA⟩
theorem mz_st_HIGHEST {s : State} {b : Nat} {A : Nat → Prop} (hts : ∀ w ∈ lw_tbl, w.before #[Value.ref b] s = true) (hgv : (Jvm.Cond.and given_1 narrow_1).before #[Value.ref b] s = true) (hA : ∀ a : Nat, a < s.heap.size → ¬ A a) : ∃ t, va_T .int t 9 (fun j => ([.int 4, .int 3, .int 4, .int 4, .int 1, .int 1, .int 10, .int 4, .int 3] : List Value).getD j .null) A s s.heap ∧ va_Z "LoopsToUnitsModel" "HIGHEST" "[I" (.ref t) A s s.heap := by
  have hs := flat_of_before _ hgv
  have hl := va_eqt (hs (.eq (.length (.static "LoopsToUnitsModel" "HIGHEST" "[I")) (.int 9)) (by decide +kernel))
  obtain ⟨t, ht, hT⟩ := va_Tof (tm := .static "LoopsToUnitsModel" "HIGHEST" "[I") (ty := .int) (N := 9) (f := fun j => ([.int 4, .int 3, .int 4, .int 4, .int 1, .int 1, .int 10, .int 4, .int 3] : List Value).getD j .null) (A := A) (by decide) (hs (.arrayOf (.static "LoopsToUnitsModel" "HIGHEST" "[I") .int) (by decide +kernel)) hl (fun j hj => by
    match j, hj with
    | 0, _ => exact va_eqt (hs (.eq (.elem (.static "LoopsToUnitsModel" "HIGHEST" "[I") (.int 0)) (.int 4)) (by decide +kernel))
    | 1, _ => exact va_eqt (hs (.eq (.elem (.static "LoopsToUnitsModel" "HIGHEST" "[I") (.int 1)) (.int 3)) (by decide +kernel))
    | 2, _ => exact va_eqt (hs (.eq (.elem (.static "LoopsToUnitsModel" "HIGHEST" "[I") (.int 2)) (.int 4)) (by decide +kernel))
    | 3, _ => exact va_eqt (hs (.eq (.elem (.static "LoopsToUnitsModel" "HIGHEST" "[I") (.int 3)) (.int 4)) (by decide +kernel))
    | 4, _ => exact va_eqt (hs (.eq (.elem (.static "LoopsToUnitsModel" "HIGHEST" "[I") (.int 4)) (.int 1)) (by decide +kernel))
    | 5, _ => exact va_eqt (hs (.eq (.elem (.static "LoopsToUnitsModel" "HIGHEST" "[I") (.int 5)) (.int 1)) (by decide +kernel))
    | 6, _ => exact va_eqt (hs (.eq (.elem (.static "LoopsToUnitsModel" "HIGHEST" "[I") (.int 6)) (.int 10)) (by decide +kernel))
    | 7, _ => exact va_eqt (hs (.eq (.elem (.static "LoopsToUnitsModel" "HIGHEST" "[I") (.int 7)) (.int 4)) (by decide +kernel))
    | 8, _ => exact va_eqt (hs (.eq (.elem (.static "LoopsToUnitsModel" "HIGHEST" "[I") (.int 8)) (.int 3)) (by decide +kernel))
    | k + 9, hj => omega) hA
  exact ⟨t, hT, va_Zref (hts (.laysStatic "LoopsToUnitsModel" "HIGHEST" "[I") (by decide +kernel)) (hts (.initialized "LoopsToUnitsModel") (by decide +kernel)) ht hA⟩
end
section
/-! THE LAW: a run of M from its entry that answers 1 gives the claim's walk -/
theorem mz_known {s : State} {args : Array Value} (hgw : ∀ w ∈ mz_WS, w.before args s = true) : ∃ D : va_G, ∀ (c : Nat) (q : vw_C), vwCl[c]? = some q → u_Kn s q.1 q.2.1 q.2.2 (D.1 c) (D.2 c) := by
  have H : ∀ k : Nat, ∃ z : ClassId × (Nat → Nat), ∀ q : vw_C, vwCl[k]? = some q → u_Kn s q.1 q.2.1 q.2.2 z.1 z.2 := by
    intro k
    cases hv : vwCl[k]? with
    | none => exact ⟨((0 : Nat), fun _ => 0), fun q hq => by cases hq⟩
    | some q =>
      obtain ⟨C, T, N⟩ := q
      obtain ⟨cC, iS, h⟩ := u_known (C := C) (T := T) (N := N) (n := N) hgw (mz_cl k C T N hv) (hgw _ (mz_inst k C T N hv).1)
      exact ⟨(cC, iS), fun q hq => by cases hq; exact h⟩
  obtain ⟨f, hf⟩ := Classical.axiomOfChoice H
  exact ⟨(fun k => (f k).1, fun k => (f k).2), fun c q hq => hf c q hq⟩
theorem mz_arr {s : State} {args : Array Value} {ty : FieldType} (h : (Cond.arrayClass ty).before args s = true) (hty : ty = .int ∨ ty = .long ∨ ty = .byte ∨ ty = .boolean) : ∃ cA : ClassId, ArrOfT s cA ty ∧ va_RA s cA ty := by
  obtain ⟨c, k, comp, h1, h2, h3⟩ := Cond.arrayClass_spec h
  refine ⟨c, fun n z => ⟨fun k h => (by cases h), k, h2, comp, h3⟩, ?_⟩
  rcases hty with rfl | rfl | rfl | rfl <;> exact h1
theorem mz_ov_in : Cond.arrayOver (.object "LoopsToUnits$Held") ∈ lw_tbl := by decide +kernel
theorem mz_arrH {s : State} {args : Array Value} (h : (Cond.arrayOver (.object "LoopsToUnits$Held")).before args s = true) : ∃ cA : ClassId, ArrOfT s cA (.object "LoopsToUnits$Held") ∧ va_RA s cA (.object "LoopsToUnits$Held") := by
  obtain ⟨comp, c, k, h1, -, h3, h4, h5⟩ := Cond.arrayOver_spec h
  exact ⟨c, fun n z => ⟨fun k h => (by cases h), k, h3, comp, h4⟩, k, comp, h3, h4, h1, h5⟩
theorem mz_str {s : State} {b : Nat} (hts : ∀ w ∈ lw_tbl, w.before #[Value.ref b] s = true) (hgv : (Jvm.Cond.and given_1 narrow_1).before #[Value.ref b] s = true) : ∀ q ∈ mz_strs, ∃ sa, vk_R "LoopsToUnits" q.1 q.2 sa s := by
  have hs := flat_of_before _ hgv
  have one : ∀ (k : Nat) (tx : String), (Cond.stringRef "LoopsToUnits" k tx).before #[Value.ref b] s = true → (Cond.exactly (.string "LoopsToUnits" k) "java/lang/String").before #[Value.ref b] s = true → ∃ sa, vk_R "LoopsToUnits" k tx sa s := by
    intro k tx h1 h2
    obtain ⟨a, c, cell, kk, h3, -⟩ := Cond.exactly_spec h2
    exact ⟨a, vk_R.of h1 h3⟩
  intro q hq
  simp only [mz_strs, List.mem_cons, List.not_mem_nil, or_false] at hq
  rcases hq with rfl | rfl | rfl | rfl
  · exact one _ _ (hts _ (by decide +kernel)) (hs _ (by decide +kernel))
  · exact one _ _ (hts _ (by decide +kernel)) (hs _ (by decide +kernel))
  · exact one _ _ (hts _ (by decide +kernel)) (hs _ (by decide +kernel))
  · exact one _ _ (hts _ (by decide +kernel)) (hs _ (by decide +kernel))
theorem mz_unr {s : State} {b : Nat} {A : Nat → Prop} (hts : ∀ w ∈ lw_tbl, w.before #[Value.ref b] s = true) (hgv : (Jvm.Cond.and given_1 narrow_1).before #[Value.ref b] s = true) (hA : ∀ a : Nat, a < s.heap.size → ¬ A a) : vx_Zq Bundle.tN "UNASSIGNED_STACK" Bundle.steD A s s.heap ∧ vx_Zq Bundle.tN "SUPPRESSED_SENTINEL" Bundle.listD A s s.heap := by
  have hs := flat_of_before _ hgv
  exact ⟨vx_Zqof (hts (.laysStatic Bundle.tN "UNASSIGNED_STACK" Bundle.steD) (by decide +kernel)) (hts (.initialized Bundle.tN) (by decide +kernel)) (hs (.isRef (.static Bundle.tN "UNASSIGNED_STACK" Bundle.steD)) (by decide +kernel)) hA,
    vx_Zqof (hts (.laysStatic Bundle.tN "SUPPRESSED_SENTINEL" Bundle.listD) (by decide +kernel)) (hts (.initialized Bundle.tN) (by decide +kernel)) (hs (.isRef (.static Bundle.tN "SUPPRESSED_SENTINEL" Bundle.listD)) (by decide +kernel)) hA⟩
theorem mz_P0 : mzP[0]? = some (8, 0, (0, 0, 0), mzc_0) := rfl
theorem mz_Q0 : mzQ[0]? = some mzt_0 := rfl
theorem mz_flags {l : Launch} (h : l.flags = flags0) : l.stackTraces = false := by
  unfold Launch.stackTraces
  rw [h]
  decide +kernel
/-- what is asked of M -/
def mz_Good (L : Nat) (xs : Nat → Int32) : Prop := ∃ n d σ', mz_run mzP (mz_X L xs) n d 0 0 [(0, .ref 0)] [] ([], 0, 0) = some (some (some (.int 1)), σ') ∧ d ≤ 2000 ∧ σ'.2.1 ≤ 601024 ∧ σ'.2.2 ≤ 7293034
set_option maxHeartbeats 4000000 in
theorem mz_whole {p : Program} {e : Env} {s : State} {m : MethodId} {below : List Frame} {meth : Method} {c : Code} (l : Launch) (hflags : l.flags = flags0) {b L : Nat} {xs : Nat → Int32} (hG : mz_Good L xs) (C0 : lw_At p s m meth c b L xs) : W p l e room_1 s m #[Value.ref b] below meth c s.heap [] 0 0 (lw_Z below #[Value.ref b] s) (entryFrame m ([Value.ref b] : List Value).toArray 8) := by
  obtain ⟨n, d, σ', hrun, hd, hc1, hc2⟩ := hG
  obtain ⟨hx, hb, hr, hml, hown, hts, hX, hbl, hlocks, hgv⟩ := id C0
  have hgw : ∀ w ∈ mz_WS, w.before #[Value.ref b] s = true := fun w hw => hts w (List.mem_filter.mp hw).1
  have hA : ∀ a : Nat, a < s.heap.size → ¬ (fun q => s.heap.size ≤ q) a := fun a ha h => by
    have h : s.heap.size ≤ a := h
    omega
  obtain ⟨D, hD⟩ := mz_known hgw
  obtain ⟨cI, hI1, hI2⟩ := mz_arr (hgw _ mz_ac_int) (Or.inl rfl)
  obtain ⟨cL, hL1, hL2⟩ := mz_arr (hgw _ mz_ac_long) (Or.inr (Or.inl rfl))
  obtain ⟨cB, hB1, hB2⟩ := mz_arr (hgw _ mz_ac_byte) (Or.inr (Or.inr (Or.inl rfl)))
  obtain ⟨cZ, hZ1, hZ2⟩ := mz_arr (hgw _ mz_ac_boolean) (Or.inr (Or.inr (Or.inr rfl)))
  obtain ⟨cH, hH1, hH2⟩ := mz_arrH (hts _ mz_ov_in)
  obtain ⟨t1, T1, Z1⟩ := mz_st_FIRST hts hgv hA
  obtain ⟨t2, T2, Z2⟩ := mz_st_LOWEST hts hgv hA
  obtain ⟨t3, T3, Z3⟩ := mz_st_HIGHEST hts hgv hA
  obtain ⟨scr, hs1, hs2, hs3, hs4, hs5⟩ := hX
  have hCT : mz_CT D (fun q => s.heap.size ≤ q) (fun k => match k with | 0 => cI | 1 => cL | 2 => cB | 3 => cZ | _ => cH) [b, t1, t2, t3] (mz_X L xs) s := by
    refine ⟨rfl, ⟨hD, ?_⟩, ⟨?_, ?_⟩, fun q hq => hq, va_AO.of (hts _ mz_ov_in)⟩
    · intro k q hq
      match k, hq with
      | 0, hq => cases hq; exact ⟨hI1, hI2⟩
      | 1, hq => cases hq; exact ⟨hL1, hL2⟩
      | 2, hq => cases hq; exact ⟨hB1, hB2⟩
      | 3, hq => cases hq; exact ⟨hZ1, hZ2⟩
      | 4, hq => cases hq; exact ⟨hH1, hH2⟩
      | k + 5, hq => simp [mz_tys] at hq
    · intro k fs hfs
      match k, hfs with
      | 0, hfs =>
        cases hfs
        refine ⟨b, rfl, ⟨scr, hs1, hs2, hs3, by simp [hs4], by simp [hs4], fun j hj => ?_, hA b hbl⟩, ?_⟩
        · have hj : j < L := by simpa using hj
          rw [hs5 j hj]
          simp [hj]
        · intro v hv
          obtain ⟨j, -, rfl⟩ := List.mem_map.mp hv
          exact ⟨_, rfl⟩
      | 1, hfs =>
        cases hfs
        exact ⟨t1, rfl, T1, fun v hv => by
          simp only [List.mem_cons, List.not_mem_nil, or_false] at hv
          rcases hv with rfl | rfl | rfl | rfl | rfl | rfl | rfl | rfl | rfl <;> exact ⟨_, rfl⟩⟩
      | 2, hfs =>
        cases hfs
        exact ⟨t2, rfl, T2, fun v hv => by
          simp only [List.mem_cons, List.not_mem_nil, or_false] at hv
          rcases hv with rfl | rfl | rfl | rfl | rfl | rfl | rfl | rfl | rfl <;> exact ⟨_, rfl⟩⟩
      | 3, hfs =>
        cases hfs
        exact ⟨t3, rfl, T3, fun v hv => by
          simp only [List.mem_cons, List.not_mem_nil, or_false] at hv
          rcases hv with rfl | rfl | rfl | rfl | rfl | rfl | rfl | rfl | rfl <;> exact ⟨_, rfl⟩⟩
      | k + 4, hfs => simp [mz_X] at hfs
    · intro k k1 k2
      match k, k1, k2 with
      | 1, _, _ => exact ⟨t1, rfl, Z1⟩
      | 2, _, _ => exact ⟨t2, rfl, Z2⟩
      | 3, _, _ => exact ⟨t3, rfl, Z3⟩
  have hTHR : mz_THR l s := mz_THR_of (mz_flags hflags) hts (mz_unr hts hgv hA).1 (mz_unr hts hgv hA).2 (mz_str hts hgv)
  have hFX : mz_FX s p s m #[Value.ref b] meth c (8, 0, (0, 0, 0), mzc_0) mzt_0 :=
    ⟨hx, hb, hml, hown, hgw, fun h => absurd h (by decide), hlocks, hr, Or.inl ⟨rfl, rfl⟩, State.WarmedH.refl s, Nat.le_refl _, fun _ _ => rfl⟩
  have hl := lv_entry ([.ref b]) (n := 8) (Nat.le_of_ble_eq_true rfl)
  rw [lg_entry_eq]
  generalize (lg_sl ([.ref b]) ++ List.replicate (8 - (lg_sl ([.ref b])).length) Slot.unset).toArray = ls at hl ⊢
  have hgo := mz_main hts hCT hTHR n d 0 0 [(0, .ref 0)] [] ([], 0, 0) _ σ' _ _ hrun mz_P0 mz_Q0 p e room_1 s m #[Value.ref b] below meth c s.heap [] 0 0 (lw_Z below #[Value.ref b] s) [] ls [(0, .ref b)] [] 0 0 [b, t1, t2, t3] hFX (by show d + 10 ≤ 2048; omega) (by show 200 + 40 * d ≤ 84000; omega) (by show σ'.2.1 ≤ 0 + 601024; omega) (by show σ'.2.2 ≤ 0 + 7293034; omega) hl ⟨⟨rfl, ⟨b, rfl, rfl⟩⟩, trivial⟩ trivial
    ⟨fun k q h => by simp at h, ⟨fun i j p q h => by simp at h, fun k q h => by simp at h⟩, va_S.rf, trivial⟩ ⟨[], rfl⟩ rfl rfl ?_
  · exact hgo
  · intro i' ri ls' st' rst' σ'' H' locs' ws' cells' slots' hri hfin hls hst' hP' hext hc' hn'
    have hok := mz_oka_0.1 i'
    unfold mz_okAt at hok
    dsimp only at hok
    rw [hri] at hok
    dsimp only at hok
    split at hok
    · rename_i ins len hdec
      unfold mz_fin at hfin
      by_cases h41 : ri.1 = 41
      · rw [if_pos h41] at hfin
        split at hfin <;> cases hfin
      · rw [if_neg h41] at hfin
        by_cases h42 : ri.1 = 42
        · rw [if_pos h42] at hfin
          rw [if_neg (by omega), if_neg h41, if_pos h42] at hok
          split at hfin
          · rename_i v
            split at hfin
            · cases hfin
              match rst', hst' with
              | [w], ⟨hvw, _⟩ =>
              have hvw : w = .int 1 := hvw
              subst hvw
              unfold mz_k42 at hok
              rw [Bool.and_eq_true] at hok
              obtain ⟨hl1, hok⟩ := hok
              have hl1 : len = 1 := by simpa using hl1
              subst hl1
              split at hok
              · refine va_forget (fun q hq => hP'.2.2.1.2.2 q hq) ?_
                refine W.widen (k := 601024) (n := 7293034) (by omega) (by omega) ?_
                exact lw_ret hx hb hr hlocks hdec
              · rename_i h9
                simp only [Bool.and_eq_true, decide_eq_true_eq] at hok
                exact absurd hok.2 (by decide)
              · cases hok
            · cases hfin
          · cases hfin
        · rw [if_neg h42] at hfin
          by_cases h43 : ri.1 = 43
          · rw [if_pos h43] at hfin
            split at hfin <;> cases hfin
          · rw [if_neg h43] at hfin; cases hfin
    · cases hok
end
section
/-! runs of M put together: a stack of frames -/
theorem mz_heap_op {X : List (List Value)} {ri : mzI} {st : List Value} {s : mzS} {q : List Value × mzS} (h : mz_heap X ri st s = some q) : 20 ≤ ri.1 ∧ ri.1 ≤ 30 := by
  unfold mz_heap at h
  split at h <;> first | omega | cases h
theorem mz_fin_op {ri : mzI} {st : List Value} {s : mzS} {r : Option (Option Value) × mzS} (h : mz_fin ri st s = some r) : 41 ≤ ri.1 ∧ ri.1 ≤ 43 := by
  unfold mz_fin at h
  by_cases h1 : ri.1 = 41
  · omega
  rw [if_neg h1] at h
  by_cases h2 : ri.1 = 42
  · omega
  rw [if_neg h2] at h
  by_cases h3 : ri.1 = 43
  · omega
  rw [if_neg h3] at h
  cases h
theorem mz_run_call {P : List mzM} {X : List (List Value)} {n d j i : Nat} {lo : mzL} {st : List Value} {s : mzS} {r : Option (Option Value) × mzS} {M M' : mzM} {ri : mzI} {as rest : List Value} {o : Option (Option Value)} {s' : mzS} {q : Nat × List Value}
    (hM : P[j]? = some M) (hri : M.2.2.2[i]? = some ri) (h40 : ri.1 = 40) (htk : mz_take ri.2.2.1 st = some (as, rest)) (hM' : P[ri.2.1]? = some M') (h1 : mz_sum rest ≤ 8) (h2 : mz_sum as ≤ M'.1) (h3 : mz_recv M'.2.1 as s = true)
    (hc : mz_run P X n d ri.2.1 0 (lv_args 0 as) [] s = some (o, s')) (hq : mz_res M i rest o = some q) (hg : mz_run P X n (d + 1) j q.1 lo q.2 s' = some r) : mz_run P X (n + 1) (d + 1) j i lo st s = some r := by
  unfold mz_run
  rw [hM]
  dsimp only
  rw [hri]
  dsimp only
  rw [if_pos h40, htk, hM']
  dsimp only
  rw [if_pos ⟨h1, h2, h3⟩, hc]
  match o, hq with
  | some none, hq => cases hq; exact hg
  | some (some v), hq => cases hq; exact hg
  | none, hq =>
    simp only [mz_res] at hq
    by_cases hh : M.2.2.1.1 ≤ i ∧ i < M.2.2.1.2.1
    · rw [if_pos hh] at hq
      cases hq
      dsimp only
      rw [if_pos hh]
      exact hg
    · rw [if_neg hh] at hq; cases hq
theorem mz_run_fin {P : List mzM} {X : List (List Value)} {n d j i : Nat} {lo : mzL} {st : List Value} {s : mzS} {r : Option (Option Value) × mzS} {M : mzM} {ri : mzI} (hM : P[j]? = some M) (hri : M.2.2.2[i]? = some ri) (h : mz_fin ri st s = some r) : mz_run P X (n + 1) d j i lo st s = some r := by
  have ho := mz_fin_op h
  unfold mz_run
  rw [hM]
  dsimp only
  rw [hri]
  dsimp only
  rw [if_neg (by omega)]
  unfold mz_fin at h
  by_cases h1 : ri.1 = 41
  · rw [if_pos h1] at h ⊢; exact h
  rw [if_neg h1] at h ⊢
  by_cases h2 : ri.1 = 42
  · rw [if_pos h2] at h ⊢; exact h
  rw [if_neg h2] at h ⊢
  by_cases h3 : ri.1 = 43
  · rw [if_pos h3] at h ⊢; exact h
  omega
theorem mz_run_one {P : List mzM} {X : List (List Value)} {n d j i : Nat} {lo : mzL} {st : List Value} {s : mzS} {r : Option (Option Value) × mzS} {M : mzM} {ri : mzI} {q : Nat × mzL × List Value} (hM : P[j]? = some M) (hri : M.2.2.2[i]? = some ri) (ho : ri.1 < 20 ∨ ri.1 = 39) (h : mz_one ri i M.1 lo st = some q) (hg : mz_run P X n d j q.1 q.2.1 q.2.2 s = some r) : mz_run P X (n + 1) d j i lo st s = some r := by
  unfold mz_run
  rw [hM]
  dsimp only
  rw [hri]
  dsimp only
  rw [if_neg (by omega), if_neg (by omega), if_neg (by omega), if_neg (by omega), if_pos ho, h]
  exact hg
theorem mz_run_heap {P : List mzM} {X : List (List Value)} {n d j i : Nat} {lo : mzL} {st : List Value} {s : mzS} {r : Option (Option Value) × mzS} {M : mzM} {ri : mzI} {q : List Value × mzS} (hM : P[j]? = some M) (hri : M.2.2.2[i]? = some ri) (h : mz_heap X ri st s = some q) (hg : mz_run P X n d j (i + 1) lo q.1 q.2 = some r) : mz_run P X (n + 1) d j i lo st s = some r := by
  have ho := mz_heap_op h
  unfold mz_run
  rw [hM]
  dsimp only
  rw [hri]
  dsimp only
  rw [if_neg (by omega), if_neg (by omega), if_neg (by omega), if_neg (by omega), if_neg (by omega), h]
  exact hg
theorem mz_fuel {P : List mzM} {X : List (List Value)} : ∀ {n m d j i : Nat} {lo : mzL} {st : List Value} {s : mzS} {r : Option (Option Value) × mzS}, n ≤ m → mz_run P X n d j i lo st s = some r → mz_run P X m d j i lo st s = some r
  | 0, _, _, _, _, _, _, _, _, _, h => by simp [mz_run] at h
  | n + 1, 0, _, _, _, _, _, _, _, hm, _ => by omega
  | n + 1, m + 1, d, j, i, lo, st, s, r, hm, h => by
    have hm' : n ≤ m := by omega
    obtain ⟨M, ri, hM, hri, hc⟩ := mz_run_cases h
    rcases hc with ⟨h40, d', as, rest, M', o, s', q, hd, htk, hM', h1, h2, h3, hcal, hq, hg⟩ | hf | ⟨ho, q, hq, hg⟩ | ⟨_, _, _, _, q, hq, hg⟩
    · subst hd
      exact mz_run_call hM hri h40 htk hM' h1 h2 h3 (mz_fuel hm' hcal) hq (mz_fuel hm' hg)
    · exact mz_run_fin hM hri hf
    · exact mz_run_one hM hri ho hq (mz_fuel hm' hg)
    · exact mz_run_heap hM hri hq (mz_fuel hm' hg)
/-- a waiting frame: method, its record, the call, locals, the stack under the arguments -/
abbrev mzW : Type := Nat × mzM × Nat × mzL × List Value
def mz_gg (X : List (List Value)) (K : Option (Option Value) → mzS → Prop) (d j i : Nat) (lo : mzL) (st : List Value) (s : mzS) : Prop := ∃ n o s', mz_run mzP X n d j i lo st s = some (o, s') ∧ K o s'
/-- what is asked of an outcome that comes back to waiting frames -/
def mz_KK (X : List (List Value)) : List mzW → Nat → Option (Option Value) → mzS → Prop
  | [], _, o, s => o = some (some (.int 1)) ∧ s.2.1 ≤ 601024 ∧ s.2.2 ≤ 7293034
  | (j, M, i, lo, rest) :: ws, d, o, s => mzP[j]? = some M ∧ ∃ q, mz_res M i rest o = some q ∧ mz_gg X (mz_KK X ws (d + 1)) (d + 1) j q.1 lo q.2 s
theorem mz_gg_one {X : List (List Value)} {K : Option (Option Value) → mzS → Prop} {d j i : Nat} {lo : mzL} {st : List Value} {s : mzS} {M : mzM} {ri : mzI} {q : Nat × mzL × List Value} (hM : mzP[j]? = some M) (hri : M.2.2.2[i]? = some ri) (ho : ri.1 < 20 ∨ ri.1 = 39) (h : mz_one ri i M.1 lo st = some q) (hg : mz_gg X K d j q.1 q.2.1 q.2.2 s) : mz_gg X K d j i lo st s := by
  obtain ⟨n, o, s', h1, h2⟩ := hg
  exact ⟨n + 1, o, s', mz_run_one hM hri ho h h1, h2⟩
theorem mz_gg_heap {X : List (List Value)} {K : Option (Option Value) → mzS → Prop} {d j i : Nat} {lo : mzL} {st : List Value} {s : mzS} {M : mzM} {ri : mzI} {q : List Value × mzS} (hM : mzP[j]? = some M) (hri : M.2.2.2[i]? = some ri) (h : mz_heap X ri st s = some q) (hg : mz_gg X K d j (i + 1) lo q.1 q.2) : mz_gg X K d j i lo st s := by
  obtain ⟨n, o, s', h1, h2⟩ := hg
  exact ⟨n + 1, o, s', mz_run_heap hM hri h h1, h2⟩
theorem mz_gg_fin {X : List (List Value)} {K : Option (Option Value) → mzS → Prop} {d j i : Nat} {lo : mzL} {st : List Value} {s : mzS} {M : mzM} {ri : mzI} {r : Option (Option Value) × mzS} (hM : mzP[j]? = some M) (hri : M.2.2.2[i]? = some ri) (h : mz_fin ri st s = some r) (hg : K r.1 r.2) : mz_gg X K d j i lo st s := ⟨1, r.1, r.2, mz_run_fin hM hri h, hg⟩
theorem mz_gg_call {X : List (List Value)} {ws : List mzW} {d j i : Nat} {lo : mzL} {st : List Value} {s : mzS} {M M' : mzM} {ri : mzI} {as rest : List Value} (hM : mzP[j]? = some M) (hri : M.2.2.2[i]? = some ri) (h40 : ri.1 = 40) (htk : mz_take ri.2.2.1 st = some (as, rest)) (hM' : mzP[ri.2.1]? = some M') (h1 : mz_sum rest ≤ 8) (h2 : mz_sum as ≤ M'.1) (h3 : mz_recv M'.2.1 as s = true)
    (hg : mz_gg X (mz_KK X ((j, M, i, lo, rest) :: ws) d) d ri.2.1 0 (lv_args 0 as) [] s) : mz_gg X (mz_KK X ws (d + 1)) (d + 1) j i lo st s := by
  obtain ⟨n, o, s', hr, _, q, hq, n', o', s'', hr', hK⟩ := hg
  exact ⟨max n n' + 1, o', s'', mz_run_call hM hri h40 htk hM' h1 h2 h3 (mz_fuel (Nat.le_max_left _ _) hr) hq (mz_fuel (Nat.le_max_right _ _) hr'), hK⟩
end
section
/-! values of A (turned from p1's S): an int is a sum c + a1 * k1 + .. over atoms k; a value: tag (0 int, 1 reference (1000000: the cell that was made, its address an atom), 2 long made of an int, 3 an exception, 5 a long, else null), c, terms. -/
abbrev szT : Type := List (Nat × Int)
abbrev szV : Type := Nat × Int × szT
/-- locals by number (tag 9: nothing) -/
abbrev szLo : Type := List szV
/-- a frame: method, its record (locals, handler), its code, instruction, locals, stack -/
abbrev szF : Type := Nat × (Nat × Nat × Nat × Nat) × Nat × Nat × szLo × List szV
/-- what an atom is: 0 free, 2 i2b, 3 i2s, 4 'not zero', 10 + a: the operation a of M -/
abbrev szD : Type := List (Nat × szV × szV)
abbrev szR : Type := List (Int × Int)
def sz_sum (ρ : Nat → Int) : szT → Int
  | [] => 0
  | q :: r => q.2 * ρ q.1 + sz_sum ρ r
def sz_i (ρ : Nat → Int) (v : szV) : Int32 := Int32.ofInt (v.2.1 + sz_sum ρ v.2.2)
def sz_v (ρ : Nat → Int) (v : szV) : Value := match v.1 with
  | 0 => .int (sz_i ρ v)
  | 1 => .ref (if v.2.1 < 1000000 then v.2.1.toNat else (ρ 1000000).toNat)
  | 2 => .long (sz_i ρ v).toInt64
  | 3 => .retAddr 0
  | 5 => .long (Int64.ofInt (v.2.1 + sz_sum ρ v.2.2))
  | _ => .null
def sz_w (x : Int) : Int := x.bmod 4294967296
def sz_at (R : szR) (k : Nat) : Int × Int := R.getD k (-2147483648, 2147483647)
def sz_rs (R : szR) : szT → Int × Int
  | [] => (0, 0)
  | q :: r => if 0 ≤ q.2 then (q.2 * (sz_at R q.1).1 + (sz_rs R r).1, q.2 * (sz_at R q.1).2 + (sz_rs R r).2) else (q.2 * (sz_at R q.1).2 + (sz_rs R r).1, q.2 * (sz_at R q.1).1 + (sz_rs R r).2)
def sz_rg2 (lo hi : Int) : Int × Int := if lo = hi then (sz_w lo, sz_w lo) else if -2147483648 ≤ lo ∧ hi ≤ 2147483647 then (lo, hi) else (-2147483648, 2147483647)
def sz_rg1 (R : szR) (c : Int) (t : szT) : Int × Int := match t with
  | [] => (sz_w c, sz_w c)
  | q :: t => sz_rg2 (c + (sz_rs R (q :: t)).1) (c + (sz_rs R (q :: t)).2)
def sz_rg (R : szR) (v : szV) : Int × Int := sz_rg1 R v.2.1 v.2.2
def sz_k (R : szR) (v : szV) : Option Int := if (sz_rg R v).1 = (sz_rg R v).2 then some (sz_rg R v).1 else none
def sz_ins (q : Nat × Int) : szT → szT
  | [] => [q]
  | p :: t => if q.1 = p.1 then (if q.2 + p.2 = 0 then t else (p.1, q.2 + p.2) :: t) else if q.1 < p.1 then q :: p :: t else p :: sz_ins q t
def sz_add : szT → szT → szT
  | [], u => u
  | q :: t, u => sz_ins q (sz_add t u)
def sz_sc (n : Int) (t : szT) : szT := t.map (fun q => (q.1, n * q.2))
def sz_op (o : Nat) (x y : Int32) : Int32 := match o with
  | 2 => x.toInt8.toInt32
  | 3 => x.toInt16.toInt32
  | 4 => if x = 0 then 0 else 1
  | a => (mz_bin (a - 10) x y).getD 0
def sz_find : szD → Nat → szV → szV → Nat → Option Nat
  | [], _, _, _, _ => none
  | q :: r, o, x, y, k => if q.1 = o ∧ q.2.1.2 = x.2 ∧ q.2.2.2 = y.2 then some k else sz_find r o x y (k + 1)
def sz_mk (D : szD) (o : Nat) (x y : szV) : Option szV := match sz_find D o x y 0 with
  | some k => some (0, 0, [(k, 1)])
  | none => none
def sz_lt (p q : Int × Int) : Option Bool := if p.2 < q.1 then some true else if q.2 ≤ p.1 then some false else none
def sz_eq (p q : Int × Int) : Option Bool := if p.2 < q.1 ∨ q.2 < p.1 then some false else if p.1 = p.2 ∧ q.1 = q.2 ∧ p.1 = q.1 then some true else none
def sz_cat (v : szV) : Nat := if v.1 = 2 ∨ v.1 = 5 then 2 else 1
noncomputable def sz_nth {α : Type} (l : List α) : Nat → Option α := List.rec (fun _ => none) (fun a _ ih n => Nat.rec (some a) (fun m _ => ih m) n) l
/-- the kernel takes x to a numeral before it goes on -/
noncomputable def sz_fo {β : Type} (x : Nat) (f : Nat → β) : β := Nat.rec (f 0) (fun m _ => f m) (Nat.add x 1)
noncomputable def sz_fi {β : Type} (c : Int) (f : Int → β) : β := match c with
  | .ofNat n => sz_fo n (fun n => f (.ofNat n))
  | .negSucc n => sz_fo n (fun n => f (.negSucc n))
noncomputable def sz_fv {β : Type} (v : szV) (f : szV → β) : β := match v with
  | (g, c, t) => sz_fo g (fun g => sz_fi c (fun c => match t with
    | [] => f (g, c, [])
    | q :: t => f (g, c, q :: t)))
noncomputable def sz_upk {α β : Type} (z : α) (i : Nat) (v : α) : List α → (List α → β) → β := Nat.rec (fun l k => match l with
    | [] => k [v]
    | _ :: t => k (v :: t)) (fun _ ih l k => match l with
    | [] => ih [] (fun t => k (z :: t))
    | a :: t => ih t (fun t => k (a :: t))) i
noncomputable def sz_ld (lo : szLo) (i : Nat) : Option szV := sz_nth lo i
/-- no long before local i -/
noncomputable def sz_lg (lo : szLo) (i : Nat) : Bool := match i with
  | 0 => true
  | k + 1 => match sz_nth lo k with
    | some v => !(Nat.beq v.1 2) && !(Nat.beq v.1 5)
    | none => true
abbrev szO : Type := Option (Nat × szLo × List szV)
noncomputable def sz_o3 (a b i nL : Nat) (lo : szLo) (st : List szV) : szO := match st with
  | v :: rest => if (v.1 = b ∨ (v.1 = 3 ∧ b = 1)) ∧ b < 2 ∧ a < nL ∧ sz_lg lo a = true then sz_upk (9, 0, []) a v lo (fun lo => some (i + 1, lo, rest)) else none
  | _ => none
def sz_o8 (i : Nat) (lo : szLo) (st : List szV) : szO := match st with
  | x :: rest => if x.1 = 0 then some (i + 1, lo, (2, x.2.1, x.2.2) :: rest) else none
  | _ => none
def sz_o12 (i : Nat) (lo : szLo) (st : List szV) : szO := match st with
  | v :: rest => if v.1 < 2 then some (i + 1, lo, v :: v :: rest) else none
  | _ => none
def sz_o13 (i : Nat) (lo : szLo) (st : List szV) : szO := match st with
  | v :: w :: rest => if v.1 < 2 ∧ w.1 < 2 then some (i + 1, lo, v :: w :: v :: w :: rest) else none
  | _ => none
def sz_o14 (i : Nat) (lo : szLo) (st : List szV) : szO := match st with
  | v :: rest => if v.1 < 2 then some (i + 1, lo, rest) else none
  | _ => none
def sz_o15 (i : Nat) (lo : szLo) (st : List szV) : szO := match st with
  | v :: w :: rest => if v.1 < 2 ∧ w.1 < 2 then some (i + 1, lo, v :: w :: v :: rest) else none
  | _ => none
/-- slot k of width w -/
def sz_sl (w N k : Nat) : Nat := Nat.mod (Nat.shiftRight N (Nat.mul w k)) (Nat.pow 2 w)
def sz_fa (q : Nat) : Nat := Nat.mod (Nat.shiftRight q 8) 65536
def sz_fb (q : Nat) : Nat := Nat.mod (Nat.shiftRight q 24) 65536
def sz_fc (q : Nat) : Int := Int.subNatNat (Nat.shiftRight q 40) 549755813888
def sz_pk (N : Nat) : List mzI → Bool
  | [] => Nat.beq N 0
  | ri :: cs => Nat.beq ri.1 (Nat.mod N 256) && (Nat.beq ri.2.1 (sz_fa (Nat.mod N (Nat.pow 2 80))) && (Nat.beq ri.2.2.1 (sz_fb (Nat.mod N (Nat.pow 2 80))) && (decide (ri.2.2.2.1 = sz_fc (Nat.mod N (Nat.pow 2 80))) && (!(Nat.beq (Nat.mod N (Nat.pow 2 80)) 0) && sz_pk (Nat.shiftRight N 80) cs))))
def sz_tot (st : List szV) : Nat := (st.map sz_cat).sum
noncomputable def sz_args {β : Type} : List szV → (szLo → β) → β
  | [], k => k []
  | v :: vs, k => if sz_cat v = 2 then sz_args vs (fun l => k (v :: (9, 0, []) :: l)) else sz_args vs (fun l => k (v :: l))
noncomputable def sz_tk {β : Type} (n : Nat) : List szV → List szV → (List szV → List szV → β) → Option β := Nat.rec (fun st as k => some (k as st)) (fun _ ih st as k => match st with
  | [] => none
  | v :: st => ih st (v :: as) k) n
/-- the program once more: locals, receiver, handler, code -/
abbrev szM : Type := Nat × Nat × (Nat × Nat × Nat) × Nat
noncomputable def sz_take (n : Nat) (st : List szV) : Option (List szV × List szV) := sz_tk n st [] (fun as rest => (as, rest))
end
section
/-! values of A: what holds of them -/
theorem sz_fo_eq {β : Type} (x : Nat) (f : Nat → β) : sz_fo x f = f x := rfl
theorem sz_fi_eq {β : Type} (c : Int) (f : Int → β) : sz_fi c f = f c := by cases c <;> rfl
theorem sz_fv_eq {β : Type} (v : szV) (f : szV → β) : sz_fv v f = f v := by
  obtain ⟨g, c, t⟩ := v
  cases c <;> cases t <;> rfl
theorem sz_nth_eq {α : Type} : ∀ (l : List α) (n : Nat), sz_nth l n = l[n]?
  | [], _ => rfl
  | _ :: _, 0 => rfl
  | _ :: l, n + 1 => (sz_nth_eq l n).trans (by simp)
noncomputable def sz_upl {α : Type} (z : α) (i : Nat) (v : α) (l : List α) : List α := sz_upk z i v l (fun l => l)
theorem sz_upk_eq {α β : Type} (z : α) (v : α) : ∀ (i : Nat) (l : List α) (k : List α → β), sz_upk z i v l k = k (sz_upl z i v l)
  | 0, [], _ => rfl
  | 0, _ :: _, _ => rfl
  | i + 1, [], k => (sz_upk_eq z v i [] (fun t => k (z :: t))).trans (congrArg k (sz_upk_eq z v i [] (fun t => z :: t)).symm)
  | i + 1, a :: l, k => (sz_upk_eq z v i l (fun t => k (a :: t))).trans (congrArg k (sz_upk_eq z v i l (fun t => a :: t)).symm)
theorem sz_upl_nil {α : Type} (z v : α) (i : Nat) : sz_upl z (i + 1) v [] = z :: sz_upl z i v [] := sz_upk_eq z v i [] (fun t => z :: t)
theorem sz_upl_cons {α : Type} (z v a : α) (i : Nat) (l : List α) : sz_upl z (i + 1) v (a :: l) = a :: sz_upl z i v l := sz_upk_eq z v i l (fun t => a :: t)
theorem sz_upl_at {α : Type} (z v : α) : ∀ (i : Nat) (l : List α) (n : Nat) (w : α), (sz_upl z i v l)[n]? = some w → (n = i ∧ w = v) ∨ (n ≠ i ∧ (l[n]? = some w ∨ w = z))
  | 0, [], 0, w, h => Or.inl ⟨rfl, by cases h; rfl⟩
  | 0, [], n + 1, w, h => by cases h
  | 0, _ :: _, 0, w, h => Or.inl ⟨rfl, by cases h; rfl⟩
  | 0, _ :: l, n + 1, w, h => Or.inr ⟨by omega, Or.inl h⟩
  | i + 1, [], 0, w, h => by rw [sz_upl_nil] at h; cases h; exact Or.inr ⟨by omega, Or.inr rfl⟩
  | i + 1, [], n + 1, w, h => by
    rw [sz_upl_nil] at h
    rcases sz_upl_at z v i [] n w (by simpa using h) with h | ⟨h1, h2⟩
    · exact Or.inl ⟨by omega, h.2⟩
    · exact Or.inr ⟨by omega, by rcases h2 with h2 | h2; · simp at h2
                                 · exact Or.inr h2⟩
  | i + 1, a :: l, 0, w, h => by rw [sz_upl_cons] at h; cases h; exact Or.inr ⟨by omega, Or.inl rfl⟩
  | i + 1, a :: l, n + 1, w, h => by
    rw [sz_upl_cons] at h
    rcases sz_upl_at z v i l n w (by simpa using h) with h | ⟨h1, h2⟩
    · exact Or.inl ⟨by omega, h.2⟩
    · exact Or.inr ⟨by omega, by rcases h2 with h2 | h2; · exact Or.inl (by simpa using h2)
                                 · exact Or.inr h2⟩
/-- values of atoms in their ranges -/
def sz_R (R : szR) (ρ : Nat → Int) : Prop := ∀ k, (sz_at R k).1 ≤ ρ k ∧ ρ k ≤ (sz_at R k).2
def sz_D (D : szD) (ρ : Nat → Int) : Prop := ∀ k o x y, D[k]? = some (o, x, y) → o ≠ 0 → ρ k = (sz_op o (sz_i ρ x) (sz_i ρ y)).toInt
theorem sz_rs_ok {R : szR} {ρ : Nat → Int} (h : sz_R R ρ) : ∀ t : szT, (sz_rs R t).1 ≤ sz_sum ρ t ∧ sz_sum ρ t ≤ (sz_rs R t).2
  | [] => ⟨Int.le_refl _, Int.le_refl _⟩
  | q :: t => by
    have ih := sz_rs_ok h t
    have hq := h q.1
    unfold sz_rs sz_sum
    by_cases h0 : 0 ≤ q.2
    · rw [if_pos h0]
      have h1 := Int.mul_le_mul_of_nonneg_left hq.1 h0
      have h2 := Int.mul_le_mul_of_nonneg_left hq.2 h0
      dsimp only
      omega
    · rw [if_neg h0]
      have h1 := Int.mul_le_mul_of_nonpos_left (a := q.2) (by omega) hq.1
      have h2 := Int.mul_le_mul_of_nonpos_left (a := q.2) (by omega) hq.2
      dsimp only
      omega
theorem sz_toInt (x : Int) : (Int32.ofInt x).toInt = sz_w x := Int32.toInt_ofInt
theorem sz_bd (x : Int32) : -2147483648 ≤ x.toInt ∧ x.toInt ≤ 2147483647 := ⟨x.le_toInt, by have := x.toInt_lt; omega⟩
theorem sz_w_id {x : Int} (h1 : -2147483648 ≤ x) (h2 : x ≤ 2147483647) : sz_w x = x := by
  rw [← sz_toInt]
  exact Int32.toInt_ofInt_of_le h1 (by omega)
theorem sz_rg_ok {R : szR} {ρ : Nat → Int} (h : sz_R R ρ) (v : szV) : (sz_rg R v).1 ≤ (sz_i ρ v).toInt ∧ (sz_i ρ v).toInt ≤ (sz_rg R v).2 := by
  obtain ⟨g, c, t⟩ := v
  unfold sz_rg sz_rg1 sz_i
  rw [sz_toInt]
  dsimp only
  cases t with
  | nil => exact ⟨by simp [sz_sum], by simp [sz_sum]⟩
  | cons q t =>
    dsimp only
    have hs := sz_rs_ok h (q :: t)
    generalize sz_rs R (q :: t) = u at hs ⊢
    generalize sz_sum ρ (q :: t) = z at hs ⊢
    unfold sz_rg2
    by_cases h1 : c + u.1 = c + u.2
    · rw [if_pos h1]
      have : c + z = c + u.1 := by omega
      rw [this]
      exact ⟨Int.le_refl _, Int.le_refl _⟩
    · rw [if_neg h1]
      by_cases h2 : -2147483648 ≤ c + u.1 ∧ c + u.2 ≤ 2147483647
      · rw [if_pos h2, sz_w_id (by omega) (by omega)]
        dsimp only
        omega
      · rw [if_neg h2, ← sz_toInt]
        exact sz_bd _
theorem sz_k_ok {R : szR} {ρ : Nat → Int} (h : sz_R R ρ) {v : szV} {c : Int} (hk : sz_k R v = some c) : sz_i ρ v = Int32.ofInt c ∧ (sz_i ρ v).toInt = c := by
  unfold sz_k at hk
  have hr := sz_rg_ok h v
  split at hk
  · rename_i he
    cases hk
    have : (sz_i ρ v).toInt = (sz_rg R v).1 := by omega
    exact ⟨by rw [← this, Int32.ofInt_toInt], this⟩
  · cases hk
theorem sz_sum_ins (ρ : Nat → Int) (q : Nat × Int) : ∀ t : szT, sz_sum ρ (sz_ins q t) = q.2 * ρ q.1 + sz_sum ρ t
  | [] => rfl
  | p :: t => by
    unfold sz_ins
    by_cases h1 : q.1 = p.1
    · rw [if_pos h1]
      by_cases h2 : q.2 + p.2 = 0
      · rw [if_pos h2]
        simp only [sz_sum]
        have : q.2 * ρ q.1 + p.2 * ρ p.1 = 0 := by rw [h1, ← Int.add_mul, h2, Int.zero_mul]
        omega
      · rw [if_neg h2]
        simp only [sz_sum]
        rw [h1, Int.add_mul]
        omega
    · rw [if_neg h1]
      by_cases h2 : q.1 < p.1
      · rw [if_pos h2]; rfl
      · rw [if_neg h2]
        simp only [sz_sum, sz_sum_ins ρ q t]
        omega
theorem sz_sum_add (ρ : Nat → Int) : ∀ t u : szT, sz_sum ρ (sz_add t u) = sz_sum ρ t + sz_sum ρ u
  | [], u => by simp [sz_add, sz_sum]
  | q :: t, u => by
    simp only [sz_add, sz_sum_ins, sz_sum, sz_sum_add ρ t u]
    omega
theorem sz_sum_sc (ρ : Nat → Int) (n : Int) : ∀ t : szT, sz_sum ρ (sz_sc n t) = n * sz_sum ρ t
  | [] => by simp [sz_sc, sz_sum]
  | q :: t => by
    have := sz_sum_sc ρ n t
    unfold sz_sc at this ⊢
    simp only [List.map_cons, sz_sum, this, Int.mul_add, Int.mul_assoc]
theorem sz_find_ok : ∀ {D : szD} {o : Nat} {x y : szV} {n k : Nat}, sz_find D o x y n = some k → ∃ x' y', n ≤ k ∧ D[k - n]? = some (o, x', y') ∧ x'.2 = x.2 ∧ y'.2 = y.2
  | [], _, _, _, _, _, h => by cases h
  | q :: D, o, x, y, n, k, h => by
    unfold sz_find at h
    split at h
    · rename_i hc
      cases h
      exact ⟨q.2.1, q.2.2, Nat.le_refl _, by rw [Nat.sub_self]; simp [← hc.1], hc.2.1, hc.2.2⟩
    · obtain ⟨x', y', h1, h2, h3⟩ := sz_find_ok h
      refine ⟨x', y', by omega, ?_, h3⟩
      have : k - n = (k - (n + 1)) + 1 := by omega
      rw [this]
      simpa using h2
theorem sz_i_eq {ρ : Nat → Int} {x y : szV} (h : x.2 = y.2) : sz_i ρ x = sz_i ρ y := by unfold sz_i; rw [h]
theorem sz_mk_ok {D : szD} {ρ : Nat → Int} (hD : sz_D D ρ) {o : Nat} {x y z : szV} (ho : o ≠ 0) (h : sz_mk D o x y = some z) : z.1 = 0 ∧ sz_i ρ z = sz_op o (sz_i ρ x) (sz_i ρ y) := by
  unfold sz_mk at h
  split at h
  · rename_i k hk
    cases h
    obtain ⟨x', y', h1, h2, h3, h4⟩ := sz_find_ok hk
    have := hD k o x' y' (by simpa using h2) ho
    refine ⟨rfl, ?_⟩
    unfold sz_i
    simp only [sz_sum, Int.zero_add, Int.one_mul, Int.add_zero, this, Int32.ofInt_toInt]
    rw [sz_i_eq h3, sz_i_eq h4]
    rfl
  · cases h
theorem sz_i_const (ρ : Nat → Int) (g : Nat) (c : Int) : sz_i ρ (g, c, []) = Int32.ofInt c := by unfold sz_i; simp [sz_sum]
theorem sz_lt_ok {p q : Int × Int} {x y : Int32} (hp : p.1 ≤ x.toInt ∧ x.toInt ≤ p.2) (hq : q.1 ≤ y.toInt ∧ y.toInt ≤ q.2) {b : Bool} (h : sz_lt p q = some b) : b = decide (x < y) := by
  unfold sz_lt at h
  split at h
  · cases h
    exact (decide_eq_true (Int32.lt_iff_toInt_lt.mpr (by omega))).symm
  · split at h
    · cases h
      exact (decide_eq_false (fun hh => by have := Int32.lt_iff_toInt_lt.mp hh; omega)).symm
    · cases h
theorem sz_eq_ok {p q : Int × Int} {x y : Int32} (hp : p.1 ≤ x.toInt ∧ x.toInt ≤ p.2) (hq : q.1 ≤ y.toInt ∧ y.toInt ≤ q.2) {b : Bool} (h : sz_eq p q = some b) : b = decide (x = y) := by
  unfold sz_eq at h
  split at h
  · cases h
    exact (decide_eq_false (fun hh => by rw [hh] at hp; omega)).symm
  · split at h
    · cases h
      exact (decide_eq_true (Int32.toInt_inj.mp (by omega))).symm
    · cases h
theorem sz_le_not (x y : Int32) : decide (y ≤ x) = !decide (x < y) := by
  rw [← decide_not]
  congr 1
  rw [Int32.le_iff_toInt_le, Int32.lt_iff_toInt_lt]
  exact propext (by omega)
theorem sz_vi {ρ : Nat → Int} {v : szV} (h : v.1 = 0) : sz_v ρ v = .int (sz_i ρ v) := by unfold sz_v; rw [h]; rfl
theorem sz_vl {ρ : Nat → Int} {v : szV} (h : v.1 = 2) : sz_v ρ v = .long (sz_i ρ v).toInt64 := by unfold sz_v; rw [h]; rfl
theorem sz_vj {ρ : Nat → Int} {v : szV} (h : v.1 = 3) : sz_v ρ v = .retAddr 0 := by unfold sz_v; rw [h]; rfl
theorem sz_ty {ρ : Nat → Int} {v : szV} (h : v.1 < 4) : mz_ty (sz_v ρ v) = v.1 := by
  obtain ⟨g, c, t⟩ := v
  match g, h with
  | 0, _ => rfl
  | 1, _ => rfl
  | 2, _ => rfl
  | 3, _ => rfl
theorem sz_catv (ρ : Nat → Int) (v : szV) : (sz_v ρ v).category = sz_cat v := by
  obtain ⟨g, c, t⟩ := v
  match g with
  | 0 => rfl
  | 1 => rfl
  | 2 => rfl
  | 3 => rfl
  | 4 => rfl
  | 5 => rfl
  | _ + 6 => simp [sz_v, sz_cat, Value.category]
theorem sz_totv (ρ : Nat → Int) (st : List szV) : mz_sum (st.map (sz_v ρ)) = sz_tot st := by
  unfold mz_sum sz_tot
  rw [List.map_map]
  congr 1
  exact List.map_congr_left (fun v _ => sz_catv ρ v)
end
section
/-! A: what is known of atoms: definitions D, ranges R, sums that are at least 0 -/
abbrev azS : Type := List (Int × szT)
/-- types of slots: kind (0 int, 1 long, 2 a reference), the reference, intervals -/
abbrev azTy : Type := Nat × Nat × List (Int × Int)
def az_sh (t u : szT) : Bool := t.any (fun p => u.any (fun q => Nat.beq p.1 q.1))
noncomputable def az_lb1 (R : szR) (c : Int) (t : szT) : azS → Int → Int
  | [], b => b
  | f :: r, b => bif az_sh f.2 t then sz_fi (c - f.1 + (sz_rs R (sz_add t (sz_sc (-1) f.2))).1) (fun x => if b < x then az_lb1 R c t r x else az_lb1 R c t r b) else az_lb1 R c t r b
/-- a bound from below, from above -/
noncomputable def az_lb (R : szR) (Cs : azS) (c : Int) (t : szT) : Int := match t with
  | [] => c
  | q :: t => sz_fi (c + (sz_rs R (q :: t)).1) (fun b => az_lb1 R c (q :: t) Cs b)
noncomputable def az_ub (R : szR) (Cs : azS) (c : Int) (t : szT) : Int := match t with
  | [] => c
  | q :: t => -(az_lb R Cs (-c) (sz_sc (-1) (q :: t)))
def az_S (Cs : azS) (ρ : Nat → Int) : Prop := ∀ f ∈ Cs, 0 ≤ f.1 + sz_sum ρ f.2
theorem az_lb1_ok {R : szR} {Cs : azS} {ρ : Nat → Int} (hR : sz_R R ρ) {c : Int} {t : szT} : ∀ {Cs : azS} {b : Int}, az_S Cs ρ → b ≤ c + sz_sum ρ t → az_lb1 R c t Cs b ≤ c + sz_sum ρ t
  | [], _, _, hb => hb
  | f :: r, b, hC, hb => by
    have hr : az_S r ρ := fun g hg => hC g (List.mem_cons_of_mem _ hg)
    unfold az_lb1
    cases az_sh f.2 t with
    | false => exact az_lb1_ok hR hr hb
    | true =>
      dsimp only [cond]
      rw [sz_fi_eq]
      split
      · refine az_lb1_ok hR hr ?_
        have h1 := (sz_rs_ok hR (sz_add t (sz_sc (-1) f.2))).1
        rw [sz_sum_add, sz_sum_sc] at h1
        have h2 := hC f List.mem_cons_self
        omega
      · exact az_lb1_ok hR hr hb
theorem az_lb_ok {R : szR} {Cs : azS} {ρ : Nat → Int} (hR : sz_R R ρ) (hC : az_S Cs ρ) (c : Int) (t : szT) : az_lb R Cs c t ≤ c + sz_sum ρ t := by
  unfold az_lb
  match t with
  | [] => show c ≤ c + 0; omega
  | q :: t =>
    dsimp only
    rw [sz_fi_eq]
    refine az_lb1_ok (Cs := Cs) hR hC ?_
    have := (sz_rs_ok hR (q :: t)).1
    omega
theorem az_ub_ok {R : szR} {Cs : azS} {ρ : Nat → Int} (hR : sz_R R ρ) (hC : az_S Cs ρ) (c : Int) (t : szT) : c + sz_sum ρ t ≤ az_ub R Cs c t := by
  unfold az_ub
  match t with
  | [] => show c + 0 ≤ c; omega
  | q :: t =>
    dsimp only
    have := az_lb_ok hR hC (-c) (sz_sc (-1) (q :: t))
    rw [sz_sum_sc] at this
    omega
/-- a sum that is an int as it stands -/
noncomputable def az_nw (R : szR) (Cs : azS) (v : szV) : Bool := decide (-2147483648 ≤ az_lb R Cs v.2.1 v.2.2) && decide (az_ub R Cs v.2.1 v.2.2 ≤ 2147483647)
theorem az_nw_ok {R : szR} {Cs : azS} {ρ : Nat → Int} (hR : sz_R R ρ) (hC : az_S Cs ρ) {v : szV} (h : az_nw R Cs v = true) : (sz_i ρ v).toInt = v.2.1 + sz_sum ρ v.2.2 := by
  unfold az_nw at h
  rw [Bool.and_eq_true, decide_eq_true_eq, decide_eq_true_eq] at h
  have h1 := az_lb_ok hR hC v.2.1 v.2.2
  have h2 := az_ub_ok hR hC v.2.1 v.2.2
  unfold sz_i
  rw [sz_toInt]
  exact sz_w_id (by omega) (by omega)
/-- a constant -/
noncomputable def az_k (R : szR) (Cs : azS) (v : szV) : Option Int := match v.2.2 with
  | [] => if -2147483648 ≤ v.2.1 ∧ v.2.1 ≤ 2147483647 then some v.2.1 else none
  | q :: t => sz_fi (az_lb R Cs v.2.1 (q :: t)) (fun l => if l = az_ub R Cs v.2.1 (q :: t) ∧ -2147483648 ≤ l ∧ l ≤ 2147483647 then some l else none)
theorem az_k_ok {R : szR} {Cs : azS} {ρ : Nat → Int} (hR : sz_R R ρ) (hC : az_S Cs ρ) {v : szV} {c : Int} (h : az_k R Cs v = some c) : v.2.1 + sz_sum ρ v.2.2 = c ∧ -2147483648 ≤ c ∧ c ≤ 2147483647 ∧ sz_i ρ v = Int32.ofInt c ∧ (sz_i ρ v).toInt = c := by
  obtain ⟨g, c0, t⟩ := v
  have key : c0 + sz_sum ρ t = c ∧ -2147483648 ≤ c ∧ c ≤ 2147483647 := by
    unfold az_k at h
    match t, h with
    | [], h =>
      dsimp only at h
      split at h
      · rename_i hh
        cases h
        refine ⟨?_, hh.1, hh.2⟩
        show c0 + 0 = c0
        omega
      · cases h
    | q :: t, h =>
      dsimp only at h
      rw [sz_fi_eq] at h
      split at h
      · rename_i hh
        cases h
        have h1 := az_lb_ok hR hC c0 (q :: t)
        have h2 := az_ub_ok hR hC c0 (q :: t)
        exact ⟨by omega, hh.2.1, hh.2.2⟩
      · cases h
  have e : sz_i ρ (g, c0, t) = Int32.ofInt c := by unfold sz_i; rw [key.1]
  refine ⟨key.1, key.2.1, key.2.2, e, ?_⟩
  rw [e, sz_toInt]
  exact sz_w_id key.2.1 key.2.2
/-- the coefficient of an atom; the others -/
def az_co (k : Nat) : szT → Int
  | [] => 0
  | q :: t => if q.1 = k then q.2 + az_co k t else az_co k t
def az_rm (k : Nat) : szT → szT
  | [] => []
  | q :: t => if q.1 = k then az_rm k t else q :: az_rm k t
theorem az_co_rm (ρ : Nat → Int) (k : Nat) : ∀ t : szT, sz_sum ρ t = az_co k t * ρ k + sz_sum ρ (az_rm k t)
  | [] => by simp [sz_sum, az_co, az_rm]
  | q :: t => by
    unfold az_co az_rm
    have := az_co_rm ρ k t
    by_cases h : q.1 = k
    · rw [if_pos h, if_pos h]
      show q.2 * ρ q.1 + sz_sum ρ t = _
      rw [h, this, Int.add_mul]
      omega
    · rw [if_neg h, if_neg h]
      show q.2 * ρ q.1 + sz_sum ρ t = az_co k t * ρ k + (q.2 * ρ q.1 + sz_sum ρ (az_rm k t))
      rw [this]
      omega
/-- the parts of intervals that lie within a range -/
def az_iv (l h : Int) : List (Int × Int) → Option (Int × Int)
  | [] => none
  | p :: r => if (if l < p.1 then p.1 else l) ≤ (if p.2 < h then p.2 else h) then match az_iv l h r with
      | none => some (if l < p.1 then p.1 else l, if p.2 < h then p.2 else h)
      | some q => some (if q.1 < (if l < p.1 then p.1 else l) then q.1 else (if l < p.1 then p.1 else l), if (if p.2 < h then p.2 else h) < q.2 then q.2 else (if p.2 < h then p.2 else h))
    else az_iv l h r
theorem az_iv_ok {l h x : Int} (h1 : l ≤ x) (h2 : x ≤ h) : ∀ {ps : List (Int × Int)}, (∃ p ∈ ps, p.1 ≤ x ∧ x ≤ p.2) → ∃ q, az_iv l h ps = some q ∧ q.1 ≤ x ∧ x ≤ q.2
  | [], hp => by obtain ⟨p, hp, _⟩ := hp; cases hp
  | p :: r, hp => by
    unfold az_iv
    by_cases hh : p.1 ≤ x ∧ x ≤ p.2
    · have hc : (if l < p.1 then p.1 else l) ≤ (if p.2 < h then p.2 else h) := by split <;> split <;> omega
      rw [if_pos hc]
      split
      · refine ⟨_, rfl, ?_, ?_⟩
        · dsimp only; split <;> omega
        · dsimp only; split <;> omega
      · rename_i q _
        refine ⟨_, rfl, ?_, ?_⟩
        · dsimp only; split <;> (try split) <;> omega
        · dsimp only; split <;> (try split) <;> omega
    · have hp' : ∃ p ∈ r, p.1 ≤ x ∧ x ≤ p.2 := by
        obtain ⟨q, hq, hx⟩ := hp
        rcases List.mem_cons.mp hq with e | e
        · subst e; exact absurd hx hh
        · exact ⟨q, e, hx⟩
      obtain ⟨q, e1, e2, e3⟩ := az_iv_ok h1 h2 hp'
      split
      · rw [e1]
        refine ⟨_, rfl, ?_, ?_⟩
        · dsimp only; split <;> (try split) <;> omega
        · dsimp only; split <;> (try split) <;> omega
      · exact ⟨q, e1, e2, e3⟩
end
