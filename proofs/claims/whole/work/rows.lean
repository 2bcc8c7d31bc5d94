section
-- ===== PART A: goes FIRST, ahead of the names: the tables' words, and 'selects' of the private methods out of them =====
/-- a private method of a class that the tables say can be made, by its rows of tables_1 -/
def lw_okq (q : MethodName × Nat) : Prop := (q.1.cls ≠ "java/lang/invoke/MethodHandle" ∧ q.1.cls ≠ "java/lang/invoke/VarHandle") ∧ Cond.instantiable q.1.cls q.2 ∈ tables_1 ∧ Cond.privateMethod q.1 ∈ tables_1 ∧ Cond.instanceMethod q.1 ∈ tables_1
theorem lw_p0 : lw_okq (⟨"java/lang/Throwable", "fillInStackTrace", "(I)Ljava/lang/Throwable;"⟩, 6) := ⟨⟨by decide +kernel, by decide +kernel⟩, List.mem_of_getElem? (i := 194) (by decide +kernel), List.mem_of_getElem? (i := 192) (by decide +kernel), List.mem_of_getElem? (i := 193) (by decide +kernel)⟩
theorem lw_p1 : lw_okq (⟨"MeasuredStages", "digestOf", "(I)J"⟩, 12) := ⟨⟨by decide +kernel, by decide +kernel⟩, List.mem_of_getElem? (i := 14) (by decide +kernel), List.mem_of_getElem? (i := 231) (by decide +kernel), List.mem_of_getElem? (i := 232) (by decide +kernel)⟩
theorem lw_p2 : lw_okq (⟨"MeasuredStages", "clearForBoot", "()V"⟩, 12) := ⟨⟨by decide +kernel, by decide +kernel⟩, List.mem_of_getElem? (i := 14) (by decide +kernel), List.mem_of_getElem? (i := 245) (by decide +kernel), List.mem_of_getElem? (i := 246) (by decide +kernel)⟩
theorem lw_p3 : lw_okq (⟨"MeasuredStages", "launchAt", "(II)I"⟩, 12) := ⟨⟨by decide +kernel, by decide +kernel⟩, List.mem_of_getElem? (i := 14) (by decide +kernel), List.mem_of_getElem? (i := 253) (by decide +kernel), List.mem_of_getElem? (i := 254) (by decide +kernel)⟩
theorem lw_p4 : lw_okq (⟨"MeasuredStages", "extendOrFault", "(IJ)I"⟩, 12) := ⟨⟨by decide +kernel, by decide +kernel⟩, List.mem_of_getElem? (i := 14) (by decide +kernel), List.mem_of_getElem? (i := 257) (by decide +kernel), List.mem_of_getElem? (i := 258) (by decide +kernel)⟩
theorem lw_p5 : lw_okq (⟨"MeasuredStages", "runToTheEnd", "()V"⟩, 12) := ⟨⟨by decide +kernel, by decide +kernel⟩, List.mem_of_getElem? (i := 14) (by decide +kernel), List.mem_of_getElem? (i := 265) (by decide +kernel), List.mem_of_getElem? (i := 266) (by decide +kernel)⟩
theorem lw_p6 : lw_okq (⟨"MeasuredStages", "doInstruction", "()I"⟩, 12) := ⟨⟨by decide +kernel, by decide +kernel⟩, List.mem_of_getElem? (i := 14) (by decide +kernel), List.mem_of_getElem? (i := 269) (by decide +kernel), List.mem_of_getElem? (i := 270) (by decide +kernel)⟩
theorem lw_p7 : lw_okq (⟨"MeasuredStages", "takeDigit", "()I"⟩, 12) := ⟨⟨by decide +kernel, by decide +kernel⟩, List.mem_of_getElem? (i := 14) (by decide +kernel), List.mem_of_getElem? (i := 273) (by decide +kernel), List.mem_of_getElem? (i := 274) (by decide +kernel)⟩
theorem lw_p8 : lw_okq (⟨"MeasuredStages", "takeImage", "()I"⟩, 12) := ⟨⟨by decide +kernel, by decide +kernel⟩, List.mem_of_getElem? (i := 14) (by decide +kernel), List.mem_of_getElem? (i := 277) (by decide +kernel), List.mem_of_getElem? (i := 278) (by decide +kernel)⟩
theorem lw_p9 : lw_okq (⟨"MeasuredStages", "takeRegister", "()I"⟩, 12) := ⟨⟨by decide +kernel, by decide +kernel⟩, List.mem_of_getElem? (i := 14) (by decide +kernel), List.mem_of_getElem? (i := 281) (by decide +kernel), List.mem_of_getElem? (i := 282) (by decide +kernel)⟩
theorem lw_p10 : lw_okq (⟨"MeasuredStages", "isApproved", "(I)Z"⟩, 12) := ⟨⟨by decide +kernel, by decide +kernel⟩, List.mem_of_getElem? (i := 14) (by decide +kernel), List.mem_of_getElem? (i := 285) (by decide +kernel), List.mem_of_getElem? (i := 286) (by decide +kernel)⟩
theorem lw_p11 : lw_okq (⟨"MeasuredStages", "loadSecret", "(I)I"⟩, 12) := ⟨⟨by decide +kernel, by decide +kernel⟩, List.mem_of_getElem? (i := 14) (by decide +kernel), List.mem_of_getElem? (i := 289) (by decide +kernel), List.mem_of_getElem? (i := 290) (by decide +kernel)⟩
theorem lw_p12 : lw_okq (⟨"MeasuredStages", "isOpen", "(I)Z"⟩, 12) := ⟨⟨by decide +kernel, by decide +kernel⟩, List.mem_of_getElem? (i := 14) (by decide +kernel), List.mem_of_getElem? (i := 297) (by decide +kernel), List.mem_of_getElem? (i := 298) (by decide +kernel)⟩
theorem lw_p13 : lw_okq (⟨"MeasuredStages", "passOverIfZero", "(I)V"⟩, 12) := ⟨⟨by decide +kernel, by decide +kernel⟩, List.mem_of_getElem? (i := 14) (by decide +kernel), List.mem_of_getElem? (i := 306) (by decide +kernel), List.mem_of_getElem? (i := 307) (by decide +kernel)⟩
theorem lw_p14 : lw_okq (⟨"MeasuredStages", "sealAcc", "(I)I"⟩, 12) := ⟨⟨by decide +kernel, by decide +kernel⟩, List.mem_of_getElem? (i := 14) (by decide +kernel), List.mem_of_getElem? (i := 310) (by decide +kernel), List.mem_of_getElem? (i := 311) (by decide +kernel)⟩
theorem lw_p15 : lw_okq (⟨"MeasuredStagesModel", "digest", "(I)J"⟩, 19) := ⟨⟨by decide +kernel, by decide +kernel⟩, List.mem_of_getElem? (i := 454) (by decide +kernel), List.mem_of_getElem? (i := 530) (by decide +kernel), List.mem_of_getElem? (i := 531) (by decide +kernel)⟩
def lw_privs_1 : List (MethodName × Nat) := [(⟨"java/lang/Throwable", "fillInStackTrace", "(I)Ljava/lang/Throwable;"⟩, 6), (⟨"MeasuredStages", "digestOf", "(I)J"⟩, 12), (⟨"MeasuredStages", "clearForBoot", "()V"⟩, 12), (⟨"MeasuredStages", "launchAt", "(II)I"⟩, 12), (⟨"MeasuredStages", "extendOrFault", "(IJ)I"⟩, 12), (⟨"MeasuredStages", "runToTheEnd", "()V"⟩, 12), (⟨"MeasuredStages", "doInstruction", "()I"⟩, 12), (⟨"MeasuredStages", "takeDigit", "()I"⟩, 12), (⟨"MeasuredStages", "takeImage", "()I"⟩, 12), (⟨"MeasuredStages", "takeRegister", "()I"⟩, 12), (⟨"MeasuredStages", "isApproved", "(I)Z"⟩, 12), (⟨"MeasuredStages", "loadSecret", "(I)I"⟩, 12), (⟨"MeasuredStages", "isOpen", "(I)Z"⟩, 12), (⟨"MeasuredStages", "passOverIfZero", "(I)V"⟩, 12), (⟨"MeasuredStages", "sealAcc", "(I)I"⟩, 12), (⟨"MeasuredStagesModel", "digest", "(I)J"⟩, 19)]
theorem lw_r1 : ∀ q ∈ lw_privs_1, lw_okq q := List.forall_mem_cons.mpr ⟨lw_p0, List.forall_mem_cons.mpr ⟨lw_p1, List.forall_mem_cons.mpr ⟨lw_p2, List.forall_mem_cons.mpr ⟨lw_p3, List.forall_mem_cons.mpr ⟨lw_p4, List.forall_mem_cons.mpr ⟨lw_p5, List.forall_mem_cons.mpr ⟨lw_p6, List.forall_mem_cons.mpr ⟨lw_p7, List.forall_mem_cons.mpr ⟨lw_p8, List.forall_mem_cons.mpr ⟨lw_p9, List.forall_mem_cons.mpr ⟨lw_p10, List.forall_mem_cons.mpr ⟨lw_p11, List.forall_mem_cons.mpr ⟨lw_p12, List.forall_mem_cons.mpr ⟨lw_p13, List.forall_mem_cons.mpr ⟨lw_p14, List.forall_mem_cons.mpr ⟨lw_p15, fun _ h => absurd h List.not_mem_nil⟩⟩⟩⟩⟩⟩⟩⟩⟩⟩⟩⟩⟩⟩⟩⟩
theorem lw_p16 : lw_okq (⟨"MeasuredStagesModel", "launch", "(II)Z"⟩, 19) := ⟨⟨by decide +kernel, by decide +kernel⟩, List.mem_of_getElem? (i := 454) (by decide +kernel), List.mem_of_getElem? (i := 545) (by decide +kernel), List.mem_of_getElem? (i := 546) (by decide +kernel)⟩
theorem lw_p17 : lw_okq (⟨"MeasuredStagesModel", "note", "(IJ)Z"⟩, 19) := ⟨⟨by decide +kernel, by decide +kernel⟩, List.mem_of_getElem? (i := 454) (by decide +kernel), List.mem_of_getElem? (i := 549) (by decide +kernel), List.mem_of_getElem? (i := 550) (by decide +kernel)⟩
theorem lw_p18 : lw_okq (⟨"MeasuredStagesModel", "instruction", "()I"⟩, 19) := ⟨⟨by decide +kernel, by decide +kernel⟩, List.mem_of_getElem? (i := 454) (by decide +kernel), List.mem_of_getElem? (i := 553) (by decide +kernel), List.mem_of_getElem? (i := 554) (by decide +kernel)⟩
theorem lw_p19 : lw_okq (⟨"MeasuredStagesModel", "digit", "(II)I"⟩, 19) := ⟨⟨by decide +kernel, by decide +kernel⟩, List.mem_of_getElem? (i := 454) (by decide +kernel), List.mem_of_getElem? (i := 557) (by decide +kernel), List.mem_of_getElem? (i := 558) (by decide +kernel)⟩
theorem lw_p20 : lw_okq (⟨"MeasuredStagesModel", "faultOf", "(III)I"⟩, 19) := ⟨⟨by decide +kernel, by decide +kernel⟩, List.mem_of_getElem? (i := 454) (by decide +kernel), List.mem_of_getElem? (i := 562) (by decide +kernel), List.mem_of_getElem? (i := 563) (by decide +kernel)⟩
theorem lw_p21 : lw_okq (⟨"MeasuredStagesModel", "policy", "(I)J"⟩, 19) := ⟨⟨by decide +kernel, by decide +kernel⟩, List.mem_of_getElem? (i := 454) (by decide +kernel), List.mem_of_getElem? (i := 566) (by decide +kernel), List.mem_of_getElem? (i := 567) (by decide +kernel)⟩
theorem lw_p22 : lw_okq (⟨"MeasuredStagesModel", "freeBlob", "()I"⟩, 19) := ⟨⟨by decide +kernel, by decide +kernel⟩, List.mem_of_getElem? (i := 454) (by decide +kernel), List.mem_of_getElem? (i := 571) (by decide +kernel), List.mem_of_getElem? (i := 572) (by decide +kernel)⟩
theorem lw_p23 : lw_okq (⟨"MeasuredStagesModel", "act", "(IIII)V"⟩, 19) := ⟨⟨by decide +kernel, by decide +kernel⟩, List.mem_of_getElem? (i := 454) (by decide +kernel), List.mem_of_getElem? (i := 578) (by decide +kernel), List.mem_of_getElem? (i := 579) (by decide +kernel)⟩
theorem lw_p24 : lw_okq (⟨"MeasuredStagesModel", "fill", "(IIJ)V"⟩, 19) := ⟨⟨by decide +kernel, by decide +kernel⟩, List.mem_of_getElem? (i := 454) (by decide +kernel), List.mem_of_getElem? (i := 582) (by decide +kernel), List.mem_of_getElem? (i := 583) (by decide +kernel)⟩
theorem lw_p25 : lw_okq (⟨"MeasuredStagesModel", "event", "(I)Z"⟩, 19) := ⟨⟨by decide +kernel, by decide +kernel⟩, List.mem_of_getElem? (i := 454) (by decide +kernel), List.mem_of_getElem? (i := 618) (by decide +kernel), List.mem_of_getElem? (i := 619) (by decide +kernel)⟩
def lw_privs_2 : List (MethodName × Nat) := [(⟨"MeasuredStagesModel", "launch", "(II)Z"⟩, 19), (⟨"MeasuredStagesModel", "note", "(IJ)Z"⟩, 19), (⟨"MeasuredStagesModel", "instruction", "()I"⟩, 19), (⟨"MeasuredStagesModel", "digit", "(II)I"⟩, 19), (⟨"MeasuredStagesModel", "faultOf", "(III)I"⟩, 19), (⟨"MeasuredStagesModel", "policy", "(I)J"⟩, 19), (⟨"MeasuredStagesModel", "freeBlob", "()I"⟩, 19), (⟨"MeasuredStagesModel", "act", "(IIII)V"⟩, 19), (⟨"MeasuredStagesModel", "fill", "(IIJ)V"⟩, 19), (⟨"MeasuredStagesModel", "event", "(I)Z"⟩, 19)]
theorem lw_r2 : ∀ q ∈ lw_privs_2, lw_okq q := List.forall_mem_cons.mpr ⟨lw_p16, List.forall_mem_cons.mpr ⟨lw_p17, List.forall_mem_cons.mpr ⟨lw_p18, List.forall_mem_cons.mpr ⟨lw_p19, List.forall_mem_cons.mpr ⟨lw_p20, List.forall_mem_cons.mpr ⟨lw_p21, List.forall_mem_cons.mpr ⟨lw_p22, List.forall_mem_cons.mpr ⟨lw_p23, List.forall_mem_cons.mpr ⟨lw_p24, List.forall_mem_cons.mpr ⟨lw_p25, fun _ h => absurd h List.not_mem_nil⟩⟩⟩⟩⟩⟩⟩⟩⟩⟩
def lw_privs : List (MethodName × Nat) := lw_privs_1 ++ (lw_privs_2)
def lw_tbl : List Cond := k2_sels lw_privs ++ tables_1
theorem lw_privs_ok : ∀ q ∈ lw_privs, lw_okq q := by
  show ∀ q ∈ lw_privs_1 ++ (lw_privs_2), lw_okq q
  exact List.forall_mem_append.mpr ⟨lw_r1, lw_r2⟩
/-- the words that stay true under warmer tables: every contract's words, behind its own code -/
def TB : List Cond := lw_tbl.filter goodWord
theorem tb_of {w : Cond} (h : w ∈ lw_tbl) (g : goodWord w = true) : w ∈ TB := List.mem_filter.mpr ⟨h, g⟩
theorem tb_at {w : Cond} (i : Nat) (h : tables_1[i]? = some w) (g : goodWord w = true) : w ∈ TB := tb_of (List.mem_append_right _ (List.mem_of_getElem? h)) g
theorem tb_sl {y : MethodName} {n : Nat} (h : (y, n) ∈ lw_privs) (g : goodWord (Cond.selects y.cls y y) = true) : Cond.selects y.cls y y ∈ TB := tb_of (List.mem_append_left _ (List.mem_map.mpr ⟨(y, n), h, rfl⟩)) g
theorem tb_good {w : Cond} (h : w ∈ TB) : (w.onTables && w.keeps) = true ∨ ∃ ty, w = .arrayClass ty := good_of_word (List.mem_filter.mp h).2
theorem tb_gi {c : Cond} {ws : List Cond} (h : ∀ w ∈ ws, w ∈ TB) : GoodIn (c :: TB) ws := fun w hw => ⟨List.mem_cons_of_mem _ (h w hw), tb_good (h w hw)⟩
end
section
theorem tb_0 : (Cond.initialized "MeasuredStagesLaw") ∈ TB := tb_at 0 (by decide +kernel) (by decide +kernel)
theorem tb_1 : (Cond.initialized "MeasuredStages") ∈ TB := tb_at 1 (by decide +kernel) (by decide +kernel)
theorem tb_2 : (Cond.initialized "MeasuredStages$Registers") ∈ TB := tb_at 2 (by decide +kernel) (by decide +kernel)
theorem tb_3 : (Cond.initialized "MeasuredStages$Blobs") ∈ TB := tb_at 3 (by decide +kernel) (by decide +kernel)
theorem tb_4 : (Cond.initialized "MeasuredStagesModel") ∈ TB := tb_at 4 (by decide +kernel) (by decide +kernel)
theorem tb_5 : (Cond.initialized "java/lang/Throwable") ∈ TB := tb_at 5 (by decide +kernel) (by decide +kernel)
theorem tb_6 : (Cond.initialized "java/lang/Exception") ∈ TB := tb_at 6 (by decide +kernel) (by decide +kernel)
theorem tb_7 : (Cond.initialized "java/lang/RuntimeException") ∈ TB := tb_at 7 (by decide +kernel) (by decide +kernel)
theorem tb_8 : (Cond.initialized "java/lang/IllegalArgumentException") ∈ TB := tb_at 8 (by decide +kernel) (by decide +kernel)
theorem tb_9 : (Cond.initialized "java/util/Arrays") ∈ TB := tb_at 9 (by decide +kernel) (by decide +kernel)
theorem tb_10 : (Cond.initialized "java/lang/IllegalStateException") ∈ TB := tb_at 10 (by decide +kernel) (by decide +kernel)
theorem tb_11 : (Cond.initialized "java/lang/IndexOutOfBoundsException") ∈ TB := tb_at 11 (by decide +kernel) (by decide +kernel)
theorem tb_12 : (Cond.initialized "java/util/NoSuchElementException") ∈ TB := tb_at 12 (by decide +kernel) (by decide +kernel)
theorem tb_13 : (Cond.classLink "MeasuredStagesLaw" 8 "MeasuredStages") ∈ TB := tb_at 13 (by decide +kernel) (by decide +kernel)
theorem tb_14 : (Cond.instantiable "MeasuredStages" 12) ∈ TB := tb_at 14 (by decide +kernel) (by decide +kernel)
theorem tb_15 : (Cond.methodLink "MeasuredStagesLaw" 59 ⟨"MeasuredStages", "<init>", "()V"⟩) ∈ TB := tb_at 15 (by decide +kernel) (by decide +kernel)
theorem tb_16 : (Cond.instanceMethod ⟨"MeasuredStages", "<init>", "()V"⟩) ∈ TB := tb_at 16 (by decide +kernel) (by decide +kernel)
theorem tb_17 : (Cond.code ⟨"MeasuredStages", "<init>", "()V"⟩ prog_1_method_1_code 1 none) ∈ TB := tb_at 17 (by decide +kernel) (by decide +kernel)
theorem tb_18 : (Cond.methodLink "MeasuredStages" 1 ⟨"java/lang/Object", "<init>", "()V"⟩) ∈ TB := tb_at 18 (by decide +kernel) (by decide +kernel)
theorem tb_19 : (Cond.instanceMethod ⟨"java/lang/Object", "<init>", "()V"⟩) ∈ TB := tb_at 19 (by decide +kernel) (by decide +kernel)
theorem tb_20 : (Cond.code ⟨"java/lang/Object", "<init>", "()V"⟩ object_method_1_code 1 none) ∈ TB := tb_at 20 (by decide +kernel) (by decide +kernel)
theorem tb_21 : (Cond.classLink "MeasuredStages" 20 "MeasuredStages$Registers") ∈ TB := tb_at 21 (by decide +kernel) (by decide +kernel)
theorem tb_22 : (Cond.instantiable "MeasuredStages$Registers" 5) ∈ TB := tb_at 22 (by decide +kernel) (by decide +kernel)
theorem tb_24 : (Cond.instanceMethod ⟨"MeasuredStages$Registers", "<init>", "()V"⟩) ∈ TB := tb_at 24 (by decide +kernel) (by decide +kernel)
theorem tb_25 : (Cond.code ⟨"MeasuredStages$Registers", "<init>", "()V"⟩ prog_3_method_1_code 1 none) ∈ TB := tb_at 25 (by decide +kernel) (by decide +kernel)
theorem tb_26 : (Cond.methodLink "MeasuredStages$Registers" 3 ⟨"java/lang/Object", "<init>", "()V"⟩) ∈ TB := tb_at 26 (by decide +kernel) (by decide +kernel)
theorem tb_27 : (Cond.fieldLink "MeasuredStages$Registers" 11 "MeasuredStages$Registers" "held" "[J") ∈ TB := tb_at 27 (by decide +kernel) (by decide +kernel)
theorem tb_28 : (Cond.fieldLink "MeasuredStages" 93 "MeasuredStages$Registers" "held" "[J") ∈ TB := tb_at 28 (by decide +kernel) (by decide +kernel)
theorem tb_29 : (Cond.fieldLink "MeasuredStages$Registers" 15 "MeasuredStages$Registers" "eventRegisters" "[I") ∈ TB := tb_at 29 (by decide +kernel) (by decide +kernel)
theorem tb_30 : (Cond.fieldLink "MeasuredStages" 113 "MeasuredStages$Registers" "eventRegisters" "[I") ∈ TB := tb_at 30 (by decide +kernel) (by decide +kernel)
theorem tb_31 : (Cond.fieldLink "MeasuredStages$Registers" 19 "MeasuredStages$Registers" "eventValues" "[J") ∈ TB := tb_at 31 (by decide +kernel) (by decide +kernel)
theorem tb_32 : (Cond.fieldLink "MeasuredStages" 116 "MeasuredStages$Registers" "eventValues" "[J") ∈ TB := tb_at 32 (by decide +kernel) (by decide +kernel)
theorem tb_33 : (Cond.fieldLink "MeasuredStages$Registers" 25 "MeasuredStages$Registers" "eventCount" "I") ∈ TB := tb_at 33 (by decide +kernel) (by decide +kernel)
theorem tb_34 : (Cond.fieldLink "MeasuredStages" 102 "MeasuredStages$Registers" "eventCount" "I") ∈ TB := tb_at 34 (by decide +kernel) (by decide +kernel)
theorem tb_35 : (Cond.fieldLink "MeasuredStages$Registers" 22 "MeasuredStages$Registers" "replayed" "[J") ∈ TB := tb_at 35 (by decide +kernel) (by decide +kernel)
theorem tb_36 : (Cond.laysFinal "MeasuredStages$Registers" "MeasuredStages$Registers" "held" "[J") ∈ TB := tb_at 36 (by decide +kernel) (by decide +kernel)
theorem tb_38 : (Cond.laysFinal "MeasuredStages$Registers" "MeasuredStages$Registers" "eventRegisters" "[I") ∈ TB := tb_at 38 (by decide +kernel) (by decide +kernel)
theorem tb_40 : (Cond.laysFinal "MeasuredStages$Registers" "MeasuredStages$Registers" "eventValues" "[J") ∈ TB := tb_at 40 (by decide +kernel) (by decide +kernel)
theorem tb_42 : (Cond.lays "MeasuredStages$Registers" "MeasuredStages$Registers" "eventCount" "I") ∈ TB := tb_at 42 (by decide +kernel) (by decide +kernel)
theorem tb_44 : (Cond.laysFinal "MeasuredStages$Registers" "MeasuredStages$Registers" "replayed" "[J") ∈ TB := tb_at 44 (by decide +kernel) (by decide +kernel)
theorem tb_46 : (Cond.superclass "MeasuredStages$Registers" "java/lang/Object") ∈ TB := tb_at 46 (by decide +kernel) (by decide +kernel)
theorem tb_47 : (Cond.arrayClass FieldType.long) ∈ TB := tb_at 47 (by decide +kernel) (by decide +kernel)
theorem tb_48 : (Cond.arrayClass FieldType.boolean) ∈ TB := tb_at 48 (by decide +kernel) (by decide +kernel)
theorem tb_49 : (Cond.arrayClass FieldType.int) ∈ TB := tb_at 49 (by decide +kernel) (by decide +kernel)
theorem tb_50 : (Cond.classLink "MeasuredStages" 27 "MeasuredStages$Blobs") ∈ TB := tb_at 50 (by decide +kernel) (by decide +kernel)
theorem tb_51 : (Cond.instantiable "MeasuredStages$Blobs" 3) ∈ TB := tb_at 51 (by decide +kernel) (by decide +kernel)
theorem tb_53 : (Cond.instanceMethod ⟨"MeasuredStages$Blobs", "<init>", "()V"⟩) ∈ TB := tb_at 53 (by decide +kernel) (by decide +kernel)
theorem tb_54 : (Cond.code ⟨"MeasuredStages$Blobs", "<init>", "()V"⟩ prog_2_method_1_code 1 none) ∈ TB := tb_at 54 (by decide +kernel) (by decide +kernel)
theorem tb_55 : (Cond.methodLink "MeasuredStages$Blobs" 1 ⟨"java/lang/Object", "<init>", "()V"⟩) ∈ TB := tb_at 55 (by decide +kernel) (by decide +kernel)
theorem tb_56 : (Cond.fieldLink "MeasuredStages$Blobs" 9 "MeasuredStages$Blobs" "masks" "[I") ∈ TB := tb_at 56 (by decide +kernel) (by decide +kernel)
theorem tb_57 : (Cond.fieldLink "MeasuredStages" 173 "MeasuredStages$Blobs" "masks" "[I") ∈ TB := tb_at 57 (by decide +kernel) (by decide +kernel)
theorem tb_58 : (Cond.fieldLink "MeasuredStages$Blobs" 13 "MeasuredStages$Blobs" "policies" "[J") ∈ TB := tb_at 58 (by decide +kernel) (by decide +kernel)
theorem tb_59 : (Cond.fieldLink "MeasuredStages" 170 "MeasuredStages$Blobs" "policies" "[J") ∈ TB := tb_at 59 (by decide +kernel) (by decide +kernel)
theorem tb_60 : (Cond.fieldLink "MeasuredStages$Blobs" 17 "MeasuredStages$Blobs" "secrets" "[J") ∈ TB := tb_at 60 (by decide +kernel) (by decide +kernel)
theorem tb_61 : (Cond.fieldLink "MeasuredStages" 151 "MeasuredStages$Blobs" "secrets" "[J") ∈ TB := tb_at 61 (by decide +kernel) (by decide +kernel)
theorem tb_62 : (Cond.laysFinal "MeasuredStages$Blobs" "MeasuredStages$Blobs" "masks" "[I") ∈ TB := tb_at 62 (by decide +kernel) (by decide +kernel)
theorem tb_64 : (Cond.laysFinal "MeasuredStages$Blobs" "MeasuredStages$Blobs" "policies" "[J") ∈ TB := tb_at 64 (by decide +kernel) (by decide +kernel)
theorem tb_66 : (Cond.laysFinal "MeasuredStages$Blobs" "MeasuredStages$Blobs" "secrets" "[J") ∈ TB := tb_at 66 (by decide +kernel) (by decide +kernel)
theorem tb_68 : (Cond.superclass "MeasuredStages$Blobs" "java/lang/Object") ∈ TB := tb_at 68 (by decide +kernel) (by decide +kernel)
theorem tb_69 : (Cond.fieldLink "MeasuredStages" 9 "MeasuredStages" "images" "[J") ∈ TB := tb_at 69 (by decide +kernel) (by decide +kernel)
theorem tb_70 : (Cond.fieldLink "MeasuredStages" 13 "MeasuredStages" "approved" "[Z") ∈ TB := tb_at 70 (by decide +kernel) (by decide +kernel)
theorem tb_71 : (Cond.fieldLink "MeasuredStages" 17 "MeasuredStages" "approvedDigests" "[J") ∈ TB := tb_at 71 (by decide +kernel) (by decide +kernel)
theorem tb_72 : (Cond.fieldLink "MeasuredStages" 23 "MeasuredStages" "registers" "LMeasuredStages$Registers;") ∈ TB := tb_at 72 (by decide +kernel) (by decide +kernel)
theorem tb_73 : (Cond.fieldLink "MeasuredStages" 30 "MeasuredStages" "blobs" "LMeasuredStages$Blobs;") ∈ TB := tb_at 73 (by decide +kernel) (by decide +kernel)
theorem tb_74 : (Cond.fieldLink "MeasuredStages" 34 "MeasuredStages" "running" "[J") ∈ TB := tb_at 74 (by decide +kernel) (by decide +kernel)
theorem tb_75 : (Cond.fieldLink "MeasuredStages" 37 "MeasuredStages" "nextDigits" "[I") ∈ TB := tb_at 75 (by decide +kernel) (by decide +kernel)
theorem tb_76 : (Cond.fieldLink "MeasuredStages" 179 "MeasuredStages" "depth" "I") ∈ TB := tb_at 76 (by decide +kernel) (by decide +kernel)
theorem tb_77 : (Cond.fieldLink "MeasuredStages" 81 "MeasuredStages" "acc" "J") ∈ TB := tb_at 77 (by decide +kernel) (by decide +kernel)
theorem tb_78 : (Cond.fieldLink "MeasuredStages" 63 "MeasuredStages" "fault" "I") ∈ TB := tb_at 78 (by decide +kernel) (by decide +kernel)
theorem tb_79 : (Cond.fieldLink "MeasuredStages" 75 "MeasuredStages" "launched" "I") ∈ TB := tb_at 79 (by decide +kernel) (by decide +kernel)
theorem tb_80 : (Cond.fieldLink "MeasuredStages" 78 "MeasuredStages" "steps" "I") ∈ TB := tb_at 80 (by decide +kernel) (by decide +kernel)
theorem tb_81 : (Cond.laysFinal "MeasuredStages" "MeasuredStages" "images" "[J") ∈ TB := tb_at 81 (by decide +kernel) (by decide +kernel)
theorem tb_83 : (Cond.laysFinal "MeasuredStages" "MeasuredStages" "approved" "[Z") ∈ TB := tb_at 83 (by decide +kernel) (by decide +kernel)
theorem tb_85 : (Cond.laysFinal "MeasuredStages" "MeasuredStages" "approvedDigests" "[J") ∈ TB := tb_at 85 (by decide +kernel) (by decide +kernel)
theorem tb_87 : (Cond.laysFinal "MeasuredStages" "MeasuredStages" "registers" "LMeasuredStages$Registers;") ∈ TB := tb_at 87 (by decide +kernel) (by decide +kernel)
theorem tb_89 : (Cond.laysFinal "MeasuredStages" "MeasuredStages" "blobs" "LMeasuredStages$Blobs;") ∈ TB := tb_at 89 (by decide +kernel) (by decide +kernel)
theorem tb_91 : (Cond.laysFinal "MeasuredStages" "MeasuredStages" "running" "[J") ∈ TB := tb_at 91 (by decide +kernel) (by decide +kernel)
theorem tb_93 : (Cond.laysFinal "MeasuredStages" "MeasuredStages" "nextDigits" "[I") ∈ TB := tb_at 93 (by decide +kernel) (by decide +kernel)
theorem tb_95 : (Cond.lays "MeasuredStages" "MeasuredStages" "depth" "I") ∈ TB := tb_at 95 (by decide +kernel) (by decide +kernel)
theorem tb_97 : (Cond.lays "MeasuredStages" "MeasuredStages" "acc" "J") ∈ TB := tb_at 97 (by decide +kernel) (by decide +kernel)
theorem tb_99 : (Cond.lays "MeasuredStages" "MeasuredStages" "fault" "I") ∈ TB := tb_at 99 (by decide +kernel) (by decide +kernel)
theorem tb_101 : (Cond.lays "MeasuredStages" "MeasuredStages" "launched" "I") ∈ TB := tb_at 101 (by decide +kernel) (by decide +kernel)
theorem tb_103 : (Cond.lays "MeasuredStages" "MeasuredStages" "steps" "I") ∈ TB := tb_at 103 (by decide +kernel) (by decide +kernel)
theorem tb_105 : (Cond.superclass "MeasuredStages" "java/lang/Object") ∈ TB := tb_at 105 (by decide +kernel) (by decide +kernel)
theorem tb_106 : (Cond.methodLink "MeasuredStagesLaw" 83 ⟨"MeasuredStages", "fault", "()I"⟩) ∈ TB := tb_at 106 (by decide +kernel) (by decide +kernel)
theorem tb_107 : (Cond.instanceMethod ⟨"MeasuredStages", "fault", "()I"⟩) ∈ TB := tb_at 107 (by decide +kernel) (by decide +kernel)
theorem tb_108 : (Cond.selects "MeasuredStages" ⟨"MeasuredStages", "fault", "()I"⟩ ⟨"MeasuredStages", "fault", "()I"⟩) ∈ TB := tb_at 108 (by decide +kernel) (by decide +kernel)
theorem tb_109 : (Cond.code ⟨"MeasuredStages", "fault", "()I"⟩ prog_1_method_5_code 1 (some FieldType.int)) ∈ TB := tb_at 109 (by decide +kernel) (by decide +kernel)
theorem tb_110 : (Cond.methodLink "MeasuredStagesLaw" 87 ⟨"MeasuredStages", "launched", "()I"⟩) ∈ TB := tb_at 110 (by decide +kernel) (by decide +kernel)
theorem tb_111 : (Cond.instanceMethod ⟨"MeasuredStages", "launched", "()I"⟩) ∈ TB := tb_at 111 (by decide +kernel) (by decide +kernel)
theorem tb_112 : (Cond.selects "MeasuredStages" ⟨"MeasuredStages", "launched", "()I"⟩ ⟨"MeasuredStages", "launched", "()I"⟩) ∈ TB := tb_at 112 (by decide +kernel) (by decide +kernel)
theorem tb_113 : (Cond.code ⟨"MeasuredStages", "launched", "()I"⟩ prog_1_method_6_code 1 (some FieldType.int)) ∈ TB := tb_at 113 (by decide +kernel) (by decide +kernel)
theorem tb_114 : (Cond.methodLink "MeasuredStagesLaw" 91 ⟨"MeasuredStages", "steps", "()I"⟩) ∈ TB := tb_at 114 (by decide +kernel) (by decide +kernel)
theorem tb_115 : (Cond.instanceMethod ⟨"MeasuredStages", "steps", "()I"⟩) ∈ TB := tb_at 115 (by decide +kernel) (by decide +kernel)
theorem tb_116 : (Cond.selects "MeasuredStages" ⟨"MeasuredStages", "steps", "()I"⟩ ⟨"MeasuredStages", "steps", "()I"⟩) ∈ TB := tb_at 116 (by decide +kernel) (by decide +kernel)
theorem tb_117 : (Cond.code ⟨"MeasuredStages", "steps", "()I"⟩ prog_1_method_7_code 1 (some FieldType.int)) ∈ TB := tb_at 117 (by decide +kernel) (by decide +kernel)
theorem tb_118 : (Cond.methodLink "MeasuredStagesLaw" 95 ⟨"MeasuredStages", "acc", "()J"⟩) ∈ TB := tb_at 118 (by decide +kernel) (by decide +kernel)
theorem tb_119 : (Cond.instanceMethod ⟨"MeasuredStages", "acc", "()J"⟩) ∈ TB := tb_at 119 (by decide +kernel) (by decide +kernel)
theorem tb_120 : (Cond.selects "MeasuredStages" ⟨"MeasuredStages", "acc", "()J"⟩ ⟨"MeasuredStages", "acc", "()J"⟩) ∈ TB := tb_at 120 (by decide +kernel) (by decide +kernel)
theorem tb_121 : (Cond.code ⟨"MeasuredStages", "acc", "()J"⟩ prog_1_method_8_code 1 (some FieldType.long)) ∈ TB := tb_at 121 (by decide +kernel) (by decide +kernel)
theorem tb_122 : (Cond.methodLink "MeasuredStagesLaw" 106 ⟨"MeasuredStages", "events", "()I"⟩) ∈ TB := tb_at 122 (by decide +kernel) (by decide +kernel)
theorem tb_123 : (Cond.instanceMethod ⟨"MeasuredStages", "events", "()I"⟩) ∈ TB := tb_at 123 (by decide +kernel) (by decide +kernel)
theorem tb_124 : (Cond.selects "MeasuredStages" ⟨"MeasuredStages", "events", "()I"⟩ ⟨"MeasuredStages", "events", "()I"⟩) ∈ TB := tb_at 124 (by decide +kernel) (by decide +kernel)
theorem tb_125 : (Cond.code ⟨"MeasuredStages", "events", "()I"⟩ prog_1_method_11_code 1 (some FieldType.int)) ∈ TB := tb_at 125 (by decide +kernel) (by decide +kernel)
theorem tb_126 : (Cond.methodLink "MeasuredStagesLaw" 119 ⟨"MeasuredStages", "replays", "()Z"⟩) ∈ TB := tb_at 126 (by decide +kernel) (by decide +kernel)
theorem tb_127 : (Cond.instanceMethod ⟨"MeasuredStages", "replays", "()Z"⟩) ∈ TB := tb_at 127 (by decide +kernel) (by decide +kernel)
theorem tb_128 : (Cond.selects "MeasuredStages" ⟨"MeasuredStages", "replays", "()Z"⟩ ⟨"MeasuredStages", "replays", "()Z"⟩) ∈ TB := tb_at 128 (by decide +kernel) (by decide +kernel)
theorem tb_129 : (Cond.code ⟨"MeasuredStages", "replays", "()Z"⟩ prog_1_method_15_code 1 (some FieldType.boolean)) ∈ TB := tb_at 129 (by decide +kernel) (by decide +kernel)
theorem tb_130 : (Cond.methodLink "MeasuredStages" 119 ⟨"MeasuredStages$Registers", "agreeWithLog", "()Z"⟩) ∈ TB := tb_at 130 (by decide +kernel) (by decide +kernel)
theorem tb_131 : (Cond.instanceMethod ⟨"MeasuredStages$Registers", "agreeWithLog", "()Z"⟩) ∈ TB := tb_at 131 (by decide +kernel) (by decide +kernel)
theorem tb_132 : (Cond.selects "MeasuredStages$Registers" ⟨"MeasuredStages$Registers", "agreeWithLog", "()Z"⟩ ⟨"MeasuredStages$Registers", "agreeWithLog", "()Z"⟩) ∈ TB := tb_at 132 (by decide +kernel) (by decide +kernel)
theorem tb_133 : (Cond.code ⟨"MeasuredStages$Registers", "agreeWithLog", "()Z"⟩ prog_3_method_6_code 3 (some FieldType.boolean)) ∈ TB := tb_at 133 (by decide +kernel) (by decide +kernel)
theorem tb_134 : (Cond.methodLink "MeasuredStages$Registers" 29 ⟨"java/util/Arrays", "fill", "([JJ)V"⟩) ∈ TB := tb_at 134 (by decide +kernel) (by decide +kernel)
theorem tb_135 : (Cond.static ⟨"java/util/Arrays", "fill", "([JJ)V"⟩) ∈ TB := tb_at 135 (by decide +kernel) (by decide +kernel)
theorem tb_136 : (Cond.code ⟨"java/util/Arrays", "fill", "([JJ)V"⟩ prog_13_method_101_code 5 none) ∈ TB := tb_at 136 (by decide +kernel) (by decide +kernel)
theorem tb_138 : (Cond.static ⟨"MeasuredStages", "hash", "(JJ)J"⟩) ∈ TB := tb_at 138 (by decide +kernel) (by decide +kernel)
theorem tb_139 : (Cond.code ⟨"MeasuredStages", "hash", "(JJ)J"⟩ prog_1_method_20_code 6 (some FieldType.long)) ∈ TB := tb_at 139 (by decide +kernel) (by decide +kernel)
theorem tb_140 : (Cond.constantLong "MeasuredStages" 162 (1442695040888963407)) ∈ TB := tb_at 140 (by decide +kernel) (by decide +kernel)
theorem tb_141 : (Cond.constantLong "MeasuredStages" 164 (6364136223846793005)) ∈ TB := tb_at 141 (by decide +kernel) (by decide +kernel)
theorem tb_142 : (Cond.constantLong "MeasuredStages" 166 (2862933555777941757)) ∈ TB := tb_at 142 (by decide +kernel) (by decide +kernel)
theorem tb_143 : (Cond.methodLink "MeasuredStagesLaw" 65 ⟨"MeasuredStagesLaw", "image", "(LMeasuredStages;IJ)I"⟩) ∈ TB := tb_at 143 (by decide +kernel) (by decide +kernel)
theorem tb_144 : (Cond.static ⟨"MeasuredStagesLaw", "image", "(LMeasuredStages;IJ)I"⟩) ∈ TB := tb_at 144 (by decide +kernel) (by decide +kernel)
theorem tb_145 : (Cond.codeWith ⟨"MeasuredStagesLaw", "image", "(LMeasuredStages;IJ)I"⟩ method_3_code 5 (some FieldType.int) [(0, 6, 9, 13)]) ∈ TB := tb_at 145 (by decide +kernel) (by decide +kernel)
theorem tb_146 : (Cond.classLink "MeasuredStagesLaw" 13 "java/lang/IllegalArgumentException") ∈ TB := tb_at 146 (by decide +kernel) (by decide +kernel)
theorem tb_147 : (Cond.methodLink "MeasuredStagesLaw" 7 ⟨"MeasuredStages", "image", "(IJ)V"⟩) ∈ TB := tb_at 147 (by decide +kernel) (by decide +kernel)
theorem tb_148 : (Cond.instanceMethod ⟨"MeasuredStages", "image", "(IJ)V"⟩) ∈ TB := tb_at 148 (by decide +kernel) (by decide +kernel)
theorem tb_149 : (Cond.selects "MeasuredStages" ⟨"MeasuredStages", "image", "(IJ)V"⟩ ⟨"MeasuredStages", "image", "(IJ)V"⟩) ∈ TB := tb_at 149 (by decide +kernel) (by decide +kernel)
theorem tb_150 : (Cond.code ⟨"MeasuredStages", "image", "(IJ)V"⟩ prog_1_method_2_code 4 none) ∈ TB := tb_at 150 (by decide +kernel) (by decide +kernel)
theorem tb_151 : (Cond.methodLink "MeasuredStages" 41 ⟨"MeasuredStages", "isImage", "(I)Z"⟩) ∈ TB := tb_at 151 (by decide +kernel) (by decide +kernel)
theorem tb_152 : (Cond.static ⟨"MeasuredStages", "isImage", "(I)Z"⟩) ∈ TB := tb_at 152 (by decide +kernel) (by decide +kernel)
theorem tb_153 : (Cond.code ⟨"MeasuredStages", "isImage", "(I)Z"⟩ prog_1_method_21_code 1 (some FieldType.boolean)) ∈ TB := tb_at 153 (by decide +kernel) (by decide +kernel)
theorem tb_154 : (Cond.classLink "MeasuredStages" 45 "java/lang/IllegalArgumentException") ∈ TB := tb_at 154 (by decide +kernel) (by decide +kernel)
theorem tb_155 : (Cond.instantiable "java/lang/IllegalArgumentException" 6) ∈ TB := tb_at 155 (by decide +kernel) (by decide +kernel)
theorem tb_163 : (Cond.selects "java/lang/IllegalArgumentException" ⟨"java/lang/Throwable", "fillInStackTrace", "(I)Ljava/lang/Throwable;"⟩ ⟨"java/lang/Throwable", "fillInStackTrace", "(I)Ljava/lang/Throwable;"⟩) ∈ TB := tb_at 163 (by decide +kernel) (by decide +kernel)
theorem tb_164 : (Cond.selects "java/lang/IllegalArgumentException" ⟨"java/lang/Throwable", "fillInStackTrace", "()Ljava/lang/Throwable;"⟩ ⟨"java/lang/Throwable", "fillInStackTrace", "()Ljava/lang/Throwable;"⟩) ∈ TB := tb_at 164 (by decide +kernel) (by decide +kernel)
theorem tb_165 : (Cond.lays "java/lang/IllegalArgumentException" "java/lang/Throwable" "cause" "Ljava/lang/Throwable;") ∈ TB := tb_at 165 (by decide +kernel) (by decide +kernel)
theorem tb_166 : (Cond.lays "java/lang/Throwable" "java/lang/Throwable" "cause" "Ljava/lang/Throwable;") ∈ TB := tb_at 166 (by decide +kernel) (by decide +kernel)
theorem tb_167 : (Cond.lays "java/lang/IllegalArgumentException" "java/lang/Throwable" "stackTrace" "[Ljava/lang/StackTraceElement;") ∈ TB := tb_at 167 (by decide +kernel) (by decide +kernel)
theorem tb_168 : (Cond.lays "java/lang/Throwable" "java/lang/Throwable" "stackTrace" "[Ljava/lang/StackTraceElement;") ∈ TB := tb_at 168 (by decide +kernel) (by decide +kernel)
theorem tb_169 : (Cond.lays "java/lang/IllegalArgumentException" "java/lang/Throwable" "suppressedExceptions" "Ljava/util/List;") ∈ TB := tb_at 169 (by decide +kernel) (by decide +kernel)
theorem tb_170 : (Cond.lays "java/lang/Throwable" "java/lang/Throwable" "suppressedExceptions" "Ljava/util/List;") ∈ TB := tb_at 170 (by decide +kernel) (by decide +kernel)
theorem tb_171 : (Cond.lays "java/lang/IllegalArgumentException" "java/lang/Throwable" "detailMessage" "Ljava/lang/String;") ∈ TB := tb_at 171 (by decide +kernel) (by decide +kernel)
theorem tb_172 : (Cond.lays "java/lang/Throwable" "java/lang/Throwable" "detailMessage" "Ljava/lang/String;") ∈ TB := tb_at 172 (by decide +kernel) (by decide +kernel)
theorem tb_173 : (Cond.lays "java/lang/IllegalArgumentException" "java/lang/Throwable" "backtrace" "Ljava/lang/Object;") ∈ TB := tb_at 173 (by decide +kernel) (by decide +kernel)
theorem tb_174 : (Cond.lays "java/lang/Throwable" "java/lang/Throwable" "backtrace" "Ljava/lang/Object;") ∈ TB := tb_at 174 (by decide +kernel) (by decide +kernel)
theorem tb_175 : (Cond.fieldLink "java/lang/Throwable" 198 "java/lang/Throwable" "backtrace" "Ljava/lang/Object;") ∈ TB := tb_at 175 (by decide +kernel) (by decide +kernel)
theorem tb_176 : (Cond.superclass "java/lang/Throwable" "java/lang/Object") ∈ TB := tb_at 176 (by decide +kernel) (by decide +kernel)
theorem tb_177 : (Cond.instanceMethod ⟨"java/lang/Throwable", "<init>", "()V"⟩) ∈ TB := tb_at 177 (by decide +kernel) (by decide +kernel)
theorem tb_178 : (Cond.code ⟨"java/lang/Throwable", "<init>", "()V"⟩ prog_12_method_1_code 1 none) ∈ TB := tb_at 178 (by decide +kernel) (by decide +kernel)
theorem tb_179 : (Cond.methodLink "java/lang/Throwable" 1 ⟨"java/lang/Object", "<init>", "()V"⟩) ∈ TB := tb_at 179 (by decide +kernel) (by decide +kernel)
theorem tb_180 : (Cond.fieldLink "java/lang/Throwable" 13 "java/lang/Throwable" "UNASSIGNED_STACK" "[Ljava/lang/StackTraceElement;") ∈ TB := tb_at 180 (by decide +kernel) (by decide +kernel)
theorem tb_182 : (Cond.fieldLink "java/lang/Throwable" 20 "java/lang/Throwable" "SUPPRESSED_SENTINEL" "Ljava/util/List;") ∈ TB := tb_at 182 (by decide +kernel) (by decide +kernel)
theorem tb_184 : (Cond.methodLink "java/lang/Throwable" 27 ⟨"java/lang/Throwable", "fillInStackTrace", "()Ljava/lang/Throwable;"⟩) ∈ TB := tb_at 184 (by decide +kernel) (by decide +kernel)
theorem tb_185 : (Cond.instanceMethod ⟨"java/lang/Throwable", "fillInStackTrace", "()Ljava/lang/Throwable;"⟩) ∈ TB := tb_at 185 (by decide +kernel) (by decide +kernel)
theorem tb_187 : (Cond.selects "java/lang/IllegalStateException" ⟨"java/lang/Throwable", "fillInStackTrace", "()Ljava/lang/Throwable;"⟩ ⟨"java/lang/Throwable", "fillInStackTrace", "()Ljava/lang/Throwable;"⟩) ∈ TB := tb_at 187 (by decide +kernel) (by decide +kernel)
theorem tb_188 : (Cond.selects "java/lang/IndexOutOfBoundsException" ⟨"java/lang/Throwable", "fillInStackTrace", "()Ljava/lang/Throwable;"⟩ ⟨"java/lang/Throwable", "fillInStackTrace", "()Ljava/lang/Throwable;"⟩) ∈ TB := tb_at 188 (by decide +kernel) (by decide +kernel)
theorem tb_189 : (Cond.selects "java/util/NoSuchElementException" ⟨"java/lang/Throwable", "fillInStackTrace", "()Ljava/lang/Throwable;"⟩ ⟨"java/lang/Throwable", "fillInStackTrace", "()Ljava/lang/Throwable;"⟩) ∈ TB := tb_at 189 (by decide +kernel) (by decide +kernel)
theorem tb_190 : (Cond.codeSync ⟨"java/lang/Throwable", "fillInStackTrace", "()Ljava/lang/Throwable;"⟩ prog_12_method_18_code 1 (some (FieldType.object "java/lang/Throwable"))) ∈ TB := tb_at 190 (by decide +kernel) (by decide +kernel)
theorem tb_191 : (Cond.methodLink "java/lang/Throwable" 202 ⟨"java/lang/Throwable", "fillInStackTrace", "(I)Ljava/lang/Throwable;"⟩) ∈ TB := tb_at 191 (by decide +kernel) (by decide +kernel)
theorem tb_193 : (Cond.instanceMethod ⟨"java/lang/Throwable", "fillInStackTrace", "(I)Ljava/lang/Throwable;"⟩) ∈ TB := tb_at 193 (by decide +kernel) (by decide +kernel)
theorem tb_194 : (Cond.instantiable "java/lang/Throwable" 6) ∈ TB := tb_at 194 (by decide +kernel) (by decide +kernel)
theorem tb_195 : (Cond.native ⟨"java/lang/Throwable", "fillInStackTrace", "(I)Ljava/lang/Throwable;"⟩) ∈ TB := tb_at 195 (by decide +kernel) (by decide +kernel)
theorem tb_197 : (Cond.methodLink "MeasuredStages" 49 ⟨"java/lang/IllegalArgumentException", "<init>", "(Ljava/lang/String;)V"⟩) ∈ TB := tb_at 197 (by decide +kernel) (by decide +kernel)
theorem tb_198 : (Cond.instanceMethod ⟨"java/lang/IllegalArgumentException", "<init>", "(Ljava/lang/String;)V"⟩) ∈ TB := tb_at 198 (by decide +kernel) (by decide +kernel)
theorem tb_199 : (Cond.code ⟨"java/lang/IllegalArgumentException", "<init>", "(Ljava/lang/String;)V"⟩ prog_7_method_2_code 2 none) ∈ TB := tb_at 199 (by decide +kernel) (by decide +kernel)
theorem tb_200 : (Cond.methodLink "java/lang/IllegalArgumentException" 7 ⟨"java/lang/RuntimeException", "<init>", "(Ljava/lang/String;)V"⟩) ∈ TB := tb_at 200 (by decide +kernel) (by decide +kernel)
theorem tb_201 : (Cond.instanceMethod ⟨"java/lang/RuntimeException", "<init>", "(Ljava/lang/String;)V"⟩) ∈ TB := tb_at 201 (by decide +kernel) (by decide +kernel)
theorem tb_202 : (Cond.code ⟨"java/lang/RuntimeException", "<init>", "(Ljava/lang/String;)V"⟩ prog_10_method_2_code 2 none) ∈ TB := tb_at 202 (by decide +kernel) (by decide +kernel)
theorem tb_203 : (Cond.methodLink "java/lang/RuntimeException" 7 ⟨"java/lang/Exception", "<init>", "(Ljava/lang/String;)V"⟩) ∈ TB := tb_at 203 (by decide +kernel) (by decide +kernel)
theorem tb_204 : (Cond.instanceMethod ⟨"java/lang/Exception", "<init>", "(Ljava/lang/String;)V"⟩) ∈ TB := tb_at 204 (by decide +kernel) (by decide +kernel)
theorem tb_205 : (Cond.code ⟨"java/lang/Exception", "<init>", "(Ljava/lang/String;)V"⟩ prog_6_method_2_code 2 none) ∈ TB := tb_at 205 (by decide +kernel) (by decide +kernel)
theorem tb_206 : (Cond.methodLink "java/lang/Exception" 7 ⟨"java/lang/Throwable", "<init>", "(Ljava/lang/String;)V"⟩) ∈ TB := tb_at 206 (by decide +kernel) (by decide +kernel)
theorem tb_207 : (Cond.instanceMethod ⟨"java/lang/Throwable", "<init>", "(Ljava/lang/String;)V"⟩) ∈ TB := tb_at 207 (by decide +kernel) (by decide +kernel)
theorem tb_208 : (Cond.code ⟨"java/lang/Throwable", "<init>", "(Ljava/lang/String;)V"⟩ prog_12_method_2_code 2 none) ∈ TB := tb_at 208 (by decide +kernel) (by decide +kernel)
theorem tb_209 : (Cond.fieldLink "java/lang/Throwable" 198 "java/lang/Throwable" "backtrace" "Ljava/lang/Object;") ∈ TB := tb_at 209 (by decide +kernel) (by decide +kernel)
theorem tb_210 : (Cond.fieldLink "java/lang/Throwable" 31 "java/lang/Throwable" "detailMessage" "Ljava/lang/String;") ∈ TB := tb_at 210 (by decide +kernel) (by decide +kernel)
theorem tb_211 : (Cond.fieldLink "java/lang/Throwable" 7 "java/lang/Throwable" "cause" "Ljava/lang/Throwable;") ∈ TB := tb_at 211 (by decide +kernel) (by decide +kernel)
theorem tb_212 : (Cond.fieldLink "java/lang/Throwable" 17 "java/lang/Throwable" "stackTrace" "[Ljava/lang/StackTraceElement;") ∈ TB := tb_at 212 (by decide +kernel) (by decide +kernel)
theorem tb_213 : (Cond.fieldLink "java/lang/Throwable" 24 "java/lang/Throwable" "suppressedExceptions" "Ljava/util/List;") ∈ TB := tb_at 213 (by decide +kernel) (by decide +kernel)
theorem tb_218 : (Cond.lays "java/lang/IllegalArgumentException" "java/lang/Throwable" "depth" "I") ∈ TB := tb_at 218 (by decide +kernel) (by decide +kernel)
theorem tb_221 : (Cond.superclass "java/lang/IllegalArgumentException" "java/lang/RuntimeException") ∈ TB := tb_at 221 (by decide +kernel) (by decide +kernel)
theorem tb_222 : (Cond.arrayClass FieldType.byte) ∈ TB := tb_at 222 (by decide +kernel) (by decide +kernel)
theorem tb_223 : (Cond.methodLink "MeasuredStagesLaw" 75 ⟨"MeasuredStagesLaw", "approve", "(LMeasuredStages;I)I"⟩) ∈ TB := tb_at 223 (by decide +kernel) (by decide +kernel)
theorem tb_224 : (Cond.static ⟨"MeasuredStagesLaw", "approve", "(LMeasuredStages;I)I"⟩) ∈ TB := tb_at 224 (by decide +kernel) (by decide +kernel)
theorem tb_225 : (Cond.codeWith ⟨"MeasuredStagesLaw", "approve", "(LMeasuredStages;I)I"⟩ method_4_code 3 (some FieldType.int) [(0, 5, 8, 13)]) ∈ TB := tb_at 225 (by decide +kernel) (by decide +kernel)
theorem tb_226 : (Cond.methodLink "MeasuredStagesLaw" 15 ⟨"MeasuredStages", "approve", "(I)V"⟩) ∈ TB := tb_at 226 (by decide +kernel) (by decide +kernel)
theorem tb_227 : (Cond.instanceMethod ⟨"MeasuredStages", "approve", "(I)V"⟩) ∈ TB := tb_at 227 (by decide +kernel) (by decide +kernel)
theorem tb_228 : (Cond.selects "MeasuredStages" ⟨"MeasuredStages", "approve", "(I)V"⟩ ⟨"MeasuredStages", "approve", "(I)V"⟩) ∈ TB := tb_at 228 (by decide +kernel) (by decide +kernel)
theorem tb_229 : (Cond.code ⟨"MeasuredStages", "approve", "(I)V"⟩ prog_1_method_3_code 2 none) ∈ TB := tb_at 229 (by decide +kernel) (by decide +kernel)
theorem tb_230 : (Cond.methodLink "MeasuredStages" 52 ⟨"MeasuredStages", "digestOf", "(I)J"⟩) ∈ TB := tb_at 230 (by decide +kernel) (by decide +kernel)
theorem tb_232 : (Cond.instanceMethod ⟨"MeasuredStages", "digestOf", "(I)J"⟩) ∈ TB := tb_at 232 (by decide +kernel) (by decide +kernel)
theorem tb_233 : (Cond.code ⟨"MeasuredStages", "digestOf", "(I)J"⟩ prog_1_method_23_code 2 (some FieldType.long)) ∈ TB := tb_at 233 (by decide +kernel) (by decide +kernel)
theorem tb_234 : (Cond.constantLong "MeasuredStages" 168 (5)) ∈ TB := tb_at 234 (by decide +kernel) (by decide +kernel)
theorem tb_235 : (Cond.methodLink "MeasuredStages" 158 ⟨"MeasuredStages", "hash", "(JJ)J"⟩) ∈ TB := tb_at 235 (by decide +kernel) (by decide +kernel)
theorem tb_236 : (Cond.methodLink "MeasuredStagesLaw" 79 ⟨"MeasuredStagesLaw", "boot", "(LMeasuredStages;I[J)I"⟩) ∈ TB := tb_at 236 (by decide +kernel) (by decide +kernel)
theorem tb_237 : (Cond.static ⟨"MeasuredStagesLaw", "boot", "(LMeasuredStages;I[J)I"⟩) ∈ TB := tb_at 237 (by decide +kernel) (by decide +kernel)
theorem tb_238 : (Cond.codeWith ⟨"MeasuredStagesLaw", "boot", "(LMeasuredStages;I[J)I"⟩ method_5_code 4 (some FieldType.int) [(0, 9, 12, 13), (0, 9, 15, 23)]) ∈ TB := tb_at 238 (by decide +kernel) (by decide +kernel)
theorem tb_239 : (Cond.classLink "MeasuredStagesLaw" 23 "java/lang/IllegalStateException") ∈ TB := tb_at 239 (by decide +kernel) (by decide +kernel)
theorem tb_240 : (Cond.methodLink "MeasuredStagesLaw" 19 ⟨"MeasuredStages", "boot", "(I)I"⟩) ∈ TB := tb_at 240 (by decide +kernel) (by decide +kernel)
theorem tb_241 : (Cond.instanceMethod ⟨"MeasuredStages", "boot", "(I)I"⟩) ∈ TB := tb_at 241 (by decide +kernel) (by decide +kernel)
theorem tb_242 : (Cond.selects "MeasuredStages" ⟨"MeasuredStages", "boot", "(I)I"⟩ ⟨"MeasuredStages", "boot", "(I)I"⟩) ∈ TB := tb_at 242 (by decide +kernel) (by decide +kernel)
theorem tb_243 : (Cond.code ⟨"MeasuredStages", "boot", "(I)I"⟩ prog_1_method_4_code 2 (some FieldType.int)) ∈ TB := tb_at 243 (by decide +kernel) (by decide +kernel)
theorem tb_244 : (Cond.methodLink "MeasuredStages" 56 ⟨"MeasuredStages", "clearForBoot", "()V"⟩) ∈ TB := tb_at 244 (by decide +kernel) (by decide +kernel)
theorem tb_246 : (Cond.instanceMethod ⟨"MeasuredStages", "clearForBoot", "()V"⟩) ∈ TB := tb_at 246 (by decide +kernel) (by decide +kernel)
theorem tb_247 : (Cond.code ⟨"MeasuredStages", "clearForBoot", "()V"⟩ prog_1_method_25_code 1 none) ∈ TB := tb_at 247 (by decide +kernel) (by decide +kernel)
theorem tb_248 : (Cond.methodLink "MeasuredStages" 176 ⟨"MeasuredStages$Registers", "clear", "()V"⟩) ∈ TB := tb_at 248 (by decide +kernel) (by decide +kernel)
theorem tb_249 : (Cond.instanceMethod ⟨"MeasuredStages$Registers", "clear", "()V"⟩) ∈ TB := tb_at 249 (by decide +kernel) (by decide +kernel)
theorem tb_250 : (Cond.selects "MeasuredStages$Registers" ⟨"MeasuredStages$Registers", "clear", "()V"⟩ ⟨"MeasuredStages$Registers", "clear", "()V"⟩) ∈ TB := tb_at 250 (by decide +kernel) (by decide +kernel)
theorem tb_251 : (Cond.code ⟨"MeasuredStages$Registers", "clear", "()V"⟩ prog_3_method_4_code 1 none) ∈ TB := tb_at 251 (by decide +kernel) (by decide +kernel)
theorem tb_252 : (Cond.methodLink "MeasuredStages" 59 ⟨"MeasuredStages", "launchAt", "(II)I"⟩) ∈ TB := tb_at 252 (by decide +kernel) (by decide +kernel)
theorem tb_254 : (Cond.instanceMethod ⟨"MeasuredStages", "launchAt", "(II)I"⟩) ∈ TB := tb_at 254 (by decide +kernel) (by decide +kernel)
theorem tb_255 : (Cond.code ⟨"MeasuredStages", "launchAt", "(II)I"⟩ prog_1_method_31_code 4 (some FieldType.int)) ∈ TB := tb_at 255 (by decide +kernel) (by decide +kernel)
theorem tb_256 : (Cond.methodLink "MeasuredStages" 194 ⟨"MeasuredStages", "extendOrFault", "(IJ)I"⟩) ∈ TB := tb_at 256 (by decide +kernel) (by decide +kernel)
theorem tb_258 : (Cond.instanceMethod ⟨"MeasuredStages", "extendOrFault", "(IJ)I"⟩) ∈ TB := tb_at 258 (by decide +kernel) (by decide +kernel)
theorem tb_259 : (Cond.code ⟨"MeasuredStages", "extendOrFault", "(IJ)I"⟩ prog_1_method_32_code 4 (some FieldType.int)) ∈ TB := tb_at 259 (by decide +kernel) (by decide +kernel)
theorem tb_260 : (Cond.methodLink "MeasuredStages" 96 ⟨"MeasuredStages$Registers", "measure", "(IJ)Z"⟩) ∈ TB := tb_at 260 (by decide +kernel) (by decide +kernel)
theorem tb_261 : (Cond.instanceMethod ⟨"MeasuredStages$Registers", "measure", "(IJ)Z"⟩) ∈ TB := tb_at 261 (by decide +kernel) (by decide +kernel)
theorem tb_262 : (Cond.selects "MeasuredStages$Registers" ⟨"MeasuredStages$Registers", "measure", "(IJ)Z"⟩ ⟨"MeasuredStages$Registers", "measure", "(IJ)Z"⟩) ∈ TB := tb_at 262 (by decide +kernel) (by decide +kernel)
theorem tb_263 : (Cond.code ⟨"MeasuredStages$Registers", "measure", "(IJ)Z"⟩ prog_3_method_5_code 4 (some FieldType.boolean)) ∈ TB := tb_at 263 (by decide +kernel) (by decide +kernel)
theorem tb_264 : (Cond.methodLink "MeasuredStages" 67 ⟨"MeasuredStages", "runToTheEnd", "()V"⟩) ∈ TB := tb_at 264 (by decide +kernel) (by decide +kernel)
theorem tb_266 : (Cond.instanceMethod ⟨"MeasuredStages", "runToTheEnd", "()V"⟩) ∈ TB := tb_at 266 (by decide +kernel) (by decide +kernel)
theorem tb_267 : (Cond.code ⟨"MeasuredStages", "runToTheEnd", "()V"⟩ prog_1_method_26_code 2 none) ∈ TB := tb_at 267 (by decide +kernel) (by decide +kernel)
theorem tb_268 : (Cond.methodLink "MeasuredStages" 182 ⟨"MeasuredStages", "doInstruction", "()I"⟩) ∈ TB := tb_at 268 (by decide +kernel) (by decide +kernel)
theorem tb_270 : (Cond.instanceMethod ⟨"MeasuredStages", "doInstruction", "()I"⟩) ∈ TB := tb_at 270 (by decide +kernel) (by decide +kernel)
theorem tb_271 : (Cond.code ⟨"MeasuredStages", "doInstruction", "()I"⟩ prog_1_method_27_code 1 (some FieldType.int)) ∈ TB := tb_at 271 (by decide +kernel) (by decide +kernel)
theorem tb_272 : (Cond.methodLink "MeasuredStages" 185 ⟨"MeasuredStages", "takeDigit", "()I"⟩) ∈ TB := tb_at 272 (by decide +kernel) (by decide +kernel)
theorem tb_274 : (Cond.instanceMethod ⟨"MeasuredStages", "takeDigit", "()I"⟩) ∈ TB := tb_at 274 (by decide +kernel) (by decide +kernel)
theorem tb_275 : (Cond.code ⟨"MeasuredStages", "takeDigit", "()I"⟩ prog_1_method_28_code 2 (some FieldType.int)) ∈ TB := tb_at 275 (by decide +kernel) (by decide +kernel)
theorem tb_276 : (Cond.methodLink "MeasuredStages" 188 ⟨"MeasuredStages", "takeImage", "()I"⟩) ∈ TB := tb_at 276 (by decide +kernel) (by decide +kernel)
theorem tb_278 : (Cond.instanceMethod ⟨"MeasuredStages", "takeImage", "()I"⟩) ∈ TB := tb_at 278 (by decide +kernel) (by decide +kernel)
theorem tb_279 : (Cond.code ⟨"MeasuredStages", "takeImage", "()I"⟩ prog_1_method_29_code 1 (some FieldType.int)) ∈ TB := tb_at 279 (by decide +kernel) (by decide +kernel)
theorem tb_280 : (Cond.methodLink "MeasuredStages" 191 ⟨"MeasuredStages", "takeRegister", "()I"⟩) ∈ TB := tb_at 280 (by decide +kernel) (by decide +kernel)
theorem tb_282 : (Cond.instanceMethod ⟨"MeasuredStages", "takeRegister", "()I"⟩) ∈ TB := tb_at 282 (by decide +kernel) (by decide +kernel)
theorem tb_283 : (Cond.code ⟨"MeasuredStages", "takeRegister", "()I"⟩ prog_1_method_30_code 1 (some FieldType.int)) ∈ TB := tb_at 283 (by decide +kernel) (by decide +kernel)
theorem tb_284 : (Cond.methodLink "MeasuredStages" 198 ⟨"MeasuredStages", "isApproved", "(I)Z"⟩) ∈ TB := tb_at 284 (by decide +kernel) (by decide +kernel)
theorem tb_286 : (Cond.instanceMethod ⟨"MeasuredStages", "isApproved", "(I)Z"⟩) ∈ TB := tb_at 286 (by decide +kernel) (by decide +kernel)
theorem tb_287 : (Cond.code ⟨"MeasuredStages", "isApproved", "(I)Z"⟩ prog_1_method_33_code 2 (some FieldType.boolean)) ∈ TB := tb_at 287 (by decide +kernel) (by decide +kernel)
theorem tb_288 : (Cond.methodLink "MeasuredStages" 201 ⟨"MeasuredStages", "loadSecret", "(I)I"⟩) ∈ TB := tb_at 288 (by decide +kernel) (by decide +kernel)
theorem tb_290 : (Cond.instanceMethod ⟨"MeasuredStages", "loadSecret", "(I)I"⟩) ∈ TB := tb_at 290 (by decide +kernel) (by decide +kernel)
theorem tb_291 : (Cond.code ⟨"MeasuredStages", "loadSecret", "(I)I"⟩ prog_1_method_34_code 2 (some FieldType.int)) ∈ TB := tb_at 291 (by decide +kernel) (by decide +kernel)
theorem tb_292 : (Cond.methodLink "MeasuredStages" 141 ⟨"MeasuredStages$Blobs", "isTaken", "(I)Z"⟩) ∈ TB := tb_at 292 (by decide +kernel) (by decide +kernel)
theorem tb_293 : (Cond.instanceMethod ⟨"MeasuredStages$Blobs", "isTaken", "(I)Z"⟩) ∈ TB := tb_at 293 (by decide +kernel) (by decide +kernel)
theorem tb_294 : (Cond.selects "MeasuredStages$Blobs" ⟨"MeasuredStages$Blobs", "isTaken", "(I)Z"⟩ ⟨"MeasuredStages$Blobs", "isTaken", "(I)Z"⟩) ∈ TB := tb_at 294 (by decide +kernel) (by decide +kernel)
theorem tb_295 : (Cond.code ⟨"MeasuredStages$Blobs", "isTaken", "(I)Z"⟩ prog_2_method_2_code 2 (some FieldType.boolean)) ∈ TB := tb_at 295 (by decide +kernel) (by decide +kernel)
theorem tb_296 : (Cond.methodLink "MeasuredStages" 146 ⟨"MeasuredStages", "isOpen", "(I)Z"⟩) ∈ TB := tb_at 296 (by decide +kernel) (by decide +kernel)
theorem tb_298 : (Cond.instanceMethod ⟨"MeasuredStages", "isOpen", "(I)Z"⟩) ∈ TB := tb_at 298 (by decide +kernel) (by decide +kernel)
theorem tb_299 : (Cond.code ⟨"MeasuredStages", "isOpen", "(I)Z"⟩ prog_1_method_24_code 2 (some FieldType.boolean)) ∈ TB := tb_at 299 (by decide +kernel) (by decide +kernel)
theorem tb_300 : (Cond.methodLink "MeasuredStages" 134 ⟨"MeasuredStages$Registers", "policyOf", "(I)J"⟩) ∈ TB := tb_at 300 (by decide +kernel) (by decide +kernel)
theorem tb_301 : (Cond.instanceMethod ⟨"MeasuredStages$Registers", "policyOf", "(I)J"⟩) ∈ TB := tb_at 301 (by decide +kernel) (by decide +kernel)
theorem tb_302 : (Cond.selects "MeasuredStages$Registers" ⟨"MeasuredStages$Registers", "policyOf", "(I)J"⟩ ⟨"MeasuredStages$Registers", "policyOf", "(I)J"⟩) ∈ TB := tb_at 302 (by decide +kernel) (by decide +kernel)
theorem tb_303 : (Cond.code ⟨"MeasuredStages$Registers", "policyOf", "(I)J"⟩ prog_3_method_7_code 5 (some FieldType.long)) ∈ TB := tb_at 303 (by decide +kernel) (by decide +kernel)
theorem tb_304 : (Cond.constantLong "MeasuredStages$Registers" 39 (9)) ∈ TB := tb_at 304 (by decide +kernel) (by decide +kernel)
theorem tb_305 : (Cond.methodLink "MeasuredStages" 205 ⟨"MeasuredStages", "passOverIfZero", "(I)V"⟩) ∈ TB := tb_at 305 (by decide +kernel) (by decide +kernel)
theorem tb_307 : (Cond.instanceMethod ⟨"MeasuredStages", "passOverIfZero", "(I)V"⟩) ∈ TB := tb_at 307 (by decide +kernel) (by decide +kernel)
theorem tb_308 : (Cond.code ⟨"MeasuredStages", "passOverIfZero", "(I)V"⟩ prog_1_method_35_code 2 none) ∈ TB := tb_at 308 (by decide +kernel) (by decide +kernel)
theorem tb_309 : (Cond.methodLink "MeasuredStages" 208 ⟨"MeasuredStages", "sealAcc", "(I)I"⟩) ∈ TB := tb_at 309 (by decide +kernel) (by decide +kernel)
theorem tb_311 : (Cond.instanceMethod ⟨"MeasuredStages", "sealAcc", "(I)I"⟩) ∈ TB := tb_at 311 (by decide +kernel) (by decide +kernel)
theorem tb_312 : (Cond.code ⟨"MeasuredStages", "sealAcc", "(I)I"⟩ prog_1_method_36_code 3 (some FieldType.int)) ∈ TB := tb_at 312 (by decide +kernel) (by decide +kernel)
theorem tb_313 : (Cond.methodLink "MeasuredStages" 128 ⟨"MeasuredStages$Blobs", "leastFree", "()I"⟩) ∈ TB := tb_at 313 (by decide +kernel) (by decide +kernel)
theorem tb_314 : (Cond.instanceMethod ⟨"MeasuredStages$Blobs", "leastFree", "()I"⟩) ∈ TB := tb_at 314 (by decide +kernel) (by decide +kernel)
theorem tb_315 : (Cond.selects "MeasuredStages$Blobs" ⟨"MeasuredStages$Blobs", "leastFree", "()I"⟩ ⟨"MeasuredStages$Blobs", "leastFree", "()I"⟩) ∈ TB := tb_at 315 (by decide +kernel) (by decide +kernel)
theorem tb_316 : (Cond.code ⟨"MeasuredStages$Blobs", "leastFree", "()I"⟩ prog_2_method_3_code 2 (some FieldType.int)) ∈ TB := tb_at 316 (by decide +kernel) (by decide +kernel)
theorem tb_317 : (Cond.methodLink "MeasuredStages" 137 ⟨"MeasuredStages$Blobs", "fill", "(IIJJ)V"⟩) ∈ TB := tb_at 317 (by decide +kernel) (by decide +kernel)
theorem tb_318 : (Cond.instanceMethod ⟨"MeasuredStages$Blobs", "fill", "(IIJJ)V"⟩) ∈ TB := tb_at 318 (by decide +kernel) (by decide +kernel)
theorem tb_319 : (Cond.selects "MeasuredStages$Blobs" ⟨"MeasuredStages$Blobs", "fill", "(IIJJ)V"⟩ ⟨"MeasuredStages$Blobs", "fill", "(IIJJ)V"⟩) ∈ TB := tb_at 319 (by decide +kernel) (by decide +kernel)
theorem tb_320 : (Cond.code ⟨"MeasuredStages$Blobs", "fill", "(IIJJ)V"⟩ prog_2_method_4_code 7 none) ∈ TB := tb_at 320 (by decide +kernel) (by decide +kernel)
theorem tb_321 : (Cond.classLink "MeasuredStages" 70 "java/lang/IllegalStateException") ∈ TB := tb_at 321 (by decide +kernel) (by decide +kernel)
theorem tb_322 : (Cond.instantiable "java/lang/IllegalStateException" 6) ∈ TB := tb_at 322 (by decide +kernel) (by decide +kernel)
theorem tb_324 : (Cond.selects "java/lang/IllegalStateException" ⟨"java/lang/Throwable", "fillInStackTrace", "(I)Ljava/lang/Throwable;"⟩ ⟨"java/lang/Throwable", "fillInStackTrace", "(I)Ljava/lang/Throwable;"⟩) ∈ TB := tb_at 324 (by decide +kernel) (by decide +kernel)
theorem tb_325 : (Cond.lays "java/lang/IllegalStateException" "java/lang/Throwable" "cause" "Ljava/lang/Throwable;") ∈ TB := tb_at 325 (by decide +kernel) (by decide +kernel)
theorem tb_326 : (Cond.lays "java/lang/IllegalStateException" "java/lang/Throwable" "stackTrace" "[Ljava/lang/StackTraceElement;") ∈ TB := tb_at 326 (by decide +kernel) (by decide +kernel)
theorem tb_327 : (Cond.lays "java/lang/IllegalStateException" "java/lang/Throwable" "suppressedExceptions" "Ljava/util/List;") ∈ TB := tb_at 327 (by decide +kernel) (by decide +kernel)
theorem tb_328 : (Cond.lays "java/lang/IllegalStateException" "java/lang/Throwable" "detailMessage" "Ljava/lang/String;") ∈ TB := tb_at 328 (by decide +kernel) (by decide +kernel)
theorem tb_329 : (Cond.lays "java/lang/IllegalStateException" "java/lang/Throwable" "backtrace" "Ljava/lang/Object;") ∈ TB := tb_at 329 (by decide +kernel) (by decide +kernel)
theorem tb_331 : (Cond.methodLink "MeasuredStages" 74 ⟨"java/lang/IllegalStateException", "<init>", "(Ljava/lang/String;)V"⟩) ∈ TB := tb_at 331 (by decide +kernel) (by decide +kernel)
theorem tb_332 : (Cond.instanceMethod ⟨"java/lang/IllegalStateException", "<init>", "(Ljava/lang/String;)V"⟩) ∈ TB := tb_at 332 (by decide +kernel) (by decide +kernel)
theorem tb_333 : (Cond.code ⟨"java/lang/IllegalStateException", "<init>", "(Ljava/lang/String;)V"⟩ prog_8_method_2_code 2 none) ∈ TB := tb_at 333 (by decide +kernel) (by decide +kernel)
theorem tb_334 : (Cond.methodLink "java/lang/IllegalStateException" 7 ⟨"java/lang/RuntimeException", "<init>", "(Ljava/lang/String;)V"⟩) ∈ TB := tb_at 334 (by decide +kernel) (by decide +kernel)
theorem tb_335 : (Cond.lays "java/lang/IllegalStateException" "java/lang/Throwable" "depth" "I") ∈ TB := tb_at 335 (by decide +kernel) (by decide +kernel)
theorem tb_336 : (Cond.superclass "java/lang/IllegalStateException" "java/lang/RuntimeException") ∈ TB := tb_at 336 (by decide +kernel) (by decide +kernel)
theorem tb_337 : (Cond.methodLink "MeasuredStagesLaw" 100 ⟨"MeasuredStagesLaw", "register", "(LMeasuredStages;I[J)I"⟩) ∈ TB := tb_at 337 (by decide +kernel) (by decide +kernel)
theorem tb_338 : (Cond.static ⟨"MeasuredStagesLaw", "register", "(LMeasuredStages;I[J)I"⟩) ∈ TB := tb_at 338 (by decide +kernel) (by decide +kernel)
theorem tb_339 : (Cond.codeWith ⟨"MeasuredStagesLaw", "register", "(LMeasuredStages;I[J)I"⟩ method_6_code 4 (some FieldType.int) [(0, 8, 11, 29)]) ∈ TB := tb_at 339 (by decide +kernel) (by decide +kernel)
theorem tb_340 : (Cond.classLink "MeasuredStagesLaw" 29 "java/lang/IndexOutOfBoundsException") ∈ TB := tb_at 340 (by decide +kernel) (by decide +kernel)
theorem tb_341 : (Cond.methodLink "MeasuredStagesLaw" 25 ⟨"MeasuredStages", "register", "(I)J"⟩) ∈ TB := tb_at 341 (by decide +kernel) (by decide +kernel)
theorem tb_342 : (Cond.instanceMethod ⟨"MeasuredStages", "register", "(I)J"⟩) ∈ TB := tb_at 342 (by decide +kernel) (by decide +kernel)
theorem tb_343 : (Cond.selects "MeasuredStages" ⟨"MeasuredStages", "register", "(I)J"⟩ ⟨"MeasuredStages", "register", "(I)J"⟩) ∈ TB := tb_at 343 (by decide +kernel) (by decide +kernel)
theorem tb_344 : (Cond.code ⟨"MeasuredStages", "register", "(I)J"⟩ prog_1_method_9_code 2 (some FieldType.long)) ∈ TB := tb_at 344 (by decide +kernel) (by decide +kernel)
theorem tb_345 : (Cond.methodLink "MeasuredStages" 85 ⟨"MeasuredStages$Registers", "isRegister", "(I)Z"⟩) ∈ TB := tb_at 345 (by decide +kernel) (by decide +kernel)
theorem tb_346 : (Cond.static ⟨"MeasuredStages$Registers", "isRegister", "(I)Z"⟩) ∈ TB := tb_at 346 (by decide +kernel) (by decide +kernel)
theorem tb_347 : (Cond.code ⟨"MeasuredStages$Registers", "isRegister", "(I)Z"⟩ prog_3_method_2_code 1 (some FieldType.boolean)) ∈ TB := tb_at 347 (by decide +kernel) (by decide +kernel)
theorem tb_348 : (Cond.classLink "MeasuredStages" 88 "java/lang/IndexOutOfBoundsException") ∈ TB := tb_at 348 (by decide +kernel) (by decide +kernel)
theorem tb_349 : (Cond.instantiable "java/lang/IndexOutOfBoundsException" 6) ∈ TB := tb_at 349 (by decide +kernel) (by decide +kernel)
theorem tb_351 : (Cond.selects "java/lang/IndexOutOfBoundsException" ⟨"java/lang/Throwable", "fillInStackTrace", "(I)Ljava/lang/Throwable;"⟩ ⟨"java/lang/Throwable", "fillInStackTrace", "(I)Ljava/lang/Throwable;"⟩) ∈ TB := tb_at 351 (by decide +kernel) (by decide +kernel)
theorem tb_352 : (Cond.lays "java/lang/IndexOutOfBoundsException" "java/lang/Throwable" "cause" "Ljava/lang/Throwable;") ∈ TB := tb_at 352 (by decide +kernel) (by decide +kernel)
theorem tb_353 : (Cond.lays "java/lang/IndexOutOfBoundsException" "java/lang/Throwable" "stackTrace" "[Ljava/lang/StackTraceElement;") ∈ TB := tb_at 353 (by decide +kernel) (by decide +kernel)
theorem tb_354 : (Cond.lays "java/lang/IndexOutOfBoundsException" "java/lang/Throwable" "suppressedExceptions" "Ljava/util/List;") ∈ TB := tb_at 354 (by decide +kernel) (by decide +kernel)
theorem tb_355 : (Cond.lays "java/lang/IndexOutOfBoundsException" "java/lang/Throwable" "detailMessage" "Ljava/lang/String;") ∈ TB := tb_at 355 (by decide +kernel) (by decide +kernel)
theorem tb_356 : (Cond.lays "java/lang/IndexOutOfBoundsException" "java/lang/Throwable" "backtrace" "Ljava/lang/Object;") ∈ TB := tb_at 356 (by decide +kernel) (by decide +kernel)
theorem tb_358 : (Cond.methodLink "MeasuredStages" 92 ⟨"java/lang/IndexOutOfBoundsException", "<init>", "(Ljava/lang/String;)V"⟩) ∈ TB := tb_at 358 (by decide +kernel) (by decide +kernel)
theorem tb_359 : (Cond.instanceMethod ⟨"java/lang/IndexOutOfBoundsException", "<init>", "(Ljava/lang/String;)V"⟩) ∈ TB := tb_at 359 (by decide +kernel) (by decide +kernel)
theorem tb_360 : (Cond.code ⟨"java/lang/IndexOutOfBoundsException", "<init>", "(Ljava/lang/String;)V"⟩ prog_9_method_2_code 2 none) ∈ TB := tb_at 360 (by decide +kernel) (by decide +kernel)
theorem tb_361 : (Cond.methodLink "java/lang/IndexOutOfBoundsException" 7 ⟨"java/lang/RuntimeException", "<init>", "(Ljava/lang/String;)V"⟩) ∈ TB := tb_at 361 (by decide +kernel) (by decide +kernel)
theorem tb_362 : (Cond.lays "java/lang/IndexOutOfBoundsException" "java/lang/Throwable" "depth" "I") ∈ TB := tb_at 362 (by decide +kernel) (by decide +kernel)
theorem tb_363 : (Cond.superclass "java/lang/IndexOutOfBoundsException" "java/lang/RuntimeException") ∈ TB := tb_at 363 (by decide +kernel) (by decide +kernel)
theorem tb_364 : (Cond.methodLink "MeasuredStagesLaw" 103 ⟨"MeasuredStagesLaw", "extend", "(LMeasuredStages;IJ)I"⟩) ∈ TB := tb_at 364 (by decide +kernel) (by decide +kernel)
theorem tb_365 : (Cond.static ⟨"MeasuredStagesLaw", "extend", "(LMeasuredStages;IJ)I"⟩) ∈ TB := tb_at 365 (by decide +kernel) (by decide +kernel)
theorem tb_366 : (Cond.codeWith ⟨"MeasuredStagesLaw", "extend", "(LMeasuredStages;IJ)I"⟩ method_7_code 5 (some FieldType.int) [(0, 6, 9, 29), (0, 6, 13, 23)]) ∈ TB := tb_at 366 (by decide +kernel) (by decide +kernel)
theorem tb_367 : (Cond.methodLink "MeasuredStagesLaw" 31 ⟨"MeasuredStages", "extend", "(IJ)V"⟩) ∈ TB := tb_at 367 (by decide +kernel) (by decide +kernel)
theorem tb_368 : (Cond.instanceMethod ⟨"MeasuredStages", "extend", "(IJ)V"⟩) ∈ TB := tb_at 368 (by decide +kernel) (by decide +kernel)
theorem tb_369 : (Cond.selects "MeasuredStages" ⟨"MeasuredStages", "extend", "(IJ)V"⟩ ⟨"MeasuredStages", "extend", "(IJ)V"⟩) ∈ TB := tb_at 369 (by decide +kernel) (by decide +kernel)
theorem tb_370 : (Cond.code ⟨"MeasuredStages", "extend", "(IJ)V"⟩ prog_1_method_10_code 4 none) ∈ TB := tb_at 370 (by decide +kernel) (by decide +kernel)
theorem tb_372 : (Cond.methodLink "MeasuredStagesLaw" 110 ⟨"MeasuredStagesLaw", "eventRegister", "(LMeasuredStages;I[J)I"⟩) ∈ TB := tb_at 372 (by decide +kernel) (by decide +kernel)
theorem tb_373 : (Cond.static ⟨"MeasuredStagesLaw", "eventRegister", "(LMeasuredStages;I[J)I"⟩) ∈ TB := tb_at 373 (by decide +kernel) (by decide +kernel)
theorem tb_374 : (Cond.codeWith ⟨"MeasuredStagesLaw", "eventRegister", "(LMeasuredStages;I[J)I"⟩ method_8_code 4 (some FieldType.int) [(0, 9, 12, 37)]) ∈ TB := tb_at 374 (by decide +kernel) (by decide +kernel)
theorem tb_375 : (Cond.classLink "MeasuredStagesLaw" 37 "java/util/NoSuchElementException") ∈ TB := tb_at 375 (by decide +kernel) (by decide +kernel)
theorem tb_376 : (Cond.methodLink "MeasuredStagesLaw" 34 ⟨"MeasuredStages", "eventRegister", "(I)I"⟩) ∈ TB := tb_at 376 (by decide +kernel) (by decide +kernel)
theorem tb_377 : (Cond.instanceMethod ⟨"MeasuredStages", "eventRegister", "(I)I"⟩) ∈ TB := tb_at 377 (by decide +kernel) (by decide +kernel)
theorem tb_378 : (Cond.selects "MeasuredStages" ⟨"MeasuredStages", "eventRegister", "(I)I"⟩ ⟨"MeasuredStages", "eventRegister", "(I)I"⟩) ∈ TB := tb_at 378 (by decide +kernel) (by decide +kernel)
theorem tb_379 : (Cond.code ⟨"MeasuredStages", "eventRegister", "(I)I"⟩ prog_1_method_12_code 2 (some FieldType.int)) ∈ TB := tb_at 379 (by decide +kernel) (by decide +kernel)
theorem tb_380 : (Cond.methodLink "MeasuredStages" 105 ⟨"MeasuredStages$Registers", "hasEvent", "(I)Z"⟩) ∈ TB := tb_at 380 (by decide +kernel) (by decide +kernel)
theorem tb_381 : (Cond.instanceMethod ⟨"MeasuredStages$Registers", "hasEvent", "(I)Z"⟩) ∈ TB := tb_at 381 (by decide +kernel) (by decide +kernel)
theorem tb_382 : (Cond.selects "MeasuredStages$Registers" ⟨"MeasuredStages$Registers", "hasEvent", "(I)Z"⟩ ⟨"MeasuredStages$Registers", "hasEvent", "(I)Z"⟩) ∈ TB := tb_at 382 (by decide +kernel) (by decide +kernel)
theorem tb_383 : (Cond.code ⟨"MeasuredStages$Registers", "hasEvent", "(I)Z"⟩ prog_3_method_3_code 2 (some FieldType.boolean)) ∈ TB := tb_at 383 (by decide +kernel) (by decide +kernel)
theorem tb_384 : (Cond.classLink "MeasuredStages" 108 "java/util/NoSuchElementException") ∈ TB := tb_at 384 (by decide +kernel) (by decide +kernel)
theorem tb_385 : (Cond.instantiable "java/util/NoSuchElementException" 6) ∈ TB := tb_at 385 (by decide +kernel) (by decide +kernel)
theorem tb_387 : (Cond.selects "java/util/NoSuchElementException" ⟨"java/lang/Throwable", "fillInStackTrace", "(I)Ljava/lang/Throwable;"⟩ ⟨"java/lang/Throwable", "fillInStackTrace", "(I)Ljava/lang/Throwable;"⟩) ∈ TB := tb_at 387 (by decide +kernel) (by decide +kernel)
theorem tb_388 : (Cond.lays "java/util/NoSuchElementException" "java/lang/Throwable" "cause" "Ljava/lang/Throwable;") ∈ TB := tb_at 388 (by decide +kernel) (by decide +kernel)
theorem tb_389 : (Cond.lays "java/util/NoSuchElementException" "java/lang/Throwable" "stackTrace" "[Ljava/lang/StackTraceElement;") ∈ TB := tb_at 389 (by decide +kernel) (by decide +kernel)
theorem tb_390 : (Cond.lays "java/util/NoSuchElementException" "java/lang/Throwable" "suppressedExceptions" "Ljava/util/List;") ∈ TB := tb_at 390 (by decide +kernel) (by decide +kernel)
theorem tb_391 : (Cond.lays "java/util/NoSuchElementException" "java/lang/Throwable" "detailMessage" "Ljava/lang/String;") ∈ TB := tb_at 391 (by decide +kernel) (by decide +kernel)
theorem tb_392 : (Cond.lays "java/util/NoSuchElementException" "java/lang/Throwable" "backtrace" "Ljava/lang/Object;") ∈ TB := tb_at 392 (by decide +kernel) (by decide +kernel)
theorem tb_394 : (Cond.methodLink "MeasuredStages" 112 ⟨"java/util/NoSuchElementException", "<init>", "(Ljava/lang/String;)V"⟩) ∈ TB := tb_at 394 (by decide +kernel) (by decide +kernel)
theorem tb_395 : (Cond.instanceMethod ⟨"java/util/NoSuchElementException", "<init>", "(Ljava/lang/String;)V"⟩) ∈ TB := tb_at 395 (by decide +kernel) (by decide +kernel)
theorem tb_396 : (Cond.code ⟨"java/util/NoSuchElementException", "<init>", "(Ljava/lang/String;)V"⟩ prog_14_method_4_code 2 none) ∈ TB := tb_at 396 (by decide +kernel) (by decide +kernel)
theorem tb_397 : (Cond.methodLink "java/util/NoSuchElementException" 13 ⟨"java/lang/RuntimeException", "<init>", "(Ljava/lang/String;)V"⟩) ∈ TB := tb_at 397 (by decide +kernel) (by decide +kernel)
theorem tb_398 : (Cond.lays "java/util/NoSuchElementException" "java/lang/Throwable" "depth" "I") ∈ TB := tb_at 398 (by decide +kernel) (by decide +kernel)
theorem tb_399 : (Cond.superclass "java/util/NoSuchElementException" "java/lang/RuntimeException") ∈ TB := tb_at 399 (by decide +kernel) (by decide +kernel)
theorem tb_400 : (Cond.methodLink "MeasuredStagesLaw" 113 ⟨"MeasuredStagesLaw", "eventValue", "(LMeasuredStages;I[J)I"⟩) ∈ TB := tb_at 400 (by decide +kernel) (by decide +kernel)
theorem tb_401 : (Cond.static ⟨"MeasuredStagesLaw", "eventValue", "(LMeasuredStages;I[J)I"⟩) ∈ TB := tb_at 401 (by decide +kernel) (by decide +kernel)
theorem tb_402 : (Cond.codeWith ⟨"MeasuredStagesLaw", "eventValue", "(LMeasuredStages;I[J)I"⟩ method_9_code 4 (some FieldType.int) [(0, 8, 11, 37)]) ∈ TB := tb_at 402 (by decide +kernel) (by decide +kernel)
theorem tb_403 : (Cond.methodLink "MeasuredStagesLaw" 39 ⟨"MeasuredStages", "eventValue", "(I)J"⟩) ∈ TB := tb_at 403 (by decide +kernel) (by decide +kernel)
theorem tb_404 : (Cond.instanceMethod ⟨"MeasuredStages", "eventValue", "(I)J"⟩) ∈ TB := tb_at 404 (by decide +kernel) (by decide +kernel)
theorem tb_405 : (Cond.selects "MeasuredStages" ⟨"MeasuredStages", "eventValue", "(I)J"⟩ ⟨"MeasuredStages", "eventValue", "(I)J"⟩) ∈ TB := tb_at 405 (by decide +kernel) (by decide +kernel)
theorem tb_406 : (Cond.code ⟨"MeasuredStages", "eventValue", "(I)J"⟩ prog_1_method_13_code 2 (some FieldType.long)) ∈ TB := tb_at 406 (by decide +kernel) (by decide +kernel)
theorem tb_407 : (Cond.methodLink "MeasuredStagesLaw" 116 ⟨"MeasuredStagesLaw", "tamper", "(LMeasuredStages;IJ)I"⟩) ∈ TB := tb_at 407 (by decide +kernel) (by decide +kernel)
theorem tb_408 : (Cond.static ⟨"MeasuredStagesLaw", "tamper", "(LMeasuredStages;IJ)I"⟩) ∈ TB := tb_at 408 (by decide +kernel) (by decide +kernel)
theorem tb_409 : (Cond.codeWith ⟨"MeasuredStagesLaw", "tamper", "(LMeasuredStages;IJ)I"⟩ method_10_code 5 (some FieldType.int) [(0, 6, 9, 37)]) ∈ TB := tb_at 409 (by decide +kernel) (by decide +kernel)
theorem tb_410 : (Cond.methodLink "MeasuredStagesLaw" 42 ⟨"MeasuredStages", "tamper", "(IJ)V"⟩) ∈ TB := tb_at 410 (by decide +kernel) (by decide +kernel)
theorem tb_411 : (Cond.instanceMethod ⟨"MeasuredStages", "tamper", "(IJ)V"⟩) ∈ TB := tb_at 411 (by decide +kernel) (by decide +kernel)
theorem tb_412 : (Cond.selects "MeasuredStages" ⟨"MeasuredStages", "tamper", "(IJ)V"⟩ ⟨"MeasuredStages", "tamper", "(IJ)V"⟩) ∈ TB := tb_at 412 (by decide +kernel) (by decide +kernel)
theorem tb_413 : (Cond.code ⟨"MeasuredStages", "tamper", "(IJ)V"⟩ prog_1_method_14_code 4 none) ∈ TB := tb_at 413 (by decide +kernel) (by decide +kernel)
theorem tb_414 : (Cond.methodLink "MeasuredStagesLaw" 124 ⟨"MeasuredStagesLaw", "seal", "(LMeasuredStages;IJ[J)I"⟩) ∈ TB := tb_at 414 (by decide +kernel) (by decide +kernel)
theorem tb_415 : (Cond.static ⟨"MeasuredStagesLaw", "seal", "(LMeasuredStages;IJ[J)I"⟩) ∈ TB := tb_at 415 (by decide +kernel) (by decide +kernel)
theorem tb_416 : (Cond.codeWith ⟨"MeasuredStagesLaw", "seal", "(LMeasuredStages;IJ[J)I"⟩ method_11_code 6 (some FieldType.int) [(0, 11, 14, 13), (0, 11, 18, 23)]) ∈ TB := tb_at 416 (by decide +kernel) (by decide +kernel)
theorem tb_417 : (Cond.methodLink "MeasuredStagesLaw" 45 ⟨"MeasuredStages", "seal", "(IJ)I"⟩) ∈ TB := tb_at 417 (by decide +kernel) (by decide +kernel)
theorem tb_418 : (Cond.instanceMethod ⟨"MeasuredStages", "seal", "(IJ)I"⟩) ∈ TB := tb_at 418 (by decide +kernel) (by decide +kernel)
theorem tb_419 : (Cond.selects "MeasuredStages" ⟨"MeasuredStages", "seal", "(IJ)I"⟩ ⟨"MeasuredStages", "seal", "(IJ)I"⟩) ∈ TB := tb_at 419 (by decide +kernel) (by decide +kernel)
theorem tb_420 : (Cond.code ⟨"MeasuredStages", "seal", "(IJ)I"⟩ prog_1_method_16_code 5 (some FieldType.int)) ∈ TB := tb_at 420 (by decide +kernel) (by decide +kernel)
theorem tb_421 : (Cond.methodLink "MeasuredStages" 123 ⟨"MeasuredStages", "isMask", "(I)Z"⟩) ∈ TB := tb_at 421 (by decide +kernel) (by decide +kernel)
theorem tb_422 : (Cond.static ⟨"MeasuredStages", "isMask", "(I)Z"⟩) ∈ TB := tb_at 422 (by decide +kernel) (by decide +kernel)
theorem tb_423 : (Cond.code ⟨"MeasuredStages", "isMask", "(I)Z"⟩ prog_1_method_22_code 1 (some FieldType.boolean)) ∈ TB := tb_at 423 (by decide +kernel) (by decide +kernel)
theorem tb_426 : (Cond.methodLink "MeasuredStagesLaw" 128 ⟨"MeasuredStagesLaw", "unseal", "(LMeasuredStages;I[J)I"⟩) ∈ TB := tb_at 426 (by decide +kernel) (by decide +kernel)
theorem tb_427 : (Cond.static ⟨"MeasuredStagesLaw", "unseal", "(LMeasuredStages;I[J)I"⟩) ∈ TB := tb_at 427 (by decide +kernel) (by decide +kernel)
theorem tb_428 : (Cond.codeWith ⟨"MeasuredStagesLaw", "unseal", "(LMeasuredStages;I[J)I"⟩ method_12_code 4 (some FieldType.int) [(0, 8, 11, 37), (0, 8, 14, 23)]) ∈ TB := tb_at 428 (by decide +kernel) (by decide +kernel)
theorem tb_429 : (Cond.methodLink "MeasuredStagesLaw" 49 ⟨"MeasuredStages", "unseal", "(I)J"⟩) ∈ TB := tb_at 429 (by decide +kernel) (by decide +kernel)
theorem tb_430 : (Cond.instanceMethod ⟨"MeasuredStages", "unseal", "(I)J"⟩) ∈ TB := tb_at 430 (by decide +kernel) (by decide +kernel)
theorem tb_431 : (Cond.selects "MeasuredStages" ⟨"MeasuredStages", "unseal", "(I)J"⟩ ⟨"MeasuredStages", "unseal", "(I)J"⟩) ∈ TB := tb_at 431 (by decide +kernel) (by decide +kernel)
theorem tb_432 : (Cond.code ⟨"MeasuredStages", "unseal", "(I)J"⟩ prog_1_method_17_code 2 (some FieldType.long)) ∈ TB := tb_at 432 (by decide +kernel) (by decide +kernel)
theorem tb_435 : (Cond.methodLink "MeasuredStagesLaw" 131 ⟨"MeasuredStagesLaw", "discard", "(LMeasuredStages;I)I"⟩) ∈ TB := tb_at 435 (by decide +kernel) (by decide +kernel)
theorem tb_436 : (Cond.static ⟨"MeasuredStagesLaw", "discard", "(LMeasuredStages;I)I"⟩) ∈ TB := tb_at 436 (by decide +kernel) (by decide +kernel)
theorem tb_437 : (Cond.codeWith ⟨"MeasuredStagesLaw", "discard", "(LMeasuredStages;I)I"⟩ method_13_code 3 (some FieldType.int) [(0, 5, 8, 37)]) ∈ TB := tb_at 437 (by decide +kernel) (by decide +kernel)
theorem tb_438 : (Cond.methodLink "MeasuredStagesLaw" 52 ⟨"MeasuredStages", "discard", "(I)V"⟩) ∈ TB := tb_at 438 (by decide +kernel) (by decide +kernel)
theorem tb_439 : (Cond.instanceMethod ⟨"MeasuredStages", "discard", "(I)V"⟩) ∈ TB := tb_at 439 (by decide +kernel) (by decide +kernel)
theorem tb_440 : (Cond.selects "MeasuredStages" ⟨"MeasuredStages", "discard", "(I)V"⟩ ⟨"MeasuredStages", "discard", "(I)V"⟩) ∈ TB := tb_at 440 (by decide +kernel) (by decide +kernel)
theorem tb_441 : (Cond.code ⟨"MeasuredStages", "discard", "(I)V"⟩ prog_1_method_18_code 2 none) ∈ TB := tb_at 441 (by decide +kernel) (by decide +kernel)
theorem tb_442 : (Cond.methodLink "MeasuredStages" 154 ⟨"MeasuredStages$Blobs", "free", "(I)V"⟩) ∈ TB := tb_at 442 (by decide +kernel) (by decide +kernel)
theorem tb_443 : (Cond.instanceMethod ⟨"MeasuredStages$Blobs", "free", "(I)V"⟩) ∈ TB := tb_at 443 (by decide +kernel) (by decide +kernel)
theorem tb_444 : (Cond.selects "MeasuredStages$Blobs" ⟨"MeasuredStages$Blobs", "free", "(I)V"⟩ ⟨"MeasuredStages$Blobs", "free", "(I)V"⟩) ∈ TB := tb_at 444 (by decide +kernel) (by decide +kernel)
theorem tb_445 : (Cond.code ⟨"MeasuredStages$Blobs", "free", "(I)V"⟩ prog_2_method_5_code 2 none) ∈ TB := tb_at 445 (by decide +kernel) (by decide +kernel)
theorem tb_446 : (Cond.methodLink "MeasuredStagesLaw" 134 ⟨"MeasuredStagesLaw", "quote", "(LMeasuredStages;JJI[J)I"⟩) ∈ TB := tb_at 446 (by decide +kernel) (by decide +kernel)
theorem tb_447 : (Cond.static ⟨"MeasuredStagesLaw", "quote", "(LMeasuredStages;JJI[J)I"⟩) ∈ TB := tb_at 447 (by decide +kernel) (by decide +kernel)
theorem tb_448 : (Cond.codeWith ⟨"MeasuredStagesLaw", "quote", "(LMeasuredStages;JJI[J)I"⟩ method_14_code 8 (some FieldType.int) [(0, 12, 15, 13)]) ∈ TB := tb_at 448 (by decide +kernel) (by decide +kernel)
theorem tb_449 : (Cond.methodLink "MeasuredStagesLaw" 55 ⟨"MeasuredStages", "quote", "(JJI)J"⟩) ∈ TB := tb_at 449 (by decide +kernel) (by decide +kernel)
theorem tb_450 : (Cond.instanceMethod ⟨"MeasuredStages", "quote", "(JJI)J"⟩) ∈ TB := tb_at 450 (by decide +kernel) (by decide +kernel)
theorem tb_451 : (Cond.selects "MeasuredStages" ⟨"MeasuredStages", "quote", "(JJI)J"⟩ ⟨"MeasuredStages", "quote", "(JJI)J"⟩) ∈ TB := tb_at 451 (by decide +kernel) (by decide +kernel)
theorem tb_452 : (Cond.code ⟨"MeasuredStages", "quote", "(JJI)J"⟩ prog_1_method_19_code 6 (some FieldType.long)) ∈ TB := tb_at 452 (by decide +kernel) (by decide +kernel)
theorem tb_453 : (Cond.classLink "MeasuredStagesLaw" 60 "MeasuredStagesModel") ∈ TB := tb_at 453 (by decide +kernel) (by decide +kernel)
theorem tb_454 : (Cond.instantiable "MeasuredStagesModel" 19) ∈ TB := tb_at 454 (by decide +kernel) (by decide +kernel)
theorem tb_455 : (Cond.methodLink "MeasuredStagesLaw" 62 ⟨"MeasuredStagesModel", "<init>", "()V"⟩) ∈ TB := tb_at 455 (by decide +kernel) (by decide +kernel)
theorem tb_456 : (Cond.instanceMethod ⟨"MeasuredStagesModel", "<init>", "()V"⟩) ∈ TB := tb_at 456 (by decide +kernel) (by decide +kernel)
theorem tb_457 : (Cond.code ⟨"MeasuredStagesModel", "<init>", "()V"⟩ prog_5_method_1_code 1 none) ∈ TB := tb_at 457 (by decide +kernel) (by decide +kernel)
theorem tb_458 : (Cond.methodLink "MeasuredStagesModel" 1 ⟨"java/lang/Object", "<init>", "()V"⟩) ∈ TB := tb_at 458 (by decide +kernel) (by decide +kernel)
theorem tb_459 : (Cond.fieldLink "MeasuredStagesModel" 7 "MeasuredStagesModel" "registers" "[J") ∈ TB := tb_at 459 (by decide +kernel) (by decide +kernel)
theorem tb_460 : (Cond.fieldLink "MeasuredStagesModel" 13 "MeasuredStagesModel" "images" "[J") ∈ TB := tb_at 460 (by decide +kernel) (by decide +kernel)
theorem tb_461 : (Cond.fieldLink "MeasuredStagesModel" 16 "MeasuredStagesModel" "hasApproved" "[Z") ∈ TB := tb_at 461 (by decide +kernel) (by decide +kernel)
theorem tb_462 : (Cond.fieldLink "MeasuredStagesModel" 20 "MeasuredStagesModel" "approved" "[J") ∈ TB := tb_at 462 (by decide +kernel) (by decide +kernel)
theorem tb_463 : (Cond.fieldLink "MeasuredStagesModel" 23 "MeasuredStagesModel" "masks" "[I") ∈ TB := tb_at 463 (by decide +kernel) (by decide +kernel)
theorem tb_464 : (Cond.fieldLink "MeasuredStagesModel" 27 "MeasuredStagesModel" "policies" "[J") ∈ TB := tb_at 464 (by decide +kernel) (by decide +kernel)
theorem tb_465 : (Cond.fieldLink "MeasuredStagesModel" 30 "MeasuredStagesModel" "secrets" "[J") ∈ TB := tb_at 465 (by decide +kernel) (by decide +kernel)
theorem tb_466 : (Cond.fieldLink "MeasuredStagesModel" 68 "MeasuredStagesModel" "events" "I") ∈ TB := tb_at 466 (by decide +kernel) (by decide +kernel)
theorem tb_467 : (Cond.fieldLink "MeasuredStagesModel" 33 "MeasuredStagesModel" "eventRegisters" "[I") ∈ TB := tb_at 467 (by decide +kernel) (by decide +kernel)
theorem tb_468 : (Cond.fieldLink "MeasuredStagesModel" 36 "MeasuredStagesModel" "eventValues" "[J") ∈ TB := tb_at 468 (by decide +kernel) (by decide +kernel)
theorem tb_469 : (Cond.fieldLink "MeasuredStagesModel" 39 "MeasuredStagesModel" "again" "[J") ∈ TB := tb_at 469 (by decide +kernel) (by decide +kernel)
theorem tb_470 : (Cond.fieldLink "MeasuredStagesModel" 88 "MeasuredStagesModel" "acc" "J") ∈ TB := tb_at 470 (by decide +kernel) (by decide +kernel)
theorem tb_471 : (Cond.fieldLink "MeasuredStagesModel" 82 "MeasuredStagesModel" "launched" "I") ∈ TB := tb_at 471 (by decide +kernel) (by decide +kernel)
theorem tb_472 : (Cond.fieldLink "MeasuredStagesModel" 92 "MeasuredStagesModel" "steps" "I") ∈ TB := tb_at 472 (by decide +kernel) (by decide +kernel)
theorem tb_473 : (Cond.fieldLink "MeasuredStagesModel" 95 "MeasuredStagesModel" "fault" "I") ∈ TB := tb_at 473 (by decide +kernel) (by decide +kernel)
theorem tb_474 : (Cond.fieldLink "MeasuredStagesModel" 85 "MeasuredStagesModel" "depth" "I") ∈ TB := tb_at 474 (by decide +kernel) (by decide +kernel)
theorem tb_475 : (Cond.fieldLink "MeasuredStagesModel" 42 "MeasuredStagesModel" "runs" "[I") ∈ TB := tb_at 475 (by decide +kernel) (by decide +kernel)
theorem tb_476 : (Cond.fieldLink "MeasuredStagesModel" 45 "MeasuredStagesModel" "next" "[I") ∈ TB := tb_at 476 (by decide +kernel) (by decide +kernel)
theorem tb_477 : (Cond.fieldLink "MeasuredStagesModel" 48 "MeasuredStagesModel" "thrown" "I") ∈ TB := tb_at 477 (by decide +kernel) (by decide +kernel)
theorem tb_478 : (Cond.laysFinal "MeasuredStagesModel" "MeasuredStagesModel" "registers" "[J") ∈ TB := tb_at 478 (by decide +kernel) (by decide +kernel)
theorem tb_480 : (Cond.laysFinal "MeasuredStagesModel" "MeasuredStagesModel" "images" "[J") ∈ TB := tb_at 480 (by decide +kernel) (by decide +kernel)
theorem tb_482 : (Cond.laysFinal "MeasuredStagesModel" "MeasuredStagesModel" "hasApproved" "[Z") ∈ TB := tb_at 482 (by decide +kernel) (by decide +kernel)
theorem tb_484 : (Cond.laysFinal "MeasuredStagesModel" "MeasuredStagesModel" "approved" "[J") ∈ TB := tb_at 484 (by decide +kernel) (by decide +kernel)
theorem tb_486 : (Cond.laysFinal "MeasuredStagesModel" "MeasuredStagesModel" "masks" "[I") ∈ TB := tb_at 486 (by decide +kernel) (by decide +kernel)
theorem tb_488 : (Cond.laysFinal "MeasuredStagesModel" "MeasuredStagesModel" "policies" "[J") ∈ TB := tb_at 488 (by decide +kernel) (by decide +kernel)
theorem tb_490 : (Cond.laysFinal "MeasuredStagesModel" "MeasuredStagesModel" "secrets" "[J") ∈ TB := tb_at 490 (by decide +kernel) (by decide +kernel)
theorem tb_492 : (Cond.lays "MeasuredStagesModel" "MeasuredStagesModel" "events" "I") ∈ TB := tb_at 492 (by decide +kernel) (by decide +kernel)
theorem tb_494 : (Cond.laysFinal "MeasuredStagesModel" "MeasuredStagesModel" "eventRegisters" "[I") ∈ TB := tb_at 494 (by decide +kernel) (by decide +kernel)
theorem tb_496 : (Cond.laysFinal "MeasuredStagesModel" "MeasuredStagesModel" "eventValues" "[J") ∈ TB := tb_at 496 (by decide +kernel) (by decide +kernel)
theorem tb_498 : (Cond.laysFinal "MeasuredStagesModel" "MeasuredStagesModel" "again" "[J") ∈ TB := tb_at 498 (by decide +kernel) (by decide +kernel)
theorem tb_500 : (Cond.lays "MeasuredStagesModel" "MeasuredStagesModel" "acc" "J") ∈ TB := tb_at 500 (by decide +kernel) (by decide +kernel)
theorem tb_502 : (Cond.lays "MeasuredStagesModel" "MeasuredStagesModel" "launched" "I") ∈ TB := tb_at 502 (by decide +kernel) (by decide +kernel)
theorem tb_504 : (Cond.lays "MeasuredStagesModel" "MeasuredStagesModel" "steps" "I") ∈ TB := tb_at 504 (by decide +kernel) (by decide +kernel)
theorem tb_506 : (Cond.lays "MeasuredStagesModel" "MeasuredStagesModel" "fault" "I") ∈ TB := tb_at 506 (by decide +kernel) (by decide +kernel)
theorem tb_508 : (Cond.lays "MeasuredStagesModel" "MeasuredStagesModel" "depth" "I") ∈ TB := tb_at 508 (by decide +kernel) (by decide +kernel)
theorem tb_510 : (Cond.laysFinal "MeasuredStagesModel" "MeasuredStagesModel" "runs" "[I") ∈ TB := tb_at 510 (by decide +kernel) (by decide +kernel)
theorem tb_512 : (Cond.laysFinal "MeasuredStagesModel" "MeasuredStagesModel" "next" "[I") ∈ TB := tb_at 512 (by decide +kernel) (by decide +kernel)
theorem tb_514 : (Cond.lays "MeasuredStagesModel" "MeasuredStagesModel" "thrown" "I") ∈ TB := tb_at 514 (by decide +kernel) (by decide +kernel)
theorem tb_516 : (Cond.superclass "MeasuredStagesModel" "java/lang/Object") ∈ TB := tb_at 516 (by decide +kernel) (by decide +kernel)
theorem tb_517 : (Cond.methodLink "MeasuredStagesLaw" 71 ⟨"MeasuredStagesModel", "thrown", "()I"⟩) ∈ TB := tb_at 517 (by decide +kernel) (by decide +kernel)
theorem tb_518 : (Cond.instanceMethod ⟨"MeasuredStagesModel", "thrown", "()I"⟩) ∈ TB := tb_at 518 (by decide +kernel) (by decide +kernel)
theorem tb_519 : (Cond.selects "MeasuredStagesModel" ⟨"MeasuredStagesModel", "thrown", "()I"⟩ ⟨"MeasuredStagesModel", "thrown", "()I"⟩) ∈ TB := tb_at 519 (by decide +kernel) (by decide +kernel)
theorem tb_520 : (Cond.code ⟨"MeasuredStagesModel", "thrown", "()I"⟩ prog_5_method_2_code 1 (some FieldType.int)) ∈ TB := tb_at 520 (by decide +kernel) (by decide +kernel)
theorem tb_521 : (Cond.methodLink "MeasuredStagesLaw" 70 ⟨"MeasuredStagesModel", "image", "(IJ)V"⟩) ∈ TB := tb_at 521 (by decide +kernel) (by decide +kernel)
theorem tb_522 : (Cond.instanceMethod ⟨"MeasuredStagesModel", "image", "(IJ)V"⟩) ∈ TB := tb_at 522 (by decide +kernel) (by decide +kernel)
theorem tb_523 : (Cond.selects "MeasuredStagesModel" ⟨"MeasuredStagesModel", "image", "(IJ)V"⟩ ⟨"MeasuredStagesModel", "image", "(IJ)V"⟩) ∈ TB := tb_at 523 (by decide +kernel) (by decide +kernel)
theorem tb_524 : (Cond.code ⟨"MeasuredStagesModel", "image", "(IJ)V"⟩ prog_5_method_10_code 4 none) ∈ TB := tb_at 524 (by decide +kernel) (by decide +kernel)
theorem tb_525 : (Cond.methodLink "MeasuredStagesLaw" 78 ⟨"MeasuredStagesModel", "approve", "(I)V"⟩) ∈ TB := tb_at 525 (by decide +kernel) (by decide +kernel)
theorem tb_526 : (Cond.instanceMethod ⟨"MeasuredStagesModel", "approve", "(I)V"⟩) ∈ TB := tb_at 526 (by decide +kernel) (by decide +kernel)
theorem tb_527 : (Cond.selects "MeasuredStagesModel" ⟨"MeasuredStagesModel", "approve", "(I)V"⟩ ⟨"MeasuredStagesModel", "approve", "(I)V"⟩) ∈ TB := tb_at 527 (by decide +kernel) (by decide +kernel)
theorem tb_528 : (Cond.code ⟨"MeasuredStagesModel", "approve", "(I)V"⟩ prog_5_method_11_code 2 none) ∈ TB := tb_at 528 (by decide +kernel) (by decide +kernel)
theorem tb_529 : (Cond.methodLink "MeasuredStagesModel" 75 ⟨"MeasuredStagesModel", "digest", "(I)J"⟩) ∈ TB := tb_at 529 (by decide +kernel) (by decide +kernel)
theorem tb_531 : (Cond.instanceMethod ⟨"MeasuredStagesModel", "digest", "(I)J"⟩) ∈ TB := tb_at 531 (by decide +kernel) (by decide +kernel)
theorem tb_532 : (Cond.code ⟨"MeasuredStagesModel", "digest", "(I)J"⟩ prog_5_method_5_code 2 (some FieldType.long)) ∈ TB := tb_at 532 (by decide +kernel) (by decide +kernel)
theorem tb_533 : (Cond.constantLong "MeasuredStagesModel" 60 (5)) ∈ TB := tb_at 533 (by decide +kernel) (by decide +kernel)
theorem tb_534 : (Cond.methodLink "MeasuredStagesModel" 62 ⟨"MeasuredStagesModel", "h", "(JJ)J"⟩) ∈ TB := tb_at 534 (by decide +kernel) (by decide +kernel)
theorem tb_535 : (Cond.static ⟨"MeasuredStagesModel", "h", "(JJ)J"⟩) ∈ TB := tb_at 535 (by decide +kernel) (by decide +kernel)
theorem tb_536 : (Cond.code ⟨"MeasuredStagesModel", "h", "(JJ)J"⟩ prog_5_method_3_code 6 (some FieldType.long)) ∈ TB := tb_at 536 (by decide +kernel) (by decide +kernel)
theorem tb_537 : (Cond.constantLong "MeasuredStagesModel" 52 (1442695040888963407)) ∈ TB := tb_at 537 (by decide +kernel) (by decide +kernel)
theorem tb_538 : (Cond.constantLong "MeasuredStagesModel" 54 (6364136223846793005)) ∈ TB := tb_at 538 (by decide +kernel) (by decide +kernel)
theorem tb_539 : (Cond.constantLong "MeasuredStagesModel" 56 (2862933555777941757)) ∈ TB := tb_at 539 (by decide +kernel) (by decide +kernel)
theorem tb_540 : (Cond.methodLink "MeasuredStagesLaw" 82 ⟨"MeasuredStagesModel", "boot", "(I)I"⟩) ∈ TB := tb_at 540 (by decide +kernel) (by decide +kernel)
theorem tb_541 : (Cond.instanceMethod ⟨"MeasuredStagesModel", "boot", "(I)I"⟩) ∈ TB := tb_at 541 (by decide +kernel) (by decide +kernel)
theorem tb_542 : (Cond.selects "MeasuredStagesModel" ⟨"MeasuredStagesModel", "boot", "(I)I"⟩ ⟨"MeasuredStagesModel", "boot", "(I)I"⟩) ∈ TB := tb_at 542 (by decide +kernel) (by decide +kernel)
theorem tb_543 : (Cond.code ⟨"MeasuredStagesModel", "boot", "(I)I"⟩ prog_5_method_13_code 4 (some FieldType.int)) ∈ TB := tb_at 543 (by decide +kernel) (by decide +kernel)
theorem tb_544 : (Cond.methodLink "MeasuredStagesModel" 98 ⟨"MeasuredStagesModel", "launch", "(II)Z"⟩) ∈ TB := tb_at 544 (by decide +kernel) (by decide +kernel)
theorem tb_546 : (Cond.instanceMethod ⟨"MeasuredStagesModel", "launch", "(II)Z"⟩) ∈ TB := tb_at 546 (by decide +kernel) (by decide +kernel)
theorem tb_547 : (Cond.code ⟨"MeasuredStagesModel", "launch", "(II)Z"⟩ prog_5_method_12_code 3 (some FieldType.boolean)) ∈ TB := tb_at 547 (by decide +kernel) (by decide +kernel)
theorem tb_548 : (Cond.methodLink "MeasuredStagesModel" 78 ⟨"MeasuredStagesModel", "note", "(IJ)Z"⟩) ∈ TB := tb_at 548 (by decide +kernel) (by decide +kernel)
theorem tb_550 : (Cond.instanceMethod ⟨"MeasuredStagesModel", "note", "(IJ)Z"⟩) ∈ TB := tb_at 550 (by decide +kernel) (by decide +kernel)
theorem tb_551 : (Cond.code ⟨"MeasuredStagesModel", "note", "(IJ)Z"⟩ prog_5_method_7_code 4 (some FieldType.boolean)) ∈ TB := tb_at 551 (by decide +kernel) (by decide +kernel)
theorem tb_552 : (Cond.methodLink "MeasuredStagesModel" 102 ⟨"MeasuredStagesModel", "instruction", "()I"⟩) ∈ TB := tb_at 552 (by decide +kernel) (by decide +kernel)
theorem tb_554 : (Cond.instanceMethod ⟨"MeasuredStagesModel", "instruction", "()I"⟩) ∈ TB := tb_at 554 (by decide +kernel) (by decide +kernel)
theorem tb_555 : (Cond.code ⟨"MeasuredStagesModel", "instruction", "()I"⟩ prog_5_method_15_code 8 (some FieldType.int)) ∈ TB := tb_at 555 (by decide +kernel) (by decide +kernel)
theorem tb_556 : (Cond.methodLink "MeasuredStagesModel" 106 ⟨"MeasuredStagesModel", "digit", "(II)I"⟩) ∈ TB := tb_at 556 (by decide +kernel) (by decide +kernel)
theorem tb_558 : (Cond.instanceMethod ⟨"MeasuredStagesModel", "digit", "(II)I"⟩) ∈ TB := tb_at 558 (by decide +kernel) (by decide +kernel)
theorem tb_559 : (Cond.code ⟨"MeasuredStagesModel", "digit", "(II)I"⟩ prog_5_method_4_code 3 (some FieldType.int)) ∈ TB := tb_at 559 (by decide +kernel) (by decide +kernel)
theorem tb_560 : (Cond.constantLong "MeasuredStagesModel" 58 (15)) ∈ TB := tb_at 560 (by decide +kernel) (by decide +kernel)
theorem tb_561 : (Cond.methodLink "MeasuredStagesModel" 110 ⟨"MeasuredStagesModel", "faultOf", "(III)I"⟩) ∈ TB := tb_at 561 (by decide +kernel) (by decide +kernel)
theorem tb_563 : (Cond.instanceMethod ⟨"MeasuredStagesModel", "faultOf", "(III)I"⟩) ∈ TB := tb_at 563 (by decide +kernel) (by decide +kernel)
theorem tb_564 : (Cond.code ⟨"MeasuredStagesModel", "faultOf", "(III)I"⟩ prog_5_method_16_code 5 (some FieldType.int)) ∈ TB := tb_at 564 (by decide +kernel) (by decide +kernel)
theorem tb_565 : (Cond.methodLink "MeasuredStagesModel" 71 ⟨"MeasuredStagesModel", "policy", "(I)J"⟩) ∈ TB := tb_at 565 (by decide +kernel) (by decide +kernel)
theorem tb_567 : (Cond.instanceMethod ⟨"MeasuredStagesModel", "policy", "(I)J"⟩) ∈ TB := tb_at 567 (by decide +kernel) (by decide +kernel)
theorem tb_568 : (Cond.code ⟨"MeasuredStagesModel", "policy", "(I)J"⟩ prog_5_method_6_code 5 (some FieldType.long)) ∈ TB := tb_at 568 (by decide +kernel) (by decide +kernel)
theorem tb_569 : (Cond.constantLong "MeasuredStagesModel" 66 (9)) ∈ TB := tb_at 569 (by decide +kernel) (by decide +kernel)
theorem tb_570 : (Cond.methodLink "MeasuredStagesModel" 122 ⟨"MeasuredStagesModel", "freeBlob", "()I"⟩) ∈ TB := tb_at 570 (by decide +kernel) (by decide +kernel)
theorem tb_572 : (Cond.instanceMethod ⟨"MeasuredStagesModel", "freeBlob", "()I"⟩) ∈ TB := tb_at 572 (by decide +kernel) (by decide +kernel)
theorem tb_573 : (Cond.code ⟨"MeasuredStagesModel", "freeBlob", "()I"⟩ prog_5_method_8_code 2 (some FieldType.int)) ∈ TB := tb_at 573 (by decide +kernel) (by decide +kernel)
theorem tb_574 : (Cond.methodLink "MeasuredStagesModel" 114 ⟨"MeasuredStagesModel", "operands", "(I)I"⟩) ∈ TB := tb_at 574 (by decide +kernel) (by decide +kernel)
theorem tb_575 : (Cond.static ⟨"MeasuredStagesModel", "operands", "(I)I"⟩) ∈ TB := tb_at 575 (by decide +kernel) (by decide +kernel)
theorem tb_576 : (Cond.code ⟨"MeasuredStagesModel", "operands", "(I)I"⟩ prog_5_method_14_code 1 (some FieldType.int)) ∈ TB := tb_at 576 (by decide +kernel) (by decide +kernel)
theorem tb_577 : (Cond.methodLink "MeasuredStagesModel" 118 ⟨"MeasuredStagesModel", "act", "(IIII)V"⟩) ∈ TB := tb_at 577 (by decide +kernel) (by decide +kernel)
theorem tb_579 : (Cond.instanceMethod ⟨"MeasuredStagesModel", "act", "(IIII)V"⟩) ∈ TB := tb_at 579 (by decide +kernel) (by decide +kernel)
theorem tb_580 : (Cond.code ⟨"MeasuredStagesModel", "act", "(IIII)V"⟩ prog_5_method_17_code 6 none) ∈ TB := tb_at 580 (by decide +kernel) (by decide +kernel)
theorem tb_581 : (Cond.methodLink "MeasuredStagesModel" 125 ⟨"MeasuredStagesModel", "fill", "(IIJ)V"⟩) ∈ TB := tb_at 581 (by decide +kernel) (by decide +kernel)
theorem tb_583 : (Cond.instanceMethod ⟨"MeasuredStagesModel", "fill", "(IIJ)V"⟩) ∈ TB := tb_at 583 (by decide +kernel) (by decide +kernel)
theorem tb_584 : (Cond.code ⟨"MeasuredStagesModel", "fill", "(IIJ)V"⟩ prog_5_method_9_code 5 none) ∈ TB := tb_at 584 (by decide +kernel) (by decide +kernel)
theorem tb_585 : (Cond.methodLink "MeasuredStagesLaw" 86 ⟨"MeasuredStagesModel", "fault", "()I"⟩) ∈ TB := tb_at 585 (by decide +kernel) (by decide +kernel)
theorem tb_586 : (Cond.instanceMethod ⟨"MeasuredStagesModel", "fault", "()I"⟩) ∈ TB := tb_at 586 (by decide +kernel) (by decide +kernel)
theorem tb_587 : (Cond.selects "MeasuredStagesModel" ⟨"MeasuredStagesModel", "fault", "()I"⟩ ⟨"MeasuredStagesModel", "fault", "()I"⟩) ∈ TB := tb_at 587 (by decide +kernel) (by decide +kernel)
theorem tb_588 : (Cond.code ⟨"MeasuredStagesModel", "fault", "()I"⟩ prog_5_method_18_code 1 (some FieldType.int)) ∈ TB := tb_at 588 (by decide +kernel) (by decide +kernel)
theorem tb_589 : (Cond.methodLink "MeasuredStagesLaw" 90 ⟨"MeasuredStagesModel", "launched", "()I"⟩) ∈ TB := tb_at 589 (by decide +kernel) (by decide +kernel)
theorem tb_590 : (Cond.instanceMethod ⟨"MeasuredStagesModel", "launched", "()I"⟩) ∈ TB := tb_at 590 (by decide +kernel) (by decide +kernel)
theorem tb_591 : (Cond.selects "MeasuredStagesModel" ⟨"MeasuredStagesModel", "launched", "()I"⟩ ⟨"MeasuredStagesModel", "launched", "()I"⟩) ∈ TB := tb_at 591 (by decide +kernel) (by decide +kernel)
theorem tb_592 : (Cond.code ⟨"MeasuredStagesModel", "launched", "()I"⟩ prog_5_method_19_code 1 (some FieldType.int)) ∈ TB := tb_at 592 (by decide +kernel) (by decide +kernel)
theorem tb_593 : (Cond.methodLink "MeasuredStagesLaw" 94 ⟨"MeasuredStagesModel", "steps", "()I"⟩) ∈ TB := tb_at 593 (by decide +kernel) (by decide +kernel)
theorem tb_594 : (Cond.instanceMethod ⟨"MeasuredStagesModel", "steps", "()I"⟩) ∈ TB := tb_at 594 (by decide +kernel) (by decide +kernel)
theorem tb_595 : (Cond.selects "MeasuredStagesModel" ⟨"MeasuredStagesModel", "steps", "()I"⟩ ⟨"MeasuredStagesModel", "steps", "()I"⟩) ∈ TB := tb_at 595 (by decide +kernel) (by decide +kernel)
theorem tb_596 : (Cond.code ⟨"MeasuredStagesModel", "steps", "()I"⟩ prog_5_method_20_code 1 (some FieldType.int)) ∈ TB := tb_at 596 (by decide +kernel) (by decide +kernel)
theorem tb_597 : (Cond.methodLink "MeasuredStagesLaw" 99 ⟨"MeasuredStagesModel", "acc", "()J"⟩) ∈ TB := tb_at 597 (by decide +kernel) (by decide +kernel)
theorem tb_598 : (Cond.instanceMethod ⟨"MeasuredStagesModel", "acc", "()J"⟩) ∈ TB := tb_at 598 (by decide +kernel) (by decide +kernel)
theorem tb_599 : (Cond.selects "MeasuredStagesModel" ⟨"MeasuredStagesModel", "acc", "()J"⟩ ⟨"MeasuredStagesModel", "acc", "()J"⟩) ∈ TB := tb_at 599 (by decide +kernel) (by decide +kernel)
theorem tb_600 : (Cond.code ⟨"MeasuredStagesModel", "acc", "()J"⟩ prog_5_method_21_code 1 (some FieldType.long)) ∈ TB := tb_at 600 (by decide +kernel) (by decide +kernel)
theorem tb_601 : (Cond.methodLink "MeasuredStagesLaw" 102 ⟨"MeasuredStagesModel", "register", "(I)J"⟩) ∈ TB := tb_at 601 (by decide +kernel) (by decide +kernel)
theorem tb_602 : (Cond.instanceMethod ⟨"MeasuredStagesModel", "register", "(I)J"⟩) ∈ TB := tb_at 602 (by decide +kernel) (by decide +kernel)
theorem tb_603 : (Cond.selects "MeasuredStagesModel" ⟨"MeasuredStagesModel", "register", "(I)J"⟩ ⟨"MeasuredStagesModel", "register", "(I)J"⟩) ∈ TB := tb_at 603 (by decide +kernel) (by decide +kernel)
theorem tb_604 : (Cond.code ⟨"MeasuredStagesModel", "register", "(I)J"⟩ prog_5_method_22_code 2 (some FieldType.long)) ∈ TB := tb_at 604 (by decide +kernel) (by decide +kernel)
theorem tb_605 : (Cond.methodLink "MeasuredStagesLaw" 105 ⟨"MeasuredStagesModel", "extend", "(IJ)V"⟩) ∈ TB := tb_at 605 (by decide +kernel) (by decide +kernel)
theorem tb_606 : (Cond.instanceMethod ⟨"MeasuredStagesModel", "extend", "(IJ)V"⟩) ∈ TB := tb_at 606 (by decide +kernel) (by decide +kernel)
theorem tb_607 : (Cond.selects "MeasuredStagesModel" ⟨"MeasuredStagesModel", "extend", "(IJ)V"⟩ ⟨"MeasuredStagesModel", "extend", "(IJ)V"⟩) ∈ TB := tb_at 607 (by decide +kernel) (by decide +kernel)
theorem tb_608 : (Cond.code ⟨"MeasuredStagesModel", "extend", "(IJ)V"⟩ prog_5_method_23_code 5 none) ∈ TB := tb_at 608 (by decide +kernel) (by decide +kernel)
theorem tb_609 : (Cond.methodLink "MeasuredStagesLaw" 109 ⟨"MeasuredStagesModel", "events", "()I"⟩) ∈ TB := tb_at 609 (by decide +kernel) (by decide +kernel)
theorem tb_610 : (Cond.instanceMethod ⟨"MeasuredStagesModel", "events", "()I"⟩) ∈ TB := tb_at 610 (by decide +kernel) (by decide +kernel)
theorem tb_611 : (Cond.selects "MeasuredStagesModel" ⟨"MeasuredStagesModel", "events", "()I"⟩ ⟨"MeasuredStagesModel", "events", "()I"⟩) ∈ TB := tb_at 611 (by decide +kernel) (by decide +kernel)
theorem tb_612 : (Cond.code ⟨"MeasuredStagesModel", "events", "()I"⟩ prog_5_method_24_code 1 (some FieldType.int)) ∈ TB := tb_at 612 (by decide +kernel) (by decide +kernel)
theorem tb_613 : (Cond.methodLink "MeasuredStagesLaw" 112 ⟨"MeasuredStagesModel", "eventRegister", "(I)I"⟩) ∈ TB := tb_at 613 (by decide +kernel) (by decide +kernel)
theorem tb_614 : (Cond.instanceMethod ⟨"MeasuredStagesModel", "eventRegister", "(I)I"⟩) ∈ TB := tb_at 614 (by decide +kernel) (by decide +kernel)
theorem tb_615 : (Cond.selects "MeasuredStagesModel" ⟨"MeasuredStagesModel", "eventRegister", "(I)I"⟩ ⟨"MeasuredStagesModel", "eventRegister", "(I)I"⟩) ∈ TB := tb_at 615 (by decide +kernel) (by decide +kernel)
theorem tb_616 : (Cond.code ⟨"MeasuredStagesModel", "eventRegister", "(I)I"⟩ prog_5_method_26_code 2 (some FieldType.int)) ∈ TB := tb_at 616 (by decide +kernel) (by decide +kernel)
theorem tb_617 : (Cond.methodLink "MeasuredStagesModel" 129 ⟨"MeasuredStagesModel", "event", "(I)Z"⟩) ∈ TB := tb_at 617 (by decide +kernel) (by decide +kernel)
theorem tb_619 : (Cond.instanceMethod ⟨"MeasuredStagesModel", "event", "(I)Z"⟩) ∈ TB := tb_at 619 (by decide +kernel) (by decide +kernel)
theorem tb_620 : (Cond.code ⟨"MeasuredStagesModel", "event", "(I)Z"⟩ prog_5_method_25_code 2 (some FieldType.boolean)) ∈ TB := tb_at 620 (by decide +kernel) (by decide +kernel)
theorem tb_621 : (Cond.methodLink "MeasuredStagesLaw" 115 ⟨"MeasuredStagesModel", "eventValue", "(I)J"⟩) ∈ TB := tb_at 621 (by decide +kernel) (by decide +kernel)
theorem tb_622 : (Cond.instanceMethod ⟨"MeasuredStagesModel", "eventValue", "(I)J"⟩) ∈ TB := tb_at 622 (by decide +kernel) (by decide +kernel)
theorem tb_623 : (Cond.selects "MeasuredStagesModel" ⟨"MeasuredStagesModel", "eventValue", "(I)J"⟩ ⟨"MeasuredStagesModel", "eventValue", "(I)J"⟩) ∈ TB := tb_at 623 (by decide +kernel) (by decide +kernel)
theorem tb_624 : (Cond.code ⟨"MeasuredStagesModel", "eventValue", "(I)J"⟩ prog_5_method_27_code 2 (some FieldType.long)) ∈ TB := tb_at 624 (by decide +kernel) (by decide +kernel)
theorem tb_625 : (Cond.methodLink "MeasuredStagesLaw" 118 ⟨"MeasuredStagesModel", "tamper", "(IJ)V"⟩) ∈ TB := tb_at 625 (by decide +kernel) (by decide +kernel)
theorem tb_626 : (Cond.instanceMethod ⟨"MeasuredStagesModel", "tamper", "(IJ)V"⟩) ∈ TB := tb_at 626 (by decide +kernel) (by decide +kernel)
theorem tb_627 : (Cond.selects "MeasuredStagesModel" ⟨"MeasuredStagesModel", "tamper", "(IJ)V"⟩ ⟨"MeasuredStagesModel", "tamper", "(IJ)V"⟩) ∈ TB := tb_at 627 (by decide +kernel) (by decide +kernel)
theorem tb_628 : (Cond.code ⟨"MeasuredStagesModel", "tamper", "(IJ)V"⟩ prog_5_method_28_code 4 none) ∈ TB := tb_at 628 (by decide +kernel) (by decide +kernel)
theorem tb_629 : (Cond.methodLink "MeasuredStagesLaw" 123 ⟨"MeasuredStagesModel", "replays", "()Z"⟩) ∈ TB := tb_at 629 (by decide +kernel) (by decide +kernel)
theorem tb_630 : (Cond.instanceMethod ⟨"MeasuredStagesModel", "replays", "()Z"⟩) ∈ TB := tb_at 630 (by decide +kernel) (by decide +kernel)
theorem tb_631 : (Cond.selects "MeasuredStagesModel" ⟨"MeasuredStagesModel", "replays", "()Z"⟩ ⟨"MeasuredStagesModel", "replays", "()Z"⟩) ∈ TB := tb_at 631 (by decide +kernel) (by decide +kernel)
theorem tb_632 : (Cond.code ⟨"MeasuredStagesModel", "replays", "()Z"⟩ prog_5_method_29_code 3 (some FieldType.boolean)) ∈ TB := tb_at 632 (by decide +kernel) (by decide +kernel)
theorem tb_633 : (Cond.methodLink "MeasuredStagesLaw" 127 ⟨"MeasuredStagesModel", "seal", "(IJ)I"⟩) ∈ TB := tb_at 633 (by decide +kernel) (by decide +kernel)
theorem tb_634 : (Cond.instanceMethod ⟨"MeasuredStagesModel", "seal", "(IJ)I"⟩) ∈ TB := tb_at 634 (by decide +kernel) (by decide +kernel)
theorem tb_635 : (Cond.selects "MeasuredStagesModel" ⟨"MeasuredStagesModel", "seal", "(IJ)I"⟩ ⟨"MeasuredStagesModel", "seal", "(IJ)I"⟩) ∈ TB := tb_at 635 (by decide +kernel) (by decide +kernel)
theorem tb_636 : (Cond.code ⟨"MeasuredStagesModel", "seal", "(IJ)I"⟩ prog_5_method_30_code 5 (some FieldType.int)) ∈ TB := tb_at 636 (by decide +kernel) (by decide +kernel)
theorem tb_637 : (Cond.methodLink "MeasuredStagesLaw" 130 ⟨"MeasuredStagesModel", "unseal", "(I)J"⟩) ∈ TB := tb_at 637 (by decide +kernel) (by decide +kernel)
theorem tb_638 : (Cond.instanceMethod ⟨"MeasuredStagesModel", "unseal", "(I)J"⟩) ∈ TB := tb_at 638 (by decide +kernel) (by decide +kernel)
theorem tb_639 : (Cond.selects "MeasuredStagesModel" ⟨"MeasuredStagesModel", "unseal", "(I)J"⟩ ⟨"MeasuredStagesModel", "unseal", "(I)J"⟩) ∈ TB := tb_at 639 (by decide +kernel) (by decide +kernel)
theorem tb_640 : (Cond.code ⟨"MeasuredStagesModel", "unseal", "(I)J"⟩ prog_5_method_31_code 3 (some FieldType.long)) ∈ TB := tb_at 640 (by decide +kernel) (by decide +kernel)
theorem tb_641 : (Cond.methodLink "MeasuredStagesLaw" 133 ⟨"MeasuredStagesModel", "discard", "(I)V"⟩) ∈ TB := tb_at 641 (by decide +kernel) (by decide +kernel)
theorem tb_642 : (Cond.instanceMethod ⟨"MeasuredStagesModel", "discard", "(I)V"⟩) ∈ TB := tb_at 642 (by decide +kernel) (by decide +kernel)
theorem tb_643 : (Cond.selects "MeasuredStagesModel" ⟨"MeasuredStagesModel", "discard", "(I)V"⟩ ⟨"MeasuredStagesModel", "discard", "(I)V"⟩) ∈ TB := tb_at 643 (by decide +kernel) (by decide +kernel)
theorem tb_644 : (Cond.code ⟨"MeasuredStagesModel", "discard", "(I)V"⟩ prog_5_method_32_code 2 none) ∈ TB := tb_at 644 (by decide +kernel) (by decide +kernel)
theorem tb_645 : (Cond.methodLink "MeasuredStagesLaw" 137 ⟨"MeasuredStagesModel", "quote", "(JJI)J"⟩) ∈ TB := tb_at 645 (by decide +kernel) (by decide +kernel)
theorem tb_646 : (Cond.instanceMethod ⟨"MeasuredStagesModel", "quote", "(JJI)J"⟩) ∈ TB := tb_at 646 (by decide +kernel) (by decide +kernel)
theorem tb_647 : (Cond.selects "MeasuredStagesModel" ⟨"MeasuredStagesModel", "quote", "(JJI)J"⟩ ⟨"MeasuredStagesModel", "quote", "(JJI)J"⟩) ∈ TB := tb_at 647 (by decide +kernel) (by decide +kernel)
theorem tb_648 : (Cond.code ⟨"MeasuredStagesModel", "quote", "(JJI)J"⟩ prog_5_method_33_code 8 (some FieldType.long)) ∈ TB := tb_at 648 (by decide +kernel) (by decide +kernel)
theorem tb_649 : (Cond.constantLong "MeasuredStagesLaw" 63 (4294967295)) ∈ TB := tb_at 649 (by decide +kernel) (by decide +kernel)
theorem sl_0 : Cond.selects "java/lang/Throwable" ⟨"java/lang/Throwable", "fillInStackTrace", "(I)Ljava/lang/Throwable;"⟩ ⟨"java/lang/Throwable", "fillInStackTrace", "(I)Ljava/lang/Throwable;"⟩ ∈ TB := tb_sl (y := ⟨"java/lang/Throwable", "fillInStackTrace", "(I)Ljava/lang/Throwable;"⟩) (n := 6) (by decide +kernel) (by decide +kernel)
theorem sl_1 : Cond.selects "MeasuredStages" ⟨"MeasuredStages", "digestOf", "(I)J"⟩ ⟨"MeasuredStages", "digestOf", "(I)J"⟩ ∈ TB := tb_sl (y := ⟨"MeasuredStages", "digestOf", "(I)J"⟩) (n := 12) (by decide +kernel) (by decide +kernel)
theorem sl_2 : Cond.selects "MeasuredStages" ⟨"MeasuredStages", "clearForBoot", "()V"⟩ ⟨"MeasuredStages", "clearForBoot", "()V"⟩ ∈ TB := tb_sl (y := ⟨"MeasuredStages", "clearForBoot", "()V"⟩) (n := 12) (by decide +kernel) (by decide +kernel)
theorem sl_3 : Cond.selects "MeasuredStages" ⟨"MeasuredStages", "launchAt", "(II)I"⟩ ⟨"MeasuredStages", "launchAt", "(II)I"⟩ ∈ TB := tb_sl (y := ⟨"MeasuredStages", "launchAt", "(II)I"⟩) (n := 12) (by decide +kernel) (by decide +kernel)
theorem sl_4 : Cond.selects "MeasuredStages" ⟨"MeasuredStages", "extendOrFault", "(IJ)I"⟩ ⟨"MeasuredStages", "extendOrFault", "(IJ)I"⟩ ∈ TB := tb_sl (y := ⟨"MeasuredStages", "extendOrFault", "(IJ)I"⟩) (n := 12) (by decide +kernel) (by decide +kernel)
theorem sl_5 : Cond.selects "MeasuredStages" ⟨"MeasuredStages", "runToTheEnd", "()V"⟩ ⟨"MeasuredStages", "runToTheEnd", "()V"⟩ ∈ TB := tb_sl (y := ⟨"MeasuredStages", "runToTheEnd", "()V"⟩) (n := 12) (by decide +kernel) (by decide +kernel)
theorem sl_6 : Cond.selects "MeasuredStages" ⟨"MeasuredStages", "doInstruction", "()I"⟩ ⟨"MeasuredStages", "doInstruction", "()I"⟩ ∈ TB := tb_sl (y := ⟨"MeasuredStages", "doInstruction", "()I"⟩) (n := 12) (by decide +kernel) (by decide +kernel)
theorem sl_7 : Cond.selects "MeasuredStages" ⟨"MeasuredStages", "takeDigit", "()I"⟩ ⟨"MeasuredStages", "takeDigit", "()I"⟩ ∈ TB := tb_sl (y := ⟨"MeasuredStages", "takeDigit", "()I"⟩) (n := 12) (by decide +kernel) (by decide +kernel)
theorem sl_8 : Cond.selects "MeasuredStages" ⟨"MeasuredStages", "takeImage", "()I"⟩ ⟨"MeasuredStages", "takeImage", "()I"⟩ ∈ TB := tb_sl (y := ⟨"MeasuredStages", "takeImage", "()I"⟩) (n := 12) (by decide +kernel) (by decide +kernel)
theorem sl_9 : Cond.selects "MeasuredStages" ⟨"MeasuredStages", "takeRegister", "()I"⟩ ⟨"MeasuredStages", "takeRegister", "()I"⟩ ∈ TB := tb_sl (y := ⟨"MeasuredStages", "takeRegister", "()I"⟩) (n := 12) (by decide +kernel) (by decide +kernel)
theorem sl_10 : Cond.selects "MeasuredStages" ⟨"MeasuredStages", "isApproved", "(I)Z"⟩ ⟨"MeasuredStages", "isApproved", "(I)Z"⟩ ∈ TB := tb_sl (y := ⟨"MeasuredStages", "isApproved", "(I)Z"⟩) (n := 12) (by decide +kernel) (by decide +kernel)
theorem sl_11 : Cond.selects "MeasuredStages" ⟨"MeasuredStages", "loadSecret", "(I)I"⟩ ⟨"MeasuredStages", "loadSecret", "(I)I"⟩ ∈ TB := tb_sl (y := ⟨"MeasuredStages", "loadSecret", "(I)I"⟩) (n := 12) (by decide +kernel) (by decide +kernel)
theorem sl_12 : Cond.selects "MeasuredStages" ⟨"MeasuredStages", "isOpen", "(I)Z"⟩ ⟨"MeasuredStages", "isOpen", "(I)Z"⟩ ∈ TB := tb_sl (y := ⟨"MeasuredStages", "isOpen", "(I)Z"⟩) (n := 12) (by decide +kernel) (by decide +kernel)
theorem sl_13 : Cond.selects "MeasuredStages" ⟨"MeasuredStages", "passOverIfZero", "(I)V"⟩ ⟨"MeasuredStages", "passOverIfZero", "(I)V"⟩ ∈ TB := tb_sl (y := ⟨"MeasuredStages", "passOverIfZero", "(I)V"⟩) (n := 12) (by decide +kernel) (by decide +kernel)
theorem sl_14 : Cond.selects "MeasuredStages" ⟨"MeasuredStages", "sealAcc", "(I)I"⟩ ⟨"MeasuredStages", "sealAcc", "(I)I"⟩ ∈ TB := tb_sl (y := ⟨"MeasuredStages", "sealAcc", "(I)I"⟩) (n := 12) (by decide +kernel) (by decide +kernel)
theorem sl_15 : Cond.selects "MeasuredStagesModel" ⟨"MeasuredStagesModel", "digest", "(I)J"⟩ ⟨"MeasuredStagesModel", "digest", "(I)J"⟩ ∈ TB := tb_sl (y := ⟨"MeasuredStagesModel", "digest", "(I)J"⟩) (n := 19) (by decide +kernel) (by decide +kernel)
theorem sl_16 : Cond.selects "MeasuredStagesModel" ⟨"MeasuredStagesModel", "launch", "(II)Z"⟩ ⟨"MeasuredStagesModel", "launch", "(II)Z"⟩ ∈ TB := tb_sl (y := ⟨"MeasuredStagesModel", "launch", "(II)Z"⟩) (n := 19) (by decide +kernel) (by decide +kernel)
theorem sl_17 : Cond.selects "MeasuredStagesModel" ⟨"MeasuredStagesModel", "note", "(IJ)Z"⟩ ⟨"MeasuredStagesModel", "note", "(IJ)Z"⟩ ∈ TB := tb_sl (y := ⟨"MeasuredStagesModel", "note", "(IJ)Z"⟩) (n := 19) (by decide +kernel) (by decide +kernel)
theorem sl_18 : Cond.selects "MeasuredStagesModel" ⟨"MeasuredStagesModel", "instruction", "()I"⟩ ⟨"MeasuredStagesModel", "instruction", "()I"⟩ ∈ TB := tb_sl (y := ⟨"MeasuredStagesModel", "instruction", "()I"⟩) (n := 19) (by decide +kernel) (by decide +kernel)
theorem sl_19 : Cond.selects "MeasuredStagesModel" ⟨"MeasuredStagesModel", "digit", "(II)I"⟩ ⟨"MeasuredStagesModel", "digit", "(II)I"⟩ ∈ TB := tb_sl (y := ⟨"MeasuredStagesModel", "digit", "(II)I"⟩) (n := 19) (by decide +kernel) (by decide +kernel)
theorem sl_20 : Cond.selects "MeasuredStagesModel" ⟨"MeasuredStagesModel", "faultOf", "(III)I"⟩ ⟨"MeasuredStagesModel", "faultOf", "(III)I"⟩ ∈ TB := tb_sl (y := ⟨"MeasuredStagesModel", "faultOf", "(III)I"⟩) (n := 19) (by decide +kernel) (by decide +kernel)
theorem sl_21 : Cond.selects "MeasuredStagesModel" ⟨"MeasuredStagesModel", "policy", "(I)J"⟩ ⟨"MeasuredStagesModel", "policy", "(I)J"⟩ ∈ TB := tb_sl (y := ⟨"MeasuredStagesModel", "policy", "(I)J"⟩) (n := 19) (by decide +kernel) (by decide +kernel)
theorem sl_22 : Cond.selects "MeasuredStagesModel" ⟨"MeasuredStagesModel", "freeBlob", "()I"⟩ ⟨"MeasuredStagesModel", "freeBlob", "()I"⟩ ∈ TB := tb_sl (y := ⟨"MeasuredStagesModel", "freeBlob", "()I"⟩) (n := 19) (by decide +kernel) (by decide +kernel)
theorem sl_23 : Cond.selects "MeasuredStagesModel" ⟨"MeasuredStagesModel", "act", "(IIII)V"⟩ ⟨"MeasuredStagesModel", "act", "(IIII)V"⟩ ∈ TB := tb_sl (y := ⟨"MeasuredStagesModel", "act", "(IIII)V"⟩) (n := 19) (by decide +kernel) (by decide +kernel)
theorem sl_24 : Cond.selects "MeasuredStagesModel" ⟨"MeasuredStagesModel", "fill", "(IIJ)V"⟩ ⟨"MeasuredStagesModel", "fill", "(IIJ)V"⟩ ∈ TB := tb_sl (y := ⟨"MeasuredStagesModel", "fill", "(IIJ)V"⟩) (n := 19) (by decide +kernel) (by decide +kernel)
theorem sl_25 : Cond.selects "MeasuredStagesModel" ⟨"MeasuredStagesModel", "event", "(I)Z"⟩ ⟨"MeasuredStagesModel", "event", "(I)Z"⟩ ∈ TB := tb_sl (y := ⟨"MeasuredStagesModel", "event", "(I)Z"⟩) (n := 19) (by decide +kernel) (by decide +kernel)
end
section
/-! names: a method's code and name -/
abbrev b_ms_init : ByteArray := prog_1_method_1_code
def y_ms_init : MethodName := ⟨"MeasuredStages", "<init>", "()V"⟩
theorem hd_ms_init : y_ms_init.cls ≠ "java/lang/invoke/MethodHandle" ∧ y_ms_init.cls ≠ "java/lang/invoke/VarHandle" ∧ (parseMethodDescriptor y_ms_init.desc).map (fun d => d.parameters.length) = some 0 := by decide +kernel
abbrev b_ms_image : ByteArray := prog_1_method_2_code
def y_ms_image : MethodName := ⟨"MeasuredStages", "image", "(IJ)V"⟩
theorem hd_ms_image : y_ms_image.cls ≠ "java/lang/invoke/MethodHandle" ∧ y_ms_image.cls ≠ "java/lang/invoke/VarHandle" ∧ (parseMethodDescriptor y_ms_image.desc).map (fun d => d.parameters.length) = some 2 := by decide +kernel
abbrev b_ms_approve : ByteArray := prog_1_method_3_code
def y_ms_approve : MethodName := ⟨"MeasuredStages", "approve", "(I)V"⟩
theorem hd_ms_approve : y_ms_approve.cls ≠ "java/lang/invoke/MethodHandle" ∧ y_ms_approve.cls ≠ "java/lang/invoke/VarHandle" ∧ (parseMethodDescriptor y_ms_approve.desc).map (fun d => d.parameters.length) = some 1 := by decide +kernel
abbrev b_ms_boot : ByteArray := prog_1_method_4_code
def y_ms_boot : MethodName := ⟨"MeasuredStages", "boot", "(I)I"⟩
theorem hd_ms_boot : y_ms_boot.cls ≠ "java/lang/invoke/MethodHandle" ∧ y_ms_boot.cls ≠ "java/lang/invoke/VarHandle" ∧ (parseMethodDescriptor y_ms_boot.desc).map (fun d => d.parameters.length) = some 1 := by decide +kernel
abbrev b_ms_fault : ByteArray := prog_1_method_5_code
def y_ms_fault : MethodName := ⟨"MeasuredStages", "fault", "()I"⟩
theorem hd_ms_fault : y_ms_fault.cls ≠ "java/lang/invoke/MethodHandle" ∧ y_ms_fault.cls ≠ "java/lang/invoke/VarHandle" ∧ (parseMethodDescriptor y_ms_fault.desc).map (fun d => d.parameters.length) = some 0 := by decide +kernel
abbrev b_ms_launched : ByteArray := prog_1_method_6_code
def y_ms_launched : MethodName := ⟨"MeasuredStages", "launched", "()I"⟩
theorem hd_ms_launched : y_ms_launched.cls ≠ "java/lang/invoke/MethodHandle" ∧ y_ms_launched.cls ≠ "java/lang/invoke/VarHandle" ∧ (parseMethodDescriptor y_ms_launched.desc).map (fun d => d.parameters.length) = some 0 := by decide +kernel
abbrev b_ms_steps : ByteArray := prog_1_method_7_code
def y_ms_steps : MethodName := ⟨"MeasuredStages", "steps", "()I"⟩
theorem hd_ms_steps : y_ms_steps.cls ≠ "java/lang/invoke/MethodHandle" ∧ y_ms_steps.cls ≠ "java/lang/invoke/VarHandle" ∧ (parseMethodDescriptor y_ms_steps.desc).map (fun d => d.parameters.length) = some 0 := by decide +kernel
abbrev b_ms_acc : ByteArray := prog_1_method_8_code
def y_ms_acc : MethodName := ⟨"MeasuredStages", "acc", "()J"⟩
theorem hd_ms_acc : y_ms_acc.cls ≠ "java/lang/invoke/MethodHandle" ∧ y_ms_acc.cls ≠ "java/lang/invoke/VarHandle" ∧ (parseMethodDescriptor y_ms_acc.desc).map (fun d => d.parameters.length) = some 0 := by decide +kernel
abbrev b_ms_register : ByteArray := prog_1_method_9_code
def y_ms_register : MethodName := ⟨"MeasuredStages", "register", "(I)J"⟩
theorem hd_ms_register : y_ms_register.cls ≠ "java/lang/invoke/MethodHandle" ∧ y_ms_register.cls ≠ "java/lang/invoke/VarHandle" ∧ (parseMethodDescriptor y_ms_register.desc).map (fun d => d.parameters.length) = some 1 := by decide +kernel
abbrev b_ms_extend : ByteArray := prog_1_method_10_code
def y_ms_extend : MethodName := ⟨"MeasuredStages", "extend", "(IJ)V"⟩
theorem hd_ms_extend : y_ms_extend.cls ≠ "java/lang/invoke/MethodHandle" ∧ y_ms_extend.cls ≠ "java/lang/invoke/VarHandle" ∧ (parseMethodDescriptor y_ms_extend.desc).map (fun d => d.parameters.length) = some 2 := by decide +kernel
abbrev b_ms_events : ByteArray := prog_1_method_11_code
def y_ms_events : MethodName := ⟨"MeasuredStages", "events", "()I"⟩
theorem hd_ms_events : y_ms_events.cls ≠ "java/lang/invoke/MethodHandle" ∧ y_ms_events.cls ≠ "java/lang/invoke/VarHandle" ∧ (parseMethodDescriptor y_ms_events.desc).map (fun d => d.parameters.length) = some 0 := by decide +kernel
abbrev b_ms_eventRegister : ByteArray := prog_1_method_12_code
def y_ms_eventRegister : MethodName := ⟨"MeasuredStages", "eventRegister", "(I)I"⟩
theorem hd_ms_eventRegister : y_ms_eventRegister.cls ≠ "java/lang/invoke/MethodHandle" ∧ y_ms_eventRegister.cls ≠ "java/lang/invoke/VarHandle" ∧ (parseMethodDescriptor y_ms_eventRegister.desc).map (fun d => d.parameters.length) = some 1 := by decide +kernel
abbrev b_ms_eventValue : ByteArray := prog_1_method_13_code
def y_ms_eventValue : MethodName := ⟨"MeasuredStages", "eventValue", "(I)J"⟩
theorem hd_ms_eventValue : y_ms_eventValue.cls ≠ "java/lang/invoke/MethodHandle" ∧ y_ms_eventValue.cls ≠ "java/lang/invoke/VarHandle" ∧ (parseMethodDescriptor y_ms_eventValue.desc).map (fun d => d.parameters.length) = some 1 := by decide +kernel
abbrev b_ms_tamper : ByteArray := prog_1_method_14_code
def y_ms_tamper : MethodName := ⟨"MeasuredStages", "tamper", "(IJ)V"⟩
theorem hd_ms_tamper : y_ms_tamper.cls ≠ "java/lang/invoke/MethodHandle" ∧ y_ms_tamper.cls ≠ "java/lang/invoke/VarHandle" ∧ (parseMethodDescriptor y_ms_tamper.desc).map (fun d => d.parameters.length) = some 2 := by decide +kernel
abbrev b_ms_replays : ByteArray := prog_1_method_15_code
def y_ms_replays : MethodName := ⟨"MeasuredStages", "replays", "()Z"⟩
theorem hd_ms_replays : y_ms_replays.cls ≠ "java/lang/invoke/MethodHandle" ∧ y_ms_replays.cls ≠ "java/lang/invoke/VarHandle" ∧ (parseMethodDescriptor y_ms_replays.desc).map (fun d => d.parameters.length) = some 0 := by decide +kernel
abbrev b_ms_seal : ByteArray := prog_1_method_16_code
def y_ms_seal : MethodName := ⟨"MeasuredStages", "seal", "(IJ)I"⟩
theorem hd_ms_seal : y_ms_seal.cls ≠ "java/lang/invoke/MethodHandle" ∧ y_ms_seal.cls ≠ "java/lang/invoke/VarHandle" ∧ (parseMethodDescriptor y_ms_seal.desc).map (fun d => d.parameters.length) = some 2 := by decide +kernel
abbrev b_ms_unseal : ByteArray := prog_1_method_17_code
def y_ms_unseal : MethodName := ⟨"MeasuredStages", "unseal", "(I)J"⟩
theorem hd_ms_unseal : y_ms_unseal.cls ≠ "java/lang/invoke/MethodHandle" ∧ y_ms_unseal.cls ≠ "java/lang/invoke/VarHandle" ∧ (parseMethodDescriptor y_ms_unseal.desc).map (fun d => d.parameters.length) = some 1 := by decide +kernel
abbrev b_ms_discard : ByteArray := prog_1_method_18_code
def y_ms_discard : MethodName := ⟨"MeasuredStages", "discard", "(I)V"⟩
theorem hd_ms_discard : y_ms_discard.cls ≠ "java/lang/invoke/MethodHandle" ∧ y_ms_discard.cls ≠ "java/lang/invoke/VarHandle" ∧ (parseMethodDescriptor y_ms_discard.desc).map (fun d => d.parameters.length) = some 1 := by decide +kernel
abbrev b_ms_quote : ByteArray := prog_1_method_19_code
def y_ms_quote : MethodName := ⟨"MeasuredStages", "quote", "(JJI)J"⟩
theorem hd_ms_quote : y_ms_quote.cls ≠ "java/lang/invoke/MethodHandle" ∧ y_ms_quote.cls ≠ "java/lang/invoke/VarHandle" ∧ (parseMethodDescriptor y_ms_quote.desc).map (fun d => d.parameters.length) = some 3 := by decide +kernel
abbrev b_ms_hash : ByteArray := prog_1_method_20_code
def y_ms_hash : MethodName := ⟨"MeasuredStages", "hash", "(JJ)J"⟩
theorem hd_ms_hash : y_ms_hash.cls ≠ "java/lang/invoke/MethodHandle" ∧ y_ms_hash.cls ≠ "java/lang/invoke/VarHandle" ∧ (parseMethodDescriptor y_ms_hash.desc).map (fun d => d.parameters.length) = some 2 := by decide +kernel
abbrev b_ms_isImage : ByteArray := prog_1_method_21_code
def y_ms_isImage : MethodName := ⟨"MeasuredStages", "isImage", "(I)Z"⟩
theorem hd_ms_isImage : y_ms_isImage.cls ≠ "java/lang/invoke/MethodHandle" ∧ y_ms_isImage.cls ≠ "java/lang/invoke/VarHandle" ∧ (parseMethodDescriptor y_ms_isImage.desc).map (fun d => d.parameters.length) = some 1 := by decide +kernel
abbrev b_ms_isMask : ByteArray := prog_1_method_22_code
def y_ms_isMask : MethodName := ⟨"MeasuredStages", "isMask", "(I)Z"⟩
theorem hd_ms_isMask : y_ms_isMask.cls ≠ "java/lang/invoke/MethodHandle" ∧ y_ms_isMask.cls ≠ "java/lang/invoke/VarHandle" ∧ (parseMethodDescriptor y_ms_isMask.desc).map (fun d => d.parameters.length) = some 1 := by decide +kernel
abbrev b_ms_digestOf : ByteArray := prog_1_method_23_code
def y_ms_digestOf : MethodName := ⟨"MeasuredStages", "digestOf", "(I)J"⟩
theorem hd_ms_digestOf : y_ms_digestOf.cls ≠ "java/lang/invoke/MethodHandle" ∧ y_ms_digestOf.cls ≠ "java/lang/invoke/VarHandle" ∧ (parseMethodDescriptor y_ms_digestOf.desc).map (fun d => d.parameters.length) = some 1 := by decide +kernel
abbrev b_ms_isOpen : ByteArray := prog_1_method_24_code
def y_ms_isOpen : MethodName := ⟨"MeasuredStages", "isOpen", "(I)Z"⟩
theorem hd_ms_isOpen : y_ms_isOpen.cls ≠ "java/lang/invoke/MethodHandle" ∧ y_ms_isOpen.cls ≠ "java/lang/invoke/VarHandle" ∧ (parseMethodDescriptor y_ms_isOpen.desc).map (fun d => d.parameters.length) = some 1 := by decide +kernel
abbrev b_ms_clearForBoot : ByteArray := prog_1_method_25_code
def y_ms_clearForBoot : MethodName := ⟨"MeasuredStages", "clearForBoot", "()V"⟩
theorem hd_ms_clearForBoot : y_ms_clearForBoot.cls ≠ "java/lang/invoke/MethodHandle" ∧ y_ms_clearForBoot.cls ≠ "java/lang/invoke/VarHandle" ∧ (parseMethodDescriptor y_ms_clearForBoot.desc).map (fun d => d.parameters.length) = some 0 := by decide +kernel
abbrev b_ms_runToTheEnd : ByteArray := prog_1_method_26_code
def y_ms_runToTheEnd : MethodName := ⟨"MeasuredStages", "runToTheEnd", "()V"⟩
theorem hd_ms_runToTheEnd : y_ms_runToTheEnd.cls ≠ "java/lang/invoke/MethodHandle" ∧ y_ms_runToTheEnd.cls ≠ "java/lang/invoke/VarHandle" ∧ (parseMethodDescriptor y_ms_runToTheEnd.desc).map (fun d => d.parameters.length) = some 0 := by decide +kernel
abbrev b_ms_doInstruction : ByteArray := prog_1_method_27_code
def y_ms_doInstruction : MethodName := ⟨"MeasuredStages", "doInstruction", "()I"⟩
theorem hd_ms_doInstruction : y_ms_doInstruction.cls ≠ "java/lang/invoke/MethodHandle" ∧ y_ms_doInstruction.cls ≠ "java/lang/invoke/VarHandle" ∧ (parseMethodDescriptor y_ms_doInstruction.desc).map (fun d => d.parameters.length) = some 0 := by decide +kernel
abbrev b_ms_takeDigit : ByteArray := prog_1_method_28_code
def y_ms_takeDigit : MethodName := ⟨"MeasuredStages", "takeDigit", "()I"⟩
theorem hd_ms_takeDigit : y_ms_takeDigit.cls ≠ "java/lang/invoke/MethodHandle" ∧ y_ms_takeDigit.cls ≠ "java/lang/invoke/VarHandle" ∧ (parseMethodDescriptor y_ms_takeDigit.desc).map (fun d => d.parameters.length) = some 0 := by decide +kernel
abbrev b_ms_takeImage : ByteArray := prog_1_method_29_code
def y_ms_takeImage : MethodName := ⟨"MeasuredStages", "takeImage", "()I"⟩
theorem hd_ms_takeImage : y_ms_takeImage.cls ≠ "java/lang/invoke/MethodHandle" ∧ y_ms_takeImage.cls ≠ "java/lang/invoke/VarHandle" ∧ (parseMethodDescriptor y_ms_takeImage.desc).map (fun d => d.parameters.length) = some 0 := by decide +kernel
abbrev b_ms_takeRegister : ByteArray := prog_1_method_30_code
def y_ms_takeRegister : MethodName := ⟨"MeasuredStages", "takeRegister", "()I"⟩
theorem hd_ms_takeRegister : y_ms_takeRegister.cls ≠ "java/lang/invoke/MethodHandle" ∧ y_ms_takeRegister.cls ≠ "java/lang/invoke/VarHandle" ∧ (parseMethodDescriptor y_ms_takeRegister.desc).map (fun d => d.parameters.length) = some 0 := by decide +kernel
abbrev b_ms_launchAt : ByteArray := prog_1_method_31_code
def y_ms_launchAt : MethodName := ⟨"MeasuredStages", "launchAt", "(II)I"⟩
theorem hd_ms_launchAt : y_ms_launchAt.cls ≠ "java/lang/invoke/MethodHandle" ∧ y_ms_launchAt.cls ≠ "java/lang/invoke/VarHandle" ∧ (parseMethodDescriptor y_ms_launchAt.desc).map (fun d => d.parameters.length) = some 2 := by decide +kernel
abbrev b_ms_extendOrFault : ByteArray := prog_1_method_32_code
def y_ms_extendOrFault : MethodName := ⟨"MeasuredStages", "extendOrFault", "(IJ)I"⟩
theorem hd_ms_extendOrFault : y_ms_extendOrFault.cls ≠ "java/lang/invoke/MethodHandle" ∧ y_ms_extendOrFault.cls ≠ "java/lang/invoke/VarHandle" ∧ (parseMethodDescriptor y_ms_extendOrFault.desc).map (fun d => d.parameters.length) = some 2 := by decide +kernel
abbrev b_ms_isApproved : ByteArray := prog_1_method_33_code
def y_ms_isApproved : MethodName := ⟨"MeasuredStages", "isApproved", "(I)Z"⟩
theorem hd_ms_isApproved : y_ms_isApproved.cls ≠ "java/lang/invoke/MethodHandle" ∧ y_ms_isApproved.cls ≠ "java/lang/invoke/VarHandle" ∧ (parseMethodDescriptor y_ms_isApproved.desc).map (fun d => d.parameters.length) = some 1 := by decide +kernel
abbrev b_ms_loadSecret : ByteArray := prog_1_method_34_code
def y_ms_loadSecret : MethodName := ⟨"MeasuredStages", "loadSecret", "(I)I"⟩
theorem hd_ms_loadSecret : y_ms_loadSecret.cls ≠ "java/lang/invoke/MethodHandle" ∧ y_ms_loadSecret.cls ≠ "java/lang/invoke/VarHandle" ∧ (parseMethodDescriptor y_ms_loadSecret.desc).map (fun d => d.parameters.length) = some 1 := by decide +kernel
abbrev b_ms_passOverIfZero : ByteArray := prog_1_method_35_code
def y_ms_passOverIfZero : MethodName := ⟨"MeasuredStages", "passOverIfZero", "(I)V"⟩
theorem hd_ms_passOverIfZero : y_ms_passOverIfZero.cls ≠ "java/lang/invoke/MethodHandle" ∧ y_ms_passOverIfZero.cls ≠ "java/lang/invoke/VarHandle" ∧ (parseMethodDescriptor y_ms_passOverIfZero.desc).map (fun d => d.parameters.length) = some 1 := by decide +kernel
abbrev b_ms_sealAcc : ByteArray := prog_1_method_36_code
def y_ms_sealAcc : MethodName := ⟨"MeasuredStages", "sealAcc", "(I)I"⟩
theorem hd_ms_sealAcc : y_ms_sealAcc.cls ≠ "java/lang/invoke/MethodHandle" ∧ y_ms_sealAcc.cls ≠ "java/lang/invoke/VarHandle" ∧ (parseMethodDescriptor y_ms_sealAcc.desc).map (fun d => d.parameters.length) = some 1 := by decide +kernel
abbrev b_md_init : ByteArray := prog_5_method_1_code
def y_md_init : MethodName := ⟨"MeasuredStagesModel", "<init>", "()V"⟩
theorem hd_md_init : y_md_init.cls ≠ "java/lang/invoke/MethodHandle" ∧ y_md_init.cls ≠ "java/lang/invoke/VarHandle" ∧ (parseMethodDescriptor y_md_init.desc).map (fun d => d.parameters.length) = some 0 := by decide +kernel
abbrev b_md_thrown : ByteArray := prog_5_method_2_code
def y_md_thrown : MethodName := ⟨"MeasuredStagesModel", "thrown", "()I"⟩
theorem hd_md_thrown : y_md_thrown.cls ≠ "java/lang/invoke/MethodHandle" ∧ y_md_thrown.cls ≠ "java/lang/invoke/VarHandle" ∧ (parseMethodDescriptor y_md_thrown.desc).map (fun d => d.parameters.length) = some 0 := by decide +kernel
abbrev b_md_h : ByteArray := prog_5_method_3_code
def y_md_h : MethodName := ⟨"MeasuredStagesModel", "h", "(JJ)J"⟩
theorem hd_md_h : y_md_h.cls ≠ "java/lang/invoke/MethodHandle" ∧ y_md_h.cls ≠ "java/lang/invoke/VarHandle" ∧ (parseMethodDescriptor y_md_h.desc).map (fun d => d.parameters.length) = some 2 := by decide +kernel
abbrev b_md_digit : ByteArray := prog_5_method_4_code
def y_md_digit : MethodName := ⟨"MeasuredStagesModel", "digit", "(II)I"⟩
theorem hd_md_digit : y_md_digit.cls ≠ "java/lang/invoke/MethodHandle" ∧ y_md_digit.cls ≠ "java/lang/invoke/VarHandle" ∧ (parseMethodDescriptor y_md_digit.desc).map (fun d => d.parameters.length) = some 2 := by decide +kernel
abbrev b_md_digest : ByteArray := prog_5_method_5_code
def y_md_digest : MethodName := ⟨"MeasuredStagesModel", "digest", "(I)J"⟩
theorem hd_md_digest : y_md_digest.cls ≠ "java/lang/invoke/MethodHandle" ∧ y_md_digest.cls ≠ "java/lang/invoke/VarHandle" ∧ (parseMethodDescriptor y_md_digest.desc).map (fun d => d.parameters.length) = some 1 := by decide +kernel
abbrev b_md_policy : ByteArray := prog_5_method_6_code
def y_md_policy : MethodName := ⟨"MeasuredStagesModel", "policy", "(I)J"⟩
theorem hd_md_policy : y_md_policy.cls ≠ "java/lang/invoke/MethodHandle" ∧ y_md_policy.cls ≠ "java/lang/invoke/VarHandle" ∧ (parseMethodDescriptor y_md_policy.desc).map (fun d => d.parameters.length) = some 1 := by decide +kernel
abbrev b_md_note : ByteArray := prog_5_method_7_code
def y_md_note : MethodName := ⟨"MeasuredStagesModel", "note", "(IJ)Z"⟩
theorem hd_md_note : y_md_note.cls ≠ "java/lang/invoke/MethodHandle" ∧ y_md_note.cls ≠ "java/lang/invoke/VarHandle" ∧ (parseMethodDescriptor y_md_note.desc).map (fun d => d.parameters.length) = some 2 := by decide +kernel
abbrev b_md_freeBlob : ByteArray := prog_5_method_8_code
def y_md_freeBlob : MethodName := ⟨"MeasuredStagesModel", "freeBlob", "()I"⟩
theorem hd_md_freeBlob : y_md_freeBlob.cls ≠ "java/lang/invoke/MethodHandle" ∧ y_md_freeBlob.cls ≠ "java/lang/invoke/VarHandle" ∧ (parseMethodDescriptor y_md_freeBlob.desc).map (fun d => d.parameters.length) = some 0 := by decide +kernel
abbrev b_md_fill : ByteArray := prog_5_method_9_code
def y_md_fill : MethodName := ⟨"MeasuredStagesModel", "fill", "(IIJ)V"⟩
theorem hd_md_fill : y_md_fill.cls ≠ "java/lang/invoke/MethodHandle" ∧ y_md_fill.cls ≠ "java/lang/invoke/VarHandle" ∧ (parseMethodDescriptor y_md_fill.desc).map (fun d => d.parameters.length) = some 3 := by decide +kernel
abbrev b_md_image : ByteArray := prog_5_method_10_code
def y_md_image : MethodName := ⟨"MeasuredStagesModel", "image", "(IJ)V"⟩
theorem hd_md_image : y_md_image.cls ≠ "java/lang/invoke/MethodHandle" ∧ y_md_image.cls ≠ "java/lang/invoke/VarHandle" ∧ (parseMethodDescriptor y_md_image.desc).map (fun d => d.parameters.length) = some 2 := by decide +kernel
abbrev b_md_approve : ByteArray := prog_5_method_11_code
def y_md_approve : MethodName := ⟨"MeasuredStagesModel", "approve", "(I)V"⟩
theorem hd_md_approve : y_md_approve.cls ≠ "java/lang/invoke/MethodHandle" ∧ y_md_approve.cls ≠ "java/lang/invoke/VarHandle" ∧ (parseMethodDescriptor y_md_approve.desc).map (fun d => d.parameters.length) = some 1 := by decide +kernel
abbrev b_md_launch : ByteArray := prog_5_method_12_code
def y_md_launch : MethodName := ⟨"MeasuredStagesModel", "launch", "(II)Z"⟩
theorem hd_md_launch : y_md_launch.cls ≠ "java/lang/invoke/MethodHandle" ∧ y_md_launch.cls ≠ "java/lang/invoke/VarHandle" ∧ (parseMethodDescriptor y_md_launch.desc).map (fun d => d.parameters.length) = some 2 := by decide +kernel
abbrev b_md_boot : ByteArray := prog_5_method_13_code
def y_md_boot : MethodName := ⟨"MeasuredStagesModel", "boot", "(I)I"⟩
theorem hd_md_boot : y_md_boot.cls ≠ "java/lang/invoke/MethodHandle" ∧ y_md_boot.cls ≠ "java/lang/invoke/VarHandle" ∧ (parseMethodDescriptor y_md_boot.desc).map (fun d => d.parameters.length) = some 1 := by decide +kernel
abbrev b_md_operands : ByteArray := prog_5_method_14_code
def y_md_operands : MethodName := ⟨"MeasuredStagesModel", "operands", "(I)I"⟩
theorem hd_md_operands : y_md_operands.cls ≠ "java/lang/invoke/MethodHandle" ∧ y_md_operands.cls ≠ "java/lang/invoke/VarHandle" ∧ (parseMethodDescriptor y_md_operands.desc).map (fun d => d.parameters.length) = some 1 := by decide +kernel
abbrev b_md_instruction : ByteArray := prog_5_method_15_code
def y_md_instruction : MethodName := ⟨"MeasuredStagesModel", "instruction", "()I"⟩
theorem hd_md_instruction : y_md_instruction.cls ≠ "java/lang/invoke/MethodHandle" ∧ y_md_instruction.cls ≠ "java/lang/invoke/VarHandle" ∧ (parseMethodDescriptor y_md_instruction.desc).map (fun d => d.parameters.length) = some 0 := by decide +kernel
abbrev b_md_faultOf : ByteArray := prog_5_method_16_code
def y_md_faultOf : MethodName := ⟨"MeasuredStagesModel", "faultOf", "(III)I"⟩
theorem hd_md_faultOf : y_md_faultOf.cls ≠ "java/lang/invoke/MethodHandle" ∧ y_md_faultOf.cls ≠ "java/lang/invoke/VarHandle" ∧ (parseMethodDescriptor y_md_faultOf.desc).map (fun d => d.parameters.length) = some 3 := by decide +kernel
abbrev b_md_act : ByteArray := prog_5_method_17_code
def y_md_act : MethodName := ⟨"MeasuredStagesModel", "act", "(IIII)V"⟩
theorem hd_md_act : y_md_act.cls ≠ "java/lang/invoke/MethodHandle" ∧ y_md_act.cls ≠ "java/lang/invoke/VarHandle" ∧ (parseMethodDescriptor y_md_act.desc).map (fun d => d.parameters.length) = some 4 := by decide +kernel
abbrev b_md_fault : ByteArray := prog_5_method_18_code
def y_md_fault : MethodName := ⟨"MeasuredStagesModel", "fault", "()I"⟩
theorem hd_md_fault : y_md_fault.cls ≠ "java/lang/invoke/MethodHandle" ∧ y_md_fault.cls ≠ "java/lang/invoke/VarHandle" ∧ (parseMethodDescriptor y_md_fault.desc).map (fun d => d.parameters.length) = some 0 := by decide +kernel
abbrev b_md_launched : ByteArray := prog_5_method_19_code
def y_md_launched : MethodName := ⟨"MeasuredStagesModel", "launched", "()I"⟩
theorem hd_md_launched : y_md_launched.cls ≠ "java/lang/invoke/MethodHandle" ∧ y_md_launched.cls ≠ "java/lang/invoke/VarHandle" ∧ (parseMethodDescriptor y_md_launched.desc).map (fun d => d.parameters.length) = some 0 := by decide +kernel
abbrev b_md_steps : ByteArray := prog_5_method_20_code
def y_md_steps : MethodName := ⟨"MeasuredStagesModel", "steps", "()I"⟩
theorem hd_md_steps : y_md_steps.cls ≠ "java/lang/invoke/MethodHandle" ∧ y_md_steps.cls ≠ "java/lang/invoke/VarHandle" ∧ (parseMethodDescriptor y_md_steps.desc).map (fun d => d.parameters.length) = some 0 := by decide +kernel
abbrev b_md_acc : ByteArray := prog_5_method_21_code
def y_md_acc : MethodName := ⟨"MeasuredStagesModel", "acc", "()J"⟩
theorem hd_md_acc : y_md_acc.cls ≠ "java/lang/invoke/MethodHandle" ∧ y_md_acc.cls ≠ "java/lang/invoke/VarHandle" ∧ (parseMethodDescriptor y_md_acc.desc).map (fun d => d.parameters.length) = some 0 := by decide +kernel
abbrev b_md_register : ByteArray := prog_5_method_22_code
def y_md_register : MethodName := ⟨"MeasuredStagesModel", "register", "(I)J"⟩
theorem hd_md_register : y_md_register.cls ≠ "java/lang/invoke/MethodHandle" ∧ y_md_register.cls ≠ "java/lang/invoke/VarHandle" ∧ (parseMethodDescriptor y_md_register.desc).map (fun d => d.parameters.length) = some 1 := by decide +kernel
abbrev b_md_extend : ByteArray := prog_5_method_23_code
def y_md_extend : MethodName := ⟨"MeasuredStagesModel", "extend", "(IJ)V"⟩
theorem hd_md_extend : y_md_extend.cls ≠ "java/lang/invoke/MethodHandle" ∧ y_md_extend.cls ≠ "java/lang/invoke/VarHandle" ∧ (parseMethodDescriptor y_md_extend.desc).map (fun d => d.parameters.length) = some 2 := by decide +kernel
abbrev b_md_events : ByteArray := prog_5_method_24_code
def y_md_events : MethodName := ⟨"MeasuredStagesModel", "events", "()I"⟩
theorem hd_md_events : y_md_events.cls ≠ "java/lang/invoke/MethodHandle" ∧ y_md_events.cls ≠ "java/lang/invoke/VarHandle" ∧ (parseMethodDescriptor y_md_events.desc).map (fun d => d.parameters.length) = some 0 := by decide +kernel
abbrev b_md_event : ByteArray := prog_5_method_25_code
def y_md_event : MethodName := ⟨"MeasuredStagesModel", "event", "(I)Z"⟩
theorem hd_md_event : y_md_event.cls ≠ "java/lang/invoke/MethodHandle" ∧ y_md_event.cls ≠ "java/lang/invoke/VarHandle" ∧ (parseMethodDescriptor y_md_event.desc).map (fun d => d.parameters.length) = some 1 := by decide +kernel
abbrev b_md_eventRegister : ByteArray := prog_5_method_26_code
def y_md_eventRegister : MethodName := ⟨"MeasuredStagesModel", "eventRegister", "(I)I"⟩
theorem hd_md_eventRegister : y_md_eventRegister.cls ≠ "java/lang/invoke/MethodHandle" ∧ y_md_eventRegister.cls ≠ "java/lang/invoke/VarHandle" ∧ (parseMethodDescriptor y_md_eventRegister.desc).map (fun d => d.parameters.length) = some 1 := by decide +kernel
abbrev b_md_eventValue : ByteArray := prog_5_method_27_code
def y_md_eventValue : MethodName := ⟨"MeasuredStagesModel", "eventValue", "(I)J"⟩
theorem hd_md_eventValue : y_md_eventValue.cls ≠ "java/lang/invoke/MethodHandle" ∧ y_md_eventValue.cls ≠ "java/lang/invoke/VarHandle" ∧ (parseMethodDescriptor y_md_eventValue.desc).map (fun d => d.parameters.length) = some 1 := by decide +kernel
abbrev b_md_tamper : ByteArray := prog_5_method_28_code
def y_md_tamper : MethodName := ⟨"MeasuredStagesModel", "tamper", "(IJ)V"⟩
theorem hd_md_tamper : y_md_tamper.cls ≠ "java/lang/invoke/MethodHandle" ∧ y_md_tamper.cls ≠ "java/lang/invoke/VarHandle" ∧ (parseMethodDescriptor y_md_tamper.desc).map (fun d => d.parameters.length) = some 2 := by decide +kernel
abbrev b_md_replays : ByteArray := prog_5_method_29_code
def y_md_replays : MethodName := ⟨"MeasuredStagesModel", "replays", "()Z"⟩
theorem hd_md_replays : y_md_replays.cls ≠ "java/lang/invoke/MethodHandle" ∧ y_md_replays.cls ≠ "java/lang/invoke/VarHandle" ∧ (parseMethodDescriptor y_md_replays.desc).map (fun d => d.parameters.length) = some 0 := by decide +kernel
abbrev b_md_seal : ByteArray := prog_5_method_30_code
def y_md_seal : MethodName := ⟨"MeasuredStagesModel", "seal", "(IJ)I"⟩
theorem hd_md_seal : y_md_seal.cls ≠ "java/lang/invoke/MethodHandle" ∧ y_md_seal.cls ≠ "java/lang/invoke/VarHandle" ∧ (parseMethodDescriptor y_md_seal.desc).map (fun d => d.parameters.length) = some 2 := by decide +kernel
abbrev b_md_unseal : ByteArray := prog_5_method_31_code
def y_md_unseal : MethodName := ⟨"MeasuredStagesModel", "unseal", "(I)J"⟩
theorem hd_md_unseal : y_md_unseal.cls ≠ "java/lang/invoke/MethodHandle" ∧ y_md_unseal.cls ≠ "java/lang/invoke/VarHandle" ∧ (parseMethodDescriptor y_md_unseal.desc).map (fun d => d.parameters.length) = some 1 := by decide +kernel
abbrev b_md_discard : ByteArray := prog_5_method_32_code
def y_md_discard : MethodName := ⟨"MeasuredStagesModel", "discard", "(I)V"⟩
theorem hd_md_discard : y_md_discard.cls ≠ "java/lang/invoke/MethodHandle" ∧ y_md_discard.cls ≠ "java/lang/invoke/VarHandle" ∧ (parseMethodDescriptor y_md_discard.desc).map (fun d => d.parameters.length) = some 1 := by decide +kernel
abbrev b_md_quote : ByteArray := prog_5_method_33_code
def y_md_quote : MethodName := ⟨"MeasuredStagesModel", "quote", "(JJI)J"⟩
theorem hd_md_quote : y_md_quote.cls ≠ "java/lang/invoke/MethodHandle" ∧ y_md_quote.cls ≠ "java/lang/invoke/VarHandle" ∧ (parseMethodDescriptor y_md_quote.desc).map (fun d => d.parameters.length) = some 3 := by decide +kernel
abbrev b_bl_init : ByteArray := prog_2_method_1_code
def y_bl_init : MethodName := ⟨"MeasuredStages$Blobs", "<init>", "()V"⟩
theorem hd_bl_init : y_bl_init.cls ≠ "java/lang/invoke/MethodHandle" ∧ y_bl_init.cls ≠ "java/lang/invoke/VarHandle" ∧ (parseMethodDescriptor y_bl_init.desc).map (fun d => d.parameters.length) = some 0 := by decide +kernel
abbrev b_bl_isTaken : ByteArray := prog_2_method_2_code
def y_bl_isTaken : MethodName := ⟨"MeasuredStages$Blobs", "isTaken", "(I)Z"⟩
theorem hd_bl_isTaken : y_bl_isTaken.cls ≠ "java/lang/invoke/MethodHandle" ∧ y_bl_isTaken.cls ≠ "java/lang/invoke/VarHandle" ∧ (parseMethodDescriptor y_bl_isTaken.desc).map (fun d => d.parameters.length) = some 1 := by decide +kernel
abbrev b_bl_leastFree : ByteArray := prog_2_method_3_code
def y_bl_leastFree : MethodName := ⟨"MeasuredStages$Blobs", "leastFree", "()I"⟩
theorem hd_bl_leastFree : y_bl_leastFree.cls ≠ "java/lang/invoke/MethodHandle" ∧ y_bl_leastFree.cls ≠ "java/lang/invoke/VarHandle" ∧ (parseMethodDescriptor y_bl_leastFree.desc).map (fun d => d.parameters.length) = some 0 := by decide +kernel
abbrev b_bl_fill : ByteArray := prog_2_method_4_code
def y_bl_fill : MethodName := ⟨"MeasuredStages$Blobs", "fill", "(IIJJ)V"⟩
theorem hd_bl_fill : y_bl_fill.cls ≠ "java/lang/invoke/MethodHandle" ∧ y_bl_fill.cls ≠ "java/lang/invoke/VarHandle" ∧ (parseMethodDescriptor y_bl_fill.desc).map (fun d => d.parameters.length) = some 4 := by decide +kernel
abbrev b_bl_free : ByteArray := prog_2_method_5_code
def y_bl_free : MethodName := ⟨"MeasuredStages$Blobs", "free", "(I)V"⟩
theorem hd_bl_free : y_bl_free.cls ≠ "java/lang/invoke/MethodHandle" ∧ y_bl_free.cls ≠ "java/lang/invoke/VarHandle" ∧ (parseMethodDescriptor y_bl_free.desc).map (fun d => d.parameters.length) = some 1 := by decide +kernel
abbrev b_rg_init : ByteArray := prog_3_method_1_code
def y_rg_init : MethodName := ⟨"MeasuredStages$Registers", "<init>", "()V"⟩
theorem hd_rg_init : y_rg_init.cls ≠ "java/lang/invoke/MethodHandle" ∧ y_rg_init.cls ≠ "java/lang/invoke/VarHandle" ∧ (parseMethodDescriptor y_rg_init.desc).map (fun d => d.parameters.length) = some 0 := by decide +kernel
abbrev b_rg_isRegister : ByteArray := prog_3_method_2_code
def y_rg_isRegister : MethodName := ⟨"MeasuredStages$Registers", "isRegister", "(I)Z"⟩
theorem hd_rg_isRegister : y_rg_isRegister.cls ≠ "java/lang/invoke/MethodHandle" ∧ y_rg_isRegister.cls ≠ "java/lang/invoke/VarHandle" ∧ (parseMethodDescriptor y_rg_isRegister.desc).map (fun d => d.parameters.length) = some 1 := by decide +kernel
abbrev b_rg_hasEvent : ByteArray := prog_3_method_3_code
def y_rg_hasEvent : MethodName := ⟨"MeasuredStages$Registers", "hasEvent", "(I)Z"⟩
theorem hd_rg_hasEvent : y_rg_hasEvent.cls ≠ "java/lang/invoke/MethodHandle" ∧ y_rg_hasEvent.cls ≠ "java/lang/invoke/VarHandle" ∧ (parseMethodDescriptor y_rg_hasEvent.desc).map (fun d => d.parameters.length) = some 1 := by decide +kernel
abbrev b_rg_clear : ByteArray := prog_3_method_4_code
def y_rg_clear : MethodName := ⟨"MeasuredStages$Registers", "clear", "()V"⟩
theorem hd_rg_clear : y_rg_clear.cls ≠ "java/lang/invoke/MethodHandle" ∧ y_rg_clear.cls ≠ "java/lang/invoke/VarHandle" ∧ (parseMethodDescriptor y_rg_clear.desc).map (fun d => d.parameters.length) = some 0 := by decide +kernel
abbrev b_rg_measure : ByteArray := prog_3_method_5_code
def y_rg_measure : MethodName := ⟨"MeasuredStages$Registers", "measure", "(IJ)Z"⟩
theorem hd_rg_measure : y_rg_measure.cls ≠ "java/lang/invoke/MethodHandle" ∧ y_rg_measure.cls ≠ "java/lang/invoke/VarHandle" ∧ (parseMethodDescriptor y_rg_measure.desc).map (fun d => d.parameters.length) = some 2 := by decide +kernel
abbrev b_rg_agreeWithLog : ByteArray := prog_3_method_6_code
def y_rg_agreeWithLog : MethodName := ⟨"MeasuredStages$Registers", "agreeWithLog", "()Z"⟩
theorem hd_rg_agreeWithLog : y_rg_agreeWithLog.cls ≠ "java/lang/invoke/MethodHandle" ∧ y_rg_agreeWithLog.cls ≠ "java/lang/invoke/VarHandle" ∧ (parseMethodDescriptor y_rg_agreeWithLog.desc).map (fun d => d.parameters.length) = some 0 := by decide +kernel
abbrev b_rg_policyOf : ByteArray := prog_3_method_7_code
def y_rg_policyOf : MethodName := ⟨"MeasuredStages$Registers", "policyOf", "(I)J"⟩
theorem hd_rg_policyOf : y_rg_policyOf.cls ≠ "java/lang/invoke/MethodHandle" ∧ y_rg_policyOf.cls ≠ "java/lang/invoke/VarHandle" ∧ (parseMethodDescriptor y_rg_policyOf.desc).map (fun d => d.parameters.length) = some 1 := by decide +kernel
abbrev b_lw_image : ByteArray := method_3_code
def y_lw_image : MethodName := ⟨"MeasuredStagesLaw", "image", "(LMeasuredStages;IJ)I"⟩
theorem hd_lw_image : y_lw_image.cls ≠ "java/lang/invoke/MethodHandle" ∧ y_lw_image.cls ≠ "java/lang/invoke/VarHandle" ∧ (parseMethodDescriptor y_lw_image.desc).map (fun d => d.parameters.length) = some 3 := by decide +kernel
abbrev b_lw_approve : ByteArray := method_4_code
def y_lw_approve : MethodName := ⟨"MeasuredStagesLaw", "approve", "(LMeasuredStages;I)I"⟩
theorem hd_lw_approve : y_lw_approve.cls ≠ "java/lang/invoke/MethodHandle" ∧ y_lw_approve.cls ≠ "java/lang/invoke/VarHandle" ∧ (parseMethodDescriptor y_lw_approve.desc).map (fun d => d.parameters.length) = some 2 := by decide +kernel
abbrev b_lw_boot : ByteArray := method_5_code
def y_lw_boot : MethodName := ⟨"MeasuredStagesLaw", "boot", "(LMeasuredStages;I[J)I"⟩
theorem hd_lw_boot : y_lw_boot.cls ≠ "java/lang/invoke/MethodHandle" ∧ y_lw_boot.cls ≠ "java/lang/invoke/VarHandle" ∧ (parseMethodDescriptor y_lw_boot.desc).map (fun d => d.parameters.length) = some 3 := by decide +kernel
abbrev b_lw_register : ByteArray := method_6_code
def y_lw_register : MethodName := ⟨"MeasuredStagesLaw", "register", "(LMeasuredStages;I[J)I"⟩
theorem hd_lw_register : y_lw_register.cls ≠ "java/lang/invoke/MethodHandle" ∧ y_lw_register.cls ≠ "java/lang/invoke/VarHandle" ∧ (parseMethodDescriptor y_lw_register.desc).map (fun d => d.parameters.length) = some 3 := by decide +kernel
abbrev b_lw_extend : ByteArray := method_7_code
def y_lw_extend : MethodName := ⟨"MeasuredStagesLaw", "extend", "(LMeasuredStages;IJ)I"⟩
theorem hd_lw_extend : y_lw_extend.cls ≠ "java/lang/invoke/MethodHandle" ∧ y_lw_extend.cls ≠ "java/lang/invoke/VarHandle" ∧ (parseMethodDescriptor y_lw_extend.desc).map (fun d => d.parameters.length) = some 3 := by decide +kernel
abbrev b_lw_eventRegister : ByteArray := method_8_code
def y_lw_eventRegister : MethodName := ⟨"MeasuredStagesLaw", "eventRegister", "(LMeasuredStages;I[J)I"⟩
theorem hd_lw_eventRegister : y_lw_eventRegister.cls ≠ "java/lang/invoke/MethodHandle" ∧ y_lw_eventRegister.cls ≠ "java/lang/invoke/VarHandle" ∧ (parseMethodDescriptor y_lw_eventRegister.desc).map (fun d => d.parameters.length) = some 3 := by decide +kernel
abbrev b_lw_eventValue : ByteArray := method_9_code
def y_lw_eventValue : MethodName := ⟨"MeasuredStagesLaw", "eventValue", "(LMeasuredStages;I[J)I"⟩
theorem hd_lw_eventValue : y_lw_eventValue.cls ≠ "java/lang/invoke/MethodHandle" ∧ y_lw_eventValue.cls ≠ "java/lang/invoke/VarHandle" ∧ (parseMethodDescriptor y_lw_eventValue.desc).map (fun d => d.parameters.length) = some 3 := by decide +kernel
abbrev b_lw_tamper : ByteArray := method_10_code
def y_lw_tamper : MethodName := ⟨"MeasuredStagesLaw", "tamper", "(LMeasuredStages;IJ)I"⟩
theorem hd_lw_tamper : y_lw_tamper.cls ≠ "java/lang/invoke/MethodHandle" ∧ y_lw_tamper.cls ≠ "java/lang/invoke/VarHandle" ∧ (parseMethodDescriptor y_lw_tamper.desc).map (fun d => d.parameters.length) = some 3 := by decide +kernel
abbrev b_lw_seal : ByteArray := method_11_code
def y_lw_seal : MethodName := ⟨"MeasuredStagesLaw", "seal", "(LMeasuredStages;IJ[J)I"⟩
theorem hd_lw_seal : y_lw_seal.cls ≠ "java/lang/invoke/MethodHandle" ∧ y_lw_seal.cls ≠ "java/lang/invoke/VarHandle" ∧ (parseMethodDescriptor y_lw_seal.desc).map (fun d => d.parameters.length) = some 4 := by decide +kernel
abbrev b_lw_unseal : ByteArray := method_12_code
def y_lw_unseal : MethodName := ⟨"MeasuredStagesLaw", "unseal", "(LMeasuredStages;I[J)I"⟩
theorem hd_lw_unseal : y_lw_unseal.cls ≠ "java/lang/invoke/MethodHandle" ∧ y_lw_unseal.cls ≠ "java/lang/invoke/VarHandle" ∧ (parseMethodDescriptor y_lw_unseal.desc).map (fun d => d.parameters.length) = some 3 := by decide +kernel
abbrev b_lw_discard : ByteArray := method_13_code
def y_lw_discard : MethodName := ⟨"MeasuredStagesLaw", "discard", "(LMeasuredStages;I)I"⟩
theorem hd_lw_discard : y_lw_discard.cls ≠ "java/lang/invoke/MethodHandle" ∧ y_lw_discard.cls ≠ "java/lang/invoke/VarHandle" ∧ (parseMethodDescriptor y_lw_discard.desc).map (fun d => d.parameters.length) = some 2 := by decide +kernel
abbrev b_lw_quote : ByteArray := method_14_code
def y_lw_quote : MethodName := ⟨"MeasuredStagesLaw", "quote", "(LMeasuredStages;JJI[J)I"⟩
theorem hd_lw_quote : y_lw_quote.cls ≠ "java/lang/invoke/MethodHandle" ∧ y_lw_quote.cls ≠ "java/lang/invoke/VarHandle" ∧ (parseMethodDescriptor y_lw_quote.desc).map (fun d => d.parameters.length) = some 5 := by decide +kernel
abbrev b_ja_fill : ByteArray := prog_13_method_101_code
def y_ja_fill : MethodName := ⟨"java/util/Arrays", "fill", "([JJ)V"⟩
theorem hd_ja_fill : y_ja_fill.cls ≠ "java/lang/invoke/MethodHandle" ∧ y_ja_fill.cls ≠ "java/lang/invoke/VarHandle" ∧ (parseMethodDescriptor y_ja_fill.desc).map (fun d => d.parameters.length) = some 2 := by decide +kernel
abbrev b_lw_law : ByteArray := code
def F_ms : u_T := fun k => match k with
  | 0 => ("MeasuredStages", "images", "[J", true)
  | 1 => ("MeasuredStages", "approved", "[Z", true)
  | 2 => ("MeasuredStages", "approvedDigests", "[J", true)
  | 3 => ("MeasuredStages", "registers", "LMeasuredStages$Registers;", true)
  | 4 => ("MeasuredStages", "blobs", "LMeasuredStages$Blobs;", true)
  | 5 => ("MeasuredStages", "running", "[J", true)
  | 6 => ("MeasuredStages", "nextDigits", "[I", true)
  | 7 => ("MeasuredStages", "depth", "I", false)
  | 8 => ("MeasuredStages", "acc", "J", false)
  | 9 => ("MeasuredStages", "fault", "I", false)
  | 10 => ("MeasuredStages", "launched", "I", false)
  | _ => ("MeasuredStages", "steps", "I", false)
def t_ms : Nat → FieldType := fun k => match k with
  | 0 => .array .long
  | 1 => .array .boolean
  | 2 => .array .long
  | 3 => .object "MeasuredStages$Registers"
  | 4 => .object "MeasuredStages$Blobs"
  | 5 => .array .long
  | 6 => .array .int
  | 7 => .int
  | 8 => .long
  | 9 => .int
  | 10 => .int
  | _ => .int
theorem n_ms : ∀ a, a < 12 → ∀ b, b < 12 → a ≠ b → (F_ms a).2.1 ≠ (F_ms b).2.1 := by decide +kernel
theorem o_ms : ∀ k, k < 12 → parseFieldDescriptor (F_ms k).2.2.1 = some (t_ms k) := by decide +kernel
theorem i_ms : ∀ w ∈ u_ws "MeasuredStages" F_ms 12, w ∈ TB := by
  show ∀ w ∈ ([.laysFinal "MeasuredStages" "MeasuredStages" "images" "[J", .laysFinal "MeasuredStages" "MeasuredStages" "approved" "[Z", .laysFinal "MeasuredStages" "MeasuredStages" "approvedDigests" "[J", .laysFinal "MeasuredStages" "MeasuredStages" "registers" "LMeasuredStages$Registers;", .laysFinal "MeasuredStages" "MeasuredStages" "blobs" "LMeasuredStages$Blobs;", .laysFinal "MeasuredStages" "MeasuredStages" "running" "[J", .laysFinal "MeasuredStages" "MeasuredStages" "nextDigits" "[I", .lays "MeasuredStages" "MeasuredStages" "depth" "I", .lays "MeasuredStages" "MeasuredStages" "acc" "J", .lays "MeasuredStages" "MeasuredStages" "fault" "I", .lays "MeasuredStages" "MeasuredStages" "launched" "I", .lays "MeasuredStages" "MeasuredStages" "steps" "I"] : List Cond), w ∈ TB
  exact List.forall_mem_cons.mpr ⟨tb_81, List.forall_mem_cons.mpr ⟨tb_83, List.forall_mem_cons.mpr ⟨tb_85, List.forall_mem_cons.mpr ⟨tb_87, List.forall_mem_cons.mpr ⟨tb_89, List.forall_mem_cons.mpr ⟨tb_91, List.forall_mem_cons.mpr ⟨tb_93, List.forall_mem_cons.mpr ⟨tb_95, List.forall_mem_cons.mpr ⟨tb_97, List.forall_mem_cons.mpr ⟨tb_99, List.forall_mem_cons.mpr ⟨tb_101, List.forall_mem_cons.mpr ⟨tb_103, fun _ h => absurd h List.not_mem_nil⟩⟩⟩⟩⟩⟩⟩⟩⟩⟩⟩⟩
def F_rg : u_T := fun k => match k with
  | 0 => ("MeasuredStages$Registers", "held", "[J", true)
  | 1 => ("MeasuredStages$Registers", "eventRegisters", "[I", true)
  | 2 => ("MeasuredStages$Registers", "eventValues", "[J", true)
  | 3 => ("MeasuredStages$Registers", "eventCount", "I", false)
  | _ => ("MeasuredStages$Registers", "replayed", "[J", true)
def t_rg : Nat → FieldType := fun k => match k with
  | 0 => .array .long
  | 1 => .array .int
  | 2 => .array .long
  | 3 => .int
  | _ => .array .long
theorem n_rg : ∀ a, a < 5 → ∀ b, b < 5 → a ≠ b → (F_rg a).2.1 ≠ (F_rg b).2.1 := by decide +kernel
theorem o_rg : ∀ k, k < 5 → parseFieldDescriptor (F_rg k).2.2.1 = some (t_rg k) := by decide +kernel
theorem i_rg : ∀ w ∈ u_ws "MeasuredStages$Registers" F_rg 5, w ∈ TB := by
  show ∀ w ∈ ([.laysFinal "MeasuredStages$Registers" "MeasuredStages$Registers" "held" "[J", .laysFinal "MeasuredStages$Registers" "MeasuredStages$Registers" "eventRegisters" "[I", .laysFinal "MeasuredStages$Registers" "MeasuredStages$Registers" "eventValues" "[J", .lays "MeasuredStages$Registers" "MeasuredStages$Registers" "eventCount" "I", .laysFinal "MeasuredStages$Registers" "MeasuredStages$Registers" "replayed" "[J"] : List Cond), w ∈ TB
  exact List.forall_mem_cons.mpr ⟨tb_36, List.forall_mem_cons.mpr ⟨tb_38, List.forall_mem_cons.mpr ⟨tb_40, List.forall_mem_cons.mpr ⟨tb_42, List.forall_mem_cons.mpr ⟨tb_44, fun _ h => absurd h List.not_mem_nil⟩⟩⟩⟩⟩
def F_bl : u_T := fun k => match k with
  | 0 => ("MeasuredStages$Blobs", "masks", "[I", true)
  | 1 => ("MeasuredStages$Blobs", "policies", "[J", true)
  | _ => ("MeasuredStages$Blobs", "secrets", "[J", true)
def t_bl : Nat → FieldType := fun k => match k with
  | 0 => .array .int
  | 1 => .array .long
  | _ => .array .long
theorem n_bl : ∀ a, a < 3 → ∀ b, b < 3 → a ≠ b → (F_bl a).2.1 ≠ (F_bl b).2.1 := by decide +kernel
theorem o_bl : ∀ k, k < 3 → parseFieldDescriptor (F_bl k).2.2.1 = some (t_bl k) := by decide +kernel
theorem i_bl : ∀ w ∈ u_ws "MeasuredStages$Blobs" F_bl 3, w ∈ TB := by
  show ∀ w ∈ ([.laysFinal "MeasuredStages$Blobs" "MeasuredStages$Blobs" "masks" "[I", .laysFinal "MeasuredStages$Blobs" "MeasuredStages$Blobs" "policies" "[J", .laysFinal "MeasuredStages$Blobs" "MeasuredStages$Blobs" "secrets" "[J"] : List Cond), w ∈ TB
  exact List.forall_mem_cons.mpr ⟨tb_62, List.forall_mem_cons.mpr ⟨tb_64, List.forall_mem_cons.mpr ⟨tb_66, fun _ h => absurd h List.not_mem_nil⟩⟩⟩
def F_md : u_T := fun k => match k with
  | 0 => ("MeasuredStagesModel", "registers", "[J", true)
  | 1 => ("MeasuredStagesModel", "images", "[J", true)
  | 2 => ("MeasuredStagesModel", "hasApproved", "[Z", true)
  | 3 => ("MeasuredStagesModel", "approved", "[J", true)
  | 4 => ("MeasuredStagesModel", "masks", "[I", true)
  | 5 => ("MeasuredStagesModel", "policies", "[J", true)
  | 6 => ("MeasuredStagesModel", "secrets", "[J", true)
  | 7 => ("MeasuredStagesModel", "events", "I", false)
  | 8 => ("MeasuredStagesModel", "eventRegisters", "[I", true)
  | 9 => ("MeasuredStagesModel", "eventValues", "[J", true)
  | 10 => ("MeasuredStagesModel", "again", "[J", true)
  | 11 => ("MeasuredStagesModel", "acc", "J", false)
  | 12 => ("MeasuredStagesModel", "launched", "I", false)
  | 13 => ("MeasuredStagesModel", "steps", "I", false)
  | 14 => ("MeasuredStagesModel", "fault", "I", false)
  | 15 => ("MeasuredStagesModel", "depth", "I", false)
  | 16 => ("MeasuredStagesModel", "runs", "[I", true)
  | 17 => ("MeasuredStagesModel", "next", "[I", true)
  | _ => ("MeasuredStagesModel", "thrown", "I", false)
def t_md : Nat → FieldType := fun k => match k with
  | 0 => .array .long
  | 1 => .array .long
  | 2 => .array .boolean
  | 3 => .array .long
  | 4 => .array .int
  | 5 => .array .long
  | 6 => .array .long
  | 7 => .int
  | 8 => .array .int
  | 9 => .array .long
  | 10 => .array .long
  | 11 => .long
  | 12 => .int
  | 13 => .int
  | 14 => .int
  | 15 => .int
  | 16 => .array .int
  | 17 => .array .int
  | _ => .int
theorem n_md : ∀ a, a < 19 → ∀ b, b < 19 → a ≠ b → (F_md a).2.1 ≠ (F_md b).2.1 := by decide +kernel
theorem o_md : ∀ k, k < 19 → parseFieldDescriptor (F_md k).2.2.1 = some (t_md k) := by decide +kernel
theorem i_md : ∀ w ∈ u_ws "MeasuredStagesModel" F_md 19, w ∈ TB := by
  show ∀ w ∈ ([.laysFinal "MeasuredStagesModel" "MeasuredStagesModel" "registers" "[J", .laysFinal "MeasuredStagesModel" "MeasuredStagesModel" "images" "[J", .laysFinal "MeasuredStagesModel" "MeasuredStagesModel" "hasApproved" "[Z", .laysFinal "MeasuredStagesModel" "MeasuredStagesModel" "approved" "[J", .laysFinal "MeasuredStagesModel" "MeasuredStagesModel" "masks" "[I", .laysFinal "MeasuredStagesModel" "MeasuredStagesModel" "policies" "[J", .laysFinal "MeasuredStagesModel" "MeasuredStagesModel" "secrets" "[J", .lays "MeasuredStagesModel" "MeasuredStagesModel" "events" "I", .laysFinal "MeasuredStagesModel" "MeasuredStagesModel" "eventRegisters" "[I", .laysFinal "MeasuredStagesModel" "MeasuredStagesModel" "eventValues" "[J", .laysFinal "MeasuredStagesModel" "MeasuredStagesModel" "again" "[J", .lays "MeasuredStagesModel" "MeasuredStagesModel" "acc" "J", .lays "MeasuredStagesModel" "MeasuredStagesModel" "launched" "I", .lays "MeasuredStagesModel" "MeasuredStagesModel" "steps" "I", .lays "MeasuredStagesModel" "MeasuredStagesModel" "fault" "I", .lays "MeasuredStagesModel" "MeasuredStagesModel" "depth" "I", .laysFinal "MeasuredStagesModel" "MeasuredStagesModel" "runs" "[I", .laysFinal "MeasuredStagesModel" "MeasuredStagesModel" "next" "[I", .lays "MeasuredStagesModel" "MeasuredStagesModel" "thrown" "I"] : List Cond), w ∈ TB
  exact List.forall_mem_cons.mpr ⟨tb_478, List.forall_mem_cons.mpr ⟨tb_480, List.forall_mem_cons.mpr ⟨tb_482, List.forall_mem_cons.mpr ⟨tb_484, List.forall_mem_cons.mpr ⟨tb_486, List.forall_mem_cons.mpr ⟨tb_488, List.forall_mem_cons.mpr ⟨tb_490, List.forall_mem_cons.mpr ⟨tb_492, List.forall_mem_cons.mpr ⟨tb_494, List.forall_mem_cons.mpr ⟨tb_496, List.forall_mem_cons.mpr ⟨tb_498, List.forall_mem_cons.mpr ⟨tb_500, List.forall_mem_cons.mpr ⟨tb_502, List.forall_mem_cons.mpr ⟨tb_504, List.forall_mem_cons.mpr ⟨tb_506, List.forall_mem_cons.mpr ⟨tb_508, List.forall_mem_cons.mpr ⟨tb_510, List.forall_mem_cons.mpr ⟨tb_512, List.forall_mem_cons.mpr ⟨tb_514, fun _ h => absurd h List.not_mem_nil⟩⟩⟩⟩⟩⟩⟩⟩⟩⟩⟩⟩⟩⟩⟩⟩⟩⟩⟩
end
section
/-! the machine of the document, as numbers: im images, ap approved, ag approved digests, he registers, er ev en the log, ma po se the blobs, ac acc, fa fault, la launched, st steps -/
abbrev Sg : Type := (Nat → Int64) × (Nat → Int32) × (Nat → Int64) × (Nat → Int64) × (Nat → Int32) × (Nat → Int64) × Int32 × (Nat → Int32) × (Nat → Int64) × (Nat → Int64) × Int64 × Int32 × Int32 × Int32
def sg_im (u : Sg) : Nat → Int64 := u.1
def sg_ap (u : Sg) : Nat → Int32 := u.2.1
def sg_ag (u : Sg) : Nat → Int64 := u.2.2.1
def sg_he (u : Sg) : Nat → Int64 := u.2.2.2.1
def sg_er (u : Sg) : Nat → Int32 := u.2.2.2.2.1
def sg_ev (u : Sg) : Nat → Int64 := u.2.2.2.2.2.1
def sg_en (u : Sg) : Int32 := u.2.2.2.2.2.2.1
def sg_ma (u : Sg) : Nat → Int32 := u.2.2.2.2.2.2.2.1
def sg_po (u : Sg) : Nat → Int64 := u.2.2.2.2.2.2.2.2.1
def sg_se (u : Sg) : Nat → Int64 := u.2.2.2.2.2.2.2.2.2.1
def sg_ac (u : Sg) : Int64 := u.2.2.2.2.2.2.2.2.2.2.1
def sg_fa (u : Sg) : Int32 := u.2.2.2.2.2.2.2.2.2.2.2.1
def sg_la (u : Sg) : Int32 := u.2.2.2.2.2.2.2.2.2.2.2.2.1
def sg_st (u : Sg) : Int32 := u.2.2.2.2.2.2.2.2.2.2.2.2.2
def ss_im (u : Sg) (x : Nat → Int64) : Sg := (x, u.2.1, u.2.2.1, u.2.2.2.1, u.2.2.2.2.1, u.2.2.2.2.2.1, u.2.2.2.2.2.2.1, u.2.2.2.2.2.2.2.1, u.2.2.2.2.2.2.2.2.1, u.2.2.2.2.2.2.2.2.2.1, u.2.2.2.2.2.2.2.2.2.2.1, u.2.2.2.2.2.2.2.2.2.2.2.1, u.2.2.2.2.2.2.2.2.2.2.2.2.1, u.2.2.2.2.2.2.2.2.2.2.2.2.2)
def ss_ap (u : Sg) (x : Nat → Int32) : Sg := (u.1, x, u.2.2.1, u.2.2.2.1, u.2.2.2.2.1, u.2.2.2.2.2.1, u.2.2.2.2.2.2.1, u.2.2.2.2.2.2.2.1, u.2.2.2.2.2.2.2.2.1, u.2.2.2.2.2.2.2.2.2.1, u.2.2.2.2.2.2.2.2.2.2.1, u.2.2.2.2.2.2.2.2.2.2.2.1, u.2.2.2.2.2.2.2.2.2.2.2.2.1, u.2.2.2.2.2.2.2.2.2.2.2.2.2)
def ss_ag (u : Sg) (x : Nat → Int64) : Sg := (u.1, u.2.1, x, u.2.2.2.1, u.2.2.2.2.1, u.2.2.2.2.2.1, u.2.2.2.2.2.2.1, u.2.2.2.2.2.2.2.1, u.2.2.2.2.2.2.2.2.1, u.2.2.2.2.2.2.2.2.2.1, u.2.2.2.2.2.2.2.2.2.2.1, u.2.2.2.2.2.2.2.2.2.2.2.1, u.2.2.2.2.2.2.2.2.2.2.2.2.1, u.2.2.2.2.2.2.2.2.2.2.2.2.2)
def ss_he (u : Sg) (x : Nat → Int64) : Sg := (u.1, u.2.1, u.2.2.1, x, u.2.2.2.2.1, u.2.2.2.2.2.1, u.2.2.2.2.2.2.1, u.2.2.2.2.2.2.2.1, u.2.2.2.2.2.2.2.2.1, u.2.2.2.2.2.2.2.2.2.1, u.2.2.2.2.2.2.2.2.2.2.1, u.2.2.2.2.2.2.2.2.2.2.2.1, u.2.2.2.2.2.2.2.2.2.2.2.2.1, u.2.2.2.2.2.2.2.2.2.2.2.2.2)
def ss_er (u : Sg) (x : Nat → Int32) : Sg := (u.1, u.2.1, u.2.2.1, u.2.2.2.1, x, u.2.2.2.2.2.1, u.2.2.2.2.2.2.1, u.2.2.2.2.2.2.2.1, u.2.2.2.2.2.2.2.2.1, u.2.2.2.2.2.2.2.2.2.1, u.2.2.2.2.2.2.2.2.2.2.1, u.2.2.2.2.2.2.2.2.2.2.2.1, u.2.2.2.2.2.2.2.2.2.2.2.2.1, u.2.2.2.2.2.2.2.2.2.2.2.2.2)
def ss_ev (u : Sg) (x : Nat → Int64) : Sg := (u.1, u.2.1, u.2.2.1, u.2.2.2.1, u.2.2.2.2.1, x, u.2.2.2.2.2.2.1, u.2.2.2.2.2.2.2.1, u.2.2.2.2.2.2.2.2.1, u.2.2.2.2.2.2.2.2.2.1, u.2.2.2.2.2.2.2.2.2.2.1, u.2.2.2.2.2.2.2.2.2.2.2.1, u.2.2.2.2.2.2.2.2.2.2.2.2.1, u.2.2.2.2.2.2.2.2.2.2.2.2.2)
def ss_en (u : Sg) (x : Int32) : Sg := (u.1, u.2.1, u.2.2.1, u.2.2.2.1, u.2.2.2.2.1, u.2.2.2.2.2.1, x, u.2.2.2.2.2.2.2.1, u.2.2.2.2.2.2.2.2.1, u.2.2.2.2.2.2.2.2.2.1, u.2.2.2.2.2.2.2.2.2.2.1, u.2.2.2.2.2.2.2.2.2.2.2.1, u.2.2.2.2.2.2.2.2.2.2.2.2.1, u.2.2.2.2.2.2.2.2.2.2.2.2.2)
def ss_ma (u : Sg) (x : Nat → Int32) : Sg := (u.1, u.2.1, u.2.2.1, u.2.2.2.1, u.2.2.2.2.1, u.2.2.2.2.2.1, u.2.2.2.2.2.2.1, x, u.2.2.2.2.2.2.2.2.1, u.2.2.2.2.2.2.2.2.2.1, u.2.2.2.2.2.2.2.2.2.2.1, u.2.2.2.2.2.2.2.2.2.2.2.1, u.2.2.2.2.2.2.2.2.2.2.2.2.1, u.2.2.2.2.2.2.2.2.2.2.2.2.2)
def ss_po (u : Sg) (x : Nat → Int64) : Sg := (u.1, u.2.1, u.2.2.1, u.2.2.2.1, u.2.2.2.2.1, u.2.2.2.2.2.1, u.2.2.2.2.2.2.1, u.2.2.2.2.2.2.2.1, x, u.2.2.2.2.2.2.2.2.2.1, u.2.2.2.2.2.2.2.2.2.2.1, u.2.2.2.2.2.2.2.2.2.2.2.1, u.2.2.2.2.2.2.2.2.2.2.2.2.1, u.2.2.2.2.2.2.2.2.2.2.2.2.2)
def ss_se (u : Sg) (x : Nat → Int64) : Sg := (u.1, u.2.1, u.2.2.1, u.2.2.2.1, u.2.2.2.2.1, u.2.2.2.2.2.1, u.2.2.2.2.2.2.1, u.2.2.2.2.2.2.2.1, u.2.2.2.2.2.2.2.2.1, x, u.2.2.2.2.2.2.2.2.2.2.1, u.2.2.2.2.2.2.2.2.2.2.2.1, u.2.2.2.2.2.2.2.2.2.2.2.2.1, u.2.2.2.2.2.2.2.2.2.2.2.2.2)
def ss_ac (u : Sg) (x : Int64) : Sg := (u.1, u.2.1, u.2.2.1, u.2.2.2.1, u.2.2.2.2.1, u.2.2.2.2.2.1, u.2.2.2.2.2.2.1, u.2.2.2.2.2.2.2.1, u.2.2.2.2.2.2.2.2.1, u.2.2.2.2.2.2.2.2.2.1, x, u.2.2.2.2.2.2.2.2.2.2.2.1, u.2.2.2.2.2.2.2.2.2.2.2.2.1, u.2.2.2.2.2.2.2.2.2.2.2.2.2)
def ss_fa (u : Sg) (x : Int32) : Sg := (u.1, u.2.1, u.2.2.1, u.2.2.2.1, u.2.2.2.2.1, u.2.2.2.2.2.1, u.2.2.2.2.2.2.1, u.2.2.2.2.2.2.2.1, u.2.2.2.2.2.2.2.2.1, u.2.2.2.2.2.2.2.2.2.1, u.2.2.2.2.2.2.2.2.2.2.1, x, u.2.2.2.2.2.2.2.2.2.2.2.2.1, u.2.2.2.2.2.2.2.2.2.2.2.2.2)
def ss_la (u : Sg) (x : Int32) : Sg := (u.1, u.2.1, u.2.2.1, u.2.2.2.1, u.2.2.2.2.1, u.2.2.2.2.2.1, u.2.2.2.2.2.2.1, u.2.2.2.2.2.2.2.1, u.2.2.2.2.2.2.2.2.1, u.2.2.2.2.2.2.2.2.2.1, u.2.2.2.2.2.2.2.2.2.2.1, u.2.2.2.2.2.2.2.2.2.2.2.1, x, u.2.2.2.2.2.2.2.2.2.2.2.2.2)
def ss_st (u : Sg) (x : Int32) : Sg := (u.1, u.2.1, u.2.2.1, u.2.2.2.1, u.2.2.2.2.1, u.2.2.2.2.2.1, u.2.2.2.2.2.2.1, u.2.2.2.2.2.2.2.1, u.2.2.2.2.2.2.2.2.1, u.2.2.2.2.2.2.2.2.2.1, u.2.2.2.2.2.2.2.2.2.2.1, u.2.2.2.2.2.2.2.2.2.2.2.1, u.2.2.2.2.2.2.2.2.2.2.2.2.1, x)
/-- x >>> k of a long by an int -/
def sp_sh (x : Int64) (k : Int32) : Int64 := (x.toUInt64 >>> (k.toInt64.toUInt64 &&& Int64.toUInt64 63)).toInt64
/-- H -/
def sp_h (a b : Int64) : Int64 := (fun x : Int64 => (fun y : Int64 => y ^^^ sp_sh y 29) ((x ^^^ sp_sh x 32) * 2862933555777941757)) ((a ^^^ 1442695040888963407) * 6364136223846793005 + b)
/-- the digit i of a code -/
def sp_dg (c : Int64) (i : Int32) : Int32 := if i < 16 then (sp_sh c (4 * i)).toInt32 &&& 15 else 0
/-- the rest of a division, as irem has it -/
def sp_rm (x y : Int32) : Int32 := x - x / y * y
/-- the digest of image n -/
def sp_di (u : Sg) (n : Int32) : Int64 := sp_h 5 (sg_im u n.toNatClampNeg)
/-- the policy of a mask over the registers 0 .. r-1 -/
def sp_pl (he : Nat → Int64) (mask : Int32) : Nat → Int64
  | 0 => sp_h 9 mask.toInt64
  | r + 1 => if (mask >>> (nI r &&& 31)) &&& 1 = 1 then sp_h (sp_pl he mask r) (he r) else sp_pl he mask r
def sp_po (u : Sg) (mask : Int32) : Int64 := sp_pl (sg_he u) mask 6
/-- register r is extended by v, and it's noted -/
def sp_no (u : Sg) (r : Int32) (v : Int64) : Sg :=
  ss_en (ss_ev (ss_er (ss_he u (vp_updL (sg_he u) r.toNatClampNeg (sp_h (sg_he u r.toNatClampNeg) v))) (upd (sg_er u) (sg_en u).toNatClampNeg r)) (vp_updL (sg_ev u) (sg_en u).toNatClampNeg v)) (sg_en u + 1)
/-- the least free blob, or -1 -/
def sp_lf (ma : Nat → Int32) : Int32 :=
  if ma 0 = 0 then 0 else if ma 1 = 0 then 1 else if ma 2 = 0 then 2 else if ma 3 = 0 then 3 else if ma 4 = 0 then 4 else if ma 5 = 0 then 5 else if ma 6 = 0 then 6 else if ma 7 = 0 then 7 else -1
/-- blob k is filled -/
def sp_fi (u : Sg) (k mask : Int32) (secret : Int64) : Sg :=
  ss_se (ss_po (ss_ma u (upd (sg_ma u) k.toNatClampNeg mask)) (vp_updL (sg_po u) k.toNatClampNeg (sp_po u mask))) (vp_updL (sg_se u) k.toNatClampNeg secret)
/-- six zeros -/
def sp_z6 (f : Nat → Int64) : Nat → Int64 := vp_updL (vp_updL (vp_updL (vp_updL (vp_updL (vp_updL f 0 0) 1 0) 2 0) 3 0) 4 0) 5 0
/-- the registers as the first k events of the log make them -/
def sp_ra (er : Nat → Int32) (ev : Nat → Int64) : Nat → Nat → Int64
  | 0 => fun _ => 0
  | k + 1 => vp_updL (sp_ra er ev k) (er k).toNatClampNeg (sp_h (sp_ra er ev k (er k).toNatClampNeg) (ev k))
/-- does the log make the registers? -/
def sp_re (u : Sg) : Int32 :=
  (fun f : Nat → Int64 => if f 0 = sg_he u 0 ∧ f 1 = sg_he u 1 ∧ f 2 = sg_he u 2 ∧ f 3 = sg_he u 3 ∧ f 4 = sg_he u 4 ∧ f 5 = sg_he u 5 then (1 : Int32) else 0) (sp_ra (sg_er u) (sg_ev u) (sg_en u).toNatClampNeg)
/-- what holds of the machine at every time -/
def sp_ok (u : Sg) : Prop := (∃ n : Nat, n ≤ 32 ∧ sg_en u = nI n) ∧ ∀ k : Nat, vp_in (sg_er u k) 6
/-- the machine that has just been made -/
def sp_0 : Sg := (fun _ => 0, fun _ => 0, fun _ => 0, fun _ => 0, fun _ => 0, fun _ => 0, 0, fun _ => 0, fun _ => 0, fun _ => 0, 0, 0, 0, 0)
theorem sp_ok0 : sp_ok sp_0 := ⟨⟨0, by decide, rfl⟩, fun _ => by show vp_in 0 6; rw [← nI_0]; exact vp_in_nI (by decide) (by decide)⟩
/-! the boot: the machine, the depth, at each depth the image that runs and the digit that it reads next -/
abbrev Bt : Type := Sg × Int32 × (Nat → Int32) × (Nat → Int32)
/-- image n is launched at depth d -/
def sp_la (b : Bt) (n d : Int32) : Bt :=
  ((fun v : Sg => ss_la v (sg_la v + 1)) (sp_no b.1 d (sp_di b.1 n)), d, upd b.2.2.1 d.toNatClampNeg n, upd b.2.2.2 d.toNatClampNeg 0)
/-- how many digits an instruction has behind its code -/
def sp_op (code : Int32) : Int32 := if code = 0 then 0 else if code = 2 then 2 else 1
/-- the fault of an instruction, or 0 -/
def sp_fo (u : Sg) (code x d : Int32) : Int32 :=
  if 8 < code then 1
  else if code = 1 ∧ d = 5 then 2
  else if code = 3 then (if sg_ap u (sp_rm x 8).toNatClampNeg = 0 then 5 else if sg_ag u (sp_rm x 8).toNatClampNeg = sp_di u (sp_rm x 8) then 0 else 5)
  else if code = 4 then (if sg_ma u (sp_rm x 8).toNatClampNeg = 0 then 6 else if sg_po u (sp_rm x 8).toNatClampNeg = sp_po u (sg_ma u (sp_rm x 8).toNatClampNeg) then 0 else 7)
  else if code = 8 then (if sp_lf (sg_ma u) < 0 then 8 else 0)
  else if (code = 1 ∨ code = 2 ∨ code = 6) ∧ sg_en u = 32 then 4 else 0
/-- what an instruction without a fault does; its digits are behind it -/
def sp_ac (b : Bt) (code x y d : Int32) : Bt :=
  if code = 0 then (b.1, d - 1, b.2.2.1, b.2.2.2)
  else if code = 1 then sp_la b (sp_rm x 8) (d + 1)
  else if code = 2 then (sp_no b.1 (sp_rm x 6) y.toInt64, b.2)
  else if code = 4 then (ss_ac b.1 (sg_se b.1 (sp_rm x 8).toNatClampNeg), b.2)
  else if code = 5 then (ss_ac b.1 (sp_h (sg_ac b.1) x.toInt64), b.2)
  else if code = 6 then (sp_no b.1 (sp_rm x 6) (sg_ac b.1), b.2)
  else if code = 7 then (b.1, b.2.1, b.2.2.1, if sg_ac b.1 = 0 then upd b.2.2.2 d.toNatClampNeg (b.2.2.2 d.toNatClampNeg + x) else b.2.2.2)
  else if code = 8 then (sp_fi b.1 (sp_lf (sg_ma b.1)) (x + 1) (sg_ac b.1), b.2)
  else b
/-- the digits that come next: the code, and two more -/
def sp_c0 (b : Bt) : Int32 := sp_dg (sg_im b.1 (b.2.2.1 b.2.1.toNatClampNeg).toNatClampNeg) (b.2.2.2 b.2.1.toNatClampNeg)
def sp_c1 (b : Bt) : Int32 := sp_dg (sg_im b.1 (b.2.2.1 b.2.1.toNatClampNeg).toNatClampNeg) (b.2.2.2 b.2.1.toNatClampNeg + 1)
def sp_c2 (b : Bt) : Int32 := sp_dg (sg_im b.1 (b.2.2.1 b.2.1.toNatClampNeg).toNatClampNeg) (b.2.2.2 b.2.1.toNatClampNeg + 2)
/-- the fault of the next instruction -/
def sp_if (b : Bt) : Int32 := sp_fo b.1 (sp_c0 b) (sp_c1 b) b.2.1
/-- the next instruction, where it has no fault -/
def sp_in (b : Bt) : Bt :=
  sp_ac (b.1, b.2.1, b.2.2.1, upd b.2.2.2 b.2.1.toNatClampNeg (b.2.2.2 b.2.1.toNatClampNeg + 1 + sp_op (sp_c0 b))) (sp_c0 b) (sp_c1 b) (sp_c2 b) b.2.1
/-- n turns of a boot, from one that has neither a fault nor an end yet -/
def sp_rn : Nat → Bt → Bt
  | 0, b => b
  | n + 1, b =>
    if b.2.1 < 0 then b
    else if sg_st b.1 = 100 then (ss_fa b.1 3, b.2)
    else if sp_if b = 0 then sp_rn n (ss_st (sp_in b).1 (sg_st (sp_in b).1 + 1), (sp_in b).2)
    else (ss_fa b.1 (sp_if b), b.2)
/-- the machine with which a boot begins -/
def sp_cl (u : Sg) : Sg := ss_fa (ss_st (ss_la (ss_ac (ss_en (ss_he u (sp_z6 (sg_he u))) 0) 0) 0) 0) 0
/-- a boot of image n -/
def sp_bo (u : Sg) (n : Int32) : Sg := (sp_rn 101 (sp_la (sp_cl u, 0, fun _ => 0, fun _ => 0) n 0)).1
/-! rows on numbers -/
theorem sp_and (x : Int64) : (x &&& 15).toInt32 = x.toInt32 &&& 15 := by
  apply Int32.toBitVec_inj.mp
  simp only [Int64.toBitVec_toInt32, Int32.toBitVec_and, Int64.toBitVec_and]
  rw [BitVec.signExtend_and]
  rfl
theorem sp_dg16 (c : Int64) (i : Int32) : ∃ j : Nat, j < 16 ∧ sp_dg c i = nI j := by
  unfold sp_dg
  split
  · exact pk_andE _ 4 rfl
  · exact ⟨0, by decide, rfl⟩
theorem sp_rm8 : ∀ j : Nat, j < 16 → vp_in (sp_rm (nI j) 8) 8 := by
  intro j hj
  unfold vp_in sp_rm
  rcases (show j = 0 ∨ j = 1 ∨ j = 2 ∨ j = 3 ∨ j = 4 ∨ j = 5 ∨ j = 6 ∨ j = 7 ∨ j = 8 ∨ j = 9 ∨ j = 10 ∨ j = 11 ∨ j = 12 ∨ j = 13 ∨ j = 14 ∨ j = 15 by omega) with h | h | h | h | h | h | h | h | h | h | h | h | h | h | h | h <;> subst h <;> decide +kernel
theorem sp_rm6 : ∀ j : Nat, j < 16 → vp_in (sp_rm (nI j) 6) 6 := by
  intro j hj
  unfold vp_in sp_rm
  rcases (show j = 0 ∨ j = 1 ∨ j = 2 ∨ j = 3 ∨ j = 4 ∨ j = 5 ∨ j = 6 ∨ j = 7 ∨ j = 8 ∨ j = 9 ∨ j = 10 ∨ j = 11 ∨ j = 12 ∨ j = 13 ∨ j = 14 ∨ j = 15 by omega) with h | h | h | h | h | h | h | h | h | h | h | h | h | h | h | h <;> subst h <;> decide +kernel
theorem sp_lf_cases (ma : Nat → Int32) : sp_lf ma = -1 ∨ ∃ j : Nat, j < 8 ∧ sp_lf ma = nI j := by
  unfold sp_lf
  split
  · exact Or.inr ⟨0, by decide, rfl⟩
  split
  · exact Or.inr ⟨1, by decide, rfl⟩
  split
  · exact Or.inr ⟨2, by decide, rfl⟩
  split
  · exact Or.inr ⟨3, by decide, rfl⟩
  split
  · exact Or.inr ⟨4, by decide, rfl⟩
  split
  · exact Or.inr ⟨5, by decide, rfl⟩
  split
  · exact Or.inr ⟨6, by decide, rfl⟩
  split
  · exact Or.inr ⟨7, by decide, rfl⟩
  exact Or.inl rfl
theorem sp_ok_no {u : Sg} {r : Int32} {v : Int64} (h : sp_ok u) (hn : ¬ 32 ≤ sg_en u) (hr : vp_in r 6) : sp_ok (sp_no u r v) := by
  obtain ⟨⟨n, h1, h2⟩, h3⟩ := h
  refine ⟨⟨n + 1, ?_, ?_⟩, fun k => ?_⟩
  · rcases Nat.lt_or_ge n 32 with q | q
    · omega
    · exfalso
      rw [h2] at hn
      exact hn (by rw [show (32 : Int32) = nI 32 from rfl]; exact nI_le q (by omega))
  · show sg_en u + 1 = nI (n + 1)
    rw [h2, nI_1]
  · show vp_in (upd (sg_er u) (sg_en u).toNatClampNeg r k) 6
    unfold upd
    split
    · exact hr
    · exact h3 k
theorem sp_cmp {x y : Int64} : lg_cmp x y = 0 ↔ x = y := by
  unfold lg_cmp
  by_cases h1 : x > y
  · rw [if_pos h1]
    refine ⟨fun h => absurd h (by decide), fun h => ?_⟩
    subst h
    exact absurd h1 Int64.lt_irrefl
  · rw [if_neg h1]
    by_cases h2 : x = y
    · rw [if_pos h2]
      exact ⟨fun _ => h2, fun _ => rfl⟩
    · rw [if_neg h2]
      exact ⟨fun h => absurd h (by decide), fun h => absurd h h2⟩
theorem xn_in {n : Int32} {k : Nat} (hk : k < 2 ^ 31) (h1 : ¬ n < 0) (h2 : n < nI k) : vp_in n k := by
  obtain ⟨j, hj, rfl⟩ := nI_of h1
  exact vp_in_nI ((nI_ltI hj hk).mp h2) hk
theorem xn_ge {n : Int32} {k : Nat} (h : vp_in n k) : ¬ n < 0 := fun q => h (Or.inl q)
theorem xn_lt {n : Int32} {k : Nat} (hk : k < 2 ^ 31) (h : vp_in n k) : n < nI k := by
  obtain ⟨j, hj, rfl⟩ := vp_in_of h hk
  exact nI_lt hj hk
theorem xn_nle {n : Int32} {k : Nat} (hk : k < 2 ^ 31) (h : vp_in n k) : ¬ nI k ≤ n := fun q => absurd (xn_lt hk h) (Int32.not_lt.mpr q)
/-- 0 ≤ n < k, as an answer -/
def sp_rg (n k : Int32) : Int32 := if n < 0 then 0 else if k ≤ n then 0 else 1
theorem sp_rg_t {n : Int32} (k : Nat) (hk : k < 2 ^ 31) (h : vp_in n k) : sp_rg n (nI k) = 1 := by
  unfold sp_rg
  rw [if_neg (xn_ge h), if_neg (xn_nle hk h)]
theorem sp_rg_f {n : Int32} (k : Nat) (hk : k < 2 ^ 31) (h : ¬ vp_in n k) : sp_rg n (nI k) = 0 := by
  unfold sp_rg
  by_cases h1 : n < 0
  · rw [if_pos h1]
  · rw [if_neg h1, if_pos (Int32.not_lt.mp (fun q => h (xn_in hk h1 q)))]
/-- 1 ≤ m ≤ 63, as an answer -/
def sp_mk (m : Int32) : Int32 := if m < 1 then 0 else if 63 < m then 0 else 1
end
section
abbrev cx : List vw_C := [("MeasuredStages", F_ms, 12), ("MeasuredStages$Registers", F_rg, 5), ("MeasuredStages$Blobs", F_bl, 3), ("MeasuredStagesModel", F_md, 19)]
abbrev Jx : Type := (Nat → Int64) × (Nat → Int32) × Int32 × (Nat → Int64)
def jx_ru (j : Jx) : Nat → Int64 := j.1
def jx_nd (j : Jx) : Nat → Int32 := j.2.1
def jx_de (j : Jx) : Int32 := j.2.2.1
def jx_rp (j : Jx) : Nat → Int64 := j.2.2.2
def sx_ru (j : Jx) (x : Nat → Int64) : Jx := (x, j.2.1, j.2.2.1, j.2.2.2)
def sx_nd (j : Jx) (x : Nat → Int32) : Jx := (j.1, x, j.2.2.1, j.2.2.2)
def sx_de (j : Jx) (x : Int32) : Jx := (j.1, j.2.1, x, j.2.2.2)
def sx_rp (j : Jx) (x : Nat → Int64) : Jx := (j.1, j.2.1, j.2.2.1, x)
/-- the cells, by what they hold -/
def xv (ad : Nat → Nat) (cs : Nat → ClassId) (im : Nat → Int64) (ap : Nat → Int32) (ag : Nat → Int64) (he : Nat → Int64) (er : Nat → Int32) (ev : Nat → Int64) (en : Int32) (ma : Nat → Int32) (po : Nat → Int64) (se : Nat → Int64) (ac : Int64) (fa : Int32) (la : Int32) (st : Int32) (jru : Nat → Int64) (jnd : Nat → Int32) (jde : Int32) (jrp : Nat → Int64) : va_W := [(ad 0, .inr (0, [.ref (ad 1), .ref (ad 2), .ref (ad 3), .ref (ad 4), .ref (ad 5), .ref (ad 6), .ref (ad 7), .int jde, .long ac, .int fa, .int la, .int st])), (ad 1, .inl (cs 0, 8, .inr (.inl im))), (ad 2, .inl (cs 1, 8, .inl ap)), (ad 3, .inl (cs 2, 8, .inr (.inl ag))), (ad 4, .inr (1, [.ref (ad 8), .ref (ad 9), .ref (ad 10), .int en, .ref (ad 11)])), (ad 5, .inr (2, [.ref (ad 12), .ref (ad 13), .ref (ad 14)])), (ad 6, .inl (cs 3, 6, .inr (.inl jru))), (ad 7, .inl (cs 4, 6, .inl jnd)), (ad 8, .inl (cs 5, 6, .inr (.inl he))), (ad 9, .inl (cs 6, 32, .inl er)), (ad 10, .inl (cs 7, 32, .inr (.inl ev))), (ad 11, .inl (cs 8, 6, .inr (.inl jrp))), (ad 12, .inl (cs 9, 8, .inl ma)), (ad 13, .inl (cs 10, 8, .inr (.inl po))), (ad 14, .inl (cs 11, 8, .inr (.inl se)))]
def xw (ad : Nat → Nat) (cs : Nat → ClassId) (u : Sg) (j : Jx) : va_W := xv ad cs (sg_im u) (sg_ap u) (sg_ag u) (sg_he u) (sg_er u) (sg_ev u) (sg_en u) (sg_ma u) (sg_po u) (sg_se u) (sg_ac u) (sg_fa u) (sg_la u) (sg_st u) (jx_ru j) (jx_nd j) (jx_de j) (jx_rp j)
theorem xw_u (ad : Nat → Nat) (cs : Nat → ClassId) (im : Nat → Int64) (ap : Nat → Int32) (ag : Nat → Int64) (he : Nat → Int64) (er : Nat → Int32) (ev : Nat → Int64) (en : Int32) (ma : Nat → Int32) (po : Nat → Int64) (se : Nat → Int64) (ac : Int64) (fa : Int32) (la : Int32) (st : Int32) (j : Jx) : xw ad cs (im, ap, ag, he, er, ev, en, ma, po, se, ac, fa, la, st) j = xv ad cs im ap ag he er ev en ma po se ac fa la st (jx_ru j) (jx_nd j) (jx_de j) (jx_rp j) := rfl
theorem xw_j (ad : Nat → Nat) (cs : Nat → ClassId) (u : Sg) (jru : Nat → Int64) (jnd : Nat → Int32) (jde : Int32) (jrp : Nat → Int64) : xw ad cs u (jru, jnd, jde, jrp) = xv ad cs (sg_im u) (sg_ap u) (sg_ag u) (sg_he u) (sg_er u) (sg_ev u) (sg_en u) (sg_ma u) (sg_po u) (sg_se u) (sg_ac u) (sg_fa u) (sg_la u) (sg_st u) jru jnd jde jrp := rfl
theorem xw_uj (ad : Nat → Nat) (cs : Nat → ClassId) (im : Nat → Int64) (ap : Nat → Int32) (ag : Nat → Int64) (he : Nat → Int64) (er : Nat → Int32) (ev : Nat → Int64) (en : Int32) (ma : Nat → Int32) (po : Nat → Int64) (se : Nat → Int64) (ac : Int64) (fa : Int32) (la : Int32) (st : Int32) (jru : Nat → Int64) (jnd : Nat → Int32) (jde : Int32) (jrp : Nat → Int64) : xw ad cs (im, ap, ag, he, er, ev, en, ma, po, se, ac, fa, la, st) (jru, jnd, jde, jrp) = xv ad cs im ap ag he er ev en ma po se ac fa la st jru jnd jde jrp := rfl
def xty (cs : Nat → ClassId) : List (ClassId × FieldType) := [(cs 0, .long), (cs 1, .boolean), (cs 2, .long), (cs 3, .long), (cs 4, .int), (cs 5, .long), (cs 6, .int), (cs 7, .long), (cs 8, .long), (cs 9, .int), (cs 10, .long), (cs 11, .long)]
abbrev Jm : Type := (Nat → Int64) × Int32 × (Nat → Int32) × (Nat → Int32) × Int32
def jm_ag (j : Jm) : Nat → Int64 := j.1
def jm_de (j : Jm) : Int32 := j.2.1
def jm_ru (j : Jm) : Nat → Int32 := j.2.2.1
def jm_nx (j : Jm) : Nat → Int32 := j.2.2.2.1
def jm_th (j : Jm) : Int32 := j.2.2.2.2
def sm_ag (j : Jm) (x : Nat → Int64) : Jm := (x, j.2.1, j.2.2.1, j.2.2.2.1, j.2.2.2.2)
def sm_de (j : Jm) (x : Int32) : Jm := (j.1, x, j.2.2.1, j.2.2.2.1, j.2.2.2.2)
def sm_ru (j : Jm) (x : Nat → Int32) : Jm := (j.1, j.2.1, x, j.2.2.2.1, j.2.2.2.2)
def sm_nx (j : Jm) (x : Nat → Int32) : Jm := (j.1, j.2.1, j.2.2.1, x, j.2.2.2.2)
def sm_th (j : Jm) (x : Int32) : Jm := (j.1, j.2.1, j.2.2.1, j.2.2.2.1, x)
/-- the cells, by what they hold -/
def mv (ad : Nat → Nat) (cs : Nat → ClassId) (im : Nat → Int64) (ap : Nat → Int32) (ag : Nat → Int64) (he : Nat → Int64) (er : Nat → Int32) (ev : Nat → Int64) (en : Int32) (ma : Nat → Int32) (po : Nat → Int64) (se : Nat → Int64) (ac : Int64) (fa : Int32) (la : Int32) (st : Int32) (jag : Nat → Int64) (jde : Int32) (jru : Nat → Int32) (jnx : Nat → Int32) (jth : Int32) : va_W := [(ad 0, .inr (3, [.ref (ad 1), .ref (ad 2), .ref (ad 3), .ref (ad 4), .ref (ad 5), .ref (ad 6), .ref (ad 7), .int en, .ref (ad 8), .ref (ad 9), .ref (ad 10), .long ac, .int la, .int st, .int fa, .int jde, .ref (ad 11), .ref (ad 12), .int jth])), (ad 1, .inl (cs 0, 6, .inr (.inl he))), (ad 2, .inl (cs 1, 8, .inr (.inl im))), (ad 3, .inl (cs 2, 8, .inl ap)), (ad 4, .inl (cs 3, 8, .inr (.inl ag))), (ad 5, .inl (cs 4, 8, .inl ma)), (ad 6, .inl (cs 5, 8, .inr (.inl po))), (ad 7, .inl (cs 6, 8, .inr (.inl se))), (ad 8, .inl (cs 7, 32, .inl er)), (ad 9, .inl (cs 8, 32, .inr (.inl ev))), (ad 10, .inl (cs 9, 6, .inr (.inl jag))), (ad 11, .inl (cs 10, 6, .inl jru)), (ad 12, .inl (cs 11, 6, .inl jnx))]
def mw (ad : Nat → Nat) (cs : Nat → ClassId) (u : Sg) (j : Jm) : va_W := mv ad cs (sg_im u) (sg_ap u) (sg_ag u) (sg_he u) (sg_er u) (sg_ev u) (sg_en u) (sg_ma u) (sg_po u) (sg_se u) (sg_ac u) (sg_fa u) (sg_la u) (sg_st u) (jm_ag j) (jm_de j) (jm_ru j) (jm_nx j) (jm_th j)
theorem mw_u (ad : Nat → Nat) (cs : Nat → ClassId) (im : Nat → Int64) (ap : Nat → Int32) (ag : Nat → Int64) (he : Nat → Int64) (er : Nat → Int32) (ev : Nat → Int64) (en : Int32) (ma : Nat → Int32) (po : Nat → Int64) (se : Nat → Int64) (ac : Int64) (fa : Int32) (la : Int32) (st : Int32) (j : Jm) : mw ad cs (im, ap, ag, he, er, ev, en, ma, po, se, ac, fa, la, st) j = mv ad cs im ap ag he er ev en ma po se ac fa la st (jm_ag j) (jm_de j) (jm_ru j) (jm_nx j) (jm_th j) := rfl
theorem mw_j (ad : Nat → Nat) (cs : Nat → ClassId) (u : Sg) (jag : Nat → Int64) (jde : Int32) (jru : Nat → Int32) (jnx : Nat → Int32) (jth : Int32) : mw ad cs u (jag, jde, jru, jnx, jth) = mv ad cs (sg_im u) (sg_ap u) (sg_ag u) (sg_he u) (sg_er u) (sg_ev u) (sg_en u) (sg_ma u) (sg_po u) (sg_se u) (sg_ac u) (sg_fa u) (sg_la u) (sg_st u) jag jde jru jnx jth := rfl
theorem mw_uj (ad : Nat → Nat) (cs : Nat → ClassId) (im : Nat → Int64) (ap : Nat → Int32) (ag : Nat → Int64) (he : Nat → Int64) (er : Nat → Int32) (ev : Nat → Int64) (en : Int32) (ma : Nat → Int32) (po : Nat → Int64) (se : Nat → Int64) (ac : Int64) (fa : Int32) (la : Int32) (st : Int32) (jag : Nat → Int64) (jde : Int32) (jru : Nat → Int32) (jnx : Nat → Int32) (jth : Int32) : mw ad cs (im, ap, ag, he, er, ev, en, ma, po, se, ac, fa, la, st) (jag, jde, jru, jnx, jth) = mv ad cs im ap ag he er ev en ma po se ac fa la st jag jde jru jnx jth := rfl
def mty (cs : Nat → ClassId) : List (ClassId × FieldType) := [(cs 0, .long), (cs 1, .long), (cs 2, .boolean), (cs 3, .long), (cs 4, .int), (cs 5, .long), (cs 6, .long), (cs 7, .int), (cs 8, .long), (cs 9, .long), (cs 10, .int), (cs 11, .int)]
abbrev Jf : Type := (Nat → Int64)
def jf_f (j : Jf) : Nat → Int64 := j
def sf_f (j : Jf) (x : Nat → Int64) : Jf := (x)
/-- the cells, by what they hold -/
def fv (ad : Nat → Nat) (cs : Nat → ClassId) (im : Nat → Int64) (ap : Nat → Int32) (ag : Nat → Int64) (he : Nat → Int64) (er : Nat → Int32) (ev : Nat → Int64) (en : Int32) (ma : Nat → Int32) (po : Nat → Int64) (se : Nat → Int64) (ac : Int64) (fa : Int32) (la : Int32) (st : Int32) (jf : Nat → Int64) : va_W := [(ad 0, .inl (cs 0, 6, .inr (.inl jf)))]
def fw (ad : Nat → Nat) (cs : Nat → ClassId) (u : Sg) (j : Jf) : va_W := fv ad cs (sg_im u) (sg_ap u) (sg_ag u) (sg_he u) (sg_er u) (sg_ev u) (sg_en u) (sg_ma u) (sg_po u) (sg_se u) (sg_ac u) (sg_fa u) (sg_la u) (sg_st u) (jf_f j)
theorem fw_u (ad : Nat → Nat) (cs : Nat → ClassId) (im : Nat → Int64) (ap : Nat → Int32) (ag : Nat → Int64) (he : Nat → Int64) (er : Nat → Int32) (ev : Nat → Int64) (en : Int32) (ma : Nat → Int32) (po : Nat → Int64) (se : Nat → Int64) (ac : Int64) (fa : Int32) (la : Int32) (st : Int32) (j : Jf) : fw ad cs (im, ap, ag, he, er, ev, en, ma, po, se, ac, fa, la, st) j = fv ad cs im ap ag he er ev en ma po se ac fa la st (jf_f j) := rfl
theorem fw_j (ad : Nat → Nat) (cs : Nat → ClassId) (u : Sg) (jf : Nat → Int64) : fw ad cs u (jf) = fv ad cs (sg_im u) (sg_ap u) (sg_ag u) (sg_he u) (sg_er u) (sg_ev u) (sg_en u) (sg_ma u) (sg_po u) (sg_se u) (sg_ac u) (sg_fa u) (sg_la u) (sg_st u) jf := rfl
theorem fw_uj (ad : Nat → Nat) (cs : Nat → ClassId) (im : Nat → Int64) (ap : Nat → Int32) (ag : Nat → Int64) (he : Nat → Int64) (er : Nat → Int32) (ev : Nat → Int64) (en : Int32) (ma : Nat → Int32) (po : Nat → Int64) (se : Nat → Int64) (ac : Int64) (fa : Int32) (la : Int32) (st : Int32) (jf : Nat → Int64) : fw ad cs (im, ap, ag, he, er, ev, en, ma, po, se, ac, fa, la, st) (jf) = fv ad cs im ap ag he er ev en ma po se ac fa la st jf := rfl
def fty (cs : Nat → ClassId) : List (ClassId × FieldType) := [(cs 0, .long)]
def xw_N (U : State) : Prop := va_Nw (.methodLinkNest "MeasuredStages$Registers" 35 y_ms_hash "MeasuredStages") U
def mw_N (_ : State) : Prop := True
def fw_N (_ : State) : Prop := True
theorem xw_N.calling {U : State} {g : JFrame} {mk : MethodId} {a : Array Value} (h : xw_N U) : xw_N (U.calling g mk a) := va_Nw.same rfl rfl h
theorem mw_N.calling {U : State} {g : JFrame} {mk : MethodId} {a : Array Value} (_ : mw_N U) : mw_N (U.calling g mk a) := trivial
theorem xw_N.warm {s U : State} (hW : s.WarmedH U.vm) (h : xw_N s) : xw_N U := va_Nw.warmM hW h
theorem fw_N.calling {U : State} {g : JFrame} {mk : MethodId} {a : Array Value} (_ : fw_N U) : fw_N (U.calling g mk a) := trivial
theorem fw_N.warm {s U : State} (_ : s.WarmedH U.vm) (_ : fw_N s) : fw_N U := trivial
theorem mw_N.warm {s U : State} (_ : s.WarmedH U.vm) (_ : mw_N s) : mw_N U := trivial
theorem gi_V {own C : String} {index maxL : Nat} {y : MethodName} {bytes : ByteArray} {ret : Option FieldType} {c0 : Cond} (h1 : Cond.methodLink own index y ∈ TB) (h2 : Cond.instanceMethod y ∈ TB) (h3 : Cond.selects C y y ∈ TB) (h4 : Cond.initialized C ∈ TB) (h5 : Cond.code y bytes maxL ret ∈ TB) :
    GoodIn (c0 :: TB) (wsV own index C y (Cond.code y bytes maxL ret :: TB)) := tb_gi (by
  intro w hw
  simp only [wsV, List.mem_append, List.mem_cons, List.not_mem_nil, or_false] at hw
  rcases hw with (rfl | rfl | rfl | rfl) | rfl | hw
  · exact h1
  · exact h2
  · exact h3
  · exact h4
  · exact h5
  · exact hw)
theorem gi_S {own : String} {index maxL : Nat} {y : MethodName} {bytes : ByteArray} {ret : Option FieldType} {c0 : Cond} (h1 : Cond.methodLink own index y ∈ TB) (h2 : Cond.static y ∈ TB) (h4 : Cond.initialized y.cls ∈ TB) (h5 : Cond.code y bytes maxL ret ∈ TB) :
    GoodIn (c0 :: TB) (va_wsS own index y (Cond.code y bytes maxL ret :: TB)) := tb_gi (by
  intro w hw
  simp only [va_wsS, List.mem_append, List.mem_cons, List.not_mem_nil, or_false] at hw
  rcases hw with (rfl | rfl | rfl) | rfl | hw
  · exact h1
  · exact h2
  · exact h4
  · exact h5
  · exact hw)
theorem gi_C {maxL : Nat} {y : MethodName} {bytes : ByteArray} {ret : Option FieldType} {c0 : Cond} (h5 : Cond.code y bytes maxL ret ∈ TB) : GoodIn (c0 :: TB) (Cond.code y bytes maxL ret :: TB) := tb_gi (by
  intro w hw
  rcases List.mem_cons.mp hw with rfl | hw
  · exact h5
  · exact hw)
section ST
variable {p : Program} {l : Launch} {e : Env} {R : Room} {s : State} {m : MethodId} {args : Array Value} {below : List Frame} {meth : Method} {c : Code} {H : Heap} {locs : List Loc} {cells slots : Nat} {Q : State → Prop}
variable {y : MethodName} {bytes cc : ByteArray} {maxL nL index pc : Nat} {ret : Option FieldType} {rm : Room} {own C host : String} {b : Nat} {As rest st0 : List Value} {ls : Array Slot} {c0 : Cond} {D : va_G} {cs : Nat → ClassId} {ad : Nat → Nat} {u u' : Sg} {A : Nat → Prop}
theorem st_pre : PreS s H (va_Pc As (fun _ => True)) As := ⟨fun _ _ _ _ q => q, fun _ _ _ => ⟨rfl, trivial⟩⟩
/-- a call of a static method that reads nothing -/
theorem st_i {v : Int32} (S : CallFix p m c cc nL s args (c0 :: TB) own) (hM : Met l y (Cond.code y bytes maxL ret :: TB) rm (va_Pc As (fun _ => True)) (vp_Si (fun r => r = v)) 0 0 (fun _ => False))
    (h1 : Cond.methodLink own index y ∈ TB) (h2 : Cond.static y ∈ TB) (h4 : Cond.initialized y.cls ∈ TB) (h5 : Cond.code y bytes maxL ret ∈ TB)
    (hd : y.cls ≠ "java/lang/invoke/MethodHandle" ∧ y.cls ≠ "java/lang/invoke/VarHandle" ∧ (parseMethodDescriptor y.desc).map (fun d => d.parameters.length) = some As.length) (hR : rm.frames + 1 ≤ R.frames ∧ 8 + (maxL + 11) + rm.locals ≤ R.locals) (hrc : rm.cells = 0) (hrs : rm.slots = 0)
    (hsize : ls.size = nL) (hst : st0 = As.reverse ++ rest) (hW : (rest.map fun v => v.category).sum ≤ 8) (hdg : decode cc pc = .ok (.invokestatic index, 3)) (hf : cells ≤ R.cells ∧ slots ≤ R.slots)
    (kk : W p l e R s m args below meth c H locs cells slots Q (F0 m (pc + 3) ls (.int v :: rest))) : W p l e R s m args below meth c H locs cells slots Q (F0 m pc ls st0) := by
  refine vp_callSi (va_Run.run (va_runS (As := As) (rest := rest) S hM (va_cwS As.length S.2.2.2.2 (gi_S h1 h2 h4 h5) rfl hrc hrs hd hR) st_pre rfl rfl hsize hst (lv_room hW) hdg hf)) (fun r hr => ?_)
  subst hr
  exact kk
/-- the same of a nest mate's private one -/
theorem sn_i {v : Int32} (S : CallFix p m c cc nL s args (c0 :: TB) own) (hM : Met l y (Cond.code y bytes maxL ret :: TB) rm (va_Pc As (fun _ => True)) (vp_Si (fun r => r = v)) 0 0 (fun _ => False))
    (h1 : va_Nw (.methodLinkNest own index y host) s) (h2 : Cond.static y ∈ TB) (h4 : Cond.initialized y.cls ∈ TB) (h5 : Cond.code y bytes maxL ret ∈ TB)
    (hd : y.cls ≠ "java/lang/invoke/MethodHandle" ∧ y.cls ≠ "java/lang/invoke/VarHandle" ∧ (parseMethodDescriptor y.desc).map (fun d => d.parameters.length) = some As.length) (hR : rm.frames + 1 ≤ R.frames ∧ 8 + (maxL + 11) + rm.locals ≤ R.locals) (hrc : rm.cells = 0) (hrs : rm.slots = 0)
    (hsize : ls.size = nL) (hst : st0 = As.reverse ++ rest) (hW : (rest.map fun v => v.category).sum ≤ 8) (hdg : decode cc pc = .ok (.invokestatic index, 3)) (hf : cells ≤ R.cells ∧ slots ≤ R.slots)
    (kk : W p l e R s m args below meth c H locs cells slots Q (F0 m (pc + 3) ls (.int v :: rest))) : W p l e R s m args below meth c H locs cells slots Q (F0 m pc ls st0) := by
  refine vp_callSi (va_Run.run (va_runSN (As := As) (rest := rest) S hM ⟨va_cnB As.length S.2.2.2.2 (gi_C h5) rfl hrc hrs h1 (S.2.2.2.2 _ (List.mem_cons_of_mem _ h4)) hd hR, S.2.2.2.2 _ (List.mem_cons_of_mem _ h2), trivial⟩ st_pre rfl rfl hsize hst (lv_room hW) hdg hf)) (fun r hr => ?_)
  subst hr
  exact kk
/-- a call of a static method that reads nothing -/
theorem st_l {v : Int64} (S : CallFix p m c cc nL s args (c0 :: TB) own) (hM : Met l y (Cond.code y bytes maxL ret :: TB) rm (va_Pc As (fun _ => True)) (vp_Sl (fun r => r = v)) 0 0 (fun _ => False))
    (h1 : Cond.methodLink own index y ∈ TB) (h2 : Cond.static y ∈ TB) (h4 : Cond.initialized y.cls ∈ TB) (h5 : Cond.code y bytes maxL ret ∈ TB)
    (hd : y.cls ≠ "java/lang/invoke/MethodHandle" ∧ y.cls ≠ "java/lang/invoke/VarHandle" ∧ (parseMethodDescriptor y.desc).map (fun d => d.parameters.length) = some As.length) (hR : rm.frames + 1 ≤ R.frames ∧ 8 + (maxL + 11) + rm.locals ≤ R.locals) (hrc : rm.cells = 0) (hrs : rm.slots = 0)
    (hsize : ls.size = nL) (hst : st0 = As.reverse ++ rest) (hW : (rest.map fun v => v.category).sum ≤ 8) (hdg : decode cc pc = .ok (.invokestatic index, 3)) (hf : cells ≤ R.cells ∧ slots ≤ R.slots)
    (kk : W p l e R s m args below meth c H locs cells slots Q (F0 m (pc + 3) ls (.long v :: rest))) : W p l e R s m args below meth c H locs cells slots Q (F0 m pc ls st0) := by
  refine vp_callSl (va_Run.run (va_runS (As := As) (rest := rest) S hM (va_cwS As.length S.2.2.2.2 (gi_S h1 h2 h4 h5) rfl hrc hrs hd hR) st_pre rfl rfl hsize hst (lv_room hW) hdg hf)) (fun r hr => ?_)
  subst hr
  exact kk
/-- the same of a nest mate's private one -/
theorem sn_l {v : Int64} (S : CallFix p m c cc nL s args (c0 :: TB) own) (hM : Met l y (Cond.code y bytes maxL ret :: TB) rm (va_Pc As (fun _ => True)) (vp_Sl (fun r => r = v)) 0 0 (fun _ => False))
    (h1 : va_Nw (.methodLinkNest own index y host) s) (h2 : Cond.static y ∈ TB) (h4 : Cond.initialized y.cls ∈ TB) (h5 : Cond.code y bytes maxL ret ∈ TB)
    (hd : y.cls ≠ "java/lang/invoke/MethodHandle" ∧ y.cls ≠ "java/lang/invoke/VarHandle" ∧ (parseMethodDescriptor y.desc).map (fun d => d.parameters.length) = some As.length) (hR : rm.frames + 1 ≤ R.frames ∧ 8 + (maxL + 11) + rm.locals ≤ R.locals) (hrc : rm.cells = 0) (hrs : rm.slots = 0)
    (hsize : ls.size = nL) (hst : st0 = As.reverse ++ rest) (hW : (rest.map fun v => v.category).sum ≤ 8) (hdg : decode cc pc = .ok (.invokestatic index, 3)) (hf : cells ≤ R.cells ∧ slots ≤ R.slots)
    (kk : W p l e R s m args below meth c H locs cells slots Q (F0 m (pc + 3) ls (.long v :: rest))) : W p l e R s m args below meth c H locs cells slots Q (F0 m pc ls st0) := by
  refine vp_callSl (va_Run.run (va_runSN (As := As) (rest := rest) S hM ⟨va_cnB As.length S.2.2.2.2 (gi_C h5) rfl hrc hrs h1 (S.2.2.2.2 _ (List.mem_cons_of_mem _ h4)) hd hR, S.2.2.2.2 _ (List.mem_cons_of_mem _ h2), trivial⟩ st_pre rfl rfl hsize hst (lv_room hW) hdg hf)) (fun r hr => ?_)
  subst hr
  exact kk
end ST
section RW_xw
variable {p : Program} {l : Launch} {e : Env} {R : Room} {s : State} {m : MethodId} {args : Array Value} {below : List Frame} {meth : Method} {c : Code} {H : Heap} {locs : List Loc} {cells slots : Nat} {Q : State → Prop}
variable {y : MethodName} {bytes cc : ByteArray} {maxL nL index pc : Nat} {ret : Option FieldType} {rm : Room} {own C host : String} {b : Nat} {As rest st0 : List Value} {ls : Array Slot} {c0 : Cond} {D : va_G} {cs : Nat → ClassId} {ad : Nat → Nat} {u u' : Sg} {A : Nat → Prop}
variable {j : Jx}
def xw_Pre (D : va_G) (cs : Nat → ClassId) (ad : Nat → Nat) (u : Sg) (j : Jx) (sz : Nat) (U : State) : Prop := U.heap.size = sz ∧ va_P D cx (xw ad cs u j) U.heap ∧ va_K D cx (xty cs) U ∧ va_D (fun _ => True) (xw ad cs u j) ∧ xw_N U
def xw_B (D : va_G) (cs : Nat → ClassId) (ad : Nat → Nat) (A : Nat → Prop) (u : Sg) (j : Jx) (t : State) : Prop := va_P D cx (xw ad cs u j) t.heap ∧ va_K D cx (xty cs) t ∧ va_D A (xw ad cs u j)
theorem xw_blind {av : List Value} {sz : Nat} : FrameBlind (va_Pc av (xw_Pre D cs ad u j sz)) := fun a U g mk q => by
  obtain ⟨q0, q1, qP, qK, qD, qN⟩ := q
  exact ⟨q0, q1, qP, va_K.moved (u := U) (U := U.calling g mk a) (Vm.Alike.refl U.vm) qK, qD, qN.calling⟩
theorem xw_preV {q0 ci : Nat} {T : u_T} {N : Nat} {fs : List Value} (hK : va_K D cx (xty cs) s) (hP : va_P D cx (xw ad cs u j) H) (hD : va_D A (xw ad cs u j)) (hN : xw_N s) (hc : cx[ci]? = some (C, T, N)) (he : (xw ad cs u j)[q0]? = some (b, .inr (ci, fs))) :
    PreV s H C b (va_Pc (.ref b :: As) (xw_Pre D cs ad u j H.size)) As :=
  ⟨xw_blind, va_recv hK hP hc he, fun U hU hW => ⟨rfl, by rw [hU], by rw [hU]; exact hP, va_K.moved hW.alike hK, hD.weaken (fun _ _ _ _ => trivial), hN.warm hW⟩⟩
/-- a call of a method that only reads its world -/
theorem xw_rdi {v : Int32} (S : CallFix p m c cc nL s args (c0 :: TB) own) (hM : Met l y (Cond.code y bytes maxL ret :: TB) rm (va_Pc (.ref b :: As) (xw_Pre D cs ad u j H.size)) (vp_Si (fun r => r = v)) 0 0 (fun _ => False))
    (h1 : Cond.methodLink own index y ∈ TB) (h2 : Cond.instanceMethod y ∈ TB) (h3 : Cond.selects C y y ∈ TB) (h4 : Cond.initialized C ∈ TB) (h5 : Cond.code y bytes maxL ret ∈ TB)
    (hd : y.cls = C ∧ y.cls ≠ "java/lang/invoke/MethodHandle" ∧ y.cls ≠ "java/lang/invoke/VarHandle" ∧ (parseMethodDescriptor y.desc).map (fun d => d.parameters.length) = some As.length) (hR : rm.frames + 1 ≤ R.frames ∧ 8 + (maxL + 11) + rm.locals ≤ R.locals) (hrc : rm.cells = 0) (hrs : rm.slots = 0)
    (hK : va_K D cx (xty cs) s) (hP : va_P D cx (xw ad cs u j) H) (hD : va_D A (xw ad cs u j)) (hN : xw_N s) (q0 ci : Nat) {T : u_T} {N : Nat} {fs : List Value} (hc : cx[ci]? = some (C, T, N)) (he : (xw ad cs u j)[q0]? = some (b, .inr (ci, fs)))
    (hsize : ls.size = nL) (hst : st0 = As.reverse ++ .ref b :: rest) (hW : (rest.map fun v => v.category).sum ≤ 8) (hdg : decode cc pc = .ok (.invokevirtual index, 3)) (hf : cells ≤ R.cells ∧ slots ≤ R.slots)
    (kk : W p l e R s m args below meth c H locs cells slots Q (F0 m (pc + 3) ls (.int v :: rest))) : W p l e R s m args below meth c H locs cells slots Q (F0 m pc ls st0) := by
  refine vp_callSi (va_Run.run (va_runV (As := As) (rest := rest) S hM (cwV As.length S.2.2.2.2 (gi_V h1 h2 h3 h4 h5) rfl hrc hrs hd hR) (xw_preV hK hP hD hN hc he) rfl rfl hsize hst (lv_room hW) hdg hf)) (fun r hr => ?_)
  subst hr
  exact kk
/-- a call of a method that only reads its world -/
theorem xw_rdl {v : Int64} (S : CallFix p m c cc nL s args (c0 :: TB) own) (hM : Met l y (Cond.code y bytes maxL ret :: TB) rm (va_Pc (.ref b :: As) (xw_Pre D cs ad u j H.size)) (vp_Sl (fun r => r = v)) 0 0 (fun _ => False))
    (h1 : Cond.methodLink own index y ∈ TB) (h2 : Cond.instanceMethod y ∈ TB) (h3 : Cond.selects C y y ∈ TB) (h4 : Cond.initialized C ∈ TB) (h5 : Cond.code y bytes maxL ret ∈ TB)
    (hd : y.cls = C ∧ y.cls ≠ "java/lang/invoke/MethodHandle" ∧ y.cls ≠ "java/lang/invoke/VarHandle" ∧ (parseMethodDescriptor y.desc).map (fun d => d.parameters.length) = some As.length) (hR : rm.frames + 1 ≤ R.frames ∧ 8 + (maxL + 11) + rm.locals ≤ R.locals) (hrc : rm.cells = 0) (hrs : rm.slots = 0)
    (hK : va_K D cx (xty cs) s) (hP : va_P D cx (xw ad cs u j) H) (hD : va_D A (xw ad cs u j)) (hN : xw_N s) (q0 ci : Nat) {T : u_T} {N : Nat} {fs : List Value} (hc : cx[ci]? = some (C, T, N)) (he : (xw ad cs u j)[q0]? = some (b, .inr (ci, fs)))
    (hsize : ls.size = nL) (hst : st0 = As.reverse ++ .ref b :: rest) (hW : (rest.map fun v => v.category).sum ≤ 8) (hdg : decode cc pc = .ok (.invokevirtual index, 3)) (hf : cells ≤ R.cells ∧ slots ≤ R.slots)
    (kk : W p l e R s m args below meth c H locs cells slots Q (F0 m (pc + 3) ls (.long v :: rest))) : W p l e R s m args below meth c H locs cells slots Q (F0 m pc ls st0) := by
  refine vp_callSl (va_Run.run (va_runV (As := As) (rest := rest) S hM (cwV As.length S.2.2.2.2 (gi_V h1 h2 h3 h4 h5) rfl hrc hrs hd hR) (xw_preV hK hP hD hN hc he) rfl rfl hsize hst (lv_room hW) hdg hf)) (fun r hr => ?_)
  subst hr
  exact kk
/-- a call of a method that may change its world -/
theorem xw_wri {v : Int32} {pj : Jx → Prop} (S : CallFix p m c cc nL s args (c0 :: TB) own) (hM : Met l y (Cond.code y bytes maxL ret :: TB) rm (va_Pc (.ref b :: As) (xw_Pre D cs ad u j H.size)) (va_Qi (fun (r : Int32) (j1 : Jx) => r = v ∧ pj j1) (fun (j1 : Jx) t => xw_B D cs ad (va_A (xw ad cs u j) H.size) u' j1 t) (va_A (xw ad cs u j) H.size)) 0 0 (va_A (xw ad cs u j) H.size))
    (h1 : Cond.methodLink own index y ∈ TB) (h2 : Cond.instanceMethod y ∈ TB) (h3 : Cond.selects C y y ∈ TB) (h4 : Cond.initialized C ∈ TB) (h5 : Cond.code y bytes maxL ret ∈ TB)
    (hd : y.cls = C ∧ y.cls ≠ "java/lang/invoke/MethodHandle" ∧ y.cls ≠ "java/lang/invoke/VarHandle" ∧ (parseMethodDescriptor y.desc).map (fun d => d.parameters.length) = some As.length) (hR : rm.frames + 1 ≤ R.frames ∧ 8 + (maxL + 11) + rm.locals ≤ R.locals) (hrc : rm.cells = 0) (hrs : rm.slots = 0)
    (hK : va_K D cx (xty cs) s) (hP : va_P D cx (xw ad cs u j) H) (hD : va_D A (xw ad cs u j)) (hN : xw_N s) (q0 ci : Nat) {T : u_T} {N : Nat} {fs : List Value} (hc : cx[ci]? = some (C, T, N)) (he : (xw ad cs u j)[q0]? = some (b, .inr (ci, fs)))
    (hsize : ls.size = nL) (hst : st0 = As.reverse ++ .ref b :: rest) (hW : (rest.map fun v => v.category).sum ≤ 8) (hdg : decode cc pc = .ok (.invokevirtual index, 3)) (hf : cells ≤ R.cells ∧ slots ≤ R.slots)
    (hS : va_S A s.heap H locs) (hA : ∀ q, s.heap.size ≤ q → A q)
    (kk : ∀ (j1 : Jx) (H1 : Heap) (locs1 : List Loc), pj j1 → va_P D cx (xw ad cs u' j1) H1 → va_D A (xw ad cs u' j1) → va_S A s.heap H1 locs1 → W p l e R s m args below meth c H1 locs1 cells slots Q (F0 m (pc + 3) ls (.int v :: rest))) : W p l e R s m args below meth c H locs cells slots Q (F0 m pc ls st0) := by
  have hF := va_free (wc := xw ad cs u j) hD hS hA [0, 1, 2, 3, 4, 5, 6, 7, 8, 9, 10, 11, 12, 13, 14] rfl
  refine va_calli (va_runV (As := As) (rest := rest) S hM (cwV As.length S.2.2.2.2 (gi_V h1 h2 h3 h4 h5) rfl hrc hrs hd hR) (xw_preV hK hP hD hN hc he) rfl rfl hsize hst (lv_room hW) hdg hf) hS (fun q _ h => hF q h) (fun q h => hF q h) (fun r j1 t H1 locs1 ht hvm hp hB hle hk1 hS1 => ?_)
  obtain ⟨hP1, -, hD1⟩ := hB
  rw [ht] at hP1
  obtain ⟨rfl, hp⟩ := hp
  exact kk j1 H1 locs1 hp hP1 (hD1.weaken (fun _ q _ h => hF q.1 h)) hS1
/-- a call of a method that may change its world -/
theorem xw_wrl {v : Int64} {pj : Jx → Prop} (S : CallFix p m c cc nL s args (c0 :: TB) own) (hM : Met l y (Cond.code y bytes maxL ret :: TB) rm (va_Pc (.ref b :: As) (xw_Pre D cs ad u j H.size)) (va_Ql (fun (r : Int64) (j1 : Jx) => r = v ∧ pj j1) (fun (j1 : Jx) t => xw_B D cs ad (va_A (xw ad cs u j) H.size) u' j1 t) (va_A (xw ad cs u j) H.size)) 0 0 (va_A (xw ad cs u j) H.size))
    (h1 : Cond.methodLink own index y ∈ TB) (h2 : Cond.instanceMethod y ∈ TB) (h3 : Cond.selects C y y ∈ TB) (h4 : Cond.initialized C ∈ TB) (h5 : Cond.code y bytes maxL ret ∈ TB)
    (hd : y.cls = C ∧ y.cls ≠ "java/lang/invoke/MethodHandle" ∧ y.cls ≠ "java/lang/invoke/VarHandle" ∧ (parseMethodDescriptor y.desc).map (fun d => d.parameters.length) = some As.length) (hR : rm.frames + 1 ≤ R.frames ∧ 8 + (maxL + 11) + rm.locals ≤ R.locals) (hrc : rm.cells = 0) (hrs : rm.slots = 0)
    (hK : va_K D cx (xty cs) s) (hP : va_P D cx (xw ad cs u j) H) (hD : va_D A (xw ad cs u j)) (hN : xw_N s) (q0 ci : Nat) {T : u_T} {N : Nat} {fs : List Value} (hc : cx[ci]? = some (C, T, N)) (he : (xw ad cs u j)[q0]? = some (b, .inr (ci, fs)))
    (hsize : ls.size = nL) (hst : st0 = As.reverse ++ .ref b :: rest) (hW : (rest.map fun v => v.category).sum ≤ 8) (hdg : decode cc pc = .ok (.invokevirtual index, 3)) (hf : cells ≤ R.cells ∧ slots ≤ R.slots)
    (hS : va_S A s.heap H locs) (hA : ∀ q, s.heap.size ≤ q → A q)
    (kk : ∀ (j1 : Jx) (H1 : Heap) (locs1 : List Loc), pj j1 → va_P D cx (xw ad cs u' j1) H1 → va_D A (xw ad cs u' j1) → va_S A s.heap H1 locs1 → W p l e R s m args below meth c H1 locs1 cells slots Q (F0 m (pc + 3) ls (.long v :: rest))) : W p l e R s m args below meth c H locs cells slots Q (F0 m pc ls st0) := by
  have hF := va_free (wc := xw ad cs u j) hD hS hA [0, 1, 2, 3, 4, 5, 6, 7, 8, 9, 10, 11, 12, 13, 14] rfl
  refine va_calll (va_runV (As := As) (rest := rest) S hM (cwV As.length S.2.2.2.2 (gi_V h1 h2 h3 h4 h5) rfl hrc hrs hd hR) (xw_preV hK hP hD hN hc he) rfl rfl hsize hst (lv_room hW) hdg hf) hS (fun q _ h => hF q h) (fun q h => hF q h) (fun r j1 t H1 locs1 ht hvm hp hB hle hk1 hS1 => ?_)
  obtain ⟨hP1, -, hD1⟩ := hB
  rw [ht] at hP1
  obtain ⟨rfl, hp⟩ := hp
  exact kk j1 H1 locs1 hp hP1 (hD1.weaken (fun _ q _ h => hF q.1 h)) hS1
/-- a call of a method that may change its world -/
theorem xw_wrv {pj : Jx → Prop} (S : CallFix p m c cc nL s args (c0 :: TB) own) (hM : Met l y (Cond.code y bytes maxL ret :: TB) rm (va_Pc (.ref b :: As) (xw_Pre D cs ad u j H.size)) (va_Qv (fun (j1 : Jx) => pj j1) (fun (j1 : Jx) t => xw_B D cs ad (va_A (xw ad cs u j) H.size) u' j1 t) (va_A (xw ad cs u j) H.size)) 0 0 (va_A (xw ad cs u j) H.size))
    (h1 : Cond.methodLink own index y ∈ TB) (h2 : Cond.instanceMethod y ∈ TB) (h3 : Cond.selects C y y ∈ TB) (h4 : Cond.initialized C ∈ TB) (h5 : Cond.code y bytes maxL ret ∈ TB)
    (hd : y.cls = C ∧ y.cls ≠ "java/lang/invoke/MethodHandle" ∧ y.cls ≠ "java/lang/invoke/VarHandle" ∧ (parseMethodDescriptor y.desc).map (fun d => d.parameters.length) = some As.length) (hR : rm.frames + 1 ≤ R.frames ∧ 8 + (maxL + 11) + rm.locals ≤ R.locals) (hrc : rm.cells = 0) (hrs : rm.slots = 0)
    (hK : va_K D cx (xty cs) s) (hP : va_P D cx (xw ad cs u j) H) (hD : va_D A (xw ad cs u j)) (hN : xw_N s) (q0 ci : Nat) {T : u_T} {N : Nat} {fs : List Value} (hc : cx[ci]? = some (C, T, N)) (he : (xw ad cs u j)[q0]? = some (b, .inr (ci, fs)))
    (hsize : ls.size = nL) (hst : st0 = As.reverse ++ .ref b :: rest) (hW : (rest.map fun v => v.category).sum ≤ 8) (hdg : decode cc pc = .ok (.invokevirtual index, 3)) (hf : cells ≤ R.cells ∧ slots ≤ R.slots)
    (hS : va_S A s.heap H locs) (hA : ∀ q, s.heap.size ≤ q → A q)
    (kk : ∀ (j1 : Jx) (H1 : Heap) (locs1 : List Loc), pj j1 → va_P D cx (xw ad cs u' j1) H1 → va_D A (xw ad cs u' j1) → va_S A s.heap H1 locs1 → W p l e R s m args below meth c H1 locs1 cells slots Q (F0 m (pc + 3) ls (rest))) : W p l e R s m args below meth c H locs cells slots Q (F0 m pc ls st0) := by
  have hF := va_free (wc := xw ad cs u j) hD hS hA [0, 1, 2, 3, 4, 5, 6, 7, 8, 9, 10, 11, 12, 13, 14] rfl
  refine va_callv (va_runV (As := As) (rest := rest) S hM (cwV As.length S.2.2.2.2 (gi_V h1 h2 h3 h4 h5) rfl hrc hrs hd hR) (xw_preV hK hP hD hN hc he) rfl rfl hsize hst (lv_room hW) hdg hf) hS (fun q _ h => hF q h) (fun q h => hF q h) (fun j1 t H1 locs1 ht hvm hp hB hle hk1 hS1 => ?_)
  obtain ⟨hP1, -, hD1⟩ := hB
  rw [ht] at hP1
  exact kk j1 H1 locs1 hp hP1 (hD1.weaken (fun _ q _ h => hF q.1 h)) hS1
end RW_xw
section RW_mw
variable {p : Program} {l : Launch} {e : Env} {R : Room} {s : State} {m : MethodId} {args : Array Value} {below : List Frame} {meth : Method} {c : Code} {H : Heap} {locs : List Loc} {cells slots : Nat} {Q : State → Prop}
variable {y : MethodName} {bytes cc : ByteArray} {maxL nL index pc : Nat} {ret : Option FieldType} {rm : Room} {own C host : String} {b : Nat} {As rest st0 : List Value} {ls : Array Slot} {c0 : Cond} {D : va_G} {cs : Nat → ClassId} {ad : Nat → Nat} {u u' : Sg} {A : Nat → Prop}
variable {j : Jm}
def mw_Pre (D : va_G) (cs : Nat → ClassId) (ad : Nat → Nat) (u : Sg) (j : Jm) (sz : Nat) (U : State) : Prop := U.heap.size = sz ∧ va_P D cx (mw ad cs u j) U.heap ∧ va_K D cx (mty cs) U ∧ va_D (fun _ => True) (mw ad cs u j) ∧ mw_N U
def mw_B (D : va_G) (cs : Nat → ClassId) (ad : Nat → Nat) (A : Nat → Prop) (u : Sg) (j : Jm) (t : State) : Prop := va_P D cx (mw ad cs u j) t.heap ∧ va_K D cx (mty cs) t ∧ va_D A (mw ad cs u j)
theorem mw_blind {av : List Value} {sz : Nat} : FrameBlind (va_Pc av (mw_Pre D cs ad u j sz)) := fun a U g mk q => by
  obtain ⟨q0, q1, qP, qK, qD, qN⟩ := q
  exact ⟨q0, q1, qP, va_K.moved (u := U) (U := U.calling g mk a) (Vm.Alike.refl U.vm) qK, qD, qN.calling⟩
theorem mw_preV {q0 ci : Nat} {T : u_T} {N : Nat} {fs : List Value} (hK : va_K D cx (mty cs) s) (hP : va_P D cx (mw ad cs u j) H) (hD : va_D A (mw ad cs u j)) (hN : mw_N s) (hc : cx[ci]? = some (C, T, N)) (he : (mw ad cs u j)[q0]? = some (b, .inr (ci, fs))) :
    PreV s H C b (va_Pc (.ref b :: As) (mw_Pre D cs ad u j H.size)) As :=
  ⟨mw_blind, va_recv hK hP hc he, fun U hU hW => ⟨rfl, by rw [hU], by rw [hU]; exact hP, va_K.moved hW.alike hK, hD.weaken (fun _ _ _ _ => trivial), hN.warm hW⟩⟩
/-- a call of a method that only reads its world -/
theorem mw_rdi {v : Int32} (S : CallFix p m c cc nL s args (c0 :: TB) own) (hM : Met l y (Cond.code y bytes maxL ret :: TB) rm (va_Pc (.ref b :: As) (mw_Pre D cs ad u j H.size)) (vp_Si (fun r => r = v)) 0 0 (fun _ => False))
    (h1 : Cond.methodLink own index y ∈ TB) (h2 : Cond.instanceMethod y ∈ TB) (h3 : Cond.selects C y y ∈ TB) (h4 : Cond.initialized C ∈ TB) (h5 : Cond.code y bytes maxL ret ∈ TB)
    (hd : y.cls = C ∧ y.cls ≠ "java/lang/invoke/MethodHandle" ∧ y.cls ≠ "java/lang/invoke/VarHandle" ∧ (parseMethodDescriptor y.desc).map (fun d => d.parameters.length) = some As.length) (hR : rm.frames + 1 ≤ R.frames ∧ 8 + (maxL + 11) + rm.locals ≤ R.locals) (hrc : rm.cells = 0) (hrs : rm.slots = 0)
    (hK : va_K D cx (mty cs) s) (hP : va_P D cx (mw ad cs u j) H) (hD : va_D A (mw ad cs u j)) (hN : mw_N s) (q0 ci : Nat) {T : u_T} {N : Nat} {fs : List Value} (hc : cx[ci]? = some (C, T, N)) (he : (mw ad cs u j)[q0]? = some (b, .inr (ci, fs)))
    (hsize : ls.size = nL) (hst : st0 = As.reverse ++ .ref b :: rest) (hW : (rest.map fun v => v.category).sum ≤ 8) (hdg : decode cc pc = .ok (.invokevirtual index, 3)) (hf : cells ≤ R.cells ∧ slots ≤ R.slots)
    (kk : W p l e R s m args below meth c H locs cells slots Q (F0 m (pc + 3) ls (.int v :: rest))) : W p l e R s m args below meth c H locs cells slots Q (F0 m pc ls st0) := by
  refine vp_callSi (va_Run.run (va_runV (As := As) (rest := rest) S hM (cwV As.length S.2.2.2.2 (gi_V h1 h2 h3 h4 h5) rfl hrc hrs hd hR) (mw_preV hK hP hD hN hc he) rfl rfl hsize hst (lv_room hW) hdg hf)) (fun r hr => ?_)
  subst hr
  exact kk
/-- a call of a method that only reads its world -/
theorem mw_rdl {v : Int64} (S : CallFix p m c cc nL s args (c0 :: TB) own) (hM : Met l y (Cond.code y bytes maxL ret :: TB) rm (va_Pc (.ref b :: As) (mw_Pre D cs ad u j H.size)) (vp_Sl (fun r => r = v)) 0 0 (fun _ => False))
    (h1 : Cond.methodLink own index y ∈ TB) (h2 : Cond.instanceMethod y ∈ TB) (h3 : Cond.selects C y y ∈ TB) (h4 : Cond.initialized C ∈ TB) (h5 : Cond.code y bytes maxL ret ∈ TB)
    (hd : y.cls = C ∧ y.cls ≠ "java/lang/invoke/MethodHandle" ∧ y.cls ≠ "java/lang/invoke/VarHandle" ∧ (parseMethodDescriptor y.desc).map (fun d => d.parameters.length) = some As.length) (hR : rm.frames + 1 ≤ R.frames ∧ 8 + (maxL + 11) + rm.locals ≤ R.locals) (hrc : rm.cells = 0) (hrs : rm.slots = 0)
    (hK : va_K D cx (mty cs) s) (hP : va_P D cx (mw ad cs u j) H) (hD : va_D A (mw ad cs u j)) (hN : mw_N s) (q0 ci : Nat) {T : u_T} {N : Nat} {fs : List Value} (hc : cx[ci]? = some (C, T, N)) (he : (mw ad cs u j)[q0]? = some (b, .inr (ci, fs)))
    (hsize : ls.size = nL) (hst : st0 = As.reverse ++ .ref b :: rest) (hW : (rest.map fun v => v.category).sum ≤ 8) (hdg : decode cc pc = .ok (.invokevirtual index, 3)) (hf : cells ≤ R.cells ∧ slots ≤ R.slots)
    (kk : W p l e R s m args below meth c H locs cells slots Q (F0 m (pc + 3) ls (.long v :: rest))) : W p l e R s m args below meth c H locs cells slots Q (F0 m pc ls st0) := by
  refine vp_callSl (va_Run.run (va_runV (As := As) (rest := rest) S hM (cwV As.length S.2.2.2.2 (gi_V h1 h2 h3 h4 h5) rfl hrc hrs hd hR) (mw_preV hK hP hD hN hc he) rfl rfl hsize hst (lv_room hW) hdg hf)) (fun r hr => ?_)
  subst hr
  exact kk
/-- a call of a method that may change its world -/
theorem mw_wri {v : Int32} {pj : Jm → Prop} (S : CallFix p m c cc nL s args (c0 :: TB) own) (hM : Met l y (Cond.code y bytes maxL ret :: TB) rm (va_Pc (.ref b :: As) (mw_Pre D cs ad u j H.size)) (va_Qi (fun (r : Int32) (j1 : Jm) => r = v ∧ pj j1) (fun (j1 : Jm) t => mw_B D cs ad (va_A (mw ad cs u j) H.size) u' j1 t) (va_A (mw ad cs u j) H.size)) 0 0 (va_A (mw ad cs u j) H.size))
    (h1 : Cond.methodLink own index y ∈ TB) (h2 : Cond.instanceMethod y ∈ TB) (h3 : Cond.selects C y y ∈ TB) (h4 : Cond.initialized C ∈ TB) (h5 : Cond.code y bytes maxL ret ∈ TB)
    (hd : y.cls = C ∧ y.cls ≠ "java/lang/invoke/MethodHandle" ∧ y.cls ≠ "java/lang/invoke/VarHandle" ∧ (parseMethodDescriptor y.desc).map (fun d => d.parameters.length) = some As.length) (hR : rm.frames + 1 ≤ R.frames ∧ 8 + (maxL + 11) + rm.locals ≤ R.locals) (hrc : rm.cells = 0) (hrs : rm.slots = 0)
    (hK : va_K D cx (mty cs) s) (hP : va_P D cx (mw ad cs u j) H) (hD : va_D A (mw ad cs u j)) (hN : mw_N s) (q0 ci : Nat) {T : u_T} {N : Nat} {fs : List Value} (hc : cx[ci]? = some (C, T, N)) (he : (mw ad cs u j)[q0]? = some (b, .inr (ci, fs)))
    (hsize : ls.size = nL) (hst : st0 = As.reverse ++ .ref b :: rest) (hW : (rest.map fun v => v.category).sum ≤ 8) (hdg : decode cc pc = .ok (.invokevirtual index, 3)) (hf : cells ≤ R.cells ∧ slots ≤ R.slots)
    (hS : va_S A s.heap H locs) (hA : ∀ q, s.heap.size ≤ q → A q)
    (kk : ∀ (j1 : Jm) (H1 : Heap) (locs1 : List Loc), pj j1 → va_P D cx (mw ad cs u' j1) H1 → va_D A (mw ad cs u' j1) → va_S A s.heap H1 locs1 → W p l e R s m args below meth c H1 locs1 cells slots Q (F0 m (pc + 3) ls (.int v :: rest))) : W p l e R s m args below meth c H locs cells slots Q (F0 m pc ls st0) := by
  have hF := va_free (wc := mw ad cs u j) hD hS hA [0, 1, 2, 3, 4, 5, 6, 7, 8, 9, 10, 11, 12] rfl
  refine va_calli (va_runV (As := As) (rest := rest) S hM (cwV As.length S.2.2.2.2 (gi_V h1 h2 h3 h4 h5) rfl hrc hrs hd hR) (mw_preV hK hP hD hN hc he) rfl rfl hsize hst (lv_room hW) hdg hf) hS (fun q _ h => hF q h) (fun q h => hF q h) (fun r j1 t H1 locs1 ht hvm hp hB hle hk1 hS1 => ?_)
  obtain ⟨hP1, -, hD1⟩ := hB
  rw [ht] at hP1
  obtain ⟨rfl, hp⟩ := hp
  exact kk j1 H1 locs1 hp hP1 (hD1.weaken (fun _ q _ h => hF q.1 h)) hS1
/-- a call of a method that may change its world -/
theorem mw_wrl {v : Int64} {pj : Jm → Prop} (S : CallFix p m c cc nL s args (c0 :: TB) own) (hM : Met l y (Cond.code y bytes maxL ret :: TB) rm (va_Pc (.ref b :: As) (mw_Pre D cs ad u j H.size)) (va_Ql (fun (r : Int64) (j1 : Jm) => r = v ∧ pj j1) (fun (j1 : Jm) t => mw_B D cs ad (va_A (mw ad cs u j) H.size) u' j1 t) (va_A (mw ad cs u j) H.size)) 0 0 (va_A (mw ad cs u j) H.size))
    (h1 : Cond.methodLink own index y ∈ TB) (h2 : Cond.instanceMethod y ∈ TB) (h3 : Cond.selects C y y ∈ TB) (h4 : Cond.initialized C ∈ TB) (h5 : Cond.code y bytes maxL ret ∈ TB)
    (hd : y.cls = C ∧ y.cls ≠ "java/lang/invoke/MethodHandle" ∧ y.cls ≠ "java/lang/invoke/VarHandle" ∧ (parseMethodDescriptor y.desc).map (fun d => d.parameters.length) = some As.length) (hR : rm.frames + 1 ≤ R.frames ∧ 8 + (maxL + 11) + rm.locals ≤ R.locals) (hrc : rm.cells = 0) (hrs : rm.slots = 0)
    (hK : va_K D cx (mty cs) s) (hP : va_P D cx (mw ad cs u j) H) (hD : va_D A (mw ad cs u j)) (hN : mw_N s) (q0 ci : Nat) {T : u_T} {N : Nat} {fs : List Value} (hc : cx[ci]? = some (C, T, N)) (he : (mw ad cs u j)[q0]? = some (b, .inr (ci, fs)))
    (hsize : ls.size = nL) (hst : st0 = As.reverse ++ .ref b :: rest) (hW : (rest.map fun v => v.category).sum ≤ 8) (hdg : decode cc pc = .ok (.invokevirtual index, 3)) (hf : cells ≤ R.cells ∧ slots ≤ R.slots)
    (hS : va_S A s.heap H locs) (hA : ∀ q, s.heap.size ≤ q → A q)
    (kk : ∀ (j1 : Jm) (H1 : Heap) (locs1 : List Loc), pj j1 → va_P D cx (mw ad cs u' j1) H1 → va_D A (mw ad cs u' j1) → va_S A s.heap H1 locs1 → W p l e R s m args below meth c H1 locs1 cells slots Q (F0 m (pc + 3) ls (.long v :: rest))) : W p l e R s m args below meth c H locs cells slots Q (F0 m pc ls st0) := by
  have hF := va_free (wc := mw ad cs u j) hD hS hA [0, 1, 2, 3, 4, 5, 6, 7, 8, 9, 10, 11, 12] rfl
  refine va_calll (va_runV (As := As) (rest := rest) S hM (cwV As.length S.2.2.2.2 (gi_V h1 h2 h3 h4 h5) rfl hrc hrs hd hR) (mw_preV hK hP hD hN hc he) rfl rfl hsize hst (lv_room hW) hdg hf) hS (fun q _ h => hF q h) (fun q h => hF q h) (fun r j1 t H1 locs1 ht hvm hp hB hle hk1 hS1 => ?_)
  obtain ⟨hP1, -, hD1⟩ := hB
  rw [ht] at hP1
  obtain ⟨rfl, hp⟩ := hp
  exact kk j1 H1 locs1 hp hP1 (hD1.weaken (fun _ q _ h => hF q.1 h)) hS1
/-- a call of a method that may change its world -/
theorem mw_wrv {pj : Jm → Prop} (S : CallFix p m c cc nL s args (c0 :: TB) own) (hM : Met l y (Cond.code y bytes maxL ret :: TB) rm (va_Pc (.ref b :: As) (mw_Pre D cs ad u j H.size)) (va_Qv (fun (j1 : Jm) => pj j1) (fun (j1 : Jm) t => mw_B D cs ad (va_A (mw ad cs u j) H.size) u' j1 t) (va_A (mw ad cs u j) H.size)) 0 0 (va_A (mw ad cs u j) H.size))
    (h1 : Cond.methodLink own index y ∈ TB) (h2 : Cond.instanceMethod y ∈ TB) (h3 : Cond.selects C y y ∈ TB) (h4 : Cond.initialized C ∈ TB) (h5 : Cond.code y bytes maxL ret ∈ TB)
    (hd : y.cls = C ∧ y.cls ≠ "java/lang/invoke/MethodHandle" ∧ y.cls ≠ "java/lang/invoke/VarHandle" ∧ (parseMethodDescriptor y.desc).map (fun d => d.parameters.length) = some As.length) (hR : rm.frames + 1 ≤ R.frames ∧ 8 + (maxL + 11) + rm.locals ≤ R.locals) (hrc : rm.cells = 0) (hrs : rm.slots = 0)
    (hK : va_K D cx (mty cs) s) (hP : va_P D cx (mw ad cs u j) H) (hD : va_D A (mw ad cs u j)) (hN : mw_N s) (q0 ci : Nat) {T : u_T} {N : Nat} {fs : List Value} (hc : cx[ci]? = some (C, T, N)) (he : (mw ad cs u j)[q0]? = some (b, .inr (ci, fs)))
    (hsize : ls.size = nL) (hst : st0 = As.reverse ++ .ref b :: rest) (hW : (rest.map fun v => v.category).sum ≤ 8) (hdg : decode cc pc = .ok (.invokevirtual index, 3)) (hf : cells ≤ R.cells ∧ slots ≤ R.slots)
    (hS : va_S A s.heap H locs) (hA : ∀ q, s.heap.size ≤ q → A q)
    (kk : ∀ (j1 : Jm) (H1 : Heap) (locs1 : List Loc), pj j1 → va_P D cx (mw ad cs u' j1) H1 → va_D A (mw ad cs u' j1) → va_S A s.heap H1 locs1 → W p l e R s m args below meth c H1 locs1 cells slots Q (F0 m (pc + 3) ls (rest))) : W p l e R s m args below meth c H locs cells slots Q (F0 m pc ls st0) := by
  have hF := va_free (wc := mw ad cs u j) hD hS hA [0, 1, 2, 3, 4, 5, 6, 7, 8, 9, 10, 11, 12] rfl
  refine va_callv (va_runV (As := As) (rest := rest) S hM (cwV As.length S.2.2.2.2 (gi_V h1 h2 h3 h4 h5) rfl hrc hrs hd hR) (mw_preV hK hP hD hN hc he) rfl rfl hsize hst (lv_room hW) hdg hf) hS (fun q _ h => hF q h) (fun q h => hF q h) (fun j1 t H1 locs1 ht hvm hp hB hle hk1 hS1 => ?_)
  obtain ⟨hP1, -, hD1⟩ := hB
  rw [ht] at hP1
  exact kk j1 H1 locs1 hp hP1 (hD1.weaken (fun _ q _ h => hF q.1 h)) hS1
end RW_mw
section RW_fw
variable {p : Program} {l : Launch} {e : Env} {R : Room} {s : State} {m : MethodId} {args : Array Value} {below : List Frame} {meth : Method} {c : Code} {H : Heap} {locs : List Loc} {cells slots : Nat} {Q : State → Prop}
variable {y : MethodName} {bytes cc : ByteArray} {maxL nL index pc : Nat} {ret : Option FieldType} {rm : Room} {own C host : String} {b : Nat} {As rest st0 : List Value} {ls : Array Slot} {c0 : Cond} {D : va_G} {cs : Nat → ClassId} {ad : Nat → Nat} {u u' : Sg} {A : Nat → Prop}
variable {j : Jf}
def fw_Pre (D : va_G) (cs : Nat → ClassId) (ad : Nat → Nat) (u : Sg) (j : Jf) (sz : Nat) (U : State) : Prop := U.heap.size = sz ∧ va_P D cx (fw ad cs u j) U.heap ∧ va_K D cx (fty cs) U ∧ va_D (fun _ => True) (fw ad cs u j) ∧ fw_N U
def fw_B (D : va_G) (cs : Nat → ClassId) (ad : Nat → Nat) (A : Nat → Prop) (u : Sg) (j : Jf) (t : State) : Prop := va_P D cx (fw ad cs u j) t.heap ∧ va_K D cx (fty cs) t ∧ va_D A (fw ad cs u j)
theorem fw_blind {av : List Value} {sz : Nat} : FrameBlind (va_Pc av (fw_Pre D cs ad u j sz)) := fun a U g mk q => by
  obtain ⟨q0, q1, qP, qK, qD, qN⟩ := q
  exact ⟨q0, q1, qP, va_K.moved (u := U) (U := U.calling g mk a) (Vm.Alike.refl U.vm) qK, qD, qN.calling⟩
theorem fw_preV {q0 ci : Nat} {T : u_T} {N : Nat} {fs : List Value} (hK : va_K D cx (fty cs) s) (hP : va_P D cx (fw ad cs u j) H) (hD : va_D A (fw ad cs u j)) (hN : fw_N s) (hc : cx[ci]? = some (C, T, N)) (he : (fw ad cs u j)[q0]? = some (b, .inr (ci, fs))) :
    PreV s H C b (va_Pc (.ref b :: As) (fw_Pre D cs ad u j H.size)) As :=
  ⟨fw_blind, va_recv hK hP hc he, fun U hU hW => ⟨rfl, by rw [hU], by rw [hU]; exact hP, va_K.moved hW.alike hK, hD.weaken (fun _ _ _ _ => trivial), hN.warm hW⟩⟩
/-- a call of a method that only reads its world -/
theorem fw_rdi {v : Int32} (S : CallFix p m c cc nL s args (c0 :: TB) own) (hM : Met l y (Cond.code y bytes maxL ret :: TB) rm (va_Pc (.ref b :: As) (fw_Pre D cs ad u j H.size)) (vp_Si (fun r => r = v)) 0 0 (fun _ => False))
    (h1 : Cond.methodLink own index y ∈ TB) (h2 : Cond.instanceMethod y ∈ TB) (h3 : Cond.selects C y y ∈ TB) (h4 : Cond.initialized C ∈ TB) (h5 : Cond.code y bytes maxL ret ∈ TB)
    (hd : y.cls = C ∧ y.cls ≠ "java/lang/invoke/MethodHandle" ∧ y.cls ≠ "java/lang/invoke/VarHandle" ∧ (parseMethodDescriptor y.desc).map (fun d => d.parameters.length) = some As.length) (hR : rm.frames + 1 ≤ R.frames ∧ 8 + (maxL + 11) + rm.locals ≤ R.locals) (hrc : rm.cells = 0) (hrs : rm.slots = 0)
    (hK : va_K D cx (fty cs) s) (hP : va_P D cx (fw ad cs u j) H) (hD : va_D A (fw ad cs u j)) (hN : fw_N s) (q0 ci : Nat) {T : u_T} {N : Nat} {fs : List Value} (hc : cx[ci]? = some (C, T, N)) (he : (fw ad cs u j)[q0]? = some (b, .inr (ci, fs)))
    (hsize : ls.size = nL) (hst : st0 = As.reverse ++ .ref b :: rest) (hW : (rest.map fun v => v.category).sum ≤ 8) (hdg : decode cc pc = .ok (.invokevirtual index, 3)) (hf : cells ≤ R.cells ∧ slots ≤ R.slots)
    (kk : W p l e R s m args below meth c H locs cells slots Q (F0 m (pc + 3) ls (.int v :: rest))) : W p l e R s m args below meth c H locs cells slots Q (F0 m pc ls st0) := by
  refine vp_callSi (va_Run.run (va_runV (As := As) (rest := rest) S hM (cwV As.length S.2.2.2.2 (gi_V h1 h2 h3 h4 h5) rfl hrc hrs hd hR) (fw_preV hK hP hD hN hc he) rfl rfl hsize hst (lv_room hW) hdg hf)) (fun r hr => ?_)
  subst hr
  exact kk
/-- a call of a method that only reads its world -/
theorem fw_rdl {v : Int64} (S : CallFix p m c cc nL s args (c0 :: TB) own) (hM : Met l y (Cond.code y bytes maxL ret :: TB) rm (va_Pc (.ref b :: As) (fw_Pre D cs ad u j H.size)) (vp_Sl (fun r => r = v)) 0 0 (fun _ => False))
    (h1 : Cond.methodLink own index y ∈ TB) (h2 : Cond.instanceMethod y ∈ TB) (h3 : Cond.selects C y y ∈ TB) (h4 : Cond.initialized C ∈ TB) (h5 : Cond.code y bytes maxL ret ∈ TB)
    (hd : y.cls = C ∧ y.cls ≠ "java/lang/invoke/MethodHandle" ∧ y.cls ≠ "java/lang/invoke/VarHandle" ∧ (parseMethodDescriptor y.desc).map (fun d => d.parameters.length) = some As.length) (hR : rm.frames + 1 ≤ R.frames ∧ 8 + (maxL + 11) + rm.locals ≤ R.locals) (hrc : rm.cells = 0) (hrs : rm.slots = 0)
    (hK : va_K D cx (fty cs) s) (hP : va_P D cx (fw ad cs u j) H) (hD : va_D A (fw ad cs u j)) (hN : fw_N s) (q0 ci : Nat) {T : u_T} {N : Nat} {fs : List Value} (hc : cx[ci]? = some (C, T, N)) (he : (fw ad cs u j)[q0]? = some (b, .inr (ci, fs)))
    (hsize : ls.size = nL) (hst : st0 = As.reverse ++ .ref b :: rest) (hW : (rest.map fun v => v.category).sum ≤ 8) (hdg : decode cc pc = .ok (.invokevirtual index, 3)) (hf : cells ≤ R.cells ∧ slots ≤ R.slots)
    (kk : W p l e R s m args below meth c H locs cells slots Q (F0 m (pc + 3) ls (.long v :: rest))) : W p l e R s m args below meth c H locs cells slots Q (F0 m pc ls st0) := by
  refine vp_callSl (va_Run.run (va_runV (As := As) (rest := rest) S hM (cwV As.length S.2.2.2.2 (gi_V h1 h2 h3 h4 h5) rfl hrc hrs hd hR) (fw_preV hK hP hD hN hc he) rfl rfl hsize hst (lv_room hW) hdg hf)) (fun r hr => ?_)
  subst hr
  exact kk
/-- a call of a method that may change its world -/
theorem fw_wri {v : Int32} {pj : Jf → Prop} (S : CallFix p m c cc nL s args (c0 :: TB) own) (hM : Met l y (Cond.code y bytes maxL ret :: TB) rm (va_Pc (.ref b :: As) (fw_Pre D cs ad u j H.size)) (va_Qi (fun (r : Int32) (j1 : Jf) => r = v ∧ pj j1) (fun (j1 : Jf) t => fw_B D cs ad (va_A (fw ad cs u j) H.size) u' j1 t) (va_A (fw ad cs u j) H.size)) 0 0 (va_A (fw ad cs u j) H.size))
    (h1 : Cond.methodLink own index y ∈ TB) (h2 : Cond.instanceMethod y ∈ TB) (h3 : Cond.selects C y y ∈ TB) (h4 : Cond.initialized C ∈ TB) (h5 : Cond.code y bytes maxL ret ∈ TB)
    (hd : y.cls = C ∧ y.cls ≠ "java/lang/invoke/MethodHandle" ∧ y.cls ≠ "java/lang/invoke/VarHandle" ∧ (parseMethodDescriptor y.desc).map (fun d => d.parameters.length) = some As.length) (hR : rm.frames + 1 ≤ R.frames ∧ 8 + (maxL + 11) + rm.locals ≤ R.locals) (hrc : rm.cells = 0) (hrs : rm.slots = 0)
    (hK : va_K D cx (fty cs) s) (hP : va_P D cx (fw ad cs u j) H) (hD : va_D A (fw ad cs u j)) (hN : fw_N s) (q0 ci : Nat) {T : u_T} {N : Nat} {fs : List Value} (hc : cx[ci]? = some (C, T, N)) (he : (fw ad cs u j)[q0]? = some (b, .inr (ci, fs)))
    (hsize : ls.size = nL) (hst : st0 = As.reverse ++ .ref b :: rest) (hW : (rest.map fun v => v.category).sum ≤ 8) (hdg : decode cc pc = .ok (.invokevirtual index, 3)) (hf : cells ≤ R.cells ∧ slots ≤ R.slots)
    (hS : va_S A s.heap H locs) (hA : ∀ q, s.heap.size ≤ q → A q)
    (kk : ∀ (j1 : Jf) (H1 : Heap) (locs1 : List Loc), pj j1 → va_P D cx (fw ad cs u' j1) H1 → va_D A (fw ad cs u' j1) → va_S A s.heap H1 locs1 → W p l e R s m args below meth c H1 locs1 cells slots Q (F0 m (pc + 3) ls (.int v :: rest))) : W p l e R s m args below meth c H locs cells slots Q (F0 m pc ls st0) := by
  have hF := va_free (wc := fw ad cs u j) hD hS hA [0] rfl
  refine va_calli (va_runV (As := As) (rest := rest) S hM (cwV As.length S.2.2.2.2 (gi_V h1 h2 h3 h4 h5) rfl hrc hrs hd hR) (fw_preV hK hP hD hN hc he) rfl rfl hsize hst (lv_room hW) hdg hf) hS (fun q _ h => hF q h) (fun q h => hF q h) (fun r j1 t H1 locs1 ht hvm hp hB hle hk1 hS1 => ?_)
  obtain ⟨hP1, -, hD1⟩ := hB
  rw [ht] at hP1
  obtain ⟨rfl, hp⟩ := hp
  exact kk j1 H1 locs1 hp hP1 (hD1.weaken (fun _ q _ h => hF q.1 h)) hS1
/-- a call of a method that may change its world -/
theorem fw_wrl {v : Int64} {pj : Jf → Prop} (S : CallFix p m c cc nL s args (c0 :: TB) own) (hM : Met l y (Cond.code y bytes maxL ret :: TB) rm (va_Pc (.ref b :: As) (fw_Pre D cs ad u j H.size)) (va_Ql (fun (r : Int64) (j1 : Jf) => r = v ∧ pj j1) (fun (j1 : Jf) t => fw_B D cs ad (va_A (fw ad cs u j) H.size) u' j1 t) (va_A (fw ad cs u j) H.size)) 0 0 (va_A (fw ad cs u j) H.size))
    (h1 : Cond.methodLink own index y ∈ TB) (h2 : Cond.instanceMethod y ∈ TB) (h3 : Cond.selects C y y ∈ TB) (h4 : Cond.initialized C ∈ TB) (h5 : Cond.code y bytes maxL ret ∈ TB)
    (hd : y.cls = C ∧ y.cls ≠ "java/lang/invoke/MethodHandle" ∧ y.cls ≠ "java/lang/invoke/VarHandle" ∧ (parseMethodDescriptor y.desc).map (fun d => d.parameters.length) = some As.length) (hR : rm.frames + 1 ≤ R.frames ∧ 8 + (maxL + 11) + rm.locals ≤ R.locals) (hrc : rm.cells = 0) (hrs : rm.slots = 0)
    (hK : va_K D cx (fty cs) s) (hP : va_P D cx (fw ad cs u j) H) (hD : va_D A (fw ad cs u j)) (hN : fw_N s) (q0 ci : Nat) {T : u_T} {N : Nat} {fs : List Value} (hc : cx[ci]? = some (C, T, N)) (he : (fw ad cs u j)[q0]? = some (b, .inr (ci, fs)))
    (hsize : ls.size = nL) (hst : st0 = As.reverse ++ .ref b :: rest) (hW : (rest.map fun v => v.category).sum ≤ 8) (hdg : decode cc pc = .ok (.invokevirtual index, 3)) (hf : cells ≤ R.cells ∧ slots ≤ R.slots)
    (hS : va_S A s.heap H locs) (hA : ∀ q, s.heap.size ≤ q → A q)
    (kk : ∀ (j1 : Jf) (H1 : Heap) (locs1 : List Loc), pj j1 → va_P D cx (fw ad cs u' j1) H1 → va_D A (fw ad cs u' j1) → va_S A s.heap H1 locs1 → W p l e R s m args below meth c H1 locs1 cells slots Q (F0 m (pc + 3) ls (.long v :: rest))) : W p l e R s m args below meth c H locs cells slots Q (F0 m pc ls st0) := by
  have hF := va_free (wc := fw ad cs u j) hD hS hA [0] rfl
  refine va_calll (va_runV (As := As) (rest := rest) S hM (cwV As.length S.2.2.2.2 (gi_V h1 h2 h3 h4 h5) rfl hrc hrs hd hR) (fw_preV hK hP hD hN hc he) rfl rfl hsize hst (lv_room hW) hdg hf) hS (fun q _ h => hF q h) (fun q h => hF q h) (fun r j1 t H1 locs1 ht hvm hp hB hle hk1 hS1 => ?_)
  obtain ⟨hP1, -, hD1⟩ := hB
  rw [ht] at hP1
  obtain ⟨rfl, hp⟩ := hp
  exact kk j1 H1 locs1 hp hP1 (hD1.weaken (fun _ q _ h => hF q.1 h)) hS1
/-- a call of a method that may change its world -/
theorem fw_wrv {pj : Jf → Prop} (S : CallFix p m c cc nL s args (c0 :: TB) own) (hM : Met l y (Cond.code y bytes maxL ret :: TB) rm (va_Pc (.ref b :: As) (fw_Pre D cs ad u j H.size)) (va_Qv (fun (j1 : Jf) => pj j1) (fun (j1 : Jf) t => fw_B D cs ad (va_A (fw ad cs u j) H.size) u' j1 t) (va_A (fw ad cs u j) H.size)) 0 0 (va_A (fw ad cs u j) H.size))
    (h1 : Cond.methodLink own index y ∈ TB) (h2 : Cond.instanceMethod y ∈ TB) (h3 : Cond.selects C y y ∈ TB) (h4 : Cond.initialized C ∈ TB) (h5 : Cond.code y bytes maxL ret ∈ TB)
    (hd : y.cls = C ∧ y.cls ≠ "java/lang/invoke/MethodHandle" ∧ y.cls ≠ "java/lang/invoke/VarHandle" ∧ (parseMethodDescriptor y.desc).map (fun d => d.parameters.length) = some As.length) (hR : rm.frames + 1 ≤ R.frames ∧ 8 + (maxL + 11) + rm.locals ≤ R.locals) (hrc : rm.cells = 0) (hrs : rm.slots = 0)
    (hK : va_K D cx (fty cs) s) (hP : va_P D cx (fw ad cs u j) H) (hD : va_D A (fw ad cs u j)) (hN : fw_N s) (q0 ci : Nat) {T : u_T} {N : Nat} {fs : List Value} (hc : cx[ci]? = some (C, T, N)) (he : (fw ad cs u j)[q0]? = some (b, .inr (ci, fs)))
    (hsize : ls.size = nL) (hst : st0 = As.reverse ++ .ref b :: rest) (hW : (rest.map fun v => v.category).sum ≤ 8) (hdg : decode cc pc = .ok (.invokevirtual index, 3)) (hf : cells ≤ R.cells ∧ slots ≤ R.slots)
    (hS : va_S A s.heap H locs) (hA : ∀ q, s.heap.size ≤ q → A q)
    (kk : ∀ (j1 : Jf) (H1 : Heap) (locs1 : List Loc), pj j1 → va_P D cx (fw ad cs u' j1) H1 → va_D A (fw ad cs u' j1) → va_S A s.heap H1 locs1 → W p l e R s m args below meth c H1 locs1 cells slots Q (F0 m (pc + 3) ls (rest))) : W p l e R s m args below meth c H locs cells slots Q (F0 m pc ls st0) := by
  have hF := va_free (wc := fw ad cs u j) hD hS hA [0] rfl
  refine va_callv (va_runV (As := As) (rest := rest) S hM (cwV As.length S.2.2.2.2 (gi_V h1 h2 h3 h4 h5) rfl hrc hrs hd hR) (fw_preV hK hP hD hN hc he) rfl rfl hsize hst (lv_room hW) hdg hf) hS (fun q _ h => hF q h) (fun q h => hF q h) (fun j1 t H1 locs1 ht hvm hp hB hle hk1 hS1 => ?_)
  obtain ⟨hP1, -, hD1⟩ := hB
  rw [ht] at hP1
  exact kk j1 H1 locs1 hp hP1 (hD1.weaken (fun _ q _ h => hF q.1 h)) hS1
end RW_fw
end
section
theorem d_ms_hash_0 : decode b_ms_hash 0 = .ok (.lload_n 0, 1) := by decide +kernel
theorem d_ms_hash_1 : decode b_ms_hash 1 = .ok (.ldc2_w 162, 3) := by decide +kernel
theorem d_ms_hash_4 : decode b_ms_hash 4 = .ok (.lxor, 1) := by decide +kernel
theorem d_ms_hash_5 : decode b_ms_hash 5 = .ok (.ldc2_w 164, 3) := by decide +kernel
theorem d_ms_hash_8 : decode b_ms_hash 8 = .ok (.lmul, 1) := by decide +kernel
theorem d_ms_hash_9 : decode b_ms_hash 9 = .ok (.lload_n 2, 1) := by decide +kernel
theorem d_ms_hash_10 : decode b_ms_hash 10 = .ok (.ladd, 1) := by decide +kernel
theorem d_ms_hash_11 : decode b_ms_hash 11 = .ok (.lstore 4, 2) := by decide +kernel
theorem d_ms_hash_13 : decode b_ms_hash 13 = .ok (.lload 4, 2) := by decide +kernel
theorem d_ms_hash_15 : decode b_ms_hash 15 = .ok (.lload 4, 2) := by decide +kernel
theorem d_ms_hash_17 : decode b_ms_hash 17 = .ok (.bipush 32, 2) := by decide +kernel
theorem d_ms_hash_19 : decode b_ms_hash 19 = .ok (.lushr, 1) := by decide +kernel
theorem d_ms_hash_20 : decode b_ms_hash 20 = .ok (.lxor, 1) := by decide +kernel
theorem d_ms_hash_21 : decode b_ms_hash 21 = .ok (.lstore 4, 2) := by decide +kernel
theorem d_ms_hash_23 : decode b_ms_hash 23 = .ok (.lload 4, 2) := by decide +kernel
theorem d_ms_hash_25 : decode b_ms_hash 25 = .ok (.ldc2_w 166, 3) := by decide +kernel
theorem d_ms_hash_28 : decode b_ms_hash 28 = .ok (.lmul, 1) := by decide +kernel
theorem d_ms_hash_29 : decode b_ms_hash 29 = .ok (.lstore 4, 2) := by decide +kernel
theorem d_ms_hash_31 : decode b_ms_hash 31 = .ok (.lload 4, 2) := by decide +kernel
theorem d_ms_hash_33 : decode b_ms_hash 33 = .ok (.lload 4, 2) := by decide +kernel
theorem d_ms_hash_35 : decode b_ms_hash 35 = .ok (.bipush 29, 2) := by decide +kernel
theorem d_ms_hash_37 : decode b_ms_hash 37 = .ok (.lushr, 1) := by decide +kernel
theorem d_ms_hash_38 : decode b_ms_hash 38 = .ok (.lxor, 1) := by decide +kernel
theorem d_ms_hash_39 : decode b_ms_hash 39 = .ok (.lreturn, 1) := by decide +kernel
theorem d_md_h_0 : decode b_md_h 0 = .ok (.lload_n 0, 1) := by decide +kernel
theorem d_md_h_1 : decode b_md_h 1 = .ok (.ldc2_w 52, 3) := by decide +kernel
theorem d_md_h_4 : decode b_md_h 4 = .ok (.lxor, 1) := by decide +kernel
theorem d_md_h_5 : decode b_md_h 5 = .ok (.ldc2_w 54, 3) := by decide +kernel
theorem d_md_h_8 : decode b_md_h 8 = .ok (.lmul, 1) := by decide +kernel
theorem d_md_h_9 : decode b_md_h 9 = .ok (.lload_n 2, 1) := by decide +kernel
theorem d_md_h_10 : decode b_md_h 10 = .ok (.ladd, 1) := by decide +kernel
theorem d_md_h_11 : decode b_md_h 11 = .ok (.lstore 4, 2) := by decide +kernel
theorem d_md_h_13 : decode b_md_h 13 = .ok (.lload 4, 2) := by decide +kernel
theorem d_md_h_15 : decode b_md_h 15 = .ok (.lload 4, 2) := by decide +kernel
theorem d_md_h_17 : decode b_md_h 17 = .ok (.bipush 32, 2) := by decide +kernel
theorem d_md_h_19 : decode b_md_h 19 = .ok (.lushr, 1) := by decide +kernel
theorem d_md_h_20 : decode b_md_h 20 = .ok (.lxor, 1) := by decide +kernel
theorem d_md_h_21 : decode b_md_h 21 = .ok (.lstore 4, 2) := by decide +kernel
theorem d_md_h_23 : decode b_md_h 23 = .ok (.lload 4, 2) := by decide +kernel
theorem d_md_h_25 : decode b_md_h 25 = .ok (.ldc2_w 56, 3) := by decide +kernel
theorem d_md_h_28 : decode b_md_h 28 = .ok (.lmul, 1) := by decide +kernel
theorem d_md_h_29 : decode b_md_h 29 = .ok (.lstore 4, 2) := by decide +kernel
theorem d_md_h_31 : decode b_md_h 31 = .ok (.lload 4, 2) := by decide +kernel
theorem d_md_h_33 : decode b_md_h 33 = .ok (.lload 4, 2) := by decide +kernel
theorem d_md_h_35 : decode b_md_h 35 = .ok (.bipush 29, 2) := by decide +kernel
theorem d_md_h_37 : decode b_md_h 37 = .ok (.lushr, 1) := by decide +kernel
theorem d_md_h_38 : decode b_md_h 38 = .ok (.lxor, 1) := by decide +kernel
theorem d_md_h_39 : decode b_md_h 39 = .ok (.lreturn, 1) := by decide +kernel
theorem d_ms_isImage_0 : decode b_ms_isImage 0 = .ok (.iload_n 0, 1) := by decide +kernel
theorem d_ms_isImage_1 : decode b_ms_isImage 1 = .ok (.ifCond .lt 13, 3) := by decide +kernel
theorem d_ms_isImage_4 : decode b_ms_isImage 4 = .ok (.iload_n 0, 1) := by decide +kernel
theorem d_ms_isImage_5 : decode b_ms_isImage 5 = .ok (.bipush 8, 2) := by decide +kernel
theorem d_ms_isImage_7 : decode b_ms_isImage 7 = .ok (.if_icmp .ge 7, 3) := by decide +kernel
theorem d_ms_isImage_10 : decode b_ms_isImage 10 = .ok (.iconst 1, 1) := by decide +kernel
theorem d_ms_isImage_11 : decode b_ms_isImage 11 = .ok (.goto 4, 3) := by decide +kernel
theorem d_ms_isImage_14 : decode b_ms_isImage 14 = .ok (.iconst 0, 1) := by decide +kernel
theorem d_ms_isImage_15 : decode b_ms_isImage 15 = .ok (.ireturn, 1) := by decide +kernel
theorem d_rg_isRegister_0 : decode b_rg_isRegister 0 = .ok (.iload_n 0, 1) := by decide +kernel
theorem d_rg_isRegister_1 : decode b_rg_isRegister 1 = .ok (.ifCond .lt 13, 3) := by decide +kernel
theorem d_rg_isRegister_4 : decode b_rg_isRegister 4 = .ok (.iload_n 0, 1) := by decide +kernel
theorem d_rg_isRegister_5 : decode b_rg_isRegister 5 = .ok (.bipush 6, 2) := by decide +kernel
theorem d_rg_isRegister_7 : decode b_rg_isRegister 7 = .ok (.if_icmp .ge 7, 3) := by decide +kernel
theorem d_rg_isRegister_10 : decode b_rg_isRegister 10 = .ok (.iconst 1, 1) := by decide +kernel
theorem d_rg_isRegister_11 : decode b_rg_isRegister 11 = .ok (.goto 4, 3) := by decide +kernel
theorem d_rg_isRegister_14 : decode b_rg_isRegister 14 = .ok (.iconst 0, 1) := by decide +kernel
theorem d_rg_isRegister_15 : decode b_rg_isRegister 15 = .ok (.ireturn, 1) := by decide +kernel
theorem d_ms_isMask_0 : decode b_ms_isMask 0 = .ok (.iload_n 0, 1) := by decide +kernel
theorem d_ms_isMask_1 : decode b_ms_isMask 1 = .ok (.iconst 1, 1) := by decide +kernel
theorem d_ms_isMask_2 : decode b_ms_isMask 2 = .ok (.if_icmp .lt 13, 3) := by decide +kernel
theorem d_ms_isMask_5 : decode b_ms_isMask 5 = .ok (.iload_n 0, 1) := by decide +kernel
theorem d_ms_isMask_6 : decode b_ms_isMask 6 = .ok (.bipush 63, 2) := by decide +kernel
theorem d_ms_isMask_8 : decode b_ms_isMask 8 = .ok (.if_icmp .gt 7, 3) := by decide +kernel
theorem d_ms_isMask_11 : decode b_ms_isMask 11 = .ok (.iconst 1, 1) := by decide +kernel
theorem d_ms_isMask_12 : decode b_ms_isMask 12 = .ok (.goto 4, 3) := by decide +kernel
theorem d_ms_isMask_15 : decode b_ms_isMask 15 = .ok (.iconst 0, 1) := by decide +kernel
theorem d_ms_isMask_16 : decode b_ms_isMask 16 = .ok (.ireturn, 1) := by decide +kernel
theorem d_md_operands_0 : decode b_md_operands 0 = .ok (.iload_n 0, 1) := by decide +kernel
theorem d_md_operands_1 : decode b_md_operands 1 = .ok (.ifCond .ne 7, 3) := by decide +kernel
theorem d_md_operands_4 : decode b_md_operands 4 = .ok (.iconst 0, 1) := by decide +kernel
theorem d_md_operands_5 : decode b_md_operands 5 = .ok (.goto 13, 3) := by decide +kernel
theorem d_md_operands_8 : decode b_md_operands 8 = .ok (.iload_n 0, 1) := by decide +kernel
theorem d_md_operands_9 : decode b_md_operands 9 = .ok (.iconst 2, 1) := by decide +kernel
theorem d_md_operands_10 : decode b_md_operands 10 = .ok (.if_icmp .ne 7, 3) := by decide +kernel
theorem d_md_operands_13 : decode b_md_operands 13 = .ok (.iconst 2, 1) := by decide +kernel
theorem d_md_operands_14 : decode b_md_operands 14 = .ok (.goto 4, 3) := by decide +kernel
theorem d_md_operands_17 : decode b_md_operands 17 = .ok (.iconst 1, 1) := by decide +kernel
theorem d_md_operands_18 : decode b_md_operands 18 = .ok (.ireturn, 1) := by decide +kernel
set_option maxHeartbeats 4000000 in
set_option maxRecDepth 100000 in
theorem c_ms_hash (l : Launch) (a b : Int64)  : Met l y_ms_hash (Cond.code y_ms_hash b_ms_hash 6 (some .long) :: TB) { frames := 0, cells := 0, slots := 0, locals := 0 } (va_Pc [.long a, .long b] (fun _ => True)) (vp_Sl (fun r => r = sp_h a b)) 0 0 (fun _ => False) := by
  refine Met.ofW (cc := b_ms_hash) (maxL := 6) (ret := (some .long)) (by decide) rfl ?_
  intro p e s m args below meth c s₁ B hml hv
  obtain ⟨rfl, -⟩ := hv
  have hx := B.exec
  have hb := B.bytes
  have hret := B.returns
  have hts := atoms_spec (ws := Cond.code y_ms_hash b_ms_hash 6 (some .long) :: TB) B.pre
  have hT : ∀ w ∈ TB, w.before _ s = true := fun w h => hts w (List.mem_cons_of_mem _ h)
  have hown : s.vm.findClass "MeasuredStages" = some m.cls := findClass_of_methodNamed B.named
  have hlocks := B.notSynchronized
  have hl := lv_entry ([.long a, .long b]) (n := 6) (Nat.le_of_ble_eq_true rfl)
  rw [lg_entry_eq]
  generalize (lg_sl ([.long a, .long b]) ++ List.replicate (6 - (lg_sl ([.long a, .long b])).length) Slot.unset).toArray = ls at hl ⊢
  have hl : lv_has ls 6 [(0, .long a), (2, .long b)] := hl
  refine lv_lload_n hx hb d_ms_hash_0 rfl (lv_at hl 0 rfl) ?_
  refine lv_ldc2 (v := 1442695040888963407) hx hb hown (hT _ tb_140) d_ms_hash_1 ?_
  refine lv_lxor hx hb d_ms_hash_4 ?_
  refine lv_ldc2 (v := 6364136223846793005) hx hb hown (hT _ tb_141) d_ms_hash_5 ?_
  refine lv_lmul hx hb d_ms_hash_8 ?_
  refine lv_lload_n hx hb d_ms_hash_9 rfl (lv_at hl 1 rfl) ?_
  refine lv_ladd hx hb d_ms_hash_10 ?_
  refine lv_lstore (nL := 6) (lv' := [(4, .long (((a ^^^ (1442695040888963407)) * (6364136223846793005)) + b)), (0, .long a), (2, .long b)]) hx hb d_ms_hash_11 hl (by decide) rfl (fun ls hl => ?_)
  refine lv_lload hx hb d_ms_hash_13 (lv_at hl 0 rfl) ?_
  refine lv_lload hx hb d_ms_hash_15 (lv_at hl 0 rfl) ?_
  refine lv_bipush (v := 32) hx hb d_ms_hash_17 (by decide) ?_
  refine lv_lushr (v := sp_sh (((a ^^^ (1442695040888963407)) * (6364136223846793005)) + b) (32)) hx hb d_ms_hash_19 rfl ?_
  refine lv_lxor hx hb d_ms_hash_20 ?_
  refine lv_lstore (nL := 6) (lv' := [(4, .long ((((a ^^^ (1442695040888963407)) * (6364136223846793005)) + b) ^^^ (sp_sh (((a ^^^ (1442695040888963407)) * (6364136223846793005)) + b) (32)))), (0, .long a), (2, .long b)]) hx hb d_ms_hash_21 hl (by decide) rfl (fun ls hl => ?_)
  refine lv_lload hx hb d_ms_hash_23 (lv_at hl 0 rfl) ?_
  refine lv_ldc2 (v := 2862933555777941757) hx hb hown (hT _ tb_142) d_ms_hash_25 ?_
  refine lv_lmul hx hb d_ms_hash_28 ?_
  refine lv_lstore (nL := 6) (lv' := [(4, .long (((((a ^^^ (1442695040888963407)) * (6364136223846793005)) + b) ^^^ (sp_sh (((a ^^^ (1442695040888963407)) * (6364136223846793005)) + b) (32))) * (2862933555777941757))), (0, .long a), (2, .long b)]) hx hb d_ms_hash_29 hl (by decide) rfl (fun ls hl => ?_)
  refine lv_lload hx hb d_ms_hash_31 (lv_at hl 0 rfl) ?_
  refine lv_lload hx hb d_ms_hash_33 (lv_at hl 0 rfl) ?_
  refine lv_bipush (v := 29) hx hb d_ms_hash_35 (by decide) ?_
  refine lv_lushr (v := sp_sh (((((a ^^^ (1442695040888963407)) * (6364136223846793005)) + b) ^^^ (sp_sh (((a ^^^ (1442695040888963407)) * (6364136223846793005)) + b) (32))) * (2862933555777941757)) (29)) hx hb d_ms_hash_37 rfl ?_
  refine lv_lxor hx hb d_ms_hash_38 ?_
  exact W.lret (v := (((((a ^^^ (1442695040888963407)) * (6364136223846793005)) + b) ^^^ (sp_sh (((a ^^^ (1442695040888963407)) * (6364136223846793005)) + b) (32))) * (2862933555777941757)) ^^^ (sp_sh (((((a ^^^ (1442695040888963407)) * (6364136223846793005)) + b) ^^^ (sp_sh (((a ^^^ (1442695040888963407)) * (6364136223846793005)) + b) (32))) * (2862933555777941757)) (29))) hx hb hret (fun t ht hW => ⟨_, rfl, rfl, ht⟩) (fun q h => by cases h) d_ms_hash_39
set_option maxHeartbeats 4000000 in
set_option maxRecDepth 100000 in
theorem c_md_h (l : Launch) (a b : Int64)  : Met l y_md_h (Cond.code y_md_h b_md_h 6 (some .long) :: TB) { frames := 0, cells := 0, slots := 0, locals := 0 } (va_Pc [.long a, .long b] (fun _ => True)) (vp_Sl (fun r => r = sp_h a b)) 0 0 (fun _ => False) := by
  refine Met.ofW (cc := b_md_h) (maxL := 6) (ret := (some .long)) (by decide) rfl ?_
  intro p e s m args below meth c s₁ B hml hv
  obtain ⟨rfl, -⟩ := hv
  have hx := B.exec
  have hb := B.bytes
  have hret := B.returns
  have hts := atoms_spec (ws := Cond.code y_md_h b_md_h 6 (some .long) :: TB) B.pre
  have hT : ∀ w ∈ TB, w.before _ s = true := fun w h => hts w (List.mem_cons_of_mem _ h)
  have hown : s.vm.findClass "MeasuredStagesModel" = some m.cls := findClass_of_methodNamed B.named
  have hlocks := B.notSynchronized
  have hl := lv_entry ([.long a, .long b]) (n := 6) (Nat.le_of_ble_eq_true rfl)
  rw [lg_entry_eq]
  generalize (lg_sl ([.long a, .long b]) ++ List.replicate (6 - (lg_sl ([.long a, .long b])).length) Slot.unset).toArray = ls at hl ⊢
  have hl : lv_has ls 6 [(0, .long a), (2, .long b)] := hl
  refine lv_lload_n hx hb d_md_h_0 rfl (lv_at hl 0 rfl) ?_
  refine lv_ldc2 (v := 1442695040888963407) hx hb hown (hT _ tb_537) d_md_h_1 ?_
  refine lv_lxor hx hb d_md_h_4 ?_
  refine lv_ldc2 (v := 6364136223846793005) hx hb hown (hT _ tb_538) d_md_h_5 ?_
  refine lv_lmul hx hb d_md_h_8 ?_
  refine lv_lload_n hx hb d_md_h_9 rfl (lv_at hl 1 rfl) ?_
  refine lv_ladd hx hb d_md_h_10 ?_
  refine lv_lstore (nL := 6) (lv' := [(4, .long (((a ^^^ (1442695040888963407)) * (6364136223846793005)) + b)), (0, .long a), (2, .long b)]) hx hb d_md_h_11 hl (by decide) rfl (fun ls hl => ?_)
  refine lv_lload hx hb d_md_h_13 (lv_at hl 0 rfl) ?_
  refine lv_lload hx hb d_md_h_15 (lv_at hl 0 rfl) ?_
  refine lv_bipush (v := 32) hx hb d_md_h_17 (by decide) ?_
  refine lv_lushr (v := sp_sh (((a ^^^ (1442695040888963407)) * (6364136223846793005)) + b) (32)) hx hb d_md_h_19 rfl ?_
  refine lv_lxor hx hb d_md_h_20 ?_
  refine lv_lstore (nL := 6) (lv' := [(4, .long ((((a ^^^ (1442695040888963407)) * (6364136223846793005)) + b) ^^^ (sp_sh (((a ^^^ (1442695040888963407)) * (6364136223846793005)) + b) (32)))), (0, .long a), (2, .long b)]) hx hb d_md_h_21 hl (by decide) rfl (fun ls hl => ?_)
  refine lv_lload hx hb d_md_h_23 (lv_at hl 0 rfl) ?_
  refine lv_ldc2 (v := 2862933555777941757) hx hb hown (hT _ tb_539) d_md_h_25 ?_
  refine lv_lmul hx hb d_md_h_28 ?_
  refine lv_lstore (nL := 6) (lv' := [(4, .long (((((a ^^^ (1442695040888963407)) * (6364136223846793005)) + b) ^^^ (sp_sh (((a ^^^ (1442695040888963407)) * (6364136223846793005)) + b) (32))) * (2862933555777941757))), (0, .long a), (2, .long b)]) hx hb d_md_h_29 hl (by decide) rfl (fun ls hl => ?_)
  refine lv_lload hx hb d_md_h_31 (lv_at hl 0 rfl) ?_
  refine lv_lload hx hb d_md_h_33 (lv_at hl 0 rfl) ?_
  refine lv_bipush (v := 29) hx hb d_md_h_35 (by decide) ?_
  refine lv_lushr (v := sp_sh (((((a ^^^ (1442695040888963407)) * (6364136223846793005)) + b) ^^^ (sp_sh (((a ^^^ (1442695040888963407)) * (6364136223846793005)) + b) (32))) * (2862933555777941757)) (29)) hx hb d_md_h_37 rfl ?_
  refine lv_lxor hx hb d_md_h_38 ?_
  exact W.lret (v := (((((a ^^^ (1442695040888963407)) * (6364136223846793005)) + b) ^^^ (sp_sh (((a ^^^ (1442695040888963407)) * (6364136223846793005)) + b) (32))) * (2862933555777941757)) ^^^ (sp_sh (((((a ^^^ (1442695040888963407)) * (6364136223846793005)) + b) ^^^ (sp_sh (((a ^^^ (1442695040888963407)) * (6364136223846793005)) + b) (32))) * (2862933555777941757)) (29))) hx hb hret (fun t ht hW => ⟨_, rfl, rfl, ht⟩) (fun q h => by cases h) d_md_h_39
set_option maxHeartbeats 4000000 in
set_option maxRecDepth 100000 in
theorem c_ms_isImage (l : Launch) (n : Int32)  : Met l y_ms_isImage (Cond.code y_ms_isImage b_ms_isImage 1 (some .boolean) :: TB) { frames := 0, cells := 0, slots := 0, locals := 0 } (va_Pc [.int n] (fun _ => True)) (vp_Si (fun r => r = sp_rg n 8)) 0 0 (fun _ => False) := by
  refine Met.ofW (cc := b_ms_isImage) (maxL := 1) (ret := (some .boolean)) (by decide) rfl ?_
  intro p e s m args below meth c s₁ B hml hv
  obtain ⟨rfl, -⟩ := hv
  have hx := B.exec
  have hb := B.bytes
  have hret := B.returns
  have hts := atoms_spec (ws := Cond.code y_ms_isImage b_ms_isImage 1 (some .boolean) :: TB) B.pre
  have hT : ∀ w ∈ TB, w.before _ s = true := fun w h => hts w (List.mem_cons_of_mem _ h)
  have hown : s.vm.findClass "MeasuredStages" = some m.cls := findClass_of_methodNamed B.named
  have hlocks := B.notSynchronized
  have hl := lv_entry ([.int n]) (n := 1) (Nat.le_of_ble_eq_true rfl)
  rw [lg_entry_eq]
  generalize (lg_sl ([.int n]) ++ List.replicate (1 - (lg_sl ([.int n])).length) Slot.unset).toArray = ls at hl ⊢
  have hl : lv_has ls 1 [(0, .int n)] := hl
  refine lv_iload_n hx hb d_ms_isImage_0 rfl (lv_at hl 0 rfl) ?_
  refine lv_if_lt hx hb d_ms_isImage_1 (tgt := 14) (by decide) (fun h1 => ?_) (fun h1 => ?_)
  · skip
    refine lv_iconst (v := 0) hx hb d_ms_isImage_14 (by decide) ?_
    exact W.zret (v := 0) hx hb hret rfl (fun t ht hW => ⟨_, rfl, by simp [sp_rg, h1], ht⟩) (fun q h => by cases h) d_ms_isImage_15
  · skip
    refine lv_iload_n hx hb d_ms_isImage_4 rfl (lv_at hl 0 rfl) ?_
    refine lv_bipush (v := 8) hx hb d_ms_isImage_5 (by decide) ?_
    refine lv_icmp_ge hx hb d_ms_isImage_7 (tgt := 14) (by decide) (fun h2 => ?_) (fun h2 => ?_)
    · skip
      refine lv_iconst (v := 0) hx hb d_ms_isImage_14 (by decide) ?_
      exact W.zret (v := 0) hx hb hret rfl (fun t ht hW => ⟨_, rfl, by simp [sp_rg, h1, h2], ht⟩) (fun q h => by cases h) d_ms_isImage_15
    · skip
      refine lv_iconst (v := 1) hx hb d_ms_isImage_10 (by decide) ?_
      refine lv_goto hx hb d_ms_isImage_11 (tgt := 15) (by decide) ?_
      exact W.zret (v := 1) hx hb hret rfl (fun t ht hW => ⟨_, rfl, by simp [sp_rg, h1, h2], ht⟩) (fun q h => by cases h) d_ms_isImage_15
set_option maxHeartbeats 4000000 in
set_option maxRecDepth 100000 in
theorem c_rg_isRegister (l : Launch) (n : Int32)  : Met l y_rg_isRegister (Cond.code y_rg_isRegister b_rg_isRegister 1 (some .boolean) :: TB) { frames := 0, cells := 0, slots := 0, locals := 0 } (va_Pc [.int n] (fun _ => True)) (vp_Si (fun r => r = sp_rg n 6)) 0 0 (fun _ => False) := by
  refine Met.ofW (cc := b_rg_isRegister) (maxL := 1) (ret := (some .boolean)) (by decide) rfl ?_
  intro p e s m args below meth c s₁ B hml hv
  obtain ⟨rfl, -⟩ := hv
  have hx := B.exec
  have hb := B.bytes
  have hret := B.returns
  have hts := atoms_spec (ws := Cond.code y_rg_isRegister b_rg_isRegister 1 (some .boolean) :: TB) B.pre
  have hT : ∀ w ∈ TB, w.before _ s = true := fun w h => hts w (List.mem_cons_of_mem _ h)
  have hown : s.vm.findClass "MeasuredStages$Registers" = some m.cls := findClass_of_methodNamed B.named
  have hlocks := B.notSynchronized
  have hl := lv_entry ([.int n]) (n := 1) (Nat.le_of_ble_eq_true rfl)
  rw [lg_entry_eq]
  generalize (lg_sl ([.int n]) ++ List.replicate (1 - (lg_sl ([.int n])).length) Slot.unset).toArray = ls at hl ⊢
  have hl : lv_has ls 1 [(0, .int n)] := hl
  refine lv_iload_n hx hb d_rg_isRegister_0 rfl (lv_at hl 0 rfl) ?_
  refine lv_if_lt hx hb d_rg_isRegister_1 (tgt := 14) (by decide) (fun h1 => ?_) (fun h1 => ?_)
  · skip
    refine lv_iconst (v := 0) hx hb d_rg_isRegister_14 (by decide) ?_
    exact W.zret (v := 0) hx hb hret rfl (fun t ht hW => ⟨_, rfl, by simp [sp_rg, h1], ht⟩) (fun q h => by cases h) d_rg_isRegister_15
  · skip
    refine lv_iload_n hx hb d_rg_isRegister_4 rfl (lv_at hl 0 rfl) ?_
    refine lv_bipush (v := 6) hx hb d_rg_isRegister_5 (by decide) ?_
    refine lv_icmp_ge hx hb d_rg_isRegister_7 (tgt := 14) (by decide) (fun h2 => ?_) (fun h2 => ?_)
    · skip
      refine lv_iconst (v := 0) hx hb d_rg_isRegister_14 (by decide) ?_
      exact W.zret (v := 0) hx hb hret rfl (fun t ht hW => ⟨_, rfl, by simp [sp_rg, h1, h2], ht⟩) (fun q h => by cases h) d_rg_isRegister_15
    · skip
      refine lv_iconst (v := 1) hx hb d_rg_isRegister_10 (by decide) ?_
      refine lv_goto hx hb d_rg_isRegister_11 (tgt := 15) (by decide) ?_
      exact W.zret (v := 1) hx hb hret rfl (fun t ht hW => ⟨_, rfl, by simp [sp_rg, h1, h2], ht⟩) (fun q h => by cases h) d_rg_isRegister_15
set_option maxHeartbeats 4000000 in
set_option maxRecDepth 100000 in
theorem c_ms_isMask (l : Launch) (n : Int32)  : Met l y_ms_isMask (Cond.code y_ms_isMask b_ms_isMask 1 (some .boolean) :: TB) { frames := 0, cells := 0, slots := 0, locals := 0 } (va_Pc [.int n] (fun _ => True)) (vp_Si (fun r => r = sp_mk n)) 0 0 (fun _ => False) := by
  refine Met.ofW (cc := b_ms_isMask) (maxL := 1) (ret := (some .boolean)) (by decide) rfl ?_
  intro p e s m args below meth c s₁ B hml hv
  obtain ⟨rfl, -⟩ := hv
  have hx := B.exec
  have hb := B.bytes
  have hret := B.returns
  have hts := atoms_spec (ws := Cond.code y_ms_isMask b_ms_isMask 1 (some .boolean) :: TB) B.pre
  have hT : ∀ w ∈ TB, w.before _ s = true := fun w h => hts w (List.mem_cons_of_mem _ h)
  have hown : s.vm.findClass "MeasuredStages" = some m.cls := findClass_of_methodNamed B.named
  have hlocks := B.notSynchronized
  have hl := lv_entry ([.int n]) (n := 1) (Nat.le_of_ble_eq_true rfl)
  rw [lg_entry_eq]
  generalize (lg_sl ([.int n]) ++ List.replicate (1 - (lg_sl ([.int n])).length) Slot.unset).toArray = ls at hl ⊢
  have hl : lv_has ls 1 [(0, .int n)] := hl
  refine lv_iload_n hx hb d_ms_isMask_0 rfl (lv_at hl 0 rfl) ?_
  refine lv_iconst (v := 1) hx hb d_ms_isMask_1 (by decide) ?_
  refine lv_icmp_lt hx hb d_ms_isMask_2 (tgt := 15) (by decide) (fun h1 => ?_) (fun h1 => ?_)
  · skip
    refine lv_iconst (v := 0) hx hb d_ms_isMask_15 (by decide) ?_
    exact W.zret (v := 0) hx hb hret rfl (fun t ht hW => ⟨_, rfl, by simp [sp_mk, h1], ht⟩) (fun q h => by cases h) d_ms_isMask_16
  · skip
    refine lv_iload_n hx hb d_ms_isMask_5 rfl (lv_at hl 0 rfl) ?_
    refine lv_bipush (v := 63) hx hb d_ms_isMask_6 (by decide) ?_
    refine lv_icmp_gt hx hb d_ms_isMask_8 (tgt := 15) (by decide) (fun h2 => ?_) (fun h2 => ?_)
    · skip
      refine lv_iconst (v := 0) hx hb d_ms_isMask_15 (by decide) ?_
      exact W.zret (v := 0) hx hb hret rfl (fun t ht hW => ⟨_, rfl, by simp [sp_mk, h1, h2], ht⟩) (fun q h => by cases h) d_ms_isMask_16
    · skip
      refine lv_iconst (v := 1) hx hb d_ms_isMask_11 (by decide) ?_
      refine lv_goto hx hb d_ms_isMask_12 (tgt := 16) (by decide) ?_
      exact W.zret (v := 1) hx hb hret rfl (fun t ht hW => ⟨_, rfl, by simp [sp_mk, h1, h2], ht⟩) (fun q h => by cases h) d_ms_isMask_16
set_option maxHeartbeats 4000000 in
set_option maxRecDepth 100000 in
theorem c_md_operands (l : Launch) (n : Int32)  : Met l y_md_operands (Cond.code y_md_operands b_md_operands 1 (some .int) :: TB) { frames := 0, cells := 0, slots := 0, locals := 0 } (va_Pc [.int n] (fun _ => True)) (vp_Si (fun r => r = sp_op n)) 0 0 (fun _ => False) := by
  refine Met.ofW (cc := b_md_operands) (maxL := 1) (ret := (some .int)) (by decide) rfl ?_
  intro p e s m args below meth c s₁ B hml hv
  obtain ⟨rfl, -⟩ := hv
  have hx := B.exec
  have hb := B.bytes
  have hret := B.returns
  have hts := atoms_spec (ws := Cond.code y_md_operands b_md_operands 1 (some .int) :: TB) B.pre
  have hT : ∀ w ∈ TB, w.before _ s = true := fun w h => hts w (List.mem_cons_of_mem _ h)
  have hown : s.vm.findClass "MeasuredStagesModel" = some m.cls := findClass_of_methodNamed B.named
  have hlocks := B.notSynchronized
  have hl := lv_entry ([.int n]) (n := 1) (Nat.le_of_ble_eq_true rfl)
  rw [lg_entry_eq]
  generalize (lg_sl ([.int n]) ++ List.replicate (1 - (lg_sl ([.int n])).length) Slot.unset).toArray = ls at hl ⊢
  have hl : lv_has ls 1 [(0, .int n)] := hl
  refine lv_iload_n hx hb d_md_operands_0 rfl (lv_at hl 0 rfl) ?_
  refine lv_if_ne hx hb d_md_operands_1 (tgt := 8) (by decide) (fun h1 => ?_) (fun h1 => ?_)
  · skip
    refine lv_iload_n hx hb d_md_operands_8 rfl (lv_at hl 0 rfl) ?_
    refine lv_iconst (v := 2) hx hb d_md_operands_9 (by decide) ?_
    refine lv_icmp_ne hx hb d_md_operands_10 (tgt := 17) (by decide) (fun h2 => ?_) (fun h2 => ?_)
    · skip
      refine lv_iconst (v := 1) hx hb d_md_operands_17 (by decide) ?_
      exact W.iret (v := 1) hx hb hret (fun t ht hW => ⟨_, rfl, by simp [sp_op, h1, h2], ht⟩) (fun q h => by cases h) d_md_operands_18
    · skip
      refine lv_iconst (v := 2) hx hb d_md_operands_13 (by decide) ?_
      refine lv_goto hx hb d_md_operands_14 (tgt := 18) (by decide) ?_
      exact W.iret (v := 2) hx hb hret (fun t ht hW => ⟨_, rfl, by simp [sp_op, h1, h2], ht⟩) (fun q h => by cases h) d_md_operands_18
  · skip
    refine lv_iconst (v := 0) hx hb d_md_operands_4 (by decide) ?_
    refine lv_goto hx hb d_md_operands_5 (tgt := 18) (by decide) ?_
    exact W.iret (v := 0) hx hb hret (fun t ht hW => ⟨_, rfl, by simp [sp_op, h1], ht⟩) (fun q h => by cases h) d_md_operands_18
end
section
/-- blob k is taken, as an answer -/
def sp_tk (ma : Nat → Int32) (k : Int32) : Int32 := if k < 0 then 0 else if 8 ≤ k then 0 else if ma k.toNatClampNeg = 0 then 0 else 1
/-- blob k is open, as an answer -/
def sp_on (u : Sg) (k : Int32) : Int32 := if sg_po u k.toNatClampNeg = sp_po u (sg_ma u k.toNatClampNeg) then 1 else 0
/-- image n is approved as it is, as an answer -/
def sp_ia (u : Sg) (n : Int32) : Int32 := if sg_ap u n.toNatClampNeg = 0 then 0 else if sg_ag u n.toNatClampNeg = sp_di u n then 1 else 0
/-- a loop that counts up to N -/
theorem wl_up {p : Program} {l : Launch} {e : Env} {R : Room} {s : State} {m : MethodId} {args : Array Value} {below : List Frame} {meth : Method} {c : Code} {cells slots : Nat} {Q : State → Prop} {α : Type} (N : Nat) (P : Nat → Heap → List Loc → Array Slot → α → Prop) (head : Nat)
    (exit : ∀ (H : Heap) (L : List Loc) (ls : Array Slot) (a : α), P N H L ls a → W p l e R s m args below meth c H L cells slots Q (F0 m head ls []))
    (step : ∀ (r : Nat) (H : Heap) (L : List Loc) (ls : Array Slot) (a : α), r < N → P r H L ls a → (∀ (H' : Heap) (L' : List Loc) (ls' : Array Slot) (a' : α), P (r + 1) H' L' ls' a' → W p l e R s m args below meth c H' L' cells slots Q (F0 m head ls' [])) → W p l e R s m args below meth c H L cells slots Q (F0 m head ls [])) :
    ∀ (r : Nat) (H : Heap) (L : List Loc) (ls : Array Slot) (a : α), r ≤ N → P r H L ls a → W p l e R s m args below meth c H L cells slots Q (F0 m head ls []) := by
  intro r
  induction hk : N - r generalizing r with
  | zero =>
    intro H L ls a hr hP
    have : r = N := by omega
    subst this
    exact exit H L ls a hP
  | succ k ih =>
    intro H L ls a hr hP
    exact step r H L ls a (by omega) hP (fun H' L' ls' a' h' => ih (r + 1) (by omega) H' L' ls' a' (by omega) h')
theorem d_bl_isTaken_0 : decode b_bl_isTaken 0 = .ok (.iload_n 1, 1) := by decide +kernel
theorem d_bl_isTaken_1 : decode b_bl_isTaken 1 = .ok (.ifCond .lt 22, 3) := by decide +kernel
theorem d_bl_isTaken_4 : decode b_bl_isTaken 4 = .ok (.iload_n 1, 1) := by decide +kernel
theorem d_bl_isTaken_5 : decode b_bl_isTaken 5 = .ok (.bipush 8, 2) := by decide +kernel
theorem d_bl_isTaken_7 : decode b_bl_isTaken 7 = .ok (.if_icmp .ge 16, 3) := by decide +kernel
theorem d_bl_isTaken_10 : decode b_bl_isTaken 10 = .ok (.aload_n 0, 1) := by decide +kernel
theorem d_bl_isTaken_11 : decode b_bl_isTaken 11 = .ok (.getfield 9, 3) := by decide +kernel
theorem d_bl_isTaken_14 : decode b_bl_isTaken 14 = .ok (.iload_n 1, 1) := by decide +kernel
theorem d_bl_isTaken_15 : decode b_bl_isTaken 15 = .ok (.iaload, 1) := by decide +kernel
theorem d_bl_isTaken_16 : decode b_bl_isTaken 16 = .ok (.ifCond .eq 7, 3) := by decide +kernel
theorem d_bl_isTaken_19 : decode b_bl_isTaken 19 = .ok (.iconst 1, 1) := by decide +kernel
theorem d_bl_isTaken_20 : decode b_bl_isTaken 20 = .ok (.goto 4, 3) := by decide +kernel
theorem d_bl_isTaken_23 : decode b_bl_isTaken 23 = .ok (.iconst 0, 1) := by decide +kernel
theorem d_bl_isTaken_24 : decode b_bl_isTaken 24 = .ok (.ireturn, 1) := by decide +kernel
theorem d_bl_leastFree_0 : decode b_bl_leastFree 0 = .ok (.iconst 0, 1) := by decide +kernel
theorem d_bl_leastFree_1 : decode b_bl_leastFree 1 = .ok (.istore_n 1, 1) := by decide +kernel
theorem d_bl_leastFree_2 : decode b_bl_leastFree 2 = .ok (.iload_n 1, 1) := by decide +kernel
theorem d_bl_leastFree_3 : decode b_bl_leastFree 3 = .ok (.bipush 8, 2) := by decide +kernel
theorem d_bl_leastFree_5 : decode b_bl_leastFree 5 = .ok (.if_icmp .ge 20, 3) := by decide +kernel
theorem d_bl_leastFree_8 : decode b_bl_leastFree 8 = .ok (.aload_n 0, 1) := by decide +kernel
theorem d_bl_leastFree_9 : decode b_bl_leastFree 9 = .ok (.getfield 9, 3) := by decide +kernel
theorem d_bl_leastFree_12 : decode b_bl_leastFree 12 = .ok (.iload_n 1, 1) := by decide +kernel
theorem d_bl_leastFree_13 : decode b_bl_leastFree 13 = .ok (.iaload, 1) := by decide +kernel
theorem d_bl_leastFree_14 : decode b_bl_leastFree 14 = .ok (.ifCond .ne 5, 3) := by decide +kernel
theorem d_bl_leastFree_17 : decode b_bl_leastFree 17 = .ok (.iload_n 1, 1) := by decide +kernel
theorem d_bl_leastFree_18 : decode b_bl_leastFree 18 = .ok (.ireturn, 1) := by decide +kernel
theorem d_bl_leastFree_19 : decode b_bl_leastFree 19 = .ok (.iinc 1 1, 3) := by decide +kernel
theorem d_bl_leastFree_22 : decode b_bl_leastFree 22 = .ok (.goto (-20), 3) := by decide +kernel
theorem d_bl_leastFree_25 : decode b_bl_leastFree 25 = .ok (.iconst (-1), 1) := by decide +kernel
theorem d_bl_leastFree_26 : decode b_bl_leastFree 26 = .ok (.ireturn, 1) := by decide +kernel
theorem d_rg_hasEvent_0 : decode b_rg_hasEvent 0 = .ok (.iload_n 1, 1) := by decide +kernel
theorem d_rg_hasEvent_1 : decode b_rg_hasEvent 1 = .ok (.ifCond .lt 15, 3) := by decide +kernel
theorem d_rg_hasEvent_4 : decode b_rg_hasEvent 4 = .ok (.iload_n 1, 1) := by decide +kernel
theorem d_rg_hasEvent_5 : decode b_rg_hasEvent 5 = .ok (.aload_n 0, 1) := by decide +kernel
theorem d_rg_hasEvent_6 : decode b_rg_hasEvent 6 = .ok (.getfield 25, 3) := by decide +kernel
theorem d_rg_hasEvent_9 : decode b_rg_hasEvent 9 = .ok (.if_icmp .ge 7, 3) := by decide +kernel
theorem d_rg_hasEvent_12 : decode b_rg_hasEvent 12 = .ok (.iconst 1, 1) := by decide +kernel
theorem d_rg_hasEvent_13 : decode b_rg_hasEvent 13 = .ok (.goto 4, 3) := by decide +kernel
theorem d_rg_hasEvent_16 : decode b_rg_hasEvent 16 = .ok (.iconst 0, 1) := by decide +kernel
theorem d_rg_hasEvent_17 : decode b_rg_hasEvent 17 = .ok (.ireturn, 1) := by decide +kernel
theorem d_rg_policyOf_0 : decode b_rg_policyOf 0 = .ok (.ldc2_w 39, 3) := by decide +kernel
theorem d_rg_policyOf_3 : decode b_rg_policyOf 3 = .ok (.iload_n 1, 1) := by decide +kernel
theorem d_rg_policyOf_4 : decode b_rg_policyOf 4 = .ok (.i2l, 1) := by decide +kernel
theorem d_rg_policyOf_5 : decode b_rg_policyOf 5 = .ok (.invokestatic 35, 3) := by decide +kernel
theorem d_rg_policyOf_8 : decode b_rg_policyOf 8 = .ok (.lstore_n 2, 1) := by decide +kernel
theorem d_rg_policyOf_9 : decode b_rg_policyOf 9 = .ok (.iconst 0, 1) := by decide +kernel
theorem d_rg_policyOf_10 : decode b_rg_policyOf 10 = .ok (.istore 4, 2) := by decide +kernel
theorem d_rg_policyOf_12 : decode b_rg_policyOf 12 = .ok (.iload 4, 2) := by decide +kernel
theorem d_rg_policyOf_14 : decode b_rg_policyOf 14 = .ok (.bipush 6, 2) := by decide +kernel
theorem d_rg_policyOf_16 : decode b_rg_policyOf 16 = .ok (.if_icmp .ge 31, 3) := by decide +kernel
theorem d_rg_policyOf_19 : decode b_rg_policyOf 19 = .ok (.iload_n 1, 1) := by decide +kernel
theorem d_rg_policyOf_20 : decode b_rg_policyOf 20 = .ok (.iload 4, 2) := by decide +kernel
theorem d_rg_policyOf_22 : decode b_rg_policyOf 22 = .ok (.ishr, 1) := by decide +kernel
theorem d_rg_policyOf_23 : decode b_rg_policyOf 23 = .ok (.iconst 1, 1) := by decide +kernel
theorem d_rg_policyOf_24 : decode b_rg_policyOf 24 = .ok (.iand, 1) := by decide +kernel
theorem d_rg_policyOf_25 : decode b_rg_policyOf 25 = .ok (.iconst 1, 1) := by decide +kernel
theorem d_rg_policyOf_26 : decode b_rg_policyOf 26 = .ok (.if_icmp .ne 15, 3) := by decide +kernel
theorem d_rg_policyOf_29 : decode b_rg_policyOf 29 = .ok (.lload_n 2, 1) := by decide +kernel
theorem d_rg_policyOf_30 : decode b_rg_policyOf 30 = .ok (.aload_n 0, 1) := by decide +kernel
theorem d_rg_policyOf_31 : decode b_rg_policyOf 31 = .ok (.getfield 11, 3) := by decide +kernel
theorem d_rg_policyOf_34 : decode b_rg_policyOf 34 = .ok (.iload 4, 2) := by decide +kernel
theorem d_rg_policyOf_36 : decode b_rg_policyOf 36 = .ok (.laload, 1) := by decide +kernel
theorem d_rg_policyOf_37 : decode b_rg_policyOf 37 = .ok (.invokestatic 35, 3) := by decide +kernel
theorem d_rg_policyOf_40 : decode b_rg_policyOf 40 = .ok (.lstore_n 2, 1) := by decide +kernel
theorem d_rg_policyOf_41 : decode b_rg_policyOf 41 = .ok (.iinc 4 1, 3) := by decide +kernel
theorem d_rg_policyOf_44 : decode b_rg_policyOf 44 = .ok (.goto (-32), 3) := by decide +kernel
theorem d_rg_policyOf_47 : decode b_rg_policyOf 47 = .ok (.lload_n 2, 1) := by decide +kernel
theorem d_rg_policyOf_48 : decode b_rg_policyOf 48 = .ok (.lreturn, 1) := by decide +kernel
theorem d_ms_digestOf_0 : decode b_ms_digestOf 0 = .ok (.ldc2_w 168, 3) := by decide +kernel
theorem d_ms_digestOf_3 : decode b_ms_digestOf 3 = .ok (.aload_n 0, 1) := by decide +kernel
theorem d_ms_digestOf_4 : decode b_ms_digestOf 4 = .ok (.getfield 9, 3) := by decide +kernel
theorem d_ms_digestOf_7 : decode b_ms_digestOf 7 = .ok (.iload_n 1, 1) := by decide +kernel
theorem d_ms_digestOf_8 : decode b_ms_digestOf 8 = .ok (.laload, 1) := by decide +kernel
theorem d_ms_digestOf_9 : decode b_ms_digestOf 9 = .ok (.invokestatic 158, 3) := by decide +kernel
theorem d_ms_digestOf_12 : decode b_ms_digestOf 12 = .ok (.lreturn, 1) := by decide +kernel
set_option maxHeartbeats 4000000 in
set_option maxRecDepth 100000 in
theorem c_bl_isTaken (l : Launch) (D : va_G) (cs : Nat → ClassId) (ad : Nat → Nat) (sz : Nat) (u : Sg) (j : Jx) (k : Int32)  : Met l y_bl_isTaken (Cond.code y_bl_isTaken b_bl_isTaken 2 (some .boolean) :: TB) { frames := 0, cells := 0, slots := 0, locals := 0 } (va_Pc [.ref (ad 5), .int k] (xw_Pre D cs ad u j sz)) (vp_Si (fun r => r = sp_tk (sg_ma u) k)) 0 0 (fun _ => False) := by
  refine Met.ofW (cc := b_bl_isTaken) (maxL := 2) (ret := (some .boolean)) (by decide) rfl ?_
  intro p e s m args below meth c s₁ B hml hv
  obtain ⟨rfl, hsz, hP, hK, hD, hN⟩ := hv
  have hx := B.exec
  have hb := B.bytes
  have hret := B.returns
  have hts := atoms_spec (ws := Cond.code y_bl_isTaken b_bl_isTaken 2 (some .boolean) :: TB) B.pre
  have hT : ∀ w ∈ TB, w.before _ s = true := fun w h => hts w (List.mem_cons_of_mem _ h)
  have hown : s.vm.findClass "MeasuredStages$Blobs" = some m.cls := findClass_of_methodNamed B.named
  have hlocks := B.notSynchronized
  subst hsz
  have hl := lv_entry ([.ref (ad 5), .int k]) (n := 2) (Nat.le_of_ble_eq_true rfl)
  rw [lg_entry_eq]
  generalize (lg_sl ([.ref (ad 5), .int k]) ++ List.replicate (2 - (lg_sl ([.ref (ad 5), .int k])).length) Slot.unset).toArray = ls at hl ⊢
  have hl : lv_has ls 2 [(0, .ref (ad 5)), (1, .int k)] := hl
  refine lv_iload_n hx hb d_bl_isTaken_0 rfl (lv_at hl 1 rfl) ?_
  refine lv_if_lt hx hb d_bl_isTaken_1 (tgt := 23) (by decide) (fun h1 => ?_) (fun h1 => ?_)
  · skip
    refine lv_iconst (v := 0) hx hb d_bl_isTaken_23 (by decide) ?_
    exact W.zret (v := 0) hx hb hret rfl (fun t ht hW => ⟨_, rfl, by simp [sp_tk, h1], ht⟩) (fun q h => by cases h) d_bl_isTaken_24
  · skip
    refine lv_iload_n hx hb d_bl_isTaken_4 rfl (lv_at hl 1 rfl) ?_
    refine lv_bipush (v := 8) hx hb d_bl_isTaken_5 (by decide) ?_
    refine lv_icmp_ge hx hb d_bl_isTaken_7 (tgt := 23) (by decide) (fun h2 => ?_) (fun h2 => ?_)
    · skip
      refine lv_iconst (v := 0) hx hb d_bl_isTaken_23 (by decide) ?_
      exact W.zret (v := 0) hx hb hret rfl (fun t ht hW => ⟨_, rfl, by simp [sp_tk, h1, h2], ht⟩) (fun q h => by cases h) d_bl_isTaken_24
    · skip
      refine lv_aload_n hx hb d_bl_isTaken_10 rfl (lv_at hl 0 rfl) ?_
      refine va_get (D := D) (ci := 2) (v := .ref (ad 12)) (C := "MeasuredStages$Blobs") (T := F_bl) (N := 3) hx hb hts (fun w h => List.mem_cons_of_mem _ (i_bl w h)) hown hK hP 5 rfl rfl 0 (by decide) (hT _ tb_56) (fun _ h9 => h9) rfl d_bl_isTaken_11 ?_
      refine lv_iload_n hx hb d_bl_isTaken_14 rfl (lv_at hl 1 rfl) ?_
      refine va_iald hx hb hK hP 12 9 rfl rfl (xn_in (by decide) h1 (Int32.not_le.mp h2)) d_bl_isTaken_15 ?_
      refine lv_if_eq hx hb d_bl_isTaken_16 (tgt := 23) (by decide) (fun h3 => ?_) (fun h3 => ?_)
      · skip
        refine lv_iconst (v := 0) hx hb d_bl_isTaken_23 (by decide) ?_
        exact W.zret (v := 0) hx hb hret rfl (fun t ht hW => ⟨_, rfl, by simp [sp_tk, h1, h2, h3], ht⟩) (fun q h => by cases h) d_bl_isTaken_24
      · skip
        refine lv_iconst (v := 1) hx hb d_bl_isTaken_19 (by decide) ?_
        refine lv_goto hx hb d_bl_isTaken_20 (tgt := 24) (by decide) ?_
        exact W.zret (v := 1) hx hb hret rfl (fun t ht hW => ⟨_, rfl, by simp [sp_tk, h1, h2, h3], ht⟩) (fun q h => by cases h) d_bl_isTaken_24
set_option maxHeartbeats 4000000 in
set_option maxRecDepth 100000 in
theorem c_bl_leastFree (l : Launch) (D : va_G) (cs : Nat → ClassId) (ad : Nat → Nat) (sz : Nat) (u : Sg) (j : Jx)   : Met l y_bl_leastFree (Cond.code y_bl_leastFree b_bl_leastFree 2 (some .int) :: TB) { frames := 0, cells := 0, slots := 0, locals := 0 } (va_Pc [.ref (ad 5)] (xw_Pre D cs ad u j sz)) (vp_Si (fun r => r = sp_lf (sg_ma u))) 0 0 (fun _ => False) := by
  refine Met.ofW (cc := b_bl_leastFree) (maxL := 2) (ret := (some .int)) (by decide) rfl ?_
  intro p e s m args below meth c s₁ B hml hv
  obtain ⟨rfl, hsz, hP, hK, hD, hN⟩ := hv
  have hx := B.exec
  have hb := B.bytes
  have hret := B.returns
  have hts := atoms_spec (ws := Cond.code y_bl_leastFree b_bl_leastFree 2 (some .int) :: TB) B.pre
  have hT : ∀ w ∈ TB, w.before _ s = true := fun w h => hts w (List.mem_cons_of_mem _ h)
  have hown : s.vm.findClass "MeasuredStages$Blobs" = some m.cls := findClass_of_methodNamed B.named
  have hlocks := B.notSynchronized
  subst hsz
  have hl := lv_entry ([.ref (ad 5)]) (n := 2) (Nat.le_of_ble_eq_true rfl)
  rw [lg_entry_eq]
  generalize (lg_sl ([.ref (ad 5)]) ++ List.replicate (2 - (lg_sl ([.ref (ad 5)])).length) Slot.unset).toArray = ls at hl ⊢
  have hl : lv_has ls 2 [(0, .ref (ad 5))] := hl
  refine lv_iconst (v := 0) hx hb d_bl_leastFree_0 (by decide) ?_
  refine lv_istore_n (nL := 2) (lv' := [(1, .int (0)), (0, .ref (ad 5))]) hx hb d_bl_leastFree_1 rfl hl (by decide) rfl (fun ls hl => ?_)
  refine lv_iload_n hx hb d_bl_leastFree_2 rfl (lv_at hl 0 rfl) ?_
  refine lv_bipush (v := 8) hx hb d_bl_leastFree_3 (by decide) ?_
  refine lv_icmp_ge hx hb d_bl_leastFree_5 (tgt := 25) (by decide) (fun z => absurd z (by decide)) (fun _ => ?_)
  refine lv_aload_n hx hb d_bl_leastFree_8 rfl (lv_at hl 1 rfl) ?_
  refine va_get (D := D) (ci := 2) (v := .ref (ad 12)) (C := "MeasuredStages$Blobs") (T := F_bl) (N := 3) hx hb hts (fun w h => List.mem_cons_of_mem _ (i_bl w h)) hown hK hP 5 rfl rfl 0 (by decide) (hT _ tb_56) (fun _ h9 => h9) rfl d_bl_leastFree_9 ?_
  refine lv_iload_n hx hb d_bl_leastFree_12 rfl (lv_at hl 0 rfl) ?_
  refine va_iald hx hb hK hP 12 9 rfl rfl (by unfold vp_in; decide) d_bl_leastFree_13 ?_
  refine lv_if_ne hx hb d_bl_leastFree_14 (tgt := 19) (by decide) (fun h1 => ?_) (fun h1 => ?_)
  · skip
    refine lv_iinc (nL := 2) (k := 0) (v := 1) (lv' := [(1, .int (1)), (0, .ref (ad 5))]) hx hb d_bl_leastFree_19 hl rfl (by decide) (by decide) rfl (fun ls hl => ?_)
    refine lv_goto hx hb d_bl_leastFree_22 (tgt := 2) (by decide) ?_
    refine lv_iload_n hx hb d_bl_leastFree_2 rfl (lv_at hl 0 rfl) ?_
    refine lv_bipush (v := 8) hx hb d_bl_leastFree_3 (by decide) ?_
    refine lv_icmp_ge hx hb d_bl_leastFree_5 (tgt := 25) (by decide) (fun z => absurd z (by decide)) (fun _ => ?_)
    refine lv_aload_n hx hb d_bl_leastFree_8 rfl (lv_at hl 1 rfl) ?_
    refine va_get (D := D) (ci := 2) (v := .ref (ad 12)) (C := "MeasuredStages$Blobs") (T := F_bl) (N := 3) hx hb hts (fun w h => List.mem_cons_of_mem _ (i_bl w h)) hown hK hP 5 rfl rfl 0 (by decide) (hT _ tb_56) (fun _ h9 => h9) rfl d_bl_leastFree_9 ?_
    refine lv_iload_n hx hb d_bl_leastFree_12 rfl (lv_at hl 0 rfl) ?_
    refine va_iald hx hb hK hP 12 9 rfl rfl (by unfold vp_in; decide) d_bl_leastFree_13 ?_
    refine lv_if_ne hx hb d_bl_leastFree_14 (tgt := 19) (by decide) (fun h2 => ?_) (fun h2 => ?_)
    · skip
      refine lv_iinc (nL := 2) (k := 0) (v := 2) (lv' := [(1, .int (2)), (0, .ref (ad 5))]) hx hb d_bl_leastFree_19 hl rfl (by decide) (by decide) rfl (fun ls hl => ?_)
      refine lv_goto hx hb d_bl_leastFree_22 (tgt := 2) (by decide) ?_
      refine lv_iload_n hx hb d_bl_leastFree_2 rfl (lv_at hl 0 rfl) ?_
      refine lv_bipush (v := 8) hx hb d_bl_leastFree_3 (by decide) ?_
      refine lv_icmp_ge hx hb d_bl_leastFree_5 (tgt := 25) (by decide) (fun z => absurd z (by decide)) (fun _ => ?_)
      refine lv_aload_n hx hb d_bl_leastFree_8 rfl (lv_at hl 1 rfl) ?_
      refine va_get (D := D) (ci := 2) (v := .ref (ad 12)) (C := "MeasuredStages$Blobs") (T := F_bl) (N := 3) hx hb hts (fun w h => List.mem_cons_of_mem _ (i_bl w h)) hown hK hP 5 rfl rfl 0 (by decide) (hT _ tb_56) (fun _ h9 => h9) rfl d_bl_leastFree_9 ?_
      refine lv_iload_n hx hb d_bl_leastFree_12 rfl (lv_at hl 0 rfl) ?_
      refine va_iald hx hb hK hP 12 9 rfl rfl (by unfold vp_in; decide) d_bl_leastFree_13 ?_
      refine lv_if_ne hx hb d_bl_leastFree_14 (tgt := 19) (by decide) (fun h3 => ?_) (fun h3 => ?_)
      · skip
        refine lv_iinc (nL := 2) (k := 0) (v := 3) (lv' := [(1, .int (3)), (0, .ref (ad 5))]) hx hb d_bl_leastFree_19 hl rfl (by decide) (by decide) rfl (fun ls hl => ?_)
        refine lv_goto hx hb d_bl_leastFree_22 (tgt := 2) (by decide) ?_
        refine lv_iload_n hx hb d_bl_leastFree_2 rfl (lv_at hl 0 rfl) ?_
        refine lv_bipush (v := 8) hx hb d_bl_leastFree_3 (by decide) ?_
        refine lv_icmp_ge hx hb d_bl_leastFree_5 (tgt := 25) (by decide) (fun z => absurd z (by decide)) (fun _ => ?_)
        refine lv_aload_n hx hb d_bl_leastFree_8 rfl (lv_at hl 1 rfl) ?_
        refine va_get (D := D) (ci := 2) (v := .ref (ad 12)) (C := "MeasuredStages$Blobs") (T := F_bl) (N := 3) hx hb hts (fun w h => List.mem_cons_of_mem _ (i_bl w h)) hown hK hP 5 rfl rfl 0 (by decide) (hT _ tb_56) (fun _ h9 => h9) rfl d_bl_leastFree_9 ?_
        refine lv_iload_n hx hb d_bl_leastFree_12 rfl (lv_at hl 0 rfl) ?_
        refine va_iald hx hb hK hP 12 9 rfl rfl (by unfold vp_in; decide) d_bl_leastFree_13 ?_
        refine lv_if_ne hx hb d_bl_leastFree_14 (tgt := 19) (by decide) (fun h4 => ?_) (fun h4 => ?_)
        · skip
          refine lv_iinc (nL := 2) (k := 0) (v := 4) (lv' := [(1, .int (4)), (0, .ref (ad 5))]) hx hb d_bl_leastFree_19 hl rfl (by decide) (by decide) rfl (fun ls hl => ?_)
          refine lv_goto hx hb d_bl_leastFree_22 (tgt := 2) (by decide) ?_
          refine lv_iload_n hx hb d_bl_leastFree_2 rfl (lv_at hl 0 rfl) ?_
          refine lv_bipush (v := 8) hx hb d_bl_leastFree_3 (by decide) ?_
          refine lv_icmp_ge hx hb d_bl_leastFree_5 (tgt := 25) (by decide) (fun z => absurd z (by decide)) (fun _ => ?_)
          refine lv_aload_n hx hb d_bl_leastFree_8 rfl (lv_at hl 1 rfl) ?_
          refine va_get (D := D) (ci := 2) (v := .ref (ad 12)) (C := "MeasuredStages$Blobs") (T := F_bl) (N := 3) hx hb hts (fun w h => List.mem_cons_of_mem _ (i_bl w h)) hown hK hP 5 rfl rfl 0 (by decide) (hT _ tb_56) (fun _ h9 => h9) rfl d_bl_leastFree_9 ?_
          refine lv_iload_n hx hb d_bl_leastFree_12 rfl (lv_at hl 0 rfl) ?_
          refine va_iald hx hb hK hP 12 9 rfl rfl (by unfold vp_in; decide) d_bl_leastFree_13 ?_
          refine lv_if_ne hx hb d_bl_leastFree_14 (tgt := 19) (by decide) (fun h5 => ?_) (fun h5 => ?_)
          · skip
            refine lv_iinc (nL := 2) (k := 0) (v := 5) (lv' := [(1, .int (5)), (0, .ref (ad 5))]) hx hb d_bl_leastFree_19 hl rfl (by decide) (by decide) rfl (fun ls hl => ?_)
            refine lv_goto hx hb d_bl_leastFree_22 (tgt := 2) (by decide) ?_
            refine lv_iload_n hx hb d_bl_leastFree_2 rfl (lv_at hl 0 rfl) ?_
            refine lv_bipush (v := 8) hx hb d_bl_leastFree_3 (by decide) ?_
            refine lv_icmp_ge hx hb d_bl_leastFree_5 (tgt := 25) (by decide) (fun z => absurd z (by decide)) (fun _ => ?_)
            refine lv_aload_n hx hb d_bl_leastFree_8 rfl (lv_at hl 1 rfl) ?_
            refine va_get (D := D) (ci := 2) (v := .ref (ad 12)) (C := "MeasuredStages$Blobs") (T := F_bl) (N := 3) hx hb hts (fun w h => List.mem_cons_of_mem _ (i_bl w h)) hown hK hP 5 rfl rfl 0 (by decide) (hT _ tb_56) (fun _ h9 => h9) rfl d_bl_leastFree_9 ?_
            refine lv_iload_n hx hb d_bl_leastFree_12 rfl (lv_at hl 0 rfl) ?_
            refine va_iald hx hb hK hP 12 9 rfl rfl (by unfold vp_in; decide) d_bl_leastFree_13 ?_
            refine lv_if_ne hx hb d_bl_leastFree_14 (tgt := 19) (by decide) (fun h6 => ?_) (fun h6 => ?_)
            · skip
              refine lv_iinc (nL := 2) (k := 0) (v := 6) (lv' := [(1, .int (6)), (0, .ref (ad 5))]) hx hb d_bl_leastFree_19 hl rfl (by decide) (by decide) rfl (fun ls hl => ?_)
              refine lv_goto hx hb d_bl_leastFree_22 (tgt := 2) (by decide) ?_
              refine lv_iload_n hx hb d_bl_leastFree_2 rfl (lv_at hl 0 rfl) ?_
              refine lv_bipush (v := 8) hx hb d_bl_leastFree_3 (by decide) ?_
              refine lv_icmp_ge hx hb d_bl_leastFree_5 (tgt := 25) (by decide) (fun z => absurd z (by decide)) (fun _ => ?_)
              refine lv_aload_n hx hb d_bl_leastFree_8 rfl (lv_at hl 1 rfl) ?_
              refine va_get (D := D) (ci := 2) (v := .ref (ad 12)) (C := "MeasuredStages$Blobs") (T := F_bl) (N := 3) hx hb hts (fun w h => List.mem_cons_of_mem _ (i_bl w h)) hown hK hP 5 rfl rfl 0 (by decide) (hT _ tb_56) (fun _ h9 => h9) rfl d_bl_leastFree_9 ?_
              refine lv_iload_n hx hb d_bl_leastFree_12 rfl (lv_at hl 0 rfl) ?_
              refine va_iald hx hb hK hP 12 9 rfl rfl (by unfold vp_in; decide) d_bl_leastFree_13 ?_
              refine lv_if_ne hx hb d_bl_leastFree_14 (tgt := 19) (by decide) (fun h7 => ?_) (fun h7 => ?_)
              · skip
                refine lv_iinc (nL := 2) (k := 0) (v := 7) (lv' := [(1, .int (7)), (0, .ref (ad 5))]) hx hb d_bl_leastFree_19 hl rfl (by decide) (by decide) rfl (fun ls hl => ?_)
                refine lv_goto hx hb d_bl_leastFree_22 (tgt := 2) (by decide) ?_
                refine lv_iload_n hx hb d_bl_leastFree_2 rfl (lv_at hl 0 rfl) ?_
                refine lv_bipush (v := 8) hx hb d_bl_leastFree_3 (by decide) ?_
                refine lv_icmp_ge hx hb d_bl_leastFree_5 (tgt := 25) (by decide) (fun z => absurd z (by decide)) (fun _ => ?_)
                refine lv_aload_n hx hb d_bl_leastFree_8 rfl (lv_at hl 1 rfl) ?_
                refine va_get (D := D) (ci := 2) (v := .ref (ad 12)) (C := "MeasuredStages$Blobs") (T := F_bl) (N := 3) hx hb hts (fun w h => List.mem_cons_of_mem _ (i_bl w h)) hown hK hP 5 rfl rfl 0 (by decide) (hT _ tb_56) (fun _ h9 => h9) rfl d_bl_leastFree_9 ?_
                refine lv_iload_n hx hb d_bl_leastFree_12 rfl (lv_at hl 0 rfl) ?_
                refine va_iald hx hb hK hP 12 9 rfl rfl (by unfold vp_in; decide) d_bl_leastFree_13 ?_
                refine lv_if_ne hx hb d_bl_leastFree_14 (tgt := 19) (by decide) (fun h8 => ?_) (fun h8 => ?_)
                · skip
                  refine lv_iinc (nL := 2) (k := 0) (v := 8) (lv' := [(1, .int (8)), (0, .ref (ad 5))]) hx hb d_bl_leastFree_19 hl rfl (by decide) (by decide) rfl (fun ls hl => ?_)
                  refine lv_goto hx hb d_bl_leastFree_22 (tgt := 2) (by decide) ?_
                  refine lv_iload_n hx hb d_bl_leastFree_2 rfl (lv_at hl 0 rfl) ?_
                  refine lv_bipush (v := 8) hx hb d_bl_leastFree_3 (by decide) ?_
                  refine lv_icmp_ge hx hb d_bl_leastFree_5 (tgt := 25) (by decide) (fun _ => ?_) (fun z => absurd (by decide) z)
                  refine lv_iconst (v := (-1)) hx hb d_bl_leastFree_25 (by decide) ?_
                  exact W.iret (v := (-1)) hx hb hret (fun t ht hW => ⟨_, rfl, by show _ = sp_lf _; unfold sp_lf; rw [if_neg (show ¬ sg_ma u 0 = 0 from h1), if_neg (show ¬ sg_ma u 1 = 0 from h2), if_neg (show ¬ sg_ma u 2 = 0 from h3), if_neg (show ¬ sg_ma u 3 = 0 from h4), if_neg (show ¬ sg_ma u 4 = 0 from h5), if_neg (show ¬ sg_ma u 5 = 0 from h6), if_neg (show ¬ sg_ma u 6 = 0 from h7), if_neg (show ¬ sg_ma u 7 = 0 from h8)], ht⟩) (fun q h => by cases h) d_bl_leastFree_26
                · skip
                  refine lv_iload_n hx hb d_bl_leastFree_17 rfl (lv_at hl 0 rfl) ?_
                  exact W.iret (v := 7) hx hb hret (fun t ht hW => ⟨_, rfl, by show _ = sp_lf _; unfold sp_lf; rw [if_neg (show ¬ sg_ma u 0 = 0 from h1), if_neg (show ¬ sg_ma u 1 = 0 from h2), if_neg (show ¬ sg_ma u 2 = 0 from h3), if_neg (show ¬ sg_ma u 3 = 0 from h4), if_neg (show ¬ sg_ma u 4 = 0 from h5), if_neg (show ¬ sg_ma u 5 = 0 from h6), if_neg (show ¬ sg_ma u 6 = 0 from h7), if_pos (show sg_ma u 7 = 0 from h8)], ht⟩) (fun q h => by cases h) d_bl_leastFree_18
              · skip
                refine lv_iload_n hx hb d_bl_leastFree_17 rfl (lv_at hl 0 rfl) ?_
                exact W.iret (v := 6) hx hb hret (fun t ht hW => ⟨_, rfl, by show _ = sp_lf _; unfold sp_lf; rw [if_neg (show ¬ sg_ma u 0 = 0 from h1), if_neg (show ¬ sg_ma u 1 = 0 from h2), if_neg (show ¬ sg_ma u 2 = 0 from h3), if_neg (show ¬ sg_ma u 3 = 0 from h4), if_neg (show ¬ sg_ma u 4 = 0 from h5), if_neg (show ¬ sg_ma u 5 = 0 from h6), if_pos (show sg_ma u 6 = 0 from h7)], ht⟩) (fun q h => by cases h) d_bl_leastFree_18
            · skip
              refine lv_iload_n hx hb d_bl_leastFree_17 rfl (lv_at hl 0 rfl) ?_
              exact W.iret (v := 5) hx hb hret (fun t ht hW => ⟨_, rfl, by show _ = sp_lf _; unfold sp_lf; rw [if_neg (show ¬ sg_ma u 0 = 0 from h1), if_neg (show ¬ sg_ma u 1 = 0 from h2), if_neg (show ¬ sg_ma u 2 = 0 from h3), if_neg (show ¬ sg_ma u 3 = 0 from h4), if_neg (show ¬ sg_ma u 4 = 0 from h5), if_pos (show sg_ma u 5 = 0 from h6)], ht⟩) (fun q h => by cases h) d_bl_leastFree_18
          · skip
            refine lv_iload_n hx hb d_bl_leastFree_17 rfl (lv_at hl 0 rfl) ?_
            exact W.iret (v := 4) hx hb hret (fun t ht hW => ⟨_, rfl, by show _ = sp_lf _; unfold sp_lf; rw [if_neg (show ¬ sg_ma u 0 = 0 from h1), if_neg (show ¬ sg_ma u 1 = 0 from h2), if_neg (show ¬ sg_ma u 2 = 0 from h3), if_neg (show ¬ sg_ma u 3 = 0 from h4), if_pos (show sg_ma u 4 = 0 from h5)], ht⟩) (fun q h => by cases h) d_bl_leastFree_18
        · skip
          refine lv_iload_n hx hb d_bl_leastFree_17 rfl (lv_at hl 0 rfl) ?_
          exact W.iret (v := 3) hx hb hret (fun t ht hW => ⟨_, rfl, by show _ = sp_lf _; unfold sp_lf; rw [if_neg (show ¬ sg_ma u 0 = 0 from h1), if_neg (show ¬ sg_ma u 1 = 0 from h2), if_neg (show ¬ sg_ma u 2 = 0 from h3), if_pos (show sg_ma u 3 = 0 from h4)], ht⟩) (fun q h => by cases h) d_bl_leastFree_18
      · skip
        refine lv_iload_n hx hb d_bl_leastFree_17 rfl (lv_at hl 0 rfl) ?_
        exact W.iret (v := 2) hx hb hret (fun t ht hW => ⟨_, rfl, by show _ = sp_lf _; unfold sp_lf; rw [if_neg (show ¬ sg_ma u 0 = 0 from h1), if_neg (show ¬ sg_ma u 1 = 0 from h2), if_pos (show sg_ma u 2 = 0 from h3)], ht⟩) (fun q h => by cases h) d_bl_leastFree_18
    · skip
      refine lv_iload_n hx hb d_bl_leastFree_17 rfl (lv_at hl 0 rfl) ?_
      exact W.iret (v := 1) hx hb hret (fun t ht hW => ⟨_, rfl, by show _ = sp_lf _; unfold sp_lf; rw [if_neg (show ¬ sg_ma u 0 = 0 from h1), if_pos (show sg_ma u 1 = 0 from h2)], ht⟩) (fun q h => by cases h) d_bl_leastFree_18
  · skip
    refine lv_iload_n hx hb d_bl_leastFree_17 rfl (lv_at hl 0 rfl) ?_
    exact W.iret (v := 0) hx hb hret (fun t ht hW => ⟨_, rfl, by show _ = sp_lf _; unfold sp_lf; rw [if_pos (show sg_ma u 0 = 0 from h1)], ht⟩) (fun q h => by cases h) d_bl_leastFree_18
set_option maxHeartbeats 4000000 in
set_option maxRecDepth 100000 in
theorem c_rg_hasEvent (l : Launch) (D : va_G) (cs : Nat → ClassId) (ad : Nat → Nat) (sz : Nat) (u : Sg) (j : Jx) (k : Int32)  : Met l y_rg_hasEvent (Cond.code y_rg_hasEvent b_rg_hasEvent 2 (some .boolean) :: TB) { frames := 0, cells := 0, slots := 0, locals := 0 } (va_Pc [.ref (ad 4), .int k] (xw_Pre D cs ad u j sz)) (vp_Si (fun r => r = sp_rg k (sg_en u))) 0 0 (fun _ => False) := by
  refine Met.ofW (cc := b_rg_hasEvent) (maxL := 2) (ret := (some .boolean)) (by decide) rfl ?_
  intro p e s m args below meth c s₁ B hml hv
  obtain ⟨rfl, hsz, hP, hK, hD, hN⟩ := hv
  have hx := B.exec
  have hb := B.bytes
  have hret := B.returns
  have hts := atoms_spec (ws := Cond.code y_rg_hasEvent b_rg_hasEvent 2 (some .boolean) :: TB) B.pre
  have hT : ∀ w ∈ TB, w.before _ s = true := fun w h => hts w (List.mem_cons_of_mem _ h)
  have hown : s.vm.findClass "MeasuredStages$Registers" = some m.cls := findClass_of_methodNamed B.named
  have hlocks := B.notSynchronized
  subst hsz
  have hl := lv_entry ([.ref (ad 4), .int k]) (n := 2) (Nat.le_of_ble_eq_true rfl)
  rw [lg_entry_eq]
  generalize (lg_sl ([.ref (ad 4), .int k]) ++ List.replicate (2 - (lg_sl ([.ref (ad 4), .int k])).length) Slot.unset).toArray = ls at hl ⊢
  have hl : lv_has ls 2 [(0, .ref (ad 4)), (1, .int k)] := hl
  refine lv_iload_n hx hb d_rg_hasEvent_0 rfl (lv_at hl 1 rfl) ?_
  refine lv_if_lt hx hb d_rg_hasEvent_1 (tgt := 16) (by decide) (fun h1 => ?_) (fun h1 => ?_)
  · skip
    refine lv_iconst (v := 0) hx hb d_rg_hasEvent_16 (by decide) ?_
    exact W.zret (v := 0) hx hb hret rfl (fun t ht hW => ⟨_, rfl, by simp [sp_rg, h1], ht⟩) (fun q h => by cases h) d_rg_hasEvent_17
  · skip
    refine lv_iload_n hx hb d_rg_hasEvent_4 rfl (lv_at hl 1 rfl) ?_
    refine lv_aload_n hx hb d_rg_hasEvent_5 rfl (lv_at hl 0 rfl) ?_
    refine va_get (D := D) (ci := 1) (v := .int (sg_en u)) (C := "MeasuredStages$Registers") (T := F_rg) (N := 5) hx hb hts (fun w h => List.mem_cons_of_mem _ (i_rg w h)) hown hK hP 4 rfl rfl 3 (by decide) (hT _ tb_33) (fun _ h9 => h9) rfl d_rg_hasEvent_6 ?_
    refine lv_icmp_ge hx hb d_rg_hasEvent_9 (tgt := 16) (by decide) (fun h2 => ?_) (fun h2 => ?_)
    · skip
      refine lv_iconst (v := 0) hx hb d_rg_hasEvent_16 (by decide) ?_
      exact W.zret (v := 0) hx hb hret rfl (fun t ht hW => ⟨_, rfl, by simp [sp_rg, h1, h2], ht⟩) (fun q h => by cases h) d_rg_hasEvent_17
    · skip
      refine lv_iconst (v := 1) hx hb d_rg_hasEvent_12 (by decide) ?_
      refine lv_goto hx hb d_rg_hasEvent_13 (tgt := 17) (by decide) ?_
      exact W.zret (v := 1) hx hb hret rfl (fun t ht hW => ⟨_, rfl, by simp [sp_rg, h1, h2], ht⟩) (fun q h => by cases h) d_rg_hasEvent_17
set_option maxHeartbeats 4000000 in
set_option maxRecDepth 100000 in
theorem c_rg_policyOf (l : Launch) (D : va_G) (cs : Nat → ClassId) (ad : Nat → Nat) (sz : Nat) (u : Sg) (j : Jx) (mask : Int32)  : Met l y_rg_policyOf (Cond.code y_rg_policyOf b_rg_policyOf 5 (some .long) :: TB) { frames := 1, cells := 0, slots := 0, locals := 25 } (va_Pc [.ref (ad 4), .int mask] (xw_Pre D cs ad u j sz)) (vp_Sl (fun r => r = sp_po u mask)) 0 0 (fun _ => False) := by
  refine Met.ofW (cc := b_rg_policyOf) (maxL := 5) (ret := (some .long)) (by decide) rfl ?_
  intro p e s m args below meth c s₁ B hml hv
  obtain ⟨rfl, hsz, hP, hK, hD, hN⟩ := hv
  have hx := B.exec
  have hb := B.bytes
  have hret := B.returns
  have hts := atoms_spec (ws := Cond.code y_rg_policyOf b_rg_policyOf 5 (some .long) :: TB) B.pre
  have hT : ∀ w ∈ TB, w.before _ s = true := fun w h => hts w (List.mem_cons_of_mem _ h)
  have hown : s.vm.findClass "MeasuredStages$Registers" = some m.cls := findClass_of_methodNamed B.named
  have hlocks := B.notSynchronized
  subst hsz
  have hl := lv_entry ([.ref (ad 4), .int mask]) (n := 5) (Nat.le_of_ble_eq_true rfl)
  rw [lg_entry_eq]
  generalize (lg_sl ([.ref (ad 4), .int mask]) ++ List.replicate (5 - (lg_sl ([.ref (ad 4), .int mask])).length) Slot.unset).toArray = ls at hl ⊢
  have hl : lv_has ls 5 [(0, .ref (ad 4)), (1, .int mask)] := hl
  refine lv_ldc2 (v := 9) hx hb hown (hT _ tb_304) d_rg_policyOf_0 ?_
  refine lv_iload_n hx hb d_rg_policyOf_3 rfl (lv_at hl 1 rfl) ?_
  refine lv_i2l hx hb d_rg_policyOf_4 rfl ?_
  refine sn_l (v := sp_h (9) (mask.toInt64)) (As := [.long (9), .long (mask.toInt64)]) (rest := []) ⟨hx, hb, hml, hown, hts⟩ (c_ms_hash l 9 (mask.toInt64)) hN tb_138 tb_1 tb_139 hd_ms_hash ⟨Nat.le_of_ble_eq_true rfl, Nat.le_of_ble_eq_true rfl⟩ rfl rfl hl.1 rfl (Nat.le_of_ble_eq_true rfl) d_rg_policyOf_5 ⟨Nat.zero_le _, Nat.zero_le _⟩ ?_
  refine lv_lstore_n (nL := 5) (lv' := [(2, .long (sp_h (9) (mask.toInt64))), (0, .ref (ad 4)), (1, .int mask)]) hx hb d_rg_policyOf_8 rfl hl (by decide) rfl (fun ls hl => ?_)
  refine lv_iconst (v := 0) hx hb d_rg_policyOf_9 (by decide) ?_
  refine lv_istore (nL := 5) (lv' := [(4, .int (0)), (2, .long (sp_h (9) (mask.toInt64))), (0, .ref (ad 4)), (1, .int mask)]) hx hb d_rg_policyOf_10 hl (by decide) rfl (fun ls hl => ?_)
  refine wl_up (α := Unit) 6 (fun r H1 L1 ls _ => H1 = s.heap ∧ L1 = [] ∧ lv_has ls 5 [(4, .int (nI r)), (2, .long (sp_pl (sg_he u) mask r)), (0, .ref (ad 4)), (1, .int mask)]) 12 ?_ ?_ 0 _ _ ls () (Nat.zero_le _) ⟨rfl, rfl, lv_sub hl [0, 1, 2, 3] rfl⟩
  · intro H1 L1 ls _ hI
    obtain ⟨rfl, rfl, hl⟩ := hI
    refine lv_iload hx hb d_rg_policyOf_12 (lv_at hl 0 rfl) ?_
    refine lv_bipush (v := 6) hx hb d_rg_policyOf_14 (by decide) ?_
    refine lv_icmp_ge hx hb d_rg_policyOf_16 (tgt := 47) (by decide) (fun _ => ?_) (fun z => absurd (by decide) z)
    refine lv_lload_n hx hb d_rg_policyOf_47 rfl (lv_at hl 1 rfl) ?_
    exact W.lret (v := sp_pl (sg_he u) mask (6)) hx hb hret (fun t ht hW => ⟨_, rfl, rfl, ht⟩) (fun q h => by cases h) d_rg_policyOf_48
  · intro r H1 L1 ls _ hr hI ih
    obtain ⟨rfl, rfl, hl⟩ := hI
    refine lv_iload hx hb d_rg_policyOf_12 (lv_at hl 0 rfl) ?_
    refine lv_bipush (v := 6) hx hb d_rg_policyOf_14 (by decide) ?_
    refine lv_icmp_ge hx hb d_rg_policyOf_16 (tgt := 47) (by decide) (fun z => absurd z (nI_ge hr (by decide))) (fun _ => ?_)
    refine lv_iload_n hx hb d_rg_policyOf_19 rfl (lv_at hl 3 rfl) ?_
    refine lv_iload hx hb d_rg_policyOf_20 (lv_at hl 0 rfl) ?_
    refine lv_ishr hx hb d_rg_policyOf_22 ?_
    refine lv_iconst (v := 1) hx hb d_rg_policyOf_23 (by decide) ?_
    refine lv_iand hx hb d_rg_policyOf_24 ?_
    refine lv_iconst (v := 1) hx hb d_rg_policyOf_25 (by decide) ?_
    refine lv_icmp_ne hx hb d_rg_policyOf_26 (tgt := 41) (by decide) (fun h1 => ?_) (fun h1 => ?_)
    · skip
      refine lv_iinc (nL := 5) (k := 0) (v := nI (r + 1)) (lv' := [(4, .int (nI (r + 1))), (2, .long (sp_pl (sg_he u) mask r)), (0, .ref (ad 4)), (1, .int mask)]) hx hb d_rg_policyOf_41 hl rfl ((nI_succ r).symm) (by decide) rfl (fun ls hl => ?_)
      refine lv_goto hx hb d_rg_policyOf_44 (tgt := 12) (by decide) ?_
      have e9 : sp_pl (sg_he u) mask (r + 1) = sp_pl (sg_he u) mask r := by
        show (if _ then _ else _) = _
        rw [if_neg h1]
      rw [← e9] at hl
      exact ih _ _ ls () ⟨rfl, rfl, lv_sub hl [0, 1, 2, 3] rfl⟩
    · skip
      refine lv_lload_n hx hb d_rg_policyOf_29 rfl (lv_at hl 1 rfl) ?_
      refine lv_aload_n hx hb d_rg_policyOf_30 rfl (lv_at hl 2 rfl) ?_
      refine va_get (D := D) (ci := 1) (v := .ref (ad 8)) (C := "MeasuredStages$Registers") (T := F_rg) (N := 5) hx hb hts (fun w h => List.mem_cons_of_mem _ (i_rg w h)) hown hK hP 4 rfl rfl 0 (by decide) (hT _ tb_27) (fun _ h9 => h9) rfl d_rg_policyOf_31 ?_
      refine lv_iload hx hb d_rg_policyOf_34 (lv_at hl 0 rfl) ?_
      refine va_lald hx hb hK hP 8 5 rfl rfl (vp_in_nI hr (by decide)) d_rg_policyOf_36 ?_
      refine sn_l (v := sp_h (sp_pl (sg_he u) mask r) (sg_he u (nI r).toNatClampNeg)) (As := [.long (sp_pl (sg_he u) mask r), .long (sg_he u (nI r).toNatClampNeg)]) (rest := []) ⟨hx, hb, hml, hown, hts⟩ (c_ms_hash l (sp_pl (sg_he u) mask r) (sg_he u (nI r).toNatClampNeg)) hN tb_138 tb_1 tb_139 hd_ms_hash ⟨Nat.le_of_ble_eq_true rfl, Nat.le_of_ble_eq_true rfl⟩ rfl rfl hl.1 rfl (Nat.le_of_ble_eq_true rfl) d_rg_policyOf_37 ⟨Nat.zero_le _, Nat.zero_le _⟩ ?_
      refine lv_lstore_n (nL := 5) (lv' := [(2, .long (sp_h (sp_pl (sg_he u) mask r) (sg_he u (nI r).toNatClampNeg))), (4, .int (nI r)), (0, .ref (ad 4)), (1, .int mask)]) hx hb d_rg_policyOf_40 rfl hl (by decide) rfl (fun ls hl => ?_)
      refine lv_iinc (nL := 5) (k := 1) (v := nI (r + 1)) (lv' := [(4, .int (nI (r + 1))), (2, .long (sp_h (sp_pl (sg_he u) mask r) (sg_he u (nI r).toNatClampNeg))), (0, .ref (ad 4)), (1, .int mask)]) hx hb d_rg_policyOf_41 hl rfl ((nI_succ r).symm) (by decide) rfl (fun ls hl => ?_)
      refine lv_goto hx hb d_rg_policyOf_44 (tgt := 12) (by decide) ?_
      have e9 : sp_pl (sg_he u) mask (r + 1) = sp_h (sp_pl (sg_he u) mask r) (sg_he u (nI r).toNatClampNeg) := by
        show (if _ then _ else _) = _
        rw [if_pos h1, nI_clamp (by omega)]
      rw [← e9] at hl
      exact ih _ _ ls () ⟨rfl, rfl, lv_sub hl [0, 1, 2, 3] rfl⟩
set_option maxHeartbeats 4000000 in
set_option maxRecDepth 100000 in
theorem c_ms_digestOf (l : Launch) (D : va_G) (cs : Nat → ClassId) (ad : Nat → Nat) (sz : Nat) (u : Sg) (j : Jx) (n : Int32) (hn : vp_in n 8) : Met l y_ms_digestOf (Cond.code y_ms_digestOf b_ms_digestOf 2 (some .long) :: TB) { frames := 1, cells := 0, slots := 0, locals := 25 } (va_Pc [.ref (ad 0), .int n] (xw_Pre D cs ad u j sz)) (vp_Sl (fun r => r = sp_di u n)) 0 0 (fun _ => False) := by
  refine Met.ofW (cc := b_ms_digestOf) (maxL := 2) (ret := (some .long)) (by decide) rfl ?_
  intro p e s m args below meth c s₁ B hml hv
  obtain ⟨rfl, hsz, hP, hK, hD, hN⟩ := hv
  have hx := B.exec
  have hb := B.bytes
  have hret := B.returns
  have hts := atoms_spec (ws := Cond.code y_ms_digestOf b_ms_digestOf 2 (some .long) :: TB) B.pre
  have hT : ∀ w ∈ TB, w.before _ s = true := fun w h => hts w (List.mem_cons_of_mem _ h)
  have hown : s.vm.findClass "MeasuredStages" = some m.cls := findClass_of_methodNamed B.named
  have hlocks := B.notSynchronized
  subst hsz
  have hl := lv_entry ([.ref (ad 0), .int n]) (n := 2) (Nat.le_of_ble_eq_true rfl)
  rw [lg_entry_eq]
  generalize (lg_sl ([.ref (ad 0), .int n]) ++ List.replicate (2 - (lg_sl ([.ref (ad 0), .int n])).length) Slot.unset).toArray = ls at hl ⊢
  have hl : lv_has ls 2 [(0, .ref (ad 0)), (1, .int n)] := hl
  refine lv_ldc2 (v := 5) hx hb hown (hT _ tb_234) d_ms_digestOf_0 ?_
  refine lv_aload_n hx hb d_ms_digestOf_3 rfl (lv_at hl 0 rfl) ?_
  refine va_get (D := D) (ci := 0) (v := .ref (ad 1)) (C := "MeasuredStages") (T := F_ms) (N := 12) hx hb hts (fun w h => List.mem_cons_of_mem _ (i_ms w h)) hown hK hP 0 rfl rfl 0 (by decide) (hT _ tb_69) (fun _ h9 => h9) rfl d_ms_digestOf_4 ?_
  refine lv_iload_n hx hb d_ms_digestOf_7 rfl (lv_at hl 1 rfl) ?_
  refine va_lald hx hb hK hP 1 0 rfl rfl hn d_ms_digestOf_8 ?_
  refine st_l (v := sp_h (5) (sg_im u n.toNatClampNeg)) (As := [.long (5), .long (sg_im u n.toNatClampNeg)]) (rest := []) ⟨hx, hb, hml, hown, hts⟩ (c_ms_hash l 5 (sg_im u n.toNatClampNeg)) tb_235 tb_138 tb_1 tb_139 hd_ms_hash ⟨Nat.le_of_ble_eq_true rfl, Nat.le_of_ble_eq_true rfl⟩ rfl rfl hl.1 rfl (Nat.le_of_ble_eq_true rfl) d_ms_digestOf_9 ⟨Nat.zero_le _, Nat.zero_le _⟩ ?_
  exact W.lret (v := sp_h (5) (sg_im u n.toNatClampNeg)) hx hb hret (fun t ht hW => ⟨_, rfl, rfl, ht⟩) (fun q h => by cases h) d_ms_digestOf_12
end
section
theorem d_ms_isOpen_0 : decode b_ms_isOpen 0 = .ok (.aload_n 0, 1) := by decide +kernel
theorem d_ms_isOpen_1 : decode b_ms_isOpen 1 = .ok (.getfield 30, 3) := by decide +kernel
theorem d_ms_isOpen_4 : decode b_ms_isOpen 4 = .ok (.getfield 170, 3) := by decide +kernel
theorem d_ms_isOpen_7 : decode b_ms_isOpen 7 = .ok (.iload_n 1, 1) := by decide +kernel
theorem d_ms_isOpen_8 : decode b_ms_isOpen 8 = .ok (.laload, 1) := by decide +kernel
theorem d_ms_isOpen_9 : decode b_ms_isOpen 9 = .ok (.aload_n 0, 1) := by decide +kernel
theorem d_ms_isOpen_10 : decode b_ms_isOpen 10 = .ok (.getfield 23, 3) := by decide +kernel
theorem d_ms_isOpen_13 : decode b_ms_isOpen 13 = .ok (.aload_n 0, 1) := by decide +kernel
theorem d_ms_isOpen_14 : decode b_ms_isOpen 14 = .ok (.getfield 30, 3) := by decide +kernel
theorem d_ms_isOpen_17 : decode b_ms_isOpen 17 = .ok (.getfield 173, 3) := by decide +kernel
theorem d_ms_isOpen_20 : decode b_ms_isOpen 20 = .ok (.iload_n 1, 1) := by decide +kernel
theorem d_ms_isOpen_21 : decode b_ms_isOpen 21 = .ok (.iaload, 1) := by decide +kernel
theorem d_ms_isOpen_22 : decode b_ms_isOpen 22 = .ok (.invokevirtual 134, 3) := by decide +kernel
theorem d_ms_isOpen_25 : decode b_ms_isOpen 25 = .ok (.lcmp, 1) := by decide +kernel
theorem d_ms_isOpen_26 : decode b_ms_isOpen 26 = .ok (.ifCond .ne 7, 3) := by decide +kernel
theorem d_ms_isOpen_29 : decode b_ms_isOpen 29 = .ok (.iconst 1, 1) := by decide +kernel
theorem d_ms_isOpen_30 : decode b_ms_isOpen 30 = .ok (.goto 4, 3) := by decide +kernel
theorem d_ms_isOpen_33 : decode b_ms_isOpen 33 = .ok (.iconst 0, 1) := by decide +kernel
theorem d_ms_isOpen_34 : decode b_ms_isOpen 34 = .ok (.ireturn, 1) := by decide +kernel
theorem d_ms_isApproved_0 : decode b_ms_isApproved 0 = .ok (.aload_n 0, 1) := by decide +kernel
theorem d_ms_isApproved_1 : decode b_ms_isApproved 1 = .ok (.getfield 13, 3) := by decide +kernel
theorem d_ms_isApproved_4 : decode b_ms_isApproved 4 = .ok (.iload_n 1, 1) := by decide +kernel
theorem d_ms_isApproved_5 : decode b_ms_isApproved 5 = .ok (.baload, 1) := by decide +kernel
theorem d_ms_isApproved_6 : decode b_ms_isApproved 6 = .ok (.ifCond .eq 22, 3) := by decide +kernel
theorem d_ms_isApproved_9 : decode b_ms_isApproved 9 = .ok (.aload_n 0, 1) := by decide +kernel
theorem d_ms_isApproved_10 : decode b_ms_isApproved 10 = .ok (.getfield 17, 3) := by decide +kernel
theorem d_ms_isApproved_13 : decode b_ms_isApproved 13 = .ok (.iload_n 1, 1) := by decide +kernel
theorem d_ms_isApproved_14 : decode b_ms_isApproved 14 = .ok (.laload, 1) := by decide +kernel
theorem d_ms_isApproved_15 : decode b_ms_isApproved 15 = .ok (.aload_n 0, 1) := by decide +kernel
theorem d_ms_isApproved_16 : decode b_ms_isApproved 16 = .ok (.iload_n 1, 1) := by decide +kernel
theorem d_ms_isApproved_17 : decode b_ms_isApproved 17 = .ok (.invokevirtual 52, 3) := by decide +kernel
theorem d_ms_isApproved_20 : decode b_ms_isApproved 20 = .ok (.lcmp, 1) := by decide +kernel
theorem d_ms_isApproved_21 : decode b_ms_isApproved 21 = .ok (.ifCond .ne 7, 3) := by decide +kernel
theorem d_ms_isApproved_24 : decode b_ms_isApproved 24 = .ok (.iconst 1, 1) := by decide +kernel
theorem d_ms_isApproved_25 : decode b_ms_isApproved 25 = .ok (.goto 4, 3) := by decide +kernel
theorem d_ms_isApproved_28 : decode b_ms_isApproved 28 = .ok (.iconst 0, 1) := by decide +kernel
theorem d_ms_isApproved_29 : decode b_ms_isApproved 29 = .ok (.ireturn, 1) := by decide +kernel
theorem d_ms_fault_0 : decode b_ms_fault 0 = .ok (.aload_n 0, 1) := by decide +kernel
theorem d_ms_fault_1 : decode b_ms_fault 1 = .ok (.getfield 63, 3) := by decide +kernel
theorem d_ms_fault_4 : decode b_ms_fault 4 = .ok (.ireturn, 1) := by decide +kernel
theorem d_ms_launched_0 : decode b_ms_launched 0 = .ok (.aload_n 0, 1) := by decide +kernel
theorem d_ms_launched_1 : decode b_ms_launched 1 = .ok (.getfield 75, 3) := by decide +kernel
theorem d_ms_launched_4 : decode b_ms_launched 4 = .ok (.ireturn, 1) := by decide +kernel
theorem d_ms_steps_0 : decode b_ms_steps 0 = .ok (.aload_n 0, 1) := by decide +kernel
theorem d_ms_steps_1 : decode b_ms_steps 1 = .ok (.getfield 78, 3) := by decide +kernel
theorem d_ms_steps_4 : decode b_ms_steps 4 = .ok (.ireturn, 1) := by decide +kernel
theorem d_ms_acc_0 : decode b_ms_acc 0 = .ok (.aload_n 0, 1) := by decide +kernel
theorem d_ms_acc_1 : decode b_ms_acc 1 = .ok (.getfield 81, 3) := by decide +kernel
theorem d_ms_acc_4 : decode b_ms_acc 4 = .ok (.lreturn, 1) := by decide +kernel
theorem d_ms_events_0 : decode b_ms_events 0 = .ok (.aload_n 0, 1) := by decide +kernel
theorem d_ms_events_1 : decode b_ms_events 1 = .ok (.getfield 23, 3) := by decide +kernel
theorem d_ms_events_4 : decode b_ms_events 4 = .ok (.getfield 102, 3) := by decide +kernel
theorem d_ms_events_7 : decode b_ms_events 7 = .ok (.ireturn, 1) := by decide +kernel
theorem d_md_thrown_0 : decode b_md_thrown 0 = .ok (.aload_n 0, 1) := by decide +kernel
theorem d_md_thrown_1 : decode b_md_thrown 1 = .ok (.getfield 48, 3) := by decide +kernel
theorem d_md_thrown_4 : decode b_md_thrown 4 = .ok (.ireturn, 1) := by decide +kernel
theorem d_md_digit_0 : decode b_md_digit 0 = .ok (.iload_n 2, 1) := by decide +kernel
theorem d_md_digit_1 : decode b_md_digit 1 = .ok (.bipush 16, 2) := by decide +kernel
theorem d_md_digit_3 : decode b_md_digit 3 = .ok (.if_icmp .ge 21, 3) := by decide +kernel
theorem d_md_digit_6 : decode b_md_digit 6 = .ok (.aload_n 0, 1) := by decide +kernel
theorem d_md_digit_7 : decode b_md_digit 7 = .ok (.getfield 13, 3) := by decide +kernel
theorem d_md_digit_10 : decode b_md_digit 10 = .ok (.iload_n 1, 1) := by decide +kernel
theorem d_md_digit_11 : decode b_md_digit 11 = .ok (.laload, 1) := by decide +kernel
theorem d_md_digit_12 : decode b_md_digit 12 = .ok (.iconst 4, 1) := by decide +kernel
theorem d_md_digit_13 : decode b_md_digit 13 = .ok (.iload_n 2, 1) := by decide +kernel
theorem d_md_digit_14 : decode b_md_digit 14 = .ok (.imul, 1) := by decide +kernel
theorem d_md_digit_15 : decode b_md_digit 15 = .ok (.lushr, 1) := by decide +kernel
theorem d_md_digit_16 : decode b_md_digit 16 = .ok (.ldc2_w 58, 3) := by decide +kernel
theorem d_md_digit_19 : decode b_md_digit 19 = .ok (.land, 1) := by decide +kernel
theorem d_md_digit_20 : decode b_md_digit 20 = .ok (.l2i, 1) := by decide +kernel
theorem d_md_digit_21 : decode b_md_digit 21 = .ok (.goto 4, 3) := by decide +kernel
theorem d_md_digit_24 : decode b_md_digit 24 = .ok (.iconst 0, 1) := by decide +kernel
theorem d_md_digit_25 : decode b_md_digit 25 = .ok (.ireturn, 1) := by decide +kernel
theorem d_md_digest_0 : decode b_md_digest 0 = .ok (.ldc2_w 60, 3) := by decide +kernel
theorem d_md_digest_3 : decode b_md_digest 3 = .ok (.aload_n 0, 1) := by decide +kernel
theorem d_md_digest_4 : decode b_md_digest 4 = .ok (.getfield 13, 3) := by decide +kernel
theorem d_md_digest_7 : decode b_md_digest 7 = .ok (.iload_n 1, 1) := by decide +kernel
theorem d_md_digest_8 : decode b_md_digest 8 = .ok (.laload, 1) := by decide +kernel
theorem d_md_digest_9 : decode b_md_digest 9 = .ok (.invokestatic 62, 3) := by decide +kernel
theorem d_md_digest_12 : decode b_md_digest 12 = .ok (.lreturn, 1) := by decide +kernel
theorem d_md_policy_0 : decode b_md_policy 0 = .ok (.ldc2_w 66, 3) := by decide +kernel
theorem d_md_policy_3 : decode b_md_policy 3 = .ok (.iload_n 1, 1) := by decide +kernel
theorem d_md_policy_4 : decode b_md_policy 4 = .ok (.i2l, 1) := by decide +kernel
theorem d_md_policy_5 : decode b_md_policy 5 = .ok (.invokestatic 62, 3) := by decide +kernel
theorem d_md_policy_8 : decode b_md_policy 8 = .ok (.lstore_n 2, 1) := by decide +kernel
theorem d_md_policy_9 : decode b_md_policy 9 = .ok (.iconst 0, 1) := by decide +kernel
theorem d_md_policy_10 : decode b_md_policy 10 = .ok (.istore 4, 2) := by decide +kernel
theorem d_md_policy_12 : decode b_md_policy 12 = .ok (.iload 4, 2) := by decide +kernel
theorem d_md_policy_14 : decode b_md_policy 14 = .ok (.bipush 6, 2) := by decide +kernel
theorem d_md_policy_16 : decode b_md_policy 16 = .ok (.if_icmp .ge 35, 3) := by decide +kernel
theorem d_md_policy_19 : decode b_md_policy 19 = .ok (.iload_n 1, 1) := by decide +kernel
theorem d_md_policy_20 : decode b_md_policy 20 = .ok (.iload 4, 2) := by decide +kernel
theorem d_md_policy_22 : decode b_md_policy 22 = .ok (.ishr, 1) := by decide +kernel
theorem d_md_policy_23 : decode b_md_policy 23 = .ok (.iconst 1, 1) := by decide +kernel
theorem d_md_policy_24 : decode b_md_policy 24 = .ok (.iand, 1) := by decide +kernel
theorem d_md_policy_25 : decode b_md_policy 25 = .ok (.iconst 1, 1) := by decide +kernel
theorem d_md_policy_26 : decode b_md_policy 26 = .ok (.if_icmp .ne 17, 3) := by decide +kernel
theorem d_md_policy_29 : decode b_md_policy 29 = .ok (.lload_n 2, 1) := by decide +kernel
theorem d_md_policy_30 : decode b_md_policy 30 = .ok (.aload_n 0, 1) := by decide +kernel
theorem d_md_policy_31 : decode b_md_policy 31 = .ok (.getfield 7, 3) := by decide +kernel
theorem d_md_policy_34 : decode b_md_policy 34 = .ok (.iload 4, 2) := by decide +kernel
theorem d_md_policy_36 : decode b_md_policy 36 = .ok (.laload, 1) := by decide +kernel
theorem d_md_policy_37 : decode b_md_policy 37 = .ok (.invokestatic 62, 3) := by decide +kernel
theorem d_md_policy_40 : decode b_md_policy 40 = .ok (.goto 4, 3) := by decide +kernel
theorem d_md_policy_43 : decode b_md_policy 43 = .ok (.lload_n 2, 1) := by decide +kernel
theorem d_md_policy_44 : decode b_md_policy 44 = .ok (.lstore_n 2, 1) := by decide +kernel
theorem d_md_policy_45 : decode b_md_policy 45 = .ok (.iinc 4 1, 3) := by decide +kernel
theorem d_md_policy_48 : decode b_md_policy 48 = .ok (.goto (-36), 3) := by decide +kernel
theorem d_md_policy_51 : decode b_md_policy 51 = .ok (.lload_n 2, 1) := by decide +kernel
theorem d_md_policy_52 : decode b_md_policy 52 = .ok (.lreturn, 1) := by decide +kernel
theorem d_md_freeBlob_0 : decode b_md_freeBlob 0 = .ok (.iconst 0, 1) := by decide +kernel
theorem d_md_freeBlob_1 : decode b_md_freeBlob 1 = .ok (.istore_n 1, 1) := by decide +kernel
theorem d_md_freeBlob_2 : decode b_md_freeBlob 2 = .ok (.iload_n 1, 1) := by decide +kernel
theorem d_md_freeBlob_3 : decode b_md_freeBlob 3 = .ok (.bipush 8, 2) := by decide +kernel
theorem d_md_freeBlob_5 : decode b_md_freeBlob 5 = .ok (.if_icmp .ge 20, 3) := by decide +kernel
theorem d_md_freeBlob_8 : decode b_md_freeBlob 8 = .ok (.aload_n 0, 1) := by decide +kernel
theorem d_md_freeBlob_9 : decode b_md_freeBlob 9 = .ok (.getfield 23, 3) := by decide +kernel
theorem d_md_freeBlob_12 : decode b_md_freeBlob 12 = .ok (.iload_n 1, 1) := by decide +kernel
theorem d_md_freeBlob_13 : decode b_md_freeBlob 13 = .ok (.iaload, 1) := by decide +kernel
theorem d_md_freeBlob_14 : decode b_md_freeBlob 14 = .ok (.ifCond .ne 5, 3) := by decide +kernel
theorem d_md_freeBlob_17 : decode b_md_freeBlob 17 = .ok (.iload_n 1, 1) := by decide +kernel
theorem d_md_freeBlob_18 : decode b_md_freeBlob 18 = .ok (.ireturn, 1) := by decide +kernel
theorem d_md_freeBlob_19 : decode b_md_freeBlob 19 = .ok (.iinc 1 1, 3) := by decide +kernel
theorem d_md_freeBlob_22 : decode b_md_freeBlob 22 = .ok (.goto (-20), 3) := by decide +kernel
theorem d_md_freeBlob_25 : decode b_md_freeBlob 25 = .ok (.iconst (-1), 1) := by decide +kernel
theorem d_md_freeBlob_26 : decode b_md_freeBlob 26 = .ok (.ireturn, 1) := by decide +kernel
theorem d_md_faultOf_0 : decode b_md_faultOf 0 = .ok (.iload_n 2, 1) := by decide +kernel
theorem d_md_faultOf_1 : decode b_md_faultOf 1 = .ok (.bipush 8, 2) := by decide +kernel
theorem d_md_faultOf_3 : decode b_md_faultOf 3 = .ok (.irem, 1) := by decide +kernel
theorem d_md_faultOf_4 : decode b_md_faultOf 4 = .ok (.istore 4, 2) := by decide +kernel
theorem d_md_faultOf_6 : decode b_md_faultOf 6 = .ok (.iload_n 1, 1) := by decide +kernel
theorem d_md_faultOf_7 : decode b_md_faultOf 7 = .ok (.bipush 8, 2) := by decide +kernel
theorem d_md_faultOf_9 : decode b_md_faultOf 9 = .ok (.if_icmp .le 5, 3) := by decide +kernel
theorem d_md_faultOf_12 : decode b_md_faultOf 12 = .ok (.iconst 1, 1) := by decide +kernel
theorem d_md_faultOf_13 : decode b_md_faultOf 13 = .ok (.ireturn, 1) := by decide +kernel
theorem d_md_faultOf_14 : decode b_md_faultOf 14 = .ok (.iload_n 1, 1) := by decide +kernel
theorem d_md_faultOf_15 : decode b_md_faultOf 15 = .ok (.iconst 1, 1) := by decide +kernel
theorem d_md_faultOf_16 : decode b_md_faultOf 16 = .ok (.if_icmp .ne 10, 3) := by decide +kernel
theorem d_md_faultOf_19 : decode b_md_faultOf 19 = .ok (.iload_n 3, 1) := by decide +kernel
theorem d_md_faultOf_20 : decode b_md_faultOf 20 = .ok (.iconst 5, 1) := by decide +kernel
theorem d_md_faultOf_21 : decode b_md_faultOf 21 = .ok (.if_icmp .ne 5, 3) := by decide +kernel
theorem d_md_faultOf_24 : decode b_md_faultOf 24 = .ok (.iconst 2, 1) := by decide +kernel
theorem d_md_faultOf_25 : decode b_md_faultOf 25 = .ok (.ireturn, 1) := by decide +kernel
theorem d_md_faultOf_26 : decode b_md_faultOf 26 = .ok (.iload_n 1, 1) := by decide +kernel
theorem d_md_faultOf_27 : decode b_md_faultOf 27 = .ok (.iconst 3, 1) := by decide +kernel
theorem d_md_faultOf_28 : decode b_md_faultOf 28 = .ok (.if_icmp .ne 36, 3) := by decide +kernel
theorem d_md_faultOf_31 : decode b_md_faultOf 31 = .ok (.aload_n 0, 1) := by decide +kernel
theorem d_md_faultOf_32 : decode b_md_faultOf 32 = .ok (.getfield 16, 3) := by decide +kernel
theorem d_md_faultOf_35 : decode b_md_faultOf 35 = .ok (.iload 4, 2) := by decide +kernel
theorem d_md_faultOf_37 : decode b_md_faultOf 37 = .ok (.baload, 1) := by decide +kernel
theorem d_md_faultOf_38 : decode b_md_faultOf 38 = .ok (.ifCond .eq 24, 3) := by decide +kernel
theorem d_md_faultOf_41 : decode b_md_faultOf 41 = .ok (.aload_n 0, 1) := by decide +kernel
theorem d_md_faultOf_42 : decode b_md_faultOf 42 = .ok (.getfield 20, 3) := by decide +kernel
theorem d_md_faultOf_45 : decode b_md_faultOf 45 = .ok (.iload 4, 2) := by decide +kernel
theorem d_md_faultOf_47 : decode b_md_faultOf 47 = .ok (.laload, 1) := by decide +kernel
theorem d_md_faultOf_48 : decode b_md_faultOf 48 = .ok (.aload_n 0, 1) := by decide +kernel
theorem d_md_faultOf_49 : decode b_md_faultOf 49 = .ok (.iload 4, 2) := by decide +kernel
theorem d_md_faultOf_51 : decode b_md_faultOf 51 = .ok (.invokevirtual 75, 3) := by decide +kernel
theorem d_md_faultOf_54 : decode b_md_faultOf 54 = .ok (.lcmp, 1) := by decide +kernel
theorem d_md_faultOf_55 : decode b_md_faultOf 55 = .ok (.ifCond .ne 7, 3) := by decide +kernel
theorem d_md_faultOf_58 : decode b_md_faultOf 58 = .ok (.iconst 0, 1) := by decide +kernel
theorem d_md_faultOf_59 : decode b_md_faultOf 59 = .ok (.goto 4, 3) := by decide +kernel
theorem d_md_faultOf_62 : decode b_md_faultOf 62 = .ok (.iconst 5, 1) := by decide +kernel
theorem d_md_faultOf_63 : decode b_md_faultOf 63 = .ok (.ireturn, 1) := by decide +kernel
theorem d_md_faultOf_64 : decode b_md_faultOf 64 = .ok (.iload_n 1, 1) := by decide +kernel
theorem d_md_faultOf_65 : decode b_md_faultOf 65 = .ok (.iconst 4, 1) := by decide +kernel
theorem d_md_faultOf_66 : decode b_md_faultOf 66 = .ok (.if_icmp .ne 47, 3) := by decide +kernel
theorem d_md_faultOf_69 : decode b_md_faultOf 69 = .ok (.aload_n 0, 1) := by decide +kernel
theorem d_md_faultOf_70 : decode b_md_faultOf 70 = .ok (.getfield 23, 3) := by decide +kernel
theorem d_md_faultOf_73 : decode b_md_faultOf 73 = .ok (.iload 4, 2) := by decide +kernel
theorem d_md_faultOf_75 : decode b_md_faultOf 75 = .ok (.iaload, 1) := by decide +kernel
theorem d_md_faultOf_76 : decode b_md_faultOf 76 = .ok (.ifCond .ne 8, 3) := by decide +kernel
theorem d_md_faultOf_79 : decode b_md_faultOf 79 = .ok (.bipush 6, 2) := by decide +kernel
theorem d_md_faultOf_81 : decode b_md_faultOf 81 = .ok (.goto 31, 3) := by decide +kernel
theorem d_md_faultOf_84 : decode b_md_faultOf 84 = .ok (.aload_n 0, 1) := by decide +kernel
theorem d_md_faultOf_85 : decode b_md_faultOf 85 = .ok (.getfield 27, 3) := by decide +kernel
theorem d_md_faultOf_88 : decode b_md_faultOf 88 = .ok (.iload 4, 2) := by decide +kernel
theorem d_md_faultOf_90 : decode b_md_faultOf 90 = .ok (.laload, 1) := by decide +kernel
theorem d_md_faultOf_91 : decode b_md_faultOf 91 = .ok (.aload_n 0, 1) := by decide +kernel
theorem d_md_faultOf_92 : decode b_md_faultOf 92 = .ok (.aload_n 0, 1) := by decide +kernel
theorem d_md_faultOf_93 : decode b_md_faultOf 93 = .ok (.getfield 23, 3) := by decide +kernel
theorem d_md_faultOf_96 : decode b_md_faultOf 96 = .ok (.iload 4, 2) := by decide +kernel
theorem d_md_faultOf_98 : decode b_md_faultOf 98 = .ok (.iaload, 1) := by decide +kernel
theorem d_md_faultOf_99 : decode b_md_faultOf 99 = .ok (.invokevirtual 71, 3) := by decide +kernel
theorem d_md_faultOf_102 : decode b_md_faultOf 102 = .ok (.lcmp, 1) := by decide +kernel
theorem d_md_faultOf_103 : decode b_md_faultOf 103 = .ok (.ifCond .ne 7, 3) := by decide +kernel
theorem d_md_faultOf_106 : decode b_md_faultOf 106 = .ok (.iconst 0, 1) := by decide +kernel
theorem d_md_faultOf_107 : decode b_md_faultOf 107 = .ok (.goto 5, 3) := by decide +kernel
theorem d_md_faultOf_110 : decode b_md_faultOf 110 = .ok (.bipush 7, 2) := by decide +kernel
theorem d_md_faultOf_112 : decode b_md_faultOf 112 = .ok (.ireturn, 1) := by decide +kernel
theorem d_md_faultOf_113 : decode b_md_faultOf 113 = .ok (.iload_n 1, 1) := by decide +kernel
theorem d_md_faultOf_114 : decode b_md_faultOf 114 = .ok (.bipush 8, 2) := by decide +kernel
theorem d_md_faultOf_116 : decode b_md_faultOf 116 = .ok (.if_icmp .ne 17, 3) := by decide +kernel
theorem d_md_faultOf_119 : decode b_md_faultOf 119 = .ok (.aload_n 0, 1) := by decide +kernel
theorem d_md_faultOf_120 : decode b_md_faultOf 120 = .ok (.invokevirtual 122, 3) := by decide +kernel
theorem d_md_faultOf_123 : decode b_md_faultOf 123 = .ok (.ifCond .ge 8, 3) := by decide +kernel
theorem d_md_faultOf_126 : decode b_md_faultOf 126 = .ok (.bipush 8, 2) := by decide +kernel
theorem d_md_faultOf_128 : decode b_md_faultOf 128 = .ok (.goto 4, 3) := by decide +kernel
theorem d_md_faultOf_131 : decode b_md_faultOf 131 = .ok (.iconst 0, 1) := by decide +kernel
theorem d_md_faultOf_132 : decode b_md_faultOf 132 = .ok (.ireturn, 1) := by decide +kernel
theorem d_md_faultOf_133 : decode b_md_faultOf 133 = .ok (.iload_n 1, 1) := by decide +kernel
theorem d_md_faultOf_134 : decode b_md_faultOf 134 = .ok (.iconst 1, 1) := by decide +kernel
theorem d_md_faultOf_135 : decode b_md_faultOf 135 = .ok (.if_icmp .eq 14, 3) := by decide +kernel
theorem d_md_faultOf_138 : decode b_md_faultOf 138 = .ok (.iload_n 1, 1) := by decide +kernel
theorem d_md_faultOf_139 : decode b_md_faultOf 139 = .ok (.iconst 2, 1) := by decide +kernel
theorem d_md_faultOf_140 : decode b_md_faultOf 140 = .ok (.if_icmp .eq 9, 3) := by decide +kernel
theorem d_md_faultOf_143 : decode b_md_faultOf 143 = .ok (.iload_n 1, 1) := by decide +kernel
theorem d_md_faultOf_144 : decode b_md_faultOf 144 = .ok (.bipush 6, 2) := by decide +kernel
theorem d_md_faultOf_146 : decode b_md_faultOf 146 = .ok (.if_icmp .ne 16, 3) := by decide +kernel
theorem d_md_faultOf_149 : decode b_md_faultOf 149 = .ok (.aload_n 0, 1) := by decide +kernel
theorem d_md_faultOf_150 : decode b_md_faultOf 150 = .ok (.getfield 68, 3) := by decide +kernel
theorem d_md_faultOf_153 : decode b_md_faultOf 153 = .ok (.bipush 32, 2) := by decide +kernel
theorem d_md_faultOf_155 : decode b_md_faultOf 155 = .ok (.if_icmp .ne 7, 3) := by decide +kernel
theorem d_md_faultOf_158 : decode b_md_faultOf 158 = .ok (.iconst 4, 1) := by decide +kernel
theorem d_md_faultOf_159 : decode b_md_faultOf 159 = .ok (.goto 4, 3) := by decide +kernel
theorem d_md_faultOf_162 : decode b_md_faultOf 162 = .ok (.iconst 0, 1) := by decide +kernel
theorem d_md_faultOf_163 : decode b_md_faultOf 163 = .ok (.ireturn, 1) := by decide +kernel
set_option maxHeartbeats 4000000 in
set_option maxRecDepth 100000 in
theorem c_ms_isOpen (l : Launch) (D : va_G) (cs : Nat → ClassId) (ad : Nat → Nat) (sz : Nat) (u : Sg) (j : Jx) (k : Int32) (hk : vp_in k 8) : Met l y_ms_isOpen (Cond.code y_ms_isOpen b_ms_isOpen 2 (some .boolean) :: TB) { frames := 2, cells := 0, slots := 0, locals := 49 } (va_Pc [.ref (ad 0), .int k] (xw_Pre D cs ad u j sz)) (vp_Si (fun r => r = sp_on u k)) 0 0 (fun _ => False) := by
  refine Met.ofW (cc := b_ms_isOpen) (maxL := 2) (ret := (some .boolean)) (by decide) rfl ?_
  intro p e s m args below meth c s₁ B hml hv
  obtain ⟨rfl, hsz, hP, hK, hD, hN⟩ := hv
  have hx := B.exec
  have hb := B.bytes
  have hret := B.returns
  have hts := atoms_spec (ws := Cond.code y_ms_isOpen b_ms_isOpen 2 (some .boolean) :: TB) B.pre
  have hT : ∀ w ∈ TB, w.before _ s = true := fun w h => hts w (List.mem_cons_of_mem _ h)
  have hown : s.vm.findClass "MeasuredStages" = some m.cls := findClass_of_methodNamed B.named
  have hlocks := B.notSynchronized
  subst hsz
  have hl := lv_entry ([.ref (ad 0), .int k]) (n := 2) (Nat.le_of_ble_eq_true rfl)
  rw [lg_entry_eq]
  generalize (lg_sl ([.ref (ad 0), .int k]) ++ List.replicate (2 - (lg_sl ([.ref (ad 0), .int k])).length) Slot.unset).toArray = ls at hl ⊢
  have hl : lv_has ls 2 [(0, .ref (ad 0)), (1, .int k)] := hl
  refine lv_aload_n hx hb d_ms_isOpen_0 rfl (lv_at hl 0 rfl) ?_
  refine va_get (D := D) (ci := 0) (v := .ref (ad 5)) (C := "MeasuredStages") (T := F_ms) (N := 12) hx hb hts (fun w h => List.mem_cons_of_mem _ (i_ms w h)) hown hK hP 0 rfl rfl 4 (by decide) (hT _ tb_73) (fun _ h9 => h9) rfl d_ms_isOpen_1 ?_
  refine va_get (D := D) (ci := 2) (v := .ref (ad 13)) (C := "MeasuredStages$Blobs") (T := F_bl) (N := 3) hx hb hts (fun w h => List.mem_cons_of_mem _ (i_bl w h)) hown hK hP 5 rfl rfl 1 (by decide) (hT _ tb_59) (fun _ h9 => h9) rfl d_ms_isOpen_4 ?_
  refine lv_iload_n hx hb d_ms_isOpen_7 rfl (lv_at hl 1 rfl) ?_
  refine va_lald hx hb hK hP 13 10 rfl rfl hk d_ms_isOpen_8 ?_
  refine lv_aload_n hx hb d_ms_isOpen_9 rfl (lv_at hl 0 rfl) ?_
  refine va_get (D := D) (ci := 0) (v := .ref (ad 4)) (C := "MeasuredStages") (T := F_ms) (N := 12) hx hb hts (fun w h => List.mem_cons_of_mem _ (i_ms w h)) hown hK hP 0 rfl rfl 3 (by decide) (hT _ tb_72) (fun _ h9 => h9) rfl d_ms_isOpen_10 ?_
  refine lv_aload_n hx hb d_ms_isOpen_13 rfl (lv_at hl 0 rfl) ?_
  refine va_get (D := D) (ci := 0) (v := .ref (ad 5)) (C := "MeasuredStages") (T := F_ms) (N := 12) hx hb hts (fun w h => List.mem_cons_of_mem _ (i_ms w h)) hown hK hP 0 rfl rfl 4 (by decide) (hT _ tb_73) (fun _ h9 => h9) rfl d_ms_isOpen_14 ?_
  refine va_get (D := D) (ci := 2) (v := .ref (ad 12)) (C := "MeasuredStages$Blobs") (T := F_bl) (N := 3) hx hb hts (fun w h => List.mem_cons_of_mem _ (i_bl w h)) hown hK hP 5 rfl rfl 0 (by decide) (hT _ tb_57) (fun _ h9 => h9) rfl d_ms_isOpen_17 ?_
  refine lv_iload_n hx hb d_ms_isOpen_20 rfl (lv_at hl 1 rfl) ?_
  refine va_iald hx hb hK hP 12 9 rfl rfl hk d_ms_isOpen_21 ?_
  refine xw_rdl (v := sp_po u (sg_ma u k.toNatClampNeg)) (As := [.int (sg_ma u k.toNatClampNeg)]) (rest := [.long (sg_po u k.toNatClampNeg)]) ⟨hx, hb, hml, hown, hts⟩ (c_rg_policyOf l D cs ad _ u j (sg_ma u k.toNatClampNeg)) tb_300 tb_301 tb_302 tb_2 tb_303 ⟨rfl, hd_rg_policyOf⟩ ⟨Nat.le_of_ble_eq_true rfl, Nat.le_of_ble_eq_true rfl⟩ rfl rfl hK hP hD hN 4 1 rfl rfl hl.1 rfl (Nat.le_of_ble_eq_true rfl) d_ms_isOpen_22 ⟨Nat.zero_le _, Nat.zero_le _⟩ ?_
  refine W.lcmp hx hb d_ms_isOpen_25 ?_
  refine lv_if_ne hx hb d_ms_isOpen_26 (tgt := 33) (by decide) (fun h1 => ?_) (fun h1 => ?_)
  · skip
    have h1 := mt sp_cmp.mpr h1
    refine lv_iconst (v := 0) hx hb d_ms_isOpen_33 (by decide) ?_
    exact W.zret (v := 0) hx hb hret rfl (fun t ht hW => ⟨_, rfl, by simp [sp_on, h1], ht⟩) (fun q h => by cases h) d_ms_isOpen_34
  · skip
    have h1 := sp_cmp.mp h1
    refine lv_iconst (v := 1) hx hb d_ms_isOpen_29 (by decide) ?_
    refine lv_goto hx hb d_ms_isOpen_30 (tgt := 34) (by decide) ?_
    exact W.zret (v := 1) hx hb hret rfl (fun t ht hW => ⟨_, rfl, by simp [sp_on, h1], ht⟩) (fun q h => by cases h) d_ms_isOpen_34
set_option maxHeartbeats 4000000 in
set_option maxRecDepth 100000 in
theorem c_ms_isApproved (l : Launch) (D : va_G) (cs : Nat → ClassId) (ad : Nat → Nat) (sz : Nat) (u : Sg) (j : Jx) (n : Int32) (hn : vp_in n 8) : Met l y_ms_isApproved (Cond.code y_ms_isApproved b_ms_isApproved 2 (some .boolean) :: TB) { frames := 2, cells := 0, slots := 0, locals := 46 } (va_Pc [.ref (ad 0), .int n] (xw_Pre D cs ad u j sz)) (vp_Si (fun r => r = sp_ia u n)) 0 0 (fun _ => False) := by
  refine Met.ofW (cc := b_ms_isApproved) (maxL := 2) (ret := (some .boolean)) (by decide) rfl ?_
  intro p e s m args below meth c s₁ B hml hv
  obtain ⟨rfl, hsz, hP, hK, hD, hN⟩ := hv
  have hx := B.exec
  have hb := B.bytes
  have hret := B.returns
  have hts := atoms_spec (ws := Cond.code y_ms_isApproved b_ms_isApproved 2 (some .boolean) :: TB) B.pre
  have hT : ∀ w ∈ TB, w.before _ s = true := fun w h => hts w (List.mem_cons_of_mem _ h)
  have hown : s.vm.findClass "MeasuredStages" = some m.cls := findClass_of_methodNamed B.named
  have hlocks := B.notSynchronized
  subst hsz
  have hl := lv_entry ([.ref (ad 0), .int n]) (n := 2) (Nat.le_of_ble_eq_true rfl)
  rw [lg_entry_eq]
  generalize (lg_sl ([.ref (ad 0), .int n]) ++ List.replicate (2 - (lg_sl ([.ref (ad 0), .int n])).length) Slot.unset).toArray = ls at hl ⊢
  have hl : lv_has ls 2 [(0, .ref (ad 0)), (1, .int n)] := hl
  refine lv_aload_n hx hb d_ms_isApproved_0 rfl (lv_at hl 0 rfl) ?_
  refine va_get (D := D) (ci := 0) (v := .ref (ad 2)) (C := "MeasuredStages") (T := F_ms) (N := 12) hx hb hts (fun w h => List.mem_cons_of_mem _ (i_ms w h)) hown hK hP 0 rfl rfl 1 (by decide) (hT _ tb_70) (fun _ h9 => h9) rfl d_ms_isApproved_1 ?_
  refine lv_iload_n hx hb d_ms_isApproved_4 rfl (lv_at hl 1 rfl) ?_
  refine va_zald hx hb hK hP 2 1 rfl rfl hn d_ms_isApproved_5 ?_
  refine lv_if_eq hx hb d_ms_isApproved_6 (tgt := 28) (by decide) (fun h1 => ?_) (fun h1 => ?_)
  · skip
    refine lv_iconst (v := 0) hx hb d_ms_isApproved_28 (by decide) ?_
    exact W.zret (v := 0) hx hb hret rfl (fun t ht hW => ⟨_, rfl, by simp [sp_ia, h1], ht⟩) (fun q h => by cases h) d_ms_isApproved_29
  · skip
    refine lv_aload_n hx hb d_ms_isApproved_9 rfl (lv_at hl 0 rfl) ?_
    refine va_get (D := D) (ci := 0) (v := .ref (ad 3)) (C := "MeasuredStages") (T := F_ms) (N := 12) hx hb hts (fun w h => List.mem_cons_of_mem _ (i_ms w h)) hown hK hP 0 rfl rfl 2 (by decide) (hT _ tb_71) (fun _ h9 => h9) rfl d_ms_isApproved_10 ?_
    refine lv_iload_n hx hb d_ms_isApproved_13 rfl (lv_at hl 1 rfl) ?_
    refine va_lald hx hb hK hP 3 2 rfl rfl hn d_ms_isApproved_14 ?_
    refine lv_aload_n hx hb d_ms_isApproved_15 rfl (lv_at hl 0 rfl) ?_
    refine lv_iload_n hx hb d_ms_isApproved_16 rfl (lv_at hl 1 rfl) ?_
    refine xw_rdl (v := sp_di u n) (As := [.int n]) (rest := [.long (sg_ag u n.toNatClampNeg)]) ⟨hx, hb, hml, hown, hts⟩ (c_ms_digestOf l D cs ad _ u j n hn) tb_230 tb_232 sl_1 tb_1 tb_233 ⟨rfl, hd_ms_digestOf⟩ ⟨Nat.le_of_ble_eq_true rfl, Nat.le_of_ble_eq_true rfl⟩ rfl rfl hK hP hD hN 0 0 rfl rfl hl.1 rfl (Nat.le_of_ble_eq_true rfl) d_ms_isApproved_17 ⟨Nat.zero_le _, Nat.zero_le _⟩ ?_
    refine W.lcmp hx hb d_ms_isApproved_20 ?_
    refine lv_if_ne hx hb d_ms_isApproved_21 (tgt := 28) (by decide) (fun h2 => ?_) (fun h2 => ?_)
    · skip
      have h2 := mt sp_cmp.mpr h2
      refine lv_iconst (v := 0) hx hb d_ms_isApproved_28 (by decide) ?_
      exact W.zret (v := 0) hx hb hret rfl (fun t ht hW => ⟨_, rfl, by simp [sp_ia, h1, h2], ht⟩) (fun q h => by cases h) d_ms_isApproved_29
    · skip
      have h2 := sp_cmp.mp h2
      refine lv_iconst (v := 1) hx hb d_ms_isApproved_24 (by decide) ?_
      refine lv_goto hx hb d_ms_isApproved_25 (tgt := 29) (by decide) ?_
      exact W.zret (v := 1) hx hb hret rfl (fun t ht hW => ⟨_, rfl, by simp [sp_ia, h1, h2], ht⟩) (fun q h => by cases h) d_ms_isApproved_29
set_option maxHeartbeats 4000000 in
set_option maxRecDepth 100000 in
theorem c_ms_fault (l : Launch) (D : va_G) (cs : Nat → ClassId) (ad : Nat → Nat) (sz : Nat) (u : Sg) (j : Jx)   : Met l y_ms_fault (Cond.code y_ms_fault b_ms_fault 1 (some .int) :: TB) { frames := 0, cells := 0, slots := 0, locals := 0 } (va_Pc [.ref (ad 0)] (xw_Pre D cs ad u j sz)) (vp_Si (fun r => r = sg_fa u)) 0 0 (fun _ => False) := by
  refine Met.ofW (cc := b_ms_fault) (maxL := 1) (ret := (some .int)) (by decide) rfl ?_
  intro p e s m args below meth c s₁ B hml hv
  obtain ⟨rfl, hsz, hP, hK, hD, hN⟩ := hv
  have hx := B.exec
  have hb := B.bytes
  have hret := B.returns
  have hts := atoms_spec (ws := Cond.code y_ms_fault b_ms_fault 1 (some .int) :: TB) B.pre
  have hT : ∀ w ∈ TB, w.before _ s = true := fun w h => hts w (List.mem_cons_of_mem _ h)
  have hown : s.vm.findClass "MeasuredStages" = some m.cls := findClass_of_methodNamed B.named
  have hlocks := B.notSynchronized
  subst hsz
  have hl := lv_entry ([.ref (ad 0)]) (n := 1) (Nat.le_of_ble_eq_true rfl)
  rw [lg_entry_eq]
  generalize (lg_sl ([.ref (ad 0)]) ++ List.replicate (1 - (lg_sl ([.ref (ad 0)])).length) Slot.unset).toArray = ls at hl ⊢
  have hl : lv_has ls 1 [(0, .ref (ad 0))] := hl
  refine lv_aload_n hx hb d_ms_fault_0 rfl (lv_at hl 0 rfl) ?_
  refine va_get (D := D) (ci := 0) (v := .int (sg_fa u)) (C := "MeasuredStages") (T := F_ms) (N := 12) hx hb hts (fun w h => List.mem_cons_of_mem _ (i_ms w h)) hown hK hP 0 rfl rfl 9 (by decide) (hT _ tb_78) (fun _ h9 => h9) rfl d_ms_fault_1 ?_
  exact W.iret (v := sg_fa u) hx hb hret (fun t ht hW => ⟨_, rfl, rfl, ht⟩) (fun q h => by cases h) d_ms_fault_4
set_option maxHeartbeats 4000000 in
set_option maxRecDepth 100000 in
theorem c_ms_launched (l : Launch) (D : va_G) (cs : Nat → ClassId) (ad : Nat → Nat) (sz : Nat) (u : Sg) (j : Jx)   : Met l y_ms_launched (Cond.code y_ms_launched b_ms_launched 1 (some .int) :: TB) { frames := 0, cells := 0, slots := 0, locals := 0 } (va_Pc [.ref (ad 0)] (xw_Pre D cs ad u j sz)) (vp_Si (fun r => r = sg_la u)) 0 0 (fun _ => False) := by
  refine Met.ofW (cc := b_ms_launched) (maxL := 1) (ret := (some .int)) (by decide) rfl ?_
  intro p e s m args below meth c s₁ B hml hv
  obtain ⟨rfl, hsz, hP, hK, hD, hN⟩ := hv
  have hx := B.exec
  have hb := B.bytes
  have hret := B.returns
  have hts := atoms_spec (ws := Cond.code y_ms_launched b_ms_launched 1 (some .int) :: TB) B.pre
  have hT : ∀ w ∈ TB, w.before _ s = true := fun w h => hts w (List.mem_cons_of_mem _ h)
  have hown : s.vm.findClass "MeasuredStages" = some m.cls := findClass_of_methodNamed B.named
  have hlocks := B.notSynchronized
  subst hsz
  have hl := lv_entry ([.ref (ad 0)]) (n := 1) (Nat.le_of_ble_eq_true rfl)
  rw [lg_entry_eq]
  generalize (lg_sl ([.ref (ad 0)]) ++ List.replicate (1 - (lg_sl ([.ref (ad 0)])).length) Slot.unset).toArray = ls at hl ⊢
  have hl : lv_has ls 1 [(0, .ref (ad 0))] := hl
  refine lv_aload_n hx hb d_ms_launched_0 rfl (lv_at hl 0 rfl) ?_
  refine va_get (D := D) (ci := 0) (v := .int (sg_la u)) (C := "MeasuredStages") (T := F_ms) (N := 12) hx hb hts (fun w h => List.mem_cons_of_mem _ (i_ms w h)) hown hK hP 0 rfl rfl 10 (by decide) (hT _ tb_79) (fun _ h9 => h9) rfl d_ms_launched_1 ?_
  exact W.iret (v := sg_la u) hx hb hret (fun t ht hW => ⟨_, rfl, rfl, ht⟩) (fun q h => by cases h) d_ms_launched_4
set_option maxHeartbeats 4000000 in
set_option maxRecDepth 100000 in
theorem c_ms_steps (l : Launch) (D : va_G) (cs : Nat → ClassId) (ad : Nat → Nat) (sz : Nat) (u : Sg) (j : Jx)   : Met l y_ms_steps (Cond.code y_ms_steps b_ms_steps 1 (some .int) :: TB) { frames := 0, cells := 0, slots := 0, locals := 0 } (va_Pc [.ref (ad 0)] (xw_Pre D cs ad u j sz)) (vp_Si (fun r => r = sg_st u)) 0 0 (fun _ => False) := by
  refine Met.ofW (cc := b_ms_steps) (maxL := 1) (ret := (some .int)) (by decide) rfl ?_
  intro p e s m args below meth c s₁ B hml hv
  obtain ⟨rfl, hsz, hP, hK, hD, hN⟩ := hv
  have hx := B.exec
  have hb := B.bytes
  have hret := B.returns
  have hts := atoms_spec (ws := Cond.code y_ms_steps b_ms_steps 1 (some .int) :: TB) B.pre
  have hT : ∀ w ∈ TB, w.before _ s = true := fun w h => hts w (List.mem_cons_of_mem _ h)
  have hown : s.vm.findClass "MeasuredStages" = some m.cls := findClass_of_methodNamed B.named
  have hlocks := B.notSynchronized
  subst hsz
  have hl := lv_entry ([.ref (ad 0)]) (n := 1) (Nat.le_of_ble_eq_true rfl)
  rw [lg_entry_eq]
  generalize (lg_sl ([.ref (ad 0)]) ++ List.replicate (1 - (lg_sl ([.ref (ad 0)])).length) Slot.unset).toArray = ls at hl ⊢
  have hl : lv_has ls 1 [(0, .ref (ad 0))] := hl
  refine lv_aload_n hx hb d_ms_steps_0 rfl (lv_at hl 0 rfl) ?_
  refine va_get (D := D) (ci := 0) (v := .int (sg_st u)) (C := "MeasuredStages") (T := F_ms) (N := 12) hx hb hts (fun w h => List.mem_cons_of_mem _ (i_ms w h)) hown hK hP 0 rfl rfl 11 (by decide) (hT _ tb_80) (fun _ h9 => h9) rfl d_ms_steps_1 ?_
  exact W.iret (v := sg_st u) hx hb hret (fun t ht hW => ⟨_, rfl, rfl, ht⟩) (fun q h => by cases h) d_ms_steps_4
set_option maxHeartbeats 4000000 in
set_option maxRecDepth 100000 in
theorem c_ms_acc (l : Launch) (D : va_G) (cs : Nat → ClassId) (ad : Nat → Nat) (sz : Nat) (u : Sg) (j : Jx)   : Met l y_ms_acc (Cond.code y_ms_acc b_ms_acc 1 (some .long) :: TB) { frames := 0, cells := 0, slots := 0, locals := 0 } (va_Pc [.ref (ad 0)] (xw_Pre D cs ad u j sz)) (vp_Sl (fun r => r = sg_ac u)) 0 0 (fun _ => False) := by
  refine Met.ofW (cc := b_ms_acc) (maxL := 1) (ret := (some .long)) (by decide) rfl ?_
  intro p e s m args below meth c s₁ B hml hv
  obtain ⟨rfl, hsz, hP, hK, hD, hN⟩ := hv
  have hx := B.exec
  have hb := B.bytes
  have hret := B.returns
  have hts := atoms_spec (ws := Cond.code y_ms_acc b_ms_acc 1 (some .long) :: TB) B.pre
  have hT : ∀ w ∈ TB, w.before _ s = true := fun w h => hts w (List.mem_cons_of_mem _ h)
  have hown : s.vm.findClass "MeasuredStages" = some m.cls := findClass_of_methodNamed B.named
  have hlocks := B.notSynchronized
  subst hsz
  have hl := lv_entry ([.ref (ad 0)]) (n := 1) (Nat.le_of_ble_eq_true rfl)
  rw [lg_entry_eq]
  generalize (lg_sl ([.ref (ad 0)]) ++ List.replicate (1 - (lg_sl ([.ref (ad 0)])).length) Slot.unset).toArray = ls at hl ⊢
  have hl : lv_has ls 1 [(0, .ref (ad 0))] := hl
  refine lv_aload_n hx hb d_ms_acc_0 rfl (lv_at hl 0 rfl) ?_
  refine va_get (D := D) (ci := 0) (v := .long (sg_ac u)) (C := "MeasuredStages") (T := F_ms) (N := 12) hx hb hts (fun w h => List.mem_cons_of_mem _ (i_ms w h)) hown hK hP 0 rfl rfl 8 (by decide) (hT _ tb_77) (fun _ h9 => h9) rfl d_ms_acc_1 ?_
  exact W.lret (v := sg_ac u) hx hb hret (fun t ht hW => ⟨_, rfl, rfl, ht⟩) (fun q h => by cases h) d_ms_acc_4
set_option maxHeartbeats 4000000 in
set_option maxRecDepth 100000 in
theorem c_ms_events (l : Launch) (D : va_G) (cs : Nat → ClassId) (ad : Nat → Nat) (sz : Nat) (u : Sg) (j : Jx)   : Met l y_ms_events (Cond.code y_ms_events b_ms_events 1 (some .int) :: TB) { frames := 0, cells := 0, slots := 0, locals := 0 } (va_Pc [.ref (ad 0)] (xw_Pre D cs ad u j sz)) (vp_Si (fun r => r = sg_en u)) 0 0 (fun _ => False) := by
  refine Met.ofW (cc := b_ms_events) (maxL := 1) (ret := (some .int)) (by decide) rfl ?_
  intro p e s m args below meth c s₁ B hml hv
  obtain ⟨rfl, hsz, hP, hK, hD, hN⟩ := hv
  have hx := B.exec
  have hb := B.bytes
  have hret := B.returns
  have hts := atoms_spec (ws := Cond.code y_ms_events b_ms_events 1 (some .int) :: TB) B.pre
  have hT : ∀ w ∈ TB, w.before _ s = true := fun w h => hts w (List.mem_cons_of_mem _ h)
  have hown : s.vm.findClass "MeasuredStages" = some m.cls := findClass_of_methodNamed B.named
  have hlocks := B.notSynchronized
  subst hsz
  have hl := lv_entry ([.ref (ad 0)]) (n := 1) (Nat.le_of_ble_eq_true rfl)
  rw [lg_entry_eq]
  generalize (lg_sl ([.ref (ad 0)]) ++ List.replicate (1 - (lg_sl ([.ref (ad 0)])).length) Slot.unset).toArray = ls at hl ⊢
  have hl : lv_has ls 1 [(0, .ref (ad 0))] := hl
  refine lv_aload_n hx hb d_ms_events_0 rfl (lv_at hl 0 rfl) ?_
  refine va_get (D := D) (ci := 0) (v := .ref (ad 4)) (C := "MeasuredStages") (T := F_ms) (N := 12) hx hb hts (fun w h => List.mem_cons_of_mem _ (i_ms w h)) hown hK hP 0 rfl rfl 3 (by decide) (hT _ tb_72) (fun _ h9 => h9) rfl d_ms_events_1 ?_
  refine va_get (D := D) (ci := 1) (v := .int (sg_en u)) (C := "MeasuredStages$Registers") (T := F_rg) (N := 5) hx hb hts (fun w h => List.mem_cons_of_mem _ (i_rg w h)) hown hK hP 4 rfl rfl 3 (by decide) (hT _ tb_34) (fun _ h9 => h9) rfl d_ms_events_4 ?_
  exact W.iret (v := sg_en u) hx hb hret (fun t ht hW => ⟨_, rfl, rfl, ht⟩) (fun q h => by cases h) d_ms_events_7
set_option maxHeartbeats 4000000 in
set_option maxRecDepth 100000 in
theorem c_md_thrown (l : Launch) (D : va_G) (cs : Nat → ClassId) (ad : Nat → Nat) (sz : Nat) (u : Sg) (j : Jm)   : Met l y_md_thrown (Cond.code y_md_thrown b_md_thrown 1 (some .int) :: TB) { frames := 0, cells := 0, slots := 0, locals := 0 } (va_Pc [.ref (ad 0)] (mw_Pre D cs ad u j sz)) (vp_Si (fun r => r = jm_th j)) 0 0 (fun _ => False) := by
  refine Met.ofW (cc := b_md_thrown) (maxL := 1) (ret := (some .int)) (by decide) rfl ?_
  intro p e s m args below meth c s₁ B hml hv
  obtain ⟨rfl, hsz, hP, hK, hD, hN⟩ := hv
  have hx := B.exec
  have hb := B.bytes
  have hret := B.returns
  have hts := atoms_spec (ws := Cond.code y_md_thrown b_md_thrown 1 (some .int) :: TB) B.pre
  have hT : ∀ w ∈ TB, w.before _ s = true := fun w h => hts w (List.mem_cons_of_mem _ h)
  have hown : s.vm.findClass "MeasuredStagesModel" = some m.cls := findClass_of_methodNamed B.named
  have hlocks := B.notSynchronized
  subst hsz
  have hl := lv_entry ([.ref (ad 0)]) (n := 1) (Nat.le_of_ble_eq_true rfl)
  rw [lg_entry_eq]
  generalize (lg_sl ([.ref (ad 0)]) ++ List.replicate (1 - (lg_sl ([.ref (ad 0)])).length) Slot.unset).toArray = ls at hl ⊢
  have hl : lv_has ls 1 [(0, .ref (ad 0))] := hl
  refine lv_aload_n hx hb d_md_thrown_0 rfl (lv_at hl 0 rfl) ?_
  refine va_get (D := D) (ci := 3) (v := .int (jm_th j)) (C := "MeasuredStagesModel") (T := F_md) (N := 19) hx hb hts (fun w h => List.mem_cons_of_mem _ (i_md w h)) hown hK hP 0 rfl rfl 18 (by decide) (hT _ tb_477) (fun _ h9 => h9) rfl d_md_thrown_1 ?_
  exact W.iret (v := jm_th j) hx hb hret (fun t ht hW => ⟨_, rfl, rfl, ht⟩) (fun q h => by cases h) d_md_thrown_4
set_option maxHeartbeats 4000000 in
set_option maxRecDepth 100000 in
theorem c_md_digit (l : Launch) (D : va_G) (cs : Nat → ClassId) (ad : Nat → Nat) (sz : Nat) (u : Sg) (j : Jm) (n i : Int32) (hn : vp_in n 8) : Met l y_md_digit (Cond.code y_md_digit b_md_digit 3 (some .int) :: TB) { frames := 0, cells := 0, slots := 0, locals := 0 } (va_Pc [.ref (ad 0), .int n, .int i] (mw_Pre D cs ad u j sz)) (vp_Si (fun r => r = sp_dg (sg_im u n.toNatClampNeg) i)) 0 0 (fun _ => False) := by
  refine Met.ofW (cc := b_md_digit) (maxL := 3) (ret := (some .int)) (by decide) rfl ?_
  intro p e s m args below meth c s₁ B hml hv
  obtain ⟨rfl, hsz, hP, hK, hD, hN⟩ := hv
  have hx := B.exec
  have hb := B.bytes
  have hret := B.returns
  have hts := atoms_spec (ws := Cond.code y_md_digit b_md_digit 3 (some .int) :: TB) B.pre
  have hT : ∀ w ∈ TB, w.before _ s = true := fun w h => hts w (List.mem_cons_of_mem _ h)
  have hown : s.vm.findClass "MeasuredStagesModel" = some m.cls := findClass_of_methodNamed B.named
  have hlocks := B.notSynchronized
  subst hsz
  have hl := lv_entry ([.ref (ad 0), .int n, .int i]) (n := 3) (Nat.le_of_ble_eq_true rfl)
  rw [lg_entry_eq]
  generalize (lg_sl ([.ref (ad 0), .int n, .int i]) ++ List.replicate (3 - (lg_sl ([.ref (ad 0), .int n, .int i])).length) Slot.unset).toArray = ls at hl ⊢
  have hl : lv_has ls 3 [(0, .ref (ad 0)), (1, .int n), (2, .int i)] := hl
  refine lv_iload_n hx hb d_md_digit_0 rfl (lv_at hl 2 rfl) ?_
  refine lv_bipush (v := 16) hx hb d_md_digit_1 (by decide) ?_
  refine lv_icmp_ge hx hb d_md_digit_3 (tgt := 24) (by decide) (fun h1 => ?_) (fun h1 => ?_)
  · skip
    refine lv_iconst (v := 0) hx hb d_md_digit_24 (by decide) ?_
    exact W.iret (v := 0) hx hb hret (fun t ht hW => ⟨_, rfl, by show _ = sp_dg _ _; unfold sp_dg; rw [if_neg (Int32.not_lt.mpr h1)], ht⟩) (fun q h => by cases h) d_md_digit_25
  · skip
    refine lv_aload_n hx hb d_md_digit_6 rfl (lv_at hl 0 rfl) ?_
    refine va_get (D := D) (ci := 3) (v := .ref (ad 2)) (C := "MeasuredStagesModel") (T := F_md) (N := 19) hx hb hts (fun w h => List.mem_cons_of_mem _ (i_md w h)) hown hK hP 0 rfl rfl 1 (by decide) (hT _ tb_460) (fun _ h9 => h9) rfl d_md_digit_7 ?_
    refine lv_iload_n hx hb d_md_digit_10 rfl (lv_at hl 1 rfl) ?_
    refine va_lald hx hb hK hP 2 1 rfl rfl hn d_md_digit_11 ?_
    refine lv_iconst (v := 4) hx hb d_md_digit_12 (by decide) ?_
    refine lv_iload_n hx hb d_md_digit_13 rfl (lv_at hl 2 rfl) ?_
    refine lv_imul hx hb d_md_digit_14 ?_
    refine lv_lushr (v := sp_sh (sg_im u n.toNatClampNeg) ((4) * i)) hx hb d_md_digit_15 rfl ?_
    refine lv_ldc2 (v := 15) hx hb hown (hT _ tb_560) d_md_digit_16 ?_
    refine lv_land hx hb d_md_digit_19 ?_
    refine lv_l2i hx hb d_md_digit_20 rfl ?_
    refine lv_goto hx hb d_md_digit_21 (tgt := 25) (by decide) ?_
    exact W.iret (v := ((sp_sh (sg_im u n.toNatClampNeg) ((4) * i)) &&& (15)).toInt32) hx hb hret (fun t ht hW => ⟨_, rfl, by show _ = sp_dg _ _; unfold sp_dg; rw [if_pos (Int32.not_le.mp h1), sp_and], ht⟩) (fun q h => by cases h) d_md_digit_25
set_option maxHeartbeats 4000000 in
set_option maxRecDepth 100000 in
theorem c_md_digest (l : Launch) (D : va_G) (cs : Nat → ClassId) (ad : Nat → Nat) (sz : Nat) (u : Sg) (j : Jm) (n : Int32) (hn : vp_in n 8) : Met l y_md_digest (Cond.code y_md_digest b_md_digest 2 (some .long) :: TB) { frames := 1, cells := 0, slots := 0, locals := 25 } (va_Pc [.ref (ad 0), .int n] (mw_Pre D cs ad u j sz)) (vp_Sl (fun r => r = sp_di u n)) 0 0 (fun _ => False) := by
  refine Met.ofW (cc := b_md_digest) (maxL := 2) (ret := (some .long)) (by decide) rfl ?_
  intro p e s m args below meth c s₁ B hml hv
  obtain ⟨rfl, hsz, hP, hK, hD, hN⟩ := hv
  have hx := B.exec
  have hb := B.bytes
  have hret := B.returns
  have hts := atoms_spec (ws := Cond.code y_md_digest b_md_digest 2 (some .long) :: TB) B.pre
  have hT : ∀ w ∈ TB, w.before _ s = true := fun w h => hts w (List.mem_cons_of_mem _ h)
  have hown : s.vm.findClass "MeasuredStagesModel" = some m.cls := findClass_of_methodNamed B.named
  have hlocks := B.notSynchronized
  subst hsz
  have hl := lv_entry ([.ref (ad 0), .int n]) (n := 2) (Nat.le_of_ble_eq_true rfl)
  rw [lg_entry_eq]
  generalize (lg_sl ([.ref (ad 0), .int n]) ++ List.replicate (2 - (lg_sl ([.ref (ad 0), .int n])).length) Slot.unset).toArray = ls at hl ⊢
  have hl : lv_has ls 2 [(0, .ref (ad 0)), (1, .int n)] := hl
  refine lv_ldc2 (v := 5) hx hb hown (hT _ tb_533) d_md_digest_0 ?_
  refine lv_aload_n hx hb d_md_digest_3 rfl (lv_at hl 0 rfl) ?_
  refine va_get (D := D) (ci := 3) (v := .ref (ad 2)) (C := "MeasuredStagesModel") (T := F_md) (N := 19) hx hb hts (fun w h => List.mem_cons_of_mem _ (i_md w h)) hown hK hP 0 rfl rfl 1 (by decide) (hT _ tb_460) (fun _ h9 => h9) rfl d_md_digest_4 ?_
  refine lv_iload_n hx hb d_md_digest_7 rfl (lv_at hl 1 rfl) ?_
  refine va_lald hx hb hK hP 2 1 rfl rfl hn d_md_digest_8 ?_
  refine st_l (v := sp_h (5) (sg_im u n.toNatClampNeg)) (As := [.long (5), .long (sg_im u n.toNatClampNeg)]) (rest := []) ⟨hx, hb, hml, hown, hts⟩ (c_md_h l 5 (sg_im u n.toNatClampNeg)) tb_534 tb_535 tb_4 tb_536 hd_md_h ⟨Nat.le_of_ble_eq_true rfl, Nat.le_of_ble_eq_true rfl⟩ rfl rfl hl.1 rfl (Nat.le_of_ble_eq_true rfl) d_md_digest_9 ⟨Nat.zero_le _, Nat.zero_le _⟩ ?_
  exact W.lret (v := sp_h (5) (sg_im u n.toNatClampNeg)) hx hb hret (fun t ht hW => ⟨_, rfl, rfl, ht⟩) (fun q h => by cases h) d_md_digest_12
set_option maxHeartbeats 4000000 in
set_option maxRecDepth 100000 in
theorem c_md_policy (l : Launch) (D : va_G) (cs : Nat → ClassId) (ad : Nat → Nat) (sz : Nat) (u : Sg) (j : Jm) (mask : Int32)  : Met l y_md_policy (Cond.code y_md_policy b_md_policy 5 (some .long) :: TB) { frames := 1, cells := 0, slots := 0, locals := 25 } (va_Pc [.ref (ad 0), .int mask] (mw_Pre D cs ad u j sz)) (vp_Sl (fun r => r = sp_po u mask)) 0 0 (fun _ => False) := by
  refine Met.ofW (cc := b_md_policy) (maxL := 5) (ret := (some .long)) (by decide) rfl ?_
  intro p e s m args below meth c s₁ B hml hv
  obtain ⟨rfl, hsz, hP, hK, hD, hN⟩ := hv
  have hx := B.exec
  have hb := B.bytes
  have hret := B.returns
  have hts := atoms_spec (ws := Cond.code y_md_policy b_md_policy 5 (some .long) :: TB) B.pre
  have hT : ∀ w ∈ TB, w.before _ s = true := fun w h => hts w (List.mem_cons_of_mem _ h)
  have hown : s.vm.findClass "MeasuredStagesModel" = some m.cls := findClass_of_methodNamed B.named
  have hlocks := B.notSynchronized
  subst hsz
  have hl := lv_entry ([.ref (ad 0), .int mask]) (n := 5) (Nat.le_of_ble_eq_true rfl)
  rw [lg_entry_eq]
  generalize (lg_sl ([.ref (ad 0), .int mask]) ++ List.replicate (5 - (lg_sl ([.ref (ad 0), .int mask])).length) Slot.unset).toArray = ls at hl ⊢
  have hl : lv_has ls 5 [(0, .ref (ad 0)), (1, .int mask)] := hl
  refine lv_ldc2 (v := 9) hx hb hown (hT _ tb_569) d_md_policy_0 ?_
  refine lv_iload_n hx hb d_md_policy_3 rfl (lv_at hl 1 rfl) ?_
  refine lv_i2l hx hb d_md_policy_4 rfl ?_
  refine st_l (v := sp_h (9) (mask.toInt64)) (As := [.long (9), .long (mask.toInt64)]) (rest := []) ⟨hx, hb, hml, hown, hts⟩ (c_md_h l 9 (mask.toInt64)) tb_534 tb_535 tb_4 tb_536 hd_md_h ⟨Nat.le_of_ble_eq_true rfl, Nat.le_of_ble_eq_true rfl⟩ rfl rfl hl.1 rfl (Nat.le_of_ble_eq_true rfl) d_md_policy_5 ⟨Nat.zero_le _, Nat.zero_le _⟩ ?_
  refine lv_lstore_n (nL := 5) (lv' := [(2, .long (sp_h (9) (mask.toInt64))), (0, .ref (ad 0)), (1, .int mask)]) hx hb d_md_policy_8 rfl hl (by decide) rfl (fun ls hl => ?_)
  refine lv_iconst (v := 0) hx hb d_md_policy_9 (by decide) ?_
  refine lv_istore (nL := 5) (lv' := [(4, .int (0)), (2, .long (sp_h (9) (mask.toInt64))), (0, .ref (ad 0)), (1, .int mask)]) hx hb d_md_policy_10 hl (by decide) rfl (fun ls hl => ?_)
  refine wl_up (α := Unit) 6 (fun r H1 L1 ls _ => H1 = s.heap ∧ L1 = [] ∧ lv_has ls 5 [(4, .int (nI r)), (2, .long (sp_pl (sg_he u) mask r)), (0, .ref (ad 0)), (1, .int mask)]) 12 ?_ ?_ 0 _ _ ls () (Nat.zero_le _) ⟨rfl, rfl, lv_sub hl [0, 1, 2, 3] rfl⟩
  · intro H1 L1 ls _ hI
    obtain ⟨rfl, rfl, hl⟩ := hI
    refine lv_iload hx hb d_md_policy_12 (lv_at hl 0 rfl) ?_
    refine lv_bipush (v := 6) hx hb d_md_policy_14 (by decide) ?_
    refine lv_icmp_ge hx hb d_md_policy_16 (tgt := 51) (by decide) (fun _ => ?_) (fun z => absurd (by decide) z)
    refine lv_lload_n hx hb d_md_policy_51 rfl (lv_at hl 1 rfl) ?_
    exact W.lret (v := sp_pl (sg_he u) mask (6)) hx hb hret (fun t ht hW => ⟨_, rfl, rfl, ht⟩) (fun q h => by cases h) d_md_policy_52
  · intro r H1 L1 ls _ hr hI ih
    obtain ⟨rfl, rfl, hl⟩ := hI
    refine lv_iload hx hb d_md_policy_12 (lv_at hl 0 rfl) ?_
    refine lv_bipush (v := 6) hx hb d_md_policy_14 (by decide) ?_
    refine lv_icmp_ge hx hb d_md_policy_16 (tgt := 51) (by decide) (fun z => absurd z (nI_ge hr (by decide))) (fun _ => ?_)
    refine lv_iload_n hx hb d_md_policy_19 rfl (lv_at hl 3 rfl) ?_
    refine lv_iload hx hb d_md_policy_20 (lv_at hl 0 rfl) ?_
    refine lv_ishr hx hb d_md_policy_22 ?_
    refine lv_iconst (v := 1) hx hb d_md_policy_23 (by decide) ?_
    refine lv_iand hx hb d_md_policy_24 ?_
    refine lv_iconst (v := 1) hx hb d_md_policy_25 (by decide) ?_
    refine lv_icmp_ne hx hb d_md_policy_26 (tgt := 43) (by decide) (fun h1 => ?_) (fun h1 => ?_)
    · skip
      refine lv_lload_n hx hb d_md_policy_43 rfl (lv_at hl 1 rfl) ?_
      refine lv_lstore_n (nL := 5) (lv' := [(2, .long (sp_pl (sg_he u) mask r)), (4, .int (nI r)), (0, .ref (ad 0)), (1, .int mask)]) hx hb d_md_policy_44 rfl hl (by decide) rfl (fun ls hl => ?_)
      refine lv_iinc (nL := 5) (k := 1) (v := nI (r + 1)) (lv' := [(4, .int (nI (r + 1))), (2, .long (sp_pl (sg_he u) mask r)), (0, .ref (ad 0)), (1, .int mask)]) hx hb d_md_policy_45 hl rfl ((nI_succ r).symm) (by decide) rfl (fun ls hl => ?_)
      refine lv_goto hx hb d_md_policy_48 (tgt := 12) (by decide) ?_
      have e9 : sp_pl (sg_he u) mask (r + 1) = sp_pl (sg_he u) mask r := by
        show (if _ then _ else _) = _
        rw [if_neg h1]
      rw [← e9] at hl
      exact ih _ _ ls () ⟨rfl, rfl, lv_sub hl [0, 1, 2, 3] rfl⟩
    · skip
      refine lv_lload_n hx hb d_md_policy_29 rfl (lv_at hl 1 rfl) ?_
      refine lv_aload_n hx hb d_md_policy_30 rfl (lv_at hl 2 rfl) ?_
      refine va_get (D := D) (ci := 3) (v := .ref (ad 1)) (C := "MeasuredStagesModel") (T := F_md) (N := 19) hx hb hts (fun w h => List.mem_cons_of_mem _ (i_md w h)) hown hK hP 0 rfl rfl 0 (by decide) (hT _ tb_459) (fun _ h9 => h9) rfl d_md_policy_31 ?_
      refine lv_iload hx hb d_md_policy_34 (lv_at hl 0 rfl) ?_
      refine va_lald hx hb hK hP 1 0 rfl rfl (vp_in_nI hr (by decide)) d_md_policy_36 ?_
      refine st_l (v := sp_h (sp_pl (sg_he u) mask r) (sg_he u (nI r).toNatClampNeg)) (As := [.long (sp_pl (sg_he u) mask r), .long (sg_he u (nI r).toNatClampNeg)]) (rest := []) ⟨hx, hb, hml, hown, hts⟩ (c_md_h l (sp_pl (sg_he u) mask r) (sg_he u (nI r).toNatClampNeg)) tb_534 tb_535 tb_4 tb_536 hd_md_h ⟨Nat.le_of_ble_eq_true rfl, Nat.le_of_ble_eq_true rfl⟩ rfl rfl hl.1 rfl (Nat.le_of_ble_eq_true rfl) d_md_policy_37 ⟨Nat.zero_le _, Nat.zero_le _⟩ ?_
      refine lv_goto hx hb d_md_policy_40 (tgt := 44) (by decide) ?_
      refine lv_lstore_n (nL := 5) (lv' := [(2, .long (sp_h (sp_pl (sg_he u) mask r) (sg_he u (nI r).toNatClampNeg))), (4, .int (nI r)), (0, .ref (ad 0)), (1, .int mask)]) hx hb d_md_policy_44 rfl hl (by decide) rfl (fun ls hl => ?_)
      refine lv_iinc (nL := 5) (k := 1) (v := nI (r + 1)) (lv' := [(4, .int (nI (r + 1))), (2, .long (sp_h (sp_pl (sg_he u) mask r) (sg_he u (nI r).toNatClampNeg))), (0, .ref (ad 0)), (1, .int mask)]) hx hb d_md_policy_45 hl rfl ((nI_succ r).symm) (by decide) rfl (fun ls hl => ?_)
      refine lv_goto hx hb d_md_policy_48 (tgt := 12) (by decide) ?_
      have e9 : sp_pl (sg_he u) mask (r + 1) = sp_h (sp_pl (sg_he u) mask r) (sg_he u (nI r).toNatClampNeg) := by
        show (if _ then _ else _) = _
        rw [if_pos h1, nI_clamp (by omega)]
      rw [← e9] at hl
      exact ih _ _ ls () ⟨rfl, rfl, lv_sub hl [0, 1, 2, 3] rfl⟩
set_option maxHeartbeats 4000000 in
set_option maxRecDepth 100000 in
theorem c_md_freeBlob (l : Launch) (D : va_G) (cs : Nat → ClassId) (ad : Nat → Nat) (sz : Nat) (u : Sg) (j : Jm)   : Met l y_md_freeBlob (Cond.code y_md_freeBlob b_md_freeBlob 2 (some .int) :: TB) { frames := 0, cells := 0, slots := 0, locals := 0 } (va_Pc [.ref (ad 0)] (mw_Pre D cs ad u j sz)) (vp_Si (fun r => r = sp_lf (sg_ma u))) 0 0 (fun _ => False) := by
  refine Met.ofW (cc := b_md_freeBlob) (maxL := 2) (ret := (some .int)) (by decide) rfl ?_
  intro p e s m args below meth c s₁ B hml hv
  obtain ⟨rfl, hsz, hP, hK, hD, hN⟩ := hv
  have hx := B.exec
  have hb := B.bytes
  have hret := B.returns
  have hts := atoms_spec (ws := Cond.code y_md_freeBlob b_md_freeBlob 2 (some .int) :: TB) B.pre
  have hT : ∀ w ∈ TB, w.before _ s = true := fun w h => hts w (List.mem_cons_of_mem _ h)
  have hown : s.vm.findClass "MeasuredStagesModel" = some m.cls := findClass_of_methodNamed B.named
  have hlocks := B.notSynchronized
  subst hsz
  have hl := lv_entry ([.ref (ad 0)]) (n := 2) (Nat.le_of_ble_eq_true rfl)
  rw [lg_entry_eq]
  generalize (lg_sl ([.ref (ad 0)]) ++ List.replicate (2 - (lg_sl ([.ref (ad 0)])).length) Slot.unset).toArray = ls at hl ⊢
  have hl : lv_has ls 2 [(0, .ref (ad 0))] := hl
  refine lv_iconst (v := 0) hx hb d_md_freeBlob_0 (by decide) ?_
  refine lv_istore_n (nL := 2) (lv' := [(1, .int (0)), (0, .ref (ad 0))]) hx hb d_md_freeBlob_1 rfl hl (by decide) rfl (fun ls hl => ?_)
  refine lv_iload_n hx hb d_md_freeBlob_2 rfl (lv_at hl 0 rfl) ?_
  refine lv_bipush (v := 8) hx hb d_md_freeBlob_3 (by decide) ?_
  refine lv_icmp_ge hx hb d_md_freeBlob_5 (tgt := 25) (by decide) (fun z => absurd z (by decide)) (fun _ => ?_)
  refine lv_aload_n hx hb d_md_freeBlob_8 rfl (lv_at hl 1 rfl) ?_
  refine va_get (D := D) (ci := 3) (v := .ref (ad 5)) (C := "MeasuredStagesModel") (T := F_md) (N := 19) hx hb hts (fun w h => List.mem_cons_of_mem _ (i_md w h)) hown hK hP 0 rfl rfl 4 (by decide) (hT _ tb_463) (fun _ h9 => h9) rfl d_md_freeBlob_9 ?_
  refine lv_iload_n hx hb d_md_freeBlob_12 rfl (lv_at hl 0 rfl) ?_
  refine va_iald hx hb hK hP 5 4 rfl rfl (by unfold vp_in; decide) d_md_freeBlob_13 ?_
  refine lv_if_ne hx hb d_md_freeBlob_14 (tgt := 19) (by decide) (fun h1 => ?_) (fun h1 => ?_)
  · skip
    refine lv_iinc (nL := 2) (k := 0) (v := 1) (lv' := [(1, .int (1)), (0, .ref (ad 0))]) hx hb d_md_freeBlob_19 hl rfl (by decide) (by decide) rfl (fun ls hl => ?_)
    refine lv_goto hx hb d_md_freeBlob_22 (tgt := 2) (by decide) ?_
    refine lv_iload_n hx hb d_md_freeBlob_2 rfl (lv_at hl 0 rfl) ?_
    refine lv_bipush (v := 8) hx hb d_md_freeBlob_3 (by decide) ?_
    refine lv_icmp_ge hx hb d_md_freeBlob_5 (tgt := 25) (by decide) (fun z => absurd z (by decide)) (fun _ => ?_)
    refine lv_aload_n hx hb d_md_freeBlob_8 rfl (lv_at hl 1 rfl) ?_
    refine va_get (D := D) (ci := 3) (v := .ref (ad 5)) (C := "MeasuredStagesModel") (T := F_md) (N := 19) hx hb hts (fun w h => List.mem_cons_of_mem _ (i_md w h)) hown hK hP 0 rfl rfl 4 (by decide) (hT _ tb_463) (fun _ h9 => h9) rfl d_md_freeBlob_9 ?_
    refine lv_iload_n hx hb d_md_freeBlob_12 rfl (lv_at hl 0 rfl) ?_
    refine va_iald hx hb hK hP 5 4 rfl rfl (by unfold vp_in; decide) d_md_freeBlob_13 ?_
    refine lv_if_ne hx hb d_md_freeBlob_14 (tgt := 19) (by decide) (fun h2 => ?_) (fun h2 => ?_)
    · skip
      refine lv_iinc (nL := 2) (k := 0) (v := 2) (lv' := [(1, .int (2)), (0, .ref (ad 0))]) hx hb d_md_freeBlob_19 hl rfl (by decide) (by decide) rfl (fun ls hl => ?_)
      refine lv_goto hx hb d_md_freeBlob_22 (tgt := 2) (by decide) ?_
      refine lv_iload_n hx hb d_md_freeBlob_2 rfl (lv_at hl 0 rfl) ?_
      refine lv_bipush (v := 8) hx hb d_md_freeBlob_3 (by decide) ?_
      refine lv_icmp_ge hx hb d_md_freeBlob_5 (tgt := 25) (by decide) (fun z => absurd z (by decide)) (fun _ => ?_)
      refine lv_aload_n hx hb d_md_freeBlob_8 rfl (lv_at hl 1 rfl) ?_
      refine va_get (D := D) (ci := 3) (v := .ref (ad 5)) (C := "MeasuredStagesModel") (T := F_md) (N := 19) hx hb hts (fun w h => List.mem_cons_of_mem _ (i_md w h)) hown hK hP 0 rfl rfl 4 (by decide) (hT _ tb_463) (fun _ h9 => h9) rfl d_md_freeBlob_9 ?_
      refine lv_iload_n hx hb d_md_freeBlob_12 rfl (lv_at hl 0 rfl) ?_
      refine va_iald hx hb hK hP 5 4 rfl rfl (by unfold vp_in; decide) d_md_freeBlob_13 ?_
      refine lv_if_ne hx hb d_md_freeBlob_14 (tgt := 19) (by decide) (fun h3 => ?_) (fun h3 => ?_)
      · skip
        refine lv_iinc (nL := 2) (k := 0) (v := 3) (lv' := [(1, .int (3)), (0, .ref (ad 0))]) hx hb d_md_freeBlob_19 hl rfl (by decide) (by decide) rfl (fun ls hl => ?_)
        refine lv_goto hx hb d_md_freeBlob_22 (tgt := 2) (by decide) ?_
        refine lv_iload_n hx hb d_md_freeBlob_2 rfl (lv_at hl 0 rfl) ?_
        refine lv_bipush (v := 8) hx hb d_md_freeBlob_3 (by decide) ?_
        refine lv_icmp_ge hx hb d_md_freeBlob_5 (tgt := 25) (by decide) (fun z => absurd z (by decide)) (fun _ => ?_)
        refine lv_aload_n hx hb d_md_freeBlob_8 rfl (lv_at hl 1 rfl) ?_
        refine va_get (D := D) (ci := 3) (v := .ref (ad 5)) (C := "MeasuredStagesModel") (T := F_md) (N := 19) hx hb hts (fun w h => List.mem_cons_of_mem _ (i_md w h)) hown hK hP 0 rfl rfl 4 (by decide) (hT _ tb_463) (fun _ h9 => h9) rfl d_md_freeBlob_9 ?_
        refine lv_iload_n hx hb d_md_freeBlob_12 rfl (lv_at hl 0 rfl) ?_
        refine va_iald hx hb hK hP 5 4 rfl rfl (by unfold vp_in; decide) d_md_freeBlob_13 ?_
        refine lv_if_ne hx hb d_md_freeBlob_14 (tgt := 19) (by decide) (fun h4 => ?_) (fun h4 => ?_)
        · skip
          refine lv_iinc (nL := 2) (k := 0) (v := 4) (lv' := [(1, .int (4)), (0, .ref (ad 0))]) hx hb d_md_freeBlob_19 hl rfl (by decide) (by decide) rfl (fun ls hl => ?_)
          refine lv_goto hx hb d_md_freeBlob_22 (tgt := 2) (by decide) ?_
          refine lv_iload_n hx hb d_md_freeBlob_2 rfl (lv_at hl 0 rfl) ?_
          refine lv_bipush (v := 8) hx hb d_md_freeBlob_3 (by decide) ?_
          refine lv_icmp_ge hx hb d_md_freeBlob_5 (tgt := 25) (by decide) (fun z => absurd z (by decide)) (fun _ => ?_)
          refine lv_aload_n hx hb d_md_freeBlob_8 rfl (lv_at hl 1 rfl) ?_
          refine va_get (D := D) (ci := 3) (v := .ref (ad 5)) (C := "MeasuredStagesModel") (T := F_md) (N := 19) hx hb hts (fun w h => List.mem_cons_of_mem _ (i_md w h)) hown hK hP 0 rfl rfl 4 (by decide) (hT _ tb_463) (fun _ h9 => h9) rfl d_md_freeBlob_9 ?_
          refine lv_iload_n hx hb d_md_freeBlob_12 rfl (lv_at hl 0 rfl) ?_
          refine va_iald hx hb hK hP 5 4 rfl rfl (by unfold vp_in; decide) d_md_freeBlob_13 ?_
          refine lv_if_ne hx hb d_md_freeBlob_14 (tgt := 19) (by decide) (fun h5 => ?_) (fun h5 => ?_)
          · skip
            refine lv_iinc (nL := 2) (k := 0) (v := 5) (lv' := [(1, .int (5)), (0, .ref (ad 0))]) hx hb d_md_freeBlob_19 hl rfl (by decide) (by decide) rfl (fun ls hl => ?_)
            refine lv_goto hx hb d_md_freeBlob_22 (tgt := 2) (by decide) ?_
            refine lv_iload_n hx hb d_md_freeBlob_2 rfl (lv_at hl 0 rfl) ?_
            refine lv_bipush (v := 8) hx hb d_md_freeBlob_3 (by decide) ?_
            refine lv_icmp_ge hx hb d_md_freeBlob_5 (tgt := 25) (by decide) (fun z => absurd z (by decide)) (fun _ => ?_)
            refine lv_aload_n hx hb d_md_freeBlob_8 rfl (lv_at hl 1 rfl) ?_
            refine va_get (D := D) (ci := 3) (v := .ref (ad 5)) (C := "MeasuredStagesModel") (T := F_md) (N := 19) hx hb hts (fun w h => List.mem_cons_of_mem _ (i_md w h)) hown hK hP 0 rfl rfl 4 (by decide) (hT _ tb_463) (fun _ h9 => h9) rfl d_md_freeBlob_9 ?_
            refine lv_iload_n hx hb d_md_freeBlob_12 rfl (lv_at hl 0 rfl) ?_
            refine va_iald hx hb hK hP 5 4 rfl rfl (by unfold vp_in; decide) d_md_freeBlob_13 ?_
            refine lv_if_ne hx hb d_md_freeBlob_14 (tgt := 19) (by decide) (fun h6 => ?_) (fun h6 => ?_)
            · skip
              refine lv_iinc (nL := 2) (k := 0) (v := 6) (lv' := [(1, .int (6)), (0, .ref (ad 0))]) hx hb d_md_freeBlob_19 hl rfl (by decide) (by decide) rfl (fun ls hl => ?_)
              refine lv_goto hx hb d_md_freeBlob_22 (tgt := 2) (by decide) ?_
              refine lv_iload_n hx hb d_md_freeBlob_2 rfl (lv_at hl 0 rfl) ?_
              refine lv_bipush (v := 8) hx hb d_md_freeBlob_3 (by decide) ?_
              refine lv_icmp_ge hx hb d_md_freeBlob_5 (tgt := 25) (by decide) (fun z => absurd z (by decide)) (fun _ => ?_)
              refine lv_aload_n hx hb d_md_freeBlob_8 rfl (lv_at hl 1 rfl) ?_
              refine va_get (D := D) (ci := 3) (v := .ref (ad 5)) (C := "MeasuredStagesModel") (T := F_md) (N := 19) hx hb hts (fun w h => List.mem_cons_of_mem _ (i_md w h)) hown hK hP 0 rfl rfl 4 (by decide) (hT _ tb_463) (fun _ h9 => h9) rfl d_md_freeBlob_9 ?_
              refine lv_iload_n hx hb d_md_freeBlob_12 rfl (lv_at hl 0 rfl) ?_
              refine va_iald hx hb hK hP 5 4 rfl rfl (by unfold vp_in; decide) d_md_freeBlob_13 ?_
              refine lv_if_ne hx hb d_md_freeBlob_14 (tgt := 19) (by decide) (fun h7 => ?_) (fun h7 => ?_)
              · skip
                refine lv_iinc (nL := 2) (k := 0) (v := 7) (lv' := [(1, .int (7)), (0, .ref (ad 0))]) hx hb d_md_freeBlob_19 hl rfl (by decide) (by decide) rfl (fun ls hl => ?_)
                refine lv_goto hx hb d_md_freeBlob_22 (tgt := 2) (by decide) ?_
                refine lv_iload_n hx hb d_md_freeBlob_2 rfl (lv_at hl 0 rfl) ?_
                refine lv_bipush (v := 8) hx hb d_md_freeBlob_3 (by decide) ?_
                refine lv_icmp_ge hx hb d_md_freeBlob_5 (tgt := 25) (by decide) (fun z => absurd z (by decide)) (fun _ => ?_)
                refine lv_aload_n hx hb d_md_freeBlob_8 rfl (lv_at hl 1 rfl) ?_
                refine va_get (D := D) (ci := 3) (v := .ref (ad 5)) (C := "MeasuredStagesModel") (T := F_md) (N := 19) hx hb hts (fun w h => List.mem_cons_of_mem _ (i_md w h)) hown hK hP 0 rfl rfl 4 (by decide) (hT _ tb_463) (fun _ h9 => h9) rfl d_md_freeBlob_9 ?_
                refine lv_iload_n hx hb d_md_freeBlob_12 rfl (lv_at hl 0 rfl) ?_
                refine va_iald hx hb hK hP 5 4 rfl rfl (by unfold vp_in; decide) d_md_freeBlob_13 ?_
                refine lv_if_ne hx hb d_md_freeBlob_14 (tgt := 19) (by decide) (fun h8 => ?_) (fun h8 => ?_)
                · skip
                  refine lv_iinc (nL := 2) (k := 0) (v := 8) (lv' := [(1, .int (8)), (0, .ref (ad 0))]) hx hb d_md_freeBlob_19 hl rfl (by decide) (by decide) rfl (fun ls hl => ?_)
                  refine lv_goto hx hb d_md_freeBlob_22 (tgt := 2) (by decide) ?_
                  refine lv_iload_n hx hb d_md_freeBlob_2 rfl (lv_at hl 0 rfl) ?_
                  refine lv_bipush (v := 8) hx hb d_md_freeBlob_3 (by decide) ?_
                  refine lv_icmp_ge hx hb d_md_freeBlob_5 (tgt := 25) (by decide) (fun _ => ?_) (fun z => absurd (by decide) z)
                  refine lv_iconst (v := (-1)) hx hb d_md_freeBlob_25 (by decide) ?_
                  exact W.iret (v := (-1)) hx hb hret (fun t ht hW => ⟨_, rfl, by show _ = sp_lf _; unfold sp_lf; rw [if_neg (show ¬ sg_ma u 0 = 0 from h1), if_neg (show ¬ sg_ma u 1 = 0 from h2), if_neg (show ¬ sg_ma u 2 = 0 from h3), if_neg (show ¬ sg_ma u 3 = 0 from h4), if_neg (show ¬ sg_ma u 4 = 0 from h5), if_neg (show ¬ sg_ma u 5 = 0 from h6), if_neg (show ¬ sg_ma u 6 = 0 from h7), if_neg (show ¬ sg_ma u 7 = 0 from h8)], ht⟩) (fun q h => by cases h) d_md_freeBlob_26
                · skip
                  refine lv_iload_n hx hb d_md_freeBlob_17 rfl (lv_at hl 0 rfl) ?_
                  exact W.iret (v := 7) hx hb hret (fun t ht hW => ⟨_, rfl, by show _ = sp_lf _; unfold sp_lf; rw [if_neg (show ¬ sg_ma u 0 = 0 from h1), if_neg (show ¬ sg_ma u 1 = 0 from h2), if_neg (show ¬ sg_ma u 2 = 0 from h3), if_neg (show ¬ sg_ma u 3 = 0 from h4), if_neg (show ¬ sg_ma u 4 = 0 from h5), if_neg (show ¬ sg_ma u 5 = 0 from h6), if_neg (show ¬ sg_ma u 6 = 0 from h7), if_pos (show sg_ma u 7 = 0 from h8)], ht⟩) (fun q h => by cases h) d_md_freeBlob_18
              · skip
                refine lv_iload_n hx hb d_md_freeBlob_17 rfl (lv_at hl 0 rfl) ?_
                exact W.iret (v := 6) hx hb hret (fun t ht hW => ⟨_, rfl, by show _ = sp_lf _; unfold sp_lf; rw [if_neg (show ¬ sg_ma u 0 = 0 from h1), if_neg (show ¬ sg_ma u 1 = 0 from h2), if_neg (show ¬ sg_ma u 2 = 0 from h3), if_neg (show ¬ sg_ma u 3 = 0 from h4), if_neg (show ¬ sg_ma u 4 = 0 from h5), if_neg (show ¬ sg_ma u 5 = 0 from h6), if_pos (show sg_ma u 6 = 0 from h7)], ht⟩) (fun q h => by cases h) d_md_freeBlob_18
            · skip
              refine lv_iload_n hx hb d_md_freeBlob_17 rfl (lv_at hl 0 rfl) ?_
              exact W.iret (v := 5) hx hb hret (fun t ht hW => ⟨_, rfl, by show _ = sp_lf _; unfold sp_lf; rw [if_neg (show ¬ sg_ma u 0 = 0 from h1), if_neg (show ¬ sg_ma u 1 = 0 from h2), if_neg (show ¬ sg_ma u 2 = 0 from h3), if_neg (show ¬ sg_ma u 3 = 0 from h4), if_neg (show ¬ sg_ma u 4 = 0 from h5), if_pos (show sg_ma u 5 = 0 from h6)], ht⟩) (fun q h => by cases h) d_md_freeBlob_18
          · skip
            refine lv_iload_n hx hb d_md_freeBlob_17 rfl (lv_at hl 0 rfl) ?_
            exact W.iret (v := 4) hx hb hret (fun t ht hW => ⟨_, rfl, by show _ = sp_lf _; unfold sp_lf; rw [if_neg (show ¬ sg_ma u 0 = 0 from h1), if_neg (show ¬ sg_ma u 1 = 0 from h2), if_neg (show ¬ sg_ma u 2 = 0 from h3), if_neg (show ¬ sg_ma u 3 = 0 from h4), if_pos (show sg_ma u 4 = 0 from h5)], ht⟩) (fun q h => by cases h) d_md_freeBlob_18
        · skip
          refine lv_iload_n hx hb d_md_freeBlob_17 rfl (lv_at hl 0 rfl) ?_
          exact W.iret (v := 3) hx hb hret (fun t ht hW => ⟨_, rfl, by show _ = sp_lf _; unfold sp_lf; rw [if_neg (show ¬ sg_ma u 0 = 0 from h1), if_neg (show ¬ sg_ma u 1 = 0 from h2), if_neg (show ¬ sg_ma u 2 = 0 from h3), if_pos (show sg_ma u 3 = 0 from h4)], ht⟩) (fun q h => by cases h) d_md_freeBlob_18
      · skip
        refine lv_iload_n hx hb d_md_freeBlob_17 rfl (lv_at hl 0 rfl) ?_
        exact W.iret (v := 2) hx hb hret (fun t ht hW => ⟨_, rfl, by show _ = sp_lf _; unfold sp_lf; rw [if_neg (show ¬ sg_ma u 0 = 0 from h1), if_neg (show ¬ sg_ma u 1 = 0 from h2), if_pos (show sg_ma u 2 = 0 from h3)], ht⟩) (fun q h => by cases h) d_md_freeBlob_18
    · skip
      refine lv_iload_n hx hb d_md_freeBlob_17 rfl (lv_at hl 0 rfl) ?_
      exact W.iret (v := 1) hx hb hret (fun t ht hW => ⟨_, rfl, by show _ = sp_lf _; unfold sp_lf; rw [if_neg (show ¬ sg_ma u 0 = 0 from h1), if_pos (show sg_ma u 1 = 0 from h2)], ht⟩) (fun q h => by cases h) d_md_freeBlob_18
  · skip
    refine lv_iload_n hx hb d_md_freeBlob_17 rfl (lv_at hl 0 rfl) ?_
    exact W.iret (v := 0) hx hb hret (fun t ht hW => ⟨_, rfl, by show _ = sp_lf _; unfold sp_lf; rw [if_pos (show sg_ma u 0 = 0 from h1)], ht⟩) (fun q h => by cases h) d_md_freeBlob_18
set_option maxHeartbeats 4000000 in
set_option maxRecDepth 100000 in
theorem c_md_faultOf (l : Launch) (D : va_G) (cs : Nat → ClassId) (ad : Nat → Nat) (sz : Nat) (u : Sg) (j : Jm) (code x d : Int32) (hk : vp_in (sp_rm x 8) 8) : Met l y_md_faultOf (Cond.code y_md_faultOf b_md_faultOf 5 (some .int) :: TB) { frames := 2, cells := 0, slots := 0, locals := 49 } (va_Pc [.ref (ad 0), .int code, .int x, .int d] (mw_Pre D cs ad u j sz)) (vp_Si (fun r => r = sp_fo u code x d)) 0 0 (fun _ => False) := by
  refine Met.ofW (cc := b_md_faultOf) (maxL := 5) (ret := (some .int)) (by decide) rfl ?_
  intro p e s m args below meth c s₁ B hml hv
  obtain ⟨rfl, hsz, hP, hK, hD, hN⟩ := hv
  have hx := B.exec
  have hb := B.bytes
  have hret := B.returns
  have hts := atoms_spec (ws := Cond.code y_md_faultOf b_md_faultOf 5 (some .int) :: TB) B.pre
  have hT : ∀ w ∈ TB, w.before _ s = true := fun w h => hts w (List.mem_cons_of_mem _ h)
  have hown : s.vm.findClass "MeasuredStagesModel" = some m.cls := findClass_of_methodNamed B.named
  have hlocks := B.notSynchronized
  subst hsz
  have hl := lv_entry ([.ref (ad 0), .int code, .int x, .int d]) (n := 5) (Nat.le_of_ble_eq_true rfl)
  rw [lg_entry_eq]
  generalize (lg_sl ([.ref (ad 0), .int code, .int x, .int d]) ++ List.replicate (5 - (lg_sl ([.ref (ad 0), .int code, .int x, .int d])).length) Slot.unset).toArray = ls at hl ⊢
  have hl : lv_has ls 5 [(0, .ref (ad 0)), (1, .int code), (2, .int x), (3, .int d)] := hl
  refine lv_iload_n hx hb d_md_faultOf_0 rfl (lv_at hl 2 rfl) ?_
  refine lv_bipush (v := 8) hx hb d_md_faultOf_1 (by decide) ?_
  refine lv_irem hx hb d_md_faultOf_3 (by decide) ?_
  refine lv_istore (nL := 5) (lv' := [(4, .int (sp_rm x (8))), (0, .ref (ad 0)), (1, .int code), (2, .int x), (3, .int d)]) hx hb d_md_faultOf_4 hl (by decide) rfl (fun ls hl => ?_)
  refine lv_iload_n hx hb d_md_faultOf_6 rfl (lv_at hl 2 rfl) ?_
  refine lv_bipush (v := 8) hx hb d_md_faultOf_7 (by decide) ?_
  refine lv_icmp_le hx hb d_md_faultOf_9 (tgt := 14) (by decide) (fun h1 => ?_) (fun h1 => ?_)
  · skip
    refine lv_iload_n hx hb d_md_faultOf_14 rfl (lv_at hl 2 rfl) ?_
    refine lv_iconst (v := 1) hx hb d_md_faultOf_15 (by decide) ?_
    refine lv_icmp_ne hx hb d_md_faultOf_16 (tgt := 26) (by decide) (fun h2 => ?_) (fun h2 => ?_)
    · skip
      refine lv_iload_n hx hb d_md_faultOf_26 rfl (lv_at hl 2 rfl) ?_
      refine lv_iconst (v := 3) hx hb d_md_faultOf_27 (by decide) ?_
      refine lv_icmp_ne hx hb d_md_faultOf_28 (tgt := 64) (by decide) (fun h3 => ?_) (fun h3 => ?_)
      · skip
        refine lv_iload_n hx hb d_md_faultOf_64 rfl (lv_at hl 2 rfl) ?_
        refine lv_iconst (v := 4) hx hb d_md_faultOf_65 (by decide) ?_
        refine lv_icmp_ne hx hb d_md_faultOf_66 (tgt := 113) (by decide) (fun h4 => ?_) (fun h4 => ?_)
        · skip
          refine lv_iload_n hx hb d_md_faultOf_113 rfl (lv_at hl 2 rfl) ?_
          refine lv_bipush (v := 8) hx hb d_md_faultOf_114 (by decide) ?_
          refine lv_icmp_ne hx hb d_md_faultOf_116 (tgt := 133) (by decide) (fun h5 => ?_) (fun h5 => ?_)
          · skip
            refine lv_iload_n hx hb d_md_faultOf_133 rfl (lv_at hl 2 rfl) ?_
            refine lv_iconst (v := 1) hx hb d_md_faultOf_134 (by decide) ?_
            refine lv_icmp_eq hx hb d_md_faultOf_135 (tgt := 149) (by decide) (fun z => absurd z h2) (fun _ => ?_)
            refine lv_iload_n hx hb d_md_faultOf_138 rfl (lv_at hl 2 rfl) ?_
            refine lv_iconst (v := 2) hx hb d_md_faultOf_139 (by decide) ?_
            refine lv_icmp_eq hx hb d_md_faultOf_140 (tgt := 149) (by decide) (fun h6 => ?_) (fun h6 => ?_)
            · skip
              refine lv_aload_n hx hb d_md_faultOf_149 rfl (lv_at hl 1 rfl) ?_
              refine va_get (D := D) (ci := 3) (v := .int (sg_en u)) (C := "MeasuredStagesModel") (T := F_md) (N := 19) hx hb hts (fun w h => List.mem_cons_of_mem _ (i_md w h)) hown hK hP 0 rfl rfl 7 (by decide) (hT _ tb_466) (fun _ h9 => h9) rfl d_md_faultOf_150 ?_
              refine lv_bipush (v := 32) hx hb d_md_faultOf_153 (by decide) ?_
              refine lv_icmp_ne hx hb d_md_faultOf_155 (tgt := 162) (by decide) (fun h7 => ?_) (fun h7 => ?_)
              · skip
                refine lv_iconst (v := 0) hx hb d_md_faultOf_162 (by decide) ?_
                exact W.iret (v := 0) hx hb hret (fun t ht hW => ⟨_, rfl, by simp [sp_fo, h1, h2, h3, h4, h5, h6, h7], ht⟩) (fun q h => by cases h) d_md_faultOf_163
              · skip
                refine lv_iconst (v := 4) hx hb d_md_faultOf_158 (by decide) ?_
                refine lv_goto hx hb d_md_faultOf_159 (tgt := 163) (by decide) ?_
                exact W.iret (v := 4) hx hb hret (fun t ht hW => ⟨_, rfl, by simp [sp_fo, h1, h2, h3, h4, h5, h6, h7], ht⟩) (fun q h => by cases h) d_md_faultOf_163
            · skip
              refine lv_iload_n hx hb d_md_faultOf_143 rfl (lv_at hl 2 rfl) ?_
              refine lv_bipush (v := 6) hx hb d_md_faultOf_144 (by decide) ?_
              refine lv_icmp_ne hx hb d_md_faultOf_146 (tgt := 162) (by decide) (fun h8 => ?_) (fun h8 => ?_)
              · skip
                refine lv_iconst (v := 0) hx hb d_md_faultOf_162 (by decide) ?_
                exact W.iret (v := 0) hx hb hret (fun t ht hW => ⟨_, rfl, by simp [sp_fo, h1, h2, h3, h4, h5, h6, h8], ht⟩) (fun q h => by cases h) d_md_faultOf_163
              · skip
                refine lv_aload_n hx hb d_md_faultOf_149 rfl (lv_at hl 1 rfl) ?_
                refine va_get (D := D) (ci := 3) (v := .int (sg_en u)) (C := "MeasuredStagesModel") (T := F_md) (N := 19) hx hb hts (fun w h => List.mem_cons_of_mem _ (i_md w h)) hown hK hP 0 rfl rfl 7 (by decide) (hT _ tb_466) (fun _ h9 => h9) rfl d_md_faultOf_150 ?_
                refine lv_bipush (v := 32) hx hb d_md_faultOf_153 (by decide) ?_
                refine lv_icmp_ne hx hb d_md_faultOf_155 (tgt := 162) (by decide) (fun h9 => ?_) (fun h9 => ?_)
                · skip
                  refine lv_iconst (v := 0) hx hb d_md_faultOf_162 (by decide) ?_
                  exact W.iret (v := 0) hx hb hret (fun t ht hW => ⟨_, rfl, by simp [sp_fo, h1, h2, h3, h4, h5, h6, h8, h9], ht⟩) (fun q h => by cases h) d_md_faultOf_163
                · skip
                  refine lv_iconst (v := 4) hx hb d_md_faultOf_158 (by decide) ?_
                  refine lv_goto hx hb d_md_faultOf_159 (tgt := 163) (by decide) ?_
                  exact W.iret (v := 4) hx hb hret (fun t ht hW => ⟨_, rfl, by simp [sp_fo, h1, h2, h3, h4, h5, h6, h8, h9], ht⟩) (fun q h => by cases h) d_md_faultOf_163
          · skip
            refine lv_aload_n hx hb d_md_faultOf_119 rfl (lv_at hl 1 rfl) ?_
            refine mw_rdi (v := sp_lf (sg_ma u)) (As := []) (rest := []) ⟨hx, hb, hml, hown, hts⟩ (c_md_freeBlob l D cs ad _ u j ) tb_570 tb_572 sl_22 tb_4 tb_573 ⟨rfl, hd_md_freeBlob⟩ ⟨Nat.le_of_ble_eq_true rfl, Nat.le_of_ble_eq_true rfl⟩ rfl rfl hK hP hD hN 0 3 rfl rfl hl.1 rfl (Nat.le_of_ble_eq_true rfl) d_md_faultOf_120 ⟨Nat.zero_le _, Nat.zero_le _⟩ ?_
            refine lv_if_ge hx hb d_md_faultOf_123 (tgt := 131) (by decide) (fun h10 => ?_) (fun h10 => ?_)
            · skip
              refine lv_iconst (v := 0) hx hb d_md_faultOf_131 (by decide) ?_
              exact W.iret (v := 0) hx hb hret (fun t ht hW => ⟨_, rfl, by simp [sp_fo, h1, h2, h3, h4, h5, h10], ht⟩) (fun q h => by cases h) d_md_faultOf_132
            · skip
              refine lv_bipush (v := 8) hx hb d_md_faultOf_126 (by decide) ?_
              refine lv_goto hx hb d_md_faultOf_128 (tgt := 132) (by decide) ?_
              exact W.iret (v := 8) hx hb hret (fun t ht hW => ⟨_, rfl, by simp [sp_fo, h1, h2, h3, h4, h5, h10], ht⟩) (fun q h => by cases h) d_md_faultOf_132
        · skip
          refine lv_aload_n hx hb d_md_faultOf_69 rfl (lv_at hl 1 rfl) ?_
          refine va_get (D := D) (ci := 3) (v := .ref (ad 5)) (C := "MeasuredStagesModel") (T := F_md) (N := 19) hx hb hts (fun w h => List.mem_cons_of_mem _ (i_md w h)) hown hK hP 0 rfl rfl 4 (by decide) (hT _ tb_463) (fun _ h9 => h9) rfl d_md_faultOf_70 ?_
          refine lv_iload hx hb d_md_faultOf_73 (lv_at hl 0 rfl) ?_
          refine va_iald hx hb hK hP 5 4 rfl rfl hk d_md_faultOf_75 ?_
          refine lv_if_ne hx hb d_md_faultOf_76 (tgt := 84) (by decide) (fun h11 => ?_) (fun h11 => ?_)
          · skip
            refine lv_aload_n hx hb d_md_faultOf_84 rfl (lv_at hl 1 rfl) ?_
            refine va_get (D := D) (ci := 3) (v := .ref (ad 6)) (C := "MeasuredStagesModel") (T := F_md) (N := 19) hx hb hts (fun w h => List.mem_cons_of_mem _ (i_md w h)) hown hK hP 0 rfl rfl 5 (by decide) (hT _ tb_464) (fun _ h9 => h9) rfl d_md_faultOf_85 ?_
            refine lv_iload hx hb d_md_faultOf_88 (lv_at hl 0 rfl) ?_
            refine va_lald hx hb hK hP 6 5 rfl rfl hk d_md_faultOf_90 ?_
            refine lv_aload_n hx hb d_md_faultOf_91 rfl (lv_at hl 1 rfl) ?_
            refine lv_aload_n hx hb d_md_faultOf_92 rfl (lv_at hl 1 rfl) ?_
            refine va_get (D := D) (ci := 3) (v := .ref (ad 5)) (C := "MeasuredStagesModel") (T := F_md) (N := 19) hx hb hts (fun w h => List.mem_cons_of_mem _ (i_md w h)) hown hK hP 0 rfl rfl 4 (by decide) (hT _ tb_463) (fun _ h9 => h9) rfl d_md_faultOf_93 ?_
            refine lv_iload hx hb d_md_faultOf_96 (lv_at hl 0 rfl) ?_
            refine va_iald hx hb hK hP 5 4 rfl rfl hk d_md_faultOf_98 ?_
            refine mw_rdl (v := sp_po u (sg_ma u (sp_rm x (8)).toNatClampNeg)) (As := [.int (sg_ma u (sp_rm x (8)).toNatClampNeg)]) (rest := [.long (sg_po u (sp_rm x (8)).toNatClampNeg)]) ⟨hx, hb, hml, hown, hts⟩ (c_md_policy l D cs ad _ u j (sg_ma u (sp_rm x (8)).toNatClampNeg)) tb_565 tb_567 sl_21 tb_4 tb_568 ⟨rfl, hd_md_policy⟩ ⟨Nat.le_of_ble_eq_true rfl, Nat.le_of_ble_eq_true rfl⟩ rfl rfl hK hP hD hN 0 3 rfl rfl hl.1 rfl (Nat.le_of_ble_eq_true rfl) d_md_faultOf_99 ⟨Nat.zero_le _, Nat.zero_le _⟩ ?_
            refine W.lcmp hx hb d_md_faultOf_102 ?_
            refine lv_if_ne hx hb d_md_faultOf_103 (tgt := 110) (by decide) (fun h12 => ?_) (fun h12 => ?_)
            · skip
              have h12 := mt sp_cmp.mpr h12
              refine lv_bipush (v := 7) hx hb d_md_faultOf_110 (by decide) ?_
              exact W.iret (v := 7) hx hb hret (fun t ht hW => ⟨_, rfl, by simp [sp_fo, h1, h2, h3, h4, h11, h12], ht⟩) (fun q h => by cases h) d_md_faultOf_112
            · skip
              have h12 := sp_cmp.mp h12
              refine lv_iconst (v := 0) hx hb d_md_faultOf_106 (by decide) ?_
              refine lv_goto hx hb d_md_faultOf_107 (tgt := 112) (by decide) ?_
              exact W.iret (v := 0) hx hb hret (fun t ht hW => ⟨_, rfl, by simp [sp_fo, h1, h2, h3, h4, h11, h12], ht⟩) (fun q h => by cases h) d_md_faultOf_112
          · skip
            refine lv_bipush (v := 6) hx hb d_md_faultOf_79 (by decide) ?_
            refine lv_goto hx hb d_md_faultOf_81 (tgt := 112) (by decide) ?_
            exact W.iret (v := 6) hx hb hret (fun t ht hW => ⟨_, rfl, by simp [sp_fo, h1, h2, h3, h4, h11], ht⟩) (fun q h => by cases h) d_md_faultOf_112
      · skip
        refine lv_aload_n hx hb d_md_faultOf_31 rfl (lv_at hl 1 rfl) ?_
        refine va_get (D := D) (ci := 3) (v := .ref (ad 3)) (C := "MeasuredStagesModel") (T := F_md) (N := 19) hx hb hts (fun w h => List.mem_cons_of_mem _ (i_md w h)) hown hK hP 0 rfl rfl 2 (by decide) (hT _ tb_461) (fun _ h9 => h9) rfl d_md_faultOf_32 ?_
        refine lv_iload hx hb d_md_faultOf_35 (lv_at hl 0 rfl) ?_
        refine va_zald hx hb hK hP 3 2 rfl rfl hk d_md_faultOf_37 ?_
        refine lv_if_eq hx hb d_md_faultOf_38 (tgt := 62) (by decide) (fun h13 => ?_) (fun h13 => ?_)
        · skip
          refine lv_iconst (v := 5) hx hb d_md_faultOf_62 (by decide) ?_
          exact W.iret (v := 5) hx hb hret (fun t ht hW => ⟨_, rfl, by simp [sp_fo, h1, h2, h3, h13], ht⟩) (fun q h => by cases h) d_md_faultOf_63
        · skip
          refine lv_aload_n hx hb d_md_faultOf_41 rfl (lv_at hl 1 rfl) ?_
          refine va_get (D := D) (ci := 3) (v := .ref (ad 4)) (C := "MeasuredStagesModel") (T := F_md) (N := 19) hx hb hts (fun w h => List.mem_cons_of_mem _ (i_md w h)) hown hK hP 0 rfl rfl 3 (by decide) (hT _ tb_462) (fun _ h9 => h9) rfl d_md_faultOf_42 ?_
          refine lv_iload hx hb d_md_faultOf_45 (lv_at hl 0 rfl) ?_
          refine va_lald hx hb hK hP 4 3 rfl rfl hk d_md_faultOf_47 ?_
          refine lv_aload_n hx hb d_md_faultOf_48 rfl (lv_at hl 1 rfl) ?_
          refine lv_iload hx hb d_md_faultOf_49 (lv_at hl 0 rfl) ?_
          refine mw_rdl (v := sp_di u (sp_rm x (8))) (As := [.int (sp_rm x (8))]) (rest := [.long (sg_ag u (sp_rm x (8)).toNatClampNeg)]) ⟨hx, hb, hml, hown, hts⟩ (c_md_digest l D cs ad _ u j (sp_rm x (8)) hk) tb_529 tb_531 sl_15 tb_4 tb_532 ⟨rfl, hd_md_digest⟩ ⟨Nat.le_of_ble_eq_true rfl, Nat.le_of_ble_eq_true rfl⟩ rfl rfl hK hP hD hN 0 3 rfl rfl hl.1 rfl (Nat.le_of_ble_eq_true rfl) d_md_faultOf_51 ⟨Nat.zero_le _, Nat.zero_le _⟩ ?_
          refine W.lcmp hx hb d_md_faultOf_54 ?_
          refine lv_if_ne hx hb d_md_faultOf_55 (tgt := 62) (by decide) (fun h14 => ?_) (fun h14 => ?_)
          · skip
            have h14 := mt sp_cmp.mpr h14
            refine lv_iconst (v := 5) hx hb d_md_faultOf_62 (by decide) ?_
            exact W.iret (v := 5) hx hb hret (fun t ht hW => ⟨_, rfl, by simp [sp_fo, h1, h2, h3, h13, h14], ht⟩) (fun q h => by cases h) d_md_faultOf_63
          · skip
            have h14 := sp_cmp.mp h14
            refine lv_iconst (v := 0) hx hb d_md_faultOf_58 (by decide) ?_
            refine lv_goto hx hb d_md_faultOf_59 (tgt := 63) (by decide) ?_
            exact W.iret (v := 0) hx hb hret (fun t ht hW => ⟨_, rfl, by simp [sp_fo, h1, h2, h3, h13, h14], ht⟩) (fun q h => by cases h) d_md_faultOf_63
    · skip
      refine lv_iload_n hx hb d_md_faultOf_19 rfl (lv_at hl 4 rfl) ?_
      refine lv_iconst (v := 5) hx hb d_md_faultOf_20 (by decide) ?_
      refine lv_icmp_ne hx hb d_md_faultOf_21 (tgt := 26) (by decide) (fun h15 => ?_) (fun h15 => ?_)
      · skip
        refine lv_iload_n hx hb d_md_faultOf_26 rfl (lv_at hl 2 rfl) ?_
        refine lv_iconst (v := 3) hx hb d_md_faultOf_27 (by decide) ?_
        refine lv_icmp_ne hx hb d_md_faultOf_28 (tgt := 64) (by decide) (fun _ => ?_) (fun z => absurd z (by rw [h2]; decide))
        refine lv_iload_n hx hb d_md_faultOf_64 rfl (lv_at hl 2 rfl) ?_
        refine lv_iconst (v := 4) hx hb d_md_faultOf_65 (by decide) ?_
        refine lv_icmp_ne hx hb d_md_faultOf_66 (tgt := 113) (by decide) (fun _ => ?_) (fun z => absurd z (by rw [h2]; decide))
        refine lv_iload_n hx hb d_md_faultOf_113 rfl (lv_at hl 2 rfl) ?_
        refine lv_bipush (v := 8) hx hb d_md_faultOf_114 (by decide) ?_
        refine lv_icmp_ne hx hb d_md_faultOf_116 (tgt := 133) (by decide) (fun _ => ?_) (fun z => absurd z (by rw [h2]; decide))
        refine lv_iload_n hx hb d_md_faultOf_133 rfl (lv_at hl 2 rfl) ?_
        refine lv_iconst (v := 1) hx hb d_md_faultOf_134 (by decide) ?_
        refine lv_icmp_eq hx hb d_md_faultOf_135 (tgt := 149) (by decide) (fun _ => ?_) (fun z => absurd h2 z)
        refine lv_aload_n hx hb d_md_faultOf_149 rfl (lv_at hl 1 rfl) ?_
        refine va_get (D := D) (ci := 3) (v := .int (sg_en u)) (C := "MeasuredStagesModel") (T := F_md) (N := 19) hx hb hts (fun w h => List.mem_cons_of_mem _ (i_md w h)) hown hK hP 0 rfl rfl 7 (by decide) (hT _ tb_466) (fun _ h9 => h9) rfl d_md_faultOf_150 ?_
        refine lv_bipush (v := 32) hx hb d_md_faultOf_153 (by decide) ?_
        refine lv_icmp_ne hx hb d_md_faultOf_155 (tgt := 162) (by decide) (fun h16 => ?_) (fun h16 => ?_)
        · skip
          refine lv_iconst (v := 0) hx hb d_md_faultOf_162 (by decide) ?_
          exact W.iret (v := 0) hx hb hret (fun t ht hW => ⟨_, rfl, by simp [sp_fo, h1, h2, h15, h16], ht⟩) (fun q h => by cases h) d_md_faultOf_163
        · skip
          refine lv_iconst (v := 4) hx hb d_md_faultOf_158 (by decide) ?_
          refine lv_goto hx hb d_md_faultOf_159 (tgt := 163) (by decide) ?_
          exact W.iret (v := 4) hx hb hret (fun t ht hW => ⟨_, rfl, by simp [sp_fo, h1, h2, h15, h16], ht⟩) (fun q h => by cases h) d_md_faultOf_163
      · skip
        refine lv_iconst (v := 2) hx hb d_md_faultOf_24 (by decide) ?_
        exact W.iret (v := 2) hx hb hret (fun t ht hW => ⟨_, rfl, by simp [sp_fo, h1, h2, h15], ht⟩) (fun q h => by cases h) d_md_faultOf_25
  · skip
    refine lv_iconst (v := 1) hx hb d_md_faultOf_12 (by decide) ?_
    exact W.iret (v := 1) hx hb hret (fun t ht hW => ⟨_, rfl, by simp [sp_fo, h1], ht⟩) (fun q h => by cases h) d_md_faultOf_13
end
section
theorem d_bl_fill_0 : decode b_bl_fill 0 = .ok (.aload_n 0, 1) := by decide +kernel
theorem d_bl_fill_1 : decode b_bl_fill 1 = .ok (.getfield 9, 3) := by decide +kernel
theorem d_bl_fill_4 : decode b_bl_fill 4 = .ok (.iload_n 1, 1) := by decide +kernel
theorem d_bl_fill_5 : decode b_bl_fill 5 = .ok (.iload_n 2, 1) := by decide +kernel
theorem d_bl_fill_6 : decode b_bl_fill 6 = .ok (.iastore, 1) := by decide +kernel
theorem d_bl_fill_7 : decode b_bl_fill 7 = .ok (.aload_n 0, 1) := by decide +kernel
theorem d_bl_fill_8 : decode b_bl_fill 8 = .ok (.getfield 13, 3) := by decide +kernel
theorem d_bl_fill_11 : decode b_bl_fill 11 = .ok (.iload_n 1, 1) := by decide +kernel
theorem d_bl_fill_12 : decode b_bl_fill 12 = .ok (.lload_n 3, 1) := by decide +kernel
theorem d_bl_fill_13 : decode b_bl_fill 13 = .ok (.lastore, 1) := by decide +kernel
theorem d_bl_fill_14 : decode b_bl_fill 14 = .ok (.aload_n 0, 1) := by decide +kernel
theorem d_bl_fill_15 : decode b_bl_fill 15 = .ok (.getfield 17, 3) := by decide +kernel
theorem d_bl_fill_18 : decode b_bl_fill 18 = .ok (.iload_n 1, 1) := by decide +kernel
theorem d_bl_fill_19 : decode b_bl_fill 19 = .ok (.lload 5, 2) := by decide +kernel
theorem d_bl_fill_21 : decode b_bl_fill 21 = .ok (.lastore, 1) := by decide +kernel
theorem d_bl_fill_22 : decode b_bl_fill 22 = .ok (.return_, 1) := by decide +kernel
theorem d_bl_free_0 : decode b_bl_free 0 = .ok (.aload_n 0, 1) := by decide +kernel
theorem d_bl_free_1 : decode b_bl_free 1 = .ok (.getfield 9, 3) := by decide +kernel
theorem d_bl_free_4 : decode b_bl_free 4 = .ok (.iload_n 1, 1) := by decide +kernel
theorem d_bl_free_5 : decode b_bl_free 5 = .ok (.iconst 0, 1) := by decide +kernel
theorem d_bl_free_6 : decode b_bl_free 6 = .ok (.iastore, 1) := by decide +kernel
theorem d_bl_free_7 : decode b_bl_free 7 = .ok (.return_, 1) := by decide +kernel
theorem d_rg_measure_0 : decode b_rg_measure 0 = .ok (.aload_n 0, 1) := by decide +kernel
theorem d_rg_measure_1 : decode b_rg_measure 1 = .ok (.getfield 25, 3) := by decide +kernel
theorem d_rg_measure_4 : decode b_rg_measure 4 = .ok (.bipush 32, 2) := by decide +kernel
theorem d_rg_measure_6 : decode b_rg_measure 6 = .ok (.if_icmp .lt 5, 3) := by decide +kernel
theorem d_rg_measure_9 : decode b_rg_measure 9 = .ok (.iconst 0, 1) := by decide +kernel
theorem d_rg_measure_10 : decode b_rg_measure 10 = .ok (.ireturn, 1) := by decide +kernel
theorem d_rg_measure_11 : decode b_rg_measure 11 = .ok (.aload_n 0, 1) := by decide +kernel
theorem d_rg_measure_12 : decode b_rg_measure 12 = .ok (.getfield 11, 3) := by decide +kernel
theorem d_rg_measure_15 : decode b_rg_measure 15 = .ok (.iload_n 1, 1) := by decide +kernel
theorem d_rg_measure_16 : decode b_rg_measure 16 = .ok (.aload_n 0, 1) := by decide +kernel
theorem d_rg_measure_17 : decode b_rg_measure 17 = .ok (.getfield 11, 3) := by decide +kernel
theorem d_rg_measure_20 : decode b_rg_measure 20 = .ok (.iload_n 1, 1) := by decide +kernel
theorem d_rg_measure_21 : decode b_rg_measure 21 = .ok (.laload, 1) := by decide +kernel
theorem d_rg_measure_22 : decode b_rg_measure 22 = .ok (.lload_n 2, 1) := by decide +kernel
theorem d_rg_measure_23 : decode b_rg_measure 23 = .ok (.invokestatic 35, 3) := by decide +kernel
theorem d_rg_measure_26 : decode b_rg_measure 26 = .ok (.lastore, 1) := by decide +kernel
theorem d_rg_measure_27 : decode b_rg_measure 27 = .ok (.aload_n 0, 1) := by decide +kernel
theorem d_rg_measure_28 : decode b_rg_measure 28 = .ok (.getfield 15, 3) := by decide +kernel
theorem d_rg_measure_31 : decode b_rg_measure 31 = .ok (.aload_n 0, 1) := by decide +kernel
theorem d_rg_measure_32 : decode b_rg_measure 32 = .ok (.getfield 25, 3) := by decide +kernel
theorem d_rg_measure_35 : decode b_rg_measure 35 = .ok (.iload_n 1, 1) := by decide +kernel
theorem d_rg_measure_36 : decode b_rg_measure 36 = .ok (.iastore, 1) := by decide +kernel
theorem d_rg_measure_37 : decode b_rg_measure 37 = .ok (.aload_n 0, 1) := by decide +kernel
theorem d_rg_measure_38 : decode b_rg_measure 38 = .ok (.getfield 19, 3) := by decide +kernel
theorem d_rg_measure_41 : decode b_rg_measure 41 = .ok (.aload_n 0, 1) := by decide +kernel
theorem d_rg_measure_42 : decode b_rg_measure 42 = .ok (.getfield 25, 3) := by decide +kernel
theorem d_rg_measure_45 : decode b_rg_measure 45 = .ok (.lload_n 2, 1) := by decide +kernel
theorem d_rg_measure_46 : decode b_rg_measure 46 = .ok (.lastore, 1) := by decide +kernel
theorem d_rg_measure_47 : decode b_rg_measure 47 = .ok (.aload_n 0, 1) := by decide +kernel
theorem d_rg_measure_48 : decode b_rg_measure 48 = .ok (.dup, 1) := by decide +kernel
theorem d_rg_measure_49 : decode b_rg_measure 49 = .ok (.getfield 25, 3) := by decide +kernel
theorem d_rg_measure_52 : decode b_rg_measure 52 = .ok (.iconst 1, 1) := by decide +kernel
theorem d_rg_measure_53 : decode b_rg_measure 53 = .ok (.iadd, 1) := by decide +kernel
theorem d_rg_measure_54 : decode b_rg_measure 54 = .ok (.putfield 25, 3) := by decide +kernel
theorem d_rg_measure_57 : decode b_rg_measure 57 = .ok (.iconst 1, 1) := by decide +kernel
theorem d_rg_measure_58 : decode b_rg_measure 58 = .ok (.ireturn, 1) := by decide +kernel
theorem d_ms_extendOrFault_0 : decode b_ms_extendOrFault 0 = .ok (.aload_n 0, 1) := by decide +kernel
theorem d_ms_extendOrFault_1 : decode b_ms_extendOrFault 1 = .ok (.getfield 23, 3) := by decide +kernel
theorem d_ms_extendOrFault_4 : decode b_ms_extendOrFault 4 = .ok (.iload_n 1, 1) := by decide +kernel
theorem d_ms_extendOrFault_5 : decode b_ms_extendOrFault 5 = .ok (.lload_n 2, 1) := by decide +kernel
theorem d_ms_extendOrFault_6 : decode b_ms_extendOrFault 6 = .ok (.invokevirtual 96, 3) := by decide +kernel
theorem d_ms_extendOrFault_9 : decode b_ms_extendOrFault 9 = .ok (.ifCond .eq 7, 3) := by decide +kernel
theorem d_ms_extendOrFault_12 : decode b_ms_extendOrFault 12 = .ok (.iconst 0, 1) := by decide +kernel
theorem d_ms_extendOrFault_13 : decode b_ms_extendOrFault 13 = .ok (.goto 4, 3) := by decide +kernel
theorem d_ms_extendOrFault_16 : decode b_ms_extendOrFault 16 = .ok (.iconst 4, 1) := by decide +kernel
theorem d_ms_extendOrFault_17 : decode b_ms_extendOrFault 17 = .ok (.ireturn, 1) := by decide +kernel
theorem d_ms_takeDigit_0 : decode b_ms_takeDigit 0 = .ok (.aload_n 0, 1) := by decide +kernel
theorem d_ms_takeDigit_1 : decode b_ms_takeDigit 1 = .ok (.getfield 37, 3) := by decide +kernel
theorem d_ms_takeDigit_4 : decode b_ms_takeDigit 4 = .ok (.aload_n 0, 1) := by decide +kernel
theorem d_ms_takeDigit_5 : decode b_ms_takeDigit 5 = .ok (.getfield 179, 3) := by decide +kernel
theorem d_ms_takeDigit_8 : decode b_ms_takeDigit 8 = .ok (.iaload, 1) := by decide +kernel
theorem d_ms_takeDigit_9 : decode b_ms_takeDigit 9 = .ok (.istore_n 1, 1) := by decide +kernel
theorem d_ms_takeDigit_10 : decode b_ms_takeDigit 10 = .ok (.aload_n 0, 1) := by decide +kernel
theorem d_ms_takeDigit_11 : decode b_ms_takeDigit 11 = .ok (.getfield 37, 3) := by decide +kernel
theorem d_ms_takeDigit_14 : decode b_ms_takeDigit 14 = .ok (.aload_n 0, 1) := by decide +kernel
theorem d_ms_takeDigit_15 : decode b_ms_takeDigit 15 = .ok (.getfield 179, 3) := by decide +kernel
theorem d_ms_takeDigit_18 : decode b_ms_takeDigit 18 = .ok (.iload_n 1, 1) := by decide +kernel
theorem d_ms_takeDigit_19 : decode b_ms_takeDigit 19 = .ok (.iconst 1, 1) := by decide +kernel
theorem d_ms_takeDigit_20 : decode b_ms_takeDigit 20 = .ok (.iadd, 1) := by decide +kernel
theorem d_ms_takeDigit_21 : decode b_ms_takeDigit 21 = .ok (.iastore, 1) := by decide +kernel
theorem d_ms_takeDigit_22 : decode b_ms_takeDigit 22 = .ok (.iload_n 1, 1) := by decide +kernel
theorem d_ms_takeDigit_23 : decode b_ms_takeDigit 23 = .ok (.bipush 16, 2) := by decide +kernel
theorem d_ms_takeDigit_25 : decode b_ms_takeDigit 25 = .ok (.if_icmp .ge 23, 3) := by decide +kernel
theorem d_ms_takeDigit_28 : decode b_ms_takeDigit 28 = .ok (.aload_n 0, 1) := by decide +kernel
theorem d_ms_takeDigit_29 : decode b_ms_takeDigit 29 = .ok (.getfield 34, 3) := by decide +kernel
theorem d_ms_takeDigit_32 : decode b_ms_takeDigit 32 = .ok (.aload_n 0, 1) := by decide +kernel
theorem d_ms_takeDigit_33 : decode b_ms_takeDigit 33 = .ok (.getfield 179, 3) := by decide +kernel
theorem d_ms_takeDigit_36 : decode b_ms_takeDigit 36 = .ok (.laload, 1) := by decide +kernel
theorem d_ms_takeDigit_37 : decode b_ms_takeDigit 37 = .ok (.iconst 4, 1) := by decide +kernel
theorem d_ms_takeDigit_38 : decode b_ms_takeDigit 38 = .ok (.iload_n 1, 1) := by decide +kernel
theorem d_ms_takeDigit_39 : decode b_ms_takeDigit 39 = .ok (.imul, 1) := by decide +kernel
theorem d_ms_takeDigit_40 : decode b_ms_takeDigit 40 = .ok (.lushr, 1) := by decide +kernel
theorem d_ms_takeDigit_41 : decode b_ms_takeDigit 41 = .ok (.l2i, 1) := by decide +kernel
theorem d_ms_takeDigit_42 : decode b_ms_takeDigit 42 = .ok (.bipush 15, 2) := by decide +kernel
theorem d_ms_takeDigit_44 : decode b_ms_takeDigit 44 = .ok (.iand, 1) := by decide +kernel
theorem d_ms_takeDigit_45 : decode b_ms_takeDigit 45 = .ok (.goto 4, 3) := by decide +kernel
theorem d_ms_takeDigit_48 : decode b_ms_takeDigit 48 = .ok (.iconst 0, 1) := by decide +kernel
theorem d_ms_takeDigit_49 : decode b_ms_takeDigit 49 = .ok (.ireturn, 1) := by decide +kernel
theorem d_ms_takeImage_0 : decode b_ms_takeImage 0 = .ok (.aload_n 0, 1) := by decide +kernel
theorem d_ms_takeImage_1 : decode b_ms_takeImage 1 = .ok (.invokevirtual 185, 3) := by decide +kernel
theorem d_ms_takeImage_4 : decode b_ms_takeImage 4 = .ok (.bipush 8, 2) := by decide +kernel
theorem d_ms_takeImage_6 : decode b_ms_takeImage 6 = .ok (.irem, 1) := by decide +kernel
theorem d_ms_takeImage_7 : decode b_ms_takeImage 7 = .ok (.ireturn, 1) := by decide +kernel
theorem d_ms_takeRegister_0 : decode b_ms_takeRegister 0 = .ok (.aload_n 0, 1) := by decide +kernel
theorem d_ms_takeRegister_1 : decode b_ms_takeRegister 1 = .ok (.invokevirtual 185, 3) := by decide +kernel
theorem d_ms_takeRegister_4 : decode b_ms_takeRegister 4 = .ok (.bipush 6, 2) := by decide +kernel
theorem d_ms_takeRegister_6 : decode b_ms_takeRegister 6 = .ok (.irem, 1) := by decide +kernel
theorem d_ms_takeRegister_7 : decode b_ms_takeRegister 7 = .ok (.ireturn, 1) := by decide +kernel
theorem d_ms_launchAt_0 : decode b_ms_launchAt 0 = .ok (.iload_n 1, 1) := by decide +kernel
theorem d_ms_launchAt_1 : decode b_ms_launchAt 1 = .ok (.bipush 6, 2) := by decide +kernel
theorem d_ms_launchAt_3 : decode b_ms_launchAt 3 = .ok (.if_icmp .lt 5, 3) := by decide +kernel
theorem d_ms_launchAt_6 : decode b_ms_launchAt 6 = .ok (.iconst 2, 1) := by decide +kernel
theorem d_ms_launchAt_7 : decode b_ms_launchAt 7 = .ok (.ireturn, 1) := by decide +kernel
theorem d_ms_launchAt_8 : decode b_ms_launchAt 8 = .ok (.aload_n 0, 1) := by decide +kernel
theorem d_ms_launchAt_9 : decode b_ms_launchAt 9 = .ok (.iload_n 1, 1) := by decide +kernel
theorem d_ms_launchAt_10 : decode b_ms_launchAt 10 = .ok (.aload_n 0, 1) := by decide +kernel
theorem d_ms_launchAt_11 : decode b_ms_launchAt 11 = .ok (.iload_n 2, 1) := by decide +kernel
theorem d_ms_launchAt_12 : decode b_ms_launchAt 12 = .ok (.invokevirtual 52, 3) := by decide +kernel
theorem d_ms_launchAt_15 : decode b_ms_launchAt 15 = .ok (.invokevirtual 194, 3) := by decide +kernel
theorem d_ms_launchAt_18 : decode b_ms_launchAt 18 = .ok (.istore_n 3, 1) := by decide +kernel
theorem d_ms_launchAt_19 : decode b_ms_launchAt 19 = .ok (.iload_n 3, 1) := by decide +kernel
theorem d_ms_launchAt_20 : decode b_ms_launchAt 20 = .ok (.ifCond .eq 5, 3) := by decide +kernel
theorem d_ms_launchAt_23 : decode b_ms_launchAt 23 = .ok (.iload_n 3, 1) := by decide +kernel
theorem d_ms_launchAt_24 : decode b_ms_launchAt 24 = .ok (.ireturn, 1) := by decide +kernel
theorem d_ms_launchAt_25 : decode b_ms_launchAt 25 = .ok (.aload_n 0, 1) := by decide +kernel
theorem d_ms_launchAt_26 : decode b_ms_launchAt 26 = .ok (.dup, 1) := by decide +kernel
theorem d_ms_launchAt_27 : decode b_ms_launchAt 27 = .ok (.getfield 75, 3) := by decide +kernel
theorem d_ms_launchAt_30 : decode b_ms_launchAt 30 = .ok (.iconst 1, 1) := by decide +kernel
theorem d_ms_launchAt_31 : decode b_ms_launchAt 31 = .ok (.iadd, 1) := by decide +kernel
theorem d_ms_launchAt_32 : decode b_ms_launchAt 32 = .ok (.putfield 75, 3) := by decide +kernel
theorem d_ms_launchAt_35 : decode b_ms_launchAt 35 = .ok (.aload_n 0, 1) := by decide +kernel
theorem d_ms_launchAt_36 : decode b_ms_launchAt 36 = .ok (.getfield 34, 3) := by decide +kernel
theorem d_ms_launchAt_39 : decode b_ms_launchAt 39 = .ok (.iload_n 1, 1) := by decide +kernel
theorem d_ms_launchAt_40 : decode b_ms_launchAt 40 = .ok (.aload_n 0, 1) := by decide +kernel
theorem d_ms_launchAt_41 : decode b_ms_launchAt 41 = .ok (.getfield 9, 3) := by decide +kernel
theorem d_ms_launchAt_44 : decode b_ms_launchAt 44 = .ok (.iload_n 2, 1) := by decide +kernel
theorem d_ms_launchAt_45 : decode b_ms_launchAt 45 = .ok (.laload, 1) := by decide +kernel
theorem d_ms_launchAt_46 : decode b_ms_launchAt 46 = .ok (.lastore, 1) := by decide +kernel
theorem d_ms_launchAt_47 : decode b_ms_launchAt 47 = .ok (.aload_n 0, 1) := by decide +kernel
theorem d_ms_launchAt_48 : decode b_ms_launchAt 48 = .ok (.getfield 37, 3) := by decide +kernel
theorem d_ms_launchAt_51 : decode b_ms_launchAt 51 = .ok (.iload_n 1, 1) := by decide +kernel
theorem d_ms_launchAt_52 : decode b_ms_launchAt 52 = .ok (.iconst 0, 1) := by decide +kernel
theorem d_ms_launchAt_53 : decode b_ms_launchAt 53 = .ok (.iastore, 1) := by decide +kernel
theorem d_ms_launchAt_54 : decode b_ms_launchAt 54 = .ok (.aload_n 0, 1) := by decide +kernel
theorem d_ms_launchAt_55 : decode b_ms_launchAt 55 = .ok (.iload_n 1, 1) := by decide +kernel
theorem d_ms_launchAt_56 : decode b_ms_launchAt 56 = .ok (.putfield 179, 3) := by decide +kernel
theorem d_ms_launchAt_59 : decode b_ms_launchAt 59 = .ok (.iconst 0, 1) := by decide +kernel
theorem d_ms_launchAt_60 : decode b_ms_launchAt 60 = .ok (.ireturn, 1) := by decide +kernel
set_option maxHeartbeats 4000000 in
set_option maxRecDepth 100000 in
theorem c_bl_fill (l : Launch) (D : va_G) (cs : Nat → ClassId) (ad : Nat → Nat) (sz : Nat) (u : Sg) (j : Jx) (k mask : Int32) (po se : Int64) (hk : vp_in k 8) : Met l y_bl_fill (Cond.code y_bl_fill b_bl_fill 7 none :: TB) { frames := 0, cells := 0, slots := 0, locals := 0 } (va_Pc [.ref (ad 5), .int k, .int mask, .long po, .long se] (xw_Pre D cs ad u j sz)) (va_Qv (fun (j1 : Jx) => j1 = j) (fun (j1 : Jx) t => xw_B D cs ad (va_A (xw ad cs u j) sz) (ss_se (ss_po (ss_ma u (upd (sg_ma u) k.toNatClampNeg mask)) (vp_updL (sg_po u) k.toNatClampNeg po)) (vp_updL (sg_se u) k.toNatClampNeg se)) j1 t) (va_A (xw ad cs u j) sz)) 0 0 (va_A (xw ad cs u j) sz) := by
  refine Met.ofW (cc := b_bl_fill) (maxL := 7) (ret := none) (by decide) rfl ?_
  intro p e s m args below meth c s₁ B hml hv
  obtain ⟨rfl, hsz, hP, hK, hD, hN⟩ := hv
  have hx := B.exec
  have hb := B.bytes
  have hret := B.returns
  have hts := atoms_spec (ws := Cond.code y_bl_fill b_bl_fill 7 none :: TB) B.pre
  have hT : ∀ w ∈ TB, w.before _ s = true := fun w h => hts w (List.mem_cons_of_mem _ h)
  have hown : s.vm.findClass "MeasuredStages$Blobs" = some m.cls := findClass_of_methodNamed B.named
  have hlocks := B.notSynchronized
  subst hsz
  have hD := hD.self (sz := s.heap.size)
  generalize hAe : va_A (xw ad cs u j) s.heap.size = A at hD ⊢
  have hA : ∀ q : Nat, s.heap.size ≤ q → A q := fun q h => by rw [← hAe]; exact Or.inr h
  have hS : va_S A s.heap s.heap [] := va_S.rf
  have hl := lv_entry ([.ref (ad 5), .int k, .int mask, .long po, .long se]) (n := 7) (Nat.le_of_ble_eq_true rfl)
  rw [lg_entry_eq]
  generalize (lg_sl ([.ref (ad 5), .int k, .int mask, .long po, .long se]) ++ List.replicate (7 - (lg_sl ([.ref (ad 5), .int k, .int mask, .long po, .long se])).length) Slot.unset).toArray = ls at hl ⊢
  have hl : lv_has ls 7 [(0, .ref (ad 5)), (1, .int k), (2, .int mask), (3, .long po), (5, .long se)] := hl
  skip
  refine lv_aload_n hx hb d_bl_fill_0 rfl (lv_at hl 0 rfl) ?_
  refine va_get (D := D) (ci := 2) (v := .ref (ad 12)) (C := "MeasuredStages$Blobs") (T := F_bl) (N := 3) hx hb hts (fun w h => List.mem_cons_of_mem _ (i_bl w h)) hown hK hP 5 rfl rfl 0 (by decide) (hT _ tb_56) (fun _ h9 => h9) rfl d_bl_fill_1 ?_
  refine lv_iload_n hx hb d_bl_fill_4 rfl (lv_at hl 1 rfl) ?_
  refine lv_iload_n hx hb d_bl_fill_5 rfl (lv_at hl 2 rfl) ?_
  refine va_iast hx hb hK hP hD hS 12 9 rfl rfl hk d_bl_fill_6 (fun H locs hP hD hS => ?_)
  have hP : va_P D cx (xv ad cs (sg_im u) (sg_ap u) (sg_ag u) (sg_he u) (sg_er u) (sg_ev u) (sg_en u) (upd (sg_ma u) k.toNatClampNeg mask) (sg_po u) (sg_se u) (sg_ac u) (sg_fa u) (sg_la u) (sg_st u) (jx_ru j) (jx_nd j) (jx_de j) (jx_rp j)) H := hP
  have hD : va_D A (xv ad cs (sg_im u) (sg_ap u) (sg_ag u) (sg_he u) (sg_er u) (sg_ev u) (sg_en u) (upd (sg_ma u) k.toNatClampNeg mask) (sg_po u) (sg_se u) (sg_ac u) (sg_fa u) (sg_la u) (sg_st u) (jx_ru j) (jx_nd j) (jx_de j) (jx_rp j)) := hD
  refine lv_aload_n hx hb d_bl_fill_7 rfl (lv_at hl 0 rfl) ?_
  refine va_get (D := D) (ci := 2) (v := .ref (ad 13)) (C := "MeasuredStages$Blobs") (T := F_bl) (N := 3) hx hb hts (fun w h => List.mem_cons_of_mem _ (i_bl w h)) hown hK hP 5 rfl rfl 1 (by decide) (hT _ tb_58) (fun _ h9 => h9) rfl d_bl_fill_8 ?_
  refine lv_iload_n hx hb d_bl_fill_11 rfl (lv_at hl 1 rfl) ?_
  refine lv_lload_n hx hb d_bl_fill_12 rfl (lv_at hl 3 rfl) ?_
  refine va_last hx hb hK hP hD hS 13 10 rfl rfl hk d_bl_fill_13 (fun H locs hP hD hS => ?_)
  have hP : va_P D cx (xv ad cs (sg_im u) (sg_ap u) (sg_ag u) (sg_he u) (sg_er u) (sg_ev u) (sg_en u) (upd (sg_ma u) k.toNatClampNeg mask) (vp_updL (sg_po u) k.toNatClampNeg po) (sg_se u) (sg_ac u) (sg_fa u) (sg_la u) (sg_st u) (jx_ru j) (jx_nd j) (jx_de j) (jx_rp j)) H := hP
  have hD : va_D A (xv ad cs (sg_im u) (sg_ap u) (sg_ag u) (sg_he u) (sg_er u) (sg_ev u) (sg_en u) (upd (sg_ma u) k.toNatClampNeg mask) (vp_updL (sg_po u) k.toNatClampNeg po) (sg_se u) (sg_ac u) (sg_fa u) (sg_la u) (sg_st u) (jx_ru j) (jx_nd j) (jx_de j) (jx_rp j)) := hD
  refine lv_aload_n hx hb d_bl_fill_14 rfl (lv_at hl 0 rfl) ?_
  refine va_get (D := D) (ci := 2) (v := .ref (ad 14)) (C := "MeasuredStages$Blobs") (T := F_bl) (N := 3) hx hb hts (fun w h => List.mem_cons_of_mem _ (i_bl w h)) hown hK hP 5 rfl rfl 2 (by decide) (hT _ tb_60) (fun _ h9 => h9) rfl d_bl_fill_15 ?_
  refine lv_iload_n hx hb d_bl_fill_18 rfl (lv_at hl 1 rfl) ?_
  refine lv_lload hx hb d_bl_fill_19 (lv_at hl 4 rfl) ?_
  refine va_last hx hb hK hP hD hS 14 11 rfl rfl hk d_bl_fill_21 (fun H locs hP hD hS => ?_)
  have hP : va_P D cx (xv ad cs (sg_im u) (sg_ap u) (sg_ag u) (sg_he u) (sg_er u) (sg_ev u) (sg_en u) (upd (sg_ma u) k.toNatClampNeg mask) (vp_updL (sg_po u) k.toNatClampNeg po) (vp_updL (sg_se u) k.toNatClampNeg se) (sg_ac u) (sg_fa u) (sg_la u) (sg_st u) (jx_ru j) (jx_nd j) (jx_de j) (jx_rp j)) H := hP
  have hD : va_D A (xv ad cs (sg_im u) (sg_ap u) (sg_ag u) (sg_he u) (sg_er u) (sg_ev u) (sg_en u) (upd (sg_ma u) k.toNatClampNeg mask) (vp_updL (sg_po u) k.toNatClampNeg po) (vp_updL (sg_se u) k.toNatClampNeg se) (sg_ac u) (sg_fa u) (sg_la u) (sg_st u) (jx_ru j) (jx_nd j) (jx_de j) (jx_rp j)) := hD
  obtain ⟨v1, ev1⟩ : ∃ z : Sg, z = (sg_im u, sg_ap u, sg_ag u, sg_he u, sg_er u, sg_ev u, sg_en u, upd (sg_ma u) k.toNatClampNeg mask, vp_updL (sg_po u) k.toNatClampNeg po, vp_updL (sg_se u) k.toNatClampNeg se, sg_ac u, sg_fa u, sg_la u, sg_st u) := ⟨_, rfl⟩
  have hP : va_P D cx (xw ad cs v1 j) H := by rw [ev1, xw_u]; exact hP
  have hD : va_D A (xw ad cs v1 j) := by rw [ev1, xw_u]; exact hD
  subst ev1
  exact W.vret hx hb hret (fun t ht hW => ⟨⟨j, rfl, (by rfl), by rw [ht]; exact hP, va_K.moved hW.alike hK, hD⟩, hS.F ht⟩) hS.2.2 d_bl_fill_22
set_option maxHeartbeats 4000000 in
set_option maxRecDepth 100000 in
theorem c_bl_free (l : Launch) (D : va_G) (cs : Nat → ClassId) (ad : Nat → Nat) (sz : Nat) (u : Sg) (j : Jx) (k : Int32) (hk : vp_in k 8) : Met l y_bl_free (Cond.code y_bl_free b_bl_free 2 none :: TB) { frames := 0, cells := 0, slots := 0, locals := 0 } (va_Pc [.ref (ad 5), .int k] (xw_Pre D cs ad u j sz)) (va_Qv (fun (j1 : Jx) => j1 = j) (fun (j1 : Jx) t => xw_B D cs ad (va_A (xw ad cs u j) sz) (ss_ma u (upd (sg_ma u) k.toNatClampNeg 0)) j1 t) (va_A (xw ad cs u j) sz)) 0 0 (va_A (xw ad cs u j) sz) := by
  refine Met.ofW (cc := b_bl_free) (maxL := 2) (ret := none) (by decide) rfl ?_
  intro p e s m args below meth c s₁ B hml hv
  obtain ⟨rfl, hsz, hP, hK, hD, hN⟩ := hv
  have hx := B.exec
  have hb := B.bytes
  have hret := B.returns
  have hts := atoms_spec (ws := Cond.code y_bl_free b_bl_free 2 none :: TB) B.pre
  have hT : ∀ w ∈ TB, w.before _ s = true := fun w h => hts w (List.mem_cons_of_mem _ h)
  have hown : s.vm.findClass "MeasuredStages$Blobs" = some m.cls := findClass_of_methodNamed B.named
  have hlocks := B.notSynchronized
  subst hsz
  have hD := hD.self (sz := s.heap.size)
  generalize hAe : va_A (xw ad cs u j) s.heap.size = A at hD ⊢
  have hA : ∀ q : Nat, s.heap.size ≤ q → A q := fun q h => by rw [← hAe]; exact Or.inr h
  have hS : va_S A s.heap s.heap [] := va_S.rf
  have hl := lv_entry ([.ref (ad 5), .int k]) (n := 2) (Nat.le_of_ble_eq_true rfl)
  rw [lg_entry_eq]
  generalize (lg_sl ([.ref (ad 5), .int k]) ++ List.replicate (2 - (lg_sl ([.ref (ad 5), .int k])).length) Slot.unset).toArray = ls at hl ⊢
  have hl : lv_has ls 2 [(0, .ref (ad 5)), (1, .int k)] := hl
  skip
  refine lv_aload_n hx hb d_bl_free_0 rfl (lv_at hl 0 rfl) ?_
  refine va_get (D := D) (ci := 2) (v := .ref (ad 12)) (C := "MeasuredStages$Blobs") (T := F_bl) (N := 3) hx hb hts (fun w h => List.mem_cons_of_mem _ (i_bl w h)) hown hK hP 5 rfl rfl 0 (by decide) (hT _ tb_56) (fun _ h9 => h9) rfl d_bl_free_1 ?_
  refine lv_iload_n hx hb d_bl_free_4 rfl (lv_at hl 1 rfl) ?_
  refine lv_iconst (v := 0) hx hb d_bl_free_5 (by decide) ?_
  refine va_iast hx hb hK hP hD hS 12 9 rfl rfl hk d_bl_free_6 (fun H locs hP hD hS => ?_)
  have hP : va_P D cx (xv ad cs (sg_im u) (sg_ap u) (sg_ag u) (sg_he u) (sg_er u) (sg_ev u) (sg_en u) (upd (sg_ma u) k.toNatClampNeg (0)) (sg_po u) (sg_se u) (sg_ac u) (sg_fa u) (sg_la u) (sg_st u) (jx_ru j) (jx_nd j) (jx_de j) (jx_rp j)) H := hP
  have hD : va_D A (xv ad cs (sg_im u) (sg_ap u) (sg_ag u) (sg_he u) (sg_er u) (sg_ev u) (sg_en u) (upd (sg_ma u) k.toNatClampNeg (0)) (sg_po u) (sg_se u) (sg_ac u) (sg_fa u) (sg_la u) (sg_st u) (jx_ru j) (jx_nd j) (jx_de j) (jx_rp j)) := hD
  obtain ⟨v1, ev1⟩ : ∃ z : Sg, z = (sg_im u, sg_ap u, sg_ag u, sg_he u, sg_er u, sg_ev u, sg_en u, upd (sg_ma u) k.toNatClampNeg (0), sg_po u, sg_se u, sg_ac u, sg_fa u, sg_la u, sg_st u) := ⟨_, rfl⟩
  have hP : va_P D cx (xw ad cs v1 j) H := by rw [ev1, xw_u]; exact hP
  have hD : va_D A (xw ad cs v1 j) := by rw [ev1, xw_u]; exact hD
  subst ev1
  exact W.vret hx hb hret (fun t ht hW => ⟨⟨j, rfl, (by rfl), by rw [ht]; exact hP, va_K.moved hW.alike hK, hD⟩, hS.F ht⟩) hS.2.2 d_bl_free_7
set_option maxHeartbeats 4000000 in
set_option maxRecDepth 100000 in
theorem c_rg_measure (l : Launch) (D : va_G) (cs : Nat → ClassId) (ad : Nat → Nat) (sz : Nat) (u : Sg) (j : Jx) (r : Int32) (v : Int64) (hr : vp_in r 6) (he : vp_in (sg_en u) 32) : Met l y_rg_measure (Cond.code y_rg_measure b_rg_measure 4 (some .boolean) :: TB) { frames := 1, cells := 0, slots := 0, locals := 25 } (va_Pc [.ref (ad 4), .int r, .long v] (xw_Pre D cs ad u j sz)) (va_Qi (fun (r : Int32) (j1 : Jx) => r = 1 ∧ j1 = j) (fun (j1 : Jx) t => xw_B D cs ad (va_A (xw ad cs u j) sz) (sp_no u r v) j1 t) (va_A (xw ad cs u j) sz)) 0 0 (va_A (xw ad cs u j) sz) := by
  refine Met.ofW (cc := b_rg_measure) (maxL := 4) (ret := (some .boolean)) (by decide) rfl ?_
  intro p e s m args below meth c s₁ B hml hv
  obtain ⟨rfl, hsz, hP, hK, hD, hN⟩ := hv
  have hx := B.exec
  have hb := B.bytes
  have hret := B.returns
  have hts := atoms_spec (ws := Cond.code y_rg_measure b_rg_measure 4 (some .boolean) :: TB) B.pre
  have hT : ∀ w ∈ TB, w.before _ s = true := fun w h => hts w (List.mem_cons_of_mem _ h)
  have hown : s.vm.findClass "MeasuredStages$Registers" = some m.cls := findClass_of_methodNamed B.named
  have hlocks := B.notSynchronized
  subst hsz
  have hD := hD.self (sz := s.heap.size)
  generalize hAe : va_A (xw ad cs u j) s.heap.size = A at hD ⊢
  have hA : ∀ q : Nat, s.heap.size ≤ q → A q := fun q h => by rw [← hAe]; exact Or.inr h
  have hS : va_S A s.heap s.heap [] := va_S.rf
  have hl := lv_entry ([.ref (ad 4), .int r, .long v]) (n := 4) (Nat.le_of_ble_eq_true rfl)
  rw [lg_entry_eq]
  generalize (lg_sl ([.ref (ad 4), .int r, .long v]) ++ List.replicate (4 - (lg_sl ([.ref (ad 4), .int r, .long v])).length) Slot.unset).toArray = ls at hl ⊢
  have hl : lv_has ls 4 [(0, .ref (ad 4)), (1, .int r), (2, .long v)] := hl
  skip
  refine lv_aload_n hx hb d_rg_measure_0 rfl (lv_at hl 0 rfl) ?_
  refine va_get (D := D) (ci := 1) (v := .int (sg_en u)) (C := "MeasuredStages$Registers") (T := F_rg) (N := 5) hx hb hts (fun w h => List.mem_cons_of_mem _ (i_rg w h)) hown hK hP 4 rfl rfl 3 (by decide) (hT _ tb_33) (fun _ h9 => h9) rfl d_rg_measure_1 ?_
  refine lv_bipush (v := 32) hx hb d_rg_measure_4 (by decide) ?_
  refine lv_icmp_lt hx hb d_rg_measure_6 (tgt := 11) (by decide) (fun _ => ?_) (fun z => absurd (xn_lt (by decide) he) z)
  refine lv_aload_n hx hb d_rg_measure_11 rfl (lv_at hl 0 rfl) ?_
  refine va_get (D := D) (ci := 1) (v := .ref (ad 8)) (C := "MeasuredStages$Registers") (T := F_rg) (N := 5) hx hb hts (fun w h => List.mem_cons_of_mem _ (i_rg w h)) hown hK hP 4 rfl rfl 0 (by decide) (hT _ tb_27) (fun _ h9 => h9) rfl d_rg_measure_12 ?_
  refine lv_iload_n hx hb d_rg_measure_15 rfl (lv_at hl 1 rfl) ?_
  refine lv_aload_n hx hb d_rg_measure_16 rfl (lv_at hl 0 rfl) ?_
  refine va_get (D := D) (ci := 1) (v := .ref (ad 8)) (C := "MeasuredStages$Registers") (T := F_rg) (N := 5) hx hb hts (fun w h => List.mem_cons_of_mem _ (i_rg w h)) hown hK hP 4 rfl rfl 0 (by decide) (hT _ tb_27) (fun _ h9 => h9) rfl d_rg_measure_17 ?_
  refine lv_iload_n hx hb d_rg_measure_20 rfl (lv_at hl 1 rfl) ?_
  refine va_lald hx hb hK hP 8 5 rfl rfl hr d_rg_measure_21 ?_
  refine lv_lload_n hx hb d_rg_measure_22 rfl (lv_at hl 2 rfl) ?_
  refine sn_l (v := sp_h (sg_he u r.toNatClampNeg) v) (As := [.long (sg_he u r.toNatClampNeg), .long v]) (rest := [.int r, .ref (ad 8)]) ⟨hx, hb, hml, hown, hts⟩ (c_ms_hash l (sg_he u r.toNatClampNeg) v) hN tb_138 tb_1 tb_139 hd_ms_hash ⟨Nat.le_of_ble_eq_true rfl, Nat.le_of_ble_eq_true rfl⟩ rfl rfl hl.1 rfl (Nat.le_of_ble_eq_true rfl) d_rg_measure_23 ⟨Nat.zero_le _, Nat.zero_le _⟩ ?_
  refine va_last hx hb hK hP hD hS 8 5 rfl rfl hr d_rg_measure_26 (fun H locs hP hD hS => ?_)
  have hP : va_P D cx (xv ad cs (sg_im u) (sg_ap u) (sg_ag u) (vp_updL (sg_he u) r.toNatClampNeg (sp_h (sg_he u r.toNatClampNeg) v)) (sg_er u) (sg_ev u) (sg_en u) (sg_ma u) (sg_po u) (sg_se u) (sg_ac u) (sg_fa u) (sg_la u) (sg_st u) (jx_ru j) (jx_nd j) (jx_de j) (jx_rp j)) H := hP
  have hD : va_D A (xv ad cs (sg_im u) (sg_ap u) (sg_ag u) (vp_updL (sg_he u) r.toNatClampNeg (sp_h (sg_he u r.toNatClampNeg) v)) (sg_er u) (sg_ev u) (sg_en u) (sg_ma u) (sg_po u) (sg_se u) (sg_ac u) (sg_fa u) (sg_la u) (sg_st u) (jx_ru j) (jx_nd j) (jx_de j) (jx_rp j)) := hD
  refine lv_aload_n hx hb d_rg_measure_27 rfl (lv_at hl 0 rfl) ?_
  refine va_get (D := D) (ci := 1) (v := .ref (ad 9)) (C := "MeasuredStages$Registers") (T := F_rg) (N := 5) hx hb hts (fun w h => List.mem_cons_of_mem _ (i_rg w h)) hown hK hP 4 rfl rfl 1 (by decide) (hT _ tb_29) (fun _ h9 => h9) rfl d_rg_measure_28 ?_
  refine lv_aload_n hx hb d_rg_measure_31 rfl (lv_at hl 0 rfl) ?_
  refine va_get (D := D) (ci := 1) (v := .int (sg_en u)) (C := "MeasuredStages$Registers") (T := F_rg) (N := 5) hx hb hts (fun w h => List.mem_cons_of_mem _ (i_rg w h)) hown hK hP 4 rfl rfl 3 (by decide) (hT _ tb_33) (fun _ h9 => h9) rfl d_rg_measure_32 ?_
  refine lv_iload_n hx hb d_rg_measure_35 rfl (lv_at hl 1 rfl) ?_
  refine va_iast hx hb hK hP hD hS 9 6 rfl rfl he d_rg_measure_36 (fun H locs hP hD hS => ?_)
  have hP : va_P D cx (xv ad cs (sg_im u) (sg_ap u) (sg_ag u) (vp_updL (sg_he u) r.toNatClampNeg (sp_h (sg_he u r.toNatClampNeg) v)) (upd (sg_er u) (sg_en u).toNatClampNeg r) (sg_ev u) (sg_en u) (sg_ma u) (sg_po u) (sg_se u) (sg_ac u) (sg_fa u) (sg_la u) (sg_st u) (jx_ru j) (jx_nd j) (jx_de j) (jx_rp j)) H := hP
  have hD : va_D A (xv ad cs (sg_im u) (sg_ap u) (sg_ag u) (vp_updL (sg_he u) r.toNatClampNeg (sp_h (sg_he u r.toNatClampNeg) v)) (upd (sg_er u) (sg_en u).toNatClampNeg r) (sg_ev u) (sg_en u) (sg_ma u) (sg_po u) (sg_se u) (sg_ac u) (sg_fa u) (sg_la u) (sg_st u) (jx_ru j) (jx_nd j) (jx_de j) (jx_rp j)) := hD
  refine lv_aload_n hx hb d_rg_measure_37 rfl (lv_at hl 0 rfl) ?_
  refine va_get (D := D) (ci := 1) (v := .ref (ad 10)) (C := "MeasuredStages$Registers") (T := F_rg) (N := 5) hx hb hts (fun w h => List.mem_cons_of_mem _ (i_rg w h)) hown hK hP 4 rfl rfl 2 (by decide) (hT _ tb_31) (fun _ h9 => h9) rfl d_rg_measure_38 ?_
  refine lv_aload_n hx hb d_rg_measure_41 rfl (lv_at hl 0 rfl) ?_
  refine va_get (D := D) (ci := 1) (v := .int (sg_en u)) (C := "MeasuredStages$Registers") (T := F_rg) (N := 5) hx hb hts (fun w h => List.mem_cons_of_mem _ (i_rg w h)) hown hK hP 4 rfl rfl 3 (by decide) (hT _ tb_33) (fun _ h9 => h9) rfl d_rg_measure_42 ?_
  refine lv_lload_n hx hb d_rg_measure_45 rfl (lv_at hl 2 rfl) ?_
  refine va_last hx hb hK hP hD hS 10 7 rfl rfl he d_rg_measure_46 (fun H locs hP hD hS => ?_)
  have hP : va_P D cx (xv ad cs (sg_im u) (sg_ap u) (sg_ag u) (vp_updL (sg_he u) r.toNatClampNeg (sp_h (sg_he u r.toNatClampNeg) v)) (upd (sg_er u) (sg_en u).toNatClampNeg r) (vp_updL (sg_ev u) (sg_en u).toNatClampNeg v) (sg_en u) (sg_ma u) (sg_po u) (sg_se u) (sg_ac u) (sg_fa u) (sg_la u) (sg_st u) (jx_ru j) (jx_nd j) (jx_de j) (jx_rp j)) H := hP
  have hD : va_D A (xv ad cs (sg_im u) (sg_ap u) (sg_ag u) (vp_updL (sg_he u) r.toNatClampNeg (sp_h (sg_he u r.toNatClampNeg) v)) (upd (sg_er u) (sg_en u).toNatClampNeg r) (vp_updL (sg_ev u) (sg_en u).toNatClampNeg v) (sg_en u) (sg_ma u) (sg_po u) (sg_se u) (sg_ac u) (sg_fa u) (sg_la u) (sg_st u) (jx_ru j) (jx_nd j) (jx_de j) (jx_rp j)) := hD
  refine lv_aload_n hx hb d_rg_measure_47 rfl (lv_at hl 0 rfl) ?_
  refine lv_dup hx hb d_rg_measure_48 rfl ?_
  refine va_get (D := D) (ci := 1) (v := .int (sg_en u)) (C := "MeasuredStages$Registers") (T := F_rg) (N := 5) hx hb hts (fun w h => List.mem_cons_of_mem _ (i_rg w h)) hown hK hP 4 rfl rfl 3 (by decide) (hT _ tb_33) (fun _ h9 => h9) rfl d_rg_measure_49 ?_
  refine lv_iconst (v := 1) hx hb d_rg_measure_52 (by decide) ?_
  refine lv_iadd hx hb d_rg_measure_53 ?_
  refine va_put (D := D) (ci := 1) (v := .int ((sg_en u) + (1))) (ty := .int) (C := "MeasuredStages$Registers") (T := F_rg) (N := 5) hx hb hts (fun w h => List.mem_cons_of_mem _ (i_rg w h)) t_rg o_rg n_rg hown hK hP hD hS 4 rfl rfl 3 (by decide) (hT _ tb_33) (fun _ h9 => h9) rfl (by decide +kernel) rfl rfl (Nat.le_of_ble_eq_true rfl) d_rg_measure_54 (fun H locs hP hD hS => ?_)
  have hP : va_P D cx (xv ad cs (sg_im u) (sg_ap u) (sg_ag u) (vp_updL (sg_he u) r.toNatClampNeg (sp_h (sg_he u r.toNatClampNeg) v)) (upd (sg_er u) (sg_en u).toNatClampNeg r) (vp_updL (sg_ev u) (sg_en u).toNatClampNeg v) ((sg_en u) + (1)) (sg_ma u) (sg_po u) (sg_se u) (sg_ac u) (sg_fa u) (sg_la u) (sg_st u) (jx_ru j) (jx_nd j) (jx_de j) (jx_rp j)) H := hP
  have hD : va_D A (xv ad cs (sg_im u) (sg_ap u) (sg_ag u) (vp_updL (sg_he u) r.toNatClampNeg (sp_h (sg_he u r.toNatClampNeg) v)) (upd (sg_er u) (sg_en u).toNatClampNeg r) (vp_updL (sg_ev u) (sg_en u).toNatClampNeg v) ((sg_en u) + (1)) (sg_ma u) (sg_po u) (sg_se u) (sg_ac u) (sg_fa u) (sg_la u) (sg_st u) (jx_ru j) (jx_nd j) (jx_de j) (jx_rp j)) := hD
  refine lv_iconst (v := 1) hx hb d_rg_measure_57 (by decide) ?_
  obtain ⟨v1, ev1⟩ : ∃ z : Sg, z = (sg_im u, sg_ap u, sg_ag u, vp_updL (sg_he u) r.toNatClampNeg (sp_h (sg_he u r.toNatClampNeg) v), upd (sg_er u) (sg_en u).toNatClampNeg r, vp_updL (sg_ev u) (sg_en u).toNatClampNeg v, (sg_en u) + (1), sg_ma u, sg_po u, sg_se u, sg_ac u, sg_fa u, sg_la u, sg_st u) := ⟨_, rfl⟩
  have hP : va_P D cx (xw ad cs v1 j) H := by rw [ev1, xw_u]; exact hP
  have hD : va_D A (xw ad cs v1 j) := by rw [ev1, xw_u]; exact hD
  subst ev1
  exact W.zret hx hb hret rfl (fun t ht hW => ⟨⟨_, j, rfl, ⟨rfl, (by rfl)⟩, by rw [ht]; exact hP, va_K.moved hW.alike hK, hD⟩, hS.F ht⟩) hS.2.2 d_rg_measure_58
set_option maxHeartbeats 4000000 in
set_option maxRecDepth 100000 in
theorem c_rg_measure_f (l : Launch) (D : va_G) (cs : Nat → ClassId) (ad : Nat → Nat) (sz : Nat) (u : Sg) (j : Jx) (r : Int32) (v : Int64) (he : sg_en u = 32) : Met l y_rg_measure (Cond.code y_rg_measure b_rg_measure 4 (some .boolean) :: TB) { frames := 1, cells := 0, slots := 0, locals := 25 } (va_Pc [.ref (ad 4), .int r, .long v] (xw_Pre D cs ad u j sz)) (vp_Si (fun r => r = 0)) 0 0 (fun _ => False) := by
  refine Met.ofW (cc := b_rg_measure) (maxL := 4) (ret := (some .boolean)) (by decide) rfl ?_
  intro p e s m args below meth c s₁ B hml hv
  obtain ⟨rfl, hsz, hP, hK, hD, hN⟩ := hv
  have hx := B.exec
  have hb := B.bytes
  have hret := B.returns
  have hts := atoms_spec (ws := Cond.code y_rg_measure b_rg_measure 4 (some .boolean) :: TB) B.pre
  have hT : ∀ w ∈ TB, w.before _ s = true := fun w h => hts w (List.mem_cons_of_mem _ h)
  have hown : s.vm.findClass "MeasuredStages$Registers" = some m.cls := findClass_of_methodNamed B.named
  have hlocks := B.notSynchronized
  subst hsz
  have hl := lv_entry ([.ref (ad 4), .int r, .long v]) (n := 4) (Nat.le_of_ble_eq_true rfl)
  rw [lg_entry_eq]
  generalize (lg_sl ([.ref (ad 4), .int r, .long v]) ++ List.replicate (4 - (lg_sl ([.ref (ad 4), .int r, .long v])).length) Slot.unset).toArray = ls at hl ⊢
  have hl : lv_has ls 4 [(0, .ref (ad 4)), (1, .int r), (2, .long v)] := hl
  refine lv_aload_n hx hb d_rg_measure_0 rfl (lv_at hl 0 rfl) ?_
  refine va_get (D := D) (ci := 1) (v := .int (sg_en u)) (C := "MeasuredStages$Registers") (T := F_rg) (N := 5) hx hb hts (fun w h => List.mem_cons_of_mem _ (i_rg w h)) hown hK hP 4 rfl rfl 3 (by decide) (hT _ tb_33) (fun _ h9 => h9) rfl d_rg_measure_1 ?_
  refine lv_bipush (v := 32) hx hb d_rg_measure_4 (by decide) ?_
  refine lv_icmp_lt hx hb d_rg_measure_6 (tgt := 11) (by decide) (fun z => absurd z (by rw [he]; decide)) (fun _ => ?_)
  refine lv_iconst (v := 0) hx hb d_rg_measure_9 (by decide) ?_
  exact W.zret (v := 0) hx hb hret rfl (fun t ht hW => ⟨_, rfl, rfl, ht⟩) (fun q h => by cases h) d_rg_measure_10
set_option maxHeartbeats 4000000 in
set_option maxRecDepth 100000 in
theorem c_ms_extendOrFault (l : Launch) (D : va_G) (cs : Nat → ClassId) (ad : Nat → Nat) (sz : Nat) (u : Sg) (j : Jx) (r : Int32) (v : Int64) (hr : vp_in r 6) (he : vp_in (sg_en u) 32) : Met l y_ms_extendOrFault (Cond.code y_ms_extendOrFault b_ms_extendOrFault 4 (some .int) :: TB) { frames := 2, cells := 0, slots := 0, locals := 48 } (va_Pc [.ref (ad 0), .int r, .long v] (xw_Pre D cs ad u j sz)) (va_Qi (fun (r : Int32) (j1 : Jx) => r = 0 ∧ j1 = j) (fun (j1 : Jx) t => xw_B D cs ad (va_A (xw ad cs u j) sz) (sp_no u r v) j1 t) (va_A (xw ad cs u j) sz)) 0 0 (va_A (xw ad cs u j) sz) := by
  refine Met.ofW (cc := b_ms_extendOrFault) (maxL := 4) (ret := (some .int)) (by decide) rfl ?_
  intro p e s m args below meth c s₁ B hml hv
  obtain ⟨rfl, hsz, hP, hK, hD, hN⟩ := hv
  have hx := B.exec
  have hb := B.bytes
  have hret := B.returns
  have hts := atoms_spec (ws := Cond.code y_ms_extendOrFault b_ms_extendOrFault 4 (some .int) :: TB) B.pre
  have hT : ∀ w ∈ TB, w.before _ s = true := fun w h => hts w (List.mem_cons_of_mem _ h)
  have hown : s.vm.findClass "MeasuredStages" = some m.cls := findClass_of_methodNamed B.named
  have hlocks := B.notSynchronized
  subst hsz
  have hD := hD.self (sz := s.heap.size)
  generalize hAe : va_A (xw ad cs u j) s.heap.size = A at hD ⊢
  have hA : ∀ q : Nat, s.heap.size ≤ q → A q := fun q h => by rw [← hAe]; exact Or.inr h
  have hS : va_S A s.heap s.heap [] := va_S.rf
  have hl := lv_entry ([.ref (ad 0), .int r, .long v]) (n := 4) (Nat.le_of_ble_eq_true rfl)
  rw [lg_entry_eq]
  generalize (lg_sl ([.ref (ad 0), .int r, .long v]) ++ List.replicate (4 - (lg_sl ([.ref (ad 0), .int r, .long v])).length) Slot.unset).toArray = ls at hl ⊢
  have hl : lv_has ls 4 [(0, .ref (ad 0)), (1, .int r), (2, .long v)] := hl
  skip
  refine lv_aload_n hx hb d_ms_extendOrFault_0 rfl (lv_at hl 0 rfl) ?_
  refine va_get (D := D) (ci := 0) (v := .ref (ad 4)) (C := "MeasuredStages") (T := F_ms) (N := 12) hx hb hts (fun w h => List.mem_cons_of_mem _ (i_ms w h)) hown hK hP 0 rfl rfl 3 (by decide) (hT _ tb_72) (fun _ h9 => h9) rfl d_ms_extendOrFault_1 ?_
  refine lv_iload_n hx hb d_ms_extendOrFault_4 rfl (lv_at hl 1 rfl) ?_
  refine lv_lload_n hx hb d_ms_extendOrFault_5 rfl (lv_at hl 2 rfl) ?_
  refine xw_wri (v := 1) (u' := sp_no u r v) (As := [.int r, .long v]) (rest := []) ⟨hx, hb, hml, hown, hts⟩ (c_rg_measure l D cs ad _ u j r v hr he) tb_260 tb_261 tb_262 tb_2 tb_263 ⟨rfl, hd_rg_measure⟩ ⟨Nat.le_of_ble_eq_true rfl, Nat.le_of_ble_eq_true rfl⟩ rfl rfl hK hP hD hN 4 1 rfl rfl hl.1 rfl (Nat.le_of_ble_eq_true rfl) d_ms_extendOrFault_6 ⟨Nat.zero_le _, Nat.zero_le _⟩ hS hA (fun j1 H locs hj2 hP hD hS => ?_)
  obtain ⟨v3, ev3⟩ : ∃ z : Sg, z = sp_no u r v := ⟨_, rfl⟩
  rw [← ev3] at hP hD
  rw [hj2] at hP hD
  refine lv_if_eq hx hb d_ms_extendOrFault_9 (tgt := 16) (by decide) (fun z => absurd z (by decide)) (fun _ => ?_)
  refine lv_iconst (v := 0) hx hb d_ms_extendOrFault_12 (by decide) ?_
  refine lv_goto hx hb d_ms_extendOrFault_13 (tgt := 17) (by decide) ?_
  subst ev3
  exact W.iret hx hb hret (fun t ht hW => ⟨⟨_, j, rfl, ⟨rfl, (by rfl)⟩, by rw [ht]; exact hP, va_K.moved hW.alike hK, hD⟩, hS.F ht⟩) hS.2.2 d_ms_extendOrFault_17
set_option maxHeartbeats 4000000 in
set_option maxRecDepth 100000 in
theorem c_ms_extendOrFault_f (l : Launch) (D : va_G) (cs : Nat → ClassId) (ad : Nat → Nat) (sz : Nat) (u : Sg) (j : Jx) (r : Int32) (v : Int64) (he : sg_en u = 32) : Met l y_ms_extendOrFault (Cond.code y_ms_extendOrFault b_ms_extendOrFault 4 (some .int) :: TB) { frames := 2, cells := 0, slots := 0, locals := 48 } (va_Pc [.ref (ad 0), .int r, .long v] (xw_Pre D cs ad u j sz)) (vp_Si (fun r => r = 4)) 0 0 (fun _ => False) := by
  refine Met.ofW (cc := b_ms_extendOrFault) (maxL := 4) (ret := (some .int)) (by decide) rfl ?_
  intro p e s m args below meth c s₁ B hml hv
  obtain ⟨rfl, hsz, hP, hK, hD, hN⟩ := hv
  have hx := B.exec
  have hb := B.bytes
  have hret := B.returns
  have hts := atoms_spec (ws := Cond.code y_ms_extendOrFault b_ms_extendOrFault 4 (some .int) :: TB) B.pre
  have hT : ∀ w ∈ TB, w.before _ s = true := fun w h => hts w (List.mem_cons_of_mem _ h)
  have hown : s.vm.findClass "MeasuredStages" = some m.cls := findClass_of_methodNamed B.named
  have hlocks := B.notSynchronized
  subst hsz
  have hl := lv_entry ([.ref (ad 0), .int r, .long v]) (n := 4) (Nat.le_of_ble_eq_true rfl)
  rw [lg_entry_eq]
  generalize (lg_sl ([.ref (ad 0), .int r, .long v]) ++ List.replicate (4 - (lg_sl ([.ref (ad 0), .int r, .long v])).length) Slot.unset).toArray = ls at hl ⊢
  have hl : lv_has ls 4 [(0, .ref (ad 0)), (1, .int r), (2, .long v)] := hl
  refine lv_aload_n hx hb d_ms_extendOrFault_0 rfl (lv_at hl 0 rfl) ?_
  refine va_get (D := D) (ci := 0) (v := .ref (ad 4)) (C := "MeasuredStages") (T := F_ms) (N := 12) hx hb hts (fun w h => List.mem_cons_of_mem _ (i_ms w h)) hown hK hP 0 rfl rfl 3 (by decide) (hT _ tb_72) (fun _ h9 => h9) rfl d_ms_extendOrFault_1 ?_
  refine lv_iload_n hx hb d_ms_extendOrFault_4 rfl (lv_at hl 1 rfl) ?_
  refine lv_lload_n hx hb d_ms_extendOrFault_5 rfl (lv_at hl 2 rfl) ?_
  refine xw_rdi (v := 0) (As := [.int r, .long v]) (rest := []) ⟨hx, hb, hml, hown, hts⟩ (c_rg_measure_f l D cs ad _ u j r v he) tb_260 tb_261 tb_262 tb_2 tb_263 ⟨rfl, hd_rg_measure⟩ ⟨Nat.le_of_ble_eq_true rfl, Nat.le_of_ble_eq_true rfl⟩ rfl rfl hK hP hD hN 4 1 rfl rfl hl.1 rfl (Nat.le_of_ble_eq_true rfl) d_ms_extendOrFault_6 ⟨Nat.zero_le _, Nat.zero_le _⟩ ?_
  refine lv_if_eq hx hb d_ms_extendOrFault_9 (tgt := 16) (by decide) (fun _ => ?_) (fun z => absurd (by decide) z)
  refine lv_iconst (v := 4) hx hb d_ms_extendOrFault_16 (by decide) ?_
  exact W.iret (v := 4) hx hb hret (fun t ht hW => ⟨_, rfl, rfl, ht⟩) (fun q h => by cases h) d_ms_extendOrFault_17
set_option maxHeartbeats 4000000 in
set_option maxRecDepth 100000 in
theorem c_ms_takeDigit (l : Launch) (D : va_G) (cs : Nat → ClassId) (ad : Nat → Nat) (sz : Nat) (u : Sg) (j : Jx)  (hd : vp_in (jx_de j) 6) : Met l y_ms_takeDigit (Cond.code y_ms_takeDigit b_ms_takeDigit 2 (some .int) :: TB) { frames := 0, cells := 0, slots := 0, locals := 0 } (va_Pc [.ref (ad 0)] (xw_Pre D cs ad u j sz)) (va_Qi (fun (r : Int32) (j1 : Jx) => r = sp_dg (jx_ru j (jx_de j).toNatClampNeg) (jx_nd j (jx_de j).toNatClampNeg) ∧ j1 = sx_nd j (upd (jx_nd j) (jx_de j).toNatClampNeg (jx_nd j (jx_de j).toNatClampNeg + 1))) (fun (j1 : Jx) t => xw_B D cs ad (va_A (xw ad cs u j) sz) u j1 t) (va_A (xw ad cs u j) sz)) 0 0 (va_A (xw ad cs u j) sz) := by
  refine Met.ofW (cc := b_ms_takeDigit) (maxL := 2) (ret := (some .int)) (by decide) rfl ?_
  intro p e s m args below meth c s₁ B hml hv
  obtain ⟨rfl, hsz, hP, hK, hD, hN⟩ := hv
  have hx := B.exec
  have hb := B.bytes
  have hret := B.returns
  have hts := atoms_spec (ws := Cond.code y_ms_takeDigit b_ms_takeDigit 2 (some .int) :: TB) B.pre
  have hT : ∀ w ∈ TB, w.before _ s = true := fun w h => hts w (List.mem_cons_of_mem _ h)
  have hown : s.vm.findClass "MeasuredStages" = some m.cls := findClass_of_methodNamed B.named
  have hlocks := B.notSynchronized
  subst hsz
  have hD := hD.self (sz := s.heap.size)
  generalize hAe : va_A (xw ad cs u j) s.heap.size = A at hD ⊢
  have hA : ∀ q : Nat, s.heap.size ≤ q → A q := fun q h => by rw [← hAe]; exact Or.inr h
  have hS : va_S A s.heap s.heap [] := va_S.rf
  have hl := lv_entry ([.ref (ad 0)]) (n := 2) (Nat.le_of_ble_eq_true rfl)
  rw [lg_entry_eq]
  generalize (lg_sl ([.ref (ad 0)]) ++ List.replicate (2 - (lg_sl ([.ref (ad 0)])).length) Slot.unset).toArray = ls at hl ⊢
  have hl : lv_has ls 2 [(0, .ref (ad 0))] := hl
  skip
  refine lv_aload_n hx hb d_ms_takeDigit_0 rfl (lv_at hl 0 rfl) ?_
  refine va_get (D := D) (ci := 0) (v := .ref (ad 7)) (C := "MeasuredStages") (T := F_ms) (N := 12) hx hb hts (fun w h => List.mem_cons_of_mem _ (i_ms w h)) hown hK hP 0 rfl rfl 6 (by decide) (hT _ tb_75) (fun _ h9 => h9) rfl d_ms_takeDigit_1 ?_
  refine lv_aload_n hx hb d_ms_takeDigit_4 rfl (lv_at hl 0 rfl) ?_
  refine va_get (D := D) (ci := 0) (v := .int (jx_de j)) (C := "MeasuredStages") (T := F_ms) (N := 12) hx hb hts (fun w h => List.mem_cons_of_mem _ (i_ms w h)) hown hK hP 0 rfl rfl 7 (by decide) (hT _ tb_76) (fun _ h9 => h9) rfl d_ms_takeDigit_5 ?_
  refine va_iald hx hb hK hP 7 4 rfl rfl hd d_ms_takeDigit_8 ?_
  refine lv_istore_n (nL := 2) (lv' := [(1, .int (jx_nd j (jx_de j).toNatClampNeg)), (0, .ref (ad 0))]) hx hb d_ms_takeDigit_9 rfl hl (by decide) rfl (fun ls hl => ?_)
  refine lv_aload_n hx hb d_ms_takeDigit_10 rfl (lv_at hl 1 rfl) ?_
  refine va_get (D := D) (ci := 0) (v := .ref (ad 7)) (C := "MeasuredStages") (T := F_ms) (N := 12) hx hb hts (fun w h => List.mem_cons_of_mem _ (i_ms w h)) hown hK hP 0 rfl rfl 6 (by decide) (hT _ tb_75) (fun _ h9 => h9) rfl d_ms_takeDigit_11 ?_
  refine lv_aload_n hx hb d_ms_takeDigit_14 rfl (lv_at hl 1 rfl) ?_
  refine va_get (D := D) (ci := 0) (v := .int (jx_de j)) (C := "MeasuredStages") (T := F_ms) (N := 12) hx hb hts (fun w h => List.mem_cons_of_mem _ (i_ms w h)) hown hK hP 0 rfl rfl 7 (by decide) (hT _ tb_76) (fun _ h9 => h9) rfl d_ms_takeDigit_15 ?_
  refine lv_iload_n hx hb d_ms_takeDigit_18 rfl (lv_at hl 0 rfl) ?_
  refine lv_iconst (v := 1) hx hb d_ms_takeDigit_19 (by decide) ?_
  refine lv_iadd hx hb d_ms_takeDigit_20 ?_
  refine va_iast hx hb hK hP hD hS 7 4 rfl rfl hd d_ms_takeDigit_21 (fun H locs hP hD hS => ?_)
  have hP : va_P D cx (xv ad cs (sg_im u) (sg_ap u) (sg_ag u) (sg_he u) (sg_er u) (sg_ev u) (sg_en u) (sg_ma u) (sg_po u) (sg_se u) (sg_ac u) (sg_fa u) (sg_la u) (sg_st u) (jx_ru j) (upd (jx_nd j) (jx_de j).toNatClampNeg ((jx_nd j (jx_de j).toNatClampNeg) + (1))) (jx_de j) (jx_rp j)) H := hP
  have hD : va_D A (xv ad cs (sg_im u) (sg_ap u) (sg_ag u) (sg_he u) (sg_er u) (sg_ev u) (sg_en u) (sg_ma u) (sg_po u) (sg_se u) (sg_ac u) (sg_fa u) (sg_la u) (sg_st u) (jx_ru j) (upd (jx_nd j) (jx_de j).toNatClampNeg ((jx_nd j (jx_de j).toNatClampNeg) + (1))) (jx_de j) (jx_rp j)) := hD
  refine lv_iload_n hx hb d_ms_takeDigit_22 rfl (lv_at hl 0 rfl) ?_
  refine lv_bipush (v := 16) hx hb d_ms_takeDigit_23 (by decide) ?_
  refine lv_icmp_ge hx hb d_ms_takeDigit_25 (tgt := 48) (by decide) (fun h1 => ?_) (fun h1 => ?_)
  · skip
    refine lv_iconst (v := 0) hx hb d_ms_takeDigit_48 (by decide) ?_
    obtain ⟨q2, eq2⟩ : ∃ z : Jx, z = (jx_ru j, upd (jx_nd j) (jx_de j).toNatClampNeg ((jx_nd j (jx_de j).toNatClampNeg) + (1)), jx_de j, jx_rp j) := ⟨_, rfl⟩
    have hP : va_P D cx (xw ad cs u q2) H := by rw [eq2, xw_j]; exact hP
    have hD : va_D A (xw ad cs u q2) := by rw [eq2, xw_j]; exact hD
    exact W.iret hx hb hret (fun t ht hW => ⟨⟨_, q2, rfl, ⟨by show _ = sp_dg _ _; unfold sp_dg; rw [if_neg (Int32.not_lt.mpr h1)], (by subst eq2; rfl)⟩, by rw [ht]; exact hP, va_K.moved hW.alike hK, hD⟩, hS.F ht⟩) hS.2.2 d_ms_takeDigit_49
  · skip
    refine lv_aload_n hx hb d_ms_takeDigit_28 rfl (lv_at hl 1 rfl) ?_
    refine va_get (D := D) (ci := 0) (v := .ref (ad 6)) (C := "MeasuredStages") (T := F_ms) (N := 12) hx hb hts (fun w h => List.mem_cons_of_mem _ (i_ms w h)) hown hK hP 0 rfl rfl 5 (by decide) (hT _ tb_74) (fun _ h9 => h9) rfl d_ms_takeDigit_29 ?_
    refine lv_aload_n hx hb d_ms_takeDigit_32 rfl (lv_at hl 1 rfl) ?_
    refine va_get (D := D) (ci := 0) (v := .int (jx_de j)) (C := "MeasuredStages") (T := F_ms) (N := 12) hx hb hts (fun w h => List.mem_cons_of_mem _ (i_ms w h)) hown hK hP 0 rfl rfl 7 (by decide) (hT _ tb_76) (fun _ h9 => h9) rfl d_ms_takeDigit_33 ?_
    refine va_lald hx hb hK hP 6 3 rfl rfl hd d_ms_takeDigit_36 ?_
    refine lv_iconst (v := 4) hx hb d_ms_takeDigit_37 (by decide) ?_
    refine lv_iload_n hx hb d_ms_takeDigit_38 rfl (lv_at hl 0 rfl) ?_
    refine lv_imul hx hb d_ms_takeDigit_39 ?_
    refine lv_lushr (v := sp_sh (jx_ru j (jx_de j).toNatClampNeg) ((4) * (jx_nd j (jx_de j).toNatClampNeg))) hx hb d_ms_takeDigit_40 rfl ?_
    refine lv_l2i hx hb d_ms_takeDigit_41 rfl ?_
    refine lv_bipush (v := 15) hx hb d_ms_takeDigit_42 (by decide) ?_
    refine lv_iand hx hb d_ms_takeDigit_44 ?_
    refine lv_goto hx hb d_ms_takeDigit_45 (tgt := 49) (by decide) ?_
    obtain ⟨q3, eq3⟩ : ∃ z : Jx, z = (jx_ru j, upd (jx_nd j) (jx_de j).toNatClampNeg ((jx_nd j (jx_de j).toNatClampNeg) + (1)), jx_de j, jx_rp j) := ⟨_, rfl⟩
    have hP : va_P D cx (xw ad cs u q3) H := by rw [eq3, xw_j]; exact hP
    have hD : va_D A (xw ad cs u q3) := by rw [eq3, xw_j]; exact hD
    exact W.iret hx hb hret (fun t ht hW => ⟨⟨_, q3, rfl, ⟨by show _ = sp_dg _ _; unfold sp_dg; rw [if_pos (Int32.not_le.mp h1)], (by subst eq3; rfl)⟩, by rw [ht]; exact hP, va_K.moved hW.alike hK, hD⟩, hS.F ht⟩) hS.2.2 d_ms_takeDigit_49
set_option maxHeartbeats 4000000 in
set_option maxRecDepth 100000 in
theorem c_ms_takeImage (l : Launch) (D : va_G) (cs : Nat → ClassId) (ad : Nat → Nat) (sz : Nat) (u : Sg) (j : Jx)  (hd : vp_in (jx_de j) 6) : Met l y_ms_takeImage (Cond.code y_ms_takeImage b_ms_takeImage 1 (some .int) :: TB) { frames := 1, cells := 0, slots := 0, locals := 21 } (va_Pc [.ref (ad 0)] (xw_Pre D cs ad u j sz)) (va_Qi (fun (r : Int32) (j1 : Jx) => r = sp_rm (sp_dg (jx_ru j (jx_de j).toNatClampNeg) (jx_nd j (jx_de j).toNatClampNeg)) 8 ∧ j1 = sx_nd j (upd (jx_nd j) (jx_de j).toNatClampNeg (jx_nd j (jx_de j).toNatClampNeg + 1))) (fun (j1 : Jx) t => xw_B D cs ad (va_A (xw ad cs u j) sz) u j1 t) (va_A (xw ad cs u j) sz)) 0 0 (va_A (xw ad cs u j) sz) := by
  refine Met.ofW (cc := b_ms_takeImage) (maxL := 1) (ret := (some .int)) (by decide) rfl ?_
  intro p e s m args below meth c s₁ B hml hv
  obtain ⟨rfl, hsz, hP, hK, hD, hN⟩ := hv
  have hx := B.exec
  have hb := B.bytes
  have hret := B.returns
  have hts := atoms_spec (ws := Cond.code y_ms_takeImage b_ms_takeImage 1 (some .int) :: TB) B.pre
  have hT : ∀ w ∈ TB, w.before _ s = true := fun w h => hts w (List.mem_cons_of_mem _ h)
  have hown : s.vm.findClass "MeasuredStages" = some m.cls := findClass_of_methodNamed B.named
  have hlocks := B.notSynchronized
  subst hsz
  have hD := hD.self (sz := s.heap.size)
  generalize hAe : va_A (xw ad cs u j) s.heap.size = A at hD ⊢
  have hA : ∀ q : Nat, s.heap.size ≤ q → A q := fun q h => by rw [← hAe]; exact Or.inr h
  have hS : va_S A s.heap s.heap [] := va_S.rf
  have hl := lv_entry ([.ref (ad 0)]) (n := 1) (Nat.le_of_ble_eq_true rfl)
  rw [lg_entry_eq]
  generalize (lg_sl ([.ref (ad 0)]) ++ List.replicate (1 - (lg_sl ([.ref (ad 0)])).length) Slot.unset).toArray = ls at hl ⊢
  have hl : lv_has ls 1 [(0, .ref (ad 0))] := hl
  skip
  refine lv_aload_n hx hb d_ms_takeImage_0 rfl (lv_at hl 0 rfl) ?_
  refine xw_wri (v := sp_dg (jx_ru j (jx_de j).toNatClampNeg) (jx_nd j (jx_de j).toNatClampNeg)) (u' := u) (As := []) (rest := []) ⟨hx, hb, hml, hown, hts⟩ (c_ms_takeDigit l D cs ad _ u j  hd) tb_272 tb_274 sl_7 tb_1 tb_275 ⟨rfl, hd_ms_takeDigit⟩ ⟨Nat.le_of_ble_eq_true rfl, Nat.le_of_ble_eq_true rfl⟩ rfl rfl hK hP hD hN 0 0 rfl rfl hl.1 rfl (Nat.le_of_ble_eq_true rfl) d_ms_takeImage_1 ⟨Nat.zero_le _, Nat.zero_le _⟩ hS hA (fun j1 H locs hj2 hP hD hS => ?_)
  refine lv_bipush (v := 8) hx hb d_ms_takeImage_4 (by decide) ?_
  refine lv_irem hx hb d_ms_takeImage_6 (by decide) ?_
  exact W.iret hx hb hret (fun t ht hW => ⟨⟨_, j1, rfl, ⟨rfl, (by subst hj2; rfl)⟩, by rw [ht]; exact hP, va_K.moved hW.alike hK, hD⟩, hS.F ht⟩) hS.2.2 d_ms_takeImage_7
set_option maxHeartbeats 4000000 in
set_option maxRecDepth 100000 in
theorem c_ms_takeRegister (l : Launch) (D : va_G) (cs : Nat → ClassId) (ad : Nat → Nat) (sz : Nat) (u : Sg) (j : Jx)  (hd : vp_in (jx_de j) 6) : Met l y_ms_takeRegister (Cond.code y_ms_takeRegister b_ms_takeRegister 1 (some .int) :: TB) { frames := 1, cells := 0, slots := 0, locals := 21 } (va_Pc [.ref (ad 0)] (xw_Pre D cs ad u j sz)) (va_Qi (fun (r : Int32) (j1 : Jx) => r = sp_rm (sp_dg (jx_ru j (jx_de j).toNatClampNeg) (jx_nd j (jx_de j).toNatClampNeg)) 6 ∧ j1 = sx_nd j (upd (jx_nd j) (jx_de j).toNatClampNeg (jx_nd j (jx_de j).toNatClampNeg + 1))) (fun (j1 : Jx) t => xw_B D cs ad (va_A (xw ad cs u j) sz) u j1 t) (va_A (xw ad cs u j) sz)) 0 0 (va_A (xw ad cs u j) sz) := by
  refine Met.ofW (cc := b_ms_takeRegister) (maxL := 1) (ret := (some .int)) (by decide) rfl ?_
  intro p e s m args below meth c s₁ B hml hv
  obtain ⟨rfl, hsz, hP, hK, hD, hN⟩ := hv
  have hx := B.exec
  have hb := B.bytes
  have hret := B.returns
  have hts := atoms_spec (ws := Cond.code y_ms_takeRegister b_ms_takeRegister 1 (some .int) :: TB) B.pre
  have hT : ∀ w ∈ TB, w.before _ s = true := fun w h => hts w (List.mem_cons_of_mem _ h)
  have hown : s.vm.findClass "MeasuredStages" = some m.cls := findClass_of_methodNamed B.named
  have hlocks := B.notSynchronized
  subst hsz
  have hD := hD.self (sz := s.heap.size)
  generalize hAe : va_A (xw ad cs u j) s.heap.size = A at hD ⊢
  have hA : ∀ q : Nat, s.heap.size ≤ q → A q := fun q h => by rw [← hAe]; exact Or.inr h
  have hS : va_S A s.heap s.heap [] := va_S.rf
  have hl := lv_entry ([.ref (ad 0)]) (n := 1) (Nat.le_of_ble_eq_true rfl)
  rw [lg_entry_eq]
  generalize (lg_sl ([.ref (ad 0)]) ++ List.replicate (1 - (lg_sl ([.ref (ad 0)])).length) Slot.unset).toArray = ls at hl ⊢
  have hl : lv_has ls 1 [(0, .ref (ad 0))] := hl
  skip
  refine lv_aload_n hx hb d_ms_takeRegister_0 rfl (lv_at hl 0 rfl) ?_
  refine xw_wri (v := sp_dg (jx_ru j (jx_de j).toNatClampNeg) (jx_nd j (jx_de j).toNatClampNeg)) (u' := u) (As := []) (rest := []) ⟨hx, hb, hml, hown, hts⟩ (c_ms_takeDigit l D cs ad _ u j  hd) tb_272 tb_274 sl_7 tb_1 tb_275 ⟨rfl, hd_ms_takeDigit⟩ ⟨Nat.le_of_ble_eq_true rfl, Nat.le_of_ble_eq_true rfl⟩ rfl rfl hK hP hD hN 0 0 rfl rfl hl.1 rfl (Nat.le_of_ble_eq_true rfl) d_ms_takeRegister_1 ⟨Nat.zero_le _, Nat.zero_le _⟩ hS hA (fun j1 H locs hj2 hP hD hS => ?_)
  refine lv_bipush (v := 6) hx hb d_ms_takeRegister_4 (by decide) ?_
  refine lv_irem hx hb d_ms_takeRegister_6 (by decide) ?_
  exact W.iret hx hb hret (fun t ht hW => ⟨⟨_, j1, rfl, ⟨rfl, (by subst hj2; rfl)⟩, by rw [ht]; exact hP, va_K.moved hW.alike hK, hD⟩, hS.F ht⟩) hS.2.2 d_ms_takeRegister_7
set_option maxHeartbeats 4000000 in
set_option maxRecDepth 100000 in
theorem c_ms_launchAt_d (l : Launch) (D : va_G) (cs : Nat → ClassId) (ad : Nat → Nat) (sz : Nat) (u : Sg) (j : Jx) (d n : Int32) (hd : 6 ≤ d) : Met l y_ms_launchAt (Cond.code y_ms_launchAt b_ms_launchAt 4 (some .int) :: TB) { frames := 3, cells := 0, slots := 0, locals := 71 } (va_Pc [.ref (ad 0), .int d, .int n] (xw_Pre D cs ad u j sz)) (vp_Si (fun r => r = 2)) 0 0 (fun _ => False) := by
  refine Met.ofW (cc := b_ms_launchAt) (maxL := 4) (ret := (some .int)) (by decide) rfl ?_
  intro p e s m args below meth c s₁ B hml hv
  obtain ⟨rfl, hsz, hP, hK, hD, hN⟩ := hv
  have hx := B.exec
  have hb := B.bytes
  have hret := B.returns
  have hts := atoms_spec (ws := Cond.code y_ms_launchAt b_ms_launchAt 4 (some .int) :: TB) B.pre
  have hT : ∀ w ∈ TB, w.before _ s = true := fun w h => hts w (List.mem_cons_of_mem _ h)
  have hown : s.vm.findClass "MeasuredStages" = some m.cls := findClass_of_methodNamed B.named
  have hlocks := B.notSynchronized
  subst hsz
  have hl := lv_entry ([.ref (ad 0), .int d, .int n]) (n := 4) (Nat.le_of_ble_eq_true rfl)
  rw [lg_entry_eq]
  generalize (lg_sl ([.ref (ad 0), .int d, .int n]) ++ List.replicate (4 - (lg_sl ([.ref (ad 0), .int d, .int n])).length) Slot.unset).toArray = ls at hl ⊢
  have hl : lv_has ls 4 [(0, .ref (ad 0)), (1, .int d), (2, .int n)] := hl
  refine lv_iload_n hx hb d_ms_launchAt_0 rfl (lv_at hl 1 rfl) ?_
  refine lv_bipush (v := 6) hx hb d_ms_launchAt_1 (by decide) ?_
  refine lv_icmp_lt hx hb d_ms_launchAt_3 (tgt := 8) (by decide) (fun z => absurd z (Int32.not_lt.mpr hd)) (fun _ => ?_)
  refine lv_iconst (v := 2) hx hb d_ms_launchAt_6 (by decide) ?_
  exact W.iret (v := 2) hx hb hret (fun t ht hW => ⟨_, rfl, rfl, ht⟩) (fun q h => by cases h) d_ms_launchAt_7
set_option maxHeartbeats 4000000 in
set_option maxRecDepth 100000 in
theorem c_ms_launchAt_f (l : Launch) (D : va_G) (cs : Nat → ClassId) (ad : Nat → Nat) (sz : Nat) (u : Sg) (j : Jx) (d n : Int32) (hd : vp_in d 6) (hn : vp_in n 8) (he : sg_en u = 32) : Met l y_ms_launchAt (Cond.code y_ms_launchAt b_ms_launchAt 4 (some .int) :: TB) { frames := 3, cells := 0, slots := 0, locals := 71 } (va_Pc [.ref (ad 0), .int d, .int n] (xw_Pre D cs ad u j sz)) (vp_Si (fun r => r = 4)) 0 0 (fun _ => False) := by
  refine Met.ofW (cc := b_ms_launchAt) (maxL := 4) (ret := (some .int)) (by decide) rfl ?_
  intro p e s m args below meth c s₁ B hml hv
  obtain ⟨rfl, hsz, hP, hK, hD, hN⟩ := hv
  have hx := B.exec
  have hb := B.bytes
  have hret := B.returns
  have hts := atoms_spec (ws := Cond.code y_ms_launchAt b_ms_launchAt 4 (some .int) :: TB) B.pre
  have hT : ∀ w ∈ TB, w.before _ s = true := fun w h => hts w (List.mem_cons_of_mem _ h)
  have hown : s.vm.findClass "MeasuredStages" = some m.cls := findClass_of_methodNamed B.named
  have hlocks := B.notSynchronized
  subst hsz
  have hl := lv_entry ([.ref (ad 0), .int d, .int n]) (n := 4) (Nat.le_of_ble_eq_true rfl)
  rw [lg_entry_eq]
  generalize (lg_sl ([.ref (ad 0), .int d, .int n]) ++ List.replicate (4 - (lg_sl ([.ref (ad 0), .int d, .int n])).length) Slot.unset).toArray = ls at hl ⊢
  have hl : lv_has ls 4 [(0, .ref (ad 0)), (1, .int d), (2, .int n)] := hl
  refine lv_iload_n hx hb d_ms_launchAt_0 rfl (lv_at hl 1 rfl) ?_
  refine lv_bipush (v := 6) hx hb d_ms_launchAt_1 (by decide) ?_
  refine lv_icmp_lt hx hb d_ms_launchAt_3 (tgt := 8) (by decide) (fun _ => ?_) (fun z => absurd (xn_lt (by decide) hd) z)
  refine lv_aload_n hx hb d_ms_launchAt_8 rfl (lv_at hl 0 rfl) ?_
  refine lv_iload_n hx hb d_ms_launchAt_9 rfl (lv_at hl 1 rfl) ?_
  refine lv_aload_n hx hb d_ms_launchAt_10 rfl (lv_at hl 0 rfl) ?_
  refine lv_iload_n hx hb d_ms_launchAt_11 rfl (lv_at hl 2 rfl) ?_
  refine xw_rdl (v := sp_di u n) (As := [.int n]) (rest := [.int d, .ref (ad 0)]) ⟨hx, hb, hml, hown, hts⟩ (c_ms_digestOf l D cs ad _ u j n hn) tb_230 tb_232 sl_1 tb_1 tb_233 ⟨rfl, hd_ms_digestOf⟩ ⟨Nat.le_of_ble_eq_true rfl, Nat.le_of_ble_eq_true rfl⟩ rfl rfl hK hP hD hN 0 0 rfl rfl hl.1 rfl (Nat.le_of_ble_eq_true rfl) d_ms_launchAt_12 ⟨Nat.zero_le _, Nat.zero_le _⟩ ?_
  refine xw_rdi (v := 4) (As := [.int d, .long (sp_di u n)]) (rest := []) ⟨hx, hb, hml, hown, hts⟩ (c_ms_extendOrFault_f l D cs ad _ u j d (sp_di u n) he) tb_256 tb_258 sl_4 tb_1 tb_259 ⟨rfl, hd_ms_extendOrFault⟩ ⟨Nat.le_of_ble_eq_true rfl, Nat.le_of_ble_eq_true rfl⟩ rfl rfl hK hP hD hN 0 0 rfl rfl hl.1 rfl (Nat.le_of_ble_eq_true rfl) d_ms_launchAt_15 ⟨Nat.zero_le _, Nat.zero_le _⟩ ?_
  refine lv_istore_n (nL := 4) (lv' := [(3, .int (4)), (0, .ref (ad 0)), (1, .int d), (2, .int n)]) hx hb d_ms_launchAt_18 rfl hl (by decide) rfl (fun ls hl => ?_)
  refine lv_iload_n hx hb d_ms_launchAt_19 rfl (lv_at hl 0 rfl) ?_
  refine lv_if_eq hx hb d_ms_launchAt_20 (tgt := 25) (by decide) (fun z => absurd z (by decide)) (fun _ => ?_)
  refine lv_iload_n hx hb d_ms_launchAt_23 rfl (lv_at hl 0 rfl) ?_
  exact W.iret (v := 4) hx hb hret (fun t ht hW => ⟨_, rfl, rfl, ht⟩) (fun q h => by cases h) d_ms_launchAt_24
set_option maxHeartbeats 4000000 in
set_option maxRecDepth 100000 in
theorem c_ms_launchAt (l : Launch) (D : va_G) (cs : Nat → ClassId) (ad : Nat → Nat) (sz : Nat) (u : Sg) (j : Jx) (d n : Int32) (hd : vp_in d 6) (hn : vp_in n 8) (he : vp_in (sg_en u) 32) : Met l y_ms_launchAt (Cond.code y_ms_launchAt b_ms_launchAt 4 (some .int) :: TB) { frames := 3, cells := 0, slots := 0, locals := 71 } (va_Pc [.ref (ad 0), .int d, .int n] (xw_Pre D cs ad u j sz)) (va_Qi (fun (r : Int32) (j1 : Jx) => r = 0 ∧ j1 = sx_de (sx_nd (sx_ru j (vp_updL (jx_ru j) d.toNatClampNeg (sg_im u n.toNatClampNeg))) (upd (jx_nd j) d.toNatClampNeg 0)) d) (fun (j1 : Jx) t => xw_B D cs ad (va_A (xw ad cs u j) sz) ((fun v : Sg => ss_la v (sg_la v + 1)) (sp_no u d (sp_di u n))) j1 t) (va_A (xw ad cs u j) sz)) 0 0 (va_A (xw ad cs u j) sz) := by
  refine Met.ofW (cc := b_ms_launchAt) (maxL := 4) (ret := (some .int)) (by decide) rfl ?_
  intro p e s m args below meth c s₁ B hml hv
  obtain ⟨rfl, hsz, hP, hK, hD, hN⟩ := hv
  have hx := B.exec
  have hb := B.bytes
  have hret := B.returns
  have hts := atoms_spec (ws := Cond.code y_ms_launchAt b_ms_launchAt 4 (some .int) :: TB) B.pre
  have hT : ∀ w ∈ TB, w.before _ s = true := fun w h => hts w (List.mem_cons_of_mem _ h)
  have hown : s.vm.findClass "MeasuredStages" = some m.cls := findClass_of_methodNamed B.named
  have hlocks := B.notSynchronized
  subst hsz
  have hD := hD.self (sz := s.heap.size)
  generalize hAe : va_A (xw ad cs u j) s.heap.size = A at hD ⊢
  have hA : ∀ q : Nat, s.heap.size ≤ q → A q := fun q h => by rw [← hAe]; exact Or.inr h
  have hS : va_S A s.heap s.heap [] := va_S.rf
  have hl := lv_entry ([.ref (ad 0), .int d, .int n]) (n := 4) (Nat.le_of_ble_eq_true rfl)
  rw [lg_entry_eq]
  generalize (lg_sl ([.ref (ad 0), .int d, .int n]) ++ List.replicate (4 - (lg_sl ([.ref (ad 0), .int d, .int n])).length) Slot.unset).toArray = ls at hl ⊢
  have hl : lv_has ls 4 [(0, .ref (ad 0)), (1, .int d), (2, .int n)] := hl
  skip
  refine lv_iload_n hx hb d_ms_launchAt_0 rfl (lv_at hl 1 rfl) ?_
  refine lv_bipush (v := 6) hx hb d_ms_launchAt_1 (by decide) ?_
  refine lv_icmp_lt hx hb d_ms_launchAt_3 (tgt := 8) (by decide) (fun _ => ?_) (fun z => absurd (xn_lt (by decide) hd) z)
  refine lv_aload_n hx hb d_ms_launchAt_8 rfl (lv_at hl 0 rfl) ?_
  refine lv_iload_n hx hb d_ms_launchAt_9 rfl (lv_at hl 1 rfl) ?_
  refine lv_aload_n hx hb d_ms_launchAt_10 rfl (lv_at hl 0 rfl) ?_
  refine lv_iload_n hx hb d_ms_launchAt_11 rfl (lv_at hl 2 rfl) ?_
  refine xw_rdl (v := sp_di u n) (As := [.int n]) (rest := [.int d, .ref (ad 0)]) ⟨hx, hb, hml, hown, hts⟩ (c_ms_digestOf l D cs ad _ u j n hn) tb_230 tb_232 sl_1 tb_1 tb_233 ⟨rfl, hd_ms_digestOf⟩ ⟨Nat.le_of_ble_eq_true rfl, Nat.le_of_ble_eq_true rfl⟩ rfl rfl hK hP hD hN 0 0 rfl rfl hl.1 rfl (Nat.le_of_ble_eq_true rfl) d_ms_launchAt_12 ⟨Nat.zero_le _, Nat.zero_le _⟩ ?_
  refine xw_wri (v := 0) (u' := sp_no u d (sp_di u n)) (As := [.int d, .long (sp_di u n)]) (rest := []) ⟨hx, hb, hml, hown, hts⟩ (c_ms_extendOrFault l D cs ad _ u j d (sp_di u n) hd he) tb_256 tb_258 sl_4 tb_1 tb_259 ⟨rfl, hd_ms_extendOrFault⟩ ⟨Nat.le_of_ble_eq_true rfl, Nat.le_of_ble_eq_true rfl⟩ rfl rfl hK hP hD hN 0 0 rfl rfl hl.1 rfl (Nat.le_of_ble_eq_true rfl) d_ms_launchAt_15 ⟨Nat.zero_le _, Nat.zero_le _⟩ hS hA (fun j1 H locs hj2 hP hD hS => ?_)
  obtain ⟨v3, ev3⟩ : ∃ z : Sg, z = sp_no u d (sp_di u n) := ⟨_, rfl⟩
  rw [← ev3] at hP hD
  rw [hj2] at hP hD
  refine lv_istore_n (nL := 4) (lv' := [(3, .int (0)), (0, .ref (ad 0)), (1, .int d), (2, .int n)]) hx hb d_ms_launchAt_18 rfl hl (by decide) rfl (fun ls hl => ?_)
  refine lv_iload_n hx hb d_ms_launchAt_19 rfl (lv_at hl 0 rfl) ?_
  refine lv_if_eq hx hb d_ms_launchAt_20 (tgt := 25) (by decide) (fun _ => ?_) (fun z => absurd rfl z)
  refine lv_aload_n hx hb d_ms_launchAt_25 rfl (lv_at hl 1 rfl) ?_
  refine lv_dup hx hb d_ms_launchAt_26 rfl ?_
  refine va_get (D := D) (ci := 0) (v := .int (sg_la v3)) (C := "MeasuredStages") (T := F_ms) (N := 12) hx hb hts (fun w h => List.mem_cons_of_mem _ (i_ms w h)) hown hK hP 0 rfl rfl 10 (by decide) (hT _ tb_79) (fun _ h9 => h9) rfl d_ms_launchAt_27 ?_
  refine lv_iconst (v := 1) hx hb d_ms_launchAt_30 (by decide) ?_
  refine lv_iadd hx hb d_ms_launchAt_31 ?_
  refine va_put (D := D) (ci := 0) (v := .int ((sg_la v3) + (1))) (ty := .int) (C := "MeasuredStages") (T := F_ms) (N := 12) hx hb hts (fun w h => List.mem_cons_of_mem _ (i_ms w h)) t_ms o_ms n_ms hown hK hP hD hS 0 rfl rfl 10 (by decide) (hT _ tb_79) (fun _ h9 => h9) rfl (by decide +kernel) rfl rfl (Nat.le_of_ble_eq_true rfl) d_ms_launchAt_32 (fun H locs hP hD hS => ?_)
  have hP : va_P D cx (xv ad cs (sg_im v3) (sg_ap v3) (sg_ag v3) (sg_he v3) (sg_er v3) (sg_ev v3) (sg_en v3) (sg_ma v3) (sg_po v3) (sg_se v3) (sg_ac v3) (sg_fa v3) ((sg_la v3) + (1)) (sg_st v3) (jx_ru j) (jx_nd j) (jx_de j) (jx_rp j)) H := hP
  have hD : va_D A (xv ad cs (sg_im v3) (sg_ap v3) (sg_ag v3) (sg_he v3) (sg_er v3) (sg_ev v3) (sg_en v3) (sg_ma v3) (sg_po v3) (sg_se v3) (sg_ac v3) (sg_fa v3) ((sg_la v3) + (1)) (sg_st v3) (jx_ru j) (jx_nd j) (jx_de j) (jx_rp j)) := hD
  refine lv_aload_n hx hb d_ms_launchAt_35 rfl (lv_at hl 1 rfl) ?_
  refine va_get (D := D) (ci := 0) (v := .ref (ad 6)) (C := "MeasuredStages") (T := F_ms) (N := 12) hx hb hts (fun w h => List.mem_cons_of_mem _ (i_ms w h)) hown hK hP 0 rfl rfl 5 (by decide) (hT _ tb_74) (fun _ h9 => h9) rfl d_ms_launchAt_36 ?_
  refine lv_iload_n hx hb d_ms_launchAt_39 rfl (lv_at hl 2 rfl) ?_
  refine lv_aload_n hx hb d_ms_launchAt_40 rfl (lv_at hl 1 rfl) ?_
  refine va_get (D := D) (ci := 0) (v := .ref (ad 1)) (C := "MeasuredStages") (T := F_ms) (N := 12) hx hb hts (fun w h => List.mem_cons_of_mem _ (i_ms w h)) hown hK hP 0 rfl rfl 0 (by decide) (hT _ tb_69) (fun _ h9 => h9) rfl d_ms_launchAt_41 ?_
  refine lv_iload_n hx hb d_ms_launchAt_44 rfl (lv_at hl 3 rfl) ?_
  refine va_lald hx hb hK hP 1 0 rfl rfl hn d_ms_launchAt_45 ?_
  refine va_last hx hb hK hP hD hS 6 3 rfl rfl hd d_ms_launchAt_46 (fun H locs hP hD hS => ?_)
  have hP : va_P D cx (xv ad cs (sg_im v3) (sg_ap v3) (sg_ag v3) (sg_he v3) (sg_er v3) (sg_ev v3) (sg_en v3) (sg_ma v3) (sg_po v3) (sg_se v3) (sg_ac v3) (sg_fa v3) ((sg_la v3) + (1)) (sg_st v3) (vp_updL (jx_ru j) d.toNatClampNeg (sg_im v3 n.toNatClampNeg)) (jx_nd j) (jx_de j) (jx_rp j)) H := hP
  have hD : va_D A (xv ad cs (sg_im v3) (sg_ap v3) (sg_ag v3) (sg_he v3) (sg_er v3) (sg_ev v3) (sg_en v3) (sg_ma v3) (sg_po v3) (sg_se v3) (sg_ac v3) (sg_fa v3) ((sg_la v3) + (1)) (sg_st v3) (vp_updL (jx_ru j) d.toNatClampNeg (sg_im v3 n.toNatClampNeg)) (jx_nd j) (jx_de j) (jx_rp j)) := hD
  refine lv_aload_n hx hb d_ms_launchAt_47 rfl (lv_at hl 1 rfl) ?_
  refine va_get (D := D) (ci := 0) (v := .ref (ad 7)) (C := "MeasuredStages") (T := F_ms) (N := 12) hx hb hts (fun w h => List.mem_cons_of_mem _ (i_ms w h)) hown hK hP 0 rfl rfl 6 (by decide) (hT _ tb_75) (fun _ h9 => h9) rfl d_ms_launchAt_48 ?_
  refine lv_iload_n hx hb d_ms_launchAt_51 rfl (lv_at hl 2 rfl) ?_
  refine lv_iconst (v := 0) hx hb d_ms_launchAt_52 (by decide) ?_
  refine va_iast hx hb hK hP hD hS 7 4 rfl rfl hd d_ms_launchAt_53 (fun H locs hP hD hS => ?_)
  have hP : va_P D cx (xv ad cs (sg_im v3) (sg_ap v3) (sg_ag v3) (sg_he v3) (sg_er v3) (sg_ev v3) (sg_en v3) (sg_ma v3) (sg_po v3) (sg_se v3) (sg_ac v3) (sg_fa v3) ((sg_la v3) + (1)) (sg_st v3) (vp_updL (jx_ru j) d.toNatClampNeg (sg_im v3 n.toNatClampNeg)) (upd (jx_nd j) d.toNatClampNeg (0)) (jx_de j) (jx_rp j)) H := hP
  have hD : va_D A (xv ad cs (sg_im v3) (sg_ap v3) (sg_ag v3) (sg_he v3) (sg_er v3) (sg_ev v3) (sg_en v3) (sg_ma v3) (sg_po v3) (sg_se v3) (sg_ac v3) (sg_fa v3) ((sg_la v3) + (1)) (sg_st v3) (vp_updL (jx_ru j) d.toNatClampNeg (sg_im v3 n.toNatClampNeg)) (upd (jx_nd j) d.toNatClampNeg (0)) (jx_de j) (jx_rp j)) := hD
  refine lv_aload_n hx hb d_ms_launchAt_54 rfl (lv_at hl 1 rfl) ?_
  refine lv_iload_n hx hb d_ms_launchAt_55 rfl (lv_at hl 2 rfl) ?_
  refine va_put (D := D) (ci := 0) (v := .int d) (ty := .int) (C := "MeasuredStages") (T := F_ms) (N := 12) hx hb hts (fun w h => List.mem_cons_of_mem _ (i_ms w h)) t_ms o_ms n_ms hown hK hP hD hS 0 rfl rfl 7 (by decide) (hT _ tb_76) (fun _ h9 => h9) rfl (by decide +kernel) rfl rfl (Nat.le_of_ble_eq_true rfl) d_ms_launchAt_56 (fun H locs hP hD hS => ?_)
  have hP : va_P D cx (xv ad cs (sg_im v3) (sg_ap v3) (sg_ag v3) (sg_he v3) (sg_er v3) (sg_ev v3) (sg_en v3) (sg_ma v3) (sg_po v3) (sg_se v3) (sg_ac v3) (sg_fa v3) ((sg_la v3) + (1)) (sg_st v3) (vp_updL (jx_ru j) d.toNatClampNeg (sg_im v3 n.toNatClampNeg)) (upd (jx_nd j) d.toNatClampNeg (0)) d (jx_rp j)) H := hP
  have hD : va_D A (xv ad cs (sg_im v3) (sg_ap v3) (sg_ag v3) (sg_he v3) (sg_er v3) (sg_ev v3) (sg_en v3) (sg_ma v3) (sg_po v3) (sg_se v3) (sg_ac v3) (sg_fa v3) ((sg_la v3) + (1)) (sg_st v3) (vp_updL (jx_ru j) d.toNatClampNeg (sg_im v3 n.toNatClampNeg)) (upd (jx_nd j) d.toNatClampNeg (0)) d (jx_rp j)) := hD
  refine lv_iconst (v := 0) hx hb d_ms_launchAt_59 (by decide) ?_
  obtain ⟨v4, ev4⟩ : ∃ z : Sg, z = (sg_im v3, sg_ap v3, sg_ag v3, sg_he v3, sg_er v3, sg_ev v3, sg_en v3, sg_ma v3, sg_po v3, sg_se v3, sg_ac v3, sg_fa v3, (sg_la v3) + (1), sg_st v3) := ⟨_, rfl⟩
  obtain ⟨q5, eq5⟩ : ∃ z : Jx, z = (vp_updL (jx_ru j) d.toNatClampNeg (sg_im v3 n.toNatClampNeg), upd (jx_nd j) d.toNatClampNeg (0), d, jx_rp j) := ⟨_, rfl⟩
  have hP : va_P D cx (xw ad cs v4 q5) H := by rw [ev4, eq5, xw_uj]; exact hP
  have hD : va_D A (xw ad cs v4 q5) := by rw [ev4, eq5, xw_uj]; exact hD
  subst ev4
  subst ev3
  exact W.iret hx hb hret (fun t ht hW => ⟨⟨_, q5, rfl, ⟨rfl, (by subst eq5; rfl)⟩, by rw [ht]; exact hP, va_K.moved hW.alike hK, hD⟩, hS.F ht⟩) hS.2.2 d_ms_launchAt_60
end
section
theorem up_uu {f : Nat → Int32} {k : Nat} {a b : Int32} : upd (upd f k a) k b = upd f k b := by
  funext i
  unfold upd
  split <;> rfl
theorem sp_rd8 (c : Int64) (i : Int32) : vp_in (sp_rm (sp_dg c i) 8) 8 := by
  obtain ⟨k, hk, e⟩ := sp_dg16 c i
  rw [e]
  exact sp_rm8 k hk
theorem sp_rd6 (c : Int64) (i : Int32) : vp_in (sp_rm (sp_dg c i) 6) 6 := by
  obtain ⟨k, hk, e⟩ := sp_dg16 c i
  rw [e]
  exact sp_rm6 k hk
theorem d_ms_loadSecret_0 : decode b_ms_loadSecret 0 = .ok (.aload_n 0, 1) := by decide +kernel
theorem d_ms_loadSecret_1 : decode b_ms_loadSecret 1 = .ok (.getfield 30, 3) := by decide +kernel
theorem d_ms_loadSecret_4 : decode b_ms_loadSecret 4 = .ok (.iload_n 1, 1) := by decide +kernel
theorem d_ms_loadSecret_5 : decode b_ms_loadSecret 5 = .ok (.invokevirtual 141, 3) := by decide +kernel
theorem d_ms_loadSecret_8 : decode b_ms_loadSecret 8 = .ok (.ifCond .ne 6, 3) := by decide +kernel
theorem d_ms_loadSecret_11 : decode b_ms_loadSecret 11 = .ok (.bipush 6, 2) := by decide +kernel
theorem d_ms_loadSecret_13 : decode b_ms_loadSecret 13 = .ok (.ireturn, 1) := by decide +kernel
theorem d_ms_loadSecret_14 : decode b_ms_loadSecret 14 = .ok (.aload_n 0, 1) := by decide +kernel
theorem d_ms_loadSecret_15 : decode b_ms_loadSecret 15 = .ok (.iload_n 1, 1) := by decide +kernel
theorem d_ms_loadSecret_16 : decode b_ms_loadSecret 16 = .ok (.invokevirtual 146, 3) := by decide +kernel
theorem d_ms_loadSecret_19 : decode b_ms_loadSecret 19 = .ok (.ifCond .ne 6, 3) := by decide +kernel
theorem d_ms_loadSecret_22 : decode b_ms_loadSecret 22 = .ok (.bipush 7, 2) := by decide +kernel
theorem d_ms_loadSecret_24 : decode b_ms_loadSecret 24 = .ok (.ireturn, 1) := by decide +kernel
theorem d_ms_loadSecret_25 : decode b_ms_loadSecret 25 = .ok (.aload_n 0, 1) := by decide +kernel
theorem d_ms_loadSecret_26 : decode b_ms_loadSecret 26 = .ok (.aload_n 0, 1) := by decide +kernel
theorem d_ms_loadSecret_27 : decode b_ms_loadSecret 27 = .ok (.getfield 30, 3) := by decide +kernel
theorem d_ms_loadSecret_30 : decode b_ms_loadSecret 30 = .ok (.getfield 151, 3) := by decide +kernel
theorem d_ms_loadSecret_33 : decode b_ms_loadSecret 33 = .ok (.iload_n 1, 1) := by decide +kernel
theorem d_ms_loadSecret_34 : decode b_ms_loadSecret 34 = .ok (.laload, 1) := by decide +kernel
theorem d_ms_loadSecret_35 : decode b_ms_loadSecret 35 = .ok (.putfield 81, 3) := by decide +kernel
theorem d_ms_loadSecret_38 : decode b_ms_loadSecret 38 = .ok (.iconst 0, 1) := by decide +kernel
theorem d_ms_loadSecret_39 : decode b_ms_loadSecret 39 = .ok (.ireturn, 1) := by decide +kernel
theorem d_ms_passOverIfZero_0 : decode b_ms_passOverIfZero 0 = .ok (.aload_n 0, 1) := by decide +kernel
theorem d_ms_passOverIfZero_1 : decode b_ms_passOverIfZero 1 = .ok (.getfield 81, 3) := by decide +kernel
theorem d_ms_passOverIfZero_4 : decode b_ms_passOverIfZero 4 = .ok (.lconst 0, 1) := by decide +kernel
theorem d_ms_passOverIfZero_5 : decode b_ms_passOverIfZero 5 = .ok (.lcmp, 1) := by decide +kernel
theorem d_ms_passOverIfZero_6 : decode b_ms_passOverIfZero 6 = .ok (.ifCond .ne 16, 3) := by decide +kernel
theorem d_ms_passOverIfZero_9 : decode b_ms_passOverIfZero 9 = .ok (.aload_n 0, 1) := by decide +kernel
theorem d_ms_passOverIfZero_10 : decode b_ms_passOverIfZero 10 = .ok (.getfield 37, 3) := by decide +kernel
theorem d_ms_passOverIfZero_13 : decode b_ms_passOverIfZero 13 = .ok (.aload_n 0, 1) := by decide +kernel
theorem d_ms_passOverIfZero_14 : decode b_ms_passOverIfZero 14 = .ok (.getfield 179, 3) := by decide +kernel
theorem d_ms_passOverIfZero_17 : decode b_ms_passOverIfZero 17 = .ok (.dup2, 1) := by decide +kernel
theorem d_ms_passOverIfZero_18 : decode b_ms_passOverIfZero 18 = .ok (.iaload, 1) := by decide +kernel
theorem d_ms_passOverIfZero_19 : decode b_ms_passOverIfZero 19 = .ok (.iload_n 1, 1) := by decide +kernel
theorem d_ms_passOverIfZero_20 : decode b_ms_passOverIfZero 20 = .ok (.iadd, 1) := by decide +kernel
theorem d_ms_passOverIfZero_21 : decode b_ms_passOverIfZero 21 = .ok (.iastore, 1) := by decide +kernel
theorem d_ms_passOverIfZero_22 : decode b_ms_passOverIfZero 22 = .ok (.return_, 1) := by decide +kernel
theorem d_ms_sealAcc_0 : decode b_ms_sealAcc 0 = .ok (.aload_n 0, 1) := by decide +kernel
theorem d_ms_sealAcc_1 : decode b_ms_sealAcc 1 = .ok (.getfield 30, 3) := by decide +kernel
theorem d_ms_sealAcc_4 : decode b_ms_sealAcc 4 = .ok (.invokevirtual 128, 3) := by decide +kernel
theorem d_ms_sealAcc_7 : decode b_ms_sealAcc 7 = .ok (.istore_n 2, 1) := by decide +kernel
theorem d_ms_sealAcc_8 : decode b_ms_sealAcc 8 = .ok (.iload_n 2, 1) := by decide +kernel
theorem d_ms_sealAcc_9 : decode b_ms_sealAcc 9 = .ok (.iconst (-1), 1) := by decide +kernel
theorem d_ms_sealAcc_10 : decode b_ms_sealAcc 10 = .ok (.if_icmp .ne 6, 3) := by decide +kernel
theorem d_ms_sealAcc_13 : decode b_ms_sealAcc 13 = .ok (.bipush 8, 2) := by decide +kernel
theorem d_ms_sealAcc_15 : decode b_ms_sealAcc 15 = .ok (.ireturn, 1) := by decide +kernel
theorem d_ms_sealAcc_16 : decode b_ms_sealAcc 16 = .ok (.aload_n 0, 1) := by decide +kernel
theorem d_ms_sealAcc_17 : decode b_ms_sealAcc 17 = .ok (.getfield 30, 3) := by decide +kernel
theorem d_ms_sealAcc_20 : decode b_ms_sealAcc 20 = .ok (.iload_n 2, 1) := by decide +kernel
theorem d_ms_sealAcc_21 : decode b_ms_sealAcc 21 = .ok (.iload_n 1, 1) := by decide +kernel
theorem d_ms_sealAcc_22 : decode b_ms_sealAcc 22 = .ok (.aload_n 0, 1) := by decide +kernel
theorem d_ms_sealAcc_23 : decode b_ms_sealAcc 23 = .ok (.getfield 23, 3) := by decide +kernel
theorem d_ms_sealAcc_26 : decode b_ms_sealAcc 26 = .ok (.iload_n 1, 1) := by decide +kernel
theorem d_ms_sealAcc_27 : decode b_ms_sealAcc 27 = .ok (.invokevirtual 134, 3) := by decide +kernel
theorem d_ms_sealAcc_30 : decode b_ms_sealAcc 30 = .ok (.aload_n 0, 1) := by decide +kernel
theorem d_ms_sealAcc_31 : decode b_ms_sealAcc 31 = .ok (.getfield 81, 3) := by decide +kernel
theorem d_ms_sealAcc_34 : decode b_ms_sealAcc 34 = .ok (.invokevirtual 137, 3) := by decide +kernel
theorem d_ms_sealAcc_37 : decode b_ms_sealAcc 37 = .ok (.iconst 0, 1) := by decide +kernel
theorem d_ms_sealAcc_38 : decode b_ms_sealAcc 38 = .ok (.ireturn, 1) := by decide +kernel
theorem d_ms_doInstruction_0 : decode b_ms_doInstruction 0 = .ok (.aload_n 0, 1) := by decide +kernel
theorem d_ms_doInstruction_1 : decode b_ms_doInstruction 1 = .ok (.getfield 78, 3) := by decide +kernel
theorem d_ms_doInstruction_4 : decode b_ms_doInstruction 4 = .ok (.bipush 100, 2) := by decide +kernel
theorem d_ms_doInstruction_6 : decode b_ms_doInstruction 6 = .ok (.if_icmp .lt 5, 3) := by decide +kernel
theorem d_ms_doInstruction_9 : decode b_ms_doInstruction 9 = .ok (.iconst 3, 1) := by decide +kernel
theorem d_ms_doInstruction_10 : decode b_ms_doInstruction 10 = .ok (.ireturn, 1) := by decide +kernel
theorem d_ms_doInstruction_11 : decode b_ms_doInstruction 11 = .ok (.aload_n 0, 1) := by decide +kernel
theorem d_ms_doInstruction_12 : decode b_ms_doInstruction 12 = .ok (.invokevirtual 185, 3) := by decide +kernel
theorem d_ms_doInstruction_15 : decode b_ms_doInstruction 15 = .ok (.tableswitch 171 0 8 #[49, 61, 76, 90, 107, 119, 137, 150, 160], 49) := by decide +kernel
theorem d_ms_doInstruction_64 : decode b_ms_doInstruction 64 = .ok (.aload_n 0, 1) := by decide +kernel
theorem d_ms_doInstruction_65 : decode b_ms_doInstruction 65 = .ok (.dup, 1) := by decide +kernel
theorem d_ms_doInstruction_66 : decode b_ms_doInstruction 66 = .ok (.getfield 179, 3) := by decide +kernel
theorem d_ms_doInstruction_69 : decode b_ms_doInstruction 69 = .ok (.iconst 1, 1) := by decide +kernel
theorem d_ms_doInstruction_70 : decode b_ms_doInstruction 70 = .ok (.isub, 1) := by decide +kernel
theorem d_ms_doInstruction_71 : decode b_ms_doInstruction 71 = .ok (.putfield 179, 3) := by decide +kernel
theorem d_ms_doInstruction_74 : decode b_ms_doInstruction 74 = .ok (.iconst 0, 1) := by decide +kernel
theorem d_ms_doInstruction_75 : decode b_ms_doInstruction 75 = .ok (.ireturn, 1) := by decide +kernel
theorem d_ms_doInstruction_76 : decode b_ms_doInstruction 76 = .ok (.aload_n 0, 1) := by decide +kernel
theorem d_ms_doInstruction_77 : decode b_ms_doInstruction 77 = .ok (.aload_n 0, 1) := by decide +kernel
theorem d_ms_doInstruction_78 : decode b_ms_doInstruction 78 = .ok (.getfield 179, 3) := by decide +kernel
theorem d_ms_doInstruction_81 : decode b_ms_doInstruction 81 = .ok (.iconst 1, 1) := by decide +kernel
theorem d_ms_doInstruction_82 : decode b_ms_doInstruction 82 = .ok (.iadd, 1) := by decide +kernel
theorem d_ms_doInstruction_83 : decode b_ms_doInstruction 83 = .ok (.aload_n 0, 1) := by decide +kernel
theorem d_ms_doInstruction_84 : decode b_ms_doInstruction 84 = .ok (.invokevirtual 188, 3) := by decide +kernel
theorem d_ms_doInstruction_87 : decode b_ms_doInstruction 87 = .ok (.invokevirtual 59, 3) := by decide +kernel
theorem d_ms_doInstruction_90 : decode b_ms_doInstruction 90 = .ok (.ireturn, 1) := by decide +kernel
theorem d_ms_doInstruction_91 : decode b_ms_doInstruction 91 = .ok (.aload_n 0, 1) := by decide +kernel
theorem d_ms_doInstruction_92 : decode b_ms_doInstruction 92 = .ok (.aload_n 0, 1) := by decide +kernel
theorem d_ms_doInstruction_93 : decode b_ms_doInstruction 93 = .ok (.invokevirtual 191, 3) := by decide +kernel
theorem d_ms_doInstruction_96 : decode b_ms_doInstruction 96 = .ok (.aload_n 0, 1) := by decide +kernel
theorem d_ms_doInstruction_97 : decode b_ms_doInstruction 97 = .ok (.invokevirtual 185, 3) := by decide +kernel
theorem d_ms_doInstruction_100 : decode b_ms_doInstruction 100 = .ok (.i2l, 1) := by decide +kernel
theorem d_ms_doInstruction_101 : decode b_ms_doInstruction 101 = .ok (.invokevirtual 194, 3) := by decide +kernel
theorem d_ms_doInstruction_104 : decode b_ms_doInstruction 104 = .ok (.ireturn, 1) := by decide +kernel
theorem d_ms_doInstruction_105 : decode b_ms_doInstruction 105 = .ok (.aload_n 0, 1) := by decide +kernel
theorem d_ms_doInstruction_106 : decode b_ms_doInstruction 106 = .ok (.aload_n 0, 1) := by decide +kernel
theorem d_ms_doInstruction_107 : decode b_ms_doInstruction 107 = .ok (.invokevirtual 188, 3) := by decide +kernel
theorem d_ms_doInstruction_110 : decode b_ms_doInstruction 110 = .ok (.invokevirtual 198, 3) := by decide +kernel
theorem d_ms_doInstruction_113 : decode b_ms_doInstruction 113 = .ok (.ifCond .eq 7, 3) := by decide +kernel
theorem d_ms_doInstruction_116 : decode b_ms_doInstruction 116 = .ok (.iconst 0, 1) := by decide +kernel
theorem d_ms_doInstruction_117 : decode b_ms_doInstruction 117 = .ok (.goto 4, 3) := by decide +kernel
theorem d_ms_doInstruction_120 : decode b_ms_doInstruction 120 = .ok (.iconst 5, 1) := by decide +kernel
theorem d_ms_doInstruction_121 : decode b_ms_doInstruction 121 = .ok (.ireturn, 1) := by decide +kernel
theorem d_ms_doInstruction_122 : decode b_ms_doInstruction 122 = .ok (.aload_n 0, 1) := by decide +kernel
theorem d_ms_doInstruction_123 : decode b_ms_doInstruction 123 = .ok (.aload_n 0, 1) := by decide +kernel
theorem d_ms_doInstruction_124 : decode b_ms_doInstruction 124 = .ok (.invokevirtual 185, 3) := by decide +kernel
theorem d_ms_doInstruction_127 : decode b_ms_doInstruction 127 = .ok (.bipush 8, 2) := by decide +kernel
theorem d_ms_doInstruction_129 : decode b_ms_doInstruction 129 = .ok (.irem, 1) := by decide +kernel
theorem d_ms_doInstruction_130 : decode b_ms_doInstruction 130 = .ok (.invokevirtual 201, 3) := by decide +kernel
theorem d_ms_doInstruction_133 : decode b_ms_doInstruction 133 = .ok (.ireturn, 1) := by decide +kernel
theorem d_ms_doInstruction_134 : decode b_ms_doInstruction 134 = .ok (.aload_n 0, 1) := by decide +kernel
theorem d_ms_doInstruction_135 : decode b_ms_doInstruction 135 = .ok (.aload_n 0, 1) := by decide +kernel
theorem d_ms_doInstruction_136 : decode b_ms_doInstruction 136 = .ok (.getfield 81, 3) := by decide +kernel
theorem d_ms_doInstruction_139 : decode b_ms_doInstruction 139 = .ok (.aload_n 0, 1) := by decide +kernel
theorem d_ms_doInstruction_140 : decode b_ms_doInstruction 140 = .ok (.invokevirtual 185, 3) := by decide +kernel
theorem d_ms_doInstruction_143 : decode b_ms_doInstruction 143 = .ok (.i2l, 1) := by decide +kernel
theorem d_ms_doInstruction_144 : decode b_ms_doInstruction 144 = .ok (.invokestatic 158, 3) := by decide +kernel
theorem d_ms_doInstruction_147 : decode b_ms_doInstruction 147 = .ok (.putfield 81, 3) := by decide +kernel
theorem d_ms_doInstruction_150 : decode b_ms_doInstruction 150 = .ok (.iconst 0, 1) := by decide +kernel
theorem d_ms_doInstruction_151 : decode b_ms_doInstruction 151 = .ok (.ireturn, 1) := by decide +kernel
theorem d_ms_doInstruction_152 : decode b_ms_doInstruction 152 = .ok (.aload_n 0, 1) := by decide +kernel
theorem d_ms_doInstruction_153 : decode b_ms_doInstruction 153 = .ok (.aload_n 0, 1) := by decide +kernel
theorem d_ms_doInstruction_154 : decode b_ms_doInstruction 154 = .ok (.invokevirtual 191, 3) := by decide +kernel
theorem d_ms_doInstruction_157 : decode b_ms_doInstruction 157 = .ok (.aload_n 0, 1) := by decide +kernel
theorem d_ms_doInstruction_158 : decode b_ms_doInstruction 158 = .ok (.getfield 81, 3) := by decide +kernel
theorem d_ms_doInstruction_161 : decode b_ms_doInstruction 161 = .ok (.invokevirtual 194, 3) := by decide +kernel
theorem d_ms_doInstruction_164 : decode b_ms_doInstruction 164 = .ok (.ireturn, 1) := by decide +kernel
theorem d_ms_doInstruction_165 : decode b_ms_doInstruction 165 = .ok (.aload_n 0, 1) := by decide +kernel
theorem d_ms_doInstruction_166 : decode b_ms_doInstruction 166 = .ok (.aload_n 0, 1) := by decide +kernel
theorem d_ms_doInstruction_167 : decode b_ms_doInstruction 167 = .ok (.invokevirtual 185, 3) := by decide +kernel
theorem d_ms_doInstruction_170 : decode b_ms_doInstruction 170 = .ok (.invokevirtual 205, 3) := by decide +kernel
theorem d_ms_doInstruction_173 : decode b_ms_doInstruction 173 = .ok (.iconst 0, 1) := by decide +kernel
theorem d_ms_doInstruction_174 : decode b_ms_doInstruction 174 = .ok (.ireturn, 1) := by decide +kernel
theorem d_ms_doInstruction_175 : decode b_ms_doInstruction 175 = .ok (.aload_n 0, 1) := by decide +kernel
theorem d_ms_doInstruction_176 : decode b_ms_doInstruction 176 = .ok (.aload_n 0, 1) := by decide +kernel
theorem d_ms_doInstruction_177 : decode b_ms_doInstruction 177 = .ok (.invokevirtual 185, 3) := by decide +kernel
theorem d_ms_doInstruction_180 : decode b_ms_doInstruction 180 = .ok (.iconst 1, 1) := by decide +kernel
theorem d_ms_doInstruction_181 : decode b_ms_doInstruction 181 = .ok (.iadd, 1) := by decide +kernel
theorem d_ms_doInstruction_182 : decode b_ms_doInstruction 182 = .ok (.invokevirtual 208, 3) := by decide +kernel
theorem d_ms_doInstruction_185 : decode b_ms_doInstruction 185 = .ok (.ireturn, 1) := by decide +kernel
theorem d_ms_doInstruction_186 : decode b_ms_doInstruction 186 = .ok (.iconst 1, 1) := by decide +kernel
theorem d_ms_doInstruction_187 : decode b_ms_doInstruction 187 = .ok (.ireturn, 1) := by decide +kernel
set_option maxHeartbeats 4000000 in
set_option maxRecDepth 100000 in
theorem c_ms_loadSecret_m (l : Launch) (D : va_G) (cs : Nat → ClassId) (ad : Nat → Nat) (sz : Nat) (u : Sg) (j : Jx) (k : Int32) (h0 : sp_tk (sg_ma u) k = 0) : Met l y_ms_loadSecret (Cond.code y_ms_loadSecret b_ms_loadSecret 2 (some .int) :: TB) { frames := 4, cells := 0, slots := 0, locals := 90 } (va_Pc [.ref (ad 0), .int k] (xw_Pre D cs ad u j sz)) (vp_Si (fun r => r = 6)) 0 0 (fun _ => False) := by
  refine Met.ofW (cc := b_ms_loadSecret) (maxL := 2) (ret := (some .int)) (by decide) rfl ?_
  intro p e s m args below meth c s₁ B hml hv
  obtain ⟨rfl, hsz, hP, hK, hD, hN⟩ := hv
  have hx := B.exec
  have hb := B.bytes
  have hret := B.returns
  have hts := atoms_spec (ws := Cond.code y_ms_loadSecret b_ms_loadSecret 2 (some .int) :: TB) B.pre
  have hT : ∀ w ∈ TB, w.before _ s = true := fun w h => hts w (List.mem_cons_of_mem _ h)
  have hown : s.vm.findClass "MeasuredStages" = some m.cls := findClass_of_methodNamed B.named
  have hlocks := B.notSynchronized
  subst hsz
  have hl := lv_entry ([.ref (ad 0), .int k]) (n := 2) (Nat.le_of_ble_eq_true rfl)
  rw [lg_entry_eq]
  generalize (lg_sl ([.ref (ad 0), .int k]) ++ List.replicate (2 - (lg_sl ([.ref (ad 0), .int k])).length) Slot.unset).toArray = ls at hl ⊢
  have hl : lv_has ls 2 [(0, .ref (ad 0)), (1, .int k)] := hl
  refine lv_aload_n hx hb d_ms_loadSecret_0 rfl (lv_at hl 0 rfl) ?_
  refine va_get (D := D) (ci := 0) (v := .ref (ad 5)) (C := "MeasuredStages") (T := F_ms) (N := 12) hx hb hts (fun w h => List.mem_cons_of_mem _ (i_ms w h)) hown hK hP 0 rfl rfl 4 (by decide) (hT _ tb_73) (fun _ h9 => h9) rfl d_ms_loadSecret_1 ?_
  refine lv_iload_n hx hb d_ms_loadSecret_4 rfl (lv_at hl 1 rfl) ?_
  refine xw_rdi (v := sp_tk (sg_ma u) k) (As := [.int k]) (rest := []) ⟨hx, hb, hml, hown, hts⟩ (c_bl_isTaken l D cs ad _ u j k) tb_292 tb_293 tb_294 tb_3 tb_295 ⟨rfl, hd_bl_isTaken⟩ ⟨Nat.le_of_ble_eq_true rfl, Nat.le_of_ble_eq_true rfl⟩ rfl rfl hK hP hD hN 5 2 rfl rfl hl.1 rfl (Nat.le_of_ble_eq_true rfl) d_ms_loadSecret_5 ⟨Nat.zero_le _, Nat.zero_le _⟩ ?_
  refine lv_if_ne hx hb d_ms_loadSecret_8 (tgt := 14) (by decide) (fun z => absurd h0 z) (fun _ => ?_)
  refine lv_bipush (v := 6) hx hb d_ms_loadSecret_11 (by decide) ?_
  exact W.iret (v := 6) hx hb hret (fun t ht hW => ⟨_, rfl, rfl, ht⟩) (fun q h => by cases h) d_ms_loadSecret_13
set_option maxHeartbeats 4000000 in
set_option maxRecDepth 100000 in
theorem c_ms_loadSecret_s (l : Launch) (D : va_G) (cs : Nat → ClassId) (ad : Nat → Nat) (sz : Nat) (u : Sg) (j : Jx) (k : Int32) (hk : vp_in k 8) (h0 : sp_tk (sg_ma u) k = 1) (h1 : sp_on u k = 0) : Met l y_ms_loadSecret (Cond.code y_ms_loadSecret b_ms_loadSecret 2 (some .int) :: TB) { frames := 4, cells := 0, slots := 0, locals := 90 } (va_Pc [.ref (ad 0), .int k] (xw_Pre D cs ad u j sz)) (vp_Si (fun r => r = 7)) 0 0 (fun _ => False) := by
  refine Met.ofW (cc := b_ms_loadSecret) (maxL := 2) (ret := (some .int)) (by decide) rfl ?_
  intro p e s m args below meth c s₁ B hml hv
  obtain ⟨rfl, hsz, hP, hK, hD, hN⟩ := hv
  have hx := B.exec
  have hb := B.bytes
  have hret := B.returns
  have hts := atoms_spec (ws := Cond.code y_ms_loadSecret b_ms_loadSecret 2 (some .int) :: TB) B.pre
  have hT : ∀ w ∈ TB, w.before _ s = true := fun w h => hts w (List.mem_cons_of_mem _ h)
  have hown : s.vm.findClass "MeasuredStages" = some m.cls := findClass_of_methodNamed B.named
  have hlocks := B.notSynchronized
  subst hsz
  have hl := lv_entry ([.ref (ad 0), .int k]) (n := 2) (Nat.le_of_ble_eq_true rfl)
  rw [lg_entry_eq]
  generalize (lg_sl ([.ref (ad 0), .int k]) ++ List.replicate (2 - (lg_sl ([.ref (ad 0), .int k])).length) Slot.unset).toArray = ls at hl ⊢
  have hl : lv_has ls 2 [(0, .ref (ad 0)), (1, .int k)] := hl
  refine lv_aload_n hx hb d_ms_loadSecret_0 rfl (lv_at hl 0 rfl) ?_
  refine va_get (D := D) (ci := 0) (v := .ref (ad 5)) (C := "MeasuredStages") (T := F_ms) (N := 12) hx hb hts (fun w h => List.mem_cons_of_mem _ (i_ms w h)) hown hK hP 0 rfl rfl 4 (by decide) (hT _ tb_73) (fun _ h9 => h9) rfl d_ms_loadSecret_1 ?_
  refine lv_iload_n hx hb d_ms_loadSecret_4 rfl (lv_at hl 1 rfl) ?_
  refine xw_rdi (v := sp_tk (sg_ma u) k) (As := [.int k]) (rest := []) ⟨hx, hb, hml, hown, hts⟩ (c_bl_isTaken l D cs ad _ u j k) tb_292 tb_293 tb_294 tb_3 tb_295 ⟨rfl, hd_bl_isTaken⟩ ⟨Nat.le_of_ble_eq_true rfl, Nat.le_of_ble_eq_true rfl⟩ rfl rfl hK hP hD hN 5 2 rfl rfl hl.1 rfl (Nat.le_of_ble_eq_true rfl) d_ms_loadSecret_5 ⟨Nat.zero_le _, Nat.zero_le _⟩ ?_
  refine lv_if_ne hx hb d_ms_loadSecret_8 (tgt := 14) (by decide) (fun _ => ?_) (fun z => absurd z (by rw [h0]; decide))
  refine lv_aload_n hx hb d_ms_loadSecret_14 rfl (lv_at hl 0 rfl) ?_
  refine lv_iload_n hx hb d_ms_loadSecret_15 rfl (lv_at hl 1 rfl) ?_
  refine xw_rdi (v := sp_on u k) (As := [.int k]) (rest := []) ⟨hx, hb, hml, hown, hts⟩ (c_ms_isOpen l D cs ad _ u j k hk) tb_296 tb_298 sl_12 tb_1 tb_299 ⟨rfl, hd_ms_isOpen⟩ ⟨Nat.le_of_ble_eq_true rfl, Nat.le_of_ble_eq_true rfl⟩ rfl rfl hK hP hD hN 0 0 rfl rfl hl.1 rfl (Nat.le_of_ble_eq_true rfl) d_ms_loadSecret_16 ⟨Nat.zero_le _, Nat.zero_le _⟩ ?_
  refine lv_if_ne hx hb d_ms_loadSecret_19 (tgt := 25) (by decide) (fun z => absurd h1 z) (fun _ => ?_)
  refine lv_bipush (v := 7) hx hb d_ms_loadSecret_22 (by decide) ?_
  exact W.iret (v := 7) hx hb hret (fun t ht hW => ⟨_, rfl, rfl, ht⟩) (fun q h => by cases h) d_ms_loadSecret_24
set_option maxHeartbeats 4000000 in
set_option maxRecDepth 100000 in
theorem c_ms_loadSecret (l : Launch) (D : va_G) (cs : Nat → ClassId) (ad : Nat → Nat) (sz : Nat) (u : Sg) (j : Jx) (k : Int32) (hk : vp_in k 8) (h0 : sp_tk (sg_ma u) k = 1) (h1 : sp_on u k = 1) : Met l y_ms_loadSecret (Cond.code y_ms_loadSecret b_ms_loadSecret 2 (some .int) :: TB) { frames := 4, cells := 0, slots := 0, locals := 90 } (va_Pc [.ref (ad 0), .int k] (xw_Pre D cs ad u j sz)) (va_Qi (fun (r : Int32) (j1 : Jx) => r = 0 ∧ j1 = j) (fun (j1 : Jx) t => xw_B D cs ad (va_A (xw ad cs u j) sz) (ss_ac u (sg_se u k.toNatClampNeg)) j1 t) (va_A (xw ad cs u j) sz)) 0 0 (va_A (xw ad cs u j) sz) := by
  refine Met.ofW (cc := b_ms_loadSecret) (maxL := 2) (ret := (some .int)) (by decide) rfl ?_
  intro p e s m args below meth c s₁ B hml hv
  obtain ⟨rfl, hsz, hP, hK, hD, hN⟩ := hv
  have hx := B.exec
  have hb := B.bytes
  have hret := B.returns
  have hts := atoms_spec (ws := Cond.code y_ms_loadSecret b_ms_loadSecret 2 (some .int) :: TB) B.pre
  have hT : ∀ w ∈ TB, w.before _ s = true := fun w h => hts w (List.mem_cons_of_mem _ h)
  have hown : s.vm.findClass "MeasuredStages" = some m.cls := findClass_of_methodNamed B.named
  have hlocks := B.notSynchronized
  subst hsz
  have hD := hD.self (sz := s.heap.size)
  generalize hAe : va_A (xw ad cs u j) s.heap.size = A at hD ⊢
  have hA : ∀ q : Nat, s.heap.size ≤ q → A q := fun q h => by rw [← hAe]; exact Or.inr h
  have hS : va_S A s.heap s.heap [] := va_S.rf
  have hl := lv_entry ([.ref (ad 0), .int k]) (n := 2) (Nat.le_of_ble_eq_true rfl)
  rw [lg_entry_eq]
  generalize (lg_sl ([.ref (ad 0), .int k]) ++ List.replicate (2 - (lg_sl ([.ref (ad 0), .int k])).length) Slot.unset).toArray = ls at hl ⊢
  have hl : lv_has ls 2 [(0, .ref (ad 0)), (1, .int k)] := hl
  skip
  refine lv_aload_n hx hb d_ms_loadSecret_0 rfl (lv_at hl 0 rfl) ?_
  refine va_get (D := D) (ci := 0) (v := .ref (ad 5)) (C := "MeasuredStages") (T := F_ms) (N := 12) hx hb hts (fun w h => List.mem_cons_of_mem _ (i_ms w h)) hown hK hP 0 rfl rfl 4 (by decide) (hT _ tb_73) (fun _ h9 => h9) rfl d_ms_loadSecret_1 ?_
  refine lv_iload_n hx hb d_ms_loadSecret_4 rfl (lv_at hl 1 rfl) ?_
  refine xw_rdi (v := sp_tk (sg_ma u) k) (As := [.int k]) (rest := []) ⟨hx, hb, hml, hown, hts⟩ (c_bl_isTaken l D cs ad _ u j k) tb_292 tb_293 tb_294 tb_3 tb_295 ⟨rfl, hd_bl_isTaken⟩ ⟨Nat.le_of_ble_eq_true rfl, Nat.le_of_ble_eq_true rfl⟩ rfl rfl hK hP hD hN 5 2 rfl rfl hl.1 rfl (Nat.le_of_ble_eq_true rfl) d_ms_loadSecret_5 ⟨Nat.zero_le _, Nat.zero_le _⟩ ?_
  refine lv_if_ne hx hb d_ms_loadSecret_8 (tgt := 14) (by decide) (fun _ => ?_) (fun z => absurd z (by rw [h0]; decide))
  refine lv_aload_n hx hb d_ms_loadSecret_14 rfl (lv_at hl 0 rfl) ?_
  refine lv_iload_n hx hb d_ms_loadSecret_15 rfl (lv_at hl 1 rfl) ?_
  refine xw_rdi (v := sp_on u k) (As := [.int k]) (rest := []) ⟨hx, hb, hml, hown, hts⟩ (c_ms_isOpen l D cs ad _ u j k hk) tb_296 tb_298 sl_12 tb_1 tb_299 ⟨rfl, hd_ms_isOpen⟩ ⟨Nat.le_of_ble_eq_true rfl, Nat.le_of_ble_eq_true rfl⟩ rfl rfl hK hP hD hN 0 0 rfl rfl hl.1 rfl (Nat.le_of_ble_eq_true rfl) d_ms_loadSecret_16 ⟨Nat.zero_le _, Nat.zero_le _⟩ ?_
  refine lv_if_ne hx hb d_ms_loadSecret_19 (tgt := 25) (by decide) (fun _ => ?_) (fun z => absurd z (by rw [h1]; decide))
  refine lv_aload_n hx hb d_ms_loadSecret_25 rfl (lv_at hl 0 rfl) ?_
  refine lv_aload_n hx hb d_ms_loadSecret_26 rfl (lv_at hl 0 rfl) ?_
  refine va_get (D := D) (ci := 0) (v := .ref (ad 5)) (C := "MeasuredStages") (T := F_ms) (N := 12) hx hb hts (fun w h => List.mem_cons_of_mem _ (i_ms w h)) hown hK hP 0 rfl rfl 4 (by decide) (hT _ tb_73) (fun _ h9 => h9) rfl d_ms_loadSecret_27 ?_
  refine va_get (D := D) (ci := 2) (v := .ref (ad 14)) (C := "MeasuredStages$Blobs") (T := F_bl) (N := 3) hx hb hts (fun w h => List.mem_cons_of_mem _ (i_bl w h)) hown hK hP 5 rfl rfl 2 (by decide) (hT _ tb_61) (fun _ h9 => h9) rfl d_ms_loadSecret_30 ?_
  refine lv_iload_n hx hb d_ms_loadSecret_33 rfl (lv_at hl 1 rfl) ?_
  refine va_lald hx hb hK hP 14 11 rfl rfl hk d_ms_loadSecret_34 ?_
  refine va_put (D := D) (ci := 0) (v := .long (sg_se u k.toNatClampNeg)) (ty := .long) (C := "MeasuredStages") (T := F_ms) (N := 12) hx hb hts (fun w h => List.mem_cons_of_mem _ (i_ms w h)) t_ms o_ms n_ms hown hK hP hD hS 0 rfl rfl 8 (by decide) (hT _ tb_77) (fun _ h9 => h9) rfl (by decide +kernel) rfl rfl (Nat.le_of_ble_eq_true rfl) d_ms_loadSecret_35 (fun H locs hP hD hS => ?_)
  have hP : va_P D cx (xv ad cs (sg_im u) (sg_ap u) (sg_ag u) (sg_he u) (sg_er u) (sg_ev u) (sg_en u) (sg_ma u) (sg_po u) (sg_se u) (sg_se u k.toNatClampNeg) (sg_fa u) (sg_la u) (sg_st u) (jx_ru j) (jx_nd j) (jx_de j) (jx_rp j)) H := hP
  have hD : va_D A (xv ad cs (sg_im u) (sg_ap u) (sg_ag u) (sg_he u) (sg_er u) (sg_ev u) (sg_en u) (sg_ma u) (sg_po u) (sg_se u) (sg_se u k.toNatClampNeg) (sg_fa u) (sg_la u) (sg_st u) (jx_ru j) (jx_nd j) (jx_de j) (jx_rp j)) := hD
  refine lv_iconst (v := 0) hx hb d_ms_loadSecret_38 (by decide) ?_
  obtain ⟨v1, ev1⟩ : ∃ z : Sg, z = (sg_im u, sg_ap u, sg_ag u, sg_he u, sg_er u, sg_ev u, sg_en u, sg_ma u, sg_po u, sg_se u, sg_se u k.toNatClampNeg, sg_fa u, sg_la u, sg_st u) := ⟨_, rfl⟩
  have hP : va_P D cx (xw ad cs v1 j) H := by rw [ev1, xw_u]; exact hP
  have hD : va_D A (xw ad cs v1 j) := by rw [ev1, xw_u]; exact hD
  subst ev1
  exact W.iret hx hb hret (fun t ht hW => ⟨⟨_, j, rfl, ⟨rfl, (by rfl)⟩, by rw [ht]; exact hP, va_K.moved hW.alike hK, hD⟩, hS.F ht⟩) hS.2.2 d_ms_loadSecret_39
set_option maxHeartbeats 4000000 in
set_option maxRecDepth 100000 in
theorem c_ms_passOverIfZero (l : Launch) (D : va_G) (cs : Nat → ClassId) (ad : Nat → Nat) (sz : Nat) (u : Sg) (j : Jx) (x : Int32) (hd : vp_in (jx_de j) 6) : Met l y_ms_passOverIfZero (Cond.code y_ms_passOverIfZero b_ms_passOverIfZero 2 none :: TB) { frames := 0, cells := 0, slots := 0, locals := 0 } (va_Pc [.ref (ad 0), .int x] (xw_Pre D cs ad u j sz)) (va_Qv (fun (j1 : Jx) => j1 = if sg_ac u = 0 then sx_nd j (upd (jx_nd j) (jx_de j).toNatClampNeg (jx_nd j (jx_de j).toNatClampNeg + x)) else j) (fun (j1 : Jx) t => xw_B D cs ad (va_A (xw ad cs u j) sz) u j1 t) (va_A (xw ad cs u j) sz)) 0 0 (va_A (xw ad cs u j) sz) := by
  refine Met.ofW (cc := b_ms_passOverIfZero) (maxL := 2) (ret := none) (by decide) rfl ?_
  intro p e s m args below meth c s₁ B hml hv
  obtain ⟨rfl, hsz, hP, hK, hD, hN⟩ := hv
  have hx := B.exec
  have hb := B.bytes
  have hret := B.returns
  have hts := atoms_spec (ws := Cond.code y_ms_passOverIfZero b_ms_passOverIfZero 2 none :: TB) B.pre
  have hT : ∀ w ∈ TB, w.before _ s = true := fun w h => hts w (List.mem_cons_of_mem _ h)
  have hown : s.vm.findClass "MeasuredStages" = some m.cls := findClass_of_methodNamed B.named
  have hlocks := B.notSynchronized
  subst hsz
  have hD := hD.self (sz := s.heap.size)
  generalize hAe : va_A (xw ad cs u j) s.heap.size = A at hD ⊢
  have hA : ∀ q : Nat, s.heap.size ≤ q → A q := fun q h => by rw [← hAe]; exact Or.inr h
  have hS : va_S A s.heap s.heap [] := va_S.rf
  have hl := lv_entry ([.ref (ad 0), .int x]) (n := 2) (Nat.le_of_ble_eq_true rfl)
  rw [lg_entry_eq]
  generalize (lg_sl ([.ref (ad 0), .int x]) ++ List.replicate (2 - (lg_sl ([.ref (ad 0), .int x])).length) Slot.unset).toArray = ls at hl ⊢
  have hl : lv_has ls 2 [(0, .ref (ad 0)), (1, .int x)] := hl
  skip
  refine lv_aload_n hx hb d_ms_passOverIfZero_0 rfl (lv_at hl 0 rfl) ?_
  refine va_get (D := D) (ci := 0) (v := .long (sg_ac u)) (C := "MeasuredStages") (T := F_ms) (N := 12) hx hb hts (fun w h => List.mem_cons_of_mem _ (i_ms w h)) hown hK hP 0 rfl rfl 8 (by decide) (hT _ tb_77) (fun _ h9 => h9) rfl d_ms_passOverIfZero_1 ?_
  refine lv_lconst (v := 0) hx hb d_ms_passOverIfZero_4 (by decide) ?_
  refine W.lcmp hx hb d_ms_passOverIfZero_5 ?_
  refine lv_if_ne hx hb d_ms_passOverIfZero_6 (tgt := 22) (by decide) (fun h1 => ?_) (fun h1 => ?_)
  · skip
    have h1 := mt sp_cmp.mpr h1
    exact W.vret hx hb hret (fun t ht hW => ⟨⟨j, rfl, (by rw [if_neg h1]), by rw [ht]; exact hP, va_K.moved hW.alike hK, hD⟩, hS.F ht⟩) hS.2.2 d_ms_passOverIfZero_22
  · skip
    have h1 := sp_cmp.mp h1
    refine lv_aload_n hx hb d_ms_passOverIfZero_9 rfl (lv_at hl 0 rfl) ?_
    refine va_get (D := D) (ci := 0) (v := .ref (ad 7)) (C := "MeasuredStages") (T := F_ms) (N := 12) hx hb hts (fun w h => List.mem_cons_of_mem _ (i_ms w h)) hown hK hP 0 rfl rfl 6 (by decide) (hT _ tb_75) (fun _ h9 => h9) rfl d_ms_passOverIfZero_10 ?_
    refine lv_aload_n hx hb d_ms_passOverIfZero_13 rfl (lv_at hl 0 rfl) ?_
    refine va_get (D := D) (ci := 0) (v := .int (jx_de j)) (C := "MeasuredStages") (T := F_ms) (N := 12) hx hb hts (fun w h => List.mem_cons_of_mem _ (i_ms w h)) hown hK hP 0 rfl rfl 7 (by decide) (hT _ tb_76) (fun _ h9 => h9) rfl d_ms_passOverIfZero_14 ?_
    refine lv_dup2_11 hx hb d_ms_passOverIfZero_17 rfl rfl ?_
    refine va_iald hx hb hK hP 7 4 rfl rfl hd d_ms_passOverIfZero_18 ?_
    refine lv_iload_n hx hb d_ms_passOverIfZero_19 rfl (lv_at hl 1 rfl) ?_
    refine lv_iadd hx hb d_ms_passOverIfZero_20 ?_
    refine va_iast hx hb hK hP hD hS 7 4 rfl rfl hd d_ms_passOverIfZero_21 (fun H locs hP hD hS => ?_)
    have hP : va_P D cx (xv ad cs (sg_im u) (sg_ap u) (sg_ag u) (sg_he u) (sg_er u) (sg_ev u) (sg_en u) (sg_ma u) (sg_po u) (sg_se u) (sg_ac u) (sg_fa u) (sg_la u) (sg_st u) (jx_ru j) (upd (jx_nd j) (jx_de j).toNatClampNeg ((jx_nd j (jx_de j).toNatClampNeg) + x)) (jx_de j) (jx_rp j)) H := hP
    have hD : va_D A (xv ad cs (sg_im u) (sg_ap u) (sg_ag u) (sg_he u) (sg_er u) (sg_ev u) (sg_en u) (sg_ma u) (sg_po u) (sg_se u) (sg_ac u) (sg_fa u) (sg_la u) (sg_st u) (jx_ru j) (upd (jx_nd j) (jx_de j).toNatClampNeg ((jx_nd j (jx_de j).toNatClampNeg) + x)) (jx_de j) (jx_rp j)) := hD
    obtain ⟨q2, eq2⟩ : ∃ z : Jx, z = (jx_ru j, upd (jx_nd j) (jx_de j).toNatClampNeg ((jx_nd j (jx_de j).toNatClampNeg) + x), jx_de j, jx_rp j) := ⟨_, rfl⟩
    have hP : va_P D cx (xw ad cs u q2) H := by rw [eq2, xw_j]; exact hP
    have hD : va_D A (xw ad cs u q2) := by rw [eq2, xw_j]; exact hD
    exact W.vret hx hb hret (fun t ht hW => ⟨⟨q2, rfl, (by subst eq2; rw [if_pos h1]; rfl), by rw [ht]; exact hP, va_K.moved hW.alike hK, hD⟩, hS.F ht⟩) hS.2.2 d_ms_passOverIfZero_22
set_option maxHeartbeats 4000000 in
set_option maxRecDepth 100000 in
theorem c_ms_sealAcc_c (l : Launch) (D : va_G) (cs : Nat → ClassId) (ad : Nat → Nat) (sz : Nat) (u : Sg) (j : Jx) (mask : Int32) (h : sp_lf (sg_ma u) = -1) : Met l y_ms_sealAcc (Cond.code y_ms_sealAcc b_ms_sealAcc 3 (some .int) :: TB) { frames := 3, cells := 0, slots := 0, locals := 80 } (va_Pc [.ref (ad 0), .int mask] (xw_Pre D cs ad u j sz)) (vp_Si (fun r => r = 8)) 0 0 (fun _ => False) := by
  refine Met.ofW (cc := b_ms_sealAcc) (maxL := 3) (ret := (some .int)) (by decide) rfl ?_
  intro p e s m args below meth c s₁ B hml hv
  obtain ⟨rfl, hsz, hP, hK, hD, hN⟩ := hv
  have hx := B.exec
  have hb := B.bytes
  have hret := B.returns
  have hts := atoms_spec (ws := Cond.code y_ms_sealAcc b_ms_sealAcc 3 (some .int) :: TB) B.pre
  have hT : ∀ w ∈ TB, w.before _ s = true := fun w h => hts w (List.mem_cons_of_mem _ h)
  have hown : s.vm.findClass "MeasuredStages" = some m.cls := findClass_of_methodNamed B.named
  have hlocks := B.notSynchronized
  subst hsz
  have hl := lv_entry ([.ref (ad 0), .int mask]) (n := 3) (Nat.le_of_ble_eq_true rfl)
  rw [lg_entry_eq]
  generalize (lg_sl ([.ref (ad 0), .int mask]) ++ List.replicate (3 - (lg_sl ([.ref (ad 0), .int mask])).length) Slot.unset).toArray = ls at hl ⊢
  have hl : lv_has ls 3 [(0, .ref (ad 0)), (1, .int mask)] := hl
  refine lv_aload_n hx hb d_ms_sealAcc_0 rfl (lv_at hl 0 rfl) ?_
  refine va_get (D := D) (ci := 0) (v := .ref (ad 5)) (C := "MeasuredStages") (T := F_ms) (N := 12) hx hb hts (fun w h => List.mem_cons_of_mem _ (i_ms w h)) hown hK hP 0 rfl rfl 4 (by decide) (hT _ tb_73) (fun _ h9 => h9) rfl d_ms_sealAcc_1 ?_
  refine xw_rdi (v := sp_lf (sg_ma u)) (As := []) (rest := []) ⟨hx, hb, hml, hown, hts⟩ (c_bl_leastFree l D cs ad _ u j ) tb_313 tb_314 tb_315 tb_3 tb_316 ⟨rfl, hd_bl_leastFree⟩ ⟨Nat.le_of_ble_eq_true rfl, Nat.le_of_ble_eq_true rfl⟩ rfl rfl hK hP hD hN 5 2 rfl rfl hl.1 rfl (Nat.le_of_ble_eq_true rfl) d_ms_sealAcc_4 ⟨Nat.zero_le _, Nat.zero_le _⟩ ?_
  refine lv_istore_n (nL := 3) (lv' := [(2, .int (sp_lf (sg_ma u))), (0, .ref (ad 0)), (1, .int mask)]) hx hb d_ms_sealAcc_7 rfl hl (by decide) rfl (fun ls hl => ?_)
  refine lv_iload_n hx hb d_ms_sealAcc_8 rfl (lv_at hl 0 rfl) ?_
  refine lv_iconst (v := (-1)) hx hb d_ms_sealAcc_9 (by decide) ?_
  refine lv_icmp_ne hx hb d_ms_sealAcc_10 (tgt := 16) (by decide) (fun z => absurd h z) (fun _ => ?_)
  refine lv_bipush (v := 8) hx hb d_ms_sealAcc_13 (by decide) ?_
  exact W.iret (v := 8) hx hb hret (fun t ht hW => ⟨_, rfl, rfl, ht⟩) (fun q h => by cases h) d_ms_sealAcc_15
set_option maxHeartbeats 4000000 in
set_option maxRecDepth 100000 in
theorem c_ms_sealAcc (l : Launch) (D : va_G) (cs : Nat → ClassId) (ad : Nat → Nat) (sz : Nat) (u : Sg) (j : Jx) (mask : Int32) (hk : vp_in (sp_lf (sg_ma u)) 8) : Met l y_ms_sealAcc (Cond.code y_ms_sealAcc b_ms_sealAcc 3 (some .int) :: TB) { frames := 3, cells := 0, slots := 0, locals := 80 } (va_Pc [.ref (ad 0), .int mask] (xw_Pre D cs ad u j sz)) (va_Qi (fun (r : Int32) (j1 : Jx) => r = 0 ∧ j1 = j) (fun (j1 : Jx) t => xw_B D cs ad (va_A (xw ad cs u j) sz) (sp_fi u (sp_lf (sg_ma u)) mask (sg_ac u)) j1 t) (va_A (xw ad cs u j) sz)) 0 0 (va_A (xw ad cs u j) sz) := by
  refine Met.ofW (cc := b_ms_sealAcc) (maxL := 3) (ret := (some .int)) (by decide) rfl ?_
  intro p e s m args below meth c s₁ B hml hv
  obtain ⟨rfl, hsz, hP, hK, hD, hN⟩ := hv
  have hx := B.exec
  have hb := B.bytes
  have hret := B.returns
  have hts := atoms_spec (ws := Cond.code y_ms_sealAcc b_ms_sealAcc 3 (some .int) :: TB) B.pre
  have hT : ∀ w ∈ TB, w.before _ s = true := fun w h => hts w (List.mem_cons_of_mem _ h)
  have hown : s.vm.findClass "MeasuredStages" = some m.cls := findClass_of_methodNamed B.named
  have hlocks := B.notSynchronized
  subst hsz
  have hD := hD.self (sz := s.heap.size)
  generalize hAe : va_A (xw ad cs u j) s.heap.size = A at hD ⊢
  have hA : ∀ q : Nat, s.heap.size ≤ q → A q := fun q h => by rw [← hAe]; exact Or.inr h
  have hS : va_S A s.heap s.heap [] := va_S.rf
  have hl := lv_entry ([.ref (ad 0), .int mask]) (n := 3) (Nat.le_of_ble_eq_true rfl)
  rw [lg_entry_eq]
  generalize (lg_sl ([.ref (ad 0), .int mask]) ++ List.replicate (3 - (lg_sl ([.ref (ad 0), .int mask])).length) Slot.unset).toArray = ls at hl ⊢
  have hl : lv_has ls 3 [(0, .ref (ad 0)), (1, .int mask)] := hl
  skip
  refine lv_aload_n hx hb d_ms_sealAcc_0 rfl (lv_at hl 0 rfl) ?_
  refine va_get (D := D) (ci := 0) (v := .ref (ad 5)) (C := "MeasuredStages") (T := F_ms) (N := 12) hx hb hts (fun w h => List.mem_cons_of_mem _ (i_ms w h)) hown hK hP 0 rfl rfl 4 (by decide) (hT _ tb_73) (fun _ h9 => h9) rfl d_ms_sealAcc_1 ?_
  refine xw_rdi (v := sp_lf (sg_ma u)) (As := []) (rest := []) ⟨hx, hb, hml, hown, hts⟩ (c_bl_leastFree l D cs ad _ u j ) tb_313 tb_314 tb_315 tb_3 tb_316 ⟨rfl, hd_bl_leastFree⟩ ⟨Nat.le_of_ble_eq_true rfl, Nat.le_of_ble_eq_true rfl⟩ rfl rfl hK hP hD hN 5 2 rfl rfl hl.1 rfl (Nat.le_of_ble_eq_true rfl) d_ms_sealAcc_4 ⟨Nat.zero_le _, Nat.zero_le _⟩ ?_
  refine lv_istore_n (nL := 3) (lv' := [(2, .int (sp_lf (sg_ma u))), (0, .ref (ad 0)), (1, .int mask)]) hx hb d_ms_sealAcc_7 rfl hl (by decide) rfl (fun ls hl => ?_)
  refine lv_iload_n hx hb d_ms_sealAcc_8 rfl (lv_at hl 0 rfl) ?_
  refine lv_iconst (v := (-1)) hx hb d_ms_sealAcc_9 (by decide) ?_
  refine lv_icmp_ne hx hb d_ms_sealAcc_10 (tgt := 16) (by decide) (fun _ => ?_) (fun z => absurd z (fun z => xn_ge hk (by rw [z]; decide)))
  refine lv_aload_n hx hb d_ms_sealAcc_16 rfl (lv_at hl 1 rfl) ?_
  refine va_get (D := D) (ci := 0) (v := .ref (ad 5)) (C := "MeasuredStages") (T := F_ms) (N := 12) hx hb hts (fun w h => List.mem_cons_of_mem _ (i_ms w h)) hown hK hP 0 rfl rfl 4 (by decide) (hT _ tb_73) (fun _ h9 => h9) rfl d_ms_sealAcc_17 ?_
  refine lv_iload_n hx hb d_ms_sealAcc_20 rfl (lv_at hl 0 rfl) ?_
  refine lv_iload_n hx hb d_ms_sealAcc_21 rfl (lv_at hl 2 rfl) ?_
  refine lv_aload_n hx hb d_ms_sealAcc_22 rfl (lv_at hl 1 rfl) ?_
  refine va_get (D := D) (ci := 0) (v := .ref (ad 4)) (C := "MeasuredStages") (T := F_ms) (N := 12) hx hb hts (fun w h => List.mem_cons_of_mem _ (i_ms w h)) hown hK hP 0 rfl rfl 3 (by decide) (hT _ tb_72) (fun _ h9 => h9) rfl d_ms_sealAcc_23 ?_
  refine lv_iload_n hx hb d_ms_sealAcc_26 rfl (lv_at hl 2 rfl) ?_
  refine xw_rdl (v := sp_po u mask) (As := [.int mask]) (rest := [.int mask, .int (sp_lf (sg_ma u)), .ref (ad 5)]) ⟨hx, hb, hml, hown, hts⟩ (c_rg_policyOf l D cs ad _ u j mask) tb_300 tb_301 tb_302 tb_2 tb_303 ⟨rfl, hd_rg_policyOf⟩ ⟨Nat.le_of_ble_eq_true rfl, Nat.le_of_ble_eq_true rfl⟩ rfl rfl hK hP hD hN 4 1 rfl rfl hl.1 rfl (Nat.le_of_ble_eq_true rfl) d_ms_sealAcc_27 ⟨Nat.zero_le _, Nat.zero_le _⟩ ?_
  refine lv_aload_n hx hb d_ms_sealAcc_30 rfl (lv_at hl 1 rfl) ?_
  refine va_get (D := D) (ci := 0) (v := .long (sg_ac u)) (C := "MeasuredStages") (T := F_ms) (N := 12) hx hb hts (fun w h => List.mem_cons_of_mem _ (i_ms w h)) hown hK hP 0 rfl rfl 8 (by decide) (hT _ tb_77) (fun _ h9 => h9) rfl d_ms_sealAcc_31 ?_
  refine xw_wrv (u' := ss_se (ss_po (ss_ma u (upd (sg_ma u) (sp_lf (sg_ma u)).toNatClampNeg mask)) (vp_updL (sg_po u) (sp_lf (sg_ma u)).toNatClampNeg (sp_po u mask))) (vp_updL (sg_se u) (sp_lf (sg_ma u)).toNatClampNeg (sg_ac u))) (As := [.int (sp_lf (sg_ma u)), .int mask, .long (sp_po u mask), .long (sg_ac u)]) (rest := []) ⟨hx, hb, hml, hown, hts⟩ (c_bl_fill l D cs ad _ u j (sp_lf (sg_ma u)) mask (sp_po u mask) (sg_ac u) hk) tb_317 tb_318 tb_319 tb_3 tb_320 ⟨rfl, hd_bl_fill⟩ ⟨Nat.le_of_ble_eq_true rfl, Nat.le_of_ble_eq_true rfl⟩ rfl rfl hK hP hD hN 5 2 rfl rfl hl.1 rfl (Nat.le_of_ble_eq_true rfl) d_ms_sealAcc_34 ⟨Nat.zero_le _, Nat.zero_le _⟩ hS hA (fun j1 H locs hj2 hP hD hS => ?_)
  obtain ⟨v3, ev3⟩ : ∃ z : Sg, z = ss_se (ss_po (ss_ma u (upd (sg_ma u) (sp_lf (sg_ma u)).toNatClampNeg mask)) (vp_updL (sg_po u) (sp_lf (sg_ma u)).toNatClampNeg (sp_po u mask))) (vp_updL (sg_se u) (sp_lf (sg_ma u)).toNatClampNeg (sg_ac u)) := ⟨_, rfl⟩
  rw [← ev3] at hP hD
  rw [hj2] at hP hD
  refine lv_iconst (v := 0) hx hb d_ms_sealAcc_37 (by decide) ?_
  subst ev3
  exact W.iret hx hb hret (fun t ht hW => ⟨⟨_, j, rfl, ⟨rfl, (by rfl)⟩, by rw [ht]; exact hP, va_K.moved hW.alike hK, hD⟩, hS.F ht⟩) hS.2.2 d_ms_sealAcc_38
set_option maxHeartbeats 4000000 in
set_option maxRecDepth 100000 in
theorem c_do_0 (l : Launch) (D : va_G) (cs : Nat → ClassId) (ad : Nat → Nat) (sz : Nat) (u : Sg) (j : Jx)  (hs : sg_st u < 100) (hd : vp_in (jx_de j) 6) (hc : sp_dg (jx_ru j (jx_de j).toNatClampNeg) (jx_nd j (jx_de j).toNatClampNeg) = 0)  : Met l y_ms_doInstruction (Cond.code y_ms_doInstruction b_ms_doInstruction 1 (some .int) :: TB) { frames := 5, cells := 0, slots := 0, locals := 120 } (va_Pc [.ref (ad 0)] (xw_Pre D cs ad u j sz)) (va_Qi (fun (r : Int32) (j1 : Jx) => r = 0 ∧ jx_de j1 = jx_de j - 1 ∧ jx_nd j1 = (upd (jx_nd j) (jx_de j).toNatClampNeg (jx_nd j (jx_de j).toNatClampNeg + 1)) ∧ jx_ru j1 = jx_ru j) (fun (j1 : Jx) t => xw_B D cs ad (va_A (xw ad cs u j) sz) u j1 t) (va_A (xw ad cs u j) sz)) 0 0 (va_A (xw ad cs u j) sz) := by
  refine Met.ofW (cc := b_ms_doInstruction) (maxL := 1) (ret := (some .int)) (by decide) rfl ?_
  intro p e s m args below meth c s₁ B hml hv
  obtain ⟨rfl, hsz, hP, hK, hD, hN⟩ := hv
  have hx := B.exec
  have hb := B.bytes
  have hret := B.returns
  have hts := atoms_spec (ws := Cond.code y_ms_doInstruction b_ms_doInstruction 1 (some .int) :: TB) B.pre
  have hT : ∀ w ∈ TB, w.before _ s = true := fun w h => hts w (List.mem_cons_of_mem _ h)
  have hown : s.vm.findClass "MeasuredStages" = some m.cls := findClass_of_methodNamed B.named
  have hlocks := B.notSynchronized
  subst hsz
  have hD := hD.self (sz := s.heap.size)
  generalize hAe : va_A (xw ad cs u j) s.heap.size = A at hD ⊢
  have hA : ∀ q : Nat, s.heap.size ≤ q → A q := fun q h => by rw [← hAe]; exact Or.inr h
  have hS : va_S A s.heap s.heap [] := va_S.rf
  have hl := lv_entry ([.ref (ad 0)]) (n := 1) (Nat.le_of_ble_eq_true rfl)
  rw [lg_entry_eq]
  generalize (lg_sl ([.ref (ad 0)]) ++ List.replicate (1 - (lg_sl ([.ref (ad 0)])).length) Slot.unset).toArray = ls at hl ⊢
  have hl : lv_has ls 1 [(0, .ref (ad 0))] := hl
  skip
  refine lv_aload_n hx hb d_ms_doInstruction_0 rfl (lv_at hl 0 rfl) ?_
  refine va_get (D := D) (ci := 0) (v := .int (sg_st u)) (C := "MeasuredStages") (T := F_ms) (N := 12) hx hb hts (fun w h => List.mem_cons_of_mem _ (i_ms w h)) hown hK hP 0 rfl rfl 11 (by decide) (hT _ tb_80) (fun _ h9 => h9) rfl d_ms_doInstruction_1 ?_
  refine lv_bipush (v := 100) hx hb d_ms_doInstruction_4 (by decide) ?_
  refine lv_icmp_lt hx hb d_ms_doInstruction_6 (tgt := 11) (by decide) (fun _ => ?_) (fun z => absurd hs z)
  refine lv_aload_n hx hb d_ms_doInstruction_11 rfl (lv_at hl 0 rfl) ?_
  refine xw_wri (v := sp_dg (jx_ru j (jx_de j).toNatClampNeg) (jx_nd j (jx_de j).toNatClampNeg)) (u' := u) (As := []) (rest := []) ⟨hx, hb, hml, hown, hts⟩ (c_ms_takeDigit l D cs ad _ u j  hd) tb_272 tb_274 sl_7 tb_1 tb_275 ⟨rfl, hd_ms_takeDigit⟩ ⟨Nat.le_of_ble_eq_true rfl, Nat.le_of_ble_eq_true rfl⟩ rfl rfl hK hP hD hN 0 0 rfl rfl hl.1 rfl (Nat.le_of_ble_eq_true rfl) d_ms_doInstruction_12 ⟨Nat.zero_le _, Nat.zero_le _⟩ hS hA (fun j1 H locs hj2 hP hD hS => ?_)
  refine W.eq (g2 := F0 m 15 ls (.int 0 :: [])) (by rw [hc]) ?_
  refine lv_tableIn hx hb d_ms_doInstruction_15 (off := 49) (tgt := 64) (by decide) (by decide) rfl (by decide) ?_
  refine lv_aload_n hx hb d_ms_doInstruction_64 rfl (lv_at hl 0 rfl) ?_
  refine lv_dup hx hb d_ms_doInstruction_65 rfl ?_
  refine va_get (D := D) (ci := 0) (v := .int (jx_de j1)) (C := "MeasuredStages") (T := F_ms) (N := 12) hx hb hts (fun w h => List.mem_cons_of_mem _ (i_ms w h)) hown hK hP 0 rfl rfl 7 (by decide) (hT _ tb_76) (fun _ h9 => h9) rfl d_ms_doInstruction_66 ?_
  refine lv_iconst (v := 1) hx hb d_ms_doInstruction_69 (by decide) ?_
  refine lv_isub hx hb d_ms_doInstruction_70 ?_
  refine va_put (D := D) (ci := 0) (v := .int ((jx_de j1) - (1))) (ty := .int) (C := "MeasuredStages") (T := F_ms) (N := 12) hx hb hts (fun w h => List.mem_cons_of_mem _ (i_ms w h)) t_ms o_ms n_ms hown hK hP hD hS 0 rfl rfl 7 (by decide) (hT _ tb_76) (fun _ h9 => h9) rfl (by decide +kernel) rfl rfl (Nat.le_of_ble_eq_true rfl) d_ms_doInstruction_71 (fun H locs hP hD hS => ?_)
  have hP : va_P D cx (xv ad cs (sg_im u) (sg_ap u) (sg_ag u) (sg_he u) (sg_er u) (sg_ev u) (sg_en u) (sg_ma u) (sg_po u) (sg_se u) (sg_ac u) (sg_fa u) (sg_la u) (sg_st u) (jx_ru j1) (jx_nd j1) ((jx_de j1) - (1)) (jx_rp j1)) H := hP
  have hD : va_D A (xv ad cs (sg_im u) (sg_ap u) (sg_ag u) (sg_he u) (sg_er u) (sg_ev u) (sg_en u) (sg_ma u) (sg_po u) (sg_se u) (sg_ac u) (sg_fa u) (sg_la u) (sg_st u) (jx_ru j1) (jx_nd j1) ((jx_de j1) - (1)) (jx_rp j1)) := hD
  refine lv_iconst (v := 0) hx hb d_ms_doInstruction_74 (by decide) ?_
  obtain ⟨q3, eq3⟩ : ∃ z : Jx, z = (jx_ru j1, jx_nd j1, (jx_de j1) - (1), jx_rp j1) := ⟨_, rfl⟩
  have hP : va_P D cx (xw ad cs u q3) H := by rw [eq3, xw_j]; exact hP
  have hD : va_D A (xw ad cs u q3) := by rw [eq3, xw_j]; exact hD
  exact W.iret hx hb hret (fun t ht hW => ⟨⟨_, q3, rfl, ⟨rfl, (by subst eq3; subst hj2; exact ⟨rfl, by first | rfl | simp only [jx_nd, sx_nd, jx_de, sx_de, jx_ru, sx_ru, pk_us, up_uu], rfl⟩)⟩, by rw [ht]; exact hP, va_K.moved hW.alike hK, hD⟩, hS.F ht⟩) hS.2.2 d_ms_doInstruction_75
set_option maxHeartbeats 4000000 in
set_option maxRecDepth 100000 in
theorem c_do_1d (l : Launch) (D : va_G) (cs : Nat → ClassId) (ad : Nat → Nat) (sz : Nat) (u : Sg) (j : Jx)  (hs : sg_st u < 100) (hd : vp_in (jx_de j) 6) (hc : sp_dg (jx_ru j (jx_de j).toNatClampNeg) (jx_nd j (jx_de j).toNatClampNeg) = 1) (h1 : 6 ≤ jx_de j + 1) : Met l y_ms_doInstruction (Cond.code y_ms_doInstruction b_ms_doInstruction 1 (some .int) :: TB) { frames := 5, cells := 0, slots := 0, locals := 120 } (va_Pc [.ref (ad 0)] (xw_Pre D cs ad u j sz)) (va_Qi (fun (r : Int32) (j1 : Jx) => r = 2 ∧ True) (fun (j1 : Jx) t => xw_B D cs ad (va_A (xw ad cs u j) sz) u j1 t) (va_A (xw ad cs u j) sz)) 0 0 (va_A (xw ad cs u j) sz) := by
  refine Met.ofW (cc := b_ms_doInstruction) (maxL := 1) (ret := (some .int)) (by decide) rfl ?_
  intro p e s m args below meth c s₁ B hml hv
  obtain ⟨rfl, hsz, hP, hK, hD, hN⟩ := hv
  have hx := B.exec
  have hb := B.bytes
  have hret := B.returns
  have hts := atoms_spec (ws := Cond.code y_ms_doInstruction b_ms_doInstruction 1 (some .int) :: TB) B.pre
  have hT : ∀ w ∈ TB, w.before _ s = true := fun w h => hts w (List.mem_cons_of_mem _ h)
  have hown : s.vm.findClass "MeasuredStages" = some m.cls := findClass_of_methodNamed B.named
  have hlocks := B.notSynchronized
  subst hsz
  have hD := hD.self (sz := s.heap.size)
  generalize hAe : va_A (xw ad cs u j) s.heap.size = A at hD ⊢
  have hA : ∀ q : Nat, s.heap.size ≤ q → A q := fun q h => by rw [← hAe]; exact Or.inr h
  have hS : va_S A s.heap s.heap [] := va_S.rf
  have hl := lv_entry ([.ref (ad 0)]) (n := 1) (Nat.le_of_ble_eq_true rfl)
  rw [lg_entry_eq]
  generalize (lg_sl ([.ref (ad 0)]) ++ List.replicate (1 - (lg_sl ([.ref (ad 0)])).length) Slot.unset).toArray = ls at hl ⊢
  have hl : lv_has ls 1 [(0, .ref (ad 0))] := hl
  skip
  refine lv_aload_n hx hb d_ms_doInstruction_0 rfl (lv_at hl 0 rfl) ?_
  refine va_get (D := D) (ci := 0) (v := .int (sg_st u)) (C := "MeasuredStages") (T := F_ms) (N := 12) hx hb hts (fun w h => List.mem_cons_of_mem _ (i_ms w h)) hown hK hP 0 rfl rfl 11 (by decide) (hT _ tb_80) (fun _ h9 => h9) rfl d_ms_doInstruction_1 ?_
  refine lv_bipush (v := 100) hx hb d_ms_doInstruction_4 (by decide) ?_
  refine lv_icmp_lt hx hb d_ms_doInstruction_6 (tgt := 11) (by decide) (fun _ => ?_) (fun z => absurd hs z)
  refine lv_aload_n hx hb d_ms_doInstruction_11 rfl (lv_at hl 0 rfl) ?_
  refine xw_wri (v := sp_dg (jx_ru j (jx_de j).toNatClampNeg) (jx_nd j (jx_de j).toNatClampNeg)) (u' := u) (As := []) (rest := []) ⟨hx, hb, hml, hown, hts⟩ (c_ms_takeDigit l D cs ad _ u j  hd) tb_272 tb_274 sl_7 tb_1 tb_275 ⟨rfl, hd_ms_takeDigit⟩ ⟨Nat.le_of_ble_eq_true rfl, Nat.le_of_ble_eq_true rfl⟩ rfl rfl hK hP hD hN 0 0 rfl rfl hl.1 rfl (Nat.le_of_ble_eq_true rfl) d_ms_doInstruction_12 ⟨Nat.zero_le _, Nat.zero_le _⟩ hS hA (fun j1 H locs hj2 hP hD hS => ?_)
  refine W.eq (g2 := F0 m 15 ls (.int 1 :: [])) (by rw [hc]) ?_
  refine lv_tableIn hx hb d_ms_doInstruction_15 (off := 61) (tgt := 76) (by decide) (by decide) rfl (by decide) ?_
  refine lv_aload_n hx hb d_ms_doInstruction_76 rfl (lv_at hl 0 rfl) ?_
  refine lv_aload_n hx hb d_ms_doInstruction_77 rfl (lv_at hl 0 rfl) ?_
  refine va_get (D := D) (ci := 0) (v := .int (jx_de j1)) (C := "MeasuredStages") (T := F_ms) (N := 12) hx hb hts (fun w h => List.mem_cons_of_mem _ (i_ms w h)) hown hK hP 0 rfl rfl 7 (by decide) (hT _ tb_76) (fun _ h9 => h9) rfl d_ms_doInstruction_78 ?_
  refine lv_iconst (v := 1) hx hb d_ms_doInstruction_81 (by decide) ?_
  refine lv_iadd hx hb d_ms_doInstruction_82 ?_
  refine lv_aload_n hx hb d_ms_doInstruction_83 rfl (lv_at hl 0 rfl) ?_
  refine xw_wri (v := sp_rm (sp_dg (jx_ru j1 (jx_de j1).toNatClampNeg) (jx_nd j1 (jx_de j1).toNatClampNeg)) 8) (u' := u) (As := []) (rest := [.int ((jx_de j1) + (1)), .ref (ad 0)]) ⟨hx, hb, hml, hown, hts⟩ (c_ms_takeImage l D cs ad _ u j1  (by subst hj2; exact hd)) tb_276 tb_278 sl_8 tb_1 tb_279 ⟨rfl, hd_ms_takeImage⟩ ⟨Nat.le_of_ble_eq_true rfl, Nat.le_of_ble_eq_true rfl⟩ rfl rfl hK hP hD hN 0 0 rfl rfl hl.1 rfl (Nat.le_of_ble_eq_true rfl) d_ms_doInstruction_84 ⟨Nat.zero_le _, Nat.zero_le _⟩ hS hA (fun j3 H locs hj4 hP hD hS => ?_)
  have hX5 : sp_dg (jx_ru j1 (jx_de j1).toNatClampNeg) (jx_nd j1 (jx_de j1).toNatClampNeg) = sp_dg (jx_ru j (jx_de j).toNatClampNeg) (jx_nd j (jx_de j).toNatClampNeg + 1) := by
    subst hj4
    subst hj2
    simp only [jx_nd, sx_nd, jx_de, sx_de, jx_ru, sx_ru, pk_us, up_uu]
  rw [hX5]
  rw [show jx_de j1 = jx_de j from (by subst hj4; subst hj2; rfl)]
  refine xw_rdi (v := 2) (As := [.int ((jx_de j) + (1)), .int (sp_rm (sp_dg (jx_ru j (jx_de j).toNatClampNeg) (jx_nd j (jx_de j).toNatClampNeg + 1)) 8)]) (rest := []) ⟨hx, hb, hml, hown, hts⟩ (c_ms_launchAt_d l D cs ad _ u j3 ((jx_de j) + (1)) (sp_rm (sp_dg (jx_ru j (jx_de j).toNatClampNeg) (jx_nd j (jx_de j).toNatClampNeg + 1)) 8) (by subst hj4; subst hj2; exact h1)) tb_252 tb_254 sl_3 tb_1 tb_255 ⟨rfl, hd_ms_launchAt⟩ ⟨Nat.le_of_ble_eq_true rfl, Nat.le_of_ble_eq_true rfl⟩ rfl rfl hK hP hD hN 0 0 rfl rfl hl.1 rfl (Nat.le_of_ble_eq_true rfl) d_ms_doInstruction_87 ⟨Nat.zero_le _, Nat.zero_le _⟩ ?_
  exact W.iret hx hb hret (fun t ht hW => ⟨⟨_, j3, rfl, ⟨rfl, (by subst hj4; subst hj2; trivial)⟩, by rw [ht]; exact hP, va_K.moved hW.alike hK, hD⟩, hS.F ht⟩) hS.2.2 d_ms_doInstruction_90
set_option maxHeartbeats 4000000 in
set_option maxRecDepth 100000 in
theorem c_do_1f (l : Launch) (D : va_G) (cs : Nat → ClassId) (ad : Nat → Nat) (sz : Nat) (u : Sg) (j : Jx)  (hs : sg_st u < 100) (hd : vp_in (jx_de j) 6) (hc : sp_dg (jx_ru j (jx_de j).toNatClampNeg) (jx_nd j (jx_de j).toNatClampNeg) = 1) (h1 : vp_in (jx_de j + 1) 6) (he : sg_en u = 32) : Met l y_ms_doInstruction (Cond.code y_ms_doInstruction b_ms_doInstruction 1 (some .int) :: TB) { frames := 5, cells := 0, slots := 0, locals := 120 } (va_Pc [.ref (ad 0)] (xw_Pre D cs ad u j sz)) (va_Qi (fun (r : Int32) (j1 : Jx) => r = 4 ∧ True) (fun (j1 : Jx) t => xw_B D cs ad (va_A (xw ad cs u j) sz) u j1 t) (va_A (xw ad cs u j) sz)) 0 0 (va_A (xw ad cs u j) sz) := by
  refine Met.ofW (cc := b_ms_doInstruction) (maxL := 1) (ret := (some .int)) (by decide) rfl ?_
  intro p e s m args below meth c s₁ B hml hv
  obtain ⟨rfl, hsz, hP, hK, hD, hN⟩ := hv
  have hx := B.exec
  have hb := B.bytes
  have hret := B.returns
  have hts := atoms_spec (ws := Cond.code y_ms_doInstruction b_ms_doInstruction 1 (some .int) :: TB) B.pre
  have hT : ∀ w ∈ TB, w.before _ s = true := fun w h => hts w (List.mem_cons_of_mem _ h)
  have hown : s.vm.findClass "MeasuredStages" = some m.cls := findClass_of_methodNamed B.named
  have hlocks := B.notSynchronized
  subst hsz
  have hD := hD.self (sz := s.heap.size)
  generalize hAe : va_A (xw ad cs u j) s.heap.size = A at hD ⊢
  have hA : ∀ q : Nat, s.heap.size ≤ q → A q := fun q h => by rw [← hAe]; exact Or.inr h
  have hS : va_S A s.heap s.heap [] := va_S.rf
  have hl := lv_entry ([.ref (ad 0)]) (n := 1) (Nat.le_of_ble_eq_true rfl)
  rw [lg_entry_eq]
  generalize (lg_sl ([.ref (ad 0)]) ++ List.replicate (1 - (lg_sl ([.ref (ad 0)])).length) Slot.unset).toArray = ls at hl ⊢
  have hl : lv_has ls 1 [(0, .ref (ad 0))] := hl
  skip
  refine lv_aload_n hx hb d_ms_doInstruction_0 rfl (lv_at hl 0 rfl) ?_
  refine va_get (D := D) (ci := 0) (v := .int (sg_st u)) (C := "MeasuredStages") (T := F_ms) (N := 12) hx hb hts (fun w h => List.mem_cons_of_mem _ (i_ms w h)) hown hK hP 0 rfl rfl 11 (by decide) (hT _ tb_80) (fun _ h9 => h9) rfl d_ms_doInstruction_1 ?_
  refine lv_bipush (v := 100) hx hb d_ms_doInstruction_4 (by decide) ?_
  refine lv_icmp_lt hx hb d_ms_doInstruction_6 (tgt := 11) (by decide) (fun _ => ?_) (fun z => absurd hs z)
  refine lv_aload_n hx hb d_ms_doInstruction_11 rfl (lv_at hl 0 rfl) ?_
  refine xw_wri (v := sp_dg (jx_ru j (jx_de j).toNatClampNeg) (jx_nd j (jx_de j).toNatClampNeg)) (u' := u) (As := []) (rest := []) ⟨hx, hb, hml, hown, hts⟩ (c_ms_takeDigit l D cs ad _ u j  hd) tb_272 tb_274 sl_7 tb_1 tb_275 ⟨rfl, hd_ms_takeDigit⟩ ⟨Nat.le_of_ble_eq_true rfl, Nat.le_of_ble_eq_true rfl⟩ rfl rfl hK hP hD hN 0 0 rfl rfl hl.1 rfl (Nat.le_of_ble_eq_true rfl) d_ms_doInstruction_12 ⟨Nat.zero_le _, Nat.zero_le _⟩ hS hA (fun j1 H locs hj2 hP hD hS => ?_)
  refine W.eq (g2 := F0 m 15 ls (.int 1 :: [])) (by rw [hc]) ?_
  refine lv_tableIn hx hb d_ms_doInstruction_15 (off := 61) (tgt := 76) (by decide) (by decide) rfl (by decide) ?_
  refine lv_aload_n hx hb d_ms_doInstruction_76 rfl (lv_at hl 0 rfl) ?_
  refine lv_aload_n hx hb d_ms_doInstruction_77 rfl (lv_at hl 0 rfl) ?_
  refine va_get (D := D) (ci := 0) (v := .int (jx_de j1)) (C := "MeasuredStages") (T := F_ms) (N := 12) hx hb hts (fun w h => List.mem_cons_of_mem _ (i_ms w h)) hown hK hP 0 rfl rfl 7 (by decide) (hT _ tb_76) (fun _ h9 => h9) rfl d_ms_doInstruction_78 ?_
  refine lv_iconst (v := 1) hx hb d_ms_doInstruction_81 (by decide) ?_
  refine lv_iadd hx hb d_ms_doInstruction_82 ?_
  refine lv_aload_n hx hb d_ms_doInstruction_83 rfl (lv_at hl 0 rfl) ?_
  refine xw_wri (v := sp_rm (sp_dg (jx_ru j1 (jx_de j1).toNatClampNeg) (jx_nd j1 (jx_de j1).toNatClampNeg)) 8) (u' := u) (As := []) (rest := [.int ((jx_de j1) + (1)), .ref (ad 0)]) ⟨hx, hb, hml, hown, hts⟩ (c_ms_takeImage l D cs ad _ u j1  (by subst hj2; exact hd)) tb_276 tb_278 sl_8 tb_1 tb_279 ⟨rfl, hd_ms_takeImage⟩ ⟨Nat.le_of_ble_eq_true rfl, Nat.le_of_ble_eq_true rfl⟩ rfl rfl hK hP hD hN 0 0 rfl rfl hl.1 rfl (Nat.le_of_ble_eq_true rfl) d_ms_doInstruction_84 ⟨Nat.zero_le _, Nat.zero_le _⟩ hS hA (fun j3 H locs hj4 hP hD hS => ?_)
  have hX5 : sp_dg (jx_ru j1 (jx_de j1).toNatClampNeg) (jx_nd j1 (jx_de j1).toNatClampNeg) = sp_dg (jx_ru j (jx_de j).toNatClampNeg) (jx_nd j (jx_de j).toNatClampNeg + 1) := by
    subst hj4
    subst hj2
    simp only [jx_nd, sx_nd, jx_de, sx_de, jx_ru, sx_ru, pk_us, up_uu]
  rw [hX5]
  rw [show jx_de j1 = jx_de j from (by subst hj4; subst hj2; rfl)]
  refine xw_rdi (v := 4) (As := [.int ((jx_de j) + (1)), .int (sp_rm (sp_dg (jx_ru j (jx_de j).toNatClampNeg) (jx_nd j (jx_de j).toNatClampNeg + 1)) 8)]) (rest := []) ⟨hx, hb, hml, hown, hts⟩ (c_ms_launchAt_f l D cs ad _ u j3 ((jx_de j) + (1)) (sp_rm (sp_dg (jx_ru j (jx_de j).toNatClampNeg) (jx_nd j (jx_de j).toNatClampNeg + 1)) 8) (by subst hj4; subst hj2; exact h1) (sp_rd8 _ _) (by subst hj4; subst hj2; exact he)) tb_252 tb_254 sl_3 tb_1 tb_255 ⟨rfl, hd_ms_launchAt⟩ ⟨Nat.le_of_ble_eq_true rfl, Nat.le_of_ble_eq_true rfl⟩ rfl rfl hK hP hD hN 0 0 rfl rfl hl.1 rfl (Nat.le_of_ble_eq_true rfl) d_ms_doInstruction_87 ⟨Nat.zero_le _, Nat.zero_le _⟩ ?_
  exact W.iret hx hb hret (fun t ht hW => ⟨⟨_, j3, rfl, ⟨rfl, (by subst hj4; subst hj2; trivial)⟩, by rw [ht]; exact hP, va_K.moved hW.alike hK, hD⟩, hS.F ht⟩) hS.2.2 d_ms_doInstruction_90
set_option maxHeartbeats 4000000 in
set_option maxRecDepth 100000 in
theorem c_do_1t (l : Launch) (D : va_G) (cs : Nat → ClassId) (ad : Nat → Nat) (sz : Nat) (u : Sg) (j : Jx)  (hs : sg_st u < 100) (hd : vp_in (jx_de j) 6) (hc : sp_dg (jx_ru j (jx_de j).toNatClampNeg) (jx_nd j (jx_de j).toNatClampNeg) = 1) (h1 : vp_in (jx_de j + 1) 6) (he : vp_in (sg_en u) 32) : Met l y_ms_doInstruction (Cond.code y_ms_doInstruction b_ms_doInstruction 1 (some .int) :: TB) { frames := 5, cells := 0, slots := 0, locals := 120 } (va_Pc [.ref (ad 0)] (xw_Pre D cs ad u j sz)) (va_Qi (fun (r : Int32) (j1 : Jx) => r = 0 ∧ jx_de j1 = jx_de j + 1 ∧ jx_nd j1 = (upd (upd (jx_nd j) (jx_de j).toNatClampNeg (jx_nd j (jx_de j).toNatClampNeg + 1 + 1)) (jx_de j + 1).toNatClampNeg 0) ∧ jx_ru j1 = vp_updL (jx_ru j) (jx_de j + 1).toNatClampNeg (sg_im u (sp_rm (sp_dg (jx_ru j (jx_de j).toNatClampNeg) (jx_nd j (jx_de j).toNatClampNeg + 1)) 8).toNatClampNeg)) (fun (j1 : Jx) t => xw_B D cs ad (va_A (xw ad cs u j) sz) ((fun v : Sg => ss_la v (sg_la v + 1)) (sp_no u (jx_de j + 1) (sp_di u (sp_rm (sp_dg (jx_ru j (jx_de j).toNatClampNeg) (jx_nd j (jx_de j).toNatClampNeg + 1)) 8)))) j1 t) (va_A (xw ad cs u j) sz)) 0 0 (va_A (xw ad cs u j) sz) := by
  refine Met.ofW (cc := b_ms_doInstruction) (maxL := 1) (ret := (some .int)) (by decide) rfl ?_
  intro p e s m args below meth c s₁ B hml hv
  obtain ⟨rfl, hsz, hP, hK, hD, hN⟩ := hv
  have hx := B.exec
  have hb := B.bytes
  have hret := B.returns
  have hts := atoms_spec (ws := Cond.code y_ms_doInstruction b_ms_doInstruction 1 (some .int) :: TB) B.pre
  have hT : ∀ w ∈ TB, w.before _ s = true := fun w h => hts w (List.mem_cons_of_mem _ h)
  have hown : s.vm.findClass "MeasuredStages" = some m.cls := findClass_of_methodNamed B.named
  have hlocks := B.notSynchronized
  subst hsz
  have hD := hD.self (sz := s.heap.size)
  generalize hAe : va_A (xw ad cs u j) s.heap.size = A at hD ⊢
  have hA : ∀ q : Nat, s.heap.size ≤ q → A q := fun q h => by rw [← hAe]; exact Or.inr h
  have hS : va_S A s.heap s.heap [] := va_S.rf
  have hl := lv_entry ([.ref (ad 0)]) (n := 1) (Nat.le_of_ble_eq_true rfl)
  rw [lg_entry_eq]
  generalize (lg_sl ([.ref (ad 0)]) ++ List.replicate (1 - (lg_sl ([.ref (ad 0)])).length) Slot.unset).toArray = ls at hl ⊢
  have hl : lv_has ls 1 [(0, .ref (ad 0))] := hl
  skip
  refine lv_aload_n hx hb d_ms_doInstruction_0 rfl (lv_at hl 0 rfl) ?_
  refine va_get (D := D) (ci := 0) (v := .int (sg_st u)) (C := "MeasuredStages") (T := F_ms) (N := 12) hx hb hts (fun w h => List.mem_cons_of_mem _ (i_ms w h)) hown hK hP 0 rfl rfl 11 (by decide) (hT _ tb_80) (fun _ h9 => h9) rfl d_ms_doInstruction_1 ?_
  refine lv_bipush (v := 100) hx hb d_ms_doInstruction_4 (by decide) ?_
  refine lv_icmp_lt hx hb d_ms_doInstruction_6 (tgt := 11) (by decide) (fun _ => ?_) (fun z => absurd hs z)
  refine lv_aload_n hx hb d_ms_doInstruction_11 rfl (lv_at hl 0 rfl) ?_
  refine xw_wri (v := sp_dg (jx_ru j (jx_de j).toNatClampNeg) (jx_nd j (jx_de j).toNatClampNeg)) (u' := u) (As := []) (rest := []) ⟨hx, hb, hml, hown, hts⟩ (c_ms_takeDigit l D cs ad _ u j  hd) tb_272 tb_274 sl_7 tb_1 tb_275 ⟨rfl, hd_ms_takeDigit⟩ ⟨Nat.le_of_ble_eq_true rfl, Nat.le_of_ble_eq_true rfl⟩ rfl rfl hK hP hD hN 0 0 rfl rfl hl.1 rfl (Nat.le_of_ble_eq_true rfl) d_ms_doInstruction_12 ⟨Nat.zero_le _, Nat.zero_le _⟩ hS hA (fun j1 H locs hj2 hP hD hS => ?_)
  refine W.eq (g2 := F0 m 15 ls (.int 1 :: [])) (by rw [hc]) ?_
  refine lv_tableIn hx hb d_ms_doInstruction_15 (off := 61) (tgt := 76) (by decide) (by decide) rfl (by decide) ?_
  refine lv_aload_n hx hb d_ms_doInstruction_76 rfl (lv_at hl 0 rfl) ?_
  refine lv_aload_n hx hb d_ms_doInstruction_77 rfl (lv_at hl 0 rfl) ?_
  refine va_get (D := D) (ci := 0) (v := .int (jx_de j1)) (C := "MeasuredStages") (T := F_ms) (N := 12) hx hb hts (fun w h => List.mem_cons_of_mem _ (i_ms w h)) hown hK hP 0 rfl rfl 7 (by decide) (hT _ tb_76) (fun _ h9 => h9) rfl d_ms_doInstruction_78 ?_
  refine lv_iconst (v := 1) hx hb d_ms_doInstruction_81 (by decide) ?_
  refine lv_iadd hx hb d_ms_doInstruction_82 ?_
  refine lv_aload_n hx hb d_ms_doInstruction_83 rfl (lv_at hl 0 rfl) ?_
  refine xw_wri (v := sp_rm (sp_dg (jx_ru j1 (jx_de j1).toNatClampNeg) (jx_nd j1 (jx_de j1).toNatClampNeg)) 8) (u' := u) (As := []) (rest := [.int ((jx_de j1) + (1)), .ref (ad 0)]) ⟨hx, hb, hml, hown, hts⟩ (c_ms_takeImage l D cs ad _ u j1  (by subst hj2; exact hd)) tb_276 tb_278 sl_8 tb_1 tb_279 ⟨rfl, hd_ms_takeImage⟩ ⟨Nat.le_of_ble_eq_true rfl, Nat.le_of_ble_eq_true rfl⟩ rfl rfl hK hP hD hN 0 0 rfl rfl hl.1 rfl (Nat.le_of_ble_eq_true rfl) d_ms_doInstruction_84 ⟨Nat.zero_le _, Nat.zero_le _⟩ hS hA (fun j3 H locs hj4 hP hD hS => ?_)
  have hX5 : sp_dg (jx_ru j1 (jx_de j1).toNatClampNeg) (jx_nd j1 (jx_de j1).toNatClampNeg) = sp_dg (jx_ru j (jx_de j).toNatClampNeg) (jx_nd j (jx_de j).toNatClampNeg + 1) := by
    subst hj4
    subst hj2
    simp only [jx_nd, sx_nd, jx_de, sx_de, jx_ru, sx_ru, pk_us, up_uu]
  rw [hX5]
  rw [show jx_de j1 = jx_de j from (by subst hj4; subst hj2; rfl)]
  refine xw_wri (v := 0) (u' := (fun v : Sg => ss_la v (sg_la v + 1)) (sp_no u ((jx_de j) + (1)) (sp_di u (sp_rm (sp_dg (jx_ru j (jx_de j).toNatClampNeg) (jx_nd j (jx_de j).toNatClampNeg + 1)) 8)))) (As := [.int ((jx_de j) + (1)), .int (sp_rm (sp_dg (jx_ru j (jx_de j).toNatClampNeg) (jx_nd j (jx_de j).toNatClampNeg + 1)) 8)]) (rest := []) ⟨hx, hb, hml, hown, hts⟩ (c_ms_launchAt l D cs ad _ u j3 ((jx_de j) + (1)) (sp_rm (sp_dg (jx_ru j (jx_de j).toNatClampNeg) (jx_nd j (jx_de j).toNatClampNeg + 1)) 8) (by subst hj4; subst hj2; exact h1) (sp_rd8 _ _) (by subst hj4; subst hj2; exact he)) tb_252 tb_254 sl_3 tb_1 tb_255 ⟨rfl, hd_ms_launchAt⟩ ⟨Nat.le_of_ble_eq_true rfl, Nat.le_of_ble_eq_true rfl⟩ rfl rfl hK hP hD hN 0 0 rfl rfl hl.1 rfl (Nat.le_of_ble_eq_true rfl) d_ms_doInstruction_87 ⟨Nat.zero_le _, Nat.zero_le _⟩ hS hA (fun j6 H locs hj7 hP hD hS => ?_)
  obtain ⟨v8, ev8⟩ : ∃ z : Sg, z = (fun v : Sg => ss_la v (sg_la v + 1)) (sp_no u ((jx_de j) + (1)) (sp_di u (sp_rm (sp_dg (jx_ru j (jx_de j).toNatClampNeg) (jx_nd j (jx_de j).toNatClampNeg + 1)) 8))) := ⟨_, rfl⟩
  rw [← ev8] at hP hD
  subst ev8
  exact W.iret hx hb hret (fun t ht hW => ⟨⟨_, j6, rfl, ⟨rfl, (by subst hj7; subst hj4; subst hj2; exact ⟨rfl, by first | rfl | simp only [jx_nd, sx_nd, jx_de, sx_de, jx_ru, sx_ru, pk_us, up_uu], rfl⟩)⟩, by rw [ht]; exact hP, va_K.moved hW.alike hK, hD⟩, hS.F ht⟩) hS.2.2 d_ms_doInstruction_90
set_option maxHeartbeats 4000000 in
set_option maxRecDepth 100000 in
theorem c_do_2f (l : Launch) (D : va_G) (cs : Nat → ClassId) (ad : Nat → Nat) (sz : Nat) (u : Sg) (j : Jx)  (hs : sg_st u < 100) (hd : vp_in (jx_de j) 6) (hc : sp_dg (jx_ru j (jx_de j).toNatClampNeg) (jx_nd j (jx_de j).toNatClampNeg) = 2) (he : sg_en u = 32) : Met l y_ms_doInstruction (Cond.code y_ms_doInstruction b_ms_doInstruction 1 (some .int) :: TB) { frames := 5, cells := 0, slots := 0, locals := 120 } (va_Pc [.ref (ad 0)] (xw_Pre D cs ad u j sz)) (va_Qi (fun (r : Int32) (j1 : Jx) => r = 4 ∧ True) (fun (j1 : Jx) t => xw_B D cs ad (va_A (xw ad cs u j) sz) u j1 t) (va_A (xw ad cs u j) sz)) 0 0 (va_A (xw ad cs u j) sz) := by
  refine Met.ofW (cc := b_ms_doInstruction) (maxL := 1) (ret := (some .int)) (by decide) rfl ?_
  intro p e s m args below meth c s₁ B hml hv
  obtain ⟨rfl, hsz, hP, hK, hD, hN⟩ := hv
  have hx := B.exec
  have hb := B.bytes
  have hret := B.returns
  have hts := atoms_spec (ws := Cond.code y_ms_doInstruction b_ms_doInstruction 1 (some .int) :: TB) B.pre
  have hT : ∀ w ∈ TB, w.before _ s = true := fun w h => hts w (List.mem_cons_of_mem _ h)
  have hown : s.vm.findClass "MeasuredStages" = some m.cls := findClass_of_methodNamed B.named
  have hlocks := B.notSynchronized
  subst hsz
  have hD := hD.self (sz := s.heap.size)
  generalize hAe : va_A (xw ad cs u j) s.heap.size = A at hD ⊢
  have hA : ∀ q : Nat, s.heap.size ≤ q → A q := fun q h => by rw [← hAe]; exact Or.inr h
  have hS : va_S A s.heap s.heap [] := va_S.rf
  have hl := lv_entry ([.ref (ad 0)]) (n := 1) (Nat.le_of_ble_eq_true rfl)
  rw [lg_entry_eq]
  generalize (lg_sl ([.ref (ad 0)]) ++ List.replicate (1 - (lg_sl ([.ref (ad 0)])).length) Slot.unset).toArray = ls at hl ⊢
  have hl : lv_has ls 1 [(0, .ref (ad 0))] := hl
  skip
  refine lv_aload_n hx hb d_ms_doInstruction_0 rfl (lv_at hl 0 rfl) ?_
  refine va_get (D := D) (ci := 0) (v := .int (sg_st u)) (C := "MeasuredStages") (T := F_ms) (N := 12) hx hb hts (fun w h => List.mem_cons_of_mem _ (i_ms w h)) hown hK hP 0 rfl rfl 11 (by decide) (hT _ tb_80) (fun _ h9 => h9) rfl d_ms_doInstruction_1 ?_
  refine lv_bipush (v := 100) hx hb d_ms_doInstruction_4 (by decide) ?_
  refine lv_icmp_lt hx hb d_ms_doInstruction_6 (tgt := 11) (by decide) (fun _ => ?_) (fun z => absurd hs z)
  refine lv_aload_n hx hb d_ms_doInstruction_11 rfl (lv_at hl 0 rfl) ?_
  refine xw_wri (v := sp_dg (jx_ru j (jx_de j).toNatClampNeg) (jx_nd j (jx_de j).toNatClampNeg)) (u' := u) (As := []) (rest := []) ⟨hx, hb, hml, hown, hts⟩ (c_ms_takeDigit l D cs ad _ u j  hd) tb_272 tb_274 sl_7 tb_1 tb_275 ⟨rfl, hd_ms_takeDigit⟩ ⟨Nat.le_of_ble_eq_true rfl, Nat.le_of_ble_eq_true rfl⟩ rfl rfl hK hP hD hN 0 0 rfl rfl hl.1 rfl (Nat.le_of_ble_eq_true rfl) d_ms_doInstruction_12 ⟨Nat.zero_le _, Nat.zero_le _⟩ hS hA (fun j1 H locs hj2 hP hD hS => ?_)
  refine W.eq (g2 := F0 m 15 ls (.int 2 :: [])) (by rw [hc]) ?_
  refine lv_tableIn hx hb d_ms_doInstruction_15 (off := 76) (tgt := 91) (by decide) (by decide) rfl (by decide) ?_
  refine lv_aload_n hx hb d_ms_doInstruction_91 rfl (lv_at hl 0 rfl) ?_
  refine lv_aload_n hx hb d_ms_doInstruction_92 rfl (lv_at hl 0 rfl) ?_
  refine xw_wri (v := sp_rm (sp_dg (jx_ru j1 (jx_de j1).toNatClampNeg) (jx_nd j1 (jx_de j1).toNatClampNeg)) 6) (u' := u) (As := []) (rest := [.ref (ad 0)]) ⟨hx, hb, hml, hown, hts⟩ (c_ms_takeRegister l D cs ad _ u j1  (by subst hj2; exact hd)) tb_280 tb_282 sl_9 tb_1 tb_283 ⟨rfl, hd_ms_takeRegister⟩ ⟨Nat.le_of_ble_eq_true rfl, Nat.le_of_ble_eq_true rfl⟩ rfl rfl hK hP hD hN 0 0 rfl rfl hl.1 rfl (Nat.le_of_ble_eq_true rfl) d_ms_doInstruction_93 ⟨Nat.zero_le _, Nat.zero_le _⟩ hS hA (fun j3 H locs hj4 hP hD hS => ?_)
  have hX5 : sp_dg (jx_ru j1 (jx_de j1).toNatClampNeg) (jx_nd j1 (jx_de j1).toNatClampNeg) = sp_dg (jx_ru j (jx_de j).toNatClampNeg) (jx_nd j (jx_de j).toNatClampNeg + 1) := by
    subst hj4
    subst hj2
    simp only [jx_nd, sx_nd, jx_de, sx_de, jx_ru, sx_ru, pk_us, up_uu]
  rw [hX5]
  refine lv_aload_n hx hb d_ms_doInstruction_96 rfl (lv_at hl 0 rfl) ?_
  refine xw_wri (v := sp_dg (jx_ru j3 (jx_de j3).toNatClampNeg) (jx_nd j3 (jx_de j3).toNatClampNeg)) (u' := u) (As := []) (rest := [.int (sp_rm (sp_dg (jx_ru j (jx_de j).toNatClampNeg) (jx_nd j (jx_de j).toNatClampNeg + 1)) 6), .ref (ad 0)]) ⟨hx, hb, hml, hown, hts⟩ (c_ms_takeDigit l D cs ad _ u j3  (by subst hj4; subst hj2; exact hd)) tb_272 tb_274 sl_7 tb_1 tb_275 ⟨rfl, hd_ms_takeDigit⟩ ⟨Nat.le_of_ble_eq_true rfl, Nat.le_of_ble_eq_true rfl⟩ rfl rfl hK hP hD hN 0 0 rfl rfl hl.1 rfl (Nat.le_of_ble_eq_true rfl) d_ms_doInstruction_97 ⟨Nat.zero_le _, Nat.zero_le _⟩ hS hA (fun j6 H locs hj7 hP hD hS => ?_)
  have hX8 : sp_dg (jx_ru j3 (jx_de j3).toNatClampNeg) (jx_nd j3 (jx_de j3).toNatClampNeg) = sp_dg (jx_ru j (jx_de j).toNatClampNeg) (jx_nd j (jx_de j).toNatClampNeg + 1 + 1) := by
    subst hj7
    subst hj4
    subst hj2
    simp only [jx_nd, sx_nd, jx_de, sx_de, jx_ru, sx_ru, pk_us, up_uu]
  rw [hX8]
  refine lv_i2l hx hb d_ms_doInstruction_100 rfl ?_
  refine xw_rdi (v := 4) (As := [.int (sp_rm (sp_dg (jx_ru j (jx_de j).toNatClampNeg) (jx_nd j (jx_de j).toNatClampNeg + 1)) 6), .long ((sp_dg (jx_ru j (jx_de j).toNatClampNeg) (jx_nd j (jx_de j).toNatClampNeg + 1 + 1)).toInt64)]) (rest := []) ⟨hx, hb, hml, hown, hts⟩ (c_ms_extendOrFault_f l D cs ad _ u j6 (sp_rm (sp_dg (jx_ru j (jx_de j).toNatClampNeg) (jx_nd j (jx_de j).toNatClampNeg + 1)) 6) ((sp_dg (jx_ru j (jx_de j).toNatClampNeg) (jx_nd j (jx_de j).toNatClampNeg + 1 + 1)).toInt64) (by subst hj7; subst hj4; subst hj2; exact he)) tb_256 tb_258 sl_4 tb_1 tb_259 ⟨rfl, hd_ms_extendOrFault⟩ ⟨Nat.le_of_ble_eq_true rfl, Nat.le_of_ble_eq_true rfl⟩ rfl rfl hK hP hD hN 0 0 rfl rfl hl.1 rfl (Nat.le_of_ble_eq_true rfl) d_ms_doInstruction_101 ⟨Nat.zero_le _, Nat.zero_le _⟩ ?_
  exact W.iret hx hb hret (fun t ht hW => ⟨⟨_, j6, rfl, ⟨rfl, (by subst hj7; subst hj4; subst hj2; trivial)⟩, by rw [ht]; exact hP, va_K.moved hW.alike hK, hD⟩, hS.F ht⟩) hS.2.2 d_ms_doInstruction_104
set_option maxHeartbeats 4000000 in
set_option maxRecDepth 100000 in
theorem c_do_2t (l : Launch) (D : va_G) (cs : Nat → ClassId) (ad : Nat → Nat) (sz : Nat) (u : Sg) (j : Jx)  (hs : sg_st u < 100) (hd : vp_in (jx_de j) 6) (hc : sp_dg (jx_ru j (jx_de j).toNatClampNeg) (jx_nd j (jx_de j).toNatClampNeg) = 2) (he : vp_in (sg_en u) 32) : Met l y_ms_doInstruction (Cond.code y_ms_doInstruction b_ms_doInstruction 1 (some .int) :: TB) { frames := 5, cells := 0, slots := 0, locals := 120 } (va_Pc [.ref (ad 0)] (xw_Pre D cs ad u j sz)) (va_Qi (fun (r : Int32) (j1 : Jx) => r = 0 ∧ jx_de j1 = jx_de j ∧ jx_nd j1 = (upd (jx_nd j) (jx_de j).toNatClampNeg (jx_nd j (jx_de j).toNatClampNeg + 1 + 1 + 1)) ∧ jx_ru j1 = jx_ru j) (fun (j1 : Jx) t => xw_B D cs ad (va_A (xw ad cs u j) sz) (sp_no u (sp_rm (sp_dg (jx_ru j (jx_de j).toNatClampNeg) (jx_nd j (jx_de j).toNatClampNeg + 1)) 6) (sp_dg (jx_ru j (jx_de j).toNatClampNeg) (jx_nd j (jx_de j).toNatClampNeg + 1 + 1)).toInt64) j1 t) (va_A (xw ad cs u j) sz)) 0 0 (va_A (xw ad cs u j) sz) := by
  refine Met.ofW (cc := b_ms_doInstruction) (maxL := 1) (ret := (some .int)) (by decide) rfl ?_
  intro p e s m args below meth c s₁ B hml hv
  obtain ⟨rfl, hsz, hP, hK, hD, hN⟩ := hv
  have hx := B.exec
  have hb := B.bytes
  have hret := B.returns
  have hts := atoms_spec (ws := Cond.code y_ms_doInstruction b_ms_doInstruction 1 (some .int) :: TB) B.pre
  have hT : ∀ w ∈ TB, w.before _ s = true := fun w h => hts w (List.mem_cons_of_mem _ h)
  have hown : s.vm.findClass "MeasuredStages" = some m.cls := findClass_of_methodNamed B.named
  have hlocks := B.notSynchronized
  subst hsz
  have hD := hD.self (sz := s.heap.size)
  generalize hAe : va_A (xw ad cs u j) s.heap.size = A at hD ⊢
  have hA : ∀ q : Nat, s.heap.size ≤ q → A q := fun q h => by rw [← hAe]; exact Or.inr h
  have hS : va_S A s.heap s.heap [] := va_S.rf
  have hl := lv_entry ([.ref (ad 0)]) (n := 1) (Nat.le_of_ble_eq_true rfl)
  rw [lg_entry_eq]
  generalize (lg_sl ([.ref (ad 0)]) ++ List.replicate (1 - (lg_sl ([.ref (ad 0)])).length) Slot.unset).toArray = ls at hl ⊢
  have hl : lv_has ls 1 [(0, .ref (ad 0))] := hl
  skip
  refine lv_aload_n hx hb d_ms_doInstruction_0 rfl (lv_at hl 0 rfl) ?_
  refine va_get (D := D) (ci := 0) (v := .int (sg_st u)) (C := "MeasuredStages") (T := F_ms) (N := 12) hx hb hts (fun w h => List.mem_cons_of_mem _ (i_ms w h)) hown hK hP 0 rfl rfl 11 (by decide) (hT _ tb_80) (fun _ h9 => h9) rfl d_ms_doInstruction_1 ?_
  refine lv_bipush (v := 100) hx hb d_ms_doInstruction_4 (by decide) ?_
  refine lv_icmp_lt hx hb d_ms_doInstruction_6 (tgt := 11) (by decide) (fun _ => ?_) (fun z => absurd hs z)
  refine lv_aload_n hx hb d_ms_doInstruction_11 rfl (lv_at hl 0 rfl) ?_
  refine xw_wri (v := sp_dg (jx_ru j (jx_de j).toNatClampNeg) (jx_nd j (jx_de j).toNatClampNeg)) (u' := u) (As := []) (rest := []) ⟨hx, hb, hml, hown, hts⟩ (c_ms_takeDigit l D cs ad _ u j  hd) tb_272 tb_274 sl_7 tb_1 tb_275 ⟨rfl, hd_ms_takeDigit⟩ ⟨Nat.le_of_ble_eq_true rfl, Nat.le_of_ble_eq_true rfl⟩ rfl rfl hK hP hD hN 0 0 rfl rfl hl.1 rfl (Nat.le_of_ble_eq_true rfl) d_ms_doInstruction_12 ⟨Nat.zero_le _, Nat.zero_le _⟩ hS hA (fun j1 H locs hj2 hP hD hS => ?_)
  refine W.eq (g2 := F0 m 15 ls (.int 2 :: [])) (by rw [hc]) ?_
  refine lv_tableIn hx hb d_ms_doInstruction_15 (off := 76) (tgt := 91) (by decide) (by decide) rfl (by decide) ?_
  refine lv_aload_n hx hb d_ms_doInstruction_91 rfl (lv_at hl 0 rfl) ?_
  refine lv_aload_n hx hb d_ms_doInstruction_92 rfl (lv_at hl 0 rfl) ?_
  refine xw_wri (v := sp_rm (sp_dg (jx_ru j1 (jx_de j1).toNatClampNeg) (jx_nd j1 (jx_de j1).toNatClampNeg)) 6) (u' := u) (As := []) (rest := [.ref (ad 0)]) ⟨hx, hb, hml, hown, hts⟩ (c_ms_takeRegister l D cs ad _ u j1  (by subst hj2; exact hd)) tb_280 tb_282 sl_9 tb_1 tb_283 ⟨rfl, hd_ms_takeRegister⟩ ⟨Nat.le_of_ble_eq_true rfl, Nat.le_of_ble_eq_true rfl⟩ rfl rfl hK hP hD hN 0 0 rfl rfl hl.1 rfl (Nat.le_of_ble_eq_true rfl) d_ms_doInstruction_93 ⟨Nat.zero_le _, Nat.zero_le _⟩ hS hA (fun j3 H locs hj4 hP hD hS => ?_)
  have hX5 : sp_dg (jx_ru j1 (jx_de j1).toNatClampNeg) (jx_nd j1 (jx_de j1).toNatClampNeg) = sp_dg (jx_ru j (jx_de j).toNatClampNeg) (jx_nd j (jx_de j).toNatClampNeg + 1) := by
    subst hj4
    subst hj2
    simp only [jx_nd, sx_nd, jx_de, sx_de, jx_ru, sx_ru, pk_us, up_uu]
  rw [hX5]
  refine lv_aload_n hx hb d_ms_doInstruction_96 rfl (lv_at hl 0 rfl) ?_
  refine xw_wri (v := sp_dg (jx_ru j3 (jx_de j3).toNatClampNeg) (jx_nd j3 (jx_de j3).toNatClampNeg)) (u' := u) (As := []) (rest := [.int (sp_rm (sp_dg (jx_ru j (jx_de j).toNatClampNeg) (jx_nd j (jx_de j).toNatClampNeg + 1)) 6), .ref (ad 0)]) ⟨hx, hb, hml, hown, hts⟩ (c_ms_takeDigit l D cs ad _ u j3  (by subst hj4; subst hj2; exact hd)) tb_272 tb_274 sl_7 tb_1 tb_275 ⟨rfl, hd_ms_takeDigit⟩ ⟨Nat.le_of_ble_eq_true rfl, Nat.le_of_ble_eq_true rfl⟩ rfl rfl hK hP hD hN 0 0 rfl rfl hl.1 rfl (Nat.le_of_ble_eq_true rfl) d_ms_doInstruction_97 ⟨Nat.zero_le _, Nat.zero_le _⟩ hS hA (fun j6 H locs hj7 hP hD hS => ?_)
  have hX8 : sp_dg (jx_ru j3 (jx_de j3).toNatClampNeg) (jx_nd j3 (jx_de j3).toNatClampNeg) = sp_dg (jx_ru j (jx_de j).toNatClampNeg) (jx_nd j (jx_de j).toNatClampNeg + 1 + 1) := by
    subst hj7
    subst hj4
    subst hj2
    simp only [jx_nd, sx_nd, jx_de, sx_de, jx_ru, sx_ru, pk_us, up_uu]
  rw [hX8]
  refine lv_i2l hx hb d_ms_doInstruction_100 rfl ?_
  refine xw_wri (v := 0) (u' := sp_no u (sp_rm (sp_dg (jx_ru j (jx_de j).toNatClampNeg) (jx_nd j (jx_de j).toNatClampNeg + 1)) 6) ((sp_dg (jx_ru j (jx_de j).toNatClampNeg) (jx_nd j (jx_de j).toNatClampNeg + 1 + 1)).toInt64)) (As := [.int (sp_rm (sp_dg (jx_ru j (jx_de j).toNatClampNeg) (jx_nd j (jx_de j).toNatClampNeg + 1)) 6), .long ((sp_dg (jx_ru j (jx_de j).toNatClampNeg) (jx_nd j (jx_de j).toNatClampNeg + 1 + 1)).toInt64)]) (rest := []) ⟨hx, hb, hml, hown, hts⟩ (c_ms_extendOrFault l D cs ad _ u j6 (sp_rm (sp_dg (jx_ru j (jx_de j).toNatClampNeg) (jx_nd j (jx_de j).toNatClampNeg + 1)) 6) ((sp_dg (jx_ru j (jx_de j).toNatClampNeg) (jx_nd j (jx_de j).toNatClampNeg + 1 + 1)).toInt64) (sp_rd6 _ _) (by subst hj7; subst hj4; subst hj2; exact he)) tb_256 tb_258 sl_4 tb_1 tb_259 ⟨rfl, hd_ms_extendOrFault⟩ ⟨Nat.le_of_ble_eq_true rfl, Nat.le_of_ble_eq_true rfl⟩ rfl rfl hK hP hD hN 0 0 rfl rfl hl.1 rfl (Nat.le_of_ble_eq_true rfl) d_ms_doInstruction_101 ⟨Nat.zero_le _, Nat.zero_le _⟩ hS hA (fun j9 H locs hj10 hP hD hS => ?_)
  obtain ⟨v11, ev11⟩ : ∃ z : Sg, z = sp_no u (sp_rm (sp_dg (jx_ru j (jx_de j).toNatClampNeg) (jx_nd j (jx_de j).toNatClampNeg + 1)) 6) ((sp_dg (jx_ru j (jx_de j).toNatClampNeg) (jx_nd j (jx_de j).toNatClampNeg + 1 + 1)).toInt64) := ⟨_, rfl⟩
  rw [← ev11] at hP hD
  rw [hj10] at hP hD
  subst ev11
  exact W.iret hx hb hret (fun t ht hW => ⟨⟨_, j6, rfl, ⟨rfl, (by subst hj7; subst hj4; subst hj2; exact ⟨rfl, by first | rfl | simp only [jx_nd, sx_nd, jx_de, sx_de, jx_ru, sx_ru, pk_us, up_uu], rfl⟩)⟩, by rw [ht]; exact hP, va_K.moved hW.alike hK, hD⟩, hS.F ht⟩) hS.2.2 d_ms_doInstruction_104
set_option maxHeartbeats 4000000 in
set_option maxRecDepth 100000 in
theorem c_do_3f (l : Launch) (D : va_G) (cs : Nat → ClassId) (ad : Nat → Nat) (sz : Nat) (u : Sg) (j : Jx)  (hs : sg_st u < 100) (hd : vp_in (jx_de j) 6) (hc : sp_dg (jx_ru j (jx_de j).toNatClampNeg) (jx_nd j (jx_de j).toNatClampNeg) = 3) (h : sp_ia u (sp_rm (sp_dg (jx_ru j (jx_de j).toNatClampNeg) (jx_nd j (jx_de j).toNatClampNeg + 1)) 8) = 0) : Met l y_ms_doInstruction (Cond.code y_ms_doInstruction b_ms_doInstruction 1 (some .int) :: TB) { frames := 5, cells := 0, slots := 0, locals := 120 } (va_Pc [.ref (ad 0)] (xw_Pre D cs ad u j sz)) (va_Qi (fun (r : Int32) (j1 : Jx) => r = 5 ∧ True) (fun (j1 : Jx) t => xw_B D cs ad (va_A (xw ad cs u j) sz) u j1 t) (va_A (xw ad cs u j) sz)) 0 0 (va_A (xw ad cs u j) sz) := by
  refine Met.ofW (cc := b_ms_doInstruction) (maxL := 1) (ret := (some .int)) (by decide) rfl ?_
  intro p e s m args below meth c s₁ B hml hv
  obtain ⟨rfl, hsz, hP, hK, hD, hN⟩ := hv
  have hx := B.exec
  have hb := B.bytes
  have hret := B.returns
  have hts := atoms_spec (ws := Cond.code y_ms_doInstruction b_ms_doInstruction 1 (some .int) :: TB) B.pre
  have hT : ∀ w ∈ TB, w.before _ s = true := fun w h => hts w (List.mem_cons_of_mem _ h)
  have hown : s.vm.findClass "MeasuredStages" = some m.cls := findClass_of_methodNamed B.named
  have hlocks := B.notSynchronized
  subst hsz
  have hD := hD.self (sz := s.heap.size)
  generalize hAe : va_A (xw ad cs u j) s.heap.size = A at hD ⊢
  have hA : ∀ q : Nat, s.heap.size ≤ q → A q := fun q h => by rw [← hAe]; exact Or.inr h
  have hS : va_S A s.heap s.heap [] := va_S.rf
  have hl := lv_entry ([.ref (ad 0)]) (n := 1) (Nat.le_of_ble_eq_true rfl)
  rw [lg_entry_eq]
  generalize (lg_sl ([.ref (ad 0)]) ++ List.replicate (1 - (lg_sl ([.ref (ad 0)])).length) Slot.unset).toArray = ls at hl ⊢
  have hl : lv_has ls 1 [(0, .ref (ad 0))] := hl
  skip
  refine lv_aload_n hx hb d_ms_doInstruction_0 rfl (lv_at hl 0 rfl) ?_
  refine va_get (D := D) (ci := 0) (v := .int (sg_st u)) (C := "MeasuredStages") (T := F_ms) (N := 12) hx hb hts (fun w h => List.mem_cons_of_mem _ (i_ms w h)) hown hK hP 0 rfl rfl 11 (by decide) (hT _ tb_80) (fun _ h9 => h9) rfl d_ms_doInstruction_1 ?_
  refine lv_bipush (v := 100) hx hb d_ms_doInstruction_4 (by decide) ?_
  refine lv_icmp_lt hx hb d_ms_doInstruction_6 (tgt := 11) (by decide) (fun _ => ?_) (fun z => absurd hs z)
  refine lv_aload_n hx hb d_ms_doInstruction_11 rfl (lv_at hl 0 rfl) ?_
  refine xw_wri (v := sp_dg (jx_ru j (jx_de j).toNatClampNeg) (jx_nd j (jx_de j).toNatClampNeg)) (u' := u) (As := []) (rest := []) ⟨hx, hb, hml, hown, hts⟩ (c_ms_takeDigit l D cs ad _ u j  hd) tb_272 tb_274 sl_7 tb_1 tb_275 ⟨rfl, hd_ms_takeDigit⟩ ⟨Nat.le_of_ble_eq_true rfl, Nat.le_of_ble_eq_true rfl⟩ rfl rfl hK hP hD hN 0 0 rfl rfl hl.1 rfl (Nat.le_of_ble_eq_true rfl) d_ms_doInstruction_12 ⟨Nat.zero_le _, Nat.zero_le _⟩ hS hA (fun j1 H locs hj2 hP hD hS => ?_)
  refine W.eq (g2 := F0 m 15 ls (.int 3 :: [])) (by rw [hc]) ?_
  refine lv_tableIn hx hb d_ms_doInstruction_15 (off := 90) (tgt := 105) (by decide) (by decide) rfl (by decide) ?_
  refine lv_aload_n hx hb d_ms_doInstruction_105 rfl (lv_at hl 0 rfl) ?_
  refine lv_aload_n hx hb d_ms_doInstruction_106 rfl (lv_at hl 0 rfl) ?_
  refine xw_wri (v := sp_rm (sp_dg (jx_ru j1 (jx_de j1).toNatClampNeg) (jx_nd j1 (jx_de j1).toNatClampNeg)) 8) (u' := u) (As := []) (rest := [.ref (ad 0)]) ⟨hx, hb, hml, hown, hts⟩ (c_ms_takeImage l D cs ad _ u j1  (by subst hj2; exact hd)) tb_276 tb_278 sl_8 tb_1 tb_279 ⟨rfl, hd_ms_takeImage⟩ ⟨Nat.le_of_ble_eq_true rfl, Nat.le_of_ble_eq_true rfl⟩ rfl rfl hK hP hD hN 0 0 rfl rfl hl.1 rfl (Nat.le_of_ble_eq_true rfl) d_ms_doInstruction_107 ⟨Nat.zero_le _, Nat.zero_le _⟩ hS hA (fun j3 H locs hj4 hP hD hS => ?_)
  have hX5 : sp_dg (jx_ru j1 (jx_de j1).toNatClampNeg) (jx_nd j1 (jx_de j1).toNatClampNeg) = sp_dg (jx_ru j (jx_de j).toNatClampNeg) (jx_nd j (jx_de j).toNatClampNeg + 1) := by
    subst hj4
    subst hj2
    simp only [jx_nd, sx_nd, jx_de, sx_de, jx_ru, sx_ru, pk_us, up_uu]
  rw [hX5]
  refine xw_rdi (v := sp_ia u (sp_rm (sp_dg (jx_ru j (jx_de j).toNatClampNeg) (jx_nd j (jx_de j).toNatClampNeg + 1)) 8)) (As := [.int (sp_rm (sp_dg (jx_ru j (jx_de j).toNatClampNeg) (jx_nd j (jx_de j).toNatClampNeg + 1)) 8)]) (rest := []) ⟨hx, hb, hml, hown, hts⟩ (c_ms_isApproved l D cs ad _ u j3 (sp_rm (sp_dg (jx_ru j (jx_de j).toNatClampNeg) (jx_nd j (jx_de j).toNatClampNeg + 1)) 8) (sp_rd8 _ _)) tb_284 tb_286 sl_10 tb_1 tb_287 ⟨rfl, hd_ms_isApproved⟩ ⟨Nat.le_of_ble_eq_true rfl, Nat.le_of_ble_eq_true rfl⟩ rfl rfl hK hP hD hN 0 0 rfl rfl hl.1 rfl (Nat.le_of_ble_eq_true rfl) d_ms_doInstruction_110 ⟨Nat.zero_le _, Nat.zero_le _⟩ ?_
  refine lv_if_eq hx hb d_ms_doInstruction_113 (tgt := 120) (by decide) (fun _ => ?_) (fun z => absurd h z)
  refine lv_iconst (v := 5) hx hb d_ms_doInstruction_120 (by decide) ?_
  exact W.iret hx hb hret (fun t ht hW => ⟨⟨_, j3, rfl, ⟨rfl, (by subst hj4; subst hj2; trivial)⟩, by rw [ht]; exact hP, va_K.moved hW.alike hK, hD⟩, hS.F ht⟩) hS.2.2 d_ms_doInstruction_121
set_option maxHeartbeats 4000000 in
set_option maxRecDepth 100000 in
theorem c_do_3t (l : Launch) (D : va_G) (cs : Nat → ClassId) (ad : Nat → Nat) (sz : Nat) (u : Sg) (j : Jx)  (hs : sg_st u < 100) (hd : vp_in (jx_de j) 6) (hc : sp_dg (jx_ru j (jx_de j).toNatClampNeg) (jx_nd j (jx_de j).toNatClampNeg) = 3) (h : sp_ia u (sp_rm (sp_dg (jx_ru j (jx_de j).toNatClampNeg) (jx_nd j (jx_de j).toNatClampNeg + 1)) 8) = 1) : Met l y_ms_doInstruction (Cond.code y_ms_doInstruction b_ms_doInstruction 1 (some .int) :: TB) { frames := 5, cells := 0, slots := 0, locals := 120 } (va_Pc [.ref (ad 0)] (xw_Pre D cs ad u j sz)) (va_Qi (fun (r : Int32) (j1 : Jx) => r = 0 ∧ jx_de j1 = jx_de j ∧ jx_nd j1 = (upd (jx_nd j) (jx_de j).toNatClampNeg (jx_nd j (jx_de j).toNatClampNeg + 1 + 1)) ∧ jx_ru j1 = jx_ru j) (fun (j1 : Jx) t => xw_B D cs ad (va_A (xw ad cs u j) sz) u j1 t) (va_A (xw ad cs u j) sz)) 0 0 (va_A (xw ad cs u j) sz) := by
  refine Met.ofW (cc := b_ms_doInstruction) (maxL := 1) (ret := (some .int)) (by decide) rfl ?_
  intro p e s m args below meth c s₁ B hml hv
  obtain ⟨rfl, hsz, hP, hK, hD, hN⟩ := hv
  have hx := B.exec
  have hb := B.bytes
  have hret := B.returns
  have hts := atoms_spec (ws := Cond.code y_ms_doInstruction b_ms_doInstruction 1 (some .int) :: TB) B.pre
  have hT : ∀ w ∈ TB, w.before _ s = true := fun w h => hts w (List.mem_cons_of_mem _ h)
  have hown : s.vm.findClass "MeasuredStages" = some m.cls := findClass_of_methodNamed B.named
  have hlocks := B.notSynchronized
  subst hsz
  have hD := hD.self (sz := s.heap.size)
  generalize hAe : va_A (xw ad cs u j) s.heap.size = A at hD ⊢
  have hA : ∀ q : Nat, s.heap.size ≤ q → A q := fun q h => by rw [← hAe]; exact Or.inr h
  have hS : va_S A s.heap s.heap [] := va_S.rf
  have hl := lv_entry ([.ref (ad 0)]) (n := 1) (Nat.le_of_ble_eq_true rfl)
  rw [lg_entry_eq]
  generalize (lg_sl ([.ref (ad 0)]) ++ List.replicate (1 - (lg_sl ([.ref (ad 0)])).length) Slot.unset).toArray = ls at hl ⊢
  have hl : lv_has ls 1 [(0, .ref (ad 0))] := hl
  skip
  refine lv_aload_n hx hb d_ms_doInstruction_0 rfl (lv_at hl 0 rfl) ?_
  refine va_get (D := D) (ci := 0) (v := .int (sg_st u)) (C := "MeasuredStages") (T := F_ms) (N := 12) hx hb hts (fun w h => List.mem_cons_of_mem _ (i_ms w h)) hown hK hP 0 rfl rfl 11 (by decide) (hT _ tb_80) (fun _ h9 => h9) rfl d_ms_doInstruction_1 ?_
  refine lv_bipush (v := 100) hx hb d_ms_doInstruction_4 (by decide) ?_
  refine lv_icmp_lt hx hb d_ms_doInstruction_6 (tgt := 11) (by decide) (fun _ => ?_) (fun z => absurd hs z)
  refine lv_aload_n hx hb d_ms_doInstruction_11 rfl (lv_at hl 0 rfl) ?_
  refine xw_wri (v := sp_dg (jx_ru j (jx_de j).toNatClampNeg) (jx_nd j (jx_de j).toNatClampNeg)) (u' := u) (As := []) (rest := []) ⟨hx, hb, hml, hown, hts⟩ (c_ms_takeDigit l D cs ad _ u j  hd) tb_272 tb_274 sl_7 tb_1 tb_275 ⟨rfl, hd_ms_takeDigit⟩ ⟨Nat.le_of_ble_eq_true rfl, Nat.le_of_ble_eq_true rfl⟩ rfl rfl hK hP hD hN 0 0 rfl rfl hl.1 rfl (Nat.le_of_ble_eq_true rfl) d_ms_doInstruction_12 ⟨Nat.zero_le _, Nat.zero_le _⟩ hS hA (fun j1 H locs hj2 hP hD hS => ?_)
  refine W.eq (g2 := F0 m 15 ls (.int 3 :: [])) (by rw [hc]) ?_
  refine lv_tableIn hx hb d_ms_doInstruction_15 (off := 90) (tgt := 105) (by decide) (by decide) rfl (by decide) ?_
  refine lv_aload_n hx hb d_ms_doInstruction_105 rfl (lv_at hl 0 rfl) ?_
  refine lv_aload_n hx hb d_ms_doInstruction_106 rfl (lv_at hl 0 rfl) ?_
  refine xw_wri (v := sp_rm (sp_dg (jx_ru j1 (jx_de j1).toNatClampNeg) (jx_nd j1 (jx_de j1).toNatClampNeg)) 8) (u' := u) (As := []) (rest := [.ref (ad 0)]) ⟨hx, hb, hml, hown, hts⟩ (c_ms_takeImage l D cs ad _ u j1  (by subst hj2; exact hd)) tb_276 tb_278 sl_8 tb_1 tb_279 ⟨rfl, hd_ms_takeImage⟩ ⟨Nat.le_of_ble_eq_true rfl, Nat.le_of_ble_eq_true rfl⟩ rfl rfl hK hP hD hN 0 0 rfl rfl hl.1 rfl (Nat.le_of_ble_eq_true rfl) d_ms_doInstruction_107 ⟨Nat.zero_le _, Nat.zero_le _⟩ hS hA (fun j3 H locs hj4 hP hD hS => ?_)
  have hX5 : sp_dg (jx_ru j1 (jx_de j1).toNatClampNeg) (jx_nd j1 (jx_de j1).toNatClampNeg) = sp_dg (jx_ru j (jx_de j).toNatClampNeg) (jx_nd j (jx_de j).toNatClampNeg + 1) := by
    subst hj4
    subst hj2
    simp only [jx_nd, sx_nd, jx_de, sx_de, jx_ru, sx_ru, pk_us, up_uu]
  rw [hX5]
  refine xw_rdi (v := sp_ia u (sp_rm (sp_dg (jx_ru j (jx_de j).toNatClampNeg) (jx_nd j (jx_de j).toNatClampNeg + 1)) 8)) (As := [.int (sp_rm (sp_dg (jx_ru j (jx_de j).toNatClampNeg) (jx_nd j (jx_de j).toNatClampNeg + 1)) 8)]) (rest := []) ⟨hx, hb, hml, hown, hts⟩ (c_ms_isApproved l D cs ad _ u j3 (sp_rm (sp_dg (jx_ru j (jx_de j).toNatClampNeg) (jx_nd j (jx_de j).toNatClampNeg + 1)) 8) (sp_rd8 _ _)) tb_284 tb_286 sl_10 tb_1 tb_287 ⟨rfl, hd_ms_isApproved⟩ ⟨Nat.le_of_ble_eq_true rfl, Nat.le_of_ble_eq_true rfl⟩ rfl rfl hK hP hD hN 0 0 rfl rfl hl.1 rfl (Nat.le_of_ble_eq_true rfl) d_ms_doInstruction_110 ⟨Nat.zero_le _, Nat.zero_le _⟩ ?_
  refine lv_if_eq hx hb d_ms_doInstruction_113 (tgt := 120) (by decide) (fun z => absurd z (by rw [h]; decide)) (fun _ => ?_)
  refine lv_iconst (v := 0) hx hb d_ms_doInstruction_116 (by decide) ?_
  refine lv_goto hx hb d_ms_doInstruction_117 (tgt := 121) (by decide) ?_
  exact W.iret hx hb hret (fun t ht hW => ⟨⟨_, j3, rfl, ⟨rfl, (by subst hj4; subst hj2; exact ⟨rfl, by first | rfl | simp only [jx_nd, sx_nd, jx_de, sx_de, jx_ru, sx_ru, pk_us, up_uu], rfl⟩)⟩, by rw [ht]; exact hP, va_K.moved hW.alike hK, hD⟩, hS.F ht⟩) hS.2.2 d_ms_doInstruction_121
set_option maxHeartbeats 4000000 in
set_option maxRecDepth 100000 in
theorem c_do_4m (l : Launch) (D : va_G) (cs : Nat → ClassId) (ad : Nat → Nat) (sz : Nat) (u : Sg) (j : Jx)  (hs : sg_st u < 100) (hd : vp_in (jx_de j) 6) (hc : sp_dg (jx_ru j (jx_de j).toNatClampNeg) (jx_nd j (jx_de j).toNatClampNeg) = 4) (h0 : sp_tk (sg_ma u) (sp_rm (sp_dg (jx_ru j (jx_de j).toNatClampNeg) (jx_nd j (jx_de j).toNatClampNeg + 1)) 8) = 0) : Met l y_ms_doInstruction (Cond.code y_ms_doInstruction b_ms_doInstruction 1 (some .int) :: TB) { frames := 5, cells := 0, slots := 0, locals := 120 } (va_Pc [.ref (ad 0)] (xw_Pre D cs ad u j sz)) (va_Qi (fun (r : Int32) (j1 : Jx) => r = 6 ∧ True) (fun (j1 : Jx) t => xw_B D cs ad (va_A (xw ad cs u j) sz) u j1 t) (va_A (xw ad cs u j) sz)) 0 0 (va_A (xw ad cs u j) sz) := by
  refine Met.ofW (cc := b_ms_doInstruction) (maxL := 1) (ret := (some .int)) (by decide) rfl ?_
  intro p e s m args below meth c s₁ B hml hv
  obtain ⟨rfl, hsz, hP, hK, hD, hN⟩ := hv
  have hx := B.exec
  have hb := B.bytes
  have hret := B.returns
  have hts := atoms_spec (ws := Cond.code y_ms_doInstruction b_ms_doInstruction 1 (some .int) :: TB) B.pre
  have hT : ∀ w ∈ TB, w.before _ s = true := fun w h => hts w (List.mem_cons_of_mem _ h)
  have hown : s.vm.findClass "MeasuredStages" = some m.cls := findClass_of_methodNamed B.named
  have hlocks := B.notSynchronized
  subst hsz
  have hD := hD.self (sz := s.heap.size)
  generalize hAe : va_A (xw ad cs u j) s.heap.size = A at hD ⊢
  have hA : ∀ q : Nat, s.heap.size ≤ q → A q := fun q h => by rw [← hAe]; exact Or.inr h
  have hS : va_S A s.heap s.heap [] := va_S.rf
  have hl := lv_entry ([.ref (ad 0)]) (n := 1) (Nat.le_of_ble_eq_true rfl)
  rw [lg_entry_eq]
  generalize (lg_sl ([.ref (ad 0)]) ++ List.replicate (1 - (lg_sl ([.ref (ad 0)])).length) Slot.unset).toArray = ls at hl ⊢
  have hl : lv_has ls 1 [(0, .ref (ad 0))] := hl
  skip
  refine lv_aload_n hx hb d_ms_doInstruction_0 rfl (lv_at hl 0 rfl) ?_
  refine va_get (D := D) (ci := 0) (v := .int (sg_st u)) (C := "MeasuredStages") (T := F_ms) (N := 12) hx hb hts (fun w h => List.mem_cons_of_mem _ (i_ms w h)) hown hK hP 0 rfl rfl 11 (by decide) (hT _ tb_80) (fun _ h9 => h9) rfl d_ms_doInstruction_1 ?_
  refine lv_bipush (v := 100) hx hb d_ms_doInstruction_4 (by decide) ?_
  refine lv_icmp_lt hx hb d_ms_doInstruction_6 (tgt := 11) (by decide) (fun _ => ?_) (fun z => absurd hs z)
  refine lv_aload_n hx hb d_ms_doInstruction_11 rfl (lv_at hl 0 rfl) ?_
  refine xw_wri (v := sp_dg (jx_ru j (jx_de j).toNatClampNeg) (jx_nd j (jx_de j).toNatClampNeg)) (u' := u) (As := []) (rest := []) ⟨hx, hb, hml, hown, hts⟩ (c_ms_takeDigit l D cs ad _ u j  hd) tb_272 tb_274 sl_7 tb_1 tb_275 ⟨rfl, hd_ms_takeDigit⟩ ⟨Nat.le_of_ble_eq_true rfl, Nat.le_of_ble_eq_true rfl⟩ rfl rfl hK hP hD hN 0 0 rfl rfl hl.1 rfl (Nat.le_of_ble_eq_true rfl) d_ms_doInstruction_12 ⟨Nat.zero_le _, Nat.zero_le _⟩ hS hA (fun j1 H locs hj2 hP hD hS => ?_)
  refine W.eq (g2 := F0 m 15 ls (.int 4 :: [])) (by rw [hc]) ?_
  refine lv_tableIn hx hb d_ms_doInstruction_15 (off := 107) (tgt := 122) (by decide) (by decide) rfl (by decide) ?_
  refine lv_aload_n hx hb d_ms_doInstruction_122 rfl (lv_at hl 0 rfl) ?_
  refine lv_aload_n hx hb d_ms_doInstruction_123 rfl (lv_at hl 0 rfl) ?_
  refine xw_wri (v := sp_dg (jx_ru j1 (jx_de j1).toNatClampNeg) (jx_nd j1 (jx_de j1).toNatClampNeg)) (u' := u) (As := []) (rest := [.ref (ad 0)]) ⟨hx, hb, hml, hown, hts⟩ (c_ms_takeDigit l D cs ad _ u j1  (by subst hj2; exact hd)) tb_272 tb_274 sl_7 tb_1 tb_275 ⟨rfl, hd_ms_takeDigit⟩ ⟨Nat.le_of_ble_eq_true rfl, Nat.le_of_ble_eq_true rfl⟩ rfl rfl hK hP hD hN 0 0 rfl rfl hl.1 rfl (Nat.le_of_ble_eq_true rfl) d_ms_doInstruction_124 ⟨Nat.zero_le _, Nat.zero_le _⟩ hS hA (fun j3 H locs hj4 hP hD hS => ?_)
  have hX5 : sp_dg (jx_ru j1 (jx_de j1).toNatClampNeg) (jx_nd j1 (jx_de j1).toNatClampNeg) = sp_dg (jx_ru j (jx_de j).toNatClampNeg) (jx_nd j (jx_de j).toNatClampNeg + 1) := by
    subst hj4
    subst hj2
    simp only [jx_nd, sx_nd, jx_de, sx_de, jx_ru, sx_ru, pk_us, up_uu]
  rw [hX5]
  refine lv_bipush (v := 8) hx hb d_ms_doInstruction_127 (by decide) ?_
  refine lv_irem hx hb d_ms_doInstruction_129 (by decide) ?_
  refine xw_rdi (v := 6) (As := [.int (sp_rm (sp_dg (jx_ru j (jx_de j).toNatClampNeg) (jx_nd j (jx_de j).toNatClampNeg + 1)) (8))]) (rest := []) ⟨hx, hb, hml, hown, hts⟩ (c_ms_loadSecret_m l D cs ad _ u j3 (sp_rm (sp_dg (jx_ru j (jx_de j).toNatClampNeg) (jx_nd j (jx_de j).toNatClampNeg + 1)) (8)) h0) tb_288 tb_290 sl_11 tb_1 tb_291 ⟨rfl, hd_ms_loadSecret⟩ ⟨Nat.le_of_ble_eq_true rfl, Nat.le_of_ble_eq_true rfl⟩ rfl rfl hK hP hD hN 0 0 rfl rfl hl.1 rfl (Nat.le_of_ble_eq_true rfl) d_ms_doInstruction_130 ⟨Nat.zero_le _, Nat.zero_le _⟩ ?_
  exact W.iret hx hb hret (fun t ht hW => ⟨⟨_, j3, rfl, ⟨rfl, (by subst hj4; subst hj2; trivial)⟩, by rw [ht]; exact hP, va_K.moved hW.alike hK, hD⟩, hS.F ht⟩) hS.2.2 d_ms_doInstruction_133
set_option maxHeartbeats 4000000 in
set_option maxRecDepth 100000 in
theorem c_do_4s (l : Launch) (D : va_G) (cs : Nat → ClassId) (ad : Nat → Nat) (sz : Nat) (u : Sg) (j : Jx)  (hs : sg_st u < 100) (hd : vp_in (jx_de j) 6) (hc : sp_dg (jx_ru j (jx_de j).toNatClampNeg) (jx_nd j (jx_de j).toNatClampNeg) = 4) (h0 : sp_tk (sg_ma u) (sp_rm (sp_dg (jx_ru j (jx_de j).toNatClampNeg) (jx_nd j (jx_de j).toNatClampNeg + 1)) 8) = 1) (h1 : sp_on u (sp_rm (sp_dg (jx_ru j (jx_de j).toNatClampNeg) (jx_nd j (jx_de j).toNatClampNeg + 1)) 8) = 0) : Met l y_ms_doInstruction (Cond.code y_ms_doInstruction b_ms_doInstruction 1 (some .int) :: TB) { frames := 5, cells := 0, slots := 0, locals := 120 } (va_Pc [.ref (ad 0)] (xw_Pre D cs ad u j sz)) (va_Qi (fun (r : Int32) (j1 : Jx) => r = 7 ∧ True) (fun (j1 : Jx) t => xw_B D cs ad (va_A (xw ad cs u j) sz) u j1 t) (va_A (xw ad cs u j) sz)) 0 0 (va_A (xw ad cs u j) sz) := by
  refine Met.ofW (cc := b_ms_doInstruction) (maxL := 1) (ret := (some .int)) (by decide) rfl ?_
  intro p e s m args below meth c s₁ B hml hv
  obtain ⟨rfl, hsz, hP, hK, hD, hN⟩ := hv
  have hx := B.exec
  have hb := B.bytes
  have hret := B.returns
  have hts := atoms_spec (ws := Cond.code y_ms_doInstruction b_ms_doInstruction 1 (some .int) :: TB) B.pre
  have hT : ∀ w ∈ TB, w.before _ s = true := fun w h => hts w (List.mem_cons_of_mem _ h)
  have hown : s.vm.findClass "MeasuredStages" = some m.cls := findClass_of_methodNamed B.named
  have hlocks := B.notSynchronized
  subst hsz
  have hD := hD.self (sz := s.heap.size)
  generalize hAe : va_A (xw ad cs u j) s.heap.size = A at hD ⊢
  have hA : ∀ q : Nat, s.heap.size ≤ q → A q := fun q h => by rw [← hAe]; exact Or.inr h
  have hS : va_S A s.heap s.heap [] := va_S.rf
  have hl := lv_entry ([.ref (ad 0)]) (n := 1) (Nat.le_of_ble_eq_true rfl)
  rw [lg_entry_eq]
  generalize (lg_sl ([.ref (ad 0)]) ++ List.replicate (1 - (lg_sl ([.ref (ad 0)])).length) Slot.unset).toArray = ls at hl ⊢
  have hl : lv_has ls 1 [(0, .ref (ad 0))] := hl
  skip
  refine lv_aload_n hx hb d_ms_doInstruction_0 rfl (lv_at hl 0 rfl) ?_
  refine va_get (D := D) (ci := 0) (v := .int (sg_st u)) (C := "MeasuredStages") (T := F_ms) (N := 12) hx hb hts (fun w h => List.mem_cons_of_mem _ (i_ms w h)) hown hK hP 0 rfl rfl 11 (by decide) (hT _ tb_80) (fun _ h9 => h9) rfl d_ms_doInstruction_1 ?_
  refine lv_bipush (v := 100) hx hb d_ms_doInstruction_4 (by decide) ?_
  refine lv_icmp_lt hx hb d_ms_doInstruction_6 (tgt := 11) (by decide) (fun _ => ?_) (fun z => absurd hs z)
  refine lv_aload_n hx hb d_ms_doInstruction_11 rfl (lv_at hl 0 rfl) ?_
  refine xw_wri (v := sp_dg (jx_ru j (jx_de j).toNatClampNeg) (jx_nd j (jx_de j).toNatClampNeg)) (u' := u) (As := []) (rest := []) ⟨hx, hb, hml, hown, hts⟩ (c_ms_takeDigit l D cs ad _ u j  hd) tb_272 tb_274 sl_7 tb_1 tb_275 ⟨rfl, hd_ms_takeDigit⟩ ⟨Nat.le_of_ble_eq_true rfl, Nat.le_of_ble_eq_true rfl⟩ rfl rfl hK hP hD hN 0 0 rfl rfl hl.1 rfl (Nat.le_of_ble_eq_true rfl) d_ms_doInstruction_12 ⟨Nat.zero_le _, Nat.zero_le _⟩ hS hA (fun j1 H locs hj2 hP hD hS => ?_)
  refine W.eq (g2 := F0 m 15 ls (.int 4 :: [])) (by rw [hc]) ?_
  refine lv_tableIn hx hb d_ms_doInstruction_15 (off := 107) (tgt := 122) (by decide) (by decide) rfl (by decide) ?_
  refine lv_aload_n hx hb d_ms_doInstruction_122 rfl (lv_at hl 0 rfl) ?_
  refine lv_aload_n hx hb d_ms_doInstruction_123 rfl (lv_at hl 0 rfl) ?_
  refine xw_wri (v := sp_dg (jx_ru j1 (jx_de j1).toNatClampNeg) (jx_nd j1 (jx_de j1).toNatClampNeg)) (u' := u) (As := []) (rest := [.ref (ad 0)]) ⟨hx, hb, hml, hown, hts⟩ (c_ms_takeDigit l D cs ad _ u j1  (by subst hj2; exact hd)) tb_272 tb_274 sl_7 tb_1 tb_275 ⟨rfl, hd_ms_takeDigit⟩ ⟨Nat.le_of_ble_eq_true rfl, Nat.le_of_ble_eq_true rfl⟩ rfl rfl hK hP hD hN 0 0 rfl rfl hl.1 rfl (Nat.le_of_ble_eq_true rfl) d_ms_doInstruction_124 ⟨Nat.zero_le _, Nat.zero_le _⟩ hS hA (fun j3 H locs hj4 hP hD hS => ?_)
  have hX5 : sp_dg (jx_ru j1 (jx_de j1).toNatClampNeg) (jx_nd j1 (jx_de j1).toNatClampNeg) = sp_dg (jx_ru j (jx_de j).toNatClampNeg) (jx_nd j (jx_de j).toNatClampNeg + 1) := by
    subst hj4
    subst hj2
    simp only [jx_nd, sx_nd, jx_de, sx_de, jx_ru, sx_ru, pk_us, up_uu]
  rw [hX5]
  refine lv_bipush (v := 8) hx hb d_ms_doInstruction_127 (by decide) ?_
  refine lv_irem hx hb d_ms_doInstruction_129 (by decide) ?_
  refine xw_rdi (v := 7) (As := [.int (sp_rm (sp_dg (jx_ru j (jx_de j).toNatClampNeg) (jx_nd j (jx_de j).toNatClampNeg + 1)) (8))]) (rest := []) ⟨hx, hb, hml, hown, hts⟩ (c_ms_loadSecret_s l D cs ad _ u j3 (sp_rm (sp_dg (jx_ru j (jx_de j).toNatClampNeg) (jx_nd j (jx_de j).toNatClampNeg + 1)) (8)) (sp_rd8 _ _) h0 h1) tb_288 tb_290 sl_11 tb_1 tb_291 ⟨rfl, hd_ms_loadSecret⟩ ⟨Nat.le_of_ble_eq_true rfl, Nat.le_of_ble_eq_true rfl⟩ rfl rfl hK hP hD hN 0 0 rfl rfl hl.1 rfl (Nat.le_of_ble_eq_true rfl) d_ms_doInstruction_130 ⟨Nat.zero_le _, Nat.zero_le _⟩ ?_
  exact W.iret hx hb hret (fun t ht hW => ⟨⟨_, j3, rfl, ⟨rfl, (by subst hj4; subst hj2; trivial)⟩, by rw [ht]; exact hP, va_K.moved hW.alike hK, hD⟩, hS.F ht⟩) hS.2.2 d_ms_doInstruction_133
set_option maxHeartbeats 4000000 in
set_option maxRecDepth 100000 in
theorem c_do_4t (l : Launch) (D : va_G) (cs : Nat → ClassId) (ad : Nat → Nat) (sz : Nat) (u : Sg) (j : Jx)  (hs : sg_st u < 100) (hd : vp_in (jx_de j) 6) (hc : sp_dg (jx_ru j (jx_de j).toNatClampNeg) (jx_nd j (jx_de j).toNatClampNeg) = 4) (h0 : sp_tk (sg_ma u) (sp_rm (sp_dg (jx_ru j (jx_de j).toNatClampNeg) (jx_nd j (jx_de j).toNatClampNeg + 1)) 8) = 1) (h1 : sp_on u (sp_rm (sp_dg (jx_ru j (jx_de j).toNatClampNeg) (jx_nd j (jx_de j).toNatClampNeg + 1)) 8) = 1) : Met l y_ms_doInstruction (Cond.code y_ms_doInstruction b_ms_doInstruction 1 (some .int) :: TB) { frames := 5, cells := 0, slots := 0, locals := 120 } (va_Pc [.ref (ad 0)] (xw_Pre D cs ad u j sz)) (va_Qi (fun (r : Int32) (j1 : Jx) => r = 0 ∧ jx_de j1 = jx_de j ∧ jx_nd j1 = (upd (jx_nd j) (jx_de j).toNatClampNeg (jx_nd j (jx_de j).toNatClampNeg + 1 + 1)) ∧ jx_ru j1 = jx_ru j) (fun (j1 : Jx) t => xw_B D cs ad (va_A (xw ad cs u j) sz) (ss_ac u (sg_se u (sp_rm (sp_dg (jx_ru j (jx_de j).toNatClampNeg) (jx_nd j (jx_de j).toNatClampNeg + 1)) 8).toNatClampNeg)) j1 t) (va_A (xw ad cs u j) sz)) 0 0 (va_A (xw ad cs u j) sz) := by
  refine Met.ofW (cc := b_ms_doInstruction) (maxL := 1) (ret := (some .int)) (by decide) rfl ?_
  intro p e s m args below meth c s₁ B hml hv
  obtain ⟨rfl, hsz, hP, hK, hD, hN⟩ := hv
  have hx := B.exec
  have hb := B.bytes
  have hret := B.returns
  have hts := atoms_spec (ws := Cond.code y_ms_doInstruction b_ms_doInstruction 1 (some .int) :: TB) B.pre
  have hT : ∀ w ∈ TB, w.before _ s = true := fun w h => hts w (List.mem_cons_of_mem _ h)
  have hown : s.vm.findClass "MeasuredStages" = some m.cls := findClass_of_methodNamed B.named
  have hlocks := B.notSynchronized
  subst hsz
  have hD := hD.self (sz := s.heap.size)
  generalize hAe : va_A (xw ad cs u j) s.heap.size = A at hD ⊢
  have hA : ∀ q : Nat, s.heap.size ≤ q → A q := fun q h => by rw [← hAe]; exact Or.inr h
  have hS : va_S A s.heap s.heap [] := va_S.rf
  have hl := lv_entry ([.ref (ad 0)]) (n := 1) (Nat.le_of_ble_eq_true rfl)
  rw [lg_entry_eq]
  generalize (lg_sl ([.ref (ad 0)]) ++ List.replicate (1 - (lg_sl ([.ref (ad 0)])).length) Slot.unset).toArray = ls at hl ⊢
  have hl : lv_has ls 1 [(0, .ref (ad 0))] := hl
  skip
  refine lv_aload_n hx hb d_ms_doInstruction_0 rfl (lv_at hl 0 rfl) ?_
  refine va_get (D := D) (ci := 0) (v := .int (sg_st u)) (C := "MeasuredStages") (T := F_ms) (N := 12) hx hb hts (fun w h => List.mem_cons_of_mem _ (i_ms w h)) hown hK hP 0 rfl rfl 11 (by decide) (hT _ tb_80) (fun _ h9 => h9) rfl d_ms_doInstruction_1 ?_
  refine lv_bipush (v := 100) hx hb d_ms_doInstruction_4 (by decide) ?_
  refine lv_icmp_lt hx hb d_ms_doInstruction_6 (tgt := 11) (by decide) (fun _ => ?_) (fun z => absurd hs z)
  refine lv_aload_n hx hb d_ms_doInstruction_11 rfl (lv_at hl 0 rfl) ?_
  refine xw_wri (v := sp_dg (jx_ru j (jx_de j).toNatClampNeg) (jx_nd j (jx_de j).toNatClampNeg)) (u' := u) (As := []) (rest := []) ⟨hx, hb, hml, hown, hts⟩ (c_ms_takeDigit l D cs ad _ u j  hd) tb_272 tb_274 sl_7 tb_1 tb_275 ⟨rfl, hd_ms_takeDigit⟩ ⟨Nat.le_of_ble_eq_true rfl, Nat.le_of_ble_eq_true rfl⟩ rfl rfl hK hP hD hN 0 0 rfl rfl hl.1 rfl (Nat.le_of_ble_eq_true rfl) d_ms_doInstruction_12 ⟨Nat.zero_le _, Nat.zero_le _⟩ hS hA (fun j1 H locs hj2 hP hD hS => ?_)
  refine W.eq (g2 := F0 m 15 ls (.int 4 :: [])) (by rw [hc]) ?_
  refine lv_tableIn hx hb d_ms_doInstruction_15 (off := 107) (tgt := 122) (by decide) (by decide) rfl (by decide) ?_
  refine lv_aload_n hx hb d_ms_doInstruction_122 rfl (lv_at hl 0 rfl) ?_
  refine lv_aload_n hx hb d_ms_doInstruction_123 rfl (lv_at hl 0 rfl) ?_
  refine xw_wri (v := sp_dg (jx_ru j1 (jx_de j1).toNatClampNeg) (jx_nd j1 (jx_de j1).toNatClampNeg)) (u' := u) (As := []) (rest := [.ref (ad 0)]) ⟨hx, hb, hml, hown, hts⟩ (c_ms_takeDigit l D cs ad _ u j1  (by subst hj2; exact hd)) tb_272 tb_274 sl_7 tb_1 tb_275 ⟨rfl, hd_ms_takeDigit⟩ ⟨Nat.le_of_ble_eq_true rfl, Nat.le_of_ble_eq_true rfl⟩ rfl rfl hK hP hD hN 0 0 rfl rfl hl.1 rfl (Nat.le_of_ble_eq_true rfl) d_ms_doInstruction_124 ⟨Nat.zero_le _, Nat.zero_le _⟩ hS hA (fun j3 H locs hj4 hP hD hS => ?_)
  have hX5 : sp_dg (jx_ru j1 (jx_de j1).toNatClampNeg) (jx_nd j1 (jx_de j1).toNatClampNeg) = sp_dg (jx_ru j (jx_de j).toNatClampNeg) (jx_nd j (jx_de j).toNatClampNeg + 1) := by
    subst hj4
    subst hj2
    simp only [jx_nd, sx_nd, jx_de, sx_de, jx_ru, sx_ru, pk_us, up_uu]
  rw [hX5]
  refine lv_bipush (v := 8) hx hb d_ms_doInstruction_127 (by decide) ?_
  refine lv_irem hx hb d_ms_doInstruction_129 (by decide) ?_
  refine xw_wri (v := 0) (u' := ss_ac u (sg_se u (sp_rm (sp_dg (jx_ru j (jx_de j).toNatClampNeg) (jx_nd j (jx_de j).toNatClampNeg + 1)) (8)).toNatClampNeg)) (As := [.int (sp_rm (sp_dg (jx_ru j (jx_de j).toNatClampNeg) (jx_nd j (jx_de j).toNatClampNeg + 1)) (8))]) (rest := []) ⟨hx, hb, hml, hown, hts⟩ (c_ms_loadSecret l D cs ad _ u j3 (sp_rm (sp_dg (jx_ru j (jx_de j).toNatClampNeg) (jx_nd j (jx_de j).toNatClampNeg + 1)) (8)) (sp_rd8 _ _) h0 h1) tb_288 tb_290 sl_11 tb_1 tb_291 ⟨rfl, hd_ms_loadSecret⟩ ⟨Nat.le_of_ble_eq_true rfl, Nat.le_of_ble_eq_true rfl⟩ rfl rfl hK hP hD hN 0 0 rfl rfl hl.1 rfl (Nat.le_of_ble_eq_true rfl) d_ms_doInstruction_130 ⟨Nat.zero_le _, Nat.zero_le _⟩ hS hA (fun j6 H locs hj7 hP hD hS => ?_)
  obtain ⟨v8, ev8⟩ : ∃ z : Sg, z = ss_ac u (sg_se u (sp_rm (sp_dg (jx_ru j (jx_de j).toNatClampNeg) (jx_nd j (jx_de j).toNatClampNeg + 1)) (8)).toNatClampNeg) := ⟨_, rfl⟩
  rw [← ev8] at hP hD
  rw [hj7] at hP hD
  subst ev8
  exact W.iret hx hb hret (fun t ht hW => ⟨⟨_, j3, rfl, ⟨rfl, (by subst hj4; subst hj2; exact ⟨rfl, by first | rfl | simp only [jx_nd, sx_nd, jx_de, sx_de, jx_ru, sx_ru, pk_us, up_uu], rfl⟩)⟩, by rw [ht]; exact hP, va_K.moved hW.alike hK, hD⟩, hS.F ht⟩) hS.2.2 d_ms_doInstruction_133
set_option maxHeartbeats 4000000 in
set_option maxRecDepth 100000 in
theorem c_do_5 (l : Launch) (D : va_G) (cs : Nat → ClassId) (ad : Nat → Nat) (sz : Nat) (u : Sg) (j : Jx)  (hs : sg_st u < 100) (hd : vp_in (jx_de j) 6) (hc : sp_dg (jx_ru j (jx_de j).toNatClampNeg) (jx_nd j (jx_de j).toNatClampNeg) = 5)  : Met l y_ms_doInstruction (Cond.code y_ms_doInstruction b_ms_doInstruction 1 (some .int) :: TB) { frames := 5, cells := 0, slots := 0, locals := 120 } (va_Pc [.ref (ad 0)] (xw_Pre D cs ad u j sz)) (va_Qi (fun (r : Int32) (j1 : Jx) => r = 0 ∧ jx_de j1 = jx_de j ∧ jx_nd j1 = (upd (jx_nd j) (jx_de j).toNatClampNeg (jx_nd j (jx_de j).toNatClampNeg + 1 + 1)) ∧ jx_ru j1 = jx_ru j) (fun (j1 : Jx) t => xw_B D cs ad (va_A (xw ad cs u j) sz) (ss_ac u (sp_h (sg_ac u) (sp_dg (jx_ru j (jx_de j).toNatClampNeg) (jx_nd j (jx_de j).toNatClampNeg + 1)).toInt64)) j1 t) (va_A (xw ad cs u j) sz)) 0 0 (va_A (xw ad cs u j) sz) := by
  refine Met.ofW (cc := b_ms_doInstruction) (maxL := 1) (ret := (some .int)) (by decide) rfl ?_
  intro p e s m args below meth c s₁ B hml hv
  obtain ⟨rfl, hsz, hP, hK, hD, hN⟩ := hv
  have hx := B.exec
  have hb := B.bytes
  have hret := B.returns
  have hts := atoms_spec (ws := Cond.code y_ms_doInstruction b_ms_doInstruction 1 (some .int) :: TB) B.pre
  have hT : ∀ w ∈ TB, w.before _ s = true := fun w h => hts w (List.mem_cons_of_mem _ h)
  have hown : s.vm.findClass "MeasuredStages" = some m.cls := findClass_of_methodNamed B.named
  have hlocks := B.notSynchronized
  subst hsz
  have hD := hD.self (sz := s.heap.size)
  generalize hAe : va_A (xw ad cs u j) s.heap.size = A at hD ⊢
  have hA : ∀ q : Nat, s.heap.size ≤ q → A q := fun q h => by rw [← hAe]; exact Or.inr h
  have hS : va_S A s.heap s.heap [] := va_S.rf
  have hl := lv_entry ([.ref (ad 0)]) (n := 1) (Nat.le_of_ble_eq_true rfl)
  rw [lg_entry_eq]
  generalize (lg_sl ([.ref (ad 0)]) ++ List.replicate (1 - (lg_sl ([.ref (ad 0)])).length) Slot.unset).toArray = ls at hl ⊢
  have hl : lv_has ls 1 [(0, .ref (ad 0))] := hl
  skip
  refine lv_aload_n hx hb d_ms_doInstruction_0 rfl (lv_at hl 0 rfl) ?_
  refine va_get (D := D) (ci := 0) (v := .int (sg_st u)) (C := "MeasuredStages") (T := F_ms) (N := 12) hx hb hts (fun w h => List.mem_cons_of_mem _ (i_ms w h)) hown hK hP 0 rfl rfl 11 (by decide) (hT _ tb_80) (fun _ h9 => h9) rfl d_ms_doInstruction_1 ?_
  refine lv_bipush (v := 100) hx hb d_ms_doInstruction_4 (by decide) ?_
  refine lv_icmp_lt hx hb d_ms_doInstruction_6 (tgt := 11) (by decide) (fun _ => ?_) (fun z => absurd hs z)
  refine lv_aload_n hx hb d_ms_doInstruction_11 rfl (lv_at hl 0 rfl) ?_
  refine xw_wri (v := sp_dg (jx_ru j (jx_de j).toNatClampNeg) (jx_nd j (jx_de j).toNatClampNeg)) (u' := u) (As := []) (rest := []) ⟨hx, hb, hml, hown, hts⟩ (c_ms_takeDigit l D cs ad _ u j  hd) tb_272 tb_274 sl_7 tb_1 tb_275 ⟨rfl, hd_ms_takeDigit⟩ ⟨Nat.le_of_ble_eq_true rfl, Nat.le_of_ble_eq_true rfl⟩ rfl rfl hK hP hD hN 0 0 rfl rfl hl.1 rfl (Nat.le_of_ble_eq_true rfl) d_ms_doInstruction_12 ⟨Nat.zero_le _, Nat.zero_le _⟩ hS hA (fun j1 H locs hj2 hP hD hS => ?_)
  refine W.eq (g2 := F0 m 15 ls (.int 5 :: [])) (by rw [hc]) ?_
  refine lv_tableIn hx hb d_ms_doInstruction_15 (off := 119) (tgt := 134) (by decide) (by decide) rfl (by decide) ?_
  refine lv_aload_n hx hb d_ms_doInstruction_134 rfl (lv_at hl 0 rfl) ?_
  refine lv_aload_n hx hb d_ms_doInstruction_135 rfl (lv_at hl 0 rfl) ?_
  refine va_get (D := D) (ci := 0) (v := .long (sg_ac u)) (C := "MeasuredStages") (T := F_ms) (N := 12) hx hb hts (fun w h => List.mem_cons_of_mem _ (i_ms w h)) hown hK hP 0 rfl rfl 8 (by decide) (hT _ tb_77) (fun _ h9 => h9) rfl d_ms_doInstruction_136 ?_
  refine lv_aload_n hx hb d_ms_doInstruction_139 rfl (lv_at hl 0 rfl) ?_
  refine xw_wri (v := sp_dg (jx_ru j1 (jx_de j1).toNatClampNeg) (jx_nd j1 (jx_de j1).toNatClampNeg)) (u' := u) (As := []) (rest := [.long (sg_ac u), .ref (ad 0)]) ⟨hx, hb, hml, hown, hts⟩ (c_ms_takeDigit l D cs ad _ u j1  (by subst hj2; exact hd)) tb_272 tb_274 sl_7 tb_1 tb_275 ⟨rfl, hd_ms_takeDigit⟩ ⟨Nat.le_of_ble_eq_true rfl, Nat.le_of_ble_eq_true rfl⟩ rfl rfl hK hP hD hN 0 0 rfl rfl hl.1 rfl (Nat.le_of_ble_eq_true rfl) d_ms_doInstruction_140 ⟨Nat.zero_le _, Nat.zero_le _⟩ hS hA (fun j3 H locs hj4 hP hD hS => ?_)
  have hX5 : sp_dg (jx_ru j1 (jx_de j1).toNatClampNeg) (jx_nd j1 (jx_de j1).toNatClampNeg) = sp_dg (jx_ru j (jx_de j).toNatClampNeg) (jx_nd j (jx_de j).toNatClampNeg + 1) := by
    subst hj4
    subst hj2
    simp only [jx_nd, sx_nd, jx_de, sx_de, jx_ru, sx_ru, pk_us, up_uu]
  rw [hX5]
  refine lv_i2l hx hb d_ms_doInstruction_143 rfl ?_
  refine st_l (v := sp_h (sg_ac u) ((sp_dg (jx_ru j (jx_de j).toNatClampNeg) (jx_nd j (jx_de j).toNatClampNeg + 1)).toInt64)) (As := [.long (sg_ac u), .long ((sp_dg (jx_ru j (jx_de j).toNatClampNeg) (jx_nd j (jx_de j).toNatClampNeg + 1)).toInt64)]) (rest := [.ref (ad 0)]) ⟨hx, hb, hml, hown, hts⟩ (c_ms_hash l (sg_ac u) ((sp_dg (jx_ru j (jx_de j).toNatClampNeg) (jx_nd j (jx_de j).toNatClampNeg + 1)).toInt64)) tb_235 tb_138 tb_1 tb_139 hd_ms_hash ⟨Nat.le_of_ble_eq_true rfl, Nat.le_of_ble_eq_true rfl⟩ rfl rfl hl.1 rfl (Nat.le_of_ble_eq_true rfl) d_ms_doInstruction_144 ⟨Nat.zero_le _, Nat.zero_le _⟩ ?_
  refine va_put (D := D) (ci := 0) (v := .long (sp_h (sg_ac u) ((sp_dg (jx_ru j (jx_de j).toNatClampNeg) (jx_nd j (jx_de j).toNatClampNeg + 1)).toInt64))) (ty := .long) (C := "MeasuredStages") (T := F_ms) (N := 12) hx hb hts (fun w h => List.mem_cons_of_mem _ (i_ms w h)) t_ms o_ms n_ms hown hK hP hD hS 0 rfl rfl 8 (by decide) (hT _ tb_77) (fun _ h9 => h9) rfl (by decide +kernel) rfl rfl (Nat.le_of_ble_eq_true rfl) d_ms_doInstruction_147 (fun H locs hP hD hS => ?_)
  have hP : va_P D cx (xv ad cs (sg_im u) (sg_ap u) (sg_ag u) (sg_he u) (sg_er u) (sg_ev u) (sg_en u) (sg_ma u) (sg_po u) (sg_se u) (sp_h (sg_ac u) ((sp_dg (jx_ru j (jx_de j).toNatClampNeg) (jx_nd j (jx_de j).toNatClampNeg + 1)).toInt64)) (sg_fa u) (sg_la u) (sg_st u) (jx_ru j3) (jx_nd j3) (jx_de j3) (jx_rp j3)) H := hP
  have hD : va_D A (xv ad cs (sg_im u) (sg_ap u) (sg_ag u) (sg_he u) (sg_er u) (sg_ev u) (sg_en u) (sg_ma u) (sg_po u) (sg_se u) (sp_h (sg_ac u) ((sp_dg (jx_ru j (jx_de j).toNatClampNeg) (jx_nd j (jx_de j).toNatClampNeg + 1)).toInt64)) (sg_fa u) (sg_la u) (sg_st u) (jx_ru j3) (jx_nd j3) (jx_de j3) (jx_rp j3)) := hD
  refine lv_iconst (v := 0) hx hb d_ms_doInstruction_150 (by decide) ?_
  obtain ⟨v6, ev6⟩ : ∃ z : Sg, z = (sg_im u, sg_ap u, sg_ag u, sg_he u, sg_er u, sg_ev u, sg_en u, sg_ma u, sg_po u, sg_se u, sp_h (sg_ac u) ((sp_dg (jx_ru j (jx_de j).toNatClampNeg) (jx_nd j (jx_de j).toNatClampNeg + 1)).toInt64), sg_fa u, sg_la u, sg_st u) := ⟨_, rfl⟩
  have hP : va_P D cx (xw ad cs v6 j3) H := by rw [ev6, xw_u]; exact hP
  have hD : va_D A (xw ad cs v6 j3) := by rw [ev6, xw_u]; exact hD
  subst ev6
  exact W.iret hx hb hret (fun t ht hW => ⟨⟨_, j3, rfl, ⟨rfl, (by subst hj4; subst hj2; exact ⟨rfl, by first | rfl | simp only [jx_nd, sx_nd, jx_de, sx_de, jx_ru, sx_ru, pk_us, up_uu], rfl⟩)⟩, by rw [ht]; exact hP, va_K.moved hW.alike hK, hD⟩, hS.F ht⟩) hS.2.2 d_ms_doInstruction_151
set_option maxHeartbeats 4000000 in
set_option maxRecDepth 100000 in
theorem c_do_6f (l : Launch) (D : va_G) (cs : Nat → ClassId) (ad : Nat → Nat) (sz : Nat) (u : Sg) (j : Jx)  (hs : sg_st u < 100) (hd : vp_in (jx_de j) 6) (hc : sp_dg (jx_ru j (jx_de j).toNatClampNeg) (jx_nd j (jx_de j).toNatClampNeg) = 6) (he : sg_en u = 32) : Met l y_ms_doInstruction (Cond.code y_ms_doInstruction b_ms_doInstruction 1 (some .int) :: TB) { frames := 5, cells := 0, slots := 0, locals := 120 } (va_Pc [.ref (ad 0)] (xw_Pre D cs ad u j sz)) (va_Qi (fun (r : Int32) (j1 : Jx) => r = 4 ∧ True) (fun (j1 : Jx) t => xw_B D cs ad (va_A (xw ad cs u j) sz) u j1 t) (va_A (xw ad cs u j) sz)) 0 0 (va_A (xw ad cs u j) sz) := by
  refine Met.ofW (cc := b_ms_doInstruction) (maxL := 1) (ret := (some .int)) (by decide) rfl ?_
  intro p e s m args below meth c s₁ B hml hv
  obtain ⟨rfl, hsz, hP, hK, hD, hN⟩ := hv
  have hx := B.exec
  have hb := B.bytes
  have hret := B.returns
  have hts := atoms_spec (ws := Cond.code y_ms_doInstruction b_ms_doInstruction 1 (some .int) :: TB) B.pre
  have hT : ∀ w ∈ TB, w.before _ s = true := fun w h => hts w (List.mem_cons_of_mem _ h)
  have hown : s.vm.findClass "MeasuredStages" = some m.cls := findClass_of_methodNamed B.named
  have hlocks := B.notSynchronized
  subst hsz
  have hD := hD.self (sz := s.heap.size)
  generalize hAe : va_A (xw ad cs u j) s.heap.size = A at hD ⊢
  have hA : ∀ q : Nat, s.heap.size ≤ q → A q := fun q h => by rw [← hAe]; exact Or.inr h
  have hS : va_S A s.heap s.heap [] := va_S.rf
  have hl := lv_entry ([.ref (ad 0)]) (n := 1) (Nat.le_of_ble_eq_true rfl)
  rw [lg_entry_eq]
  generalize (lg_sl ([.ref (ad 0)]) ++ List.replicate (1 - (lg_sl ([.ref (ad 0)])).length) Slot.unset).toArray = ls at hl ⊢
  have hl : lv_has ls 1 [(0, .ref (ad 0))] := hl
  skip
  refine lv_aload_n hx hb d_ms_doInstruction_0 rfl (lv_at hl 0 rfl) ?_
  refine va_get (D := D) (ci := 0) (v := .int (sg_st u)) (C := "MeasuredStages") (T := F_ms) (N := 12) hx hb hts (fun w h => List.mem_cons_of_mem _ (i_ms w h)) hown hK hP 0 rfl rfl 11 (by decide) (hT _ tb_80) (fun _ h9 => h9) rfl d_ms_doInstruction_1 ?_
  refine lv_bipush (v := 100) hx hb d_ms_doInstruction_4 (by decide) ?_
  refine lv_icmp_lt hx hb d_ms_doInstruction_6 (tgt := 11) (by decide) (fun _ => ?_) (fun z => absurd hs z)
  refine lv_aload_n hx hb d_ms_doInstruction_11 rfl (lv_at hl 0 rfl) ?_
  refine xw_wri (v := sp_dg (jx_ru j (jx_de j).toNatClampNeg) (jx_nd j (jx_de j).toNatClampNeg)) (u' := u) (As := []) (rest := []) ⟨hx, hb, hml, hown, hts⟩ (c_ms_takeDigit l D cs ad _ u j  hd) tb_272 tb_274 sl_7 tb_1 tb_275 ⟨rfl, hd_ms_takeDigit⟩ ⟨Nat.le_of_ble_eq_true rfl, Nat.le_of_ble_eq_true rfl⟩ rfl rfl hK hP hD hN 0 0 rfl rfl hl.1 rfl (Nat.le_of_ble_eq_true rfl) d_ms_doInstruction_12 ⟨Nat.zero_le _, Nat.zero_le _⟩ hS hA (fun j1 H locs hj2 hP hD hS => ?_)
  refine W.eq (g2 := F0 m 15 ls (.int 6 :: [])) (by rw [hc]) ?_
  refine lv_tableIn hx hb d_ms_doInstruction_15 (off := 137) (tgt := 152) (by decide) (by decide) rfl (by decide) ?_
  refine lv_aload_n hx hb d_ms_doInstruction_152 rfl (lv_at hl 0 rfl) ?_
  refine lv_aload_n hx hb d_ms_doInstruction_153 rfl (lv_at hl 0 rfl) ?_
  refine xw_wri (v := sp_rm (sp_dg (jx_ru j1 (jx_de j1).toNatClampNeg) (jx_nd j1 (jx_de j1).toNatClampNeg)) 6) (u' := u) (As := []) (rest := [.ref (ad 0)]) ⟨hx, hb, hml, hown, hts⟩ (c_ms_takeRegister l D cs ad _ u j1  (by subst hj2; exact hd)) tb_280 tb_282 sl_9 tb_1 tb_283 ⟨rfl, hd_ms_takeRegister⟩ ⟨Nat.le_of_ble_eq_true rfl, Nat.le_of_ble_eq_true rfl⟩ rfl rfl hK hP hD hN 0 0 rfl rfl hl.1 rfl (Nat.le_of_ble_eq_true rfl) d_ms_doInstruction_154 ⟨Nat.zero_le _, Nat.zero_le _⟩ hS hA (fun j3 H locs hj4 hP hD hS => ?_)
  have hX5 : sp_dg (jx_ru j1 (jx_de j1).toNatClampNeg) (jx_nd j1 (jx_de j1).toNatClampNeg) = sp_dg (jx_ru j (jx_de j).toNatClampNeg) (jx_nd j (jx_de j).toNatClampNeg + 1) := by
    subst hj4
    subst hj2
    simp only [jx_nd, sx_nd, jx_de, sx_de, jx_ru, sx_ru, pk_us, up_uu]
  rw [hX5]
  refine lv_aload_n hx hb d_ms_doInstruction_157 rfl (lv_at hl 0 rfl) ?_
  refine va_get (D := D) (ci := 0) (v := .long (sg_ac u)) (C := "MeasuredStages") (T := F_ms) (N := 12) hx hb hts (fun w h => List.mem_cons_of_mem _ (i_ms w h)) hown hK hP 0 rfl rfl 8 (by decide) (hT _ tb_77) (fun _ h9 => h9) rfl d_ms_doInstruction_158 ?_
  refine xw_rdi (v := 4) (As := [.int (sp_rm (sp_dg (jx_ru j (jx_de j).toNatClampNeg) (jx_nd j (jx_de j).toNatClampNeg + 1)) 6), .long (sg_ac u)]) (rest := []) ⟨hx, hb, hml, hown, hts⟩ (c_ms_extendOrFault_f l D cs ad _ u j3 (sp_rm (sp_dg (jx_ru j (jx_de j).toNatClampNeg) (jx_nd j (jx_de j).toNatClampNeg + 1)) 6) (sg_ac u) (by subst hj4; subst hj2; exact he)) tb_256 tb_258 sl_4 tb_1 tb_259 ⟨rfl, hd_ms_extendOrFault⟩ ⟨Nat.le_of_ble_eq_true rfl, Nat.le_of_ble_eq_true rfl⟩ rfl rfl hK hP hD hN 0 0 rfl rfl hl.1 rfl (Nat.le_of_ble_eq_true rfl) d_ms_doInstruction_161 ⟨Nat.zero_le _, Nat.zero_le _⟩ ?_
  exact W.iret hx hb hret (fun t ht hW => ⟨⟨_, j3, rfl, ⟨rfl, (by subst hj4; subst hj2; trivial)⟩, by rw [ht]; exact hP, va_K.moved hW.alike hK, hD⟩, hS.F ht⟩) hS.2.2 d_ms_doInstruction_164
set_option maxHeartbeats 4000000 in
set_option maxRecDepth 100000 in
theorem c_do_6t (l : Launch) (D : va_G) (cs : Nat → ClassId) (ad : Nat → Nat) (sz : Nat) (u : Sg) (j : Jx)  (hs : sg_st u < 100) (hd : vp_in (jx_de j) 6) (hc : sp_dg (jx_ru j (jx_de j).toNatClampNeg) (jx_nd j (jx_de j).toNatClampNeg) = 6) (he : vp_in (sg_en u) 32) : Met l y_ms_doInstruction (Cond.code y_ms_doInstruction b_ms_doInstruction 1 (some .int) :: TB) { frames := 5, cells := 0, slots := 0, locals := 120 } (va_Pc [.ref (ad 0)] (xw_Pre D cs ad u j sz)) (va_Qi (fun (r : Int32) (j1 : Jx) => r = 0 ∧ jx_de j1 = jx_de j ∧ jx_nd j1 = (upd (jx_nd j) (jx_de j).toNatClampNeg (jx_nd j (jx_de j).toNatClampNeg + 1 + 1)) ∧ jx_ru j1 = jx_ru j) (fun (j1 : Jx) t => xw_B D cs ad (va_A (xw ad cs u j) sz) (sp_no u (sp_rm (sp_dg (jx_ru j (jx_de j).toNatClampNeg) (jx_nd j (jx_de j).toNatClampNeg + 1)) 6) (sg_ac u)) j1 t) (va_A (xw ad cs u j) sz)) 0 0 (va_A (xw ad cs u j) sz) := by
  refine Met.ofW (cc := b_ms_doInstruction) (maxL := 1) (ret := (some .int)) (by decide) rfl ?_
  intro p e s m args below meth c s₁ B hml hv
  obtain ⟨rfl, hsz, hP, hK, hD, hN⟩ := hv
  have hx := B.exec
  have hb := B.bytes
  have hret := B.returns
  have hts := atoms_spec (ws := Cond.code y_ms_doInstruction b_ms_doInstruction 1 (some .int) :: TB) B.pre
  have hT : ∀ w ∈ TB, w.before _ s = true := fun w h => hts w (List.mem_cons_of_mem _ h)
  have hown : s.vm.findClass "MeasuredStages" = some m.cls := findClass_of_methodNamed B.named
  have hlocks := B.notSynchronized
  subst hsz
  have hD := hD.self (sz := s.heap.size)
  generalize hAe : va_A (xw ad cs u j) s.heap.size = A at hD ⊢
  have hA : ∀ q : Nat, s.heap.size ≤ q → A q := fun q h => by rw [← hAe]; exact Or.inr h
  have hS : va_S A s.heap s.heap [] := va_S.rf
  have hl := lv_entry ([.ref (ad 0)]) (n := 1) (Nat.le_of_ble_eq_true rfl)
  rw [lg_entry_eq]
  generalize (lg_sl ([.ref (ad 0)]) ++ List.replicate (1 - (lg_sl ([.ref (ad 0)])).length) Slot.unset).toArray = ls at hl ⊢
  have hl : lv_has ls 1 [(0, .ref (ad 0))] := hl
  skip
  refine lv_aload_n hx hb d_ms_doInstruction_0 rfl (lv_at hl 0 rfl) ?_
  refine va_get (D := D) (ci := 0) (v := .int (sg_st u)) (C := "MeasuredStages") (T := F_ms) (N := 12) hx hb hts (fun w h => List.mem_cons_of_mem _ (i_ms w h)) hown hK hP 0 rfl rfl 11 (by decide) (hT _ tb_80) (fun _ h9 => h9) rfl d_ms_doInstruction_1 ?_
  refine lv_bipush (v := 100) hx hb d_ms_doInstruction_4 (by decide) ?_
  refine lv_icmp_lt hx hb d_ms_doInstruction_6 (tgt := 11) (by decide) (fun _ => ?_) (fun z => absurd hs z)
  refine lv_aload_n hx hb d_ms_doInstruction_11 rfl (lv_at hl 0 rfl) ?_
  refine xw_wri (v := sp_dg (jx_ru j (jx_de j).toNatClampNeg) (jx_nd j (jx_de j).toNatClampNeg)) (u' := u) (As := []) (rest := []) ⟨hx, hb, hml, hown, hts⟩ (c_ms_takeDigit l D cs ad _ u j  hd) tb_272 tb_274 sl_7 tb_1 tb_275 ⟨rfl, hd_ms_takeDigit⟩ ⟨Nat.le_of_ble_eq_true rfl, Nat.le_of_ble_eq_true rfl⟩ rfl rfl hK hP hD hN 0 0 rfl rfl hl.1 rfl (Nat.le_of_ble_eq_true rfl) d_ms_doInstruction_12 ⟨Nat.zero_le _, Nat.zero_le _⟩ hS hA (fun j1 H locs hj2 hP hD hS => ?_)
  refine W.eq (g2 := F0 m 15 ls (.int 6 :: [])) (by rw [hc]) ?_
  refine lv_tableIn hx hb d_ms_doInstruction_15 (off := 137) (tgt := 152) (by decide) (by decide) rfl (by decide) ?_
  refine lv_aload_n hx hb d_ms_doInstruction_152 rfl (lv_at hl 0 rfl) ?_
  refine lv_aload_n hx hb d_ms_doInstruction_153 rfl (lv_at hl 0 rfl) ?_
  refine xw_wri (v := sp_rm (sp_dg (jx_ru j1 (jx_de j1).toNatClampNeg) (jx_nd j1 (jx_de j1).toNatClampNeg)) 6) (u' := u) (As := []) (rest := [.ref (ad 0)]) ⟨hx, hb, hml, hown, hts⟩ (c_ms_takeRegister l D cs ad _ u j1  (by subst hj2; exact hd)) tb_280 tb_282 sl_9 tb_1 tb_283 ⟨rfl, hd_ms_takeRegister⟩ ⟨Nat.le_of_ble_eq_true rfl, Nat.le_of_ble_eq_true rfl⟩ rfl rfl hK hP hD hN 0 0 rfl rfl hl.1 rfl (Nat.le_of_ble_eq_true rfl) d_ms_doInstruction_154 ⟨Nat.zero_le _, Nat.zero_le _⟩ hS hA (fun j3 H locs hj4 hP hD hS => ?_)
  have hX5 : sp_dg (jx_ru j1 (jx_de j1).toNatClampNeg) (jx_nd j1 (jx_de j1).toNatClampNeg) = sp_dg (jx_ru j (jx_de j).toNatClampNeg) (jx_nd j (jx_de j).toNatClampNeg + 1) := by
    subst hj4
    subst hj2
    simp only [jx_nd, sx_nd, jx_de, sx_de, jx_ru, sx_ru, pk_us, up_uu]
  rw [hX5]
  refine lv_aload_n hx hb d_ms_doInstruction_157 rfl (lv_at hl 0 rfl) ?_
  refine va_get (D := D) (ci := 0) (v := .long (sg_ac u)) (C := "MeasuredStages") (T := F_ms) (N := 12) hx hb hts (fun w h => List.mem_cons_of_mem _ (i_ms w h)) hown hK hP 0 rfl rfl 8 (by decide) (hT _ tb_77) (fun _ h9 => h9) rfl d_ms_doInstruction_158 ?_
  refine xw_wri (v := 0) (u' := sp_no u (sp_rm (sp_dg (jx_ru j (jx_de j).toNatClampNeg) (jx_nd j (jx_de j).toNatClampNeg + 1)) 6) (sg_ac u)) (As := [.int (sp_rm (sp_dg (jx_ru j (jx_de j).toNatClampNeg) (jx_nd j (jx_de j).toNatClampNeg + 1)) 6), .long (sg_ac u)]) (rest := []) ⟨hx, hb, hml, hown, hts⟩ (c_ms_extendOrFault l D cs ad _ u j3 (sp_rm (sp_dg (jx_ru j (jx_de j).toNatClampNeg) (jx_nd j (jx_de j).toNatClampNeg + 1)) 6) (sg_ac u) (sp_rd6 _ _) (by subst hj4; subst hj2; exact he)) tb_256 tb_258 sl_4 tb_1 tb_259 ⟨rfl, hd_ms_extendOrFault⟩ ⟨Nat.le_of_ble_eq_true rfl, Nat.le_of_ble_eq_true rfl⟩ rfl rfl hK hP hD hN 0 0 rfl rfl hl.1 rfl (Nat.le_of_ble_eq_true rfl) d_ms_doInstruction_161 ⟨Nat.zero_le _, Nat.zero_le _⟩ hS hA (fun j6 H locs hj7 hP hD hS => ?_)
  obtain ⟨v8, ev8⟩ : ∃ z : Sg, z = sp_no u (sp_rm (sp_dg (jx_ru j (jx_de j).toNatClampNeg) (jx_nd j (jx_de j).toNatClampNeg + 1)) 6) (sg_ac u) := ⟨_, rfl⟩
  rw [← ev8] at hP hD
  rw [hj7] at hP hD
  subst ev8
  exact W.iret hx hb hret (fun t ht hW => ⟨⟨_, j3, rfl, ⟨rfl, (by subst hj4; subst hj2; exact ⟨rfl, by first | rfl | simp only [jx_nd, sx_nd, jx_de, sx_de, jx_ru, sx_ru, pk_us, up_uu], rfl⟩)⟩, by rw [ht]; exact hP, va_K.moved hW.alike hK, hD⟩, hS.F ht⟩) hS.2.2 d_ms_doInstruction_164
set_option maxHeartbeats 4000000 in
set_option maxRecDepth 100000 in
theorem c_do_7 (l : Launch) (D : va_G) (cs : Nat → ClassId) (ad : Nat → Nat) (sz : Nat) (u : Sg) (j : Jx)  (hs : sg_st u < 100) (hd : vp_in (jx_de j) 6) (hc : sp_dg (jx_ru j (jx_de j).toNatClampNeg) (jx_nd j (jx_de j).toNatClampNeg) = 7)  : Met l y_ms_doInstruction (Cond.code y_ms_doInstruction b_ms_doInstruction 1 (some .int) :: TB) { frames := 5, cells := 0, slots := 0, locals := 120 } (va_Pc [.ref (ad 0)] (xw_Pre D cs ad u j sz)) (va_Qi (fun (r : Int32) (j1 : Jx) => r = 0 ∧ jx_de j1 = jx_de j ∧ jx_nd j1 = (if sg_ac u = 0 then upd (upd (jx_nd j) (jx_de j).toNatClampNeg (jx_nd j (jx_de j).toNatClampNeg + 1 + 1)) (jx_de j).toNatClampNeg ((upd (jx_nd j) (jx_de j).toNatClampNeg (jx_nd j (jx_de j).toNatClampNeg + 1 + 1)) (jx_de j).toNatClampNeg + sp_dg (jx_ru j (jx_de j).toNatClampNeg) (jx_nd j (jx_de j).toNatClampNeg + 1)) else upd (jx_nd j) (jx_de j).toNatClampNeg (jx_nd j (jx_de j).toNatClampNeg + 1 + 1)) ∧ jx_ru j1 = jx_ru j) (fun (j1 : Jx) t => xw_B D cs ad (va_A (xw ad cs u j) sz) u j1 t) (va_A (xw ad cs u j) sz)) 0 0 (va_A (xw ad cs u j) sz) := by
  refine Met.ofW (cc := b_ms_doInstruction) (maxL := 1) (ret := (some .int)) (by decide) rfl ?_
  intro p e s m args below meth c s₁ B hml hv
  obtain ⟨rfl, hsz, hP, hK, hD, hN⟩ := hv
  have hx := B.exec
  have hb := B.bytes
  have hret := B.returns
  have hts := atoms_spec (ws := Cond.code y_ms_doInstruction b_ms_doInstruction 1 (some .int) :: TB) B.pre
  have hT : ∀ w ∈ TB, w.before _ s = true := fun w h => hts w (List.mem_cons_of_mem _ h)
  have hown : s.vm.findClass "MeasuredStages" = some m.cls := findClass_of_methodNamed B.named
  have hlocks := B.notSynchronized
  subst hsz
  have hD := hD.self (sz := s.heap.size)
  generalize hAe : va_A (xw ad cs u j) s.heap.size = A at hD ⊢
  have hA : ∀ q : Nat, s.heap.size ≤ q → A q := fun q h => by rw [← hAe]; exact Or.inr h
  have hS : va_S A s.heap s.heap [] := va_S.rf
  have hl := lv_entry ([.ref (ad 0)]) (n := 1) (Nat.le_of_ble_eq_true rfl)
  rw [lg_entry_eq]
  generalize (lg_sl ([.ref (ad 0)]) ++ List.replicate (1 - (lg_sl ([.ref (ad 0)])).length) Slot.unset).toArray = ls at hl ⊢
  have hl : lv_has ls 1 [(0, .ref (ad 0))] := hl
  skip
  refine lv_aload_n hx hb d_ms_doInstruction_0 rfl (lv_at hl 0 rfl) ?_
  refine va_get (D := D) (ci := 0) (v := .int (sg_st u)) (C := "MeasuredStages") (T := F_ms) (N := 12) hx hb hts (fun w h => List.mem_cons_of_mem _ (i_ms w h)) hown hK hP 0 rfl rfl 11 (by decide) (hT _ tb_80) (fun _ h9 => h9) rfl d_ms_doInstruction_1 ?_
  refine lv_bipush (v := 100) hx hb d_ms_doInstruction_4 (by decide) ?_
  refine lv_icmp_lt hx hb d_ms_doInstruction_6 (tgt := 11) (by decide) (fun _ => ?_) (fun z => absurd hs z)
  refine lv_aload_n hx hb d_ms_doInstruction_11 rfl (lv_at hl 0 rfl) ?_
  refine xw_wri (v := sp_dg (jx_ru j (jx_de j).toNatClampNeg) (jx_nd j (jx_de j).toNatClampNeg)) (u' := u) (As := []) (rest := []) ⟨hx, hb, hml, hown, hts⟩ (c_ms_takeDigit l D cs ad _ u j  hd) tb_272 tb_274 sl_7 tb_1 tb_275 ⟨rfl, hd_ms_takeDigit⟩ ⟨Nat.le_of_ble_eq_true rfl, Nat.le_of_ble_eq_true rfl⟩ rfl rfl hK hP hD hN 0 0 rfl rfl hl.1 rfl (Nat.le_of_ble_eq_true rfl) d_ms_doInstruction_12 ⟨Nat.zero_le _, Nat.zero_le _⟩ hS hA (fun j1 H locs hj2 hP hD hS => ?_)
  refine W.eq (g2 := F0 m 15 ls (.int 7 :: [])) (by rw [hc]) ?_
  refine lv_tableIn hx hb d_ms_doInstruction_15 (off := 150) (tgt := 165) (by decide) (by decide) rfl (by decide) ?_
  refine lv_aload_n hx hb d_ms_doInstruction_165 rfl (lv_at hl 0 rfl) ?_
  refine lv_aload_n hx hb d_ms_doInstruction_166 rfl (lv_at hl 0 rfl) ?_
  refine xw_wri (v := sp_dg (jx_ru j1 (jx_de j1).toNatClampNeg) (jx_nd j1 (jx_de j1).toNatClampNeg)) (u' := u) (As := []) (rest := [.ref (ad 0)]) ⟨hx, hb, hml, hown, hts⟩ (c_ms_takeDigit l D cs ad _ u j1  (by subst hj2; exact hd)) tb_272 tb_274 sl_7 tb_1 tb_275 ⟨rfl, hd_ms_takeDigit⟩ ⟨Nat.le_of_ble_eq_true rfl, Nat.le_of_ble_eq_true rfl⟩ rfl rfl hK hP hD hN 0 0 rfl rfl hl.1 rfl (Nat.le_of_ble_eq_true rfl) d_ms_doInstruction_167 ⟨Nat.zero_le _, Nat.zero_le _⟩ hS hA (fun j3 H locs hj4 hP hD hS => ?_)
  have hX5 : sp_dg (jx_ru j1 (jx_de j1).toNatClampNeg) (jx_nd j1 (jx_de j1).toNatClampNeg) = sp_dg (jx_ru j (jx_de j).toNatClampNeg) (jx_nd j (jx_de j).toNatClampNeg + 1) := by
    subst hj4
    subst hj2
    simp only [jx_nd, sx_nd, jx_de, sx_de, jx_ru, sx_ru, pk_us, up_uu]
  rw [hX5]
  refine xw_wrv (u' := u) (As := [.int (sp_dg (jx_ru j (jx_de j).toNatClampNeg) (jx_nd j (jx_de j).toNatClampNeg + 1))]) (rest := []) ⟨hx, hb, hml, hown, hts⟩ (c_ms_passOverIfZero l D cs ad _ u j3 (sp_dg (jx_ru j (jx_de j).toNatClampNeg) (jx_nd j (jx_de j).toNatClampNeg + 1)) (by subst hj4; subst hj2; exact hd)) tb_305 tb_307 sl_13 tb_1 tb_308 ⟨rfl, hd_ms_passOverIfZero⟩ ⟨Nat.le_of_ble_eq_true rfl, Nat.le_of_ble_eq_true rfl⟩ rfl rfl hK hP hD hN 0 0 rfl rfl hl.1 rfl (Nat.le_of_ble_eq_true rfl) d_ms_doInstruction_170 ⟨Nat.zero_le _, Nat.zero_le _⟩ hS hA (fun j6 H locs hj7 hP hD hS => ?_)
  refine lv_iconst (v := 0) hx hb d_ms_doInstruction_173 (by decide) ?_
  exact W.iret hx hb hret (fun t ht hW => ⟨⟨_, j6, rfl, ⟨rfl, (by subst hj7; subst hj4; subst hj2; exact ⟨by split <;> rfl, by by_cases z : sg_ac u = 0 <;> simp only [z, ↓reduceIte, jx_nd, sx_nd, jx_de, sx_de, jx_ru, sx_ru, pk_us, up_uu], by split <;> rfl⟩)⟩, by rw [ht]; exact hP, va_K.moved hW.alike hK, hD⟩, hS.F ht⟩) hS.2.2 d_ms_doInstruction_174
set_option maxHeartbeats 4000000 in
set_option maxRecDepth 100000 in
theorem c_do_8c (l : Launch) (D : va_G) (cs : Nat → ClassId) (ad : Nat → Nat) (sz : Nat) (u : Sg) (j : Jx)  (hs : sg_st u < 100) (hd : vp_in (jx_de j) 6) (hc : sp_dg (jx_ru j (jx_de j).toNatClampNeg) (jx_nd j (jx_de j).toNatClampNeg) = 8) (h : sp_lf (sg_ma u) = -1) : Met l y_ms_doInstruction (Cond.code y_ms_doInstruction b_ms_doInstruction 1 (some .int) :: TB) { frames := 5, cells := 0, slots := 0, locals := 120 } (va_Pc [.ref (ad 0)] (xw_Pre D cs ad u j sz)) (va_Qi (fun (r : Int32) (j1 : Jx) => r = 8 ∧ True) (fun (j1 : Jx) t => xw_B D cs ad (va_A (xw ad cs u j) sz) u j1 t) (va_A (xw ad cs u j) sz)) 0 0 (va_A (xw ad cs u j) sz) := by
  refine Met.ofW (cc := b_ms_doInstruction) (maxL := 1) (ret := (some .int)) (by decide) rfl ?_
  intro p e s m args below meth c s₁ B hml hv
  obtain ⟨rfl, hsz, hP, hK, hD, hN⟩ := hv
  have hx := B.exec
  have hb := B.bytes
  have hret := B.returns
  have hts := atoms_spec (ws := Cond.code y_ms_doInstruction b_ms_doInstruction 1 (some .int) :: TB) B.pre
  have hT : ∀ w ∈ TB, w.before _ s = true := fun w h => hts w (List.mem_cons_of_mem _ h)
  have hown : s.vm.findClass "MeasuredStages" = some m.cls := findClass_of_methodNamed B.named
  have hlocks := B.notSynchronized
  subst hsz
  have hD := hD.self (sz := s.heap.size)
  generalize hAe : va_A (xw ad cs u j) s.heap.size = A at hD ⊢
  have hA : ∀ q : Nat, s.heap.size ≤ q → A q := fun q h => by rw [← hAe]; exact Or.inr h
  have hS : va_S A s.heap s.heap [] := va_S.rf
  have hl := lv_entry ([.ref (ad 0)]) (n := 1) (Nat.le_of_ble_eq_true rfl)
  rw [lg_entry_eq]
  generalize (lg_sl ([.ref (ad 0)]) ++ List.replicate (1 - (lg_sl ([.ref (ad 0)])).length) Slot.unset).toArray = ls at hl ⊢
  have hl : lv_has ls 1 [(0, .ref (ad 0))] := hl
  skip
  refine lv_aload_n hx hb d_ms_doInstruction_0 rfl (lv_at hl 0 rfl) ?_
  refine va_get (D := D) (ci := 0) (v := .int (sg_st u)) (C := "MeasuredStages") (T := F_ms) (N := 12) hx hb hts (fun w h => List.mem_cons_of_mem _ (i_ms w h)) hown hK hP 0 rfl rfl 11 (by decide) (hT _ tb_80) (fun _ h9 => h9) rfl d_ms_doInstruction_1 ?_
  refine lv_bipush (v := 100) hx hb d_ms_doInstruction_4 (by decide) ?_
  refine lv_icmp_lt hx hb d_ms_doInstruction_6 (tgt := 11) (by decide) (fun _ => ?_) (fun z => absurd hs z)
  refine lv_aload_n hx hb d_ms_doInstruction_11 rfl (lv_at hl 0 rfl) ?_
  refine xw_wri (v := sp_dg (jx_ru j (jx_de j).toNatClampNeg) (jx_nd j (jx_de j).toNatClampNeg)) (u' := u) (As := []) (rest := []) ⟨hx, hb, hml, hown, hts⟩ (c_ms_takeDigit l D cs ad _ u j  hd) tb_272 tb_274 sl_7 tb_1 tb_275 ⟨rfl, hd_ms_takeDigit⟩ ⟨Nat.le_of_ble_eq_true rfl, Nat.le_of_ble_eq_true rfl⟩ rfl rfl hK hP hD hN 0 0 rfl rfl hl.1 rfl (Nat.le_of_ble_eq_true rfl) d_ms_doInstruction_12 ⟨Nat.zero_le _, Nat.zero_le _⟩ hS hA (fun j1 H locs hj2 hP hD hS => ?_)
  refine W.eq (g2 := F0 m 15 ls (.int 8 :: [])) (by rw [hc]) ?_
  refine lv_tableIn hx hb d_ms_doInstruction_15 (off := 160) (tgt := 175) (by decide) (by decide) rfl (by decide) ?_
  refine lv_aload_n hx hb d_ms_doInstruction_175 rfl (lv_at hl 0 rfl) ?_
  refine lv_aload_n hx hb d_ms_doInstruction_176 rfl (lv_at hl 0 rfl) ?_
  refine xw_wri (v := sp_dg (jx_ru j1 (jx_de j1).toNatClampNeg) (jx_nd j1 (jx_de j1).toNatClampNeg)) (u' := u) (As := []) (rest := [.ref (ad 0)]) ⟨hx, hb, hml, hown, hts⟩ (c_ms_takeDigit l D cs ad _ u j1  (by subst hj2; exact hd)) tb_272 tb_274 sl_7 tb_1 tb_275 ⟨rfl, hd_ms_takeDigit⟩ ⟨Nat.le_of_ble_eq_true rfl, Nat.le_of_ble_eq_true rfl⟩ rfl rfl hK hP hD hN 0 0 rfl rfl hl.1 rfl (Nat.le_of_ble_eq_true rfl) d_ms_doInstruction_177 ⟨Nat.zero_le _, Nat.zero_le _⟩ hS hA (fun j3 H locs hj4 hP hD hS => ?_)
  have hX5 : sp_dg (jx_ru j1 (jx_de j1).toNatClampNeg) (jx_nd j1 (jx_de j1).toNatClampNeg) = sp_dg (jx_ru j (jx_de j).toNatClampNeg) (jx_nd j (jx_de j).toNatClampNeg + 1) := by
    subst hj4
    subst hj2
    simp only [jx_nd, sx_nd, jx_de, sx_de, jx_ru, sx_ru, pk_us, up_uu]
  rw [hX5]
  refine lv_iconst (v := 1) hx hb d_ms_doInstruction_180 (by decide) ?_
  refine lv_iadd hx hb d_ms_doInstruction_181 ?_
  refine xw_rdi (v := 8) (As := [.int ((sp_dg (jx_ru j (jx_de j).toNatClampNeg) (jx_nd j (jx_de j).toNatClampNeg + 1)) + (1))]) (rest := []) ⟨hx, hb, hml, hown, hts⟩ (c_ms_sealAcc_c l D cs ad _ u j3 ((sp_dg (jx_ru j (jx_de j).toNatClampNeg) (jx_nd j (jx_de j).toNatClampNeg + 1)) + (1)) h) tb_309 tb_311 sl_14 tb_1 tb_312 ⟨rfl, hd_ms_sealAcc⟩ ⟨Nat.le_of_ble_eq_true rfl, Nat.le_of_ble_eq_true rfl⟩ rfl rfl hK hP hD hN 0 0 rfl rfl hl.1 rfl (Nat.le_of_ble_eq_true rfl) d_ms_doInstruction_182 ⟨Nat.zero_le _, Nat.zero_le _⟩ ?_
  exact W.iret hx hb hret (fun t ht hW => ⟨⟨_, j3, rfl, ⟨rfl, (by subst hj4; subst hj2; trivial)⟩, by rw [ht]; exact hP, va_K.moved hW.alike hK, hD⟩, hS.F ht⟩) hS.2.2 d_ms_doInstruction_185
set_option maxHeartbeats 4000000 in
set_option maxRecDepth 100000 in
theorem c_do_8t (l : Launch) (D : va_G) (cs : Nat → ClassId) (ad : Nat → Nat) (sz : Nat) (u : Sg) (j : Jx)  (hs : sg_st u < 100) (hd : vp_in (jx_de j) 6) (hc : sp_dg (jx_ru j (jx_de j).toNatClampNeg) (jx_nd j (jx_de j).toNatClampNeg) = 8) (hk : vp_in (sp_lf (sg_ma u)) 8) : Met l y_ms_doInstruction (Cond.code y_ms_doInstruction b_ms_doInstruction 1 (some .int) :: TB) { frames := 5, cells := 0, slots := 0, locals := 120 } (va_Pc [.ref (ad 0)] (xw_Pre D cs ad u j sz)) (va_Qi (fun (r : Int32) (j1 : Jx) => r = 0 ∧ jx_de j1 = jx_de j ∧ jx_nd j1 = (upd (jx_nd j) (jx_de j).toNatClampNeg (jx_nd j (jx_de j).toNatClampNeg + 1 + 1)) ∧ jx_ru j1 = jx_ru j) (fun (j1 : Jx) t => xw_B D cs ad (va_A (xw ad cs u j) sz) (sp_fi u (sp_lf (sg_ma u)) (sp_dg (jx_ru j (jx_de j).toNatClampNeg) (jx_nd j (jx_de j).toNatClampNeg + 1) + 1) (sg_ac u)) j1 t) (va_A (xw ad cs u j) sz)) 0 0 (va_A (xw ad cs u j) sz) := by
  refine Met.ofW (cc := b_ms_doInstruction) (maxL := 1) (ret := (some .int)) (by decide) rfl ?_
  intro p e s m args below meth c s₁ B hml hv
  obtain ⟨rfl, hsz, hP, hK, hD, hN⟩ := hv
  have hx := B.exec
  have hb := B.bytes
  have hret := B.returns
  have hts := atoms_spec (ws := Cond.code y_ms_doInstruction b_ms_doInstruction 1 (some .int) :: TB) B.pre
  have hT : ∀ w ∈ TB, w.before _ s = true := fun w h => hts w (List.mem_cons_of_mem _ h)
  have hown : s.vm.findClass "MeasuredStages" = some m.cls := findClass_of_methodNamed B.named
  have hlocks := B.notSynchronized
  subst hsz
  have hD := hD.self (sz := s.heap.size)
  generalize hAe : va_A (xw ad cs u j) s.heap.size = A at hD ⊢
  have hA : ∀ q : Nat, s.heap.size ≤ q → A q := fun q h => by rw [← hAe]; exact Or.inr h
  have hS : va_S A s.heap s.heap [] := va_S.rf
  have hl := lv_entry ([.ref (ad 0)]) (n := 1) (Nat.le_of_ble_eq_true rfl)
  rw [lg_entry_eq]
  generalize (lg_sl ([.ref (ad 0)]) ++ List.replicate (1 - (lg_sl ([.ref (ad 0)])).length) Slot.unset).toArray = ls at hl ⊢
  have hl : lv_has ls 1 [(0, .ref (ad 0))] := hl
  skip
  refine lv_aload_n hx hb d_ms_doInstruction_0 rfl (lv_at hl 0 rfl) ?_
  refine va_get (D := D) (ci := 0) (v := .int (sg_st u)) (C := "MeasuredStages") (T := F_ms) (N := 12) hx hb hts (fun w h => List.mem_cons_of_mem _ (i_ms w h)) hown hK hP 0 rfl rfl 11 (by decide) (hT _ tb_80) (fun _ h9 => h9) rfl d_ms_doInstruction_1 ?_
  refine lv_bipush (v := 100) hx hb d_ms_doInstruction_4 (by decide) ?_
  refine lv_icmp_lt hx hb d_ms_doInstruction_6 (tgt := 11) (by decide) (fun _ => ?_) (fun z => absurd hs z)
  refine lv_aload_n hx hb d_ms_doInstruction_11 rfl (lv_at hl 0 rfl) ?_
  refine xw_wri (v := sp_dg (jx_ru j (jx_de j).toNatClampNeg) (jx_nd j (jx_de j).toNatClampNeg)) (u' := u) (As := []) (rest := []) ⟨hx, hb, hml, hown, hts⟩ (c_ms_takeDigit l D cs ad _ u j  hd) tb_272 tb_274 sl_7 tb_1 tb_275 ⟨rfl, hd_ms_takeDigit⟩ ⟨Nat.le_of_ble_eq_true rfl, Nat.le_of_ble_eq_true rfl⟩ rfl rfl hK hP hD hN 0 0 rfl rfl hl.1 rfl (Nat.le_of_ble_eq_true rfl) d_ms_doInstruction_12 ⟨Nat.zero_le _, Nat.zero_le _⟩ hS hA (fun j1 H locs hj2 hP hD hS => ?_)
  refine W.eq (g2 := F0 m 15 ls (.int 8 :: [])) (by rw [hc]) ?_
  refine lv_tableIn hx hb d_ms_doInstruction_15 (off := 160) (tgt := 175) (by decide) (by decide) rfl (by decide) ?_
  refine lv_aload_n hx hb d_ms_doInstruction_175 rfl (lv_at hl 0 rfl) ?_
  refine lv_aload_n hx hb d_ms_doInstruction_176 rfl (lv_at hl 0 rfl) ?_
  refine xw_wri (v := sp_dg (jx_ru j1 (jx_de j1).toNatClampNeg) (jx_nd j1 (jx_de j1).toNatClampNeg)) (u' := u) (As := []) (rest := [.ref (ad 0)]) ⟨hx, hb, hml, hown, hts⟩ (c_ms_takeDigit l D cs ad _ u j1  (by subst hj2; exact hd)) tb_272 tb_274 sl_7 tb_1 tb_275 ⟨rfl, hd_ms_takeDigit⟩ ⟨Nat.le_of_ble_eq_true rfl, Nat.le_of_ble_eq_true rfl⟩ rfl rfl hK hP hD hN 0 0 rfl rfl hl.1 rfl (Nat.le_of_ble_eq_true rfl) d_ms_doInstruction_177 ⟨Nat.zero_le _, Nat.zero_le _⟩ hS hA (fun j3 H locs hj4 hP hD hS => ?_)
  have hX5 : sp_dg (jx_ru j1 (jx_de j1).toNatClampNeg) (jx_nd j1 (jx_de j1).toNatClampNeg) = sp_dg (jx_ru j (jx_de j).toNatClampNeg) (jx_nd j (jx_de j).toNatClampNeg + 1) := by
    subst hj4
    subst hj2
    simp only [jx_nd, sx_nd, jx_de, sx_de, jx_ru, sx_ru, pk_us, up_uu]
  rw [hX5]
  refine lv_iconst (v := 1) hx hb d_ms_doInstruction_180 (by decide) ?_
  refine lv_iadd hx hb d_ms_doInstruction_181 ?_
  refine xw_wri (v := 0) (u' := sp_fi u (sp_lf (sg_ma u)) ((sp_dg (jx_ru j (jx_de j).toNatClampNeg) (jx_nd j (jx_de j).toNatClampNeg + 1)) + (1)) (sg_ac u)) (As := [.int ((sp_dg (jx_ru j (jx_de j).toNatClampNeg) (jx_nd j (jx_de j).toNatClampNeg + 1)) + (1))]) (rest := []) ⟨hx, hb, hml, hown, hts⟩ (c_ms_sealAcc l D cs ad _ u j3 ((sp_dg (jx_ru j (jx_de j).toNatClampNeg) (jx_nd j (jx_de j).toNatClampNeg + 1)) + (1)) hk) tb_309 tb_311 sl_14 tb_1 tb_312 ⟨rfl, hd_ms_sealAcc⟩ ⟨Nat.le_of_ble_eq_true rfl, Nat.le_of_ble_eq_true rfl⟩ rfl rfl hK hP hD hN 0 0 rfl rfl hl.1 rfl (Nat.le_of_ble_eq_true rfl) d_ms_doInstruction_182 ⟨Nat.zero_le _, Nat.zero_le _⟩ hS hA (fun j6 H locs hj7 hP hD hS => ?_)
  obtain ⟨v8, ev8⟩ : ∃ z : Sg, z = sp_fi u (sp_lf (sg_ma u)) ((sp_dg (jx_ru j (jx_de j).toNatClampNeg) (jx_nd j (jx_de j).toNatClampNeg + 1)) + (1)) (sg_ac u) := ⟨_, rfl⟩
  rw [← ev8] at hP hD
  rw [hj7] at hP hD
  subst ev8
  exact W.iret hx hb hret (fun t ht hW => ⟨⟨_, j3, rfl, ⟨rfl, (by subst hj4; subst hj2; exact ⟨rfl, by first | rfl | simp only [jx_nd, sx_nd, jx_de, sx_de, jx_ru, sx_ru, pk_us, up_uu], rfl⟩)⟩, by rw [ht]; exact hP, va_K.moved hW.alike hK, hD⟩, hS.F ht⟩) hS.2.2 d_ms_doInstruction_185
set_option maxHeartbeats 4000000 in
set_option maxRecDepth 100000 in
theorem c_do_9 (l : Launch) (D : va_G) (cs : Nat → ClassId) (ad : Nat → Nat) (sz : Nat) (u : Sg) (j : Jx)  (hs : sg_st u < 100) (hd : vp_in (jx_de j) 6) (h9 : 8 < sp_dg (jx_ru j (jx_de j).toNatClampNeg) (jx_nd j (jx_de j).toNatClampNeg))  : Met l y_ms_doInstruction (Cond.code y_ms_doInstruction b_ms_doInstruction 1 (some .int) :: TB) { frames := 5, cells := 0, slots := 0, locals := 120 } (va_Pc [.ref (ad 0)] (xw_Pre D cs ad u j sz)) (va_Qi (fun (r : Int32) (j1 : Jx) => r = 1 ∧ True) (fun (j1 : Jx) t => xw_B D cs ad (va_A (xw ad cs u j) sz) u j1 t) (va_A (xw ad cs u j) sz)) 0 0 (va_A (xw ad cs u j) sz) := by
  refine Met.ofW (cc := b_ms_doInstruction) (maxL := 1) (ret := (some .int)) (by decide) rfl ?_
  intro p e s m args below meth c s₁ B hml hv
  obtain ⟨rfl, hsz, hP, hK, hD, hN⟩ := hv
  have hx := B.exec
  have hb := B.bytes
  have hret := B.returns
  have hts := atoms_spec (ws := Cond.code y_ms_doInstruction b_ms_doInstruction 1 (some .int) :: TB) B.pre
  have hT : ∀ w ∈ TB, w.before _ s = true := fun w h => hts w (List.mem_cons_of_mem _ h)
  have hown : s.vm.findClass "MeasuredStages" = some m.cls := findClass_of_methodNamed B.named
  have hlocks := B.notSynchronized
  subst hsz
  have hD := hD.self (sz := s.heap.size)
  generalize hAe : va_A (xw ad cs u j) s.heap.size = A at hD ⊢
  have hA : ∀ q : Nat, s.heap.size ≤ q → A q := fun q h => by rw [← hAe]; exact Or.inr h
  have hS : va_S A s.heap s.heap [] := va_S.rf
  have hl := lv_entry ([.ref (ad 0)]) (n := 1) (Nat.le_of_ble_eq_true rfl)
  rw [lg_entry_eq]
  generalize (lg_sl ([.ref (ad 0)]) ++ List.replicate (1 - (lg_sl ([.ref (ad 0)])).length) Slot.unset).toArray = ls at hl ⊢
  have hl : lv_has ls 1 [(0, .ref (ad 0))] := hl
  skip
  refine lv_aload_n hx hb d_ms_doInstruction_0 rfl (lv_at hl 0 rfl) ?_
  refine va_get (D := D) (ci := 0) (v := .int (sg_st u)) (C := "MeasuredStages") (T := F_ms) (N := 12) hx hb hts (fun w h => List.mem_cons_of_mem _ (i_ms w h)) hown hK hP 0 rfl rfl 11 (by decide) (hT _ tb_80) (fun _ h9 => h9) rfl d_ms_doInstruction_1 ?_
  refine lv_bipush (v := 100) hx hb d_ms_doInstruction_4 (by decide) ?_
  refine lv_icmp_lt hx hb d_ms_doInstruction_6 (tgt := 11) (by decide) (fun _ => ?_) (fun z => absurd hs z)
  refine lv_aload_n hx hb d_ms_doInstruction_11 rfl (lv_at hl 0 rfl) ?_
  refine xw_wri (v := sp_dg (jx_ru j (jx_de j).toNatClampNeg) (jx_nd j (jx_de j).toNatClampNeg)) (u' := u) (As := []) (rest := []) ⟨hx, hb, hml, hown, hts⟩ (c_ms_takeDigit l D cs ad _ u j  hd) tb_272 tb_274 sl_7 tb_1 tb_275 ⟨rfl, hd_ms_takeDigit⟩ ⟨Nat.le_of_ble_eq_true rfl, Nat.le_of_ble_eq_true rfl⟩ rfl rfl hK hP hD hN 0 0 rfl rfl hl.1 rfl (Nat.le_of_ble_eq_true rfl) d_ms_doInstruction_12 ⟨Nat.zero_le _, Nat.zero_le _⟩ hS hA (fun j1 H locs hj2 hP hD hS => ?_)
  refine lv_tableOut hx hb d_ms_doInstruction_15 (tgt := 186) (Or.inr (Int32.lt_iff_toInt_lt.mp h9)) (by decide) ?_
  refine lv_iconst (v := 1) hx hb d_ms_doInstruction_186 (by decide) ?_
  exact W.iret hx hb hret (fun t ht hW => ⟨⟨_, j1, rfl, ⟨rfl, (by subst hj2; trivial)⟩, by rw [ht]; exact hP, va_K.moved hW.alike hK, hD⟩, hS.F ht⟩) hS.2.2 d_ms_doInstruction_187
set_option maxHeartbeats 4000000 in
set_option maxRecDepth 100000 in
theorem c_do_tired (l : Launch) (D : va_G) (cs : Nat → ClassId) (ad : Nat → Nat) (sz : Nat) (u : Sg) (j : Jx)  (hs : ¬ sg_st u < 100) : Met l y_ms_doInstruction (Cond.code y_ms_doInstruction b_ms_doInstruction 1 (some .int) :: TB) { frames := 5, cells := 0, slots := 0, locals := 120 } (va_Pc [.ref (ad 0)] (xw_Pre D cs ad u j sz)) (vp_Si (fun r => r = 3)) 0 0 (fun _ => False) := by
  refine Met.ofW (cc := b_ms_doInstruction) (maxL := 1) (ret := (some .int)) (by decide) rfl ?_
  intro p e s m args below meth c s₁ B hml hv
  obtain ⟨rfl, hsz, hP, hK, hD, hN⟩ := hv
  have hx := B.exec
  have hb := B.bytes
  have hret := B.returns
  have hts := atoms_spec (ws := Cond.code y_ms_doInstruction b_ms_doInstruction 1 (some .int) :: TB) B.pre
  have hT : ∀ w ∈ TB, w.before _ s = true := fun w h => hts w (List.mem_cons_of_mem _ h)
  have hown : s.vm.findClass "MeasuredStages" = some m.cls := findClass_of_methodNamed B.named
  have hlocks := B.notSynchronized
  subst hsz
  have hl := lv_entry ([.ref (ad 0)]) (n := 1) (Nat.le_of_ble_eq_true rfl)
  rw [lg_entry_eq]
  generalize (lg_sl ([.ref (ad 0)]) ++ List.replicate (1 - (lg_sl ([.ref (ad 0)])).length) Slot.unset).toArray = ls at hl ⊢
  have hl : lv_has ls 1 [(0, .ref (ad 0))] := hl
  refine lv_aload_n hx hb d_ms_doInstruction_0 rfl (lv_at hl 0 rfl) ?_
  refine va_get (D := D) (ci := 0) (v := .int (sg_st u)) (C := "MeasuredStages") (T := F_ms) (N := 12) hx hb hts (fun w h => List.mem_cons_of_mem _ (i_ms w h)) hown hK hP 0 rfl rfl 11 (by decide) (hT _ tb_80) (fun _ h9 => h9) rfl d_ms_doInstruction_1 ?_
  refine lv_bipush (v := 100) hx hb d_ms_doInstruction_4 (by decide) ?_
  refine lv_icmp_lt hx hb d_ms_doInstruction_6 (tgt := 11) (by decide) (fun z => absurd z hs) (fun _ => ?_)
  refine lv_iconst (v := 3) hx hb d_ms_doInstruction_9 (by decide) ?_
  exact W.iret (v := 3) hx hb hret (fun t ht hW => ⟨_, rfl, rfl, ht⟩) (fun q h => by cases h) d_ms_doInstruction_10
end
section
theorem mt_mono {l : Launch} {y : MethodName} {ws : List Cond} {rm : Room} {Pc : Array Value → State → Prop} {Qc Qc' : Array Value → State → Outcome → State → Prop} {mc ms : Nat} {free : Addr → Prop} (h : Met l y ws rm Pc Qc mc ms free) (hQ : ∀ a st o t, Qc a st o t → Qc' a st o t) : Met l y ws rm Pc Qc' mc ms free := by
  intro p e ha hc hk s m args below hf happ hP hK
  obtain ⟨n, o, h1, h2, h3, h4, h5⟩ := h p e ha hc hk s m args below hf happ hP hK
  exact ⟨n, o, h1, h2, h3, hQ _ _ _ _ h4, h5⟩
/-- the class's rows for a boot hold what the boot b says -/
def xj (b : Bt) (j : Jx) : Prop := jx_de j = b.2.1 ∧ jx_nd j = b.2.2.2 ∧ ∀ k : Nat, k ≤ b.2.1.toNatClampNeg → jx_ru j k = sg_im b.1 (b.2.2.1 k).toNatClampNeg
theorem fo_0 (u : Sg) (x d : Int32) : sp_fo u 0 x d = 0 := by simp [sp_fo]
theorem fo_1 (u : Sg) (x d : Int32) : sp_fo u 1 x d = if d = 5 then 2 else if sg_en u = 32 then 4 else 0 := by simp [sp_fo]
theorem fo_2 (u : Sg) (x d : Int32) : sp_fo u 2 x d = if sg_en u = 32 then 4 else 0 := by simp [sp_fo]
theorem fo_3 (u : Sg) (x d : Int32) : sp_fo u 3 x d = if sp_ia u (sp_rm x 8) = 1 then 0 else 5 := by
  unfold sp_ia
  by_cases h : sg_ap u (sp_rm x 8).toNatClampNeg = 0
  · simp [sp_fo, h]
  · by_cases h2 : sg_ag u (sp_rm x 8).toNatClampNeg = sp_di u (sp_rm x 8)
    · simp [sp_fo, h, h2]
    · simp [sp_fo, h, h2]
theorem tk_in {ma : Nat → Int32} {k : Int32} (h : vp_in k 8) : sp_tk ma k = if ma k.toNatClampNeg = 0 then 0 else 1 := by
  unfold sp_tk
  rw [if_neg (xn_ge h), if_neg (show ¬ (8 : Int32) ≤ k from xn_nle (k := 8) (by decide) h)]
theorem fo_4 (u : Sg) (x d : Int32) (hk : vp_in (sp_rm x 8) 8) : sp_fo u 4 x d = if sp_tk (sg_ma u) (sp_rm x 8) = 0 then 6 else if sp_on u (sp_rm x 8) = 1 then 0 else 7 := by
  rw [tk_in hk]
  unfold sp_on
  by_cases h : sg_ma u (sp_rm x 8).toNatClampNeg = 0
  · simp [sp_fo, h]
  · by_cases h2 : sg_po u (sp_rm x 8).toNatClampNeg = sp_po u (sg_ma u (sp_rm x 8).toNatClampNeg)
    · simp [sp_fo, h, h2]
    · simp [sp_fo, h, h2]
theorem fo_5 (u : Sg) (x d : Int32) : sp_fo u 5 x d = 0 := by simp [sp_fo]
theorem fo_6 (u : Sg) (x d : Int32) : sp_fo u 6 x d = if sg_en u = 32 then 4 else 0 := by simp [sp_fo]
theorem fo_7 (u : Sg) (x d : Int32) : sp_fo u 7 x d = 0 := by simp [sp_fo]
theorem fo_8 (u : Sg) (x d : Int32) : sp_fo u 8 x d = if sp_lf (sg_ma u) < 0 then 8 else 0 := by simp [sp_fo]
theorem fo_9 (u : Sg) (c x d : Int32) (h : 8 < c) : sp_fo u c x d = 1 := by simp [sp_fo, h]
theorem ac_0 (b : Bt) (x y d : Int32) : sp_ac b 0 x y d = (b.1, d - 1, b.2.2.1, b.2.2.2) := by simp [sp_ac]
theorem ac_1 (b : Bt) (x y d : Int32) : sp_ac b 1 x y d = sp_la b (sp_rm x 8) (d + 1) := by simp [sp_ac]
theorem ac_2 (b : Bt) (x y d : Int32) : sp_ac b 2 x y d = (sp_no b.1 (sp_rm x 6) y.toInt64, b.2) := by simp [sp_ac]
theorem ac_3 (b : Bt) (x y d : Int32) : sp_ac b 3 x y d = b := by simp [sp_ac]
theorem ac_4 (b : Bt) (x y d : Int32) : sp_ac b 4 x y d = (ss_ac b.1 (sg_se b.1 (sp_rm x 8).toNatClampNeg), b.2) := by simp [sp_ac]
theorem ac_5 (b : Bt) (x y d : Int32) : sp_ac b 5 x y d = (ss_ac b.1 (sp_h (sg_ac b.1) x.toInt64), b.2) := by simp [sp_ac]
theorem ac_6 (b : Bt) (x y d : Int32) : sp_ac b 6 x y d = (sp_no b.1 (sp_rm x 6) (sg_ac b.1), b.2) := by simp [sp_ac]
theorem ac_7 (b : Bt) (x y d : Int32) : sp_ac b 7 x y d = (b.1, b.2.1, b.2.2.1, if sg_ac b.1 = 0 then upd b.2.2.2 d.toNatClampNeg (b.2.2.2 d.toNatClampNeg + x) else b.2.2.2) := by simp [sp_ac]
theorem ac_8 (b : Bt) (x y d : Int32) : sp_ac b 8 x y d = (sp_fi b.1 (sp_lf (sg_ma b.1)) (x + 1) (sg_ac b.1), b.2) := by simp [sp_ac]
theorem i32_12 (a : Int32) : a + 1 + 1 = a + 2 := by rw [Int32.add_assoc]; rfl
theorem i32_123 (a : Int32) : a + 1 + 1 + 1 = a + 1 + 2 := by rw [Int32.add_assoc (a + 1) 1 1]; rfl
theorem i32_0 (a : Int32) : a + 0 = a := Int32.add_zero a
/-- a depth above which there is one more -/
theorem de_up {d : Int32} (h : vp_in d 6) (h5 : ¬ d = 5) : vp_in (d + 1) 6 := by
  obtain ⟨k, hk, rfl⟩ := vp_in_of h (by decide)
  rw [nI_1]
  refine vp_in_nI ?_ (by decide)
  have : k ≠ 5 := fun z => h5 (by rw [z]; rfl)
  omega
theorem de_5 {d : Int32} (h : d = 5) : 6 ≤ d + 1 := by rw [h]; decide
theorem de_c {d : Int32} (h : vp_in d 6) (h5 : ¬ d = 5) : (d + 1).toNatClampNeg = d.toNatClampNeg + 1 := by
  obtain ⟨k, hk, rfl⟩ := vp_in_of h (by decide)
  rw [nI_1, nI_clamp (by omega), nI_clamp (by omega)]
theorem de_d {d : Int32} (h : vp_in d 6) : (d - 1).toNatClampNeg ≤ d.toNatClampNeg := by
  obtain ⟨k, hk, rfl⟩ := vp_in_of h (by decide)
  rcases (show k = 0 ∨ k = 1 ∨ k = 2 ∨ k = 3 ∨ k = 4 ∨ k = 5 by omega) with h | h | h | h | h | h <;> subst h <;> decide
theorem en_in {u : Sg} (h : sp_ok u) (h2 : ¬ sg_en u = 32) : vp_in (sg_en u) 32 := by
  obtain ⟨⟨n, hn, e⟩, -⟩ := h
  rw [e] at h2 ⊢
  refine vp_in_nI ?_ (by decide)
  have : n ≠ 32 := fun z => h2 (by rw [z]; rfl)
  omega
theorem lf_in {ma : Nat → Int32} (h : ¬ sp_lf ma < 0) : vp_in (sp_lf ma) 8 := by
  rcases sp_lf_cases ma with e | ⟨k, hk, e⟩
  · exact absurd (by rw [e]; decide) h
  · rw [e]; exact vp_in_nI hk (by decide)
theorem lf_m1 {ma : Nat → Int32} (h : sp_lf ma < 0) : sp_lf ma = -1 := by
  rcases sp_lf_cases ma with e | ⟨k, hk, e⟩
  · exact e
  · rw [e] at h; exact absurd h (nI_pos (by omega))
theorem tk_01 (ma : Nat → Int32) (k : Int32) : sp_tk ma k = 0 ∨ sp_tk ma k = 1 := by
  unfold sp_tk
  split
  · exact Or.inl rfl
  split
  · exact Or.inl rfl
  split
  · exact Or.inl rfl
  · exact Or.inr rfl
theorem on_01 (u : Sg) (k : Int32) : sp_on u k = 0 ∨ sp_on u k = 1 := by
  unfold sp_on
  split
  · exact Or.inr rfl
  · exact Or.inl rfl
theorem ia_01 (u : Sg) (k : Int32) : sp_ia u k = 0 ∨ sp_ia u k = 1 := by
  unfold sp_ia
  split
  · exact Or.inl rfl
  split
  · exact Or.inr rfl
  · exact Or.inl rfl
theorem im_ac (u : Sg) (x : Int64) : sg_im (ss_ac u x) = sg_im u := rfl
set_option maxHeartbeats 4000000 in
/-- an instruction of code 0 without a fault -/
theorem c_ok_0 (l : Launch) (D : va_G) (cs : Nat → ClassId) (ad : Nat → Nat) (sz : Nat) (b : Bt) (j : Jx) (hs : sg_st b.1 < 100) (hd : vp_in b.2.1 6) (hok : sp_ok b.1) (hJ : xj b j) (hf : sp_if b = 0) (hc : sp_c0 b = 0) : Met l y_ms_doInstruction (Cond.code y_ms_doInstruction b_ms_doInstruction 1 (some .int) :: TB) { frames := 5, cells := 0, slots := 0, locals := 120 } (va_Pc [.ref (ad 0)] (xw_Pre D cs ad b.1 j sz)) (va_Qi (fun (r : Int32) (j1 : Jx) => r = 0 ∧ xj (sp_in b) j1) (fun (j1 : Jx) t => xw_B D cs ad (va_A (xw ad cs b.1 j) sz) (sp_in b).1 j1 t) (va_A (xw ad cs b.1 j) sz)) 0 0 (va_A (xw ad cs b.1 j) sz) := by
  have hd' : vp_in (jx_de j) 6 := by rw [hJ.1]; exact hd
  have g0 : sp_dg (jx_ru j (jx_de j).toNatClampNeg) (jx_nd j (jx_de j).toNatClampNeg) = sp_c0 b := by
    unfold sp_c0; rw [hJ.1, hJ.2.1, hJ.2.2 _ (Nat.le_refl _)]
  have g1 : sp_dg (jx_ru j (jx_de j).toNatClampNeg) (jx_nd j (jx_de j).toNatClampNeg + 1) = sp_c1 b := by
    unfold sp_c1; rw [hJ.1, hJ.2.1, hJ.2.2 _ (Nat.le_refl _)]
  have g2 : sp_dg (jx_ru j (jx_de j).toNatClampNeg) (jx_nd j (jx_de j).toNatClampNeg + 1 + 1) = sp_c2 b := by
    unfold sp_c2; rw [hJ.1, hJ.2.1, hJ.2.2 _ (Nat.le_refl _), i32_12]
  have r8 : vp_in (sp_rm (sp_c1 b) 8) 8 := sp_rd8 _ _
  unfold sp_if at hf
  rw [hc] at hf g0
  · skip
    refine mt_mono (c_do_0 l D cs ad sz b.1 j hs hd' g0) ?_
    intro a st o t hq
    have e : sp_in b = sp_ac (b.1, b.2.1, b.2.2.1, upd b.2.2.2 b.2.1.toNatClampNeg (b.2.2.2 b.2.1.toNatClampNeg + 1 + sp_op 0)) 0 (sp_c1 b) (sp_c2 b) b.2.1 := by unfold sp_in; rw [hc]
    rw [ac_0] at e
    rw [e]
    obtain ⟨⟨r, j1, q1, ⟨q2, q3, q4, q5⟩, hB⟩, hF⟩ := hq
    exact ⟨⟨r, j1, q1, ⟨q2, by rw [q3, hJ.1], by rw [q4, hJ.1, hJ.2.1]; exact congrArg _ (i32_0 _).symm, fun k hk => by rw [q5]; exact hJ.2.2 k (Nat.le_trans hk (de_d hd))⟩, hB⟩, hF⟩
set_option maxHeartbeats 4000000 in
/-- an instruction of code 1 without a fault -/
theorem c_ok_1 (l : Launch) (D : va_G) (cs : Nat → ClassId) (ad : Nat → Nat) (sz : Nat) (b : Bt) (j : Jx) (hs : sg_st b.1 < 100) (hd : vp_in b.2.1 6) (hok : sp_ok b.1) (hJ : xj b j) (hf : sp_if b = 0) (hc : sp_c0 b = 1) : Met l y_ms_doInstruction (Cond.code y_ms_doInstruction b_ms_doInstruction 1 (some .int) :: TB) { frames := 5, cells := 0, slots := 0, locals := 120 } (va_Pc [.ref (ad 0)] (xw_Pre D cs ad b.1 j sz)) (va_Qi (fun (r : Int32) (j1 : Jx) => r = 0 ∧ xj (sp_in b) j1) (fun (j1 : Jx) t => xw_B D cs ad (va_A (xw ad cs b.1 j) sz) (sp_in b).1 j1 t) (va_A (xw ad cs b.1 j) sz)) 0 0 (va_A (xw ad cs b.1 j) sz) := by
  have hd' : vp_in (jx_de j) 6 := by rw [hJ.1]; exact hd
  have g0 : sp_dg (jx_ru j (jx_de j).toNatClampNeg) (jx_nd j (jx_de j).toNatClampNeg) = sp_c0 b := by
    unfold sp_c0; rw [hJ.1, hJ.2.1, hJ.2.2 _ (Nat.le_refl _)]
  have g1 : sp_dg (jx_ru j (jx_de j).toNatClampNeg) (jx_nd j (jx_de j).toNatClampNeg + 1) = sp_c1 b := by
    unfold sp_c1; rw [hJ.1, hJ.2.1, hJ.2.2 _ (Nat.le_refl _)]
  have g2 : sp_dg (jx_ru j (jx_de j).toNatClampNeg) (jx_nd j (jx_de j).toNatClampNeg + 1 + 1) = sp_c2 b := by
    unfold sp_c2; rw [hJ.1, hJ.2.1, hJ.2.2 _ (Nat.le_refl _), i32_12]
  have r8 : vp_in (sp_rm (sp_c1 b) 8) 8 := sp_rd8 _ _
  unfold sp_if at hf
  rw [hc] at hf g0
  · skip
    rw [fo_1] at hf
    have h5 : ¬ b.2.1 = 5 := fun z => by rw [if_pos z] at hf; exact absurd hf (by decide)
    rw [if_neg h5] at hf
    have he : ¬ sg_en b.1 = 32 := fun z => by rw [if_pos z] at hf; exact absurd hf (by decide)
    refine mt_mono (c_do_1t l D cs ad sz b.1 j hs hd' g0 (by rw [hJ.1]; exact de_up hd h5) (en_in hok he)) ?_
    intro a st o t hq
    have e : sp_in b = sp_ac (b.1, b.2.1, b.2.2.1, upd b.2.2.2 b.2.1.toNatClampNeg (b.2.2.2 b.2.1.toNatClampNeg + 1 + sp_op 1)) 1 (sp_c1 b) (sp_c2 b) b.2.1 := by unfold sp_in; rw [hc]
    rw [ac_1] at e
    rw [e]
    obtain ⟨⟨r, j1, q1, ⟨q2, q3, q4, q5⟩, hB⟩, hF⟩ := hq
    rw [g1] at hB q5
    rw [hJ.1] at hB q5 q4 q3
    rw [hJ.2.1] at q4
    refine ⟨⟨r, j1, q1, ⟨q2, q3, q4, fun k hk => ?_⟩, hB⟩, hF⟩
    have hk : k ≤ (b.2.1 + 1).toNatClampNeg := hk
    rw [q5]
    show vp_updL (jx_ru j) (b.2.1 + 1).toNatClampNeg _ k = sg_im b.1 (upd b.2.2.1 (b.2.1 + 1).toNatClampNeg _ k).toNatClampNeg
    by_cases z : k = (b.2.1 + 1).toNatClampNeg
    · rw [z, pk_uLs, pk_us]
    · rw [pk_uLn z, pk_un z]
      exact hJ.2.2 k (by rw [de_c hd h5] at hk z; omega)
set_option maxHeartbeats 4000000 in
/-- an instruction of code 2 without a fault -/
theorem c_ok_2 (l : Launch) (D : va_G) (cs : Nat → ClassId) (ad : Nat → Nat) (sz : Nat) (b : Bt) (j : Jx) (hs : sg_st b.1 < 100) (hd : vp_in b.2.1 6) (hok : sp_ok b.1) (hJ : xj b j) (hf : sp_if b = 0) (hc : sp_c0 b = 2) : Met l y_ms_doInstruction (Cond.code y_ms_doInstruction b_ms_doInstruction 1 (some .int) :: TB) { frames := 5, cells := 0, slots := 0, locals := 120 } (va_Pc [.ref (ad 0)] (xw_Pre D cs ad b.1 j sz)) (va_Qi (fun (r : Int32) (j1 : Jx) => r = 0 ∧ xj (sp_in b) j1) (fun (j1 : Jx) t => xw_B D cs ad (va_A (xw ad cs b.1 j) sz) (sp_in b).1 j1 t) (va_A (xw ad cs b.1 j) sz)) 0 0 (va_A (xw ad cs b.1 j) sz) := by
  have hd' : vp_in (jx_de j) 6 := by rw [hJ.1]; exact hd
  have g0 : sp_dg (jx_ru j (jx_de j).toNatClampNeg) (jx_nd j (jx_de j).toNatClampNeg) = sp_c0 b := by
    unfold sp_c0; rw [hJ.1, hJ.2.1, hJ.2.2 _ (Nat.le_refl _)]
  have g1 : sp_dg (jx_ru j (jx_de j).toNatClampNeg) (jx_nd j (jx_de j).toNatClampNeg + 1) = sp_c1 b := by
    unfold sp_c1; rw [hJ.1, hJ.2.1, hJ.2.2 _ (Nat.le_refl _)]
  have g2 : sp_dg (jx_ru j (jx_de j).toNatClampNeg) (jx_nd j (jx_de j).toNatClampNeg + 1 + 1) = sp_c2 b := by
    unfold sp_c2; rw [hJ.1, hJ.2.1, hJ.2.2 _ (Nat.le_refl _), i32_12]
  have r8 : vp_in (sp_rm (sp_c1 b) 8) 8 := sp_rd8 _ _
  unfold sp_if at hf
  rw [hc] at hf g0
  · skip
    rw [fo_2] at hf
    have he : ¬ sg_en b.1 = 32 := fun z => by rw [if_pos z] at hf; exact absurd hf (by decide)
    refine mt_mono (c_do_2t l D cs ad sz b.1 j hs hd' g0 (en_in hok he)) ?_
    intro a st o t hq
    have e : sp_in b = sp_ac (b.1, b.2.1, b.2.2.1, upd b.2.2.2 b.2.1.toNatClampNeg (b.2.2.2 b.2.1.toNatClampNeg + 1 + sp_op 2)) 2 (sp_c1 b) (sp_c2 b) b.2.1 := by unfold sp_in; rw [hc]
    rw [ac_2] at e
    rw [e]
    obtain ⟨⟨r, j1, q1, ⟨q2, q3, q4, q5⟩, hB⟩, hF⟩ := hq
    rw [g1, g2] at hB
    exact ⟨⟨r, j1, q1, ⟨q2, by rw [q3, hJ.1], by rw [q4, hJ.1, hJ.2.1, i32_123]; rfl, fun k hk => by rw [q5]; exact hJ.2.2 k hk⟩, hB⟩, hF⟩
set_option maxHeartbeats 4000000 in
/-- an instruction of code 3 without a fault -/
theorem c_ok_3 (l : Launch) (D : va_G) (cs : Nat → ClassId) (ad : Nat → Nat) (sz : Nat) (b : Bt) (j : Jx) (hs : sg_st b.1 < 100) (hd : vp_in b.2.1 6) (hok : sp_ok b.1) (hJ : xj b j) (hf : sp_if b = 0) (hc : sp_c0 b = 3) : Met l y_ms_doInstruction (Cond.code y_ms_doInstruction b_ms_doInstruction 1 (some .int) :: TB) { frames := 5, cells := 0, slots := 0, locals := 120 } (va_Pc [.ref (ad 0)] (xw_Pre D cs ad b.1 j sz)) (va_Qi (fun (r : Int32) (j1 : Jx) => r = 0 ∧ xj (sp_in b) j1) (fun (j1 : Jx) t => xw_B D cs ad (va_A (xw ad cs b.1 j) sz) (sp_in b).1 j1 t) (va_A (xw ad cs b.1 j) sz)) 0 0 (va_A (xw ad cs b.1 j) sz) := by
  have hd' : vp_in (jx_de j) 6 := by rw [hJ.1]; exact hd
  have g0 : sp_dg (jx_ru j (jx_de j).toNatClampNeg) (jx_nd j (jx_de j).toNatClampNeg) = sp_c0 b := by
    unfold sp_c0; rw [hJ.1, hJ.2.1, hJ.2.2 _ (Nat.le_refl _)]
  have g1 : sp_dg (jx_ru j (jx_de j).toNatClampNeg) (jx_nd j (jx_de j).toNatClampNeg + 1) = sp_c1 b := by
    unfold sp_c1; rw [hJ.1, hJ.2.1, hJ.2.2 _ (Nat.le_refl _)]
  have g2 : sp_dg (jx_ru j (jx_de j).toNatClampNeg) (jx_nd j (jx_de j).toNatClampNeg + 1 + 1) = sp_c2 b := by
    unfold sp_c2; rw [hJ.1, hJ.2.1, hJ.2.2 _ (Nat.le_refl _), i32_12]
  have r8 : vp_in (sp_rm (sp_c1 b) 8) 8 := sp_rd8 _ _
  unfold sp_if at hf
  rw [hc] at hf g0
  · skip
    rw [fo_3] at hf
    have h1 : sp_ia b.1 (sp_rm (sp_c1 b) 8) = 1 := by
      rcases ia_01 b.1 (sp_rm (sp_c1 b) 8) with z | z
      · rw [z, if_neg (by decide)] at hf; exact absurd hf (by decide)
      · exact z
    refine mt_mono (c_do_3t l D cs ad sz b.1 j hs hd' g0 (by rw [g1]; exact h1)) ?_
    intro a st o t hq
    have e : sp_in b = sp_ac (b.1, b.2.1, b.2.2.1, upd b.2.2.2 b.2.1.toNatClampNeg (b.2.2.2 b.2.1.toNatClampNeg + 1 + sp_op 3)) 3 (sp_c1 b) (sp_c2 b) b.2.1 := by unfold sp_in; rw [hc]
    rw [ac_3] at e
    rw [e]
    obtain ⟨⟨r, j1, q1, ⟨q2, q3, q4, q5⟩, hB⟩, hF⟩ := hq
    exact ⟨⟨r, j1, q1, ⟨q2, by rw [q3, hJ.1], by rw [q4, hJ.1, hJ.2.1]; rfl, fun k hk => by rw [q5]; exact hJ.2.2 k hk⟩, hB⟩, hF⟩
set_option maxHeartbeats 4000000 in
/-- an instruction of code 4 without a fault -/
theorem c_ok_4 (l : Launch) (D : va_G) (cs : Nat → ClassId) (ad : Nat → Nat) (sz : Nat) (b : Bt) (j : Jx) (hs : sg_st b.1 < 100) (hd : vp_in b.2.1 6) (hok : sp_ok b.1) (hJ : xj b j) (hf : sp_if b = 0) (hc : sp_c0 b = 4) : Met l y_ms_doInstruction (Cond.code y_ms_doInstruction b_ms_doInstruction 1 (some .int) :: TB) { frames := 5, cells := 0, slots := 0, locals := 120 } (va_Pc [.ref (ad 0)] (xw_Pre D cs ad b.1 j sz)) (va_Qi (fun (r : Int32) (j1 : Jx) => r = 0 ∧ xj (sp_in b) j1) (fun (j1 : Jx) t => xw_B D cs ad (va_A (xw ad cs b.1 j) sz) (sp_in b).1 j1 t) (va_A (xw ad cs b.1 j) sz)) 0 0 (va_A (xw ad cs b.1 j) sz) := by
  have hd' : vp_in (jx_de j) 6 := by rw [hJ.1]; exact hd
  have g0 : sp_dg (jx_ru j (jx_de j).toNatClampNeg) (jx_nd j (jx_de j).toNatClampNeg) = sp_c0 b := by
    unfold sp_c0; rw [hJ.1, hJ.2.1, hJ.2.2 _ (Nat.le_refl _)]
  have g1 : sp_dg (jx_ru j (jx_de j).toNatClampNeg) (jx_nd j (jx_de j).toNatClampNeg + 1) = sp_c1 b := by
    unfold sp_c1; rw [hJ.1, hJ.2.1, hJ.2.2 _ (Nat.le_refl _)]
  have g2 : sp_dg (jx_ru j (jx_de j).toNatClampNeg) (jx_nd j (jx_de j).toNatClampNeg + 1 + 1) = sp_c2 b := by
    unfold sp_c2; rw [hJ.1, hJ.2.1, hJ.2.2 _ (Nat.le_refl _), i32_12]
  have r8 : vp_in (sp_rm (sp_c1 b) 8) 8 := sp_rd8 _ _
  unfold sp_if at hf
  rw [hc] at hf g0
  · skip
    rw [fo_4 _ _ _ r8] at hf
    have h1 : sp_tk (sg_ma b.1) (sp_rm (sp_c1 b) 8) = 1 := by
      rcases tk_01 (sg_ma b.1) (sp_rm (sp_c1 b) 8) with z | z
      · rw [z, if_pos rfl] at hf; exact absurd hf (by decide)
      · exact z
    rw [h1, if_neg (by decide)] at hf
    have h2 : sp_on b.1 (sp_rm (sp_c1 b) 8) = 1 := by
      rcases on_01 b.1 (sp_rm (sp_c1 b) 8) with z | z
      · rw [z, if_neg (by decide)] at hf; exact absurd hf (by decide)
      · exact z
    refine mt_mono (c_do_4t l D cs ad sz b.1 j hs hd' g0 (by rw [g1]; exact h1) (by rw [g1]; exact h2)) ?_
    intro a st o t hq
    have e : sp_in b = sp_ac (b.1, b.2.1, b.2.2.1, upd b.2.2.2 b.2.1.toNatClampNeg (b.2.2.2 b.2.1.toNatClampNeg + 1 + sp_op 4)) 4 (sp_c1 b) (sp_c2 b) b.2.1 := by unfold sp_in; rw [hc]
    rw [ac_4] at e
    rw [e]
    obtain ⟨⟨r, j1, q1, ⟨q2, q3, q4, q5⟩, hB⟩, hF⟩ := hq
    rw [g1] at hB
    exact ⟨⟨r, j1, q1, ⟨q2, by rw [q3, hJ.1], by rw [q4, hJ.1, hJ.2.1]; rfl, fun k hk => by rw [q5]; exact hJ.2.2 k hk⟩, hB⟩, hF⟩
set_option maxHeartbeats 4000000 in
/-- an instruction of code 5 without a fault -/
theorem c_ok_5 (l : Launch) (D : va_G) (cs : Nat → ClassId) (ad : Nat → Nat) (sz : Nat) (b : Bt) (j : Jx) (hs : sg_st b.1 < 100) (hd : vp_in b.2.1 6) (hok : sp_ok b.1) (hJ : xj b j) (hf : sp_if b = 0) (hc : sp_c0 b = 5) : Met l y_ms_doInstruction (Cond.code y_ms_doInstruction b_ms_doInstruction 1 (some .int) :: TB) { frames := 5, cells := 0, slots := 0, locals := 120 } (va_Pc [.ref (ad 0)] (xw_Pre D cs ad b.1 j sz)) (va_Qi (fun (r : Int32) (j1 : Jx) => r = 0 ∧ xj (sp_in b) j1) (fun (j1 : Jx) t => xw_B D cs ad (va_A (xw ad cs b.1 j) sz) (sp_in b).1 j1 t) (va_A (xw ad cs b.1 j) sz)) 0 0 (va_A (xw ad cs b.1 j) sz) := by
  have hd' : vp_in (jx_de j) 6 := by rw [hJ.1]; exact hd
  have g0 : sp_dg (jx_ru j (jx_de j).toNatClampNeg) (jx_nd j (jx_de j).toNatClampNeg) = sp_c0 b := by
    unfold sp_c0; rw [hJ.1, hJ.2.1, hJ.2.2 _ (Nat.le_refl _)]
  have g1 : sp_dg (jx_ru j (jx_de j).toNatClampNeg) (jx_nd j (jx_de j).toNatClampNeg + 1) = sp_c1 b := by
    unfold sp_c1; rw [hJ.1, hJ.2.1, hJ.2.2 _ (Nat.le_refl _)]
  have g2 : sp_dg (jx_ru j (jx_de j).toNatClampNeg) (jx_nd j (jx_de j).toNatClampNeg + 1 + 1) = sp_c2 b := by
    unfold sp_c2; rw [hJ.1, hJ.2.1, hJ.2.2 _ (Nat.le_refl _), i32_12]
  have r8 : vp_in (sp_rm (sp_c1 b) 8) 8 := sp_rd8 _ _
  unfold sp_if at hf
  rw [hc] at hf g0
  · skip
    refine mt_mono (c_do_5 l D cs ad sz b.1 j hs hd' g0) ?_
    intro a st o t hq
    have e : sp_in b = sp_ac (b.1, b.2.1, b.2.2.1, upd b.2.2.2 b.2.1.toNatClampNeg (b.2.2.2 b.2.1.toNatClampNeg + 1 + sp_op 5)) 5 (sp_c1 b) (sp_c2 b) b.2.1 := by unfold sp_in; rw [hc]
    rw [ac_5] at e
    rw [e]
    obtain ⟨⟨r, j1, q1, ⟨q2, q3, q4, q5⟩, hB⟩, hF⟩ := hq
    rw [g1] at hB
    exact ⟨⟨r, j1, q1, ⟨q2, by rw [q3, hJ.1], by rw [q4, hJ.1, hJ.2.1]; rfl, fun k hk => by rw [q5]; exact (hJ.2.2 k hk).trans (congrFun (im_ac b.1 (sp_h (sg_ac b.1) (sp_c1 b).toInt64)).symm _)⟩, hB⟩, hF⟩
set_option maxHeartbeats 4000000 in
/-- an instruction of code 6 without a fault -/
theorem c_ok_6 (l : Launch) (D : va_G) (cs : Nat → ClassId) (ad : Nat → Nat) (sz : Nat) (b : Bt) (j : Jx) (hs : sg_st b.1 < 100) (hd : vp_in b.2.1 6) (hok : sp_ok b.1) (hJ : xj b j) (hf : sp_if b = 0) (hc : sp_c0 b = 6) : Met l y_ms_doInstruction (Cond.code y_ms_doInstruction b_ms_doInstruction 1 (some .int) :: TB) { frames := 5, cells := 0, slots := 0, locals := 120 } (va_Pc [.ref (ad 0)] (xw_Pre D cs ad b.1 j sz)) (va_Qi (fun (r : Int32) (j1 : Jx) => r = 0 ∧ xj (sp_in b) j1) (fun (j1 : Jx) t => xw_B D cs ad (va_A (xw ad cs b.1 j) sz) (sp_in b).1 j1 t) (va_A (xw ad cs b.1 j) sz)) 0 0 (va_A (xw ad cs b.1 j) sz) := by
  have hd' : vp_in (jx_de j) 6 := by rw [hJ.1]; exact hd
  have g0 : sp_dg (jx_ru j (jx_de j).toNatClampNeg) (jx_nd j (jx_de j).toNatClampNeg) = sp_c0 b := by
    unfold sp_c0; rw [hJ.1, hJ.2.1, hJ.2.2 _ (Nat.le_refl _)]
  have g1 : sp_dg (jx_ru j (jx_de j).toNatClampNeg) (jx_nd j (jx_de j).toNatClampNeg + 1) = sp_c1 b := by
    unfold sp_c1; rw [hJ.1, hJ.2.1, hJ.2.2 _ (Nat.le_refl _)]
  have g2 : sp_dg (jx_ru j (jx_de j).toNatClampNeg) (jx_nd j (jx_de j).toNatClampNeg + 1 + 1) = sp_c2 b := by
    unfold sp_c2; rw [hJ.1, hJ.2.1, hJ.2.2 _ (Nat.le_refl _), i32_12]
  have r8 : vp_in (sp_rm (sp_c1 b) 8) 8 := sp_rd8 _ _
  unfold sp_if at hf
  rw [hc] at hf g0
  · skip
    rw [fo_6] at hf
    have he : ¬ sg_en b.1 = 32 := fun z => by rw [if_pos z] at hf; exact absurd hf (by decide)
    refine mt_mono (c_do_6t l D cs ad sz b.1 j hs hd' g0 (en_in hok he)) ?_
    intro a st o t hq
    have e : sp_in b = sp_ac (b.1, b.2.1, b.2.2.1, upd b.2.2.2 b.2.1.toNatClampNeg (b.2.2.2 b.2.1.toNatClampNeg + 1 + sp_op 6)) 6 (sp_c1 b) (sp_c2 b) b.2.1 := by unfold sp_in; rw [hc]
    rw [ac_6] at e
    rw [e]
    obtain ⟨⟨r, j1, q1, ⟨q2, q3, q4, q5⟩, hB⟩, hF⟩ := hq
    rw [g1] at hB
    exact ⟨⟨r, j1, q1, ⟨q2, by rw [q3, hJ.1], by rw [q4, hJ.1, hJ.2.1]; rfl, fun k hk => by rw [q5]; exact hJ.2.2 k hk⟩, hB⟩, hF⟩
set_option maxHeartbeats 4000000 in
/-- an instruction of code 7 without a fault -/
theorem c_ok_7 (l : Launch) (D : va_G) (cs : Nat → ClassId) (ad : Nat → Nat) (sz : Nat) (b : Bt) (j : Jx) (hs : sg_st b.1 < 100) (hd : vp_in b.2.1 6) (hok : sp_ok b.1) (hJ : xj b j) (hf : sp_if b = 0) (hc : sp_c0 b = 7) : Met l y_ms_doInstruction (Cond.code y_ms_doInstruction b_ms_doInstruction 1 (some .int) :: TB) { frames := 5, cells := 0, slots := 0, locals := 120 } (va_Pc [.ref (ad 0)] (xw_Pre D cs ad b.1 j sz)) (va_Qi (fun (r : Int32) (j1 : Jx) => r = 0 ∧ xj (sp_in b) j1) (fun (j1 : Jx) t => xw_B D cs ad (va_A (xw ad cs b.1 j) sz) (sp_in b).1 j1 t) (va_A (xw ad cs b.1 j) sz)) 0 0 (va_A (xw ad cs b.1 j) sz) := by
  have hd' : vp_in (jx_de j) 6 := by rw [hJ.1]; exact hd
  have g0 : sp_dg (jx_ru j (jx_de j).toNatClampNeg) (jx_nd j (jx_de j).toNatClampNeg) = sp_c0 b := by
    unfold sp_c0; rw [hJ.1, hJ.2.1, hJ.2.2 _ (Nat.le_refl _)]
  have g1 : sp_dg (jx_ru j (jx_de j).toNatClampNeg) (jx_nd j (jx_de j).toNatClampNeg + 1) = sp_c1 b := by
    unfold sp_c1; rw [hJ.1, hJ.2.1, hJ.2.2 _ (Nat.le_refl _)]
  have g2 : sp_dg (jx_ru j (jx_de j).toNatClampNeg) (jx_nd j (jx_de j).toNatClampNeg + 1 + 1) = sp_c2 b := by
    unfold sp_c2; rw [hJ.1, hJ.2.1, hJ.2.2 _ (Nat.le_refl _), i32_12]
  have r8 : vp_in (sp_rm (sp_c1 b) 8) 8 := sp_rd8 _ _
  unfold sp_if at hf
  rw [hc] at hf g0
  · skip
    refine mt_mono (c_do_7 l D cs ad sz b.1 j hs hd' g0) ?_
    intro a st o t hq
    have e : sp_in b = sp_ac (b.1, b.2.1, b.2.2.1, upd b.2.2.2 b.2.1.toNatClampNeg (b.2.2.2 b.2.1.toNatClampNeg + 1 + sp_op 7)) 7 (sp_c1 b) (sp_c2 b) b.2.1 := by unfold sp_in; rw [hc]
    rw [ac_7] at e
    rw [e]
    obtain ⟨⟨r, j1, q1, ⟨q2, q3, q4, q5⟩, hB⟩, hF⟩ := hq
    rw [g1, hJ.1, hJ.2.1] at q4
    exact ⟨⟨r, j1, q1, ⟨q2, by rw [q3, hJ.1], q4, fun k hk => by rw [q5]; exact hJ.2.2 k hk⟩, hB⟩, hF⟩
set_option maxHeartbeats 4000000 in
/-- an instruction of code 8 without a fault -/
theorem c_ok_8 (l : Launch) (D : va_G) (cs : Nat → ClassId) (ad : Nat → Nat) (sz : Nat) (b : Bt) (j : Jx) (hs : sg_st b.1 < 100) (hd : vp_in b.2.1 6) (hok : sp_ok b.1) (hJ : xj b j) (hf : sp_if b = 0) (hc : sp_c0 b = 8) : Met l y_ms_doInstruction (Cond.code y_ms_doInstruction b_ms_doInstruction 1 (some .int) :: TB) { frames := 5, cells := 0, slots := 0, locals := 120 } (va_Pc [.ref (ad 0)] (xw_Pre D cs ad b.1 j sz)) (va_Qi (fun (r : Int32) (j1 : Jx) => r = 0 ∧ xj (sp_in b) j1) (fun (j1 : Jx) t => xw_B D cs ad (va_A (xw ad cs b.1 j) sz) (sp_in b).1 j1 t) (va_A (xw ad cs b.1 j) sz)) 0 0 (va_A (xw ad cs b.1 j) sz) := by
  have hd' : vp_in (jx_de j) 6 := by rw [hJ.1]; exact hd
  have g0 : sp_dg (jx_ru j (jx_de j).toNatClampNeg) (jx_nd j (jx_de j).toNatClampNeg) = sp_c0 b := by
    unfold sp_c0; rw [hJ.1, hJ.2.1, hJ.2.2 _ (Nat.le_refl _)]
  have g1 : sp_dg (jx_ru j (jx_de j).toNatClampNeg) (jx_nd j (jx_de j).toNatClampNeg + 1) = sp_c1 b := by
    unfold sp_c1; rw [hJ.1, hJ.2.1, hJ.2.2 _ (Nat.le_refl _)]
  have g2 : sp_dg (jx_ru j (jx_de j).toNatClampNeg) (jx_nd j (jx_de j).toNatClampNeg + 1 + 1) = sp_c2 b := by
    unfold sp_c2; rw [hJ.1, hJ.2.1, hJ.2.2 _ (Nat.le_refl _), i32_12]
  have r8 : vp_in (sp_rm (sp_c1 b) 8) 8 := sp_rd8 _ _
  unfold sp_if at hf
  rw [hc] at hf g0
  · skip
    rw [fo_8] at hf
    have h1 : ¬ sp_lf (sg_ma b.1) < 0 := fun z => by rw [if_pos z] at hf; exact absurd hf (by decide)
    refine mt_mono (c_do_8t l D cs ad sz b.1 j hs hd' g0 (lf_in h1)) ?_
    intro a st o t hq
    have e : sp_in b = sp_ac (b.1, b.2.1, b.2.2.1, upd b.2.2.2 b.2.1.toNatClampNeg (b.2.2.2 b.2.1.toNatClampNeg + 1 + sp_op 8)) 8 (sp_c1 b) (sp_c2 b) b.2.1 := by unfold sp_in; rw [hc]
    rw [ac_8] at e
    rw [e]
    obtain ⟨⟨r, j1, q1, ⟨q2, q3, q4, q5⟩, hB⟩, hF⟩ := hq
    rw [g1] at hB
    exact ⟨⟨r, j1, q1, ⟨q2, by rw [q3, hJ.1], by rw [q4, hJ.1, hJ.2.1]; rfl, fun k hk => by rw [q5]; exact hJ.2.2 k hk⟩, hB⟩, hF⟩
/-- an instruction without a fault -/
theorem c_do_ok (l : Launch) (D : va_G) (cs : Nat → ClassId) (ad : Nat → Nat) (sz : Nat) (b : Bt) (j : Jx) (hs : sg_st b.1 < 100) (hd : vp_in b.2.1 6) (hok : sp_ok b.1) (hJ : xj b j) (hf : sp_if b = 0) : Met l y_ms_doInstruction (Cond.code y_ms_doInstruction b_ms_doInstruction 1 (some .int) :: TB) { frames := 5, cells := 0, slots := 0, locals := 120 } (va_Pc [.ref (ad 0)] (xw_Pre D cs ad b.1 j sz)) (va_Qi (fun (r : Int32) (j1 : Jx) => r = 0 ∧ xj (sp_in b) j1) (fun (j1 : Jx) t => xw_B D cs ad (va_A (xw ad cs b.1 j) sz) (sp_in b).1 j1 t) (va_A (xw ad cs b.1 j) sz)) 0 0 (va_A (xw ad cs b.1 j) sz) := by
  obtain ⟨k, hk, ek⟩ := sp_dg16 (sg_im b.1 (b.2.2.1 b.2.1.toNatClampNeg).toNatClampNeg) (b.2.2.2 b.2.1.toNatClampNeg)
  have ek : sp_c0 b = nI k := ek
  rcases (show k = 0 ∨ k = 1 ∨ k = 2 ∨ k = 3 ∨ k = 4 ∨ k = 5 ∨ k = 6 ∨ k = 7 ∨ k = 8 ∨ 8 < k by omega) with h | h | h | h | h | h | h | h | h | h
  · subst h
    exact c_ok_0 l D cs ad sz b j hs hd hok hJ hf ek
  · subst h
    exact c_ok_1 l D cs ad sz b j hs hd hok hJ hf ek
  · subst h
    exact c_ok_2 l D cs ad sz b j hs hd hok hJ hf ek
  · subst h
    exact c_ok_3 l D cs ad sz b j hs hd hok hJ hf ek
  · subst h
    exact c_ok_4 l D cs ad sz b j hs hd hok hJ hf ek
  · subst h
    exact c_ok_5 l D cs ad sz b j hs hd hok hJ hf ek
  · subst h
    exact c_ok_6 l D cs ad sz b j hs hd hok hJ hf ek
  · subst h
    exact c_ok_7 l D cs ad sz b j hs hd hok hJ hf ek
  · subst h
    exact c_ok_8 l D cs ad sz b j hs hd hok hJ hf ek
  · unfold sp_if at hf
    rw [fo_9 _ _ _ _ (by rw [ek]; exact nI_lt (a := 8) h (by omega))] at hf
    exact absurd hf (by decide)
set_option maxHeartbeats 4000000 in
/-- an instruction with a fault -/
theorem c_do_ft (l : Launch) (D : va_G) (cs : Nat → ClassId) (ad : Nat → Nat) (sz : Nat) (b : Bt) (j : Jx) (hs : sg_st b.1 < 100) (hd : vp_in b.2.1 6) (hok : sp_ok b.1) (hJ : xj b j) (hf : ¬ sp_if b = 0) : Met l y_ms_doInstruction (Cond.code y_ms_doInstruction b_ms_doInstruction 1 (some .int) :: TB) { frames := 5, cells := 0, slots := 0, locals := 120 } (va_Pc [.ref (ad 0)] (xw_Pre D cs ad b.1 j sz)) (va_Qi (fun (r : Int32) (j1 : Jx) => r = sp_if b ∧ True) (fun (j1 : Jx) t => xw_B D cs ad (va_A (xw ad cs b.1 j) sz) b.1 j1 t) (va_A (xw ad cs b.1 j) sz)) 0 0 (va_A (xw ad cs b.1 j) sz) := by
  unfold sp_if
  have hd' : vp_in (jx_de j) 6 := by rw [hJ.1]; exact hd
  have g0 : sp_dg (jx_ru j (jx_de j).toNatClampNeg) (jx_nd j (jx_de j).toNatClampNeg) = sp_c0 b := by
    unfold sp_c0; rw [hJ.1, hJ.2.1, hJ.2.2 _ (Nat.le_refl _)]
  have g1 : sp_dg (jx_ru j (jx_de j).toNatClampNeg) (jx_nd j (jx_de j).toNatClampNeg + 1) = sp_c1 b := by
    unfold sp_c1; rw [hJ.1, hJ.2.1, hJ.2.2 _ (Nat.le_refl _)]
  have g2 : sp_dg (jx_ru j (jx_de j).toNatClampNeg) (jx_nd j (jx_de j).toNatClampNeg + 1 + 1) = sp_c2 b := by
    unfold sp_c2; rw [hJ.1, hJ.2.1, hJ.2.2 _ (Nat.le_refl _), i32_12]
  have r8 : vp_in (sp_rm (sp_c1 b) 8) 8 := sp_rd8 _ _
  obtain ⟨k, hk, ek⟩ := sp_dg16 (sg_im b.1 (b.2.2.1 b.2.1.toNatClampNeg).toNatClampNeg) (b.2.2.2 b.2.1.toNatClampNeg)
  have ek : sp_c0 b = nI k := ek
  unfold sp_if at hf
  rcases (show k = 0 ∨ k = 1 ∨ k = 2 ∨ k = 3 ∨ k = 4 ∨ k = 5 ∨ k = 6 ∨ k = 7 ∨ k = 8 ∨ 8 < k by omega) with h | h | h | h | h | h | h | h | h | h
  · subst h
    have hc : sp_c0 b = 0 := ek
    rw [hc] at hf g0 ⊢
    exact absurd (fo_0 _ _ _) hf
  · subst h
    have hc : sp_c0 b = 1 := ek
    rw [hc] at hf g0 ⊢
    rw [fo_1] at hf ⊢
    by_cases h5 : b.2.1 = 5
    · rw [if_pos h5]
      exact c_do_1d l D cs ad sz b.1 j hs hd' g0 (by rw [hJ.1]; exact de_5 h5)
    · rw [if_neg h5] at hf ⊢
      by_cases he : sg_en b.1 = 32
      · rw [if_pos he]
        exact c_do_1f l D cs ad sz b.1 j hs hd' g0 (by rw [hJ.1]; exact de_up hd h5) he
      · rw [if_neg he] at hf
        exact absurd rfl hf
  · subst h
    have hc : sp_c0 b = 2 := ek
    rw [hc] at hf g0 ⊢
    rw [fo_2] at hf ⊢
    by_cases he : sg_en b.1 = 32
    · rw [if_pos he]
      exact c_do_2f l D cs ad sz b.1 j hs hd' g0 he
    · rw [if_neg he] at hf
      exact absurd rfl hf
  · subst h
    have hc : sp_c0 b = 3 := ek
    rw [hc] at hf g0 ⊢
    rw [fo_3] at hf ⊢
    rcases ia_01 b.1 (sp_rm (sp_c1 b) 8) with z | z
    · rw [z, if_neg (by decide)]
      exact c_do_3f l D cs ad sz b.1 j hs hd' g0 (by rw [g1]; exact z)
    · rw [z, if_pos rfl] at hf
      exact absurd rfl hf
  · subst h
    have hc : sp_c0 b = 4 := ek
    rw [hc] at hf g0 ⊢
    rw [fo_4 _ _ _ r8] at hf ⊢
    rcases tk_01 (sg_ma b.1) (sp_rm (sp_c1 b) 8) with z | z
    · rw [z, if_pos rfl]
      exact c_do_4m l D cs ad sz b.1 j hs hd' g0 (by rw [g1]; exact z)
    · rw [z, if_neg (by decide)] at hf ⊢
      rcases on_01 b.1 (sp_rm (sp_c1 b) 8) with z2 | z2
      · rw [z2, if_neg (by decide)]
        exact c_do_4s l D cs ad sz b.1 j hs hd' g0 (by rw [g1]; exact z) (by rw [g1]; exact z2)
      · rw [z2, if_pos rfl] at hf
        exact absurd rfl hf
  · subst h
    have hc : sp_c0 b = 5 := ek
    rw [hc] at hf g0 ⊢
    exact absurd (fo_5 _ _ _) hf
  · subst h
    have hc : sp_c0 b = 6 := ek
    rw [hc] at hf g0 ⊢
    rw [fo_6] at hf ⊢
    by_cases he : sg_en b.1 = 32
    · rw [if_pos he]
      exact c_do_6f l D cs ad sz b.1 j hs hd' g0 he
    · rw [if_neg he] at hf
      exact absurd rfl hf
  · subst h
    have hc : sp_c0 b = 7 := ek
    rw [hc] at hf g0 ⊢
    exact absurd (fo_7 _ _ _) hf
  · subst h
    have hc : sp_c0 b = 8 := ek
    rw [hc] at hf g0 ⊢
    rw [fo_8] at hf ⊢
    by_cases z : sp_lf (sg_ma b.1) < 0
    · rw [if_pos z]
      exact c_do_8c l D cs ad sz b.1 j hs hd' g0 (lf_m1 z)
    · rw [if_neg z] at hf
      exact absurd rfl hf
  · have h8 : 8 < sp_c0 b := by rw [ek]; exact nI_lt (a := 8) h (by omega)
    rw [fo_9 _ _ _ _ h8]
    exact c_do_9 l D cs ad sz b.1 j hs hd' (by rw [g0]; exact h8)
end
section
theorem ok_ac {u : Sg} {x : Int64} (h : sp_ok u) : sp_ok (ss_ac u x) := h
theorem ok_la {u : Sg} {x : Int32} (h : sp_ok u) : sp_ok (ss_la u x) := h
theorem ok_st {u : Sg} {x : Int32} (h : sp_ok u) : sp_ok (ss_st u x) := h
theorem ok_fa {u : Sg} {x : Int32} (h : sp_ok u) : sp_ok (ss_fa u x) := h
theorem ok_fi {u : Sg} {k m : Int32} {x : Int64} (h : sp_ok u) : sp_ok (sp_fi u k m x) := h
theorem fa_ac (u : Sg) (x : Int64) : sg_fa (ss_ac u x) = sg_fa u := rfl
theorem fa_no (u : Sg) (r : Int32) (v : Int64) : sg_fa (sp_no u r v) = sg_fa u := rfl
theorem fa_la (u : Sg) (x : Int32) : sg_fa (ss_la u x) = sg_fa u := rfl
theorem fa_st (u : Sg) (x : Int32) : sg_fa (ss_st u x) = sg_fa u := rfl
theorem fa_fi (u : Sg) (k m : Int32) (x : Int64) : sg_fa (sp_fi u k m x) = sg_fa u := rfl
theorem st_ac (u : Sg) (x : Int64) : sg_st (ss_ac u x) = sg_st u := rfl
theorem st_no (u : Sg) (r : Int32) (v : Int64) : sg_st (sp_no u r v) = sg_st u := rfl
theorem st_la (u : Sg) (x : Int32) : sg_st (ss_la u x) = sg_st u := rfl
theorem st_fi (u : Sg) (k m : Int32) (x : Int64) : sg_st (sp_fi u k m x) = sg_st u := rfl
theorem st_st (u : Sg) (x : Int32) : sg_st (ss_st u x) = x := rfl
theorem im_no (u : Sg) (r : Int32) (v : Int64) : sg_im (sp_no u r v) = sg_im u := rfl
theorem im_la (u : Sg) (x : Int32) : sg_im (ss_la u x) = sg_im u := rfl
theorem im_fi (u : Sg) (k m : Int32) (x : Int64) : sg_im (sp_fi u k m x) = sg_im u := rfl
theorem la_1 (b : Bt) (n d : Int32) : (sp_la b n d).1 = ss_la (sp_no b.1 d (sp_di b.1 n)) (sg_la (sp_no b.1 d (sp_di b.1 n)) + 1) := rfl
theorem nle32 {u : Sg} (h : vp_in (sg_en u) 32) : ¬ 32 ≤ sg_en u := xn_nle (k := 32) (by decide) h
theorem de_m1 {d : Int32} (h : vp_in d 6) : vp_in (d - 1) 6 ∨ d - 1 = -1 := by
  obtain ⟨k, hk, rfl⟩ := vp_in_of h (by decide)
  rcases (show k = 0 ∨ k = 1 ∨ k = 2 ∨ k = 3 ∨ k = 4 ∨ k = 5 by omega) with h | h | h | h | h | h <;> subst h
  · exact Or.inr (by decide)
  · exact Or.inl (by rw [show nI 1 - 1 = nI 0 by decide]; exact vp_in_nI (by decide) (by decide))
  · exact Or.inl (by rw [show nI 2 - 1 = nI 1 by decide]; exact vp_in_nI (by decide) (by decide))
  · exact Or.inl (by rw [show nI 3 - 1 = nI 2 by decide]; exact vp_in_nI (by decide) (by decide))
  · exact Or.inl (by rw [show nI 4 - 1 = nI 3 by decide]; exact vp_in_nI (by decide) (by decide))
  · exact Or.inl (by rw [show nI 5 - 1 = nI 4 by decide]; exact vp_in_nI (by decide) (by decide))
/-- what an instruction without a fault keeps -/
theorem in_keep {b : Bt} (hd : vp_in b.2.1 6) (hok : sp_ok b.1) (hf : sp_if b = 0) :
    sp_ok (sp_in b).1 ∧ sg_fa (sp_in b).1 = sg_fa b.1 ∧ sg_st (sp_in b).1 = sg_st b.1 ∧ (vp_in (sp_in b).2.1 6 ∨ (sp_in b).2.1 = -1) ∧ sg_im (sp_in b).1 = sg_im b.1 := by
  obtain ⟨k, hk, ek⟩ := sp_dg16 (sg_im b.1 (b.2.2.1 b.2.1.toNatClampNeg).toNatClampNeg) (b.2.2.2 b.2.1.toNatClampNeg)
  have ek : sp_c0 b = nI k := ek
  have e : ∀ c : Int32, sp_c0 b = c → sp_in b = sp_ac (b.1, b.2.1, b.2.2.1, upd b.2.2.2 b.2.1.toNatClampNeg (b.2.2.2 b.2.1.toNatClampNeg + 1 + sp_op c)) c (sp_c1 b) (sp_c2 b) b.2.1 := fun c hc => by unfold sp_in; rw [hc]
  unfold sp_if at hf
  rcases (show k = 0 ∨ k = 1 ∨ k = 2 ∨ k = 3 ∨ k = 4 ∨ k = 5 ∨ k = 6 ∨ k = 7 ∨ k = 8 ∨ 8 < k by omega) with h | h | h | h | h | h | h | h | h | h
  · subst h
    rw [e 0 ek, ac_0]
    exact ⟨hok, rfl, rfl, de_m1 hd, rfl⟩
  · subst h
    have hc : sp_c0 b = 1 := ek
    rw [hc, fo_1] at hf
    have h5 : ¬ b.2.1 = 5 := fun z => by rw [if_pos z] at hf; exact absurd hf (by decide)
    rw [if_neg h5] at hf
    have he : ¬ sg_en b.1 = 32 := fun z => by rw [if_pos z] at hf; exact absurd hf (by decide)
    rw [e 1 hc, ac_1]
    refine ⟨?_, by rw [la_1, fa_la, fa_no], by rw [la_1, st_la, st_no], Or.inl (de_up hd h5), by rw [la_1, im_la, im_no]⟩
    rw [la_1]
    exact ok_la (sp_ok_no hok (nle32 (en_in hok he)) (de_up hd h5))
  · subst h
    have hc : sp_c0 b = 2 := ek
    rw [hc, fo_2] at hf
    have he : ¬ sg_en b.1 = 32 := fun z => by rw [if_pos z] at hf; exact absurd hf (by decide)
    rw [e 2 hc, ac_2]
    exact ⟨sp_ok_no hok (nle32 (en_in hok he)) (sp_rd6 _ _), fa_no _ _ _, st_no _ _ _, Or.inl hd, im_no _ _ _⟩
  · subst h
    rw [e 3 ek, ac_3]
    exact ⟨hok, rfl, rfl, Or.inl hd, rfl⟩
  · subst h
    rw [e 4 ek, ac_4]
    exact ⟨ok_ac hok, fa_ac _ _, st_ac _ _, Or.inl hd, im_ac _ _⟩
  · subst h
    rw [e 5 ek, ac_5]
    exact ⟨ok_ac hok, fa_ac _ _, st_ac _ _, Or.inl hd, im_ac _ _⟩
  · subst h
    have hc : sp_c0 b = 6 := ek
    rw [hc, fo_6] at hf
    have he : ¬ sg_en b.1 = 32 := fun z => by rw [if_pos z] at hf; exact absurd hf (by decide)
    rw [e 6 hc, ac_6]
    exact ⟨sp_ok_no hok (nle32 (en_in hok he)) (sp_rd6 _ _), fa_no _ _ _, st_no _ _ _, Or.inl hd, im_no _ _ _⟩
  · subst h
    rw [e 7 ek, ac_7]
    exact ⟨hok, rfl, rfl, Or.inl hd, rfl⟩
  · subst h
    rw [e 8 ek, ac_8]
    exact ⟨ok_fi hok, fa_fi _ _ _ _, st_fi _ _ _ _, Or.inl hd, im_fi _ _ _ _⟩
  · rw [fo_9 _ _ _ _ (by rw [ek]; exact nI_lt (a := 8) h (by omega))] at hf
    exact absurd hf (by decide)
theorem rn_end (n : Nat) (b : Bt) (h : b.2.1 = -1) : sp_rn (n + 1) b = b := by
  unfold sp_rn
  rw [if_pos (by rw [h]; decide)]
theorem rn_tired (n : Nat) (b : Bt) (h : vp_in b.2.1 6) (hs : sg_st b.1 = 100) : sp_rn (n + 1) b = (ss_fa b.1 3, b.2) := by
  unfold sp_rn
  rw [if_neg (xn_ge h), if_pos hs]
theorem rn_ft (n : Nat) (b : Bt) (h : vp_in b.2.1 6) (hs : ¬ sg_st b.1 = 100) (hf : ¬ sp_if b = 0) : sp_rn (n + 1) b = (ss_fa b.1 (sp_if b), b.2) := by
  unfold sp_rn
  rw [if_neg (xn_ge h), if_neg hs, if_neg hf]
theorem rn_ok (n : Nat) (b : Bt) (h : vp_in b.2.1 6) (hs : ¬ sg_st b.1 = 100) (hf : sp_if b = 0) : sp_rn (n + 1) b = sp_rn n (ss_st (sp_in b).1 (sg_st (sp_in b).1 + 1), (sp_in b).2) := by
  conv => lhs; unfold sp_rn
  rw [if_neg (xn_ge h), if_neg hs, if_pos hf]
theorem xj_st {b : Bt} {j : Jx} {x : Int32} (h : xj b j) : xj (ss_st b.1 x, b.2) j := h
theorem n100 {r : Nat} (h : r < 100) : ¬ nI r = 100 := fun z => by
  have := (nI_eq (a := r) (b := 100) (by omega) (by decide)).mp z
  omega
theorem lt100 {r : Nat} (h : r < 100) : nI r < 100 := nI_lt (b := 100) h (by decide)
theorem le100 {r : Nat} (h : r ≤ 100) : ¬ 100 < nI r := nI_nlt (a := 100) h (by decide) |> fun z => fun q => absurd q (Int32.not_lt.mpr (nI_le (b := 100) h (by decide)))
theorem d_ms_runToTheEnd_0 : decode b_ms_runToTheEnd 0 = .ok (.iconst 0, 1) := by decide +kernel
theorem d_ms_runToTheEnd_1 : decode b_ms_runToTheEnd 1 = .ok (.istore_n 1, 1) := by decide +kernel
theorem d_ms_runToTheEnd_2 : decode b_ms_runToTheEnd 2 = .ok (.iload_n 1, 1) := by decide +kernel
theorem d_ms_runToTheEnd_3 : decode b_ms_runToTheEnd 3 = .ok (.bipush 100, 2) := by decide +kernel
theorem d_ms_runToTheEnd_5 : decode b_ms_runToTheEnd 5 = .ok (.if_icmp .gt 48, 3) := by decide +kernel
theorem d_ms_runToTheEnd_8 : decode b_ms_runToTheEnd 8 = .ok (.aload_n 0, 1) := by decide +kernel
theorem d_ms_runToTheEnd_9 : decode b_ms_runToTheEnd 9 = .ok (.getfield 63, 3) := by decide +kernel
theorem d_ms_runToTheEnd_12 : decode b_ms_runToTheEnd 12 = .ok (.ifCond .ne 41, 3) := by decide +kernel
theorem d_ms_runToTheEnd_15 : decode b_ms_runToTheEnd 15 = .ok (.aload_n 0, 1) := by decide +kernel
theorem d_ms_runToTheEnd_16 : decode b_ms_runToTheEnd 16 = .ok (.getfield 179, 3) := by decide +kernel
theorem d_ms_runToTheEnd_19 : decode b_ms_runToTheEnd 19 = .ok (.ifCond .lt 34, 3) := by decide +kernel
theorem d_ms_runToTheEnd_22 : decode b_ms_runToTheEnd 22 = .ok (.aload_n 0, 1) := by decide +kernel
theorem d_ms_runToTheEnd_23 : decode b_ms_runToTheEnd 23 = .ok (.aload_n 0, 1) := by decide +kernel
theorem d_ms_runToTheEnd_24 : decode b_ms_runToTheEnd 24 = .ok (.invokevirtual 182, 3) := by decide +kernel
theorem d_ms_runToTheEnd_27 : decode b_ms_runToTheEnd 27 = .ok (.putfield 63, 3) := by decide +kernel
theorem d_ms_runToTheEnd_30 : decode b_ms_runToTheEnd 30 = .ok (.aload_n 0, 1) := by decide +kernel
theorem d_ms_runToTheEnd_31 : decode b_ms_runToTheEnd 31 = .ok (.getfield 63, 3) := by decide +kernel
theorem d_ms_runToTheEnd_34 : decode b_ms_runToTheEnd 34 = .ok (.ifCond .ne 13, 3) := by decide +kernel
theorem d_ms_runToTheEnd_37 : decode b_ms_runToTheEnd 37 = .ok (.aload_n 0, 1) := by decide +kernel
theorem d_ms_runToTheEnd_38 : decode b_ms_runToTheEnd 38 = .ok (.dup, 1) := by decide +kernel
theorem d_ms_runToTheEnd_39 : decode b_ms_runToTheEnd 39 = .ok (.getfield 78, 3) := by decide +kernel
theorem d_ms_runToTheEnd_42 : decode b_ms_runToTheEnd 42 = .ok (.iconst 1, 1) := by decide +kernel
theorem d_ms_runToTheEnd_43 : decode b_ms_runToTheEnd 43 = .ok (.iadd, 1) := by decide +kernel
theorem d_ms_runToTheEnd_44 : decode b_ms_runToTheEnd 44 = .ok (.putfield 78, 3) := by decide +kernel
theorem d_ms_runToTheEnd_47 : decode b_ms_runToTheEnd 47 = .ok (.iinc 1 1, 3) := by decide +kernel
theorem d_ms_runToTheEnd_50 : decode b_ms_runToTheEnd 50 = .ok (.goto (-48), 3) := by decide +kernel
theorem d_ms_runToTheEnd_53 : decode b_ms_runToTheEnd 53 = .ok (.return_, 1) := by decide +kernel
set_option maxHeartbeats 4000000 in
set_option maxRecDepth 100000 in
theorem c_ms_runToTheEnd (l : Launch) (D : va_G) (cs : Nat → ClassId) (ad : Nat → Nat) (sz : Nat) (u : Sg) (j : Jx) (b : Bt) (hub : u = b.1) (hJ : xj b j) (hok : sp_ok b.1) (hfa : sg_fa b.1 = 0) (hst : sg_st b.1 = nI 0) (hde : vp_in b.2.1 6 ∨ b.2.1 = -1) : Met l y_ms_runToTheEnd (Cond.code y_ms_runToTheEnd b_ms_runToTheEnd 2 none :: TB) { frames := 6, cells := 0, slots := 0, locals := 140 } (va_Pc [.ref (ad 0)] (xw_Pre D cs ad u j sz)) (va_Qv (fun (j1 : Jx) => True) (fun (j1 : Jx) t => xw_B D cs ad (va_A (xw ad cs u j) sz) ((sp_rn 101 b).1) j1 t) (va_A (xw ad cs u j) sz)) 0 0 (va_A (xw ad cs u j) sz) := by
  refine Met.ofW (cc := b_ms_runToTheEnd) (maxL := 2) (ret := none) (by decide) rfl ?_
  intro p e s m args below meth c s₁ B hml hv
  obtain ⟨rfl, hsz, hP, hK, hD, hN⟩ := hv
  have hx := B.exec
  have hb := B.bytes
  have hret := B.returns
  have hts := atoms_spec (ws := Cond.code y_ms_runToTheEnd b_ms_runToTheEnd 2 none :: TB) B.pre
  have hT : ∀ w ∈ TB, w.before _ s = true := fun w h => hts w (List.mem_cons_of_mem _ h)
  have hown : s.vm.findClass "MeasuredStages" = some m.cls := findClass_of_methodNamed B.named
  have hlocks := B.notSynchronized
  subst hsz
  have hD := hD.self (sz := s.heap.size)
  generalize hAe : va_A (xw ad cs u j) s.heap.size = A at hD ⊢
  have hA : ∀ q : Nat, s.heap.size ≤ q → A q := fun q h => by rw [← hAe]; exact Or.inr h
  have hS : va_S A s.heap s.heap [] := va_S.rf
  have hl := lv_entry ([.ref (ad 0)]) (n := 2) (Nat.le_of_ble_eq_true rfl)
  rw [lg_entry_eq]
  generalize (lg_sl ([.ref (ad 0)]) ++ List.replicate (2 - (lg_sl ([.ref (ad 0)])).length) Slot.unset).toArray = ls at hl ⊢
  have hl : lv_has ls 2 [(0, .ref (ad 0))] := hl
  subst hub
  skip
  refine lv_iconst (v := 0) hx hb d_ms_runToTheEnd_0 (by decide) ?_
  refine lv_istore_n (nL := 2) (lv' := [(1, .int (0)), (0, .ref (ad 0))]) hx hb d_ms_runToTheEnd_1 rfl hl (by decide) rfl (fun ls hl => ?_)
  refine wl_up (α := Bt × Jx) 100 (fun r H1 L1 ls a => lv_has ls 2 [(1, .int (nI r)), (0, .ref (ad 0))] ∧ va_P D cx (xw ad cs a.1.1 a.2) H1 ∧ va_D A (xw ad cs a.1.1 a.2) ∧ va_S A s.heap H1 L1 ∧ xj a.1 a.2 ∧ sp_ok a.1.1 ∧ sg_fa a.1.1 = 0 ∧ sg_st a.1.1 = nI r ∧ (vp_in a.1.2.1 6 ∨ a.1.2.1 = -1) ∧ (sp_rn (101 - r) a.1).1 = (sp_rn 101 b).1) 2 ?_ ?_ 0 _ _ ls (b, j) (Nat.zero_le _) ⟨hl, hP, hD, hS, hJ, hok, hfa, hst, hde, rfl⟩
  · intro H L ls a hI
    obtain ⟨b1, j1⟩ := a
    obtain ⟨hl, hP, hD, hS, hJ, hok, hfa, hst, hde, hU⟩ := hI
    have hl : lv_has ls 2 [(1, .int (nI 100)), (0, .ref (ad 0))] := hl
    have hP : va_P D cx (xw ad cs b1.1 j1) H := hP
    have hD : va_D A (xw ad cs b1.1 j1) := hD
    have hJ : xj b1 j1 := hJ
    have hok : sp_ok b1.1 := hok
    have hfa : sg_fa b1.1 = 0 := hfa
    have hst : sg_st b1.1 = nI 100 := hst
    have hde : vp_in b1.2.1 6 ∨ b1.2.1 = -1 := hde
    have hU : (sp_rn (101 - 100) b1).1 = (sp_rn 101 b).1 := hU
    rcases hde with hde | hde
    · skip
      refine lv_iload_n hx hb d_ms_runToTheEnd_2 rfl (lv_at hl 0 rfl) ?_
      refine lv_bipush (v := 100) hx hb d_ms_runToTheEnd_3 (by decide) ?_
      refine lv_icmp_gt hx hb d_ms_runToTheEnd_5 (tgt := 53) (by decide) (fun z => absurd z (by decide)) (fun _ => ?_)
      refine lv_aload_n hx hb d_ms_runToTheEnd_8 rfl (lv_at hl 1 rfl) ?_
      refine va_get (D := D) (ci := 0) (v := .int (sg_fa b1.1)) (C := "MeasuredStages") (T := F_ms) (N := 12) hx hb hts (fun w h => List.mem_cons_of_mem _ (i_ms w h)) hown hK hP 0 rfl rfl 9 (by decide) (hT _ tb_78) (fun _ h9 => h9) rfl d_ms_runToTheEnd_9 ?_
      refine lv_if_ne hx hb d_ms_runToTheEnd_12 (tgt := 53) (by decide) (fun z => absurd hfa z) (fun _ => ?_)
      refine lv_aload_n hx hb d_ms_runToTheEnd_15 rfl (lv_at hl 1 rfl) ?_
      refine va_get (D := D) (ci := 0) (v := .int (jx_de j1)) (C := "MeasuredStages") (T := F_ms) (N := 12) hx hb hts (fun w h => List.mem_cons_of_mem _ (i_ms w h)) hown hK hP 0 rfl rfl 7 (by decide) (hT _ tb_76) (fun _ h9 => h9) rfl d_ms_runToTheEnd_16 ?_
      refine lv_if_lt hx hb d_ms_runToTheEnd_19 (tgt := 53) (by decide) (fun z => absurd z (by rw [hJ.1]; exact xn_ge hde)) (fun _ => ?_)
      refine lv_aload_n hx hb d_ms_runToTheEnd_22 rfl (lv_at hl 1 rfl) ?_
      refine lv_aload_n hx hb d_ms_runToTheEnd_23 rfl (lv_at hl 1 rfl) ?_
      refine xw_rdi (v := 3) (As := []) (rest := [.ref (ad 0)]) ⟨hx, hb, hml, hown, hts⟩ (c_do_tired l D cs ad _ b1.1 j1 (by rw [hst]; decide)) tb_268 tb_270 sl_6 tb_1 tb_271 ⟨rfl, hd_ms_doInstruction⟩ ⟨Nat.le_of_ble_eq_true rfl, Nat.le_of_ble_eq_true rfl⟩ rfl rfl hK hP hD hN 0 0 rfl rfl hl.1 rfl (Nat.le_of_ble_eq_true rfl) d_ms_runToTheEnd_24 ⟨Nat.zero_le _, Nat.zero_le _⟩ ?_
      refine va_put (D := D) (ci := 0) (v := .int (3)) (ty := .int) (C := "MeasuredStages") (T := F_ms) (N := 12) hx hb hts (fun w h => List.mem_cons_of_mem _ (i_ms w h)) t_ms o_ms n_ms hown hK hP hD hS 0 rfl rfl 9 (by decide) (hT _ tb_78) (fun _ h9 => h9) rfl (by decide +kernel) rfl rfl (Nat.le_of_ble_eq_true rfl) d_ms_runToTheEnd_27 (fun H locs hP hD hS => ?_)
      have hP : va_P D cx (xv ad cs (sg_im b1.1) (sg_ap b1.1) (sg_ag b1.1) (sg_he b1.1) (sg_er b1.1) (sg_ev b1.1) (sg_en b1.1) (sg_ma b1.1) (sg_po b1.1) (sg_se b1.1) (sg_ac b1.1) (3) (sg_la b1.1) (sg_st b1.1) (jx_ru j1) (jx_nd j1) (jx_de j1) (jx_rp j1)) H := hP
      have hD : va_D A (xv ad cs (sg_im b1.1) (sg_ap b1.1) (sg_ag b1.1) (sg_he b1.1) (sg_er b1.1) (sg_ev b1.1) (sg_en b1.1) (sg_ma b1.1) (sg_po b1.1) (sg_se b1.1) (sg_ac b1.1) (3) (sg_la b1.1) (sg_st b1.1) (jx_ru j1) (jx_nd j1) (jx_de j1) (jx_rp j1)) := hD
      refine lv_aload_n hx hb d_ms_runToTheEnd_30 rfl (lv_at hl 1 rfl) ?_
      refine va_get (D := D) (ci := 0) (v := .int (3)) (C := "MeasuredStages") (T := F_ms) (N := 12) hx hb hts (fun w h => List.mem_cons_of_mem _ (i_ms w h)) hown hK hP 0 rfl rfl 9 (by decide) (hT _ tb_78) (fun _ h9 => h9) rfl d_ms_runToTheEnd_31 ?_
      refine lv_if_ne hx hb d_ms_runToTheEnd_34 (tgt := 47) (by decide) (fun _ => ?_) (fun z => absurd z (by decide))
      refine lv_iinc (nL := 2) (k := 0) (v := nI 101) (lv' := [(1, .int (nI 101)), (0, .ref (ad 0))]) hx hb d_ms_runToTheEnd_47 hl rfl (by decide) (by decide) rfl (fun ls hl => ?_)
      refine lv_goto hx hb d_ms_runToTheEnd_50 (tgt := 2) (by decide) ?_
      refine lv_iload_n hx hb d_ms_runToTheEnd_2 rfl (lv_at hl 0 rfl) ?_
      refine lv_bipush (v := 100) hx hb d_ms_runToTheEnd_3 (by decide) ?_
      refine lv_icmp_gt hx hb d_ms_runToTheEnd_5 (tgt := 53) (by decide) (fun _ => ?_) (fun z => absurd (by decide) z)
      obtain ⟨v1, ev1⟩ : ∃ z : Sg, z = (sg_im b1.1, sg_ap b1.1, sg_ag b1.1, sg_he b1.1, sg_er b1.1, sg_ev b1.1, sg_en b1.1, sg_ma b1.1, sg_po b1.1, sg_se b1.1, sg_ac b1.1, 3, sg_la b1.1, sg_st b1.1) := ⟨_, rfl⟩
      have hP : va_P D cx (xw ad cs v1 j1) H := by rw [ev1, xw_u]; exact hP
      have hD : va_D A (xw ad cs v1 j1) := by rw [ev1, xw_u]; exact hD
      subst ev1
      have eU : ss_fa b1.1 3 = (sp_rn 101 b).1 := by rw [← hU, rn_tired 0 b1 hde hst]
      have hP : va_P D cx (xw ad cs (ss_fa b1.1 3) j1) H := hP
      have hD : va_D A (xw ad cs (ss_fa b1.1 3) j1) := hD
      rw [eU] at hP hD
      exact W.vret hx hb hret (fun t ht hW => ⟨⟨j1, rfl, trivial, by rw [ht]; exact hP, va_K.moved hW.alike hK, hD⟩, hS.F ht⟩) hS.2.2 d_ms_runToTheEnd_53
    · skip
      refine lv_iload_n hx hb d_ms_runToTheEnd_2 rfl (lv_at hl 0 rfl) ?_
      refine lv_bipush (v := 100) hx hb d_ms_runToTheEnd_3 (by decide) ?_
      refine lv_icmp_gt hx hb d_ms_runToTheEnd_5 (tgt := 53) (by decide) (fun z => absurd z (by decide)) (fun _ => ?_)
      refine lv_aload_n hx hb d_ms_runToTheEnd_8 rfl (lv_at hl 1 rfl) ?_
      refine va_get (D := D) (ci := 0) (v := .int (sg_fa b1.1)) (C := "MeasuredStages") (T := F_ms) (N := 12) hx hb hts (fun w h => List.mem_cons_of_mem _ (i_ms w h)) hown hK hP 0 rfl rfl 9 (by decide) (hT _ tb_78) (fun _ h9 => h9) rfl d_ms_runToTheEnd_9 ?_
      refine lv_if_ne hx hb d_ms_runToTheEnd_12 (tgt := 53) (by decide) (fun z => absurd hfa z) (fun _ => ?_)
      refine lv_aload_n hx hb d_ms_runToTheEnd_15 rfl (lv_at hl 1 rfl) ?_
      refine va_get (D := D) (ci := 0) (v := .int (jx_de j1)) (C := "MeasuredStages") (T := F_ms) (N := 12) hx hb hts (fun w h => List.mem_cons_of_mem _ (i_ms w h)) hown hK hP 0 rfl rfl 7 (by decide) (hT _ tb_76) (fun _ h9 => h9) rfl d_ms_runToTheEnd_16 ?_
      refine lv_if_lt hx hb d_ms_runToTheEnd_19 (tgt := 53) (by decide) (fun _ => ?_) (fun z => absurd (by rw [hJ.1, hde]; decide) z)
      have eU : b1.1 = (sp_rn 101 b).1 := by rw [← hU, rn_end 0 b1 hde]
      have hP : va_P D cx (xw ad cs (b1.1) j1) H := hP
      have hD : va_D A (xw ad cs (b1.1) j1) := hD
      rw [eU] at hP hD
      exact W.vret hx hb hret (fun t ht hW => ⟨⟨j1, rfl, trivial, by rw [ht]; exact hP, va_K.moved hW.alike hK, hD⟩, hS.F ht⟩) hS.2.2 d_ms_runToTheEnd_53
  · intro r H L ls a hr hI ih
    obtain ⟨b1, j1⟩ := a
    obtain ⟨hl, hP, hD, hS, hJ, hok, hfa, hst, hde, hU⟩ := hI
    have hl : lv_has ls 2 [(1, .int (nI r)), (0, .ref (ad 0))] := hl
    have hP : va_P D cx (xw ad cs b1.1 j1) H := hP
    have hD : va_D A (xw ad cs b1.1 j1) := hD
    have hJ : xj b1 j1 := hJ
    have hok : sp_ok b1.1 := hok
    have hfa : sg_fa b1.1 = 0 := hfa
    have hst : sg_st b1.1 = nI r := hst
    have hde : vp_in b1.2.1 6 ∨ b1.2.1 = -1 := hde
    have hU : (sp_rn (101 - r) b1).1 = (sp_rn 101 b).1 := hU
    rw [show 101 - r = (100 - r) + 1 by omega] at hU
    rcases hde with hde | hde
    · skip
      have hs : sg_st b1.1 < 100 := by rw [hst]; exact lt100 hr
      have hs1 : ¬ sg_st b1.1 = 100 := by rw [hst]; exact n100 hr
      by_cases hf : sp_if b1 = 0
      · skip
        refine lv_iload_n hx hb d_ms_runToTheEnd_2 rfl (lv_at hl 0 rfl) ?_
        refine lv_bipush (v := 100) hx hb d_ms_runToTheEnd_3 (by decide) ?_
        refine lv_icmp_gt hx hb d_ms_runToTheEnd_5 (tgt := 53) (by decide) (fun z => absurd z (le100 (by omega))) (fun _ => ?_)
        refine lv_aload_n hx hb d_ms_runToTheEnd_8 rfl (lv_at hl 1 rfl) ?_
        refine va_get (D := D) (ci := 0) (v := .int (sg_fa b1.1)) (C := "MeasuredStages") (T := F_ms) (N := 12) hx hb hts (fun w h => List.mem_cons_of_mem _ (i_ms w h)) hown hK hP 0 rfl rfl 9 (by decide) (hT _ tb_78) (fun _ h9 => h9) rfl d_ms_runToTheEnd_9 ?_
        refine lv_if_ne hx hb d_ms_runToTheEnd_12 (tgt := 53) (by decide) (fun z => absurd hfa z) (fun _ => ?_)
        refine lv_aload_n hx hb d_ms_runToTheEnd_15 rfl (lv_at hl 1 rfl) ?_
        refine va_get (D := D) (ci := 0) (v := .int (jx_de j1)) (C := "MeasuredStages") (T := F_ms) (N := 12) hx hb hts (fun w h => List.mem_cons_of_mem _ (i_ms w h)) hown hK hP 0 rfl rfl 7 (by decide) (hT _ tb_76) (fun _ h9 => h9) rfl d_ms_runToTheEnd_16 ?_
        refine lv_if_lt hx hb d_ms_runToTheEnd_19 (tgt := 53) (by decide) (fun z => absurd z (by rw [hJ.1]; exact xn_ge hde)) (fun _ => ?_)
        refine lv_aload_n hx hb d_ms_runToTheEnd_22 rfl (lv_at hl 1 rfl) ?_
        refine lv_aload_n hx hb d_ms_runToTheEnd_23 rfl (lv_at hl 1 rfl) ?_
        refine xw_wri (v := 0) (u' := (sp_in b1).1) (As := []) (rest := [.ref (ad 0)]) ⟨hx, hb, hml, hown, hts⟩ (c_do_ok l D cs ad _ b1 j1 hs hde hok hJ hf) tb_268 tb_270 sl_6 tb_1 tb_271 ⟨rfl, hd_ms_doInstruction⟩ ⟨Nat.le_of_ble_eq_true rfl, Nat.le_of_ble_eq_true rfl⟩ rfl rfl hK hP hD hN 0 0 rfl rfl hl.1 rfl (Nat.le_of_ble_eq_true rfl) d_ms_runToTheEnd_24 ⟨Nat.zero_le _, Nat.zero_le _⟩ hS hA (fun j2 H locs hj3 hP hD hS => ?_)
        obtain ⟨v4, ev4⟩ : ∃ z : Sg, z = (sp_in b1).1 := ⟨_, rfl⟩
        rw [← ev4] at hP hD
        refine va_put (D := D) (ci := 0) (v := .int (0)) (ty := .int) (C := "MeasuredStages") (T := F_ms) (N := 12) hx hb hts (fun w h => List.mem_cons_of_mem _ (i_ms w h)) t_ms o_ms n_ms hown hK hP hD hS 0 rfl rfl 9 (by decide) (hT _ tb_78) (fun _ h9 => h9) rfl (by decide +kernel) rfl rfl (Nat.le_of_ble_eq_true rfl) d_ms_runToTheEnd_27 (fun H locs hP hD hS => ?_)
        have hP : va_P D cx (xv ad cs (sg_im v4) (sg_ap v4) (sg_ag v4) (sg_he v4) (sg_er v4) (sg_ev v4) (sg_en v4) (sg_ma v4) (sg_po v4) (sg_se v4) (sg_ac v4) (0) (sg_la v4) (sg_st v4) (jx_ru j2) (jx_nd j2) (jx_de j2) (jx_rp j2)) H := hP
        have hD : va_D A (xv ad cs (sg_im v4) (sg_ap v4) (sg_ag v4) (sg_he v4) (sg_er v4) (sg_ev v4) (sg_en v4) (sg_ma v4) (sg_po v4) (sg_se v4) (sg_ac v4) (0) (sg_la v4) (sg_st v4) (jx_ru j2) (jx_nd j2) (jx_de j2) (jx_rp j2)) := hD
        have hin := in_keep hde hok hf
        rw [← ev4] at hin
        have hfv : sg_fa v4 = 0 := hin.2.1.trans hfa
        have hP : va_P D cx (xw ad cs v4 j2) H := by
          show va_P D cx (xv ad cs (sg_im v4) (sg_ap v4) (sg_ag v4) (sg_he v4) (sg_er v4) (sg_ev v4) (sg_en v4) (sg_ma v4) (sg_po v4) (sg_se v4) (sg_ac v4) (sg_fa v4) (sg_la v4) (sg_st v4) (jx_ru j2) (jx_nd j2) (jx_de j2) (jx_rp j2)) H
          rw [hfv]; exact hP
        have hD : va_D A (xw ad cs v4 j2) := by
          show va_D A (xv ad cs (sg_im v4) (sg_ap v4) (sg_ag v4) (sg_he v4) (sg_er v4) (sg_ev v4) (sg_en v4) (sg_ma v4) (sg_po v4) (sg_se v4) (sg_ac v4) (sg_fa v4) (sg_la v4) (sg_st v4) (jx_ru j2) (jx_nd j2) (jx_de j2) (jx_rp j2))
          rw [hfv]; exact hD
        refine lv_aload_n hx hb d_ms_runToTheEnd_30 rfl (lv_at hl 1 rfl) ?_
        refine va_get (D := D) (ci := 0) (v := .int (sg_fa v4)) (C := "MeasuredStages") (T := F_ms) (N := 12) hx hb hts (fun w h => List.mem_cons_of_mem _ (i_ms w h)) hown hK hP 0 rfl rfl 9 (by decide) (hT _ tb_78) (fun _ h9 => h9) rfl d_ms_runToTheEnd_31 ?_
        refine lv_if_ne hx hb d_ms_runToTheEnd_34 (tgt := 47) (by decide) (fun z => absurd hfv z) (fun _ => ?_)
        refine lv_aload_n hx hb d_ms_runToTheEnd_37 rfl (lv_at hl 1 rfl) ?_
        refine lv_dup hx hb d_ms_runToTheEnd_38 rfl ?_
        refine va_get (D := D) (ci := 0) (v := .int (sg_st v4)) (C := "MeasuredStages") (T := F_ms) (N := 12) hx hb hts (fun w h => List.mem_cons_of_mem _ (i_ms w h)) hown hK hP 0 rfl rfl 11 (by decide) (hT _ tb_80) (fun _ h9 => h9) rfl d_ms_runToTheEnd_39 ?_
        refine lv_iconst (v := 1) hx hb d_ms_runToTheEnd_42 (by decide) ?_
        refine lv_iadd hx hb d_ms_runToTheEnd_43 ?_
        refine va_put (D := D) (ci := 0) (v := .int ((sg_st v4) + (1))) (ty := .int) (C := "MeasuredStages") (T := F_ms) (N := 12) hx hb hts (fun w h => List.mem_cons_of_mem _ (i_ms w h)) t_ms o_ms n_ms hown hK hP hD hS 0 rfl rfl 11 (by decide) (hT _ tb_80) (fun _ h9 => h9) rfl (by decide +kernel) rfl rfl (Nat.le_of_ble_eq_true rfl) d_ms_runToTheEnd_44 (fun H locs hP hD hS => ?_)
        have hP : va_P D cx (xv ad cs (sg_im v4) (sg_ap v4) (sg_ag v4) (sg_he v4) (sg_er v4) (sg_ev v4) (sg_en v4) (sg_ma v4) (sg_po v4) (sg_se v4) (sg_ac v4) (sg_fa v4) (sg_la v4) ((sg_st v4) + (1)) (jx_ru j2) (jx_nd j2) (jx_de j2) (jx_rp j2)) H := hP
        have hD : va_D A (xv ad cs (sg_im v4) (sg_ap v4) (sg_ag v4) (sg_he v4) (sg_er v4) (sg_ev v4) (sg_en v4) (sg_ma v4) (sg_po v4) (sg_se v4) (sg_ac v4) (sg_fa v4) (sg_la v4) ((sg_st v4) + (1)) (jx_ru j2) (jx_nd j2) (jx_de j2) (jx_rp j2)) := hD
        refine lv_iinc (nL := 2) (k := 0) (v := nI (r + 1)) (lv' := [(1, .int (nI (r + 1))), (0, .ref (ad 0))]) hx hb d_ms_runToTheEnd_47 hl rfl ((nI_succ r).symm) (by decide) rfl (fun ls hl => ?_)
        refine lv_goto hx hb d_ms_runToTheEnd_50 (tgt := 2) (by decide) ?_
        obtain ⟨v5, ev5⟩ : ∃ z : Sg, z = (sg_im v4, sg_ap v4, sg_ag v4, sg_he v4, sg_er v4, sg_ev v4, sg_en v4, sg_ma v4, sg_po v4, sg_se v4, sg_ac v4, sg_fa v4, sg_la v4, (sg_st v4) + (1)) := ⟨_, rfl⟩
        have hP : va_P D cx (xw ad cs v5 j2) H := by rw [ev5, xw_u]; exact hP
        have hD : va_D A (xw ad cs v5 j2) := by rw [ev5, xw_u]; exact hD
        subst ev5
        subst ev4
        exact ih _ _ ls ((ss_st (sp_in b1).1 (sg_st (sp_in b1).1 + 1), (sp_in b1).2), j2) ⟨lv_sub hl [0, 1] rfl, hP, hD, hS, xj_st hj3, ok_st hin.1, hin.2.1.trans hfa, (st_st _ _).trans ((congrArg (· + 1) (hin.2.2.1.trans hst)).trans (nI_succ r).symm), hin.2.2.2.1, (by rw [← hU, rn_ok _ b1 hde hs1 hf, show 101 - (r + 1) = 100 - r by omega])⟩
      · skip
        refine lv_iload_n hx hb d_ms_runToTheEnd_2 rfl (lv_at hl 0 rfl) ?_
        refine lv_bipush (v := 100) hx hb d_ms_runToTheEnd_3 (by decide) ?_
        refine lv_icmp_gt hx hb d_ms_runToTheEnd_5 (tgt := 53) (by decide) (fun z => absurd z (le100 (by omega))) (fun _ => ?_)
        refine lv_aload_n hx hb d_ms_runToTheEnd_8 rfl (lv_at hl 1 rfl) ?_
        refine va_get (D := D) (ci := 0) (v := .int (sg_fa b1.1)) (C := "MeasuredStages") (T := F_ms) (N := 12) hx hb hts (fun w h => List.mem_cons_of_mem _ (i_ms w h)) hown hK hP 0 rfl rfl 9 (by decide) (hT _ tb_78) (fun _ h9 => h9) rfl d_ms_runToTheEnd_9 ?_
        refine lv_if_ne hx hb d_ms_runToTheEnd_12 (tgt := 53) (by decide) (fun z => absurd hfa z) (fun _ => ?_)
        refine lv_aload_n hx hb d_ms_runToTheEnd_15 rfl (lv_at hl 1 rfl) ?_
        refine va_get (D := D) (ci := 0) (v := .int (jx_de j1)) (C := "MeasuredStages") (T := F_ms) (N := 12) hx hb hts (fun w h => List.mem_cons_of_mem _ (i_ms w h)) hown hK hP 0 rfl rfl 7 (by decide) (hT _ tb_76) (fun _ h9 => h9) rfl d_ms_runToTheEnd_16 ?_
        refine lv_if_lt hx hb d_ms_runToTheEnd_19 (tgt := 53) (by decide) (fun z => absurd z (by rw [hJ.1]; exact xn_ge hde)) (fun _ => ?_)
        refine lv_aload_n hx hb d_ms_runToTheEnd_22 rfl (lv_at hl 1 rfl) ?_
        refine lv_aload_n hx hb d_ms_runToTheEnd_23 rfl (lv_at hl 1 rfl) ?_
        refine xw_wri (v := sp_if b1) (u' := b1.1) (As := []) (rest := [.ref (ad 0)]) ⟨hx, hb, hml, hown, hts⟩ (c_do_ft l D cs ad _ b1 j1 hs hde hok hJ hf) tb_268 tb_270 sl_6 tb_1 tb_271 ⟨rfl, hd_ms_doInstruction⟩ ⟨Nat.le_of_ble_eq_true rfl, Nat.le_of_ble_eq_true rfl⟩ rfl rfl hK hP hD hN 0 0 rfl rfl hl.1 rfl (Nat.le_of_ble_eq_true rfl) d_ms_runToTheEnd_24 ⟨Nat.zero_le _, Nat.zero_le _⟩ hS hA (fun j6 H locs hj7 hP hD hS => ?_)
        refine va_put (D := D) (ci := 0) (v := .int (sp_if b1)) (ty := .int) (C := "MeasuredStages") (T := F_ms) (N := 12) hx hb hts (fun w h => List.mem_cons_of_mem _ (i_ms w h)) t_ms o_ms n_ms hown hK hP hD hS 0 rfl rfl 9 (by decide) (hT _ tb_78) (fun _ h9 => h9) rfl (by decide +kernel) rfl rfl (Nat.le_of_ble_eq_true rfl) d_ms_runToTheEnd_27 (fun H locs hP hD hS => ?_)
        have hP : va_P D cx (xv ad cs (sg_im b1.1) (sg_ap b1.1) (sg_ag b1.1) (sg_he b1.1) (sg_er b1.1) (sg_ev b1.1) (sg_en b1.1) (sg_ma b1.1) (sg_po b1.1) (sg_se b1.1) (sg_ac b1.1) (sp_if b1) (sg_la b1.1) (sg_st b1.1) (jx_ru j6) (jx_nd j6) (jx_de j6) (jx_rp j6)) H := hP
        have hD : va_D A (xv ad cs (sg_im b1.1) (sg_ap b1.1) (sg_ag b1.1) (sg_he b1.1) (sg_er b1.1) (sg_ev b1.1) (sg_en b1.1) (sg_ma b1.1) (sg_po b1.1) (sg_se b1.1) (sg_ac b1.1) (sp_if b1) (sg_la b1.1) (sg_st b1.1) (jx_ru j6) (jx_nd j6) (jx_de j6) (jx_rp j6)) := hD
        refine lv_aload_n hx hb d_ms_runToTheEnd_30 rfl (lv_at hl 1 rfl) ?_
        refine va_get (D := D) (ci := 0) (v := .int (sp_if b1)) (C := "MeasuredStages") (T := F_ms) (N := 12) hx hb hts (fun w h => List.mem_cons_of_mem _ (i_ms w h)) hown hK hP 0 rfl rfl 9 (by decide) (hT _ tb_78) (fun _ h9 => h9) rfl d_ms_runToTheEnd_31 ?_
        refine lv_if_ne hx hb d_ms_runToTheEnd_34 (tgt := 47) (by decide) (fun _ => ?_) (fun z => absurd z hf)
        refine lv_iinc (nL := 2) (k := 0) (v := nI (r + 1)) (lv' := [(1, .int (nI (r + 1))), (0, .ref (ad 0))]) hx hb d_ms_runToTheEnd_47 hl rfl ((nI_succ r).symm) (by decide) rfl (fun ls hl => ?_)
        refine lv_goto hx hb d_ms_runToTheEnd_50 (tgt := 2) (by decide) ?_
        refine lv_iload_n hx hb d_ms_runToTheEnd_2 rfl (lv_at hl 0 rfl) ?_
        refine lv_bipush (v := 100) hx hb d_ms_runToTheEnd_3 (by decide) ?_
        refine lv_icmp_gt hx hb d_ms_runToTheEnd_5 (tgt := 53) (by decide) (fun z => absurd z (le100 (by omega))) (fun _ => ?_)
        refine lv_aload_n hx hb d_ms_runToTheEnd_8 rfl (lv_at hl 1 rfl) ?_
        refine va_get (D := D) (ci := 0) (v := .int (sp_if b1)) (C := "MeasuredStages") (T := F_ms) (N := 12) hx hb hts (fun w h => List.mem_cons_of_mem _ (i_ms w h)) hown hK hP 0 rfl rfl 9 (by decide) (hT _ tb_78) (fun _ h9 => h9) rfl d_ms_runToTheEnd_9 ?_
        refine lv_if_ne hx hb d_ms_runToTheEnd_12 (tgt := 53) (by decide) (fun _ => ?_) (fun z => absurd z hf)
        obtain ⟨v8, ev8⟩ : ∃ z : Sg, z = (sg_im b1.1, sg_ap b1.1, sg_ag b1.1, sg_he b1.1, sg_er b1.1, sg_ev b1.1, sg_en b1.1, sg_ma b1.1, sg_po b1.1, sg_se b1.1, sg_ac b1.1, sp_if b1, sg_la b1.1, sg_st b1.1) := ⟨_, rfl⟩
        have hP : va_P D cx (xw ad cs v8 j6) H := by rw [ev8, xw_u]; exact hP
        have hD : va_D A (xw ad cs v8 j6) := by rw [ev8, xw_u]; exact hD
        subst ev8
        have eU : ss_fa b1.1 (sp_if b1) = (sp_rn 101 b).1 := by rw [← hU, rn_ft _ b1 hde hs1 hf]
        have hP : va_P D cx (xw ad cs (ss_fa b1.1 (sp_if b1)) j6) H := hP
        have hD : va_D A (xw ad cs (ss_fa b1.1 (sp_if b1)) j6) := hD
        rw [eU] at hP hD
        exact W.vret hx hb hret (fun t ht hW => ⟨⟨j6, rfl, trivial, by rw [ht]; exact hP, va_K.moved hW.alike hK, hD⟩, hS.F ht⟩) hS.2.2 d_ms_runToTheEnd_53
    · skip
      refine lv_iload_n hx hb d_ms_runToTheEnd_2 rfl (lv_at hl 0 rfl) ?_
      refine lv_bipush (v := 100) hx hb d_ms_runToTheEnd_3 (by decide) ?_
      refine lv_icmp_gt hx hb d_ms_runToTheEnd_5 (tgt := 53) (by decide) (fun z => absurd z (le100 (by omega))) (fun _ => ?_)
      refine lv_aload_n hx hb d_ms_runToTheEnd_8 rfl (lv_at hl 1 rfl) ?_
      refine va_get (D := D) (ci := 0) (v := .int (sg_fa b1.1)) (C := "MeasuredStages") (T := F_ms) (N := 12) hx hb hts (fun w h => List.mem_cons_of_mem _ (i_ms w h)) hown hK hP 0 rfl rfl 9 (by decide) (hT _ tb_78) (fun _ h9 => h9) rfl d_ms_runToTheEnd_9 ?_
      refine lv_if_ne hx hb d_ms_runToTheEnd_12 (tgt := 53) (by decide) (fun z => absurd hfa z) (fun _ => ?_)
      refine lv_aload_n hx hb d_ms_runToTheEnd_15 rfl (lv_at hl 1 rfl) ?_
      refine va_get (D := D) (ci := 0) (v := .int (jx_de j1)) (C := "MeasuredStages") (T := F_ms) (N := 12) hx hb hts (fun w h => List.mem_cons_of_mem _ (i_ms w h)) hown hK hP 0 rfl rfl 7 (by decide) (hT _ tb_76) (fun _ h9 => h9) rfl d_ms_runToTheEnd_16 ?_
      refine lv_if_lt hx hb d_ms_runToTheEnd_19 (tgt := 53) (by decide) (fun _ => ?_) (fun z => absurd (by rw [hJ.1, hde]; decide) z)
      have eU : b1.1 = (sp_rn 101 b).1 := by rw [← hU, rn_end _ b1 hde]
      have hP : va_P D cx (xw ad cs (b1.1) j1) H := hP
      have hD : va_D A (xw ad cs (b1.1) j1) := hD
      rw [eU] at hP hD
      exact W.vret hx hb hret (fun t ht hW => ⟨⟨j1, rfl, trivial, by rw [ht]; exact hP, va_K.moved hW.alike hK, hD⟩, hS.F ht⟩) hS.2.2 d_ms_runToTheEnd_53
end
section
theorem d_ja_fill_0 : decode b_ja_fill 0 = .ok (.iconst 0, 1) := by decide +kernel
theorem d_ja_fill_1 : decode b_ja_fill 1 = .ok (.istore_n 3, 1) := by decide +kernel
theorem d_ja_fill_2 : decode b_ja_fill 2 = .ok (.aload_n 0, 1) := by decide +kernel
theorem d_ja_fill_3 : decode b_ja_fill 3 = .ok (.arraylength, 1) := by decide +kernel
theorem d_ja_fill_4 : decode b_ja_fill 4 = .ok (.istore 4, 2) := by decide +kernel
theorem d_ja_fill_6 : decode b_ja_fill 6 = .ok (.iload_n 3, 1) := by decide +kernel
theorem d_ja_fill_7 : decode b_ja_fill 7 = .ok (.iload 4, 2) := by decide +kernel
theorem d_ja_fill_9 : decode b_ja_fill 9 = .ok (.if_icmp .ge 13, 3) := by decide +kernel
theorem d_ja_fill_12 : decode b_ja_fill 12 = .ok (.aload_n 0, 1) := by decide +kernel
theorem d_ja_fill_13 : decode b_ja_fill 13 = .ok (.iload_n 3, 1) := by decide +kernel
theorem d_ja_fill_14 : decode b_ja_fill 14 = .ok (.lload_n 1, 1) := by decide +kernel
theorem d_ja_fill_15 : decode b_ja_fill 15 = .ok (.lastore, 1) := by decide +kernel
theorem d_ja_fill_16 : decode b_ja_fill 16 = .ok (.iinc 3 1, 3) := by decide +kernel
theorem d_ja_fill_19 : decode b_ja_fill 19 = .ok (.goto (-13), 3) := by decide +kernel
theorem d_ja_fill_22 : decode b_ja_fill 22 = .ok (.return_, 1) := by decide +kernel
set_option maxHeartbeats 4000000 in
set_option maxRecDepth 100000 in
theorem c_ja_fill (l : Launch) (D : va_G) (cs : Nat → ClassId) (ad : Nat → Nat) (sz : Nat) (u : Sg) (j : Jf)   : Met l y_ja_fill (Cond.code y_ja_fill b_ja_fill 5 none :: TB) { frames := 0, cells := 0, slots := 0, locals := 0 } (va_Pc [.ref (ad 0), .long (0)] (fw_Pre D cs ad u j sz)) (va_Qv (fun (j1 : Jf) => j1 = sp_z6 j) (fun (j1 : Jf) t => fw_B D cs ad (va_A (fw ad cs u j) sz) u j1 t) (va_A (fw ad cs u j) sz)) 0 0 (va_A (fw ad cs u j) sz) := by
  refine Met.ofW (cc := b_ja_fill) (maxL := 5) (ret := none) (by decide) rfl ?_
  intro p e s m args below meth c s₁ B hml hv
  obtain ⟨rfl, hsz, hP, hK, hD, hN⟩ := hv
  have hx := B.exec
  have hb := B.bytes
  have hret := B.returns
  have hts := atoms_spec (ws := Cond.code y_ja_fill b_ja_fill 5 none :: TB) B.pre
  have hT : ∀ w ∈ TB, w.before _ s = true := fun w h => hts w (List.mem_cons_of_mem _ h)
  have hown : s.vm.findClass "java/util/Arrays" = some m.cls := findClass_of_methodNamed B.named
  have hlocks := B.notSynchronized
  subst hsz
  have hD := hD.self (sz := s.heap.size)
  generalize hAe : va_A (fw ad cs u j) s.heap.size = A at hD ⊢
  have hA : ∀ q : Nat, s.heap.size ≤ q → A q := fun q h => by rw [← hAe]; exact Or.inr h
  have hS : va_S A s.heap s.heap [] := va_S.rf
  have hl := lv_entry ([.ref (ad 0), .long (0)]) (n := 5) (Nat.le_of_ble_eq_true rfl)
  rw [lg_entry_eq]
  generalize (lg_sl ([.ref (ad 0), .long (0)]) ++ List.replicate (5 - (lg_sl ([.ref (ad 0), .long (0)])).length) Slot.unset).toArray = ls at hl ⊢
  have hl : lv_has ls 5 [(0, .ref (ad 0)), (1, .long (0))] := hl
  skip
  refine lv_iconst (v := 0) hx hb d_ja_fill_0 (by decide) ?_
  refine lv_istore_n (nL := 5) (lv' := [(3, .int (0)), (0, .ref (ad 0)), (1, .long (0))]) hx hb d_ja_fill_1 rfl hl (by decide) rfl (fun ls hl => ?_)
  refine lv_aload_n hx hb d_ja_fill_2 rfl (lv_at hl 1 rfl) ?_
  refine va_alen hx hb hK hP 0 0 rfl rfl (v := 6) rfl d_ja_fill_3 ?_
  refine lv_istore (nL := 5) (lv' := [(4, .int (6)), (3, .int (0)), (0, .ref (ad 0)), (1, .long (0))]) hx hb d_ja_fill_4 hl (by decide) rfl (fun ls hl => ?_)
  refine lv_iload_n hx hb d_ja_fill_6 rfl (lv_at hl 1 rfl) ?_
  refine lv_iload hx hb d_ja_fill_7 (lv_at hl 0 rfl) ?_
  refine lv_icmp_ge hx hb d_ja_fill_9 (tgt := 22) (by decide) (fun z => absurd z (by decide)) (fun _ => ?_)
  refine lv_aload_n hx hb d_ja_fill_12 rfl (lv_at hl 2 rfl) ?_
  refine lv_iload_n hx hb d_ja_fill_13 rfl (lv_at hl 1 rfl) ?_
  refine lv_lload_n hx hb d_ja_fill_14 rfl (lv_at hl 3 rfl) ?_
  refine va_last hx hb hK hP hD hS 0 0 rfl rfl (by unfold vp_in; decide) d_ja_fill_15 (fun H locs hP hD hS => ?_)
  have hP : va_P D cx (fv ad cs (sg_im u) (sg_ap u) (sg_ag u) (sg_he u) (sg_er u) (sg_ev u) (sg_en u) (sg_ma u) (sg_po u) (sg_se u) (sg_ac u) (sg_fa u) (sg_la u) (sg_st u) (vp_updL (jf_f j) (0 : Int32).toNatClampNeg (0))) H := hP
  have hD : va_D A (fv ad cs (sg_im u) (sg_ap u) (sg_ag u) (sg_he u) (sg_er u) (sg_ev u) (sg_en u) (sg_ma u) (sg_po u) (sg_se u) (sg_ac u) (sg_fa u) (sg_la u) (sg_st u) (vp_updL (jf_f j) (0 : Int32).toNatClampNeg (0))) := hD
  refine lv_iinc (nL := 5) (k := 1) (v := 1) (lv' := [(3, .int (1)), (4, .int (6)), (0, .ref (ad 0)), (1, .long (0))]) hx hb d_ja_fill_16 hl rfl (by decide) (by decide) rfl (fun ls hl => ?_)
  refine lv_goto hx hb d_ja_fill_19 (tgt := 6) (by decide) ?_
  refine lv_iload_n hx hb d_ja_fill_6 rfl (lv_at hl 0 rfl) ?_
  refine lv_iload hx hb d_ja_fill_7 (lv_at hl 1 rfl) ?_
  refine lv_icmp_ge hx hb d_ja_fill_9 (tgt := 22) (by decide) (fun z => absurd z (by decide)) (fun _ => ?_)
  refine lv_aload_n hx hb d_ja_fill_12 rfl (lv_at hl 2 rfl) ?_
  refine lv_iload_n hx hb d_ja_fill_13 rfl (lv_at hl 0 rfl) ?_
  refine lv_lload_n hx hb d_ja_fill_14 rfl (lv_at hl 3 rfl) ?_
  refine va_last hx hb hK hP hD hS 0 0 rfl rfl (by unfold vp_in; decide) d_ja_fill_15 (fun H locs hP hD hS => ?_)
  have hP : va_P D cx (fv ad cs (sg_im u) (sg_ap u) (sg_ag u) (sg_he u) (sg_er u) (sg_ev u) (sg_en u) (sg_ma u) (sg_po u) (sg_se u) (sg_ac u) (sg_fa u) (sg_la u) (sg_st u) (vp_updL (vp_updL (jf_f j) (0 : Int32).toNatClampNeg (0)) (1 : Int32).toNatClampNeg (0))) H := hP
  have hD : va_D A (fv ad cs (sg_im u) (sg_ap u) (sg_ag u) (sg_he u) (sg_er u) (sg_ev u) (sg_en u) (sg_ma u) (sg_po u) (sg_se u) (sg_ac u) (sg_fa u) (sg_la u) (sg_st u) (vp_updL (vp_updL (jf_f j) (0 : Int32).toNatClampNeg (0)) (1 : Int32).toNatClampNeg (0))) := hD
  refine lv_iinc (nL := 5) (k := 0) (v := 2) (lv' := [(3, .int (2)), (4, .int (6)), (0, .ref (ad 0)), (1, .long (0))]) hx hb d_ja_fill_16 hl rfl (by decide) (by decide) rfl (fun ls hl => ?_)
  refine lv_goto hx hb d_ja_fill_19 (tgt := 6) (by decide) ?_
  refine lv_iload_n hx hb d_ja_fill_6 rfl (lv_at hl 0 rfl) ?_
  refine lv_iload hx hb d_ja_fill_7 (lv_at hl 1 rfl) ?_
  refine lv_icmp_ge hx hb d_ja_fill_9 (tgt := 22) (by decide) (fun z => absurd z (by decide)) (fun _ => ?_)
  refine lv_aload_n hx hb d_ja_fill_12 rfl (lv_at hl 2 rfl) ?_
  refine lv_iload_n hx hb d_ja_fill_13 rfl (lv_at hl 0 rfl) ?_
  refine lv_lload_n hx hb d_ja_fill_14 rfl (lv_at hl 3 rfl) ?_
  refine va_last hx hb hK hP hD hS 0 0 rfl rfl (by unfold vp_in; decide) d_ja_fill_15 (fun H locs hP hD hS => ?_)
  have hP : va_P D cx (fv ad cs (sg_im u) (sg_ap u) (sg_ag u) (sg_he u) (sg_er u) (sg_ev u) (sg_en u) (sg_ma u) (sg_po u) (sg_se u) (sg_ac u) (sg_fa u) (sg_la u) (sg_st u) (vp_updL (vp_updL (vp_updL (jf_f j) (0 : Int32).toNatClampNeg (0)) (1 : Int32).toNatClampNeg (0)) (2 : Int32).toNatClampNeg (0))) H := hP
  have hD : va_D A (fv ad cs (sg_im u) (sg_ap u) (sg_ag u) (sg_he u) (sg_er u) (sg_ev u) (sg_en u) (sg_ma u) (sg_po u) (sg_se u) (sg_ac u) (sg_fa u) (sg_la u) (sg_st u) (vp_updL (vp_updL (vp_updL (jf_f j) (0 : Int32).toNatClampNeg (0)) (1 : Int32).toNatClampNeg (0)) (2 : Int32).toNatClampNeg (0))) := hD
  refine lv_iinc (nL := 5) (k := 0) (v := 3) (lv' := [(3, .int (3)), (4, .int (6)), (0, .ref (ad 0)), (1, .long (0))]) hx hb d_ja_fill_16 hl rfl (by decide) (by decide) rfl (fun ls hl => ?_)
  refine lv_goto hx hb d_ja_fill_19 (tgt := 6) (by decide) ?_
  refine lv_iload_n hx hb d_ja_fill_6 rfl (lv_at hl 0 rfl) ?_
  refine lv_iload hx hb d_ja_fill_7 (lv_at hl 1 rfl) ?_
  refine lv_icmp_ge hx hb d_ja_fill_9 (tgt := 22) (by decide) (fun z => absurd z (by decide)) (fun _ => ?_)
  refine lv_aload_n hx hb d_ja_fill_12 rfl (lv_at hl 2 rfl) ?_
  refine lv_iload_n hx hb d_ja_fill_13 rfl (lv_at hl 0 rfl) ?_
  refine lv_lload_n hx hb d_ja_fill_14 rfl (lv_at hl 3 rfl) ?_
  refine va_last hx hb hK hP hD hS 0 0 rfl rfl (by unfold vp_in; decide) d_ja_fill_15 (fun H locs hP hD hS => ?_)
  have hP : va_P D cx (fv ad cs (sg_im u) (sg_ap u) (sg_ag u) (sg_he u) (sg_er u) (sg_ev u) (sg_en u) (sg_ma u) (sg_po u) (sg_se u) (sg_ac u) (sg_fa u) (sg_la u) (sg_st u) (vp_updL (vp_updL (vp_updL (vp_updL (jf_f j) (0 : Int32).toNatClampNeg (0)) (1 : Int32).toNatClampNeg (0)) (2 : Int32).toNatClampNeg (0)) (3 : Int32).toNatClampNeg (0))) H := hP
  have hD : va_D A (fv ad cs (sg_im u) (sg_ap u) (sg_ag u) (sg_he u) (sg_er u) (sg_ev u) (sg_en u) (sg_ma u) (sg_po u) (sg_se u) (sg_ac u) (sg_fa u) (sg_la u) (sg_st u) (vp_updL (vp_updL (vp_updL (vp_updL (jf_f j) (0 : Int32).toNatClampNeg (0)) (1 : Int32).toNatClampNeg (0)) (2 : Int32).toNatClampNeg (0)) (3 : Int32).toNatClampNeg (0))) := hD
  refine lv_iinc (nL := 5) (k := 0) (v := 4) (lv' := [(3, .int (4)), (4, .int (6)), (0, .ref (ad 0)), (1, .long (0))]) hx hb d_ja_fill_16 hl rfl (by decide) (by decide) rfl (fun ls hl => ?_)
  refine lv_goto hx hb d_ja_fill_19 (tgt := 6) (by decide) ?_
  refine lv_iload_n hx hb d_ja_fill_6 rfl (lv_at hl 0 rfl) ?_
  refine lv_iload hx hb d_ja_fill_7 (lv_at hl 1 rfl) ?_
  refine lv_icmp_ge hx hb d_ja_fill_9 (tgt := 22) (by decide) (fun z => absurd z (by decide)) (fun _ => ?_)
  refine lv_aload_n hx hb d_ja_fill_12 rfl (lv_at hl 2 rfl) ?_
  refine lv_iload_n hx hb d_ja_fill_13 rfl (lv_at hl 0 rfl) ?_
  refine lv_lload_n hx hb d_ja_fill_14 rfl (lv_at hl 3 rfl) ?_
  refine va_last hx hb hK hP hD hS 0 0 rfl rfl (by unfold vp_in; decide) d_ja_fill_15 (fun H locs hP hD hS => ?_)
  have hP : va_P D cx (fv ad cs (sg_im u) (sg_ap u) (sg_ag u) (sg_he u) (sg_er u) (sg_ev u) (sg_en u) (sg_ma u) (sg_po u) (sg_se u) (sg_ac u) (sg_fa u) (sg_la u) (sg_st u) (vp_updL (vp_updL (vp_updL (vp_updL (vp_updL (jf_f j) (0 : Int32).toNatClampNeg (0)) (1 : Int32).toNatClampNeg (0)) (2 : Int32).toNatClampNeg (0)) (3 : Int32).toNatClampNeg (0)) (4 : Int32).toNatClampNeg (0))) H := hP
  have hD : va_D A (fv ad cs (sg_im u) (sg_ap u) (sg_ag u) (sg_he u) (sg_er u) (sg_ev u) (sg_en u) (sg_ma u) (sg_po u) (sg_se u) (sg_ac u) (sg_fa u) (sg_la u) (sg_st u) (vp_updL (vp_updL (vp_updL (vp_updL (vp_updL (jf_f j) (0 : Int32).toNatClampNeg (0)) (1 : Int32).toNatClampNeg (0)) (2 : Int32).toNatClampNeg (0)) (3 : Int32).toNatClampNeg (0)) (4 : Int32).toNatClampNeg (0))) := hD
  refine lv_iinc (nL := 5) (k := 0) (v := 5) (lv' := [(3, .int (5)), (4, .int (6)), (0, .ref (ad 0)), (1, .long (0))]) hx hb d_ja_fill_16 hl rfl (by decide) (by decide) rfl (fun ls hl => ?_)
  refine lv_goto hx hb d_ja_fill_19 (tgt := 6) (by decide) ?_
  refine lv_iload_n hx hb d_ja_fill_6 rfl (lv_at hl 0 rfl) ?_
  refine lv_iload hx hb d_ja_fill_7 (lv_at hl 1 rfl) ?_
  refine lv_icmp_ge hx hb d_ja_fill_9 (tgt := 22) (by decide) (fun z => absurd z (by decide)) (fun _ => ?_)
  refine lv_aload_n hx hb d_ja_fill_12 rfl (lv_at hl 2 rfl) ?_
  refine lv_iload_n hx hb d_ja_fill_13 rfl (lv_at hl 0 rfl) ?_
  refine lv_lload_n hx hb d_ja_fill_14 rfl (lv_at hl 3 rfl) ?_
  refine va_last hx hb hK hP hD hS 0 0 rfl rfl (by unfold vp_in; decide) d_ja_fill_15 (fun H locs hP hD hS => ?_)
  have hP : va_P D cx (fv ad cs (sg_im u) (sg_ap u) (sg_ag u) (sg_he u) (sg_er u) (sg_ev u) (sg_en u) (sg_ma u) (sg_po u) (sg_se u) (sg_ac u) (sg_fa u) (sg_la u) (sg_st u) (vp_updL (vp_updL (vp_updL (vp_updL (vp_updL (vp_updL (jf_f j) (0 : Int32).toNatClampNeg (0)) (1 : Int32).toNatClampNeg (0)) (2 : Int32).toNatClampNeg (0)) (3 : Int32).toNatClampNeg (0)) (4 : Int32).toNatClampNeg (0)) (5 : Int32).toNatClampNeg (0))) H := hP
  have hD : va_D A (fv ad cs (sg_im u) (sg_ap u) (sg_ag u) (sg_he u) (sg_er u) (sg_ev u) (sg_en u) (sg_ma u) (sg_po u) (sg_se u) (sg_ac u) (sg_fa u) (sg_la u) (sg_st u) (vp_updL (vp_updL (vp_updL (vp_updL (vp_updL (vp_updL (jf_f j) (0 : Int32).toNatClampNeg (0)) (1 : Int32).toNatClampNeg (0)) (2 : Int32).toNatClampNeg (0)) (3 : Int32).toNatClampNeg (0)) (4 : Int32).toNatClampNeg (0)) (5 : Int32).toNatClampNeg (0))) := hD
  refine lv_iinc (nL := 5) (k := 0) (v := 6) (lv' := [(3, .int (6)), (4, .int (6)), (0, .ref (ad 0)), (1, .long (0))]) hx hb d_ja_fill_16 hl rfl (by decide) (by decide) rfl (fun ls hl => ?_)
  refine lv_goto hx hb d_ja_fill_19 (tgt := 6) (by decide) ?_
  refine lv_iload_n hx hb d_ja_fill_6 rfl (lv_at hl 0 rfl) ?_
  refine lv_iload hx hb d_ja_fill_7 (lv_at hl 1 rfl) ?_
  refine lv_icmp_ge hx hb d_ja_fill_9 (tgt := 22) (by decide) (fun _ => ?_) (fun z => absurd (by decide) z)
  obtain ⟨q1, eq1⟩ : ∃ z : Jf, z = (vp_updL (vp_updL (vp_updL (vp_updL (vp_updL (vp_updL (jf_f j) (0 : Int32).toNatClampNeg (0)) (1 : Int32).toNatClampNeg (0)) (2 : Int32).toNatClampNeg (0)) (3 : Int32).toNatClampNeg (0)) (4 : Int32).toNatClampNeg (0)) (5 : Int32).toNatClampNeg (0)) := ⟨_, rfl⟩
  have hP : va_P D cx (fw ad cs u q1) H := by rw [eq1, fw_j]; exact hP
  have hD : va_D A (fw ad cs u q1) := by rw [eq1, fw_j]; exact hD
  exact W.vret hx hb hret (fun t ht hW => ⟨⟨q1, rfl, (by subst eq1; rfl), by rw [ht]; exact hP, va_K.moved hW.alike hK, hD⟩, hS.F ht⟩) hS.2.2 d_ja_fill_22
/-- Arrays.fill of the row at ad 8 with zeros -/
theorem xw_fl8 {p : Program} {l : Launch} {e : Env} {R : Room} {s : State} {m : MethodId} {args : Array Value} {below : List Frame} {meth : Method} {c : Code} {H : Heap} {locs : List Loc} {cells slots : Nat} {Q : State → Prop} {cc : ByteArray} {nL index pc : Nat} {own : String} {rest : List Value} {ls : Array Slot} {c0 : Cond} {D : va_G} {cs : Nat → ClassId} {ad : Nat → Nat} {u : Sg} {j : Jx} {A : Nat → Prop}
    (S : CallFix p m c cc nL s args (c0 :: TB) own) (h1 : Cond.methodLink own index y_ja_fill ∈ TB) (hR : 0 + 1 ≤ R.frames ∧ 8 + (5 + 11) + 0 ≤ R.locals)
    (hK : va_K D cx (xty cs) s) (hP : va_P D cx (xw ad cs u j) H) (hD : va_D A (xw ad cs u j)) (hsize : ls.size = nL) (hW : (rest.map fun v => v.category).sum ≤ 8) (hdg : decode cc pc = .ok (.invokestatic index, 3)) (hf : cells ≤ R.cells ∧ slots ≤ R.slots) (hS : va_S A s.heap H locs) (hA : ∀ q, s.heap.size ≤ q → A q)
    (kk : ∀ (H1 : Heap) (locs1 : List Loc), va_P D cx (xw ad cs (ss_he u (sp_z6 (sg_he u))) (j)) H1 → va_D A (xw ad cs (ss_he u (sp_z6 (sg_he u))) (j)) → va_S A s.heap H1 locs1 → W p l e R s m args below meth c H1 locs1 cells slots Q (F0 m (pc + 3) ls rest)) : W p l e R s m args below meth c H locs cells slots Q (F0 m pc ls (.long 0 :: .ref (ad 8) :: rest)) := by
  have hPc := hP.sub (ws' := fw (fun _ => ad 8) (fun _ => cs 5) u (sg_he u)) [8] rfl
  have hDc := hD.sub (ws' := fw (fun _ => ad 8) (fun _ => cs 5) u (sg_he u)) [8] (by decide) rfl
  have hKc := hK.sub (tys' := fty (fun _ => cs 5)) [5] rfl
  have hFc := va_free (wc := fw (fun _ => ad 8) (fun _ => cs 5) u (sg_he u)) hD hS hA [8] rfl
  refine va_callv (va_runS (As := [.ref (ad 8), .long 0]) (rest := rest) S (c_ja_fill l D (fun _ => cs 5) (fun _ => ad 8) H.size u (sg_he u)) (va_cwS 2 S.2.2.2.2 (gi_S h1 tb_135 tb_9 tb_136) rfl rfl rfl hd_ja_fill hR) ⟨fw_blind, fun U hU hW => ⟨rfl, by rw [hU], by rw [hU]; exact hPc, va_K.moved hW.alike hKc, hDc.weaken (fun _ _ _ _ => trivial), trivial⟩⟩ rfl rfl hsize rfl (lv_room hW) hdg hf) hS (fun q _ h => hFc q h) (fun q h => hFc q h) (fun j1 t H1 locs1 ht hvm hp hB hle hk1 hS1 => ?_)
  obtain ⟨hP1, -, hD1⟩ := hB
  rw [ht] at hP1
  subst hp
  obtain ⟨hP2, hD2⟩ := va_join (wr := [(ad 0, .inr (0, [.ref (ad 1), .ref (ad 2), .ref (ad 3), .ref (ad 4), .ref (ad 5), .ref (ad 6), .ref (ad 7), .int (jx_de j), .long (sg_ac u), .int (sg_fa u), .int (sg_la u), .int (sg_st u)])), (ad 1, .inl (cs 0, 8, .inr (.inl (sg_im u)))), (ad 2, .inl (cs 1, 8, .inl (sg_ap u))), (ad 3, .inl (cs 2, 8, .inr (.inl (sg_ag u)))), (ad 4, .inr (1, [.ref (ad 8), .ref (ad 9), .ref (ad 10), .int (sg_en u), .ref (ad 11)])), (ad 5, .inr (2, [.ref (ad 12), .ref (ad 13), .ref (ad 14)])), (ad 6, .inl (cs 3, 6, .inr (.inl (jx_ru j)))), (ad 7, .inl (cs 4, 6, .inl (jx_nd j))), (ad 9, .inl (cs 6, 32, .inl (sg_er u))), (ad 10, .inl (cs 7, 32, .inr (.inl (sg_ev u)))), (ad 11, .inl (cs 8, 6, .inr (.inl (jx_rp j)))), (ad 12, .inl (cs 9, 8, .inl (sg_ma u))), (ad 13, .inl (cs 10, 8, .inr (.inl (sg_po u)))), (ad 14, .inl (cs 11, 8, .inr (.inl (sg_se u))))]) hP hD [8] [0, 1, 2, 3, 4, 5, 6, 7, 9, 10, 11, 12, 13, 14] rfl rfl (by decide) (by decide) hk1 hFc hP1 hD1
  exact kk H1 locs1 (hP2.sub [0, 1, 2, 3, 4, 5, 6, 7, 14, 8, 9, 10, 11, 12, 13] rfl) (hD2.sub [0, 1, 2, 3, 4, 5, 6, 7, 14, 8, 9, 10, 11, 12, 13] (by decide) rfl) hS1
/-- Arrays.fill of the row at ad 11 with zeros -/
theorem xw_fl11 {p : Program} {l : Launch} {e : Env} {R : Room} {s : State} {m : MethodId} {args : Array Value} {below : List Frame} {meth : Method} {c : Code} {H : Heap} {locs : List Loc} {cells slots : Nat} {Q : State → Prop} {cc : ByteArray} {nL index pc : Nat} {own : String} {rest : List Value} {ls : Array Slot} {c0 : Cond} {D : va_G} {cs : Nat → ClassId} {ad : Nat → Nat} {u : Sg} {j : Jx} {A : Nat → Prop}
    (S : CallFix p m c cc nL s args (c0 :: TB) own) (h1 : Cond.methodLink own index y_ja_fill ∈ TB) (hR : 0 + 1 ≤ R.frames ∧ 8 + (5 + 11) + 0 ≤ R.locals)
    (hK : va_K D cx (xty cs) s) (hP : va_P D cx (xw ad cs u j) H) (hD : va_D A (xw ad cs u j)) (hsize : ls.size = nL) (hW : (rest.map fun v => v.category).sum ≤ 8) (hdg : decode cc pc = .ok (.invokestatic index, 3)) (hf : cells ≤ R.cells ∧ slots ≤ R.slots) (hS : va_S A s.heap H locs) (hA : ∀ q, s.heap.size ≤ q → A q)
    (kk : ∀ (H1 : Heap) (locs1 : List Loc), va_P D cx (xw ad cs (u) (sx_rp j (sp_z6 (jx_rp j)))) H1 → va_D A (xw ad cs (u) (sx_rp j (sp_z6 (jx_rp j)))) → va_S A s.heap H1 locs1 → W p l e R s m args below meth c H1 locs1 cells slots Q (F0 m (pc + 3) ls rest)) : W p l e R s m args below meth c H locs cells slots Q (F0 m pc ls (.long 0 :: .ref (ad 11) :: rest)) := by
  have hPc := hP.sub (ws' := fw (fun _ => ad 11) (fun _ => cs 8) u (jx_rp j)) [11] rfl
  have hDc := hD.sub (ws' := fw (fun _ => ad 11) (fun _ => cs 8) u (jx_rp j)) [11] (by decide) rfl
  have hKc := hK.sub (tys' := fty (fun _ => cs 8)) [8] rfl
  have hFc := va_free (wc := fw (fun _ => ad 11) (fun _ => cs 8) u (jx_rp j)) hD hS hA [11] rfl
  refine va_callv (va_runS (As := [.ref (ad 11), .long 0]) (rest := rest) S (c_ja_fill l D (fun _ => cs 8) (fun _ => ad 11) H.size u (jx_rp j)) (va_cwS 2 S.2.2.2.2 (gi_S h1 tb_135 tb_9 tb_136) rfl rfl rfl hd_ja_fill hR) ⟨fw_blind, fun U hU hW => ⟨rfl, by rw [hU], by rw [hU]; exact hPc, va_K.moved hW.alike hKc, hDc.weaken (fun _ _ _ _ => trivial), trivial⟩⟩ rfl rfl hsize rfl (lv_room hW) hdg hf) hS (fun q _ h => hFc q h) (fun q h => hFc q h) (fun j1 t H1 locs1 ht hvm hp hB hle hk1 hS1 => ?_)
  obtain ⟨hP1, -, hD1⟩ := hB
  rw [ht] at hP1
  subst hp
  obtain ⟨hP2, hD2⟩ := va_join (wr := [(ad 0, .inr (0, [.ref (ad 1), .ref (ad 2), .ref (ad 3), .ref (ad 4), .ref (ad 5), .ref (ad 6), .ref (ad 7), .int (jx_de j), .long (sg_ac u), .int (sg_fa u), .int (sg_la u), .int (sg_st u)])), (ad 1, .inl (cs 0, 8, .inr (.inl (sg_im u)))), (ad 2, .inl (cs 1, 8, .inl (sg_ap u))), (ad 3, .inl (cs 2, 8, .inr (.inl (sg_ag u)))), (ad 4, .inr (1, [.ref (ad 8), .ref (ad 9), .ref (ad 10), .int (sg_en u), .ref (ad 11)])), (ad 5, .inr (2, [.ref (ad 12), .ref (ad 13), .ref (ad 14)])), (ad 6, .inl (cs 3, 6, .inr (.inl (jx_ru j)))), (ad 7, .inl (cs 4, 6, .inl (jx_nd j))), (ad 8, .inl (cs 5, 6, .inr (.inl (sg_he u)))), (ad 9, .inl (cs 6, 32, .inl (sg_er u))), (ad 10, .inl (cs 7, 32, .inr (.inl (sg_ev u)))), (ad 12, .inl (cs 9, 8, .inl (sg_ma u))), (ad 13, .inl (cs 10, 8, .inr (.inl (sg_po u)))), (ad 14, .inl (cs 11, 8, .inr (.inl (sg_se u))))]) hP hD [11] [0, 1, 2, 3, 4, 5, 6, 7, 8, 9, 10, 12, 13, 14] rfl rfl (by decide) (by decide) hk1 hFc hP1 hD1
  exact kk H1 locs1 (hP2.sub [0, 1, 2, 3, 4, 5, 6, 7, 8, 9, 10, 14, 11, 12, 13] rfl) (hD2.sub [0, 1, 2, 3, 4, 5, 6, 7, 8, 9, 10, 14, 11, 12, 13] (by decide) rfl) hS1
theorem d_rg_clear_0 : decode b_rg_clear 0 = .ok (.aload_n 0, 1) := by decide +kernel
theorem d_rg_clear_1 : decode b_rg_clear 1 = .ok (.getfield 11, 3) := by decide +kernel
theorem d_rg_clear_4 : decode b_rg_clear 4 = .ok (.lconst 0, 1) := by decide +kernel
theorem d_rg_clear_5 : decode b_rg_clear 5 = .ok (.invokestatic 29, 3) := by decide +kernel
theorem d_rg_clear_8 : decode b_rg_clear 8 = .ok (.aload_n 0, 1) := by decide +kernel
theorem d_rg_clear_9 : decode b_rg_clear 9 = .ok (.iconst 0, 1) := by decide +kernel
theorem d_rg_clear_10 : decode b_rg_clear 10 = .ok (.putfield 25, 3) := by decide +kernel
theorem d_rg_clear_13 : decode b_rg_clear 13 = .ok (.return_, 1) := by decide +kernel
theorem d_ms_clearForBoot_0 : decode b_ms_clearForBoot 0 = .ok (.aload_n 0, 1) := by decide +kernel
theorem d_ms_clearForBoot_1 : decode b_ms_clearForBoot 1 = .ok (.getfield 23, 3) := by decide +kernel
theorem d_ms_clearForBoot_4 : decode b_ms_clearForBoot 4 = .ok (.invokevirtual 176, 3) := by decide +kernel
theorem d_ms_clearForBoot_7 : decode b_ms_clearForBoot 7 = .ok (.aload_n 0, 1) := by decide +kernel
theorem d_ms_clearForBoot_8 : decode b_ms_clearForBoot 8 = .ok (.lconst 0, 1) := by decide +kernel
theorem d_ms_clearForBoot_9 : decode b_ms_clearForBoot 9 = .ok (.putfield 81, 3) := by decide +kernel
theorem d_ms_clearForBoot_12 : decode b_ms_clearForBoot 12 = .ok (.aload_n 0, 1) := by decide +kernel
theorem d_ms_clearForBoot_13 : decode b_ms_clearForBoot 13 = .ok (.iconst 0, 1) := by decide +kernel
theorem d_ms_clearForBoot_14 : decode b_ms_clearForBoot 14 = .ok (.putfield 75, 3) := by decide +kernel
theorem d_ms_clearForBoot_17 : decode b_ms_clearForBoot 17 = .ok (.aload_n 0, 1) := by decide +kernel
theorem d_ms_clearForBoot_18 : decode b_ms_clearForBoot 18 = .ok (.iconst 0, 1) := by decide +kernel
theorem d_ms_clearForBoot_19 : decode b_ms_clearForBoot 19 = .ok (.putfield 78, 3) := by decide +kernel
theorem d_ms_clearForBoot_22 : decode b_ms_clearForBoot 22 = .ok (.return_, 1) := by decide +kernel
set_option maxHeartbeats 4000000 in
set_option maxRecDepth 100000 in
theorem c_rg_clear (l : Launch) (D : va_G) (cs : Nat → ClassId) (ad : Nat → Nat) (sz : Nat) (u : Sg) (j : Jx)   : Met l y_rg_clear (Cond.code y_rg_clear b_rg_clear 1 none :: TB) { frames := 1, cells := 0, slots := 0, locals := 24 } (va_Pc [.ref (ad 4)] (xw_Pre D cs ad u j sz)) (va_Qv (fun (j1 : Jx) => j1 = j) (fun (j1 : Jx) t => xw_B D cs ad (va_A (xw ad cs u j) sz) (ss_en (ss_he u (sp_z6 (sg_he u))) 0) j1 t) (va_A (xw ad cs u j) sz)) 0 0 (va_A (xw ad cs u j) sz) := by
  refine Met.ofW (cc := b_rg_clear) (maxL := 1) (ret := none) (by decide) rfl ?_
  intro p e s m args below meth c s₁ B hml hv
  obtain ⟨rfl, hsz, hP, hK, hD, hN⟩ := hv
  have hx := B.exec
  have hb := B.bytes
  have hret := B.returns
  have hts := atoms_spec (ws := Cond.code y_rg_clear b_rg_clear 1 none :: TB) B.pre
  have hT : ∀ w ∈ TB, w.before _ s = true := fun w h => hts w (List.mem_cons_of_mem _ h)
  have hown : s.vm.findClass "MeasuredStages$Registers" = some m.cls := findClass_of_methodNamed B.named
  have hlocks := B.notSynchronized
  subst hsz
  have hD := hD.self (sz := s.heap.size)
  generalize hAe : va_A (xw ad cs u j) s.heap.size = A at hD ⊢
  have hA : ∀ q : Nat, s.heap.size ≤ q → A q := fun q h => by rw [← hAe]; exact Or.inr h
  have hS : va_S A s.heap s.heap [] := va_S.rf
  have hl := lv_entry ([.ref (ad 4)]) (n := 1) (Nat.le_of_ble_eq_true rfl)
  rw [lg_entry_eq]
  generalize (lg_sl ([.ref (ad 4)]) ++ List.replicate (1 - (lg_sl ([.ref (ad 4)])).length) Slot.unset).toArray = ls at hl ⊢
  have hl : lv_has ls 1 [(0, .ref (ad 4))] := hl
  skip
  refine lv_aload_n hx hb d_rg_clear_0 rfl (lv_at hl 0 rfl) ?_
  refine va_get (D := D) (ci := 1) (v := .ref (ad 8)) (C := "MeasuredStages$Registers") (T := F_rg) (N := 5) hx hb hts (fun w h => List.mem_cons_of_mem _ (i_rg w h)) hown hK hP 4 rfl rfl 0 (by decide) (hT _ tb_27) (fun _ h9 => h9) rfl d_rg_clear_1 ?_
  refine lv_lconst (v := 0) hx hb d_rg_clear_4 (by decide) ?_
  refine xw_fl8 ⟨hx, hb, hml, hown, hts⟩ tb_134 ⟨Nat.le_of_ble_eq_true rfl, Nat.le_of_ble_eq_true rfl⟩ hK hP hD hl.1 (Nat.le_of_ble_eq_true rfl) d_rg_clear_5 ⟨Nat.zero_le _, Nat.zero_le _⟩ hS hA (fun H locs hP hD hS => ?_)
  have hP : va_P D cx (xv ad cs (sg_im u) (sg_ap u) (sg_ag u) (sp_z6 (sg_he u)) (sg_er u) (sg_ev u) (sg_en u) (sg_ma u) (sg_po u) (sg_se u) (sg_ac u) (sg_fa u) (sg_la u) (sg_st u) (jx_ru j) (jx_nd j) (jx_de j) (jx_rp j)) H := hP
  have hD : va_D A (xv ad cs (sg_im u) (sg_ap u) (sg_ag u) (sp_z6 (sg_he u)) (sg_er u) (sg_ev u) (sg_en u) (sg_ma u) (sg_po u) (sg_se u) (sg_ac u) (sg_fa u) (sg_la u) (sg_st u) (jx_ru j) (jx_nd j) (jx_de j) (jx_rp j)) := hD
  refine lv_aload_n hx hb d_rg_clear_8 rfl (lv_at hl 0 rfl) ?_
  refine lv_iconst (v := 0) hx hb d_rg_clear_9 (by decide) ?_
  refine va_put (D := D) (ci := 1) (v := .int (0)) (ty := .int) (C := "MeasuredStages$Registers") (T := F_rg) (N := 5) hx hb hts (fun w h => List.mem_cons_of_mem _ (i_rg w h)) t_rg o_rg n_rg hown hK hP hD hS 4 rfl rfl 3 (by decide) (hT _ tb_33) (fun _ h9 => h9) rfl (by decide +kernel) rfl rfl (Nat.le_of_ble_eq_true rfl) d_rg_clear_10 (fun H locs hP hD hS => ?_)
  have hP : va_P D cx (xv ad cs (sg_im u) (sg_ap u) (sg_ag u) (sp_z6 (sg_he u)) (sg_er u) (sg_ev u) (0) (sg_ma u) (sg_po u) (sg_se u) (sg_ac u) (sg_fa u) (sg_la u) (sg_st u) (jx_ru j) (jx_nd j) (jx_de j) (jx_rp j)) H := hP
  have hD : va_D A (xv ad cs (sg_im u) (sg_ap u) (sg_ag u) (sp_z6 (sg_he u)) (sg_er u) (sg_ev u) (0) (sg_ma u) (sg_po u) (sg_se u) (sg_ac u) (sg_fa u) (sg_la u) (sg_st u) (jx_ru j) (jx_nd j) (jx_de j) (jx_rp j)) := hD
  obtain ⟨v1, ev1⟩ : ∃ z : Sg, z = (sg_im u, sg_ap u, sg_ag u, sp_z6 (sg_he u), sg_er u, sg_ev u, 0, sg_ma u, sg_po u, sg_se u, sg_ac u, sg_fa u, sg_la u, sg_st u) := ⟨_, rfl⟩
  have hP : va_P D cx (xw ad cs v1 j) H := by rw [ev1, xw_u]; exact hP
  have hD : va_D A (xw ad cs v1 j) := by rw [ev1, xw_u]; exact hD
  subst ev1
  exact W.vret hx hb hret (fun t ht hW => ⟨⟨j, rfl, (by rfl), by rw [ht]; exact hP, va_K.moved hW.alike hK, hD⟩, hS.F ht⟩) hS.2.2 d_rg_clear_13
set_option maxHeartbeats 4000000 in
set_option maxRecDepth 100000 in
theorem c_ms_clearForBoot (l : Launch) (D : va_G) (cs : Nat → ClassId) (ad : Nat → Nat) (sz : Nat) (u : Sg) (j : Jx)   : Met l y_ms_clearForBoot (Cond.code y_ms_clearForBoot b_ms_clearForBoot 1 none :: TB) { frames := 2, cells := 0, slots := 0, locals := 44 } (va_Pc [.ref (ad 0)] (xw_Pre D cs ad u j sz)) (va_Qv (fun (j1 : Jx) => j1 = j) (fun (j1 : Jx) t => xw_B D cs ad (va_A (xw ad cs u j) sz) (ss_st (ss_la (ss_ac (ss_en (ss_he u (sp_z6 (sg_he u))) 0) 0) 0) 0) j1 t) (va_A (xw ad cs u j) sz)) 0 0 (va_A (xw ad cs u j) sz) := by
  refine Met.ofW (cc := b_ms_clearForBoot) (maxL := 1) (ret := none) (by decide) rfl ?_
  intro p e s m args below meth c s₁ B hml hv
  obtain ⟨rfl, hsz, hP, hK, hD, hN⟩ := hv
  have hx := B.exec
  have hb := B.bytes
  have hret := B.returns
  have hts := atoms_spec (ws := Cond.code y_ms_clearForBoot b_ms_clearForBoot 1 none :: TB) B.pre
  have hT : ∀ w ∈ TB, w.before _ s = true := fun w h => hts w (List.mem_cons_of_mem _ h)
  have hown : s.vm.findClass "MeasuredStages" = some m.cls := findClass_of_methodNamed B.named
  have hlocks := B.notSynchronized
  subst hsz
  have hD := hD.self (sz := s.heap.size)
  generalize hAe : va_A (xw ad cs u j) s.heap.size = A at hD ⊢
  have hA : ∀ q : Nat, s.heap.size ≤ q → A q := fun q h => by rw [← hAe]; exact Or.inr h
  have hS : va_S A s.heap s.heap [] := va_S.rf
  have hl := lv_entry ([.ref (ad 0)]) (n := 1) (Nat.le_of_ble_eq_true rfl)
  rw [lg_entry_eq]
  generalize (lg_sl ([.ref (ad 0)]) ++ List.replicate (1 - (lg_sl ([.ref (ad 0)])).length) Slot.unset).toArray = ls at hl ⊢
  have hl : lv_has ls 1 [(0, .ref (ad 0))] := hl
  skip
  refine lv_aload_n hx hb d_ms_clearForBoot_0 rfl (lv_at hl 0 rfl) ?_
  refine va_get (D := D) (ci := 0) (v := .ref (ad 4)) (C := "MeasuredStages") (T := F_ms) (N := 12) hx hb hts (fun w h => List.mem_cons_of_mem _ (i_ms w h)) hown hK hP 0 rfl rfl 3 (by decide) (hT _ tb_72) (fun _ h9 => h9) rfl d_ms_clearForBoot_1 ?_
  refine xw_wrv (u' := ss_en (ss_he u (sp_z6 (sg_he u))) 0) (As := []) (rest := []) ⟨hx, hb, hml, hown, hts⟩ (c_rg_clear l D cs ad _ u j ) tb_248 tb_249 tb_250 tb_2 tb_251 ⟨rfl, hd_rg_clear⟩ ⟨Nat.le_of_ble_eq_true rfl, Nat.le_of_ble_eq_true rfl⟩ rfl rfl hK hP hD hN 4 1 rfl rfl hl.1 rfl (Nat.le_of_ble_eq_true rfl) d_ms_clearForBoot_4 ⟨Nat.zero_le _, Nat.zero_le _⟩ hS hA (fun j1 H locs hj2 hP hD hS => ?_)
  obtain ⟨v3, ev3⟩ : ∃ z : Sg, z = ss_en (ss_he u (sp_z6 (sg_he u))) 0 := ⟨_, rfl⟩
  rw [← ev3] at hP hD
  rw [hj2] at hP hD
  refine lv_aload_n hx hb d_ms_clearForBoot_7 rfl (lv_at hl 0 rfl) ?_
  refine lv_lconst (v := 0) hx hb d_ms_clearForBoot_8 (by decide) ?_
  refine va_put (D := D) (ci := 0) (v := .long (0)) (ty := .long) (C := "MeasuredStages") (T := F_ms) (N := 12) hx hb hts (fun w h => List.mem_cons_of_mem _ (i_ms w h)) t_ms o_ms n_ms hown hK hP hD hS 0 rfl rfl 8 (by decide) (hT _ tb_77) (fun _ h9 => h9) rfl (by decide +kernel) rfl rfl (Nat.le_of_ble_eq_true rfl) d_ms_clearForBoot_9 (fun H locs hP hD hS => ?_)
  have hP : va_P D cx (xv ad cs (sg_im v3) (sg_ap v3) (sg_ag v3) (sg_he v3) (sg_er v3) (sg_ev v3) (sg_en v3) (sg_ma v3) (sg_po v3) (sg_se v3) (0) (sg_fa v3) (sg_la v3) (sg_st v3) (jx_ru j) (jx_nd j) (jx_de j) (jx_rp j)) H := hP
  have hD : va_D A (xv ad cs (sg_im v3) (sg_ap v3) (sg_ag v3) (sg_he v3) (sg_er v3) (sg_ev v3) (sg_en v3) (sg_ma v3) (sg_po v3) (sg_se v3) (0) (sg_fa v3) (sg_la v3) (sg_st v3) (jx_ru j) (jx_nd j) (jx_de j) (jx_rp j)) := hD
  refine lv_aload_n hx hb d_ms_clearForBoot_12 rfl (lv_at hl 0 rfl) ?_
  refine lv_iconst (v := 0) hx hb d_ms_clearForBoot_13 (by decide) ?_
  refine va_put (D := D) (ci := 0) (v := .int (0)) (ty := .int) (C := "MeasuredStages") (T := F_ms) (N := 12) hx hb hts (fun w h => List.mem_cons_of_mem _ (i_ms w h)) t_ms o_ms n_ms hown hK hP hD hS 0 rfl rfl 10 (by decide) (hT _ tb_79) (fun _ h9 => h9) rfl (by decide +kernel) rfl rfl (Nat.le_of_ble_eq_true rfl) d_ms_clearForBoot_14 (fun H locs hP hD hS => ?_)
  have hP : va_P D cx (xv ad cs (sg_im v3) (sg_ap v3) (sg_ag v3) (sg_he v3) (sg_er v3) (sg_ev v3) (sg_en v3) (sg_ma v3) (sg_po v3) (sg_se v3) (0) (sg_fa v3) (0) (sg_st v3) (jx_ru j) (jx_nd j) (jx_de j) (jx_rp j)) H := hP
  have hD : va_D A (xv ad cs (sg_im v3) (sg_ap v3) (sg_ag v3) (sg_he v3) (sg_er v3) (sg_ev v3) (sg_en v3) (sg_ma v3) (sg_po v3) (sg_se v3) (0) (sg_fa v3) (0) (sg_st v3) (jx_ru j) (jx_nd j) (jx_de j) (jx_rp j)) := hD
  refine lv_aload_n hx hb d_ms_clearForBoot_17 rfl (lv_at hl 0 rfl) ?_
  refine lv_iconst (v := 0) hx hb d_ms_clearForBoot_18 (by decide) ?_
  refine va_put (D := D) (ci := 0) (v := .int (0)) (ty := .int) (C := "MeasuredStages") (T := F_ms) (N := 12) hx hb hts (fun w h => List.mem_cons_of_mem _ (i_ms w h)) t_ms o_ms n_ms hown hK hP hD hS 0 rfl rfl 11 (by decide) (hT _ tb_80) (fun _ h9 => h9) rfl (by decide +kernel) rfl rfl (Nat.le_of_ble_eq_true rfl) d_ms_clearForBoot_19 (fun H locs hP hD hS => ?_)
  have hP : va_P D cx (xv ad cs (sg_im v3) (sg_ap v3) (sg_ag v3) (sg_he v3) (sg_er v3) (sg_ev v3) (sg_en v3) (sg_ma v3) (sg_po v3) (sg_se v3) (0) (sg_fa v3) (0) (0) (jx_ru j) (jx_nd j) (jx_de j) (jx_rp j)) H := hP
  have hD : va_D A (xv ad cs (sg_im v3) (sg_ap v3) (sg_ag v3) (sg_he v3) (sg_er v3) (sg_ev v3) (sg_en v3) (sg_ma v3) (sg_po v3) (sg_se v3) (0) (sg_fa v3) (0) (0) (jx_ru j) (jx_nd j) (jx_de j) (jx_rp j)) := hD
  obtain ⟨v4, ev4⟩ : ∃ z : Sg, z = (sg_im v3, sg_ap v3, sg_ag v3, sg_he v3, sg_er v3, sg_ev v3, sg_en v3, sg_ma v3, sg_po v3, sg_se v3, 0, sg_fa v3, 0, 0) := ⟨_, rfl⟩
  have hP : va_P D cx (xw ad cs v4 j) H := by rw [ev4, xw_u]; exact hP
  have hD : va_D A (xw ad cs v4 j) := by rw [ev4, xw_u]; exact hD
  subst ev4
  subst ev3
  exact W.vret hx hb hret (fun t ht hW => ⟨⟨j, rfl, (by rfl), by rw [ht]; exact hP, va_K.moved hW.alike hK, hD⟩, hS.F ht⟩) hS.2.2 d_ms_clearForBoot_22
end
section
theorem ra_at {er : Nat → Int32} {ev : Nat → Int64} {f : Nat → Int64} {k : Nat} (h : ∀ i : Nat, i < 6 → f i = sp_ra er ev k i) (hr : vp_in (er k) 6) : ∀ i : Nat, i < 6 → vp_updL f (er k).toNatClampNeg (sp_h (f (er k).toNatClampNeg) (ev k)) i = sp_ra er ev (k + 1) i := by
  intro i hi
  show _ = vp_updL (sp_ra er ev k) (er k).toNatClampNeg (sp_h (sp_ra er ev k (er k).toNatClampNeg) (ev k)) i
  obtain ⟨m, hm, em⟩ := vp_in_of hr (by decide)
  have hc : (er k).toNatClampNeg = m := by rw [em]; exact nI_clamp (by omega)
  rw [hc, h m hm]
  by_cases z : i = m
  · rw [z, pk_uLs, pk_uLs]
  · rw [pk_uLn z, pk_uLn z]
    exact h i hi
theorem z6_0 (f : Nat → Int64) : ∀ i : Nat, i < 6 → sp_z6 f i = 0 := by
  intro i hi
  rcases (show i = 0 ∨ i = 1 ∨ i = 2 ∨ i = 3 ∨ i = 4 ∨ i = 5 by omega) with h | h | h | h | h | h <;> subst h <;> rfl
theorem re_1 {u : Sg} {f : Nat → Int64} (h : ∀ i : Nat, i < 6 → f i = sp_ra (sg_er u) (sg_ev u) (sg_en u).toNatClampNeg i) (h0 : f 0 = sg_he u 0) (h1 : f 1 = sg_he u 1) (h2 : f 2 = sg_he u 2) (h3 : f 3 = sg_he u 3) (h4 : f 4 = sg_he u 4) (h5 : f 5 = sg_he u 5) : 1 = sp_re u := by
  show 1 = if sp_ra (sg_er u) (sg_ev u) (sg_en u).toNatClampNeg 0 = sg_he u 0 ∧ sp_ra (sg_er u) (sg_ev u) (sg_en u).toNatClampNeg 1 = sg_he u 1 ∧ sp_ra (sg_er u) (sg_ev u) (sg_en u).toNatClampNeg 2 = sg_he u 2 ∧ sp_ra (sg_er u) (sg_ev u) (sg_en u).toNatClampNeg 3 = sg_he u 3 ∧ sp_ra (sg_er u) (sg_ev u) (sg_en u).toNatClampNeg 4 = sg_he u 4 ∧ sp_ra (sg_er u) (sg_ev u) (sg_en u).toNatClampNeg 5 = sg_he u 5 then (1 : Int32) else 0
  rw [if_pos ⟨(h 0 (by decide)).symm.trans h0, (h 1 (by decide)).symm.trans h1, (h 2 (by decide)).symm.trans h2, (h 3 (by decide)).symm.trans h3, (h 4 (by decide)).symm.trans h4, (h 5 (by decide)).symm.trans h5⟩]
theorem re_0 {u : Sg} {f : Nat → Int64} (h : ∀ i : Nat, i < 6 → f i = sp_ra (sg_er u) (sg_ev u) (sg_en u).toNatClampNeg i) (k : Nat) (hk : k < 6) (hn : ¬ f k = sg_he u k) : 0 = sp_re u := by
  show 0 = if sp_ra (sg_er u) (sg_ev u) (sg_en u).toNatClampNeg 0 = sg_he u 0 ∧ sp_ra (sg_er u) (sg_ev u) (sg_en u).toNatClampNeg 1 = sg_he u 1 ∧ sp_ra (sg_er u) (sg_ev u) (sg_en u).toNatClampNeg 2 = sg_he u 2 ∧ sp_ra (sg_er u) (sg_ev u) (sg_en u).toNatClampNeg 3 = sg_he u 3 ∧ sp_ra (sg_er u) (sg_ev u) (sg_en u).toNatClampNeg 4 = sg_he u 4 ∧ sp_ra (sg_er u) (sg_ev u) (sg_en u).toNatClampNeg 5 = sg_he u 5 then (1 : Int32) else 0
  rw [if_neg]
  intro ⟨a0, a1, a2, a3, a4, a5⟩
  apply hn
  rw [h k hk]
  rcases (show k = 0 ∨ k = 1 ∨ k = 2 ∨ k = 3 ∨ k = 4 ∨ k = 5 by omega) with z | z | z | z | z | z <;> subst z <;> assumption
theorem re_z (u : Sg) : narrow .boolean (.int (sp_re u)) = .int (sp_re u) := by
  have h : sp_re u = 0 ∨ sp_re u = 1 := by
    show (if sp_ra (sg_er u) (sg_ev u) (sg_en u).toNatClampNeg 0 = sg_he u 0 ∧ sp_ra (sg_er u) (sg_ev u) (sg_en u).toNatClampNeg 1 = sg_he u 1 ∧ sp_ra (sg_er u) (sg_ev u) (sg_en u).toNatClampNeg 2 = sg_he u 2 ∧ sp_ra (sg_er u) (sg_ev u) (sg_en u).toNatClampNeg 3 = sg_he u 3 ∧ sp_ra (sg_er u) (sg_ev u) (sg_en u).toNatClampNeg 4 = sg_he u 4 ∧ sp_ra (sg_er u) (sg_ev u) (sg_en u).toNatClampNeg 5 = sg_he u 5 then (1 : Int32) else 0) = 0 ∨ _
    by_cases z : sp_ra (sg_er u) (sg_ev u) (sg_en u).toNatClampNeg 0 = sg_he u 0 ∧ sp_ra (sg_er u) (sg_ev u) (sg_en u).toNatClampNeg 1 = sg_he u 1 ∧ sp_ra (sg_er u) (sg_ev u) (sg_en u).toNatClampNeg 2 = sg_he u 2 ∧ sp_ra (sg_er u) (sg_ev u) (sg_en u).toNatClampNeg 3 = sg_he u 3 ∧ sp_ra (sg_er u) (sg_ev u) (sg_en u).toNatClampNeg 4 = sg_he u 4 ∧ sp_ra (sg_er u) (sg_ev u) (sg_en u).toNatClampNeg 5 = sg_he u 5
    · exact Or.inr (if_pos z)
    · exact Or.inl (if_neg z)
  rcases h with h | h <;> rw [h] <;> rfl
theorem d_rg_agreeWithLog_0 : decode b_rg_agreeWithLog 0 = .ok (.aload_n 0, 1) := by decide +kernel
theorem d_rg_agreeWithLog_1 : decode b_rg_agreeWithLog 1 = .ok (.getfield 22, 3) := by decide +kernel
theorem d_rg_agreeWithLog_4 : decode b_rg_agreeWithLog 4 = .ok (.lconst 0, 1) := by decide +kernel
theorem d_rg_agreeWithLog_5 : decode b_rg_agreeWithLog 5 = .ok (.invokestatic 29, 3) := by decide +kernel
theorem d_rg_agreeWithLog_8 : decode b_rg_agreeWithLog 8 = .ok (.iconst 0, 1) := by decide +kernel
theorem d_rg_agreeWithLog_9 : decode b_rg_agreeWithLog 9 = .ok (.istore_n 1, 1) := by decide +kernel
theorem d_rg_agreeWithLog_10 : decode b_rg_agreeWithLog 10 = .ok (.iload_n 1, 1) := by decide +kernel
theorem d_rg_agreeWithLog_11 : decode b_rg_agreeWithLog 11 = .ok (.aload_n 0, 1) := by decide +kernel
theorem d_rg_agreeWithLog_12 : decode b_rg_agreeWithLog 12 = .ok (.getfield 25, 3) := by decide +kernel
theorem d_rg_agreeWithLog_15 : decode b_rg_agreeWithLog 15 = .ok (.if_icmp .ge 37, 3) := by decide +kernel
theorem d_rg_agreeWithLog_18 : decode b_rg_agreeWithLog 18 = .ok (.aload_n 0, 1) := by decide +kernel
theorem d_rg_agreeWithLog_19 : decode b_rg_agreeWithLog 19 = .ok (.getfield 15, 3) := by decide +kernel
theorem d_rg_agreeWithLog_22 : decode b_rg_agreeWithLog 22 = .ok (.iload_n 1, 1) := by decide +kernel
theorem d_rg_agreeWithLog_23 : decode b_rg_agreeWithLog 23 = .ok (.iaload, 1) := by decide +kernel
theorem d_rg_agreeWithLog_24 : decode b_rg_agreeWithLog 24 = .ok (.istore_n 2, 1) := by decide +kernel
theorem d_rg_agreeWithLog_25 : decode b_rg_agreeWithLog 25 = .ok (.aload_n 0, 1) := by decide +kernel
theorem d_rg_agreeWithLog_26 : decode b_rg_agreeWithLog 26 = .ok (.getfield 22, 3) := by decide +kernel
theorem d_rg_agreeWithLog_29 : decode b_rg_agreeWithLog 29 = .ok (.iload_n 2, 1) := by decide +kernel
theorem d_rg_agreeWithLog_30 : decode b_rg_agreeWithLog 30 = .ok (.aload_n 0, 1) := by decide +kernel
theorem d_rg_agreeWithLog_31 : decode b_rg_agreeWithLog 31 = .ok (.getfield 22, 3) := by decide +kernel
theorem d_rg_agreeWithLog_34 : decode b_rg_agreeWithLog 34 = .ok (.iload_n 2, 1) := by decide +kernel
theorem d_rg_agreeWithLog_35 : decode b_rg_agreeWithLog 35 = .ok (.laload, 1) := by decide +kernel
theorem d_rg_agreeWithLog_36 : decode b_rg_agreeWithLog 36 = .ok (.aload_n 0, 1) := by decide +kernel
theorem d_rg_agreeWithLog_37 : decode b_rg_agreeWithLog 37 = .ok (.getfield 19, 3) := by decide +kernel
theorem d_rg_agreeWithLog_40 : decode b_rg_agreeWithLog 40 = .ok (.iload_n 1, 1) := by decide +kernel
theorem d_rg_agreeWithLog_41 : decode b_rg_agreeWithLog 41 = .ok (.laload, 1) := by decide +kernel
theorem d_rg_agreeWithLog_42 : decode b_rg_agreeWithLog 42 = .ok (.invokestatic 35, 3) := by decide +kernel
theorem d_rg_agreeWithLog_45 : decode b_rg_agreeWithLog 45 = .ok (.lastore, 1) := by decide +kernel
theorem d_rg_agreeWithLog_46 : decode b_rg_agreeWithLog 46 = .ok (.iinc 1 1, 3) := by decide +kernel
theorem d_rg_agreeWithLog_49 : decode b_rg_agreeWithLog 49 = .ok (.goto (-39), 3) := by decide +kernel
theorem d_rg_agreeWithLog_52 : decode b_rg_agreeWithLog 52 = .ok (.iconst 0, 1) := by decide +kernel
theorem d_rg_agreeWithLog_53 : decode b_rg_agreeWithLog 53 = .ok (.istore_n 1, 1) := by decide +kernel
theorem d_rg_agreeWithLog_54 : decode b_rg_agreeWithLog 54 = .ok (.iload_n 1, 1) := by decide +kernel
theorem d_rg_agreeWithLog_55 : decode b_rg_agreeWithLog 55 = .ok (.bipush 6, 2) := by decide +kernel
theorem d_rg_agreeWithLog_57 : decode b_rg_agreeWithLog 57 = .ok (.if_icmp .ge 27, 3) := by decide +kernel
theorem d_rg_agreeWithLog_60 : decode b_rg_agreeWithLog 60 = .ok (.aload_n 0, 1) := by decide +kernel
theorem d_rg_agreeWithLog_61 : decode b_rg_agreeWithLog 61 = .ok (.getfield 22, 3) := by decide +kernel
theorem d_rg_agreeWithLog_64 : decode b_rg_agreeWithLog 64 = .ok (.iload_n 1, 1) := by decide +kernel
theorem d_rg_agreeWithLog_65 : decode b_rg_agreeWithLog 65 = .ok (.laload, 1) := by decide +kernel
theorem d_rg_agreeWithLog_66 : decode b_rg_agreeWithLog 66 = .ok (.aload_n 0, 1) := by decide +kernel
theorem d_rg_agreeWithLog_67 : decode b_rg_agreeWithLog 67 = .ok (.getfield 11, 3) := by decide +kernel
theorem d_rg_agreeWithLog_70 : decode b_rg_agreeWithLog 70 = .ok (.iload_n 1, 1) := by decide +kernel
theorem d_rg_agreeWithLog_71 : decode b_rg_agreeWithLog 71 = .ok (.laload, 1) := by decide +kernel
theorem d_rg_agreeWithLog_72 : decode b_rg_agreeWithLog 72 = .ok (.lcmp, 1) := by decide +kernel
theorem d_rg_agreeWithLog_73 : decode b_rg_agreeWithLog 73 = .ok (.ifCond .eq 5, 3) := by decide +kernel
theorem d_rg_agreeWithLog_76 : decode b_rg_agreeWithLog 76 = .ok (.iconst 0, 1) := by decide +kernel
theorem d_rg_agreeWithLog_77 : decode b_rg_agreeWithLog 77 = .ok (.ireturn, 1) := by decide +kernel
theorem d_rg_agreeWithLog_78 : decode b_rg_agreeWithLog 78 = .ok (.iinc 1 1, 3) := by decide +kernel
theorem d_rg_agreeWithLog_81 : decode b_rg_agreeWithLog 81 = .ok (.goto (-27), 3) := by decide +kernel
theorem d_rg_agreeWithLog_84 : decode b_rg_agreeWithLog 84 = .ok (.iconst 1, 1) := by decide +kernel
theorem d_rg_agreeWithLog_85 : decode b_rg_agreeWithLog 85 = .ok (.ireturn, 1) := by decide +kernel
theorem d_ms_replays_0 : decode b_ms_replays 0 = .ok (.aload_n 0, 1) := by decide +kernel
theorem d_ms_replays_1 : decode b_ms_replays 1 = .ok (.getfield 23, 3) := by decide +kernel
theorem d_ms_replays_4 : decode b_ms_replays 4 = .ok (.invokevirtual 119, 3) := by decide +kernel
theorem d_ms_replays_7 : decode b_ms_replays 7 = .ok (.ireturn, 1) := by decide +kernel
set_option maxHeartbeats 4000000 in
set_option maxRecDepth 100000 in
theorem c_rg_agreeWithLog (l : Launch) (D : va_G) (cs : Nat → ClassId) (ad : Nat → Nat) (sz : Nat) (u : Sg) (j : Jx) (n : Nat) (hok : sp_ok u) (hn32 : n ≤ 32) (hn : sg_en u = nI n) : Met l y_rg_agreeWithLog (Cond.code y_rg_agreeWithLog b_rg_agreeWithLog 3 (some .boolean) :: TB) { frames := 1, cells := 0, slots := 0, locals := 25 } (va_Pc [.ref (ad 4)] (xw_Pre D cs ad u j sz)) (va_Qi (fun (r : Int32) (j1 : Jx) => r = sp_re u ∧ True) (fun (j1 : Jx) t => xw_B D cs ad (va_A (xw ad cs u j) sz) u j1 t) (va_A (xw ad cs u j) sz)) 0 0 (va_A (xw ad cs u j) sz) := by
  refine Met.ofW (cc := b_rg_agreeWithLog) (maxL := 3) (ret := (some .boolean)) (by decide) rfl ?_
  intro p e s m args below meth c s₁ B hml hv
  obtain ⟨rfl, hsz, hP, hK, hD, hN⟩ := hv
  have hx := B.exec
  have hb := B.bytes
  have hret := B.returns
  have hts := atoms_spec (ws := Cond.code y_rg_agreeWithLog b_rg_agreeWithLog 3 (some .boolean) :: TB) B.pre
  have hT : ∀ w ∈ TB, w.before _ s = true := fun w h => hts w (List.mem_cons_of_mem _ h)
  have hown : s.vm.findClass "MeasuredStages$Registers" = some m.cls := findClass_of_methodNamed B.named
  have hlocks := B.notSynchronized
  subst hsz
  have hD := hD.self (sz := s.heap.size)
  generalize hAe : va_A (xw ad cs u j) s.heap.size = A at hD ⊢
  have hA : ∀ q : Nat, s.heap.size ≤ q → A q := fun q h => by rw [← hAe]; exact Or.inr h
  have hS : va_S A s.heap s.heap [] := va_S.rf
  have hl := lv_entry ([.ref (ad 4)]) (n := 3) (Nat.le_of_ble_eq_true rfl)
  rw [lg_entry_eq]
  generalize (lg_sl ([.ref (ad 4)]) ++ List.replicate (3 - (lg_sl ([.ref (ad 4)])).length) Slot.unset).toArray = ls at hl ⊢
  have hl : lv_has ls 3 [(0, .ref (ad 4))] := hl
  skip
  refine lv_aload_n hx hb d_rg_agreeWithLog_0 rfl (lv_at hl 0 rfl) ?_
  refine va_get (D := D) (ci := 1) (v := .ref (ad 11)) (C := "MeasuredStages$Registers") (T := F_rg) (N := 5) hx hb hts (fun w h => List.mem_cons_of_mem _ (i_rg w h)) hown hK hP 4 rfl rfl 4 (by decide) (hT _ tb_35) (fun _ h9 => h9) rfl d_rg_agreeWithLog_1 ?_
  refine lv_lconst (v := 0) hx hb d_rg_agreeWithLog_4 (by decide) ?_
  refine xw_fl11 ⟨hx, hb, hml, hown, hts⟩ tb_134 ⟨Nat.le_of_ble_eq_true rfl, Nat.le_of_ble_eq_true rfl⟩ hK hP hD hl.1 (Nat.le_of_ble_eq_true rfl) d_rg_agreeWithLog_5 ⟨Nat.zero_le _, Nat.zero_le _⟩ hS hA (fun H locs hP hD hS => ?_)
  have hP : va_P D cx (xv ad cs (sg_im u) (sg_ap u) (sg_ag u) (sg_he u) (sg_er u) (sg_ev u) (sg_en u) (sg_ma u) (sg_po u) (sg_se u) (sg_ac u) (sg_fa u) (sg_la u) (sg_st u) (jx_ru j) (jx_nd j) (jx_de j) (sp_z6 (jx_rp j))) H := hP
  have hD : va_D A (xv ad cs (sg_im u) (sg_ap u) (sg_ag u) (sg_he u) (sg_er u) (sg_ev u) (sg_en u) (sg_ma u) (sg_po u) (sg_se u) (sg_ac u) (sg_fa u) (sg_la u) (sg_st u) (jx_ru j) (jx_nd j) (jx_de j) (sp_z6 (jx_rp j))) := hD
  refine lv_iconst (v := 0) hx hb d_rg_agreeWithLog_8 (by decide) ?_
  refine lv_istore_n (nL := 3) (lv' := [(1, .int (0)), (0, .ref (ad 4))]) hx hb d_rg_agreeWithLog_9 rfl hl (by decide) rfl (fun ls hl => ?_)
  obtain ⟨q1, eq1⟩ : ∃ z : Jx, z = (jx_ru j, jx_nd j, jx_de j, sp_z6 (jx_rp j)) := ⟨_, rfl⟩
  have hP : va_P D cx (xw ad cs u q1) H := by rw [eq1, xw_j]; exact hP
  have hD : va_D A (xw ad cs u q1) := by rw [eq1, xw_j]; exact hD
  refine wl_up (α := Jx) n (fun r H1 L1 ls a => lv_has ls 3 [(1, .int (nI r)), (0, .ref (ad 4))] ∧ va_P D cx (xw ad cs u a) H1 ∧ va_D A (xw ad cs u a) ∧ va_S A s.heap H1 L1 ∧ (∀ i : Nat, i < 6 → jx_rp a i = sp_ra (sg_er u) (sg_ev u) r i)) 10 ?_ ?_ 0 _ _ ls q1 (Nat.zero_le _) ⟨hl, hP, hD, hS, (by subst eq1; exact z6_0 _)⟩
  · intro H L ls q1 hI
    obtain ⟨hl, hP, hD, hS, hra⟩ := hI
    have hra : ∀ i : Nat, i < 6 → jx_rp q1 i = sp_ra (sg_er u) (sg_ev u) (sg_en u).toNatClampNeg i := by rw [hn, nI_clamp (by omega)]; exact hra
    refine lv_iload_n hx hb d_rg_agreeWithLog_10 rfl (lv_at hl 0 rfl) ?_
    refine lv_aload_n hx hb d_rg_agreeWithLog_11 rfl (lv_at hl 1 rfl) ?_
    refine va_get (D := D) (ci := 1) (v := .int (sg_en u)) (C := "MeasuredStages$Registers") (T := F_rg) (N := 5) hx hb hts (fun w h => List.mem_cons_of_mem _ (i_rg w h)) hown hK hP 4 rfl rfl 3 (by decide) (hT _ tb_33) (fun _ h9 => h9) rfl d_rg_agreeWithLog_12 ?_
    refine lv_icmp_ge hx hb d_rg_agreeWithLog_15 (tgt := 52) (by decide) (fun _ => ?_) (fun z => absurd (by rw [hn]; exact nI_le (Nat.le_refl _) (by omega)) z)
    refine lv_iconst (v := 0) hx hb d_rg_agreeWithLog_52 (by decide) ?_
    refine lv_istore_n (nL := 3) (lv' := [(1, .int (0)), (0, .ref (ad 4))]) hx hb d_rg_agreeWithLog_53 rfl hl (by decide) rfl (fun ls hl => ?_)
    refine lv_iload_n hx hb d_rg_agreeWithLog_54 rfl (lv_at hl 0 rfl) ?_
    refine lv_bipush (v := 6) hx hb d_rg_agreeWithLog_55 (by decide) ?_
    refine lv_icmp_ge hx hb d_rg_agreeWithLog_57 (tgt := 84) (by decide) (fun z => absurd z (by decide)) (fun _ => ?_)
    refine lv_aload_n hx hb d_rg_agreeWithLog_60 rfl (lv_at hl 1 rfl) ?_
    refine va_get (D := D) (ci := 1) (v := .ref (ad 11)) (C := "MeasuredStages$Registers") (T := F_rg) (N := 5) hx hb hts (fun w h => List.mem_cons_of_mem _ (i_rg w h)) hown hK hP 4 rfl rfl 4 (by decide) (hT _ tb_35) (fun _ h9 => h9) rfl d_rg_agreeWithLog_61 ?_
    refine lv_iload_n hx hb d_rg_agreeWithLog_64 rfl (lv_at hl 0 rfl) ?_
    refine va_lald hx hb hK hP 11 8 rfl rfl (by unfold vp_in; decide) d_rg_agreeWithLog_65 ?_
    refine lv_aload_n hx hb d_rg_agreeWithLog_66 rfl (lv_at hl 1 rfl) ?_
    refine va_get (D := D) (ci := 1) (v := .ref (ad 8)) (C := "MeasuredStages$Registers") (T := F_rg) (N := 5) hx hb hts (fun w h => List.mem_cons_of_mem _ (i_rg w h)) hown hK hP 4 rfl rfl 0 (by decide) (hT _ tb_27) (fun _ h9 => h9) rfl d_rg_agreeWithLog_67 ?_
    refine lv_iload_n hx hb d_rg_agreeWithLog_70 rfl (lv_at hl 0 rfl) ?_
    refine va_lald hx hb hK hP 8 5 rfl rfl (by unfold vp_in; decide) d_rg_agreeWithLog_71 ?_
    refine W.lcmp hx hb d_rg_agreeWithLog_72 ?_
    refine lv_if_eq hx hb d_rg_agreeWithLog_73 (tgt := 78) (by decide) (fun h2 => ?_) (fun h2 => ?_)
    · skip
      have h2 := sp_cmp.mp h2
      refine lv_iinc (nL := 3) (k := 0) (v := 1) (lv' := [(1, .int (1)), (0, .ref (ad 4))]) hx hb d_rg_agreeWithLog_78 hl rfl (by decide) (by decide) rfl (fun ls hl => ?_)
      refine lv_goto hx hb d_rg_agreeWithLog_81 (tgt := 54) (by decide) ?_
      refine lv_iload_n hx hb d_rg_agreeWithLog_54 rfl (lv_at hl 0 rfl) ?_
      refine lv_bipush (v := 6) hx hb d_rg_agreeWithLog_55 (by decide) ?_
      refine lv_icmp_ge hx hb d_rg_agreeWithLog_57 (tgt := 84) (by decide) (fun z => absurd z (by decide)) (fun _ => ?_)
      refine lv_aload_n hx hb d_rg_agreeWithLog_60 rfl (lv_at hl 1 rfl) ?_
      refine va_get (D := D) (ci := 1) (v := .ref (ad 11)) (C := "MeasuredStages$Registers") (T := F_rg) (N := 5) hx hb hts (fun w h => List.mem_cons_of_mem _ (i_rg w h)) hown hK hP 4 rfl rfl 4 (by decide) (hT _ tb_35) (fun _ h9 => h9) rfl d_rg_agreeWithLog_61 ?_
      refine lv_iload_n hx hb d_rg_agreeWithLog_64 rfl (lv_at hl 0 rfl) ?_
      refine va_lald hx hb hK hP 11 8 rfl rfl (by unfold vp_in; decide) d_rg_agreeWithLog_65 ?_
      refine lv_aload_n hx hb d_rg_agreeWithLog_66 rfl (lv_at hl 1 rfl) ?_
      refine va_get (D := D) (ci := 1) (v := .ref (ad 8)) (C := "MeasuredStages$Registers") (T := F_rg) (N := 5) hx hb hts (fun w h => List.mem_cons_of_mem _ (i_rg w h)) hown hK hP 4 rfl rfl 0 (by decide) (hT _ tb_27) (fun _ h9 => h9) rfl d_rg_agreeWithLog_67 ?_
      refine lv_iload_n hx hb d_rg_agreeWithLog_70 rfl (lv_at hl 0 rfl) ?_
      refine va_lald hx hb hK hP 8 5 rfl rfl (by unfold vp_in; decide) d_rg_agreeWithLog_71 ?_
      refine W.lcmp hx hb d_rg_agreeWithLog_72 ?_
      refine lv_if_eq hx hb d_rg_agreeWithLog_73 (tgt := 78) (by decide) (fun h3 => ?_) (fun h3 => ?_)
      · skip
        have h3 := sp_cmp.mp h3
        refine lv_iinc (nL := 3) (k := 0) (v := 2) (lv' := [(1, .int (2)), (0, .ref (ad 4))]) hx hb d_rg_agreeWithLog_78 hl rfl (by decide) (by decide) rfl (fun ls hl => ?_)
        refine lv_goto hx hb d_rg_agreeWithLog_81 (tgt := 54) (by decide) ?_
        refine lv_iload_n hx hb d_rg_agreeWithLog_54 rfl (lv_at hl 0 rfl) ?_
        refine lv_bipush (v := 6) hx hb d_rg_agreeWithLog_55 (by decide) ?_
        refine lv_icmp_ge hx hb d_rg_agreeWithLog_57 (tgt := 84) (by decide) (fun z => absurd z (by decide)) (fun _ => ?_)
        refine lv_aload_n hx hb d_rg_agreeWithLog_60 rfl (lv_at hl 1 rfl) ?_
        refine va_get (D := D) (ci := 1) (v := .ref (ad 11)) (C := "MeasuredStages$Registers") (T := F_rg) (N := 5) hx hb hts (fun w h => List.mem_cons_of_mem _ (i_rg w h)) hown hK hP 4 rfl rfl 4 (by decide) (hT _ tb_35) (fun _ h9 => h9) rfl d_rg_agreeWithLog_61 ?_
        refine lv_iload_n hx hb d_rg_agreeWithLog_64 rfl (lv_at hl 0 rfl) ?_
        refine va_lald hx hb hK hP 11 8 rfl rfl (by unfold vp_in; decide) d_rg_agreeWithLog_65 ?_
        refine lv_aload_n hx hb d_rg_agreeWithLog_66 rfl (lv_at hl 1 rfl) ?_
        refine va_get (D := D) (ci := 1) (v := .ref (ad 8)) (C := "MeasuredStages$Registers") (T := F_rg) (N := 5) hx hb hts (fun w h => List.mem_cons_of_mem _ (i_rg w h)) hown hK hP 4 rfl rfl 0 (by decide) (hT _ tb_27) (fun _ h9 => h9) rfl d_rg_agreeWithLog_67 ?_
        refine lv_iload_n hx hb d_rg_agreeWithLog_70 rfl (lv_at hl 0 rfl) ?_
        refine va_lald hx hb hK hP 8 5 rfl rfl (by unfold vp_in; decide) d_rg_agreeWithLog_71 ?_
        refine W.lcmp hx hb d_rg_agreeWithLog_72 ?_
        refine lv_if_eq hx hb d_rg_agreeWithLog_73 (tgt := 78) (by decide) (fun h4 => ?_) (fun h4 => ?_)
        · skip
          have h4 := sp_cmp.mp h4
          refine lv_iinc (nL := 3) (k := 0) (v := 3) (lv' := [(1, .int (3)), (0, .ref (ad 4))]) hx hb d_rg_agreeWithLog_78 hl rfl (by decide) (by decide) rfl (fun ls hl => ?_)
          refine lv_goto hx hb d_rg_agreeWithLog_81 (tgt := 54) (by decide) ?_
          refine lv_iload_n hx hb d_rg_agreeWithLog_54 rfl (lv_at hl 0 rfl) ?_
          refine lv_bipush (v := 6) hx hb d_rg_agreeWithLog_55 (by decide) ?_
          refine lv_icmp_ge hx hb d_rg_agreeWithLog_57 (tgt := 84) (by decide) (fun z => absurd z (by decide)) (fun _ => ?_)
          refine lv_aload_n hx hb d_rg_agreeWithLog_60 rfl (lv_at hl 1 rfl) ?_
          refine va_get (D := D) (ci := 1) (v := .ref (ad 11)) (C := "MeasuredStages$Registers") (T := F_rg) (N := 5) hx hb hts (fun w h => List.mem_cons_of_mem _ (i_rg w h)) hown hK hP 4 rfl rfl 4 (by decide) (hT _ tb_35) (fun _ h9 => h9) rfl d_rg_agreeWithLog_61 ?_
          refine lv_iload_n hx hb d_rg_agreeWithLog_64 rfl (lv_at hl 0 rfl) ?_
          refine va_lald hx hb hK hP 11 8 rfl rfl (by unfold vp_in; decide) d_rg_agreeWithLog_65 ?_
          refine lv_aload_n hx hb d_rg_agreeWithLog_66 rfl (lv_at hl 1 rfl) ?_
          refine va_get (D := D) (ci := 1) (v := .ref (ad 8)) (C := "MeasuredStages$Registers") (T := F_rg) (N := 5) hx hb hts (fun w h => List.mem_cons_of_mem _ (i_rg w h)) hown hK hP 4 rfl rfl 0 (by decide) (hT _ tb_27) (fun _ h9 => h9) rfl d_rg_agreeWithLog_67 ?_
          refine lv_iload_n hx hb d_rg_agreeWithLog_70 rfl (lv_at hl 0 rfl) ?_
          refine va_lald hx hb hK hP 8 5 rfl rfl (by unfold vp_in; decide) d_rg_agreeWithLog_71 ?_
          refine W.lcmp hx hb d_rg_agreeWithLog_72 ?_
          refine lv_if_eq hx hb d_rg_agreeWithLog_73 (tgt := 78) (by decide) (fun h5 => ?_) (fun h5 => ?_)
          · skip
            have h5 := sp_cmp.mp h5
            refine lv_iinc (nL := 3) (k := 0) (v := 4) (lv' := [(1, .int (4)), (0, .ref (ad 4))]) hx hb d_rg_agreeWithLog_78 hl rfl (by decide) (by decide) rfl (fun ls hl => ?_)
            refine lv_goto hx hb d_rg_agreeWithLog_81 (tgt := 54) (by decide) ?_
            refine lv_iload_n hx hb d_rg_agreeWithLog_54 rfl (lv_at hl 0 rfl) ?_
            refine lv_bipush (v := 6) hx hb d_rg_agreeWithLog_55 (by decide) ?_
            refine lv_icmp_ge hx hb d_rg_agreeWithLog_57 (tgt := 84) (by decide) (fun z => absurd z (by decide)) (fun _ => ?_)
            refine lv_aload_n hx hb d_rg_agreeWithLog_60 rfl (lv_at hl 1 rfl) ?_
            refine va_get (D := D) (ci := 1) (v := .ref (ad 11)) (C := "MeasuredStages$Registers") (T := F_rg) (N := 5) hx hb hts (fun w h => List.mem_cons_of_mem _ (i_rg w h)) hown hK hP 4 rfl rfl 4 (by decide) (hT _ tb_35) (fun _ h9 => h9) rfl d_rg_agreeWithLog_61 ?_
            refine lv_iload_n hx hb d_rg_agreeWithLog_64 rfl (lv_at hl 0 rfl) ?_
            refine va_lald hx hb hK hP 11 8 rfl rfl (by unfold vp_in; decide) d_rg_agreeWithLog_65 ?_
            refine lv_aload_n hx hb d_rg_agreeWithLog_66 rfl (lv_at hl 1 rfl) ?_
            refine va_get (D := D) (ci := 1) (v := .ref (ad 8)) (C := "MeasuredStages$Registers") (T := F_rg) (N := 5) hx hb hts (fun w h => List.mem_cons_of_mem _ (i_rg w h)) hown hK hP 4 rfl rfl 0 (by decide) (hT _ tb_27) (fun _ h9 => h9) rfl d_rg_agreeWithLog_67 ?_
            refine lv_iload_n hx hb d_rg_agreeWithLog_70 rfl (lv_at hl 0 rfl) ?_
            refine va_lald hx hb hK hP 8 5 rfl rfl (by unfold vp_in; decide) d_rg_agreeWithLog_71 ?_
            refine W.lcmp hx hb d_rg_agreeWithLog_72 ?_
            refine lv_if_eq hx hb d_rg_agreeWithLog_73 (tgt := 78) (by decide) (fun h6 => ?_) (fun h6 => ?_)
            · skip
              have h6 := sp_cmp.mp h6
              refine lv_iinc (nL := 3) (k := 0) (v := 5) (lv' := [(1, .int (5)), (0, .ref (ad 4))]) hx hb d_rg_agreeWithLog_78 hl rfl (by decide) (by decide) rfl (fun ls hl => ?_)
              refine lv_goto hx hb d_rg_agreeWithLog_81 (tgt := 54) (by decide) ?_
              refine lv_iload_n hx hb d_rg_agreeWithLog_54 rfl (lv_at hl 0 rfl) ?_
              refine lv_bipush (v := 6) hx hb d_rg_agreeWithLog_55 (by decide) ?_
              refine lv_icmp_ge hx hb d_rg_agreeWithLog_57 (tgt := 84) (by decide) (fun z => absurd z (by decide)) (fun _ => ?_)
              refine lv_aload_n hx hb d_rg_agreeWithLog_60 rfl (lv_at hl 1 rfl) ?_
              refine va_get (D := D) (ci := 1) (v := .ref (ad 11)) (C := "MeasuredStages$Registers") (T := F_rg) (N := 5) hx hb hts (fun w h => List.mem_cons_of_mem _ (i_rg w h)) hown hK hP 4 rfl rfl 4 (by decide) (hT _ tb_35) (fun _ h9 => h9) rfl d_rg_agreeWithLog_61 ?_
              refine lv_iload_n hx hb d_rg_agreeWithLog_64 rfl (lv_at hl 0 rfl) ?_
              refine va_lald hx hb hK hP 11 8 rfl rfl (by unfold vp_in; decide) d_rg_agreeWithLog_65 ?_
              refine lv_aload_n hx hb d_rg_agreeWithLog_66 rfl (lv_at hl 1 rfl) ?_
              refine va_get (D := D) (ci := 1) (v := .ref (ad 8)) (C := "MeasuredStages$Registers") (T := F_rg) (N := 5) hx hb hts (fun w h => List.mem_cons_of_mem _ (i_rg w h)) hown hK hP 4 rfl rfl 0 (by decide) (hT _ tb_27) (fun _ h9 => h9) rfl d_rg_agreeWithLog_67 ?_
              refine lv_iload_n hx hb d_rg_agreeWithLog_70 rfl (lv_at hl 0 rfl) ?_
              refine va_lald hx hb hK hP 8 5 rfl rfl (by unfold vp_in; decide) d_rg_agreeWithLog_71 ?_
              refine W.lcmp hx hb d_rg_agreeWithLog_72 ?_
              refine lv_if_eq hx hb d_rg_agreeWithLog_73 (tgt := 78) (by decide) (fun h7 => ?_) (fun h7 => ?_)
              · skip
                have h7 := sp_cmp.mp h7
                refine lv_iinc (nL := 3) (k := 0) (v := 6) (lv' := [(1, .int (6)), (0, .ref (ad 4))]) hx hb d_rg_agreeWithLog_78 hl rfl (by decide) (by decide) rfl (fun ls hl => ?_)
                refine lv_goto hx hb d_rg_agreeWithLog_81 (tgt := 54) (by decide) ?_
                refine lv_iload_n hx hb d_rg_agreeWithLog_54 rfl (lv_at hl 0 rfl) ?_
                refine lv_bipush (v := 6) hx hb d_rg_agreeWithLog_55 (by decide) ?_
                refine lv_icmp_ge hx hb d_rg_agreeWithLog_57 (tgt := 84) (by decide) (fun _ => ?_) (fun z => absurd (by decide) z)
                refine lv_iconst (v := 1) hx hb d_rg_agreeWithLog_84 (by decide) ?_
                exact W.zret hx hb hret rfl (fun t ht hW => ⟨⟨_, q1, rfl, ⟨re_1 hra (show jx_rp q1 0 = sg_he u 0 from h2) (show jx_rp q1 1 = sg_he u 1 from h3) (show jx_rp q1 2 = sg_he u 2 from h4) (show jx_rp q1 3 = sg_he u 3 from h5) (show jx_rp q1 4 = sg_he u 4 from h6) (show jx_rp q1 5 = sg_he u 5 from h7), (by trivial)⟩, by rw [ht]; exact hP, va_K.moved hW.alike hK, hD⟩, hS.F ht⟩) hS.2.2 d_rg_agreeWithLog_85
              · skip
                have h7 := mt sp_cmp.mpr h7
                refine lv_iconst (v := 0) hx hb d_rg_agreeWithLog_76 (by decide) ?_
                exact W.zret hx hb hret rfl (fun t ht hW => ⟨⟨_, q1, rfl, ⟨re_0 hra 5 (by decide) (show ¬ jx_rp q1 5 = sg_he u 5 from h7), (by trivial)⟩, by rw [ht]; exact hP, va_K.moved hW.alike hK, hD⟩, hS.F ht⟩) hS.2.2 d_rg_agreeWithLog_77
            · skip
              have h6 := mt sp_cmp.mpr h6
              refine lv_iconst (v := 0) hx hb d_rg_agreeWithLog_76 (by decide) ?_
              exact W.zret hx hb hret rfl (fun t ht hW => ⟨⟨_, q1, rfl, ⟨re_0 hra 4 (by decide) (show ¬ jx_rp q1 4 = sg_he u 4 from h6), (by trivial)⟩, by rw [ht]; exact hP, va_K.moved hW.alike hK, hD⟩, hS.F ht⟩) hS.2.2 d_rg_agreeWithLog_77
          · skip
            have h5 := mt sp_cmp.mpr h5
            refine lv_iconst (v := 0) hx hb d_rg_agreeWithLog_76 (by decide) ?_
            exact W.zret hx hb hret rfl (fun t ht hW => ⟨⟨_, q1, rfl, ⟨re_0 hra 3 (by decide) (show ¬ jx_rp q1 3 = sg_he u 3 from h5), (by trivial)⟩, by rw [ht]; exact hP, va_K.moved hW.alike hK, hD⟩, hS.F ht⟩) hS.2.2 d_rg_agreeWithLog_77
        · skip
          have h4 := mt sp_cmp.mpr h4
          refine lv_iconst (v := 0) hx hb d_rg_agreeWithLog_76 (by decide) ?_
          exact W.zret hx hb hret rfl (fun t ht hW => ⟨⟨_, q1, rfl, ⟨re_0 hra 2 (by decide) (show ¬ jx_rp q1 2 = sg_he u 2 from h4), (by trivial)⟩, by rw [ht]; exact hP, va_K.moved hW.alike hK, hD⟩, hS.F ht⟩) hS.2.2 d_rg_agreeWithLog_77
      · skip
        have h3 := mt sp_cmp.mpr h3
        refine lv_iconst (v := 0) hx hb d_rg_agreeWithLog_76 (by decide) ?_
        exact W.zret hx hb hret rfl (fun t ht hW => ⟨⟨_, q1, rfl, ⟨re_0 hra 1 (by decide) (show ¬ jx_rp q1 1 = sg_he u 1 from h3), (by trivial)⟩, by rw [ht]; exact hP, va_K.moved hW.alike hK, hD⟩, hS.F ht⟩) hS.2.2 d_rg_agreeWithLog_77
    · skip
      have h2 := mt sp_cmp.mpr h2
      refine lv_iconst (v := 0) hx hb d_rg_agreeWithLog_76 (by decide) ?_
      exact W.zret hx hb hret rfl (fun t ht hW => ⟨⟨_, q1, rfl, ⟨re_0 hra 0 (by decide) (show ¬ jx_rp q1 0 = sg_he u 0 from h2), (by trivial)⟩, by rw [ht]; exact hP, va_K.moved hW.alike hK, hD⟩, hS.F ht⟩) hS.2.2 d_rg_agreeWithLog_77
  · intro r H L ls q1 hr hI ih
    obtain ⟨hl, hP, hD, hS, hra⟩ := hI
    refine lv_iload_n hx hb d_rg_agreeWithLog_10 rfl (lv_at hl 0 rfl) ?_
    refine lv_aload_n hx hb d_rg_agreeWithLog_11 rfl (lv_at hl 1 rfl) ?_
    refine va_get (D := D) (ci := 1) (v := .int (sg_en u)) (C := "MeasuredStages$Registers") (T := F_rg) (N := 5) hx hb hts (fun w h => List.mem_cons_of_mem _ (i_rg w h)) hown hK hP 4 rfl rfl 3 (by decide) (hT _ tb_33) (fun _ h9 => h9) rfl d_rg_agreeWithLog_12 ?_
    refine lv_icmp_ge hx hb d_rg_agreeWithLog_15 (tgt := 52) (by decide) (fun z => absurd z (by rw [hn]; exact nI_ge hr (by omega))) (fun _ => ?_)
    refine lv_aload_n hx hb d_rg_agreeWithLog_18 rfl (lv_at hl 1 rfl) ?_
    refine va_get (D := D) (ci := 1) (v := .ref (ad 9)) (C := "MeasuredStages$Registers") (T := F_rg) (N := 5) hx hb hts (fun w h => List.mem_cons_of_mem _ (i_rg w h)) hown hK hP 4 rfl rfl 1 (by decide) (hT _ tb_29) (fun _ h9 => h9) rfl d_rg_agreeWithLog_19 ?_
    refine lv_iload_n hx hb d_rg_agreeWithLog_22 rfl (lv_at hl 0 rfl) ?_
    refine va_iald hx hb hK hP 9 6 rfl rfl (vp_in_nI (by omega) (by decide)) d_rg_agreeWithLog_23 ?_
    refine lv_istore_n (nL := 3) (lv' := [(2, .int (sg_er u (nI r).toNatClampNeg)), (1, .int (nI r)), (0, .ref (ad 4))]) hx hb d_rg_agreeWithLog_24 rfl hl (by decide) rfl (fun ls hl => ?_)
    refine lv_aload_n hx hb d_rg_agreeWithLog_25 rfl (lv_at hl 2 rfl) ?_
    refine va_get (D := D) (ci := 1) (v := .ref (ad 11)) (C := "MeasuredStages$Registers") (T := F_rg) (N := 5) hx hb hts (fun w h => List.mem_cons_of_mem _ (i_rg w h)) hown hK hP 4 rfl rfl 4 (by decide) (hT _ tb_35) (fun _ h9 => h9) rfl d_rg_agreeWithLog_26 ?_
    refine lv_iload_n hx hb d_rg_agreeWithLog_29 rfl (lv_at hl 0 rfl) ?_
    refine lv_aload_n hx hb d_rg_agreeWithLog_30 rfl (lv_at hl 2 rfl) ?_
    refine va_get (D := D) (ci := 1) (v := .ref (ad 11)) (C := "MeasuredStages$Registers") (T := F_rg) (N := 5) hx hb hts (fun w h => List.mem_cons_of_mem _ (i_rg w h)) hown hK hP 4 rfl rfl 4 (by decide) (hT _ tb_35) (fun _ h9 => h9) rfl d_rg_agreeWithLog_31 ?_
    refine lv_iload_n hx hb d_rg_agreeWithLog_34 rfl (lv_at hl 0 rfl) ?_
    refine va_lald hx hb hK hP 11 8 rfl rfl (hok.2 _) d_rg_agreeWithLog_35 ?_
    refine lv_aload_n hx hb d_rg_agreeWithLog_36 rfl (lv_at hl 2 rfl) ?_
    refine va_get (D := D) (ci := 1) (v := .ref (ad 10)) (C := "MeasuredStages$Registers") (T := F_rg) (N := 5) hx hb hts (fun w h => List.mem_cons_of_mem _ (i_rg w h)) hown hK hP 4 rfl rfl 2 (by decide) (hT _ tb_31) (fun _ h9 => h9) rfl d_rg_agreeWithLog_37 ?_
    refine lv_iload_n hx hb d_rg_agreeWithLog_40 rfl (lv_at hl 1 rfl) ?_
    refine va_lald hx hb hK hP 10 7 rfl rfl (vp_in_nI (by omega) (by decide)) d_rg_agreeWithLog_41 ?_
    refine sn_l (v := sp_h (jx_rp q1 (sg_er u (nI r).toNatClampNeg).toNatClampNeg) (sg_ev u (nI r).toNatClampNeg)) (As := [.long (jx_rp q1 (sg_er u (nI r).toNatClampNeg).toNatClampNeg), .long (sg_ev u (nI r).toNatClampNeg)]) (rest := [.int (sg_er u (nI r).toNatClampNeg), .ref (ad 11)]) ⟨hx, hb, hml, hown, hts⟩ (c_ms_hash l (jx_rp q1 (sg_er u (nI r).toNatClampNeg).toNatClampNeg) (sg_ev u (nI r).toNatClampNeg)) hN tb_138 tb_1 tb_139 hd_ms_hash ⟨Nat.le_of_ble_eq_true rfl, Nat.le_of_ble_eq_true rfl⟩ rfl rfl hl.1 rfl (Nat.le_of_ble_eq_true rfl) d_rg_agreeWithLog_42 ⟨Nat.zero_le _, Nat.zero_le _⟩ ?_
    refine va_last hx hb hK hP hD hS 11 8 rfl rfl (hok.2 _) d_rg_agreeWithLog_45 (fun H locs hP hD hS => ?_)
    have hP : va_P D cx (xv ad cs (sg_im u) (sg_ap u) (sg_ag u) (sg_he u) (sg_er u) (sg_ev u) (sg_en u) (sg_ma u) (sg_po u) (sg_se u) (sg_ac u) (sg_fa u) (sg_la u) (sg_st u) (jx_ru q1) (jx_nd q1) (jx_de q1) (vp_updL (jx_rp q1) (sg_er u (nI r).toNatClampNeg).toNatClampNeg (sp_h (jx_rp q1 (sg_er u (nI r).toNatClampNeg).toNatClampNeg) (sg_ev u (nI r).toNatClampNeg)))) H := hP
    have hD : va_D A (xv ad cs (sg_im u) (sg_ap u) (sg_ag u) (sg_he u) (sg_er u) (sg_ev u) (sg_en u) (sg_ma u) (sg_po u) (sg_se u) (sg_ac u) (sg_fa u) (sg_la u) (sg_st u) (jx_ru q1) (jx_nd q1) (jx_de q1) (vp_updL (jx_rp q1) (sg_er u (nI r).toNatClampNeg).toNatClampNeg (sp_h (jx_rp q1 (sg_er u (nI r).toNatClampNeg).toNatClampNeg) (sg_ev u (nI r).toNatClampNeg)))) := hD
    refine lv_iinc (nL := 3) (k := 1) (v := nI (r + 1)) (lv' := [(1, .int (nI (r + 1))), (2, .int (sg_er u (nI r).toNatClampNeg)), (0, .ref (ad 4))]) hx hb d_rg_agreeWithLog_46 hl rfl ((nI_succ r).symm) (by decide) rfl (fun ls hl => ?_)
    refine lv_goto hx hb d_rg_agreeWithLog_49 (tgt := 10) (by decide) ?_
    obtain ⟨q8, eq8⟩ : ∃ z : Jx, z = (jx_ru q1, jx_nd q1, jx_de q1, vp_updL (jx_rp q1) (sg_er u (nI r).toNatClampNeg).toNatClampNeg (sp_h (jx_rp q1 (sg_er u (nI r).toNatClampNeg).toNatClampNeg) (sg_ev u (nI r).toNatClampNeg))) := ⟨_, rfl⟩
    have hP : va_P D cx (xw ad cs u q8) H := by rw [eq8, xw_j]; exact hP
    have hD : va_D A (xw ad cs u q8) := by rw [eq8, xw_j]; exact hD
    exact ih _ _ ls q8 ⟨lv_sub hl [0, 2] rfl, hP, hD, hS, (by subst eq8; have z := ra_at hra (hok.2 r); rw [nI_clamp (by omega)]; exact z)⟩
set_option maxHeartbeats 4000000 in
set_option maxRecDepth 100000 in
theorem c_ms_replays (l : Launch) (D : va_G) (cs : Nat → ClassId) (ad : Nat → Nat) (sz : Nat) (u : Sg) (j : Jx) (n : Nat) (hok : sp_ok u) (hn32 : n ≤ 32) (hn : sg_en u = nI n) : Met l y_ms_replays (Cond.code y_ms_replays b_ms_replays 1 (some .boolean) :: TB) { frames := 2, cells := 0, slots := 0, locals := 47 } (va_Pc [.ref (ad 0)] (xw_Pre D cs ad u j sz)) (va_Qi (fun (r : Int32) (j1 : Jx) => r = sp_re u ∧ True) (fun (j1 : Jx) t => xw_B D cs ad (va_A (xw ad cs u j) sz) u j1 t) (va_A (xw ad cs u j) sz)) 0 0 (va_A (xw ad cs u j) sz) := by
  refine Met.ofW (cc := b_ms_replays) (maxL := 1) (ret := (some .boolean)) (by decide) rfl ?_
  intro p e s m args below meth c s₁ B hml hv
  obtain ⟨rfl, hsz, hP, hK, hD, hN⟩ := hv
  have hx := B.exec
  have hb := B.bytes
  have hret := B.returns
  have hts := atoms_spec (ws := Cond.code y_ms_replays b_ms_replays 1 (some .boolean) :: TB) B.pre
  have hT : ∀ w ∈ TB, w.before _ s = true := fun w h => hts w (List.mem_cons_of_mem _ h)
  have hown : s.vm.findClass "MeasuredStages" = some m.cls := findClass_of_methodNamed B.named
  have hlocks := B.notSynchronized
  subst hsz
  have hD := hD.self (sz := s.heap.size)
  generalize hAe : va_A (xw ad cs u j) s.heap.size = A at hD ⊢
  have hA : ∀ q : Nat, s.heap.size ≤ q → A q := fun q h => by rw [← hAe]; exact Or.inr h
  have hS : va_S A s.heap s.heap [] := va_S.rf
  have hl := lv_entry ([.ref (ad 0)]) (n := 1) (Nat.le_of_ble_eq_true rfl)
  rw [lg_entry_eq]
  generalize (lg_sl ([.ref (ad 0)]) ++ List.replicate (1 - (lg_sl ([.ref (ad 0)])).length) Slot.unset).toArray = ls at hl ⊢
  have hl : lv_has ls 1 [(0, .ref (ad 0))] := hl
  skip
  refine lv_aload_n hx hb d_ms_replays_0 rfl (lv_at hl 0 rfl) ?_
  refine va_get (D := D) (ci := 0) (v := .ref (ad 4)) (C := "MeasuredStages") (T := F_ms) (N := 12) hx hb hts (fun w h => List.mem_cons_of_mem _ (i_ms w h)) hown hK hP 0 rfl rfl 3 (by decide) (hT _ tb_72) (fun _ h9 => h9) rfl d_ms_replays_1 ?_
  refine xw_wri (v := sp_re u) (u' := u) (As := []) (rest := []) ⟨hx, hb, hml, hown, hts⟩ (c_rg_agreeWithLog l D cs ad _ u j  n hok hn32 hn) tb_130 tb_131 tb_132 tb_2 tb_133 ⟨rfl, hd_rg_agreeWithLog⟩ ⟨Nat.le_of_ble_eq_true rfl, Nat.le_of_ble_eq_true rfl⟩ rfl rfl hK hP hD hN 4 1 rfl rfl hl.1 rfl (Nat.le_of_ble_eq_true rfl) d_ms_replays_4 ⟨Nat.zero_le _, Nat.zero_le _⟩ hS hA (fun j1 H locs hj2 hP hD hS => ?_)
  exact W.zret hx hb hret (re_z u) (fun t ht hW => ⟨⟨_, j1, rfl, ⟨rfl, (by trivial)⟩, by rw [ht]; exact hP, va_K.moved hW.alike hK, hD⟩, hS.F ht⟩) hS.2.2 d_ms_replays_7
end
section
theorem rg_ne {n : Int32} {k : Nat} (hk : k < 2 ^ 31) (h : vp_in n k) : ¬ sp_rg n (nI k) = 0 := fun z => absurd ((sp_rg_t k hk h).symm.trans z) (by decide)
theorem rg8 {n : Int32} (h : vp_in n 8) : ¬ sp_rg n 8 = 0 := rg_ne (k := 8) (by decide) h
theorem rg6 {n : Int32} (h : vp_in n 6) : ¬ sp_rg n 6 = 0 := rg_ne (k := 6) (by decide) h
theorem ev_in {u : Sg} {k : Int32} (hok : sp_ok u) (h : sp_rg k (sg_en u) = 1) : vp_in k 32 := by
  obtain ⟨⟨n, h1, h2⟩, -⟩ := hok
  unfold sp_rg at h
  by_cases a : k < 0
  · rw [if_pos a] at h; exact absurd h (by decide)
  rw [if_neg a] at h
  by_cases b : sg_en u ≤ k
  · rw [if_pos b] at h; exact absurd h (by decide)
  rw [h2] at b
  obtain ⟨j, hj, e⟩ := vp_in_of (xn_in (by omega) a (Int32.not_le.mp b)) (by omega)
  rw [e]
  exact vp_in_nI (by omega) (by decide)
theorem tk_vp {ma : Nat → Int32} {k : Int32} (h : sp_tk ma k = 1) : vp_in k 8 := by
  unfold sp_tk at h
  by_cases a : k < 0
  · rw [if_pos a] at h; exact absurd h (by decide)
  rw [if_neg a] at h
  by_cases b : (8 : Int32) ≤ k
  · rw [if_pos b] at h; exact absurd h (by decide)
  exact xn_in (k := 8) (by decide) a (Int32.not_le.mp b)
theorem d_ms_image_0 : decode b_ms_image 0 = .ok (.iload_n 1, 1) := by decide +kernel
theorem d_ms_image_1 : decode b_ms_image 1 = .ok (.invokestatic 41, 3) := by decide +kernel
theorem d_ms_image_4 : decode b_ms_image 4 = .ok (.ifCond .ne 13, 3) := by decide +kernel
theorem d_ms_image_7 : decode b_ms_image 7 = .ok (.new 45, 3) := by decide +kernel
theorem d_ms_image_10 : decode b_ms_image 10 = .ok (.dup, 1) := by decide +kernel
theorem d_ms_image_11 : decode b_ms_image 11 = .ok (.ldc 47, 2) := by decide +kernel
theorem d_ms_image_13 : decode b_ms_image 13 = .ok (.invokespecial 49, 3) := by decide +kernel
theorem d_ms_image_16 : decode b_ms_image 16 = .ok (.athrow, 1) := by decide +kernel
theorem d_ms_image_17 : decode b_ms_image 17 = .ok (.aload_n 0, 1) := by decide +kernel
theorem d_ms_image_18 : decode b_ms_image 18 = .ok (.getfield 9, 3) := by decide +kernel
theorem d_ms_image_21 : decode b_ms_image 21 = .ok (.iload_n 1, 1) := by decide +kernel
theorem d_ms_image_22 : decode b_ms_image 22 = .ok (.lload_n 2, 1) := by decide +kernel
theorem d_ms_image_23 : decode b_ms_image 23 = .ok (.lastore, 1) := by decide +kernel
theorem d_ms_image_24 : decode b_ms_image 24 = .ok (.return_, 1) := by decide +kernel
theorem d_ms_approve_0 : decode b_ms_approve 0 = .ok (.iload_n 1, 1) := by decide +kernel
theorem d_ms_approve_1 : decode b_ms_approve 1 = .ok (.invokestatic 41, 3) := by decide +kernel
theorem d_ms_approve_4 : decode b_ms_approve 4 = .ok (.ifCond .ne 13, 3) := by decide +kernel
theorem d_ms_approve_7 : decode b_ms_approve 7 = .ok (.new 45, 3) := by decide +kernel
theorem d_ms_approve_10 : decode b_ms_approve 10 = .ok (.dup, 1) := by decide +kernel
theorem d_ms_approve_11 : decode b_ms_approve 11 = .ok (.ldc 47, 2) := by decide +kernel
theorem d_ms_approve_13 : decode b_ms_approve 13 = .ok (.invokespecial 49, 3) := by decide +kernel
theorem d_ms_approve_16 : decode b_ms_approve 16 = .ok (.athrow, 1) := by decide +kernel
theorem d_ms_approve_17 : decode b_ms_approve 17 = .ok (.aload_n 0, 1) := by decide +kernel
theorem d_ms_approve_18 : decode b_ms_approve 18 = .ok (.getfield 13, 3) := by decide +kernel
theorem d_ms_approve_21 : decode b_ms_approve 21 = .ok (.iload_n 1, 1) := by decide +kernel
theorem d_ms_approve_22 : decode b_ms_approve 22 = .ok (.iconst 1, 1) := by decide +kernel
theorem d_ms_approve_23 : decode b_ms_approve 23 = .ok (.bastore, 1) := by decide +kernel
theorem d_ms_approve_24 : decode b_ms_approve 24 = .ok (.aload_n 0, 1) := by decide +kernel
theorem d_ms_approve_25 : decode b_ms_approve 25 = .ok (.getfield 17, 3) := by decide +kernel
theorem d_ms_approve_28 : decode b_ms_approve 28 = .ok (.iload_n 1, 1) := by decide +kernel
theorem d_ms_approve_29 : decode b_ms_approve 29 = .ok (.aload_n 0, 1) := by decide +kernel
theorem d_ms_approve_30 : decode b_ms_approve 30 = .ok (.iload_n 1, 1) := by decide +kernel
theorem d_ms_approve_31 : decode b_ms_approve 31 = .ok (.invokevirtual 52, 3) := by decide +kernel
theorem d_ms_approve_34 : decode b_ms_approve 34 = .ok (.lastore, 1) := by decide +kernel
theorem d_ms_approve_35 : decode b_ms_approve 35 = .ok (.return_, 1) := by decide +kernel
theorem d_ms_register_0 : decode b_ms_register 0 = .ok (.iload_n 1, 1) := by decide +kernel
theorem d_ms_register_1 : decode b_ms_register 1 = .ok (.invokestatic 85, 3) := by decide +kernel
theorem d_ms_register_4 : decode b_ms_register 4 = .ok (.ifCond .ne 13, 3) := by decide +kernel
theorem d_ms_register_7 : decode b_ms_register 7 = .ok (.new 88, 3) := by decide +kernel
theorem d_ms_register_10 : decode b_ms_register 10 = .ok (.dup, 1) := by decide +kernel
theorem d_ms_register_11 : decode b_ms_register 11 = .ok (.ldc 90, 2) := by decide +kernel
theorem d_ms_register_13 : decode b_ms_register 13 = .ok (.invokespecial 92, 3) := by decide +kernel
theorem d_ms_register_16 : decode b_ms_register 16 = .ok (.athrow, 1) := by decide +kernel
theorem d_ms_register_17 : decode b_ms_register 17 = .ok (.aload_n 0, 1) := by decide +kernel
theorem d_ms_register_18 : decode b_ms_register 18 = .ok (.getfield 23, 3) := by decide +kernel
theorem d_ms_register_21 : decode b_ms_register 21 = .ok (.getfield 93, 3) := by decide +kernel
theorem d_ms_register_24 : decode b_ms_register 24 = .ok (.iload_n 1, 1) := by decide +kernel
theorem d_ms_register_25 : decode b_ms_register 25 = .ok (.laload, 1) := by decide +kernel
theorem d_ms_register_26 : decode b_ms_register 26 = .ok (.lreturn, 1) := by decide +kernel
theorem d_ms_extend_0 : decode b_ms_extend 0 = .ok (.iload_n 1, 1) := by decide +kernel
theorem d_ms_extend_1 : decode b_ms_extend 1 = .ok (.invokestatic 85, 3) := by decide +kernel
theorem d_ms_extend_4 : decode b_ms_extend 4 = .ok (.ifCond .ne 13, 3) := by decide +kernel
theorem d_ms_extend_7 : decode b_ms_extend 7 = .ok (.new 88, 3) := by decide +kernel
theorem d_ms_extend_10 : decode b_ms_extend 10 = .ok (.dup, 1) := by decide +kernel
theorem d_ms_extend_11 : decode b_ms_extend 11 = .ok (.ldc 90, 2) := by decide +kernel
theorem d_ms_extend_13 : decode b_ms_extend 13 = .ok (.invokespecial 92, 3) := by decide +kernel
theorem d_ms_extend_16 : decode b_ms_extend 16 = .ok (.athrow, 1) := by decide +kernel
theorem d_ms_extend_17 : decode b_ms_extend 17 = .ok (.aload_n 0, 1) := by decide +kernel
theorem d_ms_extend_18 : decode b_ms_extend 18 = .ok (.getfield 23, 3) := by decide +kernel
theorem d_ms_extend_21 : decode b_ms_extend 21 = .ok (.iload_n 1, 1) := by decide +kernel
theorem d_ms_extend_22 : decode b_ms_extend 22 = .ok (.lload_n 2, 1) := by decide +kernel
theorem d_ms_extend_23 : decode b_ms_extend 23 = .ok (.invokevirtual 96, 3) := by decide +kernel
theorem d_ms_extend_26 : decode b_ms_extend 26 = .ok (.ifCond .ne 13, 3) := by decide +kernel
theorem d_ms_extend_29 : decode b_ms_extend 29 = .ok (.new 70, 3) := by decide +kernel
theorem d_ms_extend_32 : decode b_ms_extend 32 = .ok (.dup, 1) := by decide +kernel
theorem d_ms_extend_33 : decode b_ms_extend 33 = .ok (.ldc 100, 2) := by decide +kernel
theorem d_ms_extend_35 : decode b_ms_extend 35 = .ok (.invokespecial 74, 3) := by decide +kernel
theorem d_ms_extend_38 : decode b_ms_extend 38 = .ok (.athrow, 1) := by decide +kernel
theorem d_ms_extend_39 : decode b_ms_extend 39 = .ok (.return_, 1) := by decide +kernel
theorem d_ms_eventRegister_0 : decode b_ms_eventRegister 0 = .ok (.aload_n 0, 1) := by decide +kernel
theorem d_ms_eventRegister_1 : decode b_ms_eventRegister 1 = .ok (.getfield 23, 3) := by decide +kernel
theorem d_ms_eventRegister_4 : decode b_ms_eventRegister 4 = .ok (.iload_n 1, 1) := by decide +kernel
theorem d_ms_eventRegister_5 : decode b_ms_eventRegister 5 = .ok (.invokevirtual 105, 3) := by decide +kernel
theorem d_ms_eventRegister_8 : decode b_ms_eventRegister 8 = .ok (.ifCond .ne 13, 3) := by decide +kernel
theorem d_ms_eventRegister_11 : decode b_ms_eventRegister 11 = .ok (.new 108, 3) := by decide +kernel
theorem d_ms_eventRegister_14 : decode b_ms_eventRegister 14 = .ok (.dup, 1) := by decide +kernel
theorem d_ms_eventRegister_15 : decode b_ms_eventRegister 15 = .ok (.ldc 110, 2) := by decide +kernel
theorem d_ms_eventRegister_17 : decode b_ms_eventRegister 17 = .ok (.invokespecial 112, 3) := by decide +kernel
theorem d_ms_eventRegister_20 : decode b_ms_eventRegister 20 = .ok (.athrow, 1) := by decide +kernel
theorem d_ms_eventRegister_21 : decode b_ms_eventRegister 21 = .ok (.aload_n 0, 1) := by decide +kernel
theorem d_ms_eventRegister_22 : decode b_ms_eventRegister 22 = .ok (.getfield 23, 3) := by decide +kernel
theorem d_ms_eventRegister_25 : decode b_ms_eventRegister 25 = .ok (.getfield 113, 3) := by decide +kernel
theorem d_ms_eventRegister_28 : decode b_ms_eventRegister 28 = .ok (.iload_n 1, 1) := by decide +kernel
theorem d_ms_eventRegister_29 : decode b_ms_eventRegister 29 = .ok (.iaload, 1) := by decide +kernel
theorem d_ms_eventRegister_30 : decode b_ms_eventRegister 30 = .ok (.ireturn, 1) := by decide +kernel
theorem d_ms_eventValue_0 : decode b_ms_eventValue 0 = .ok (.aload_n 0, 1) := by decide +kernel
theorem d_ms_eventValue_1 : decode b_ms_eventValue 1 = .ok (.getfield 23, 3) := by decide +kernel
theorem d_ms_eventValue_4 : decode b_ms_eventValue 4 = .ok (.iload_n 1, 1) := by decide +kernel
theorem d_ms_eventValue_5 : decode b_ms_eventValue 5 = .ok (.invokevirtual 105, 3) := by decide +kernel
theorem d_ms_eventValue_8 : decode b_ms_eventValue 8 = .ok (.ifCond .ne 13, 3) := by decide +kernel
theorem d_ms_eventValue_11 : decode b_ms_eventValue 11 = .ok (.new 108, 3) := by decide +kernel
theorem d_ms_eventValue_14 : decode b_ms_eventValue 14 = .ok (.dup, 1) := by decide +kernel
theorem d_ms_eventValue_15 : decode b_ms_eventValue 15 = .ok (.ldc 110, 2) := by decide +kernel
theorem d_ms_eventValue_17 : decode b_ms_eventValue 17 = .ok (.invokespecial 112, 3) := by decide +kernel
theorem d_ms_eventValue_20 : decode b_ms_eventValue 20 = .ok (.athrow, 1) := by decide +kernel
theorem d_ms_eventValue_21 : decode b_ms_eventValue 21 = .ok (.aload_n 0, 1) := by decide +kernel
theorem d_ms_eventValue_22 : decode b_ms_eventValue 22 = .ok (.getfield 23, 3) := by decide +kernel
theorem d_ms_eventValue_25 : decode b_ms_eventValue 25 = .ok (.getfield 116, 3) := by decide +kernel
theorem d_ms_eventValue_28 : decode b_ms_eventValue 28 = .ok (.iload_n 1, 1) := by decide +kernel
theorem d_ms_eventValue_29 : decode b_ms_eventValue 29 = .ok (.laload, 1) := by decide +kernel
theorem d_ms_eventValue_30 : decode b_ms_eventValue 30 = .ok (.lreturn, 1) := by decide +kernel
theorem d_ms_tamper_0 : decode b_ms_tamper 0 = .ok (.aload_n 0, 1) := by decide +kernel
theorem d_ms_tamper_1 : decode b_ms_tamper 1 = .ok (.getfield 23, 3) := by decide +kernel
theorem d_ms_tamper_4 : decode b_ms_tamper 4 = .ok (.iload_n 1, 1) := by decide +kernel
theorem d_ms_tamper_5 : decode b_ms_tamper 5 = .ok (.invokevirtual 105, 3) := by decide +kernel
theorem d_ms_tamper_8 : decode b_ms_tamper 8 = .ok (.ifCond .ne 13, 3) := by decide +kernel
theorem d_ms_tamper_11 : decode b_ms_tamper 11 = .ok (.new 108, 3) := by decide +kernel
theorem d_ms_tamper_14 : decode b_ms_tamper 14 = .ok (.dup, 1) := by decide +kernel
theorem d_ms_tamper_15 : decode b_ms_tamper 15 = .ok (.ldc 110, 2) := by decide +kernel
theorem d_ms_tamper_17 : decode b_ms_tamper 17 = .ok (.invokespecial 112, 3) := by decide +kernel
theorem d_ms_tamper_20 : decode b_ms_tamper 20 = .ok (.athrow, 1) := by decide +kernel
theorem d_ms_tamper_21 : decode b_ms_tamper 21 = .ok (.aload_n 0, 1) := by decide +kernel
theorem d_ms_tamper_22 : decode b_ms_tamper 22 = .ok (.getfield 23, 3) := by decide +kernel
theorem d_ms_tamper_25 : decode b_ms_tamper 25 = .ok (.getfield 116, 3) := by decide +kernel
theorem d_ms_tamper_28 : decode b_ms_tamper 28 = .ok (.iload_n 1, 1) := by decide +kernel
theorem d_ms_tamper_29 : decode b_ms_tamper 29 = .ok (.dup2, 1) := by decide +kernel
theorem d_ms_tamper_30 : decode b_ms_tamper 30 = .ok (.laload, 1) := by decide +kernel
theorem d_ms_tamper_31 : decode b_ms_tamper 31 = .ok (.lload_n 2, 1) := by decide +kernel
theorem d_ms_tamper_32 : decode b_ms_tamper 32 = .ok (.lxor, 1) := by decide +kernel
theorem d_ms_tamper_33 : decode b_ms_tamper 33 = .ok (.lastore, 1) := by decide +kernel
theorem d_ms_tamper_34 : decode b_ms_tamper 34 = .ok (.return_, 1) := by decide +kernel
theorem d_ms_seal_0 : decode b_ms_seal 0 = .ok (.iload_n 1, 1) := by decide +kernel
theorem d_ms_seal_1 : decode b_ms_seal 1 = .ok (.invokestatic 123, 3) := by decide +kernel
theorem d_ms_seal_4 : decode b_ms_seal 4 = .ok (.ifCond .ne 13, 3) := by decide +kernel
theorem d_ms_seal_7 : decode b_ms_seal 7 = .ok (.new 45, 3) := by decide +kernel
theorem d_ms_seal_10 : decode b_ms_seal 10 = .ok (.dup, 1) := by decide +kernel
theorem d_ms_seal_11 : decode b_ms_seal 11 = .ok (.ldc 126, 2) := by decide +kernel
theorem d_ms_seal_13 : decode b_ms_seal 13 = .ok (.invokespecial 49, 3) := by decide +kernel
theorem d_ms_seal_16 : decode b_ms_seal 16 = .ok (.athrow, 1) := by decide +kernel
theorem d_ms_seal_17 : decode b_ms_seal 17 = .ok (.aload_n 0, 1) := by decide +kernel
theorem d_ms_seal_18 : decode b_ms_seal 18 = .ok (.getfield 30, 3) := by decide +kernel
theorem d_ms_seal_21 : decode b_ms_seal 21 = .ok (.invokevirtual 128, 3) := by decide +kernel
theorem d_ms_seal_24 : decode b_ms_seal 24 = .ok (.istore 4, 2) := by decide +kernel
theorem d_ms_seal_26 : decode b_ms_seal 26 = .ok (.iload 4, 2) := by decide +kernel
theorem d_ms_seal_28 : decode b_ms_seal 28 = .ok (.iconst (-1), 1) := by decide +kernel
theorem d_ms_seal_29 : decode b_ms_seal 29 = .ok (.if_icmp .ne 13, 3) := by decide +kernel
theorem d_ms_seal_32 : decode b_ms_seal 32 = .ok (.new 70, 3) := by decide +kernel
theorem d_ms_seal_35 : decode b_ms_seal 35 = .ok (.dup, 1) := by decide +kernel
theorem d_ms_seal_36 : decode b_ms_seal 36 = .ok (.ldc 132, 2) := by decide +kernel
theorem d_ms_seal_38 : decode b_ms_seal 38 = .ok (.invokespecial 74, 3) := by decide +kernel
theorem d_ms_seal_41 : decode b_ms_seal 41 = .ok (.athrow, 1) := by decide +kernel
theorem d_ms_seal_42 : decode b_ms_seal 42 = .ok (.aload_n 0, 1) := by decide +kernel
theorem d_ms_seal_43 : decode b_ms_seal 43 = .ok (.getfield 30, 3) := by decide +kernel
theorem d_ms_seal_46 : decode b_ms_seal 46 = .ok (.iload 4, 2) := by decide +kernel
theorem d_ms_seal_48 : decode b_ms_seal 48 = .ok (.iload_n 1, 1) := by decide +kernel
theorem d_ms_seal_49 : decode b_ms_seal 49 = .ok (.aload_n 0, 1) := by decide +kernel
theorem d_ms_seal_50 : decode b_ms_seal 50 = .ok (.getfield 23, 3) := by decide +kernel
theorem d_ms_seal_53 : decode b_ms_seal 53 = .ok (.iload_n 1, 1) := by decide +kernel
theorem d_ms_seal_54 : decode b_ms_seal 54 = .ok (.invokevirtual 134, 3) := by decide +kernel
theorem d_ms_seal_57 : decode b_ms_seal 57 = .ok (.lload_n 2, 1) := by decide +kernel
theorem d_ms_seal_58 : decode b_ms_seal 58 = .ok (.invokevirtual 137, 3) := by decide +kernel
theorem d_ms_seal_61 : decode b_ms_seal 61 = .ok (.iload 4, 2) := by decide +kernel
theorem d_ms_seal_63 : decode b_ms_seal 63 = .ok (.ireturn, 1) := by decide +kernel
theorem d_ms_unseal_0 : decode b_ms_unseal 0 = .ok (.aload_n 0, 1) := by decide +kernel
theorem d_ms_unseal_1 : decode b_ms_unseal 1 = .ok (.getfield 30, 3) := by decide +kernel
theorem d_ms_unseal_4 : decode b_ms_unseal 4 = .ok (.iload_n 1, 1) := by decide +kernel
theorem d_ms_unseal_5 : decode b_ms_unseal 5 = .ok (.invokevirtual 141, 3) := by decide +kernel
theorem d_ms_unseal_8 : decode b_ms_unseal 8 = .ok (.ifCond .ne 13, 3) := by decide +kernel
theorem d_ms_unseal_11 : decode b_ms_unseal 11 = .ok (.new 108, 3) := by decide +kernel
theorem d_ms_unseal_14 : decode b_ms_unseal 14 = .ok (.dup, 1) := by decide +kernel
theorem d_ms_unseal_15 : decode b_ms_unseal 15 = .ok (.ldc 144, 2) := by decide +kernel
theorem d_ms_unseal_17 : decode b_ms_unseal 17 = .ok (.invokespecial 112, 3) := by decide +kernel
theorem d_ms_unseal_20 : decode b_ms_unseal 20 = .ok (.athrow, 1) := by decide +kernel
theorem d_ms_unseal_21 : decode b_ms_unseal 21 = .ok (.aload_n 0, 1) := by decide +kernel
theorem d_ms_unseal_22 : decode b_ms_unseal 22 = .ok (.iload_n 1, 1) := by decide +kernel
theorem d_ms_unseal_23 : decode b_ms_unseal 23 = .ok (.invokevirtual 146, 3) := by decide +kernel
theorem d_ms_unseal_26 : decode b_ms_unseal 26 = .ok (.ifCond .ne 13, 3) := by decide +kernel
theorem d_ms_unseal_29 : decode b_ms_unseal 29 = .ok (.new 70, 3) := by decide +kernel
theorem d_ms_unseal_32 : decode b_ms_unseal 32 = .ok (.dup, 1) := by decide +kernel
theorem d_ms_unseal_33 : decode b_ms_unseal 33 = .ok (.ldc 149, 2) := by decide +kernel
theorem d_ms_unseal_35 : decode b_ms_unseal 35 = .ok (.invokespecial 74, 3) := by decide +kernel
theorem d_ms_unseal_38 : decode b_ms_unseal 38 = .ok (.athrow, 1) := by decide +kernel
theorem d_ms_unseal_39 : decode b_ms_unseal 39 = .ok (.aload_n 0, 1) := by decide +kernel
theorem d_ms_unseal_40 : decode b_ms_unseal 40 = .ok (.getfield 30, 3) := by decide +kernel
theorem d_ms_unseal_43 : decode b_ms_unseal 43 = .ok (.getfield 151, 3) := by decide +kernel
theorem d_ms_unseal_46 : decode b_ms_unseal 46 = .ok (.iload_n 1, 1) := by decide +kernel
theorem d_ms_unseal_47 : decode b_ms_unseal 47 = .ok (.laload, 1) := by decide +kernel
theorem d_ms_unseal_48 : decode b_ms_unseal 48 = .ok (.lreturn, 1) := by decide +kernel
theorem d_ms_discard_0 : decode b_ms_discard 0 = .ok (.aload_n 0, 1) := by decide +kernel
theorem d_ms_discard_1 : decode b_ms_discard 1 = .ok (.getfield 30, 3) := by decide +kernel
theorem d_ms_discard_4 : decode b_ms_discard 4 = .ok (.iload_n 1, 1) := by decide +kernel
theorem d_ms_discard_5 : decode b_ms_discard 5 = .ok (.invokevirtual 141, 3) := by decide +kernel
theorem d_ms_discard_8 : decode b_ms_discard 8 = .ok (.ifCond .ne 13, 3) := by decide +kernel
theorem d_ms_discard_11 : decode b_ms_discard 11 = .ok (.new 108, 3) := by decide +kernel
theorem d_ms_discard_14 : decode b_ms_discard 14 = .ok (.dup, 1) := by decide +kernel
theorem d_ms_discard_15 : decode b_ms_discard 15 = .ok (.ldc 144, 2) := by decide +kernel
theorem d_ms_discard_17 : decode b_ms_discard 17 = .ok (.invokespecial 112, 3) := by decide +kernel
theorem d_ms_discard_20 : decode b_ms_discard 20 = .ok (.athrow, 1) := by decide +kernel
theorem d_ms_discard_21 : decode b_ms_discard 21 = .ok (.aload_n 0, 1) := by decide +kernel
theorem d_ms_discard_22 : decode b_ms_discard 22 = .ok (.getfield 30, 3) := by decide +kernel
theorem d_ms_discard_25 : decode b_ms_discard 25 = .ok (.iload_n 1, 1) := by decide +kernel
theorem d_ms_discard_26 : decode b_ms_discard 26 = .ok (.invokevirtual 154, 3) := by decide +kernel
theorem d_ms_discard_29 : decode b_ms_discard 29 = .ok (.return_, 1) := by decide +kernel
theorem d_ms_quote_0 : decode b_ms_quote 0 = .ok (.iload 5, 2) := by decide +kernel
theorem d_ms_quote_2 : decode b_ms_quote 2 = .ok (.invokestatic 123, 3) := by decide +kernel
theorem d_ms_quote_5 : decode b_ms_quote 5 = .ok (.ifCond .ne 13, 3) := by decide +kernel
theorem d_ms_quote_8 : decode b_ms_quote 8 = .ok (.new 45, 3) := by decide +kernel
theorem d_ms_quote_11 : decode b_ms_quote 11 = .ok (.dup, 1) := by decide +kernel
theorem d_ms_quote_12 : decode b_ms_quote 12 = .ok (.ldc 126, 2) := by decide +kernel
theorem d_ms_quote_14 : decode b_ms_quote 14 = .ok (.invokespecial 49, 3) := by decide +kernel
theorem d_ms_quote_17 : decode b_ms_quote 17 = .ok (.athrow, 1) := by decide +kernel
theorem d_ms_quote_18 : decode b_ms_quote 18 = .ok (.lload_n 1, 1) := by decide +kernel
theorem d_ms_quote_19 : decode b_ms_quote 19 = .ok (.lload_n 3, 1) := by decide +kernel
theorem d_ms_quote_20 : decode b_ms_quote 20 = .ok (.invokestatic 158, 3) := by decide +kernel
theorem d_ms_quote_23 : decode b_ms_quote 23 = .ok (.aload_n 0, 1) := by decide +kernel
theorem d_ms_quote_24 : decode b_ms_quote 24 = .ok (.getfield 23, 3) := by decide +kernel
theorem d_ms_quote_27 : decode b_ms_quote 27 = .ok (.iload 5, 2) := by decide +kernel
theorem d_ms_quote_29 : decode b_ms_quote 29 = .ok (.invokevirtual 134, 3) := by decide +kernel
theorem d_ms_quote_32 : decode b_ms_quote 32 = .ok (.invokestatic 158, 3) := by decide +kernel
theorem d_ms_quote_35 : decode b_ms_quote 35 = .ok (.lreturn, 1) := by decide +kernel
set_option maxHeartbeats 4000000 in
set_option maxRecDepth 100000 in
theorem k_ms_image (l : Launch) (D : va_G) (cs : Nat → ClassId) (ad : Nat → Nat) (sz : Nat) (u : Sg) (j : Jx) (n : Int32) (x : Int64) (hn : vp_in n 8) : Met l y_ms_image (Cond.code y_ms_image b_ms_image 4 none :: TB) { frames := 7, cells := 0, slots := 0, locals := 200 } (va_Pc [.ref (ad 0), .int n, .long x] (xw_Pre D cs ad u j sz)) (va_Qv (fun (j1 : Jx) => j1 = j) (fun (j1 : Jx) t => xw_B D cs ad (va_A (xw ad cs u j) sz) (ss_im u (vp_updL (sg_im u) n.toNatClampNeg x)) j1 t) (va_A (xw ad cs u j) sz)) 0 0 (va_A (xw ad cs u j) sz) := by
  refine Met.ofW (cc := b_ms_image) (maxL := 4) (ret := none) (by decide) rfl ?_
  intro p e s m args below meth c s₁ B hml hv
  obtain ⟨rfl, hsz, hP, hK, hD, hN⟩ := hv
  have hx := B.exec
  have hb := B.bytes
  have hret := B.returns
  have hts := atoms_spec (ws := Cond.code y_ms_image b_ms_image 4 none :: TB) B.pre
  have hT : ∀ w ∈ TB, w.before _ s = true := fun w h => hts w (List.mem_cons_of_mem _ h)
  have hown : s.vm.findClass "MeasuredStages" = some m.cls := findClass_of_methodNamed B.named
  have hlocks := B.notSynchronized
  subst hsz
  have hD := hD.self (sz := s.heap.size)
  generalize hAe : va_A (xw ad cs u j) s.heap.size = A at hD ⊢
  have hA : ∀ q : Nat, s.heap.size ≤ q → A q := fun q h => by rw [← hAe]; exact Or.inr h
  have hS : va_S A s.heap s.heap [] := va_S.rf
  have hl := lv_entry ([.ref (ad 0), .int n, .long x]) (n := 4) (Nat.le_of_ble_eq_true rfl)
  rw [lg_entry_eq]
  generalize (lg_sl ([.ref (ad 0), .int n, .long x]) ++ List.replicate (4 - (lg_sl ([.ref (ad 0), .int n, .long x])).length) Slot.unset).toArray = ls at hl ⊢
  have hl : lv_has ls 4 [(0, .ref (ad 0)), (1, .int n), (2, .long x)] := hl
  skip
  refine lv_iload_n hx hb d_ms_image_0 rfl (lv_at hl 1 rfl) ?_
  refine st_i (v := sp_rg n 8) (As := [.int n]) (rest := []) ⟨hx, hb, hml, hown, hts⟩ (c_ms_isImage l n) tb_151 tb_152 tb_1 tb_153 hd_ms_isImage ⟨Nat.le_of_ble_eq_true rfl, Nat.le_of_ble_eq_true rfl⟩ rfl rfl hl.1 rfl (Nat.le_of_ble_eq_true rfl) d_ms_image_1 ⟨Nat.zero_le _, Nat.zero_le _⟩ ?_
  refine lv_if_ne hx hb d_ms_image_4 (tgt := 17) (by decide) (fun _ => ?_) (fun z => absurd z (rg8 hn))
  refine lv_aload_n hx hb d_ms_image_17 rfl (lv_at hl 0 rfl) ?_
  refine va_get (D := D) (ci := 0) (v := .ref (ad 1)) (C := "MeasuredStages") (T := F_ms) (N := 12) hx hb hts (fun w h => List.mem_cons_of_mem _ (i_ms w h)) hown hK hP 0 rfl rfl 0 (by decide) (hT _ tb_69) (fun _ h9 => h9) rfl d_ms_image_18 ?_
  refine lv_iload_n hx hb d_ms_image_21 rfl (lv_at hl 1 rfl) ?_
  refine lv_lload_n hx hb d_ms_image_22 rfl (lv_at hl 2 rfl) ?_
  refine va_last hx hb hK hP hD hS 1 0 rfl rfl hn d_ms_image_23 (fun H locs hP hD hS => ?_)
  have hP : va_P D cx (xv ad cs (vp_updL (sg_im u) n.toNatClampNeg x) (sg_ap u) (sg_ag u) (sg_he u) (sg_er u) (sg_ev u) (sg_en u) (sg_ma u) (sg_po u) (sg_se u) (sg_ac u) (sg_fa u) (sg_la u) (sg_st u) (jx_ru j) (jx_nd j) (jx_de j) (jx_rp j)) H := hP
  have hD : va_D A (xv ad cs (vp_updL (sg_im u) n.toNatClampNeg x) (sg_ap u) (sg_ag u) (sg_he u) (sg_er u) (sg_ev u) (sg_en u) (sg_ma u) (sg_po u) (sg_se u) (sg_ac u) (sg_fa u) (sg_la u) (sg_st u) (jx_ru j) (jx_nd j) (jx_de j) (jx_rp j)) := hD
  obtain ⟨v1, ev1⟩ : ∃ z : Sg, z = (vp_updL (sg_im u) n.toNatClampNeg x, sg_ap u, sg_ag u, sg_he u, sg_er u, sg_ev u, sg_en u, sg_ma u, sg_po u, sg_se u, sg_ac u, sg_fa u, sg_la u, sg_st u) := ⟨_, rfl⟩
  have hP : va_P D cx (xw ad cs v1 j) H := by rw [ev1, xw_u]; exact hP
  have hD : va_D A (xw ad cs v1 j) := by rw [ev1, xw_u]; exact hD
  subst ev1
  exact W.vret hx hb hret (fun t ht hW => ⟨⟨j, rfl, (by rfl), by rw [ht]; exact hP, va_K.moved hW.alike hK, hD⟩, hS.F ht⟩) hS.2.2 d_ms_image_24
set_option maxHeartbeats 4000000 in
set_option maxRecDepth 100000 in
theorem k_ms_approve (l : Launch) (D : va_G) (cs : Nat → ClassId) (ad : Nat → Nat) (sz : Nat) (u : Sg) (j : Jx) (n : Int32) (hn : vp_in n 8) : Met l y_ms_approve (Cond.code y_ms_approve b_ms_approve 2 none :: TB) { frames := 7, cells := 0, slots := 0, locals := 200 } (va_Pc [.ref (ad 0), .int n] (xw_Pre D cs ad u j sz)) (va_Qv (fun (j1 : Jx) => j1 = j) (fun (j1 : Jx) t => xw_B D cs ad (va_A (xw ad cs u j) sz) (ss_ag (ss_ap u (upd (sg_ap u) n.toNatClampNeg 1)) (vp_updL (sg_ag u) n.toNatClampNeg (sp_di u n))) j1 t) (va_A (xw ad cs u j) sz)) 0 0 (va_A (xw ad cs u j) sz) := by
  refine Met.ofW (cc := b_ms_approve) (maxL := 2) (ret := none) (by decide) rfl ?_
  intro p e s m args below meth c s₁ B hml hv
  obtain ⟨rfl, hsz, hP, hK, hD, hN⟩ := hv
  have hx := B.exec
  have hb := B.bytes
  have hret := B.returns
  have hts := atoms_spec (ws := Cond.code y_ms_approve b_ms_approve 2 none :: TB) B.pre
  have hT : ∀ w ∈ TB, w.before _ s = true := fun w h => hts w (List.mem_cons_of_mem _ h)
  have hown : s.vm.findClass "MeasuredStages" = some m.cls := findClass_of_methodNamed B.named
  have hlocks := B.notSynchronized
  subst hsz
  have hD := hD.self (sz := s.heap.size)
  generalize hAe : va_A (xw ad cs u j) s.heap.size = A at hD ⊢
  have hA : ∀ q : Nat, s.heap.size ≤ q → A q := fun q h => by rw [← hAe]; exact Or.inr h
  have hS : va_S A s.heap s.heap [] := va_S.rf
  have hl := lv_entry ([.ref (ad 0), .int n]) (n := 2) (Nat.le_of_ble_eq_true rfl)
  rw [lg_entry_eq]
  generalize (lg_sl ([.ref (ad 0), .int n]) ++ List.replicate (2 - (lg_sl ([.ref (ad 0), .int n])).length) Slot.unset).toArray = ls at hl ⊢
  have hl : lv_has ls 2 [(0, .ref (ad 0)), (1, .int n)] := hl
  skip
  refine lv_iload_n hx hb d_ms_approve_0 rfl (lv_at hl 1 rfl) ?_
  refine st_i (v := sp_rg n 8) (As := [.int n]) (rest := []) ⟨hx, hb, hml, hown, hts⟩ (c_ms_isImage l n) tb_151 tb_152 tb_1 tb_153 hd_ms_isImage ⟨Nat.le_of_ble_eq_true rfl, Nat.le_of_ble_eq_true rfl⟩ rfl rfl hl.1 rfl (Nat.le_of_ble_eq_true rfl) d_ms_approve_1 ⟨Nat.zero_le _, Nat.zero_le _⟩ ?_
  refine lv_if_ne hx hb d_ms_approve_4 (tgt := 17) (by decide) (fun _ => ?_) (fun z => absurd z (rg8 hn))
  refine lv_aload_n hx hb d_ms_approve_17 rfl (lv_at hl 0 rfl) ?_
  refine va_get (D := D) (ci := 0) (v := .ref (ad 2)) (C := "MeasuredStages") (T := F_ms) (N := 12) hx hb hts (fun w h => List.mem_cons_of_mem _ (i_ms w h)) hown hK hP 0 rfl rfl 1 (by decide) (hT _ tb_70) (fun _ h9 => h9) rfl d_ms_approve_18 ?_
  refine lv_iload_n hx hb d_ms_approve_21 rfl (lv_at hl 1 rfl) ?_
  refine lv_iconst (v := 1) hx hb d_ms_approve_22 (by decide) ?_
  refine va_zast hx hb hK hP hD hS 2 1 rfl rfl hn d_ms_approve_23 (fun H locs hP hD hS => ?_)
  have hP : va_P D cx (xv ad cs (sg_im u) (upd (sg_ap u) n.toNatClampNeg (1)) (sg_ag u) (sg_he u) (sg_er u) (sg_ev u) (sg_en u) (sg_ma u) (sg_po u) (sg_se u) (sg_ac u) (sg_fa u) (sg_la u) (sg_st u) (jx_ru j) (jx_nd j) (jx_de j) (jx_rp j)) H := hP
  have hD : va_D A (xv ad cs (sg_im u) (upd (sg_ap u) n.toNatClampNeg (1)) (sg_ag u) (sg_he u) (sg_er u) (sg_ev u) (sg_en u) (sg_ma u) (sg_po u) (sg_se u) (sg_ac u) (sg_fa u) (sg_la u) (sg_st u) (jx_ru j) (jx_nd j) (jx_de j) (jx_rp j)) := hD
  refine lv_aload_n hx hb d_ms_approve_24 rfl (lv_at hl 0 rfl) ?_
  refine va_get (D := D) (ci := 0) (v := .ref (ad 3)) (C := "MeasuredStages") (T := F_ms) (N := 12) hx hb hts (fun w h => List.mem_cons_of_mem _ (i_ms w h)) hown hK hP 0 rfl rfl 2 (by decide) (hT _ tb_71) (fun _ h9 => h9) rfl d_ms_approve_25 ?_
  refine lv_iload_n hx hb d_ms_approve_28 rfl (lv_at hl 1 rfl) ?_
  refine lv_aload_n hx hb d_ms_approve_29 rfl (lv_at hl 0 rfl) ?_
  refine lv_iload_n hx hb d_ms_approve_30 rfl (lv_at hl 1 rfl) ?_
  obtain ⟨v1, ev1⟩ : ∃ z : Sg, z = (sg_im u, upd (sg_ap u) n.toNatClampNeg (1), sg_ag u, sg_he u, sg_er u, sg_ev u, sg_en u, sg_ma u, sg_po u, sg_se u, sg_ac u, sg_fa u, sg_la u, sg_st u) := ⟨_, rfl⟩
  have hP : va_P D cx (xw ad cs v1 j) H := by rw [ev1, xw_u]; exact hP
  have hD : va_D A (xw ad cs v1 j) := by rw [ev1, xw_u]; exact hD
  refine xw_rdl (v := sp_di v1 n) (As := [.int n]) (rest := [.int n, .ref (ad 3)]) ⟨hx, hb, hml, hown, hts⟩ (c_ms_digestOf l D cs ad _ v1 j n hn) tb_230 tb_232 sl_1 tb_1 tb_233 ⟨rfl, hd_ms_digestOf⟩ ⟨Nat.le_of_ble_eq_true rfl, Nat.le_of_ble_eq_true rfl⟩ rfl rfl hK hP hD hN 0 0 rfl rfl hl.1 rfl (Nat.le_of_ble_eq_true rfl) d_ms_approve_31 ⟨Nat.zero_le _, Nat.zero_le _⟩ ?_
  refine va_last hx hb hK hP hD hS 3 2 rfl rfl hn d_ms_approve_34 (fun H locs hP hD hS => ?_)
  have hP : va_P D cx (xv ad cs (sg_im v1) (sg_ap v1) (vp_updL (sg_ag v1) n.toNatClampNeg (sp_di v1 n)) (sg_he v1) (sg_er v1) (sg_ev v1) (sg_en v1) (sg_ma v1) (sg_po v1) (sg_se v1) (sg_ac v1) (sg_fa v1) (sg_la v1) (sg_st v1) (jx_ru j) (jx_nd j) (jx_de j) (jx_rp j)) H := hP
  have hD : va_D A (xv ad cs (sg_im v1) (sg_ap v1) (vp_updL (sg_ag v1) n.toNatClampNeg (sp_di v1 n)) (sg_he v1) (sg_er v1) (sg_ev v1) (sg_en v1) (sg_ma v1) (sg_po v1) (sg_se v1) (sg_ac v1) (sg_fa v1) (sg_la v1) (sg_st v1) (jx_ru j) (jx_nd j) (jx_de j) (jx_rp j)) := hD
  obtain ⟨v2, ev2⟩ : ∃ z : Sg, z = (sg_im v1, sg_ap v1, vp_updL (sg_ag v1) n.toNatClampNeg (sp_di v1 n), sg_he v1, sg_er v1, sg_ev v1, sg_en v1, sg_ma v1, sg_po v1, sg_se v1, sg_ac v1, sg_fa v1, sg_la v1, sg_st v1) := ⟨_, rfl⟩
  have hP : va_P D cx (xw ad cs v2 j) H := by rw [ev2, xw_u]; exact hP
  have hD : va_D A (xw ad cs v2 j) := by rw [ev2, xw_u]; exact hD
  subst ev2
  subst ev1
  exact W.vret hx hb hret (fun t ht hW => ⟨⟨j, rfl, (by rfl), by rw [ht]; exact hP, va_K.moved hW.alike hK, hD⟩, hS.F ht⟩) hS.2.2 d_ms_approve_35
set_option maxHeartbeats 4000000 in
set_option maxRecDepth 100000 in
theorem k_ms_register (l : Launch) (D : va_G) (cs : Nat → ClassId) (ad : Nat → Nat) (sz : Nat) (u : Sg) (j : Jx) (n : Int32) (hr : vp_in n 6) : Met l y_ms_register (Cond.code y_ms_register b_ms_register 2 (some .long) :: TB) { frames := 7, cells := 0, slots := 0, locals := 200 } (va_Pc [.ref (ad 0), .int n] (xw_Pre D cs ad u j sz)) (vp_Sl (fun r => r = sg_he u n.toNatClampNeg)) 0 0 (fun _ => False) := by
  refine Met.ofW (cc := b_ms_register) (maxL := 2) (ret := (some .long)) (by decide) rfl ?_
  intro p e s m args below meth c s₁ B hml hv
  obtain ⟨rfl, hsz, hP, hK, hD, hN⟩ := hv
  have hx := B.exec
  have hb := B.bytes
  have hret := B.returns
  have hts := atoms_spec (ws := Cond.code y_ms_register b_ms_register 2 (some .long) :: TB) B.pre
  have hT : ∀ w ∈ TB, w.before _ s = true := fun w h => hts w (List.mem_cons_of_mem _ h)
  have hown : s.vm.findClass "MeasuredStages" = some m.cls := findClass_of_methodNamed B.named
  have hlocks := B.notSynchronized
  subst hsz
  have hl := lv_entry ([.ref (ad 0), .int n]) (n := 2) (Nat.le_of_ble_eq_true rfl)
  rw [lg_entry_eq]
  generalize (lg_sl ([.ref (ad 0), .int n]) ++ List.replicate (2 - (lg_sl ([.ref (ad 0), .int n])).length) Slot.unset).toArray = ls at hl ⊢
  have hl : lv_has ls 2 [(0, .ref (ad 0)), (1, .int n)] := hl
  refine lv_iload_n hx hb d_ms_register_0 rfl (lv_at hl 1 rfl) ?_
  refine st_i (v := sp_rg n 6) (As := [.int n]) (rest := []) ⟨hx, hb, hml, hown, hts⟩ (c_rg_isRegister l n) tb_345 tb_346 tb_2 tb_347 hd_rg_isRegister ⟨Nat.le_of_ble_eq_true rfl, Nat.le_of_ble_eq_true rfl⟩ rfl rfl hl.1 rfl (Nat.le_of_ble_eq_true rfl) d_ms_register_1 ⟨Nat.zero_le _, Nat.zero_le _⟩ ?_
  refine lv_if_ne hx hb d_ms_register_4 (tgt := 17) (by decide) (fun _ => ?_) (fun z => absurd z (rg6 hr))
  refine lv_aload_n hx hb d_ms_register_17 rfl (lv_at hl 0 rfl) ?_
  refine va_get (D := D) (ci := 0) (v := .ref (ad 4)) (C := "MeasuredStages") (T := F_ms) (N := 12) hx hb hts (fun w h => List.mem_cons_of_mem _ (i_ms w h)) hown hK hP 0 rfl rfl 3 (by decide) (hT _ tb_72) (fun _ h9 => h9) rfl d_ms_register_18 ?_
  refine va_get (D := D) (ci := 1) (v := .ref (ad 8)) (C := "MeasuredStages$Registers") (T := F_rg) (N := 5) hx hb hts (fun w h => List.mem_cons_of_mem _ (i_rg w h)) hown hK hP 4 rfl rfl 0 (by decide) (hT _ tb_28) (fun _ h9 => h9) rfl d_ms_register_21 ?_
  refine lv_iload_n hx hb d_ms_register_24 rfl (lv_at hl 1 rfl) ?_
  refine va_lald hx hb hK hP 8 5 rfl rfl hr d_ms_register_25 ?_
  exact W.lret (v := sg_he u n.toNatClampNeg) hx hb hret (fun t ht hW => ⟨_, rfl, rfl, ht⟩) (fun q h => by cases h) d_ms_register_26
set_option maxHeartbeats 4000000 in
set_option maxRecDepth 100000 in
theorem k_ms_extend (l : Launch) (D : va_G) (cs : Nat → ClassId) (ad : Nat → Nat) (sz : Nat) (u : Sg) (j : Jx) (r : Int32) (v : Int64) (hr : vp_in r 6) (he : vp_in (sg_en u) 32) : Met l y_ms_extend (Cond.code y_ms_extend b_ms_extend 4 none :: TB) { frames := 7, cells := 0, slots := 0, locals := 200 } (va_Pc [.ref (ad 0), .int r, .long v] (xw_Pre D cs ad u j sz)) (va_Qv (fun (j1 : Jx) => j1 = j) (fun (j1 : Jx) t => xw_B D cs ad (va_A (xw ad cs u j) sz) (sp_no u r v) j1 t) (va_A (xw ad cs u j) sz)) 0 0 (va_A (xw ad cs u j) sz) := by
  refine Met.ofW (cc := b_ms_extend) (maxL := 4) (ret := none) (by decide) rfl ?_
  intro p e s m args below meth c s₁ B hml hv
  obtain ⟨rfl, hsz, hP, hK, hD, hN⟩ := hv
  have hx := B.exec
  have hb := B.bytes
  have hret := B.returns
  have hts := atoms_spec (ws := Cond.code y_ms_extend b_ms_extend 4 none :: TB) B.pre
  have hT : ∀ w ∈ TB, w.before _ s = true := fun w h => hts w (List.mem_cons_of_mem _ h)
  have hown : s.vm.findClass "MeasuredStages" = some m.cls := findClass_of_methodNamed B.named
  have hlocks := B.notSynchronized
  subst hsz
  have hD := hD.self (sz := s.heap.size)
  generalize hAe : va_A (xw ad cs u j) s.heap.size = A at hD ⊢
  have hA : ∀ q : Nat, s.heap.size ≤ q → A q := fun q h => by rw [← hAe]; exact Or.inr h
  have hS : va_S A s.heap s.heap [] := va_S.rf
  have hl := lv_entry ([.ref (ad 0), .int r, .long v]) (n := 4) (Nat.le_of_ble_eq_true rfl)
  rw [lg_entry_eq]
  generalize (lg_sl ([.ref (ad 0), .int r, .long v]) ++ List.replicate (4 - (lg_sl ([.ref (ad 0), .int r, .long v])).length) Slot.unset).toArray = ls at hl ⊢
  have hl : lv_has ls 4 [(0, .ref (ad 0)), (1, .int r), (2, .long v)] := hl
  skip
  refine lv_iload_n hx hb d_ms_extend_0 rfl (lv_at hl 1 rfl) ?_
  refine st_i (v := sp_rg r 6) (As := [.int r]) (rest := []) ⟨hx, hb, hml, hown, hts⟩ (c_rg_isRegister l r) tb_345 tb_346 tb_2 tb_347 hd_rg_isRegister ⟨Nat.le_of_ble_eq_true rfl, Nat.le_of_ble_eq_true rfl⟩ rfl rfl hl.1 rfl (Nat.le_of_ble_eq_true rfl) d_ms_extend_1 ⟨Nat.zero_le _, Nat.zero_le _⟩ ?_
  refine lv_if_ne hx hb d_ms_extend_4 (tgt := 17) (by decide) (fun _ => ?_) (fun z => absurd z (rg6 hr))
  refine lv_aload_n hx hb d_ms_extend_17 rfl (lv_at hl 0 rfl) ?_
  refine va_get (D := D) (ci := 0) (v := .ref (ad 4)) (C := "MeasuredStages") (T := F_ms) (N := 12) hx hb hts (fun w h => List.mem_cons_of_mem _ (i_ms w h)) hown hK hP 0 rfl rfl 3 (by decide) (hT _ tb_72) (fun _ h9 => h9) rfl d_ms_extend_18 ?_
  refine lv_iload_n hx hb d_ms_extend_21 rfl (lv_at hl 1 rfl) ?_
  refine lv_lload_n hx hb d_ms_extend_22 rfl (lv_at hl 2 rfl) ?_
  refine xw_wri (v := 1) (u' := sp_no u r v) (As := [.int r, .long v]) (rest := []) ⟨hx, hb, hml, hown, hts⟩ (c_rg_measure l D cs ad _ u j r v hr he) tb_260 tb_261 tb_262 tb_2 tb_263 ⟨rfl, hd_rg_measure⟩ ⟨Nat.le_of_ble_eq_true rfl, Nat.le_of_ble_eq_true rfl⟩ rfl rfl hK hP hD hN 4 1 rfl rfl hl.1 rfl (Nat.le_of_ble_eq_true rfl) d_ms_extend_23 ⟨Nat.zero_le _, Nat.zero_le _⟩ hS hA (fun j1 H locs hj2 hP hD hS => ?_)
  obtain ⟨v3, ev3⟩ : ∃ z : Sg, z = sp_no u r v := ⟨_, rfl⟩
  rw [← ev3] at hP hD
  rw [hj2] at hP hD
  refine lv_if_ne hx hb d_ms_extend_26 (tgt := 39) (by decide) (fun _ => ?_) (fun z => absurd z (by decide))
  subst ev3
  exact W.vret hx hb hret (fun t ht hW => ⟨⟨j, rfl, (by rfl), by rw [ht]; exact hP, va_K.moved hW.alike hK, hD⟩, hS.F ht⟩) hS.2.2 d_ms_extend_39
set_option maxHeartbeats 4000000 in
set_option maxRecDepth 100000 in
theorem k_ms_eventRegister (l : Launch) (D : va_G) (cs : Nat → ClassId) (ad : Nat → Nat) (sz : Nat) (u : Sg) (j : Jx) (k : Int32) (hok : sp_ok u) (hk : sp_rg k (sg_en u) = 1) : Met l y_ms_eventRegister (Cond.code y_ms_eventRegister b_ms_eventRegister 2 (some .int) :: TB) { frames := 7, cells := 0, slots := 0, locals := 200 } (va_Pc [.ref (ad 0), .int k] (xw_Pre D cs ad u j sz)) (vp_Si (fun r => r = sg_er u k.toNatClampNeg)) 0 0 (fun _ => False) := by
  refine Met.ofW (cc := b_ms_eventRegister) (maxL := 2) (ret := (some .int)) (by decide) rfl ?_
  intro p e s m args below meth c s₁ B hml hv
  obtain ⟨rfl, hsz, hP, hK, hD, hN⟩ := hv
  have hx := B.exec
  have hb := B.bytes
  have hret := B.returns
  have hts := atoms_spec (ws := Cond.code y_ms_eventRegister b_ms_eventRegister 2 (some .int) :: TB) B.pre
  have hT : ∀ w ∈ TB, w.before _ s = true := fun w h => hts w (List.mem_cons_of_mem _ h)
  have hown : s.vm.findClass "MeasuredStages" = some m.cls := findClass_of_methodNamed B.named
  have hlocks := B.notSynchronized
  subst hsz
  have hl := lv_entry ([.ref (ad 0), .int k]) (n := 2) (Nat.le_of_ble_eq_true rfl)
  rw [lg_entry_eq]
  generalize (lg_sl ([.ref (ad 0), .int k]) ++ List.replicate (2 - (lg_sl ([.ref (ad 0), .int k])).length) Slot.unset).toArray = ls at hl ⊢
  have hl : lv_has ls 2 [(0, .ref (ad 0)), (1, .int k)] := hl
  refine lv_aload_n hx hb d_ms_eventRegister_0 rfl (lv_at hl 0 rfl) ?_
  refine va_get (D := D) (ci := 0) (v := .ref (ad 4)) (C := "MeasuredStages") (T := F_ms) (N := 12) hx hb hts (fun w h => List.mem_cons_of_mem _ (i_ms w h)) hown hK hP 0 rfl rfl 3 (by decide) (hT _ tb_72) (fun _ h9 => h9) rfl d_ms_eventRegister_1 ?_
  refine lv_iload_n hx hb d_ms_eventRegister_4 rfl (lv_at hl 1 rfl) ?_
  refine xw_rdi (v := sp_rg k (sg_en u)) (As := [.int k]) (rest := []) ⟨hx, hb, hml, hown, hts⟩ (c_rg_hasEvent l D cs ad _ u j k) tb_380 tb_381 tb_382 tb_2 tb_383 ⟨rfl, hd_rg_hasEvent⟩ ⟨Nat.le_of_ble_eq_true rfl, Nat.le_of_ble_eq_true rfl⟩ rfl rfl hK hP hD hN 4 1 rfl rfl hl.1 rfl (Nat.le_of_ble_eq_true rfl) d_ms_eventRegister_5 ⟨Nat.zero_le _, Nat.zero_le _⟩ ?_
  refine lv_if_ne hx hb d_ms_eventRegister_8 (tgt := 21) (by decide) (fun _ => ?_) (fun z => absurd z (by rw [hk]; decide))
  refine lv_aload_n hx hb d_ms_eventRegister_21 rfl (lv_at hl 0 rfl) ?_
  refine va_get (D := D) (ci := 0) (v := .ref (ad 4)) (C := "MeasuredStages") (T := F_ms) (N := 12) hx hb hts (fun w h => List.mem_cons_of_mem _ (i_ms w h)) hown hK hP 0 rfl rfl 3 (by decide) (hT _ tb_72) (fun _ h9 => h9) rfl d_ms_eventRegister_22 ?_
  refine va_get (D := D) (ci := 1) (v := .ref (ad 9)) (C := "MeasuredStages$Registers") (T := F_rg) (N := 5) hx hb hts (fun w h => List.mem_cons_of_mem _ (i_rg w h)) hown hK hP 4 rfl rfl 1 (by decide) (hT _ tb_30) (fun _ h9 => h9) rfl d_ms_eventRegister_25 ?_
  refine lv_iload_n hx hb d_ms_eventRegister_28 rfl (lv_at hl 1 rfl) ?_
  refine va_iald hx hb hK hP 9 6 rfl rfl (ev_in hok hk) d_ms_eventRegister_29 ?_
  exact W.iret (v := sg_er u k.toNatClampNeg) hx hb hret (fun t ht hW => ⟨_, rfl, rfl, ht⟩) (fun q h => by cases h) d_ms_eventRegister_30
set_option maxHeartbeats 4000000 in
set_option maxRecDepth 100000 in
theorem k_ms_eventValue (l : Launch) (D : va_G) (cs : Nat → ClassId) (ad : Nat → Nat) (sz : Nat) (u : Sg) (j : Jx) (k : Int32) (hok : sp_ok u) (hk : sp_rg k (sg_en u) = 1) : Met l y_ms_eventValue (Cond.code y_ms_eventValue b_ms_eventValue 2 (some .long) :: TB) { frames := 7, cells := 0, slots := 0, locals := 200 } (va_Pc [.ref (ad 0), .int k] (xw_Pre D cs ad u j sz)) (vp_Sl (fun r => r = sg_ev u k.toNatClampNeg)) 0 0 (fun _ => False) := by
  refine Met.ofW (cc := b_ms_eventValue) (maxL := 2) (ret := (some .long)) (by decide) rfl ?_
  intro p e s m args below meth c s₁ B hml hv
  obtain ⟨rfl, hsz, hP, hK, hD, hN⟩ := hv
  have hx := B.exec
  have hb := B.bytes
  have hret := B.returns
  have hts := atoms_spec (ws := Cond.code y_ms_eventValue b_ms_eventValue 2 (some .long) :: TB) B.pre
  have hT : ∀ w ∈ TB, w.before _ s = true := fun w h => hts w (List.mem_cons_of_mem _ h)
  have hown : s.vm.findClass "MeasuredStages" = some m.cls := findClass_of_methodNamed B.named
  have hlocks := B.notSynchronized
  subst hsz
  have hl := lv_entry ([.ref (ad 0), .int k]) (n := 2) (Nat.le_of_ble_eq_true rfl)
  rw [lg_entry_eq]
  generalize (lg_sl ([.ref (ad 0), .int k]) ++ List.replicate (2 - (lg_sl ([.ref (ad 0), .int k])).length) Slot.unset).toArray = ls at hl ⊢
  have hl : lv_has ls 2 [(0, .ref (ad 0)), (1, .int k)] := hl
  refine lv_aload_n hx hb d_ms_eventValue_0 rfl (lv_at hl 0 rfl) ?_
  refine va_get (D := D) (ci := 0) (v := .ref (ad 4)) (C := "MeasuredStages") (T := F_ms) (N := 12) hx hb hts (fun w h => List.mem_cons_of_mem _ (i_ms w h)) hown hK hP 0 rfl rfl 3 (by decide) (hT _ tb_72) (fun _ h9 => h9) rfl d_ms_eventValue_1 ?_
  refine lv_iload_n hx hb d_ms_eventValue_4 rfl (lv_at hl 1 rfl) ?_
  refine xw_rdi (v := sp_rg k (sg_en u)) (As := [.int k]) (rest := []) ⟨hx, hb, hml, hown, hts⟩ (c_rg_hasEvent l D cs ad _ u j k) tb_380 tb_381 tb_382 tb_2 tb_383 ⟨rfl, hd_rg_hasEvent⟩ ⟨Nat.le_of_ble_eq_true rfl, Nat.le_of_ble_eq_true rfl⟩ rfl rfl hK hP hD hN 4 1 rfl rfl hl.1 rfl (Nat.le_of_ble_eq_true rfl) d_ms_eventValue_5 ⟨Nat.zero_le _, Nat.zero_le _⟩ ?_
  refine lv_if_ne hx hb d_ms_eventValue_8 (tgt := 21) (by decide) (fun _ => ?_) (fun z => absurd z (by rw [hk]; decide))
  refine lv_aload_n hx hb d_ms_eventValue_21 rfl (lv_at hl 0 rfl) ?_
  refine va_get (D := D) (ci := 0) (v := .ref (ad 4)) (C := "MeasuredStages") (T := F_ms) (N := 12) hx hb hts (fun w h => List.mem_cons_of_mem _ (i_ms w h)) hown hK hP 0 rfl rfl 3 (by decide) (hT _ tb_72) (fun _ h9 => h9) rfl d_ms_eventValue_22 ?_
  refine va_get (D := D) (ci := 1) (v := .ref (ad 10)) (C := "MeasuredStages$Registers") (T := F_rg) (N := 5) hx hb hts (fun w h => List.mem_cons_of_mem _ (i_rg w h)) hown hK hP 4 rfl rfl 2 (by decide) (hT _ tb_32) (fun _ h9 => h9) rfl d_ms_eventValue_25 ?_
  refine lv_iload_n hx hb d_ms_eventValue_28 rfl (lv_at hl 1 rfl) ?_
  refine va_lald hx hb hK hP 10 7 rfl rfl (ev_in hok hk) d_ms_eventValue_29 ?_
  exact W.lret (v := sg_ev u k.toNatClampNeg) hx hb hret (fun t ht hW => ⟨_, rfl, rfl, ht⟩) (fun q h => by cases h) d_ms_eventValue_30
set_option maxHeartbeats 4000000 in
set_option maxRecDepth 100000 in
theorem k_ms_tamper (l : Launch) (D : va_G) (cs : Nat → ClassId) (ad : Nat → Nat) (sz : Nat) (u : Sg) (j : Jx) (k : Int32) (x : Int64) (hok : sp_ok u) (hk : sp_rg k (sg_en u) = 1) : Met l y_ms_tamper (Cond.code y_ms_tamper b_ms_tamper 4 none :: TB) { frames := 7, cells := 0, slots := 0, locals := 200 } (va_Pc [.ref (ad 0), .int k, .long x] (xw_Pre D cs ad u j sz)) (va_Qv (fun (j1 : Jx) => j1 = j) (fun (j1 : Jx) t => xw_B D cs ad (va_A (xw ad cs u j) sz) (ss_ev u (vp_updL (sg_ev u) k.toNatClampNeg (sg_ev u k.toNatClampNeg ^^^ x))) j1 t) (va_A (xw ad cs u j) sz)) 0 0 (va_A (xw ad cs u j) sz) := by
  refine Met.ofW (cc := b_ms_tamper) (maxL := 4) (ret := none) (by decide) rfl ?_
  intro p e s m args below meth c s₁ B hml hv
  obtain ⟨rfl, hsz, hP, hK, hD, hN⟩ := hv
  have hx := B.exec
  have hb := B.bytes
  have hret := B.returns
  have hts := atoms_spec (ws := Cond.code y_ms_tamper b_ms_tamper 4 none :: TB) B.pre
  have hT : ∀ w ∈ TB, w.before _ s = true := fun w h => hts w (List.mem_cons_of_mem _ h)
  have hown : s.vm.findClass "MeasuredStages" = some m.cls := findClass_of_methodNamed B.named
  have hlocks := B.notSynchronized
  subst hsz
  have hD := hD.self (sz := s.heap.size)
  generalize hAe : va_A (xw ad cs u j) s.heap.size = A at hD ⊢
  have hA : ∀ q : Nat, s.heap.size ≤ q → A q := fun q h => by rw [← hAe]; exact Or.inr h
  have hS : va_S A s.heap s.heap [] := va_S.rf
  have hl := lv_entry ([.ref (ad 0), .int k, .long x]) (n := 4) (Nat.le_of_ble_eq_true rfl)
  rw [lg_entry_eq]
  generalize (lg_sl ([.ref (ad 0), .int k, .long x]) ++ List.replicate (4 - (lg_sl ([.ref (ad 0), .int k, .long x])).length) Slot.unset).toArray = ls at hl ⊢
  have hl : lv_has ls 4 [(0, .ref (ad 0)), (1, .int k), (2, .long x)] := hl
  skip
  refine lv_aload_n hx hb d_ms_tamper_0 rfl (lv_at hl 0 rfl) ?_
  refine va_get (D := D) (ci := 0) (v := .ref (ad 4)) (C := "MeasuredStages") (T := F_ms) (N := 12) hx hb hts (fun w h => List.mem_cons_of_mem _ (i_ms w h)) hown hK hP 0 rfl rfl 3 (by decide) (hT _ tb_72) (fun _ h9 => h9) rfl d_ms_tamper_1 ?_
  refine lv_iload_n hx hb d_ms_tamper_4 rfl (lv_at hl 1 rfl) ?_
  refine xw_rdi (v := sp_rg k (sg_en u)) (As := [.int k]) (rest := []) ⟨hx, hb, hml, hown, hts⟩ (c_rg_hasEvent l D cs ad _ u j k) tb_380 tb_381 tb_382 tb_2 tb_383 ⟨rfl, hd_rg_hasEvent⟩ ⟨Nat.le_of_ble_eq_true rfl, Nat.le_of_ble_eq_true rfl⟩ rfl rfl hK hP hD hN 4 1 rfl rfl hl.1 rfl (Nat.le_of_ble_eq_true rfl) d_ms_tamper_5 ⟨Nat.zero_le _, Nat.zero_le _⟩ ?_
  refine lv_if_ne hx hb d_ms_tamper_8 (tgt := 21) (by decide) (fun _ => ?_) (fun z => absurd z (by rw [hk]; decide))
  refine lv_aload_n hx hb d_ms_tamper_21 rfl (lv_at hl 0 rfl) ?_
  refine va_get (D := D) (ci := 0) (v := .ref (ad 4)) (C := "MeasuredStages") (T := F_ms) (N := 12) hx hb hts (fun w h => List.mem_cons_of_mem _ (i_ms w h)) hown hK hP 0 rfl rfl 3 (by decide) (hT _ tb_72) (fun _ h9 => h9) rfl d_ms_tamper_22 ?_
  refine va_get (D := D) (ci := 1) (v := .ref (ad 10)) (C := "MeasuredStages$Registers") (T := F_rg) (N := 5) hx hb hts (fun w h => List.mem_cons_of_mem _ (i_rg w h)) hown hK hP 4 rfl rfl 2 (by decide) (hT _ tb_32) (fun _ h9 => h9) rfl d_ms_tamper_25 ?_
  refine lv_iload_n hx hb d_ms_tamper_28 rfl (lv_at hl 1 rfl) ?_
  refine lv_dup2_11 hx hb d_ms_tamper_29 rfl rfl ?_
  refine va_lald hx hb hK hP 10 7 rfl rfl (ev_in hok hk) d_ms_tamper_30 ?_
  refine lv_lload_n hx hb d_ms_tamper_31 rfl (lv_at hl 2 rfl) ?_
  refine lv_lxor hx hb d_ms_tamper_32 ?_
  refine va_last hx hb hK hP hD hS 10 7 rfl rfl (ev_in hok hk) d_ms_tamper_33 (fun H locs hP hD hS => ?_)
  have hP : va_P D cx (xv ad cs (sg_im u) (sg_ap u) (sg_ag u) (sg_he u) (sg_er u) (vp_updL (sg_ev u) k.toNatClampNeg ((sg_ev u k.toNatClampNeg) ^^^ x)) (sg_en u) (sg_ma u) (sg_po u) (sg_se u) (sg_ac u) (sg_fa u) (sg_la u) (sg_st u) (jx_ru j) (jx_nd j) (jx_de j) (jx_rp j)) H := hP
  have hD : va_D A (xv ad cs (sg_im u) (sg_ap u) (sg_ag u) (sg_he u) (sg_er u) (vp_updL (sg_ev u) k.toNatClampNeg ((sg_ev u k.toNatClampNeg) ^^^ x)) (sg_en u) (sg_ma u) (sg_po u) (sg_se u) (sg_ac u) (sg_fa u) (sg_la u) (sg_st u) (jx_ru j) (jx_nd j) (jx_de j) (jx_rp j)) := hD
  obtain ⟨v1, ev1⟩ : ∃ z : Sg, z = (sg_im u, sg_ap u, sg_ag u, sg_he u, sg_er u, vp_updL (sg_ev u) k.toNatClampNeg ((sg_ev u k.toNatClampNeg) ^^^ x), sg_en u, sg_ma u, sg_po u, sg_se u, sg_ac u, sg_fa u, sg_la u, sg_st u) := ⟨_, rfl⟩
  have hP : va_P D cx (xw ad cs v1 j) H := by rw [ev1, xw_u]; exact hP
  have hD : va_D A (xw ad cs v1 j) := by rw [ev1, xw_u]; exact hD
  subst ev1
  exact W.vret hx hb hret (fun t ht hW => ⟨⟨j, rfl, (by rfl), by rw [ht]; exact hP, va_K.moved hW.alike hK, hD⟩, hS.F ht⟩) hS.2.2 d_ms_tamper_34
set_option maxHeartbeats 4000000 in
set_option maxRecDepth 100000 in
theorem k_ms_seal (l : Launch) (D : va_G) (cs : Nat → ClassId) (ad : Nat → Nat) (sz : Nat) (u : Sg) (j : Jx) (mask : Int32) (x : Int64) (hm : sp_mk mask = 1) (hk : vp_in (sp_lf (sg_ma u)) 8) : Met l y_ms_seal (Cond.code y_ms_seal b_ms_seal 5 (some .int) :: TB) { frames := 7, cells := 0, slots := 0, locals := 200 } (va_Pc [.ref (ad 0), .int mask, .long x] (xw_Pre D cs ad u j sz)) (va_Qi (fun (r : Int32) (j1 : Jx) => r = sp_lf (sg_ma u) ∧ j1 = j) (fun (j1 : Jx) t => xw_B D cs ad (va_A (xw ad cs u j) sz) (sp_fi u (sp_lf (sg_ma u)) mask x) j1 t) (va_A (xw ad cs u j) sz)) 0 0 (va_A (xw ad cs u j) sz) := by
  refine Met.ofW (cc := b_ms_seal) (maxL := 5) (ret := (some .int)) (by decide) rfl ?_
  intro p e s m args below meth c s₁ B hml hv
  obtain ⟨rfl, hsz, hP, hK, hD, hN⟩ := hv
  have hx := B.exec
  have hb := B.bytes
  have hret := B.returns
  have hts := atoms_spec (ws := Cond.code y_ms_seal b_ms_seal 5 (some .int) :: TB) B.pre
  have hT : ∀ w ∈ TB, w.before _ s = true := fun w h => hts w (List.mem_cons_of_mem _ h)
  have hown : s.vm.findClass "MeasuredStages" = some m.cls := findClass_of_methodNamed B.named
  have hlocks := B.notSynchronized
  subst hsz
  have hD := hD.self (sz := s.heap.size)
  generalize hAe : va_A (xw ad cs u j) s.heap.size = A at hD ⊢
  have hA : ∀ q : Nat, s.heap.size ≤ q → A q := fun q h => by rw [← hAe]; exact Or.inr h
  have hS : va_S A s.heap s.heap [] := va_S.rf
  have hl := lv_entry ([.ref (ad 0), .int mask, .long x]) (n := 5) (Nat.le_of_ble_eq_true rfl)
  rw [lg_entry_eq]
  generalize (lg_sl ([.ref (ad 0), .int mask, .long x]) ++ List.replicate (5 - (lg_sl ([.ref (ad 0), .int mask, .long x])).length) Slot.unset).toArray = ls at hl ⊢
  have hl : lv_has ls 5 [(0, .ref (ad 0)), (1, .int mask), (2, .long x)] := hl
  skip
  refine lv_iload_n hx hb d_ms_seal_0 rfl (lv_at hl 1 rfl) ?_
  refine st_i (v := sp_mk mask) (As := [.int mask]) (rest := []) ⟨hx, hb, hml, hown, hts⟩ (c_ms_isMask l mask) tb_421 tb_422 tb_1 tb_423 hd_ms_isMask ⟨Nat.le_of_ble_eq_true rfl, Nat.le_of_ble_eq_true rfl⟩ rfl rfl hl.1 rfl (Nat.le_of_ble_eq_true rfl) d_ms_seal_1 ⟨Nat.zero_le _, Nat.zero_le _⟩ ?_
  refine lv_if_ne hx hb d_ms_seal_4 (tgt := 17) (by decide) (fun _ => ?_) (fun z => absurd z (by rw [hm]; decide))
  refine lv_aload_n hx hb d_ms_seal_17 rfl (lv_at hl 0 rfl) ?_
  refine va_get (D := D) (ci := 0) (v := .ref (ad 5)) (C := "MeasuredStages") (T := F_ms) (N := 12) hx hb hts (fun w h => List.mem_cons_of_mem _ (i_ms w h)) hown hK hP 0 rfl rfl 4 (by decide) (hT _ tb_73) (fun _ h9 => h9) rfl d_ms_seal_18 ?_
  refine xw_rdi (v := sp_lf (sg_ma u)) (As := []) (rest := []) ⟨hx, hb, hml, hown, hts⟩ (c_bl_leastFree l D cs ad _ u j ) tb_313 tb_314 tb_315 tb_3 tb_316 ⟨rfl, hd_bl_leastFree⟩ ⟨Nat.le_of_ble_eq_true rfl, Nat.le_of_ble_eq_true rfl⟩ rfl rfl hK hP hD hN 5 2 rfl rfl hl.1 rfl (Nat.le_of_ble_eq_true rfl) d_ms_seal_21 ⟨Nat.zero_le _, Nat.zero_le _⟩ ?_
  refine lv_istore (nL := 5) (lv' := [(4, .int (sp_lf (sg_ma u))), (0, .ref (ad 0)), (1, .int mask), (2, .long x)]) hx hb d_ms_seal_24 hl (by decide) rfl (fun ls hl => ?_)
  refine lv_iload hx hb d_ms_seal_26 (lv_at hl 0 rfl) ?_
  refine lv_iconst (v := (-1)) hx hb d_ms_seal_28 (by decide) ?_
  refine lv_icmp_ne hx hb d_ms_seal_29 (tgt := 42) (by decide) (fun _ => ?_) (fun z => absurd z (fun z => xn_ge hk (by rw [z]; decide)))
  refine lv_aload_n hx hb d_ms_seal_42 rfl (lv_at hl 1 rfl) ?_
  refine va_get (D := D) (ci := 0) (v := .ref (ad 5)) (C := "MeasuredStages") (T := F_ms) (N := 12) hx hb hts (fun w h => List.mem_cons_of_mem _ (i_ms w h)) hown hK hP 0 rfl rfl 4 (by decide) (hT _ tb_73) (fun _ h9 => h9) rfl d_ms_seal_43 ?_
  refine lv_iload hx hb d_ms_seal_46 (lv_at hl 0 rfl) ?_
  refine lv_iload_n hx hb d_ms_seal_48 rfl (lv_at hl 2 rfl) ?_
  refine lv_aload_n hx hb d_ms_seal_49 rfl (lv_at hl 1 rfl) ?_
  refine va_get (D := D) (ci := 0) (v := .ref (ad 4)) (C := "MeasuredStages") (T := F_ms) (N := 12) hx hb hts (fun w h => List.mem_cons_of_mem _ (i_ms w h)) hown hK hP 0 rfl rfl 3 (by decide) (hT _ tb_72) (fun _ h9 => h9) rfl d_ms_seal_50 ?_
  refine lv_iload_n hx hb d_ms_seal_53 rfl (lv_at hl 2 rfl) ?_
  refine xw_rdl (v := sp_po u mask) (As := [.int mask]) (rest := [.int mask, .int (sp_lf (sg_ma u)), .ref (ad 5)]) ⟨hx, hb, hml, hown, hts⟩ (c_rg_policyOf l D cs ad _ u j mask) tb_300 tb_301 tb_302 tb_2 tb_303 ⟨rfl, hd_rg_policyOf⟩ ⟨Nat.le_of_ble_eq_true rfl, Nat.le_of_ble_eq_true rfl⟩ rfl rfl hK hP hD hN 4 1 rfl rfl hl.1 rfl (Nat.le_of_ble_eq_true rfl) d_ms_seal_54 ⟨Nat.zero_le _, Nat.zero_le _⟩ ?_
  refine lv_lload_n hx hb d_ms_seal_57 rfl (lv_at hl 3 rfl) ?_
  refine xw_wrv (u' := ss_se (ss_po (ss_ma u (upd (sg_ma u) (sp_lf (sg_ma u)).toNatClampNeg mask)) (vp_updL (sg_po u) (sp_lf (sg_ma u)).toNatClampNeg (sp_po u mask))) (vp_updL (sg_se u) (sp_lf (sg_ma u)).toNatClampNeg x)) (As := [.int (sp_lf (sg_ma u)), .int mask, .long (sp_po u mask), .long x]) (rest := []) ⟨hx, hb, hml, hown, hts⟩ (c_bl_fill l D cs ad _ u j (sp_lf (sg_ma u)) mask (sp_po u mask) x hk) tb_317 tb_318 tb_319 tb_3 tb_320 ⟨rfl, hd_bl_fill⟩ ⟨Nat.le_of_ble_eq_true rfl, Nat.le_of_ble_eq_true rfl⟩ rfl rfl hK hP hD hN 5 2 rfl rfl hl.1 rfl (Nat.le_of_ble_eq_true rfl) d_ms_seal_58 ⟨Nat.zero_le _, Nat.zero_le _⟩ hS hA (fun j1 H locs hj2 hP hD hS => ?_)
  obtain ⟨v3, ev3⟩ : ∃ z : Sg, z = ss_se (ss_po (ss_ma u (upd (sg_ma u) (sp_lf (sg_ma u)).toNatClampNeg mask)) (vp_updL (sg_po u) (sp_lf (sg_ma u)).toNatClampNeg (sp_po u mask))) (vp_updL (sg_se u) (sp_lf (sg_ma u)).toNatClampNeg x) := ⟨_, rfl⟩
  rw [← ev3] at hP hD
  rw [hj2] at hP hD
  refine lv_iload hx hb d_ms_seal_61 (lv_at hl 0 rfl) ?_
  subst ev3
  exact W.iret hx hb hret (fun t ht hW => ⟨⟨_, j, rfl, ⟨rfl, (by rfl)⟩, by rw [ht]; exact hP, va_K.moved hW.alike hK, hD⟩, hS.F ht⟩) hS.2.2 d_ms_seal_63
set_option maxHeartbeats 4000000 in
set_option maxRecDepth 100000 in
theorem k_ms_unseal (l : Launch) (D : va_G) (cs : Nat → ClassId) (ad : Nat → Nat) (sz : Nat) (u : Sg) (j : Jx) (k : Int32) (h0 : sp_tk (sg_ma u) k = 1) (h1 : sp_on u k = 1) : Met l y_ms_unseal (Cond.code y_ms_unseal b_ms_unseal 2 (some .long) :: TB) { frames := 7, cells := 0, slots := 0, locals := 200 } (va_Pc [.ref (ad 0), .int k] (xw_Pre D cs ad u j sz)) (vp_Sl (fun r => r = sg_se u k.toNatClampNeg)) 0 0 (fun _ => False) := by
  refine Met.ofW (cc := b_ms_unseal) (maxL := 2) (ret := (some .long)) (by decide) rfl ?_
  intro p e s m args below meth c s₁ B hml hv
  obtain ⟨rfl, hsz, hP, hK, hD, hN⟩ := hv
  have hx := B.exec
  have hb := B.bytes
  have hret := B.returns
  have hts := atoms_spec (ws := Cond.code y_ms_unseal b_ms_unseal 2 (some .long) :: TB) B.pre
  have hT : ∀ w ∈ TB, w.before _ s = true := fun w h => hts w (List.mem_cons_of_mem _ h)
  have hown : s.vm.findClass "MeasuredStages" = some m.cls := findClass_of_methodNamed B.named
  have hlocks := B.notSynchronized
  subst hsz
  have hl := lv_entry ([.ref (ad 0), .int k]) (n := 2) (Nat.le_of_ble_eq_true rfl)
  rw [lg_entry_eq]
  generalize (lg_sl ([.ref (ad 0), .int k]) ++ List.replicate (2 - (lg_sl ([.ref (ad 0), .int k])).length) Slot.unset).toArray = ls at hl ⊢
  have hl : lv_has ls 2 [(0, .ref (ad 0)), (1, .int k)] := hl
  refine lv_aload_n hx hb d_ms_unseal_0 rfl (lv_at hl 0 rfl) ?_
  refine va_get (D := D) (ci := 0) (v := .ref (ad 5)) (C := "MeasuredStages") (T := F_ms) (N := 12) hx hb hts (fun w h => List.mem_cons_of_mem _ (i_ms w h)) hown hK hP 0 rfl rfl 4 (by decide) (hT _ tb_73) (fun _ h9 => h9) rfl d_ms_unseal_1 ?_
  refine lv_iload_n hx hb d_ms_unseal_4 rfl (lv_at hl 1 rfl) ?_
  refine xw_rdi (v := sp_tk (sg_ma u) k) (As := [.int k]) (rest := []) ⟨hx, hb, hml, hown, hts⟩ (c_bl_isTaken l D cs ad _ u j k) tb_292 tb_293 tb_294 tb_3 tb_295 ⟨rfl, hd_bl_isTaken⟩ ⟨Nat.le_of_ble_eq_true rfl, Nat.le_of_ble_eq_true rfl⟩ rfl rfl hK hP hD hN 5 2 rfl rfl hl.1 rfl (Nat.le_of_ble_eq_true rfl) d_ms_unseal_5 ⟨Nat.zero_le _, Nat.zero_le _⟩ ?_
  refine lv_if_ne hx hb d_ms_unseal_8 (tgt := 21) (by decide) (fun _ => ?_) (fun z => absurd z (by rw [h0]; decide))
  refine lv_aload_n hx hb d_ms_unseal_21 rfl (lv_at hl 0 rfl) ?_
  refine lv_iload_n hx hb d_ms_unseal_22 rfl (lv_at hl 1 rfl) ?_
  refine xw_rdi (v := sp_on u k) (As := [.int k]) (rest := []) ⟨hx, hb, hml, hown, hts⟩ (c_ms_isOpen l D cs ad _ u j k (tk_vp h0)) tb_296 tb_298 sl_12 tb_1 tb_299 ⟨rfl, hd_ms_isOpen⟩ ⟨Nat.le_of_ble_eq_true rfl, Nat.le_of_ble_eq_true rfl⟩ rfl rfl hK hP hD hN 0 0 rfl rfl hl.1 rfl (Nat.le_of_ble_eq_true rfl) d_ms_unseal_23 ⟨Nat.zero_le _, Nat.zero_le _⟩ ?_
  refine lv_if_ne hx hb d_ms_unseal_26 (tgt := 39) (by decide) (fun _ => ?_) (fun z => absurd z (by rw [h1]; decide))
  refine lv_aload_n hx hb d_ms_unseal_39 rfl (lv_at hl 0 rfl) ?_
  refine va_get (D := D) (ci := 0) (v := .ref (ad 5)) (C := "MeasuredStages") (T := F_ms) (N := 12) hx hb hts (fun w h => List.mem_cons_of_mem _ (i_ms w h)) hown hK hP 0 rfl rfl 4 (by decide) (hT _ tb_73) (fun _ h9 => h9) rfl d_ms_unseal_40 ?_
  refine va_get (D := D) (ci := 2) (v := .ref (ad 14)) (C := "MeasuredStages$Blobs") (T := F_bl) (N := 3) hx hb hts (fun w h => List.mem_cons_of_mem _ (i_bl w h)) hown hK hP 5 rfl rfl 2 (by decide) (hT _ tb_61) (fun _ h9 => h9) rfl d_ms_unseal_43 ?_
  refine lv_iload_n hx hb d_ms_unseal_46 rfl (lv_at hl 1 rfl) ?_
  refine va_lald hx hb hK hP 14 11 rfl rfl (tk_vp h0) d_ms_unseal_47 ?_
  exact W.lret (v := sg_se u k.toNatClampNeg) hx hb hret (fun t ht hW => ⟨_, rfl, rfl, ht⟩) (fun q h => by cases h) d_ms_unseal_48
set_option maxHeartbeats 4000000 in
set_option maxRecDepth 100000 in
theorem k_ms_discard (l : Launch) (D : va_G) (cs : Nat → ClassId) (ad : Nat → Nat) (sz : Nat) (u : Sg) (j : Jx) (k : Int32) (h0 : sp_tk (sg_ma u) k = 1) : Met l y_ms_discard (Cond.code y_ms_discard b_ms_discard 2 none :: TB) { frames := 7, cells := 0, slots := 0, locals := 200 } (va_Pc [.ref (ad 0), .int k] (xw_Pre D cs ad u j sz)) (va_Qv (fun (j1 : Jx) => j1 = j) (fun (j1 : Jx) t => xw_B D cs ad (va_A (xw ad cs u j) sz) (ss_ma u (upd (sg_ma u) k.toNatClampNeg 0)) j1 t) (va_A (xw ad cs u j) sz)) 0 0 (va_A (xw ad cs u j) sz) := by
  refine Met.ofW (cc := b_ms_discard) (maxL := 2) (ret := none) (by decide) rfl ?_
  intro p e s m args below meth c s₁ B hml hv
  obtain ⟨rfl, hsz, hP, hK, hD, hN⟩ := hv
  have hx := B.exec
  have hb := B.bytes
  have hret := B.returns
  have hts := atoms_spec (ws := Cond.code y_ms_discard b_ms_discard 2 none :: TB) B.pre
  have hT : ∀ w ∈ TB, w.before _ s = true := fun w h => hts w (List.mem_cons_of_mem _ h)
  have hown : s.vm.findClass "MeasuredStages" = some m.cls := findClass_of_methodNamed B.named
  have hlocks := B.notSynchronized
  subst hsz
  have hD := hD.self (sz := s.heap.size)
  generalize hAe : va_A (xw ad cs u j) s.heap.size = A at hD ⊢
  have hA : ∀ q : Nat, s.heap.size ≤ q → A q := fun q h => by rw [← hAe]; exact Or.inr h
  have hS : va_S A s.heap s.heap [] := va_S.rf
  have hl := lv_entry ([.ref (ad 0), .int k]) (n := 2) (Nat.le_of_ble_eq_true rfl)
  rw [lg_entry_eq]
  generalize (lg_sl ([.ref (ad 0), .int k]) ++ List.replicate (2 - (lg_sl ([.ref (ad 0), .int k])).length) Slot.unset).toArray = ls at hl ⊢
  have hl : lv_has ls 2 [(0, .ref (ad 0)), (1, .int k)] := hl
  skip
  refine lv_aload_n hx hb d_ms_discard_0 rfl (lv_at hl 0 rfl) ?_
  refine va_get (D := D) (ci := 0) (v := .ref (ad 5)) (C := "MeasuredStages") (T := F_ms) (N := 12) hx hb hts (fun w h => List.mem_cons_of_mem _ (i_ms w h)) hown hK hP 0 rfl rfl 4 (by decide) (hT _ tb_73) (fun _ h9 => h9) rfl d_ms_discard_1 ?_
  refine lv_iload_n hx hb d_ms_discard_4 rfl (lv_at hl 1 rfl) ?_
  refine xw_rdi (v := sp_tk (sg_ma u) k) (As := [.int k]) (rest := []) ⟨hx, hb, hml, hown, hts⟩ (c_bl_isTaken l D cs ad _ u j k) tb_292 tb_293 tb_294 tb_3 tb_295 ⟨rfl, hd_bl_isTaken⟩ ⟨Nat.le_of_ble_eq_true rfl, Nat.le_of_ble_eq_true rfl⟩ rfl rfl hK hP hD hN 5 2 rfl rfl hl.1 rfl (Nat.le_of_ble_eq_true rfl) d_ms_discard_5 ⟨Nat.zero_le _, Nat.zero_le _⟩ ?_
  refine lv_if_ne hx hb d_ms_discard_8 (tgt := 21) (by decide) (fun _ => ?_) (fun z => absurd z (by rw [h0]; decide))
  refine lv_aload_n hx hb d_ms_discard_21 rfl (lv_at hl 0 rfl) ?_
  refine va_get (D := D) (ci := 0) (v := .ref (ad 5)) (C := "MeasuredStages") (T := F_ms) (N := 12) hx hb hts (fun w h => List.mem_cons_of_mem _ (i_ms w h)) hown hK hP 0 rfl rfl 4 (by decide) (hT _ tb_73) (fun _ h9 => h9) rfl d_ms_discard_22 ?_
  refine lv_iload_n hx hb d_ms_discard_25 rfl (lv_at hl 1 rfl) ?_
  refine xw_wrv (u' := ss_ma u (upd (sg_ma u) k.toNatClampNeg 0)) (As := [.int k]) (rest := []) ⟨hx, hb, hml, hown, hts⟩ (c_bl_free l D cs ad _ u j k (tk_vp h0)) tb_442 tb_443 tb_444 tb_3 tb_445 ⟨rfl, hd_bl_free⟩ ⟨Nat.le_of_ble_eq_true rfl, Nat.le_of_ble_eq_true rfl⟩ rfl rfl hK hP hD hN 5 2 rfl rfl hl.1 rfl (Nat.le_of_ble_eq_true rfl) d_ms_discard_26 ⟨Nat.zero_le _, Nat.zero_le _⟩ hS hA (fun j1 H locs hj2 hP hD hS => ?_)
  obtain ⟨v3, ev3⟩ : ∃ z : Sg, z = ss_ma u (upd (sg_ma u) k.toNatClampNeg 0) := ⟨_, rfl⟩
  rw [← ev3] at hP hD
  rw [hj2] at hP hD
  subst ev3
  exact W.vret hx hb hret (fun t ht hW => ⟨⟨j, rfl, (by rfl), by rw [ht]; exact hP, va_K.moved hW.alike hK, hD⟩, hS.F ht⟩) hS.2.2 d_ms_discard_29
set_option maxHeartbeats 4000000 in
set_option maxRecDepth 100000 in
theorem k_ms_quote (l : Launch) (D : va_G) (cs : Nat → ClassId) (ad : Nat → Nat) (sz : Nat) (u : Sg) (j : Jx) (a b : Int64) (mask : Int32) (hm : sp_mk mask = 1) : Met l y_ms_quote (Cond.code y_ms_quote b_ms_quote 6 (some .long) :: TB) { frames := 7, cells := 0, slots := 0, locals := 200 } (va_Pc [.ref (ad 0), .long a, .long b, .int mask] (xw_Pre D cs ad u j sz)) (vp_Sl (fun r => r = sp_h (sp_h a b) (sp_po u mask))) 0 0 (fun _ => False) := by
  refine Met.ofW (cc := b_ms_quote) (maxL := 6) (ret := (some .long)) (by decide) rfl ?_
  intro p e s m args below meth c s₁ B hml hv
  obtain ⟨rfl, hsz, hP, hK, hD, hN⟩ := hv
  have hx := B.exec
  have hb := B.bytes
  have hret := B.returns
  have hts := atoms_spec (ws := Cond.code y_ms_quote b_ms_quote 6 (some .long) :: TB) B.pre
  have hT : ∀ w ∈ TB, w.before _ s = true := fun w h => hts w (List.mem_cons_of_mem _ h)
  have hown : s.vm.findClass "MeasuredStages" = some m.cls := findClass_of_methodNamed B.named
  have hlocks := B.notSynchronized
  subst hsz
  have hl := lv_entry ([.ref (ad 0), .long a, .long b, .int mask]) (n := 6) (Nat.le_of_ble_eq_true rfl)
  rw [lg_entry_eq]
  generalize (lg_sl ([.ref (ad 0), .long a, .long b, .int mask]) ++ List.replicate (6 - (lg_sl ([.ref (ad 0), .long a, .long b, .int mask])).length) Slot.unset).toArray = ls at hl ⊢
  have hl : lv_has ls 6 [(0, .ref (ad 0)), (1, .long a), (3, .long b), (5, .int mask)] := hl
  refine lv_iload hx hb d_ms_quote_0 (lv_at hl 3 rfl) ?_
  refine st_i (v := sp_mk mask) (As := [.int mask]) (rest := []) ⟨hx, hb, hml, hown, hts⟩ (c_ms_isMask l mask) tb_421 tb_422 tb_1 tb_423 hd_ms_isMask ⟨Nat.le_of_ble_eq_true rfl, Nat.le_of_ble_eq_true rfl⟩ rfl rfl hl.1 rfl (Nat.le_of_ble_eq_true rfl) d_ms_quote_2 ⟨Nat.zero_le _, Nat.zero_le _⟩ ?_
  refine lv_if_ne hx hb d_ms_quote_5 (tgt := 18) (by decide) (fun _ => ?_) (fun z => absurd z (by rw [hm]; decide))
  refine lv_lload_n hx hb d_ms_quote_18 rfl (lv_at hl 1 rfl) ?_
  refine lv_lload_n hx hb d_ms_quote_19 rfl (lv_at hl 2 rfl) ?_
  refine st_l (v := sp_h a b) (As := [.long a, .long b]) (rest := []) ⟨hx, hb, hml, hown, hts⟩ (c_ms_hash l a b) tb_235 tb_138 tb_1 tb_139 hd_ms_hash ⟨Nat.le_of_ble_eq_true rfl, Nat.le_of_ble_eq_true rfl⟩ rfl rfl hl.1 rfl (Nat.le_of_ble_eq_true rfl) d_ms_quote_20 ⟨Nat.zero_le _, Nat.zero_le _⟩ ?_
  refine lv_aload_n hx hb d_ms_quote_23 rfl (lv_at hl 0 rfl) ?_
  refine va_get (D := D) (ci := 0) (v := .ref (ad 4)) (C := "MeasuredStages") (T := F_ms) (N := 12) hx hb hts (fun w h => List.mem_cons_of_mem _ (i_ms w h)) hown hK hP 0 rfl rfl 3 (by decide) (hT _ tb_72) (fun _ h9 => h9) rfl d_ms_quote_24 ?_
  refine lv_iload hx hb d_ms_quote_27 (lv_at hl 3 rfl) ?_
  refine xw_rdl (v := sp_po u mask) (As := [.int mask]) (rest := [.long (sp_h a b)]) ⟨hx, hb, hml, hown, hts⟩ (c_rg_policyOf l D cs ad _ u j mask) tb_300 tb_301 tb_302 tb_2 tb_303 ⟨rfl, hd_rg_policyOf⟩ ⟨Nat.le_of_ble_eq_true rfl, Nat.le_of_ble_eq_true rfl⟩ rfl rfl hK hP hD hN 4 1 rfl rfl hl.1 rfl (Nat.le_of_ble_eq_true rfl) d_ms_quote_29 ⟨Nat.zero_le _, Nat.zero_le _⟩ ?_
  refine st_l (v := sp_h (sp_h a b) (sp_po u mask)) (As := [.long (sp_h a b), .long (sp_po u mask)]) (rest := []) ⟨hx, hb, hml, hown, hts⟩ (c_ms_hash l (sp_h a b) (sp_po u mask)) tb_235 tb_138 tb_1 tb_139 hd_ms_hash ⟨Nat.le_of_ble_eq_true rfl, Nat.le_of_ble_eq_true rfl⟩ rfl rfl hl.1 rfl (Nat.le_of_ble_eq_true rfl) d_ms_quote_32 ⟨Nat.zero_le _, Nat.zero_le _⟩ ?_
  exact W.lret (v := sp_h (sp_h a b) (sp_po u mask)) hx hb hret (fun t ht hW => ⟨_, rfl, rfl, ht⟩) (fun q h => by cases h) d_ms_quote_35
end
section
theorem ac_9 (b : Bt) (c x y d : Int32) (h : 8 < c) : sp_ac b c x y d = b := by
  have n : ∀ z : Int32, z ≤ 8 → ¬ c = z := fun z hz e => by rw [e] at h; exact absurd h (Int32.not_lt.mpr hz)
  unfold sp_ac
  rw [if_neg (n 0 (by decide)), if_neg (n 1 (by decide)), if_neg (n 2 (by decide)), if_neg (n 4 (by decide)), if_neg (n 5 (by decide)), if_neg (n 6 (by decide)), if_neg (n 7 (by decide)), if_neg (n 8 (by decide))]
/-- two boots that agree in all that counts -/
def bq (b b' : Bt) : Prop := b.1 = b'.1 ∧ b.2.1 = b'.2.1 ∧ ∀ k : Nat, k ≤ b.2.1.toNatClampNeg → b.2.2.1 k = b'.2.2.1 k ∧ b.2.2.2 k = b'.2.2.2 k
theorem bq_c {b b' : Bt} (h : bq b b') : sp_c0 b = sp_c0 b' ∧ sp_c1 b = sp_c1 b' ∧ sp_c2 b = sp_c2 b' := by
  obtain ⟨h1, h2, h3⟩ := h
  obtain ⟨h4, h5⟩ := h3 _ (Nat.le_refl _)
  rw [h2] at h4 h5
  unfold sp_c0 sp_c1 sp_c2
  rw [h1, h2, h4, h5]
  exact ⟨rfl, rfl, rfl⟩
theorem bq_if {b b' : Bt} (h : bq b b') : sp_if b = sp_if b' := by
  obtain ⟨e0, e1, -⟩ := bq_c h
  unfold sp_if
  rw [e0, e1, h.1, h.2.1]
theorem bq_upd {f g : Nat → Int32} {n m : Nat} {x y : Int32} (h : ∀ k : Nat, k ≤ n → f k = g k) (e : x = y) : ∀ k : Nat, k ≤ n → upd f m x k = upd g m y k := by
  intro k hk
  by_cases z : k = m
  · rw [z, pk_us, pk_us, e]
  · rw [pk_un z, pk_un z, h k hk]
theorem bq_ac {u : Sg} {d : Int32} {R R' N N' : Nat → Int32} {c x y : Int32} (hd : vp_in d 6) (hc : c = 1 → ¬ d = 5) (hk : ∃ k : Nat, k < 16 ∧ c = nI k) (hR : ∀ k : Nat, k ≤ d.toNatClampNeg → R k = R' k) (hN : ∀ k : Nat, k ≤ d.toNatClampNeg → N k = N' k) : bq (sp_ac (u, d, R, N) c x y d) (sp_ac (u, d, R', N') c x y d) := by
  obtain ⟨k, hk, ek⟩ := hk
  have hb : ∀ v : Sg, bq (v, d, R, N) (v, d, R', N') := fun v => ⟨rfl, rfl, fun k h => ⟨hR k h, hN k h⟩⟩
  rcases (show k = 0 ∨ k = 1 ∨ k = 2 ∨ k = 3 ∨ k = 4 ∨ k = 5 ∨ k = 6 ∨ k = 7 ∨ k = 8 ∨ 8 < k by omega) with h | h | h | h | h | h | h | h | h | h
  · subst h
    rw [show c = 0 from ek, ac_0, ac_0]
    exact ⟨rfl, rfl, fun k h => ⟨hR k (Nat.le_trans h (de_d hd)), hN k (Nat.le_trans h (de_d hd))⟩⟩
  · subst h
    have h5 := hc ek
    rw [show c = 1 from ek, ac_1, ac_1]
    refine ⟨rfl, rfl, fun k h => ?_⟩
    have h : k ≤ (d + 1).toNatClampNeg := h
    show upd R (d + 1).toNatClampNeg (sp_rm x 8) k = upd R' (d + 1).toNatClampNeg (sp_rm x 8) k ∧ upd N (d + 1).toNatClampNeg 0 k = upd N' (d + 1).toNatClampNeg 0 k
    by_cases z : k = (d + 1).toNatClampNeg
    · rw [z, pk_us, pk_us, pk_us, pk_us]
      exact ⟨rfl, rfl⟩
    · rw [pk_un z, pk_un z, pk_un z, pk_un z]
      rw [de_c hd h5] at h z
      exact ⟨hR k (by omega), hN k (by omega)⟩
  · subst h
    rw [show c = 2 from ek, ac_2, ac_2]
    exact hb _
  · subst h
    rw [show c = 3 from ek, ac_3, ac_3]
    exact hb _
  · subst h
    rw [show c = 4 from ek, ac_4, ac_4]
    exact hb _
  · subst h
    rw [show c = 5 from ek, ac_5, ac_5]
    exact hb _
  · subst h
    rw [show c = 6 from ek, ac_6, ac_6]
    exact hb _
  · subst h
    rw [show c = 7 from ek, ac_7, ac_7]
    by_cases z : sg_ac u = 0
    · rw [if_pos z, if_pos z]
      exact ⟨rfl, rfl, fun k h => ⟨hR k h, bq_upd hN (congrArg (· + x) (hN _ (Nat.le_refl _))) k h⟩⟩
    · rw [if_neg z, if_neg z]
      exact hb u
  · subst h
    rw [show c = 8 from ek, ac_8, ac_8]
    exact hb _
  · rw [ac_9 _ _ _ _ _ (by rw [ek]; exact nI_lt (a := 8) h (by omega)), ac_9 _ _ _ _ _ (by rw [ek]; exact nI_lt (a := 8) h (by omega))]
    exact hb _
theorem bq_in {b b' : Bt} (hd : vp_in b.2.1 6) (hf : sp_if b = 0) (h : bq b b') : bq (sp_in b) (sp_in b') := by
  obtain ⟨e0, e1, e2⟩ := bq_c h
  have h5 : sp_c0 b = 1 → ¬ b.2.1 = 5 := fun hc z => by
    unfold sp_if at hf
    rw [hc, fo_1, if_pos z] at hf
    exact absurd hf (by decide)
  have hk : ∃ k : Nat, k < 16 ∧ sp_c0 b = nI k := sp_dg16 _ _
  unfold sp_in
  rw [← e0, ← e1, ← e2]
  obtain ⟨u, d, R, N⟩ := b
  obtain ⟨u', d', R', N'⟩ := b'
  obtain ⟨h1, h2, h3⟩ := h
  have h1 : u = u' := h1
  have h2 : d = d' := h2
  subst h1
  subst h2
  have h3 : ∀ k : Nat, k ≤ d.toNatClampNeg → R k = R' k ∧ N k = N' k := h3
  exact bq_ac hd h5 hk (fun k h => (h3 k h).1) (bq_upd (fun k h => (h3 k h).2) (congrArg (fun z : Int32 => z + 1 + sp_op (sp_c0 (u, d, R, N))) (h3 _ (Nat.le_refl _)).2))
theorem bq_rn : ∀ (n : Nat) (b b' : Bt), (vp_in b.2.1 6 ∨ b.2.1 = -1) → sp_ok b.1 → bq b b' → (sp_rn n b).1 = (sp_rn n b').1 := by
  intro n
  induction n with
  | zero => intro b b' _ _ h; exact h.1
  | succ n ih =>
    intro b b' hd hok h
    rcases hd with hd | hd
    · have hd' : vp_in b'.2.1 6 := by rw [← h.2.1]; exact hd
      by_cases hs : sg_st b.1 = 100
      · rw [rn_tired n b hd hs, rn_tired n b' hd' (by rw [← h.1]; exact hs)]
        show ss_fa b.1 3 = ss_fa b'.1 3
        rw [h.1]
      · have hs' : ¬ sg_st b'.1 = 100 := by rw [← h.1]; exact hs
        by_cases hf : sp_if b = 0
        · have hf' : sp_if b' = 0 := by rw [← bq_if h]; exact hf
          rw [rn_ok n b hd hs hf, rn_ok n b' hd' hs' hf']
          have hq := bq_in hd hf h
          have hi := in_keep hd hok hf
          refine ih _ _ hi.2.2.2.1 (ok_st hi.1) ⟨?_, hq.2.1, hq.2.2⟩
          show ss_st (sp_in b).1 (sg_st (sp_in b).1 + 1) = ss_st (sp_in b').1 (sg_st (sp_in b').1 + 1)
          rw [hq.1]
        · have hf' : ¬ sp_if b' = 0 := by rw [← bq_if h]; exact hf
          rw [rn_ft n b hd hs hf, rn_ft n b' hd' hs' hf']
          show ss_fa b.1 (sp_if b) = ss_fa b'.1 (sp_if b')
          rw [h.1, bq_if h]
    · rw [rn_end n b hd, rn_end n b' (by rw [← h.2.1]; exact hd)]
      exact h.1
theorem ok_cl {u : Sg} (h : sp_ok u) : sp_ok (sp_cl u) := ⟨⟨0, by decide, rfl⟩, h.2⟩
theorem en_cl (u : Sg) : sg_en (sp_cl u) = 0 := rfl
theorem z_in6 : vp_in 0 6 := by unfold vp_in; decide
theorem z_in32 : vp_in 0 32 := by unfold vp_in; decide
theorem ok_la0 {u : Sg} {b : Bt} {n : Int32} (h : sp_ok u) (hb : b.1 = sp_cl u) : sp_ok (sp_la b n 0).1 := by
  rw [la_1, hb]
  exact ok_la (sp_ok_no (ok_cl h) (nle32 (by rw [en_cl]; exact z_in32)) z_in6)
/-- which rows a boot starts with doesn't count -/
theorem bo_eq {u : Sg} {n d : Int32} {R N : Nat → Int32} (h : sp_ok u) : (sp_rn 101 (sp_la (sp_cl u, d, R, N) n 0)).1 = sp_bo u n := by
  refine bq_rn 101 _ _ (Or.inl z_in6) (ok_la0 h rfl) ⟨rfl, rfl, fun k hk => ?_⟩
  have hk : k ≤ 0 := hk
  have hk : k = 0 := by omega
  subst hk
  exact ⟨rfl, rfl⟩
theorem st_la0 (u : Sg) (n d : Int32) (R N : Nat → Int32) : sg_st (sp_la (sp_cl u, d, R, N) n 0).1 = nI 0 := rfl
theorem fa_la0 (u : Sg) (n d : Int32) (R N : Nat → Int32) : sg_fa (sp_la (sp_cl u, d, R, N) n 0).1 = 0 := rfl
theorem rn_keep : ∀ (n : Nat) (b : Bt), (vp_in b.2.1 6 ∨ b.2.1 = -1) → sp_ok b.1 → sp_ok (sp_rn n b).1 := by
  intro n
  induction n with
  | zero => intro b _ h; exact h
  | succ n ih =>
    intro b hd hok
    rcases hd with hd | hd
    · by_cases hs : sg_st b.1 = 100
      · rw [rn_tired n b hd hs]; exact ok_fa hok
      · by_cases hf : sp_if b = 0
        · rw [rn_ok n b hd hs hf]
          have hi := in_keep hd hok hf
          exact ih _ hi.2.2.2.1 (ok_st hi.1)
        · rw [rn_ft n b hd hs hf]; exact ok_fa hok
    · rw [rn_end n b hd]; exact hok
theorem ok_bo {u : Sg} {n : Int32} (h : sp_ok u) : sp_ok (sp_bo u n) := rn_keep 101 _ (Or.inl z_in6) (ok_la0 h rfl)
theorem xj_0 (u : Sg) (j : Jx) (n : Int32) : xj (sp_la (sp_cl u, 0, fun _ => 0, jx_nd j) n 0) (sx_de (sx_nd (sx_ru j (vp_updL (jx_ru j) (0 : Int32).toNatClampNeg (sg_im u n.toNatClampNeg))) (upd (jx_nd j) (0 : Int32).toNatClampNeg 0)) 0) := by
  refine ⟨rfl, rfl, fun k hk => ?_⟩
  have hk : k ≤ 0 := hk
  have hk : k = 0 := by omega
  subst hk
  rfl
theorem fn_no (v : Sg) (r : Int32) (x : Int64) : sp_no (ss_fa v 0) r x = ss_fa (sp_no v r x) 0 := rfl
theorem fn_di (v : Sg) (n : Int32) : sp_di (ss_fa v 0) n = sp_di v n := rfl
theorem fn_la (v : Sg) (x : Int32) : ss_la (ss_fa v 0) x = ss_fa (ss_la v x) 0 := rfl
theorem fn_gl (v : Sg) : sg_la (ss_fa v 0) = sg_la v := rfl
theorem fn_ss (w : Sg) : ss_fa w 0 = (sg_im w, sg_ap w, sg_ag w, sg_he w, sg_er w, sg_ev w, sg_en w, sg_ma w, sg_po w, sg_se w, sg_ac w, (0 : Int32), sg_la w, sg_st w) := rfl
theorem cl_run (v : Sg) (n : Int32) (w : Sg) (e : w = (fun v : Sg => ss_la v (sg_la v + 1)) (sp_no v 0 (sp_di v n))) : (sg_im w, sg_ap w, sg_ag w, sg_he w, sg_er w, sg_ev w, sg_en w, sg_ma w, sg_po w, sg_se w, sg_ac w, (0 : Int32), sg_la w, sg_st w) = (fun v : Sg => ss_la v (sg_la v + 1)) (sp_no (ss_fa v 0) 0 (sp_di (ss_fa v 0) n)) := by
  rw [fn_di, fn_no]
  show _ = ss_la (ss_fa (sp_no v 0 (sp_di v n)) 0) (sg_la (ss_fa (sp_no v 0 (sp_di v n)) 0) + 1)
  rw [fn_gl, fn_la, ← fn_ss]
  have e : w = ss_la (sp_no v 0 (sp_di v n)) (sg_la (sp_no v 0 (sp_di v n)) + 1) := e
  rw [e]
theorem cl_la (u : Sg) (n d : Int32) (R N : Nat → Int32) : (sp_la (sp_cl u, d, R, N) n 0).1 = (fun v : Sg => ss_la v (sg_la v + 1)) (sp_no (sp_cl u) 0 (sp_di (sp_cl u) n)) := rfl
theorem cl_fa (u : Sg) : ss_fa (ss_st (ss_la (ss_ac (ss_en (ss_he u (sp_z6 (sg_he u))) 0) 0) 0) 0) 0 = sp_cl u := rfl
end
section
theorem d_ms_boot_0 : decode b_ms_boot 0 = .ok (.iload_n 1, 1) := by decide +kernel
theorem d_ms_boot_1 : decode b_ms_boot 1 = .ok (.invokestatic 41, 3) := by decide +kernel
theorem d_ms_boot_4 : decode b_ms_boot 4 = .ok (.ifCond .ne 13, 3) := by decide +kernel
theorem d_ms_boot_7 : decode b_ms_boot 7 = .ok (.new 45, 3) := by decide +kernel
theorem d_ms_boot_10 : decode b_ms_boot 10 = .ok (.dup, 1) := by decide +kernel
theorem d_ms_boot_11 : decode b_ms_boot 11 = .ok (.ldc 47, 2) := by decide +kernel
theorem d_ms_boot_13 : decode b_ms_boot 13 = .ok (.invokespecial 49, 3) := by decide +kernel
theorem d_ms_boot_16 : decode b_ms_boot 16 = .ok (.athrow, 1) := by decide +kernel
theorem d_ms_boot_17 : decode b_ms_boot 17 = .ok (.aload_n 0, 1) := by decide +kernel
theorem d_ms_boot_18 : decode b_ms_boot 18 = .ok (.invokevirtual 56, 3) := by decide +kernel
theorem d_ms_boot_21 : decode b_ms_boot 21 = .ok (.aload_n 0, 1) := by decide +kernel
theorem d_ms_boot_22 : decode b_ms_boot 22 = .ok (.aload_n 0, 1) := by decide +kernel
theorem d_ms_boot_23 : decode b_ms_boot 23 = .ok (.iconst 0, 1) := by decide +kernel
theorem d_ms_boot_24 : decode b_ms_boot 24 = .ok (.iload_n 1, 1) := by decide +kernel
theorem d_ms_boot_25 : decode b_ms_boot 25 = .ok (.invokevirtual 59, 3) := by decide +kernel
theorem d_ms_boot_28 : decode b_ms_boot 28 = .ok (.putfield 63, 3) := by decide +kernel
theorem d_ms_boot_31 : decode b_ms_boot 31 = .ok (.aload_n 0, 1) := by decide +kernel
theorem d_ms_boot_32 : decode b_ms_boot 32 = .ok (.invokevirtual 67, 3) := by decide +kernel
theorem d_ms_boot_35 : decode b_ms_boot 35 = .ok (.aload_n 0, 1) := by decide +kernel
theorem d_ms_boot_36 : decode b_ms_boot 36 = .ok (.getfield 63, 3) := by decide +kernel
theorem d_ms_boot_39 : decode b_ms_boot 39 = .ok (.ifCond .eq 13, 3) := by decide +kernel
theorem d_ms_boot_42 : decode b_ms_boot 42 = .ok (.new 70, 3) := by decide +kernel
theorem d_ms_boot_45 : decode b_ms_boot 45 = .ok (.dup, 1) := by decide +kernel
theorem d_ms_boot_46 : decode b_ms_boot 46 = .ok (.ldc 72, 2) := by decide +kernel
theorem d_ms_boot_48 : decode b_ms_boot 48 = .ok (.invokespecial 74, 3) := by decide +kernel
theorem d_ms_boot_51 : decode b_ms_boot 51 = .ok (.athrow, 1) := by decide +kernel
theorem d_ms_boot_52 : decode b_ms_boot 52 = .ok (.aload_n 0, 1) := by decide +kernel
theorem d_ms_boot_53 : decode b_ms_boot 53 = .ok (.getfield 75, 3) := by decide +kernel
theorem d_ms_boot_56 : decode b_ms_boot 56 = .ok (.ireturn, 1) := by decide +kernel
set_option maxHeartbeats 4000000 in
set_option maxRecDepth 100000 in
theorem k_ms_boot (l : Launch) (D : va_G) (cs : Nat → ClassId) (ad : Nat → Nat) (sz : Nat) (u : Sg) (j : Jx) (n : Int32) (hok : sp_ok u) (hn : vp_in n 8) (hf : sg_fa (sp_bo u n) = 0) : Met l y_ms_boot (Cond.code y_ms_boot b_ms_boot 2 (some .int) :: TB) { frames := 8, cells := 0, slots := 0, locals := 220 } (va_Pc [.ref (ad 0), .int n] (xw_Pre D cs ad u j sz)) (va_Qi (fun (r : Int32) (j1 : Jx) => r = sg_la (sp_bo u n) ∧ True) (fun (j1 : Jx) t => xw_B D cs ad (va_A (xw ad cs u j) sz) (sp_bo u n) j1 t) (va_A (xw ad cs u j) sz)) 0 0 (va_A (xw ad cs u j) sz) := by
  refine Met.ofW (cc := b_ms_boot) (maxL := 2) (ret := (some .int)) (by decide) rfl ?_
  intro p e s m args below meth c s₁ B hml hv
  obtain ⟨rfl, hsz, hP, hK, hD, hN⟩ := hv
  have hx := B.exec
  have hb := B.bytes
  have hret := B.returns
  have hts := atoms_spec (ws := Cond.code y_ms_boot b_ms_boot 2 (some .int) :: TB) B.pre
  have hT : ∀ w ∈ TB, w.before _ s = true := fun w h => hts w (List.mem_cons_of_mem _ h)
  have hown : s.vm.findClass "MeasuredStages" = some m.cls := findClass_of_methodNamed B.named
  have hlocks := B.notSynchronized
  subst hsz
  have hD := hD.self (sz := s.heap.size)
  generalize hAe : va_A (xw ad cs u j) s.heap.size = A at hD ⊢
  have hA : ∀ q : Nat, s.heap.size ≤ q → A q := fun q h => by rw [← hAe]; exact Or.inr h
  have hS : va_S A s.heap s.heap [] := va_S.rf
  have hl := lv_entry ([.ref (ad 0), .int n]) (n := 2) (Nat.le_of_ble_eq_true rfl)
  rw [lg_entry_eq]
  generalize (lg_sl ([.ref (ad 0), .int n]) ++ List.replicate (2 - (lg_sl ([.ref (ad 0), .int n])).length) Slot.unset).toArray = ls at hl ⊢
  have hl : lv_has ls 2 [(0, .ref (ad 0)), (1, .int n)] := hl
  skip
  refine lv_iload_n hx hb d_ms_boot_0 rfl (lv_at hl 1 rfl) ?_
  refine st_i (v := sp_rg n 8) (As := [.int n]) (rest := []) ⟨hx, hb, hml, hown, hts⟩ (c_ms_isImage l n) tb_151 tb_152 tb_1 tb_153 hd_ms_isImage ⟨Nat.le_of_ble_eq_true rfl, Nat.le_of_ble_eq_true rfl⟩ rfl rfl hl.1 rfl (Nat.le_of_ble_eq_true rfl) d_ms_boot_1 ⟨Nat.zero_le _, Nat.zero_le _⟩ ?_
  refine lv_if_ne hx hb d_ms_boot_4 (tgt := 17) (by decide) (fun _ => ?_) (fun z => absurd z (rg8 hn))
  refine lv_aload_n hx hb d_ms_boot_17 rfl (lv_at hl 0 rfl) ?_
  refine xw_wrv (u' := ss_st (ss_la (ss_ac (ss_en (ss_he u (sp_z6 (sg_he u))) 0) 0) 0) 0) (As := []) (rest := []) ⟨hx, hb, hml, hown, hts⟩ (c_ms_clearForBoot l D cs ad _ u j ) tb_244 tb_246 sl_2 tb_1 tb_247 ⟨rfl, hd_ms_clearForBoot⟩ ⟨Nat.le_of_ble_eq_true rfl, Nat.le_of_ble_eq_true rfl⟩ rfl rfl hK hP hD hN 0 0 rfl rfl hl.1 rfl (Nat.le_of_ble_eq_true rfl) d_ms_boot_18 ⟨Nat.zero_le _, Nat.zero_le _⟩ hS hA (fun j1 H locs hj2 hP hD hS => ?_)
  obtain ⟨v3, ev3⟩ : ∃ z : Sg, z = ss_st (ss_la (ss_ac (ss_en (ss_he u (sp_z6 (sg_he u))) 0) 0) 0) 0 := ⟨_, rfl⟩
  rw [← ev3] at hP hD
  rw [hj2] at hP hD
  refine lv_aload_n hx hb d_ms_boot_21 rfl (lv_at hl 0 rfl) ?_
  refine lv_aload_n hx hb d_ms_boot_22 rfl (lv_at hl 0 rfl) ?_
  refine lv_iconst (v := 0) hx hb d_ms_boot_23 (by decide) ?_
  refine lv_iload_n hx hb d_ms_boot_24 rfl (lv_at hl 1 rfl) ?_
  refine xw_wri (v := 0) (u' := (fun v : Sg => ss_la v (sg_la v + 1)) (sp_no v3 (0) (sp_di v3 n))) (As := [.int (0), .int n]) (rest := [.ref (ad 0)]) ⟨hx, hb, hml, hown, hts⟩ (c_ms_launchAt l D cs ad _ v3 j 0 n z_in6 hn (by subst ev3; exact z_in32)) tb_252 tb_254 sl_3 tb_1 tb_255 ⟨rfl, hd_ms_launchAt⟩ ⟨Nat.le_of_ble_eq_true rfl, Nat.le_of_ble_eq_true rfl⟩ rfl rfl hK hP hD hN 0 0 rfl rfl hl.1 rfl (Nat.le_of_ble_eq_true rfl) d_ms_boot_25 ⟨Nat.zero_le _, Nat.zero_le _⟩ hS hA (fun j4 H locs hj5 hP hD hS => ?_)
  obtain ⟨v6, ev6⟩ : ∃ z : Sg, z = (fun v : Sg => ss_la v (sg_la v + 1)) (sp_no v3 (0) (sp_di v3 n)) := ⟨_, rfl⟩
  rw [← ev6] at hP hD
  refine va_put (D := D) (ci := 0) (v := .int (0)) (ty := .int) (C := "MeasuredStages") (T := F_ms) (N := 12) hx hb hts (fun w h => List.mem_cons_of_mem _ (i_ms w h)) t_ms o_ms n_ms hown hK hP hD hS 0 rfl rfl 9 (by decide) (hT _ tb_78) (fun _ h9 => h9) rfl (by decide +kernel) rfl rfl (Nat.le_of_ble_eq_true rfl) d_ms_boot_28 (fun H locs hP hD hS => ?_)
  have hP : va_P D cx (xv ad cs (sg_im v6) (sg_ap v6) (sg_ag v6) (sg_he v6) (sg_er v6) (sg_ev v6) (sg_en v6) (sg_ma v6) (sg_po v6) (sg_se v6) (sg_ac v6) (0) (sg_la v6) (sg_st v6) (jx_ru j4) (jx_nd j4) (jx_de j4) (jx_rp j4)) H := hP
  have hD : va_D A (xv ad cs (sg_im v6) (sg_ap v6) (sg_ag v6) (sg_he v6) (sg_er v6) (sg_ev v6) (sg_en v6) (sg_ma v6) (sg_po v6) (sg_se v6) (sg_ac v6) (0) (sg_la v6) (sg_st v6) (jx_ru j4) (jx_nd j4) (jx_de j4) (jx_rp j4)) := hD
  refine lv_aload_n hx hb d_ms_boot_31 rfl (lv_at hl 0 rfl) ?_
  obtain ⟨v7, ev7⟩ : ∃ z : Sg, z = (sg_im v6, sg_ap v6, sg_ag v6, sg_he v6, sg_er v6, sg_ev v6, sg_en v6, sg_ma v6, sg_po v6, sg_se v6, sg_ac v6, 0, sg_la v6, sg_st v6) := ⟨_, rfl⟩
  have hP : va_P D cx (xw ad cs v7 j4) H := by rw [ev7, xw_u]; exact hP
  have hD : va_D A (xw ad cs v7 j4) := by rw [ev7, xw_u]; exact hD
  refine xw_wrv (u' := (sp_rn 101 (sp_la (sp_cl u, 0, fun _ => 0, jx_nd j) n 0)).1) (As := []) (rest := []) ⟨hx, hb, hml, hown, hts⟩ (c_ms_runToTheEnd l D cs ad _ v7 j4  (sp_la (sp_cl u, 0, fun _ => 0, jx_nd j) n 0) (by rw [ev7, cl_run _ _ _ ev6, ev3, cl_fa, cl_la]) (by subst ev7; subst hj5; subst ev6; subst ev3; exact xj_0 u j n) (ok_la0 hok rfl) (fa_la0 _ _ _ _ _) (st_la0 _ _ _ _ _) (Or.inl z_in6)) tb_264 tb_266 sl_5 tb_1 tb_267 ⟨rfl, hd_ms_runToTheEnd⟩ ⟨Nat.le_of_ble_eq_true rfl, Nat.le_of_ble_eq_true rfl⟩ rfl rfl hK hP hD hN 0 0 rfl rfl hl.1 rfl (Nat.le_of_ble_eq_true rfl) d_ms_boot_32 ⟨Nat.zero_le _, Nat.zero_le _⟩ hS hA (fun j8 H locs hj9 hP hD hS => ?_)
  obtain ⟨v10, ev10⟩ : ∃ z : Sg, z = (sp_rn 101 (sp_la (sp_cl u, 0, fun _ => 0, jx_nd j) n 0)).1 := ⟨_, rfl⟩
  rw [← ev10] at hP hD
  have bov10 : v10 = sp_bo u n := ev10.trans (bo_eq hok)
  refine lv_aload_n hx hb d_ms_boot_35 rfl (lv_at hl 0 rfl) ?_
  refine va_get (D := D) (ci := 0) (v := .int (sg_fa v10)) (C := "MeasuredStages") (T := F_ms) (N := 12) hx hb hts (fun w h => List.mem_cons_of_mem _ (i_ms w h)) hown hK hP 0 rfl rfl 9 (by decide) (hT _ tb_78) (fun _ h9 => h9) rfl d_ms_boot_36 ?_
  have z9 : sg_fa v10 = 0 := by rw [bov10]; exact hf
  refine lv_if_eq hx hb d_ms_boot_39 (tgt := 52) (by decide) (fun _ => ?_) (fun z => absurd z9 z)
  refine lv_aload_n hx hb d_ms_boot_52 rfl (lv_at hl 0 rfl) ?_
  refine va_get (D := D) (ci := 0) (v := .int (sg_la v10)) (C := "MeasuredStages") (T := F_ms) (N := 12) hx hb hts (fun w h => List.mem_cons_of_mem _ (i_ms w h)) hown hK hP 0 rfl rfl 10 (by decide) (hT _ tb_79) (fun _ h9 => h9) rfl d_ms_boot_53 ?_
  rw [bov10] at hP hD ⊢
  exact W.iret hx hb hret (fun t ht hW => ⟨⟨_, j8, rfl, ⟨rfl, trivial⟩, by rw [ht]; exact hP, va_K.moved hW.alike hK, hD⟩, hS.F ht⟩) hS.2.2 d_ms_boot_56
end
section
/-- the boot that the model shows -/
def mb (u : Sg) (j : Jm) : Bt := (u, jm_de j, jm_ru j, jm_nx j)
theorem mb_eq {b : Bt} {j : Jm} (h1 : jm_de j = b.2.1) (h2 : jm_ru j = b.2.2.1) (h3 : jm_nx j = b.2.2.2) : mb b.1 j = b := by
  unfold mb
  rw [h1, h2, h3]
theorem up_self {f : Nat → Int32} {k : Nat} : upd f k (f k) = f := by
  funext i
  by_cases z : i = k
  · rw [z, pk_us]
  · rw [pk_un z]
theorem xn_le {n : Int32} {k : Nat} (hk : k + 1 < 2 ^ 31) (h : vp_in n (k + 1)) : n ≤ nI k := by
  obtain ⟨j, hj, rfl⟩ := vp_in_of h hk
  exact nI_le (by omega) (by omega)
theorem xn_nl {n : Int32} {k : Nat} (hk : k + 1 < 2 ^ 31) (h : ¬ vp_in n (k + 1)) (h1 : ¬ n < 0) : ¬ n ≤ nI k := by
  obtain ⟨j, hj, rfl⟩ := nI_of h1
  intro z
  rcases Nat.lt_or_ge k j with q | q
  · exact absurd (nI_lt q hj) (Int32.not_lt.mpr z)
  · exact h (vp_in_nI (by omega) hk)
theorem le7 {n : Int32} (h : vp_in n 8) : n ≤ 7 := xn_le (k := 7) (by decide) h
theorem le5 {n : Int32} (h : vp_in n 6) : n ≤ 5 := xn_le (k := 5) (by decide) h
theorem nl7 {n : Int32} (h : ¬ vp_in n 8) (h1 : ¬ n < 0) : ¬ n ≤ 7 := xn_nl (k := 7) (by decide) h h1
theorem nl5 {n : Int32} (h : ¬ vp_in n 6) (h1 : ¬ n < 0) : ¬ n ≤ 5 := xn_nl (k := 5) (by decide) h h1
theorem mk_1 {m : Int32} (h : sp_mk m = 1) : ¬ m < 1 ∧ m ≤ 63 := by
  unfold sp_mk at h
  by_cases a : m < 1
  · rw [if_pos a] at h; exact absurd h (by decide)
  rw [if_neg a] at h
  by_cases b : 63 < m
  · rw [if_pos b] at h; exact absurd h (by decide)
  exact ⟨a, Int32.not_lt.mp b⟩
theorem mk_0 {m : Int32} (h : sp_mk m = 0) (a : ¬ m < 1) : ¬ m ≤ 63 := by
  unfold sp_mk at h
  rw [if_neg a] at h
  by_cases b : 63 < m
  · exact Int32.not_le.mpr b
  · rw [if_neg b] at h; exact absurd h (by decide)
theorem rg_1 {k e : Int32} (h : sp_rg k e = 1) : ¬ k < 0 ∧ k < e := by
  unfold sp_rg at h
  by_cases a : k < 0
  · rw [if_pos a] at h; exact absurd h (by decide)
  rw [if_neg a] at h
  by_cases b : e ≤ k
  · rw [if_pos b] at h; exact absurd h (by decide)
  exact ⟨a, Int32.not_le.mp b⟩
theorem rg_0 {k e : Int32} (h : sp_rg k e = 0) (a : ¬ k < 0) : ¬ k < e := by
  unfold sp_rg at h
  rw [if_neg a] at h
  by_cases b : e ≤ k
  · exact Int32.not_lt.mpr b
  · rw [if_neg b] at h; exact absurd h (by decide)
theorem tk_0 {ma : Nat → Int32} {k : Int32} (h : sp_tk ma k = 0) (a : ¬ k < 0) (b : ¬ 8 ≤ k) : ma k.toNatClampNeg = 0 := by
  unfold sp_tk at h
  rw [if_neg a, if_neg b] at h
  by_cases c : ma k.toNatClampNeg = 0
  · exact c
  · rw [if_neg c] at h; exact absurd h (by decide)
theorem tk_1 {ma : Nat → Int32} {k : Int32} (h : sp_tk ma k = 1) : ¬ ma k.toNatClampNeg = 0 := by
  intro c
  rw [tk_in (tk_vp h), if_pos c] at h
  exact absurd h (by decide)
theorem on_1 {u : Sg} {k : Int32} (h : sp_on u k = 1) : sg_po u k.toNatClampNeg = sp_po u (sg_ma u k.toNatClampNeg) := by
  unfold sp_on at h
  by_cases c : sg_po u k.toNatClampNeg = sp_po u (sg_ma u k.toNatClampNeg)
  · exact c
  · rw [if_neg c] at h; exact absurd h (by decide)
theorem on_0 {u : Sg} {k : Int32} (h : sp_on u k = 0) : ¬ sg_po u k.toNatClampNeg = sp_po u (sg_ma u k.toNatClampNeg) := by
  unfold sp_on at h
  by_cases c : sg_po u k.toNatClampNeg = sp_po u (sg_ma u k.toNatClampNeg)
  · rw [if_pos c] at h; exact absurd h (by decide)
  · exact c
theorem n32 {u : Sg} (h : vp_in (sg_en u) 32) : ¬ sg_en u = 32 := fun z => nle32 h (by rw [z]; decide)
theorem ac_rows {u : Sg} {d : Int32} {R N : Nat → Int32} {c x y : Int32} (hd : vp_in d 6) (hc : c = 1 → ¬ d = 5) (h8 : vp_in (sp_rm x 8) 8) (hk : ∃ k : Nat, k < 16 ∧ c = nI k) (hR : ∀ k : Nat, k ≤ d.toNatClampNeg → vp_in (R k) 8) : ∀ k : Nat, k ≤ (sp_ac (u, d, R, N) c x y d).2.1.toNatClampNeg → vp_in ((sp_ac (u, d, R, N) c x y d).2.2.1 k) 8 := by
  obtain ⟨k, hk, ek⟩ := hk
  rcases (show k = 0 ∨ k = 1 ∨ k = 2 ∨ k = 3 ∨ k = 4 ∨ k = 5 ∨ k = 6 ∨ k = 7 ∨ k = 8 ∨ 8 < k by omega) with h | h | h | h | h | h | h | h | h | h
  · subst h
    rw [show c = 0 from ek, ac_0]
    exact fun k h => hR k (Nat.le_trans h (de_d hd))
  · subst h
    have h5 := hc ek
    rw [show c = 1 from ek, ac_1]
    intro k h
    have h : k ≤ (d + 1).toNatClampNeg := h
    show vp_in (upd R (d + 1).toNatClampNeg (sp_rm x 8) k) 8
    by_cases z : k = (d + 1).toNatClampNeg
    · rw [z, pk_us]
      exact h8
    · rw [pk_un z]
      rw [de_c hd h5] at h z
      exact hR k (by omega)
  · subst h
    rw [show c = 2 from ek, ac_2]
    exact hR
  · subst h
    rw [show c = 3 from ek, ac_3]
    exact hR
  · subst h
    rw [show c = 4 from ek, ac_4]
    exact hR
  · subst h
    rw [show c = 5 from ek, ac_5]
    exact hR
  · subst h
    rw [show c = 6 from ek, ac_6]
    exact hR
  · subst h
    rw [show c = 7 from ek, ac_7]
    exact hR
  · subst h
    rw [show c = 8 from ek, ac_8]
    exact hR
  · rw [ac_9 _ _ _ _ _ (by rw [ek]; exact nI_lt (a := 8) h (by omega))]
    exact hR
theorem in_rows {b : Bt} (hd : vp_in b.2.1 6) (hf : sp_if b = 0) (hR : ∀ k : Nat, k ≤ b.2.1.toNatClampNeg → vp_in (b.2.2.1 k) 8) : ∀ k : Nat, k ≤ (sp_in b).2.1.toNatClampNeg → vp_in ((sp_in b).2.2.1 k) 8 := by
  have h5 : sp_c0 b = 1 → ¬ b.2.1 = 5 := fun hc z => by
    unfold sp_if at hf
    rw [hc, fo_1, if_pos z] at hf
    exact absurd hf (by decide)
  exact ac_rows hd h5 (sp_rd8 _ _) (sp_dg16 _ _) hR
theorem d_md_note_0 : decode b_md_note 0 = .ok (.aload_n 0, 1) := by decide +kernel
theorem d_md_note_1 : decode b_md_note 1 = .ok (.getfield 68, 3) := by decide +kernel
theorem d_md_note_4 : decode b_md_note 4 = .ok (.bipush 32, 2) := by decide +kernel
theorem d_md_note_6 : decode b_md_note 6 = .ok (.if_icmp .ne 5, 3) := by decide +kernel
theorem d_md_note_9 : decode b_md_note 9 = .ok (.iconst 0, 1) := by decide +kernel
theorem d_md_note_10 : decode b_md_note 10 = .ok (.ireturn, 1) := by decide +kernel
theorem d_md_note_11 : decode b_md_note 11 = .ok (.aload_n 0, 1) := by decide +kernel
theorem d_md_note_12 : decode b_md_note 12 = .ok (.getfield 7, 3) := by decide +kernel
theorem d_md_note_15 : decode b_md_note 15 = .ok (.iload_n 1, 1) := by decide +kernel
theorem d_md_note_16 : decode b_md_note 16 = .ok (.aload_n 0, 1) := by decide +kernel
theorem d_md_note_17 : decode b_md_note 17 = .ok (.getfield 7, 3) := by decide +kernel
theorem d_md_note_20 : decode b_md_note 20 = .ok (.iload_n 1, 1) := by decide +kernel
theorem d_md_note_21 : decode b_md_note 21 = .ok (.laload, 1) := by decide +kernel
theorem d_md_note_22 : decode b_md_note 22 = .ok (.lload_n 2, 1) := by decide +kernel
theorem d_md_note_23 : decode b_md_note 23 = .ok (.invokestatic 62, 3) := by decide +kernel
theorem d_md_note_26 : decode b_md_note 26 = .ok (.lastore, 1) := by decide +kernel
theorem d_md_note_27 : decode b_md_note 27 = .ok (.aload_n 0, 1) := by decide +kernel
theorem d_md_note_28 : decode b_md_note 28 = .ok (.getfield 33, 3) := by decide +kernel
theorem d_md_note_31 : decode b_md_note 31 = .ok (.aload_n 0, 1) := by decide +kernel
theorem d_md_note_32 : decode b_md_note 32 = .ok (.getfield 68, 3) := by decide +kernel
theorem d_md_note_35 : decode b_md_note 35 = .ok (.iload_n 1, 1) := by decide +kernel
theorem d_md_note_36 : decode b_md_note 36 = .ok (.iastore, 1) := by decide +kernel
theorem d_md_note_37 : decode b_md_note 37 = .ok (.aload_n 0, 1) := by decide +kernel
theorem d_md_note_38 : decode b_md_note 38 = .ok (.getfield 36, 3) := by decide +kernel
theorem d_md_note_41 : decode b_md_note 41 = .ok (.aload_n 0, 1) := by decide +kernel
theorem d_md_note_42 : decode b_md_note 42 = .ok (.getfield 68, 3) := by decide +kernel
theorem d_md_note_45 : decode b_md_note 45 = .ok (.lload_n 2, 1) := by decide +kernel
theorem d_md_note_46 : decode b_md_note 46 = .ok (.lastore, 1) := by decide +kernel
theorem d_md_note_47 : decode b_md_note 47 = .ok (.aload_n 0, 1) := by decide +kernel
theorem d_md_note_48 : decode b_md_note 48 = .ok (.dup, 1) := by decide +kernel
theorem d_md_note_49 : decode b_md_note 49 = .ok (.getfield 68, 3) := by decide +kernel
theorem d_md_note_52 : decode b_md_note 52 = .ok (.iconst 1, 1) := by decide +kernel
theorem d_md_note_53 : decode b_md_note 53 = .ok (.iadd, 1) := by decide +kernel
theorem d_md_note_54 : decode b_md_note 54 = .ok (.putfield 68, 3) := by decide +kernel
theorem d_md_note_57 : decode b_md_note 57 = .ok (.iconst 1, 1) := by decide +kernel
theorem d_md_note_58 : decode b_md_note 58 = .ok (.ireturn, 1) := by decide +kernel
theorem d_md_fill_0 : decode b_md_fill 0 = .ok (.aload_n 0, 1) := by decide +kernel
theorem d_md_fill_1 : decode b_md_fill 1 = .ok (.getfield 27, 3) := by decide +kernel
theorem d_md_fill_4 : decode b_md_fill 4 = .ok (.iload_n 1, 1) := by decide +kernel
theorem d_md_fill_5 : decode b_md_fill 5 = .ok (.aload_n 0, 1) := by decide +kernel
theorem d_md_fill_6 : decode b_md_fill 6 = .ok (.iload_n 2, 1) := by decide +kernel
theorem d_md_fill_7 : decode b_md_fill 7 = .ok (.invokevirtual 71, 3) := by decide +kernel
theorem d_md_fill_10 : decode b_md_fill 10 = .ok (.lastore, 1) := by decide +kernel
theorem d_md_fill_11 : decode b_md_fill 11 = .ok (.aload_n 0, 1) := by decide +kernel
theorem d_md_fill_12 : decode b_md_fill 12 = .ok (.getfield 23, 3) := by decide +kernel
theorem d_md_fill_15 : decode b_md_fill 15 = .ok (.iload_n 1, 1) := by decide +kernel
theorem d_md_fill_16 : decode b_md_fill 16 = .ok (.iload_n 2, 1) := by decide +kernel
theorem d_md_fill_17 : decode b_md_fill 17 = .ok (.iastore, 1) := by decide +kernel
theorem d_md_fill_18 : decode b_md_fill 18 = .ok (.aload_n 0, 1) := by decide +kernel
theorem d_md_fill_19 : decode b_md_fill 19 = .ok (.getfield 30, 3) := by decide +kernel
theorem d_md_fill_22 : decode b_md_fill 22 = .ok (.iload_n 1, 1) := by decide +kernel
theorem d_md_fill_23 : decode b_md_fill 23 = .ok (.lload_n 3, 1) := by decide +kernel
theorem d_md_fill_24 : decode b_md_fill 24 = .ok (.lastore, 1) := by decide +kernel
theorem d_md_fill_25 : decode b_md_fill 25 = .ok (.return_, 1) := by decide +kernel
theorem d_md_launch_0 : decode b_md_launch 0 = .ok (.aload_n 0, 1) := by decide +kernel
theorem d_md_launch_1 : decode b_md_launch 1 = .ok (.iload_n 2, 1) := by decide +kernel
theorem d_md_launch_2 : decode b_md_launch 2 = .ok (.aload_n 0, 1) := by decide +kernel
theorem d_md_launch_3 : decode b_md_launch 3 = .ok (.iload_n 1, 1) := by decide +kernel
theorem d_md_launch_4 : decode b_md_launch 4 = .ok (.invokevirtual 75, 3) := by decide +kernel
theorem d_md_launch_7 : decode b_md_launch 7 = .ok (.invokevirtual 78, 3) := by decide +kernel
theorem d_md_launch_10 : decode b_md_launch 10 = .ok (.ifCond .ne 5, 3) := by decide +kernel
theorem d_md_launch_13 : decode b_md_launch 13 = .ok (.iconst 0, 1) := by decide +kernel
theorem d_md_launch_14 : decode b_md_launch 14 = .ok (.ireturn, 1) := by decide +kernel
theorem d_md_launch_15 : decode b_md_launch 15 = .ok (.aload_n 0, 1) := by decide +kernel
theorem d_md_launch_16 : decode b_md_launch 16 = .ok (.dup, 1) := by decide +kernel
theorem d_md_launch_17 : decode b_md_launch 17 = .ok (.getfield 82, 3) := by decide +kernel
theorem d_md_launch_20 : decode b_md_launch 20 = .ok (.iconst 1, 1) := by decide +kernel
theorem d_md_launch_21 : decode b_md_launch 21 = .ok (.iadd, 1) := by decide +kernel
theorem d_md_launch_22 : decode b_md_launch 22 = .ok (.putfield 82, 3) := by decide +kernel
theorem d_md_launch_25 : decode b_md_launch 25 = .ok (.aload_n 0, 1) := by decide +kernel
theorem d_md_launch_26 : decode b_md_launch 26 = .ok (.iload_n 2, 1) := by decide +kernel
theorem d_md_launch_27 : decode b_md_launch 27 = .ok (.putfield 85, 3) := by decide +kernel
theorem d_md_launch_30 : decode b_md_launch 30 = .ok (.aload_n 0, 1) := by decide +kernel
theorem d_md_launch_31 : decode b_md_launch 31 = .ok (.getfield 42, 3) := by decide +kernel
theorem d_md_launch_34 : decode b_md_launch 34 = .ok (.iload_n 2, 1) := by decide +kernel
theorem d_md_launch_35 : decode b_md_launch 35 = .ok (.iload_n 1, 1) := by decide +kernel
theorem d_md_launch_36 : decode b_md_launch 36 = .ok (.iastore, 1) := by decide +kernel
theorem d_md_launch_37 : decode b_md_launch 37 = .ok (.aload_n 0, 1) := by decide +kernel
theorem d_md_launch_38 : decode b_md_launch 38 = .ok (.getfield 45, 3) := by decide +kernel
theorem d_md_launch_41 : decode b_md_launch 41 = .ok (.iload_n 2, 1) := by decide +kernel
theorem d_md_launch_42 : decode b_md_launch 42 = .ok (.iconst 0, 1) := by decide +kernel
theorem d_md_launch_43 : decode b_md_launch 43 = .ok (.iastore, 1) := by decide +kernel
theorem d_md_launch_44 : decode b_md_launch 44 = .ok (.iconst 1, 1) := by decide +kernel
theorem d_md_launch_45 : decode b_md_launch 45 = .ok (.ireturn, 1) := by decide +kernel
theorem d_md_act_0 : decode b_md_act 0 = .ok (.iconst 1, 1) := by decide +kernel
theorem d_md_act_1 : decode b_md_act 1 = .ok (.istore 5, 2) := by decide +kernel
theorem d_md_act_3 : decode b_md_act 3 = .ok (.iload_n 1, 1) := by decide +kernel
theorem d_md_act_4 : decode b_md_act 4 = .ok (.tableswitch 200 0 8 #[52, 63, 80, 200, 95, 111, 127, 144, 182], 52) := by decide +kernel
theorem d_md_act_56 : decode b_md_act 56 = .ok (.aload_n 0, 1) := by decide +kernel
theorem d_md_act_57 : decode b_md_act 57 = .ok (.iload 4, 2) := by decide +kernel
theorem d_md_act_59 : decode b_md_act 59 = .ok (.iconst 1, 1) := by decide +kernel
theorem d_md_act_60 : decode b_md_act 60 = .ok (.isub, 1) := by decide +kernel
theorem d_md_act_61 : decode b_md_act 61 = .ok (.putfield 85, 3) := by decide +kernel
theorem d_md_act_64 : decode b_md_act 64 = .ok (.goto 140, 3) := by decide +kernel
theorem d_md_act_67 : decode b_md_act 67 = .ok (.aload_n 0, 1) := by decide +kernel
theorem d_md_act_68 : decode b_md_act 68 = .ok (.iload_n 2, 1) := by decide +kernel
theorem d_md_act_69 : decode b_md_act 69 = .ok (.bipush 8, 2) := by decide +kernel
theorem d_md_act_71 : decode b_md_act 71 = .ok (.irem, 1) := by decide +kernel
theorem d_md_act_72 : decode b_md_act 72 = .ok (.iload 4, 2) := by decide +kernel
theorem d_md_act_74 : decode b_md_act 74 = .ok (.iconst 1, 1) := by decide +kernel
theorem d_md_act_75 : decode b_md_act 75 = .ok (.iadd, 1) := by decide +kernel
theorem d_md_act_76 : decode b_md_act 76 = .ok (.invokevirtual 98, 3) := by decide +kernel
theorem d_md_act_79 : decode b_md_act 79 = .ok (.istore 5, 2) := by decide +kernel
theorem d_md_act_81 : decode b_md_act 81 = .ok (.goto 123, 3) := by decide +kernel
theorem d_md_act_84 : decode b_md_act 84 = .ok (.aload_n 0, 1) := by decide +kernel
theorem d_md_act_85 : decode b_md_act 85 = .ok (.iload_n 2, 1) := by decide +kernel
theorem d_md_act_86 : decode b_md_act 86 = .ok (.bipush 6, 2) := by decide +kernel
theorem d_md_act_88 : decode b_md_act 88 = .ok (.irem, 1) := by decide +kernel
theorem d_md_act_89 : decode b_md_act 89 = .ok (.iload_n 3, 1) := by decide +kernel
theorem d_md_act_90 : decode b_md_act 90 = .ok (.i2l, 1) := by decide +kernel
theorem d_md_act_91 : decode b_md_act 91 = .ok (.invokevirtual 78, 3) := by decide +kernel
theorem d_md_act_94 : decode b_md_act 94 = .ok (.istore 5, 2) := by decide +kernel
theorem d_md_act_96 : decode b_md_act 96 = .ok (.goto 108, 3) := by decide +kernel
theorem d_md_act_99 : decode b_md_act 99 = .ok (.aload_n 0, 1) := by decide +kernel
theorem d_md_act_100 : decode b_md_act 100 = .ok (.aload_n 0, 1) := by decide +kernel
theorem d_md_act_101 : decode b_md_act 101 = .ok (.getfield 30, 3) := by decide +kernel
theorem d_md_act_104 : decode b_md_act 104 = .ok (.iload_n 2, 1) := by decide +kernel
theorem d_md_act_105 : decode b_md_act 105 = .ok (.bipush 8, 2) := by decide +kernel
theorem d_md_act_107 : decode b_md_act 107 = .ok (.irem, 1) := by decide +kernel
theorem d_md_act_108 : decode b_md_act 108 = .ok (.laload, 1) := by decide +kernel
theorem d_md_act_109 : decode b_md_act 109 = .ok (.putfield 88, 3) := by decide +kernel
theorem d_md_act_112 : decode b_md_act 112 = .ok (.goto 92, 3) := by decide +kernel
theorem d_md_act_115 : decode b_md_act 115 = .ok (.aload_n 0, 1) := by decide +kernel
theorem d_md_act_116 : decode b_md_act 116 = .ok (.aload_n 0, 1) := by decide +kernel
theorem d_md_act_117 : decode b_md_act 117 = .ok (.getfield 88, 3) := by decide +kernel
theorem d_md_act_120 : decode b_md_act 120 = .ok (.iload_n 2, 1) := by decide +kernel
theorem d_md_act_121 : decode b_md_act 121 = .ok (.i2l, 1) := by decide +kernel
theorem d_md_act_122 : decode b_md_act 122 = .ok (.invokestatic 62, 3) := by decide +kernel
theorem d_md_act_125 : decode b_md_act 125 = .ok (.putfield 88, 3) := by decide +kernel
theorem d_md_act_128 : decode b_md_act 128 = .ok (.goto 76, 3) := by decide +kernel
theorem d_md_act_131 : decode b_md_act 131 = .ok (.aload_n 0, 1) := by decide +kernel
theorem d_md_act_132 : decode b_md_act 132 = .ok (.iload_n 2, 1) := by decide +kernel
theorem d_md_act_133 : decode b_md_act 133 = .ok (.bipush 6, 2) := by decide +kernel
theorem d_md_act_135 : decode b_md_act 135 = .ok (.irem, 1) := by decide +kernel
theorem d_md_act_136 : decode b_md_act 136 = .ok (.aload_n 0, 1) := by decide +kernel
theorem d_md_act_137 : decode b_md_act 137 = .ok (.getfield 88, 3) := by decide +kernel
theorem d_md_act_140 : decode b_md_act 140 = .ok (.invokevirtual 78, 3) := by decide +kernel
theorem d_md_act_143 : decode b_md_act 143 = .ok (.istore 5, 2) := by decide +kernel
theorem d_md_act_145 : decode b_md_act 145 = .ok (.goto 59, 3) := by decide +kernel
theorem d_md_act_148 : decode b_md_act 148 = .ok (.aload_n 0, 1) := by decide +kernel
theorem d_md_act_149 : decode b_md_act 149 = .ok (.getfield 45, 3) := by decide +kernel
theorem d_md_act_152 : decode b_md_act 152 = .ok (.iload 4, 2) := by decide +kernel
theorem d_md_act_154 : decode b_md_act 154 = .ok (.aload_n 0, 1) := by decide +kernel
theorem d_md_act_155 : decode b_md_act 155 = .ok (.getfield 88, 3) := by decide +kernel
theorem d_md_act_158 : decode b_md_act 158 = .ok (.lconst 0, 1) := by decide +kernel
theorem d_md_act_159 : decode b_md_act 159 = .ok (.lcmp, 1) := by decide +kernel
theorem d_md_act_160 : decode b_md_act 160 = .ok (.ifCond .ne 15, 3) := by decide +kernel
theorem d_md_act_163 : decode b_md_act 163 = .ok (.aload_n 0, 1) := by decide +kernel
theorem d_md_act_164 : decode b_md_act 164 = .ok (.getfield 45, 3) := by decide +kernel
theorem d_md_act_167 : decode b_md_act 167 = .ok (.iload 4, 2) := by decide +kernel
theorem d_md_act_169 : decode b_md_act 169 = .ok (.iaload, 1) := by decide +kernel
theorem d_md_act_170 : decode b_md_act 170 = .ok (.iload_n 2, 1) := by decide +kernel
theorem d_md_act_171 : decode b_md_act 171 = .ok (.iadd, 1) := by decide +kernel
theorem d_md_act_172 : decode b_md_act 172 = .ok (.goto 10, 3) := by decide +kernel
theorem d_md_act_175 : decode b_md_act 175 = .ok (.aload_n 0, 1) := by decide +kernel
theorem d_md_act_176 : decode b_md_act 176 = .ok (.getfield 45, 3) := by decide +kernel
theorem d_md_act_179 : decode b_md_act 179 = .ok (.iload 4, 2) := by decide +kernel
theorem d_md_act_181 : decode b_md_act 181 = .ok (.iaload, 1) := by decide +kernel
theorem d_md_act_182 : decode b_md_act 182 = .ok (.iastore, 1) := by decide +kernel
theorem d_md_act_183 : decode b_md_act 183 = .ok (.goto 21, 3) := by decide +kernel
theorem d_md_act_186 : decode b_md_act 186 = .ok (.aload_n 0, 1) := by decide +kernel
theorem d_md_act_187 : decode b_md_act 187 = .ok (.aload_n 0, 1) := by decide +kernel
theorem d_md_act_188 : decode b_md_act 188 = .ok (.invokevirtual 122, 3) := by decide +kernel
theorem d_md_act_191 : decode b_md_act 191 = .ok (.iload_n 2, 1) := by decide +kernel
theorem d_md_act_192 : decode b_md_act 192 = .ok (.iconst 1, 1) := by decide +kernel
theorem d_md_act_193 : decode b_md_act 193 = .ok (.iadd, 1) := by decide +kernel
theorem d_md_act_194 : decode b_md_act 194 = .ok (.aload_n 0, 1) := by decide +kernel
theorem d_md_act_195 : decode b_md_act 195 = .ok (.getfield 88, 3) := by decide +kernel
theorem d_md_act_198 : decode b_md_act 198 = .ok (.invokevirtual 125, 3) := by decide +kernel
theorem d_md_act_201 : decode b_md_act 201 = .ok (.goto 3, 3) := by decide +kernel
theorem d_md_act_204 : decode b_md_act 204 = .ok (.aload_n 0, 1) := by decide +kernel
theorem d_md_act_205 : decode b_md_act 205 = .ok (.iload 5, 2) := by decide +kernel
theorem d_md_act_207 : decode b_md_act 207 = .ok (.ifCond .eq 10, 3) := by decide +kernel
theorem d_md_act_210 : decode b_md_act 210 = .ok (.aload_n 0, 1) := by decide +kernel
theorem d_md_act_211 : decode b_md_act 211 = .ok (.getfield 95, 3) := by decide +kernel
theorem d_md_act_214 : decode b_md_act 214 = .ok (.goto 4, 3) := by decide +kernel
theorem d_md_act_217 : decode b_md_act 217 = .ok (.iconst 4, 1) := by decide +kernel
theorem d_md_act_218 : decode b_md_act 218 = .ok (.putfield 95, 3) := by decide +kernel
theorem d_md_act_221 : decode b_md_act 221 = .ok (.return_, 1) := by decide +kernel
set_option maxHeartbeats 4000000 in
set_option maxRecDepth 100000 in
theorem c_md_note (l : Launch) (D : va_G) (cs : Nat → ClassId) (ad : Nat → Nat) (sz : Nat) (u : Sg) (j : Jm) (r : Int32) (v : Int64) (hr : vp_in r 6) (he : vp_in (sg_en u) 32) : Met l y_md_note (Cond.code y_md_note b_md_note 4 (some .boolean) :: TB) { frames := 1, cells := 0, slots := 0, locals := 25 } (va_Pc [.ref (ad 0), .int r, .long v] (mw_Pre D cs ad u j sz)) (va_Qi (fun (r : Int32) (j1 : Jm) => r = 1 ∧ j1 = j) (fun (j1 : Jm) t => mw_B D cs ad (va_A (mw ad cs u j) sz) (sp_no u r v) j1 t) (va_A (mw ad cs u j) sz)) 0 0 (va_A (mw ad cs u j) sz) := by
  refine Met.ofW (cc := b_md_note) (maxL := 4) (ret := (some .boolean)) (by decide) rfl ?_
  intro p e s m args below meth c s₁ B hml hv
  obtain ⟨rfl, hsz, hP, hK, hD, hN⟩ := hv
  have hx := B.exec
  have hb := B.bytes
  have hret := B.returns
  have hts := atoms_spec (ws := Cond.code y_md_note b_md_note 4 (some .boolean) :: TB) B.pre
  have hT : ∀ w ∈ TB, w.before _ s = true := fun w h => hts w (List.mem_cons_of_mem _ h)
  have hown : s.vm.findClass "MeasuredStagesModel" = some m.cls := findClass_of_methodNamed B.named
  have hlocks := B.notSynchronized
  subst hsz
  have hD := hD.self (sz := s.heap.size)
  generalize hAe : va_A (mw ad cs u j) s.heap.size = A at hD ⊢
  have hA : ∀ q : Nat, s.heap.size ≤ q → A q := fun q h => by rw [← hAe]; exact Or.inr h
  have hS : va_S A s.heap s.heap [] := va_S.rf
  have hl := lv_entry ([.ref (ad 0), .int r, .long v]) (n := 4) (Nat.le_of_ble_eq_true rfl)
  rw [lg_entry_eq]
  generalize (lg_sl ([.ref (ad 0), .int r, .long v]) ++ List.replicate (4 - (lg_sl ([.ref (ad 0), .int r, .long v])).length) Slot.unset).toArray = ls at hl ⊢
  have hl : lv_has ls 4 [(0, .ref (ad 0)), (1, .int r), (2, .long v)] := hl
  skip
  refine lv_aload_n hx hb d_md_note_0 rfl (lv_at hl 0 rfl) ?_
  refine va_get (D := D) (ci := 3) (v := .int (sg_en u)) (C := "MeasuredStagesModel") (T := F_md) (N := 19) hx hb hts (fun w h => List.mem_cons_of_mem _ (i_md w h)) hown hK hP 0 rfl rfl 7 (by decide) (hT _ tb_466) (fun _ h9 => h9) rfl d_md_note_1 ?_
  refine lv_bipush (v := 32) hx hb d_md_note_4 (by decide) ?_
  refine lv_icmp_ne hx hb d_md_note_6 (tgt := 11) (by decide) (fun _ => ?_) (fun z => absurd z (n32 he))
  refine lv_aload_n hx hb d_md_note_11 rfl (lv_at hl 0 rfl) ?_
  refine va_get (D := D) (ci := 3) (v := .ref (ad 1)) (C := "MeasuredStagesModel") (T := F_md) (N := 19) hx hb hts (fun w h => List.mem_cons_of_mem _ (i_md w h)) hown hK hP 0 rfl rfl 0 (by decide) (hT _ tb_459) (fun _ h9 => h9) rfl d_md_note_12 ?_
  refine lv_iload_n hx hb d_md_note_15 rfl (lv_at hl 1 rfl) ?_
  refine lv_aload_n hx hb d_md_note_16 rfl (lv_at hl 0 rfl) ?_
  refine va_get (D := D) (ci := 3) (v := .ref (ad 1)) (C := "MeasuredStagesModel") (T := F_md) (N := 19) hx hb hts (fun w h => List.mem_cons_of_mem _ (i_md w h)) hown hK hP 0 rfl rfl 0 (by decide) (hT _ tb_459) (fun _ h9 => h9) rfl d_md_note_17 ?_
  refine lv_iload_n hx hb d_md_note_20 rfl (lv_at hl 1 rfl) ?_
  refine va_lald hx hb hK hP 1 0 rfl rfl hr d_md_note_21 ?_
  refine lv_lload_n hx hb d_md_note_22 rfl (lv_at hl 2 rfl) ?_
  refine st_l (v := sp_h (sg_he u r.toNatClampNeg) v) (As := [.long (sg_he u r.toNatClampNeg), .long v]) (rest := [.int r, .ref (ad 1)]) ⟨hx, hb, hml, hown, hts⟩ (c_md_h l (sg_he u r.toNatClampNeg) v) tb_534 tb_535 tb_4 tb_536 hd_md_h ⟨Nat.le_of_ble_eq_true rfl, Nat.le_of_ble_eq_true rfl⟩ rfl rfl hl.1 rfl (Nat.le_of_ble_eq_true rfl) d_md_note_23 ⟨Nat.zero_le _, Nat.zero_le _⟩ ?_
  refine va_last hx hb hK hP hD hS 1 0 rfl rfl hr d_md_note_26 (fun H locs hP hD hS => ?_)
  have hP : va_P D cx (mv ad cs (sg_im u) (sg_ap u) (sg_ag u) (vp_updL (sg_he u) r.toNatClampNeg (sp_h (sg_he u r.toNatClampNeg) v)) (sg_er u) (sg_ev u) (sg_en u) (sg_ma u) (sg_po u) (sg_se u) (sg_ac u) (sg_fa u) (sg_la u) (sg_st u) (jm_ag j) (jm_de j) (jm_ru j) (jm_nx j) (jm_th j)) H := hP
  have hD : va_D A (mv ad cs (sg_im u) (sg_ap u) (sg_ag u) (vp_updL (sg_he u) r.toNatClampNeg (sp_h (sg_he u r.toNatClampNeg) v)) (sg_er u) (sg_ev u) (sg_en u) (sg_ma u) (sg_po u) (sg_se u) (sg_ac u) (sg_fa u) (sg_la u) (sg_st u) (jm_ag j) (jm_de j) (jm_ru j) (jm_nx j) (jm_th j)) := hD
  refine lv_aload_n hx hb d_md_note_27 rfl (lv_at hl 0 rfl) ?_
  refine va_get (D := D) (ci := 3) (v := .ref (ad 8)) (C := "MeasuredStagesModel") (T := F_md) (N := 19) hx hb hts (fun w h => List.mem_cons_of_mem _ (i_md w h)) hown hK hP 0 rfl rfl 8 (by decide) (hT _ tb_467) (fun _ h9 => h9) rfl d_md_note_28 ?_
  refine lv_aload_n hx hb d_md_note_31 rfl (lv_at hl 0 rfl) ?_
  refine va_get (D := D) (ci := 3) (v := .int (sg_en u)) (C := "MeasuredStagesModel") (T := F_md) (N := 19) hx hb hts (fun w h => List.mem_cons_of_mem _ (i_md w h)) hown hK hP 0 rfl rfl 7 (by decide) (hT _ tb_466) (fun _ h9 => h9) rfl d_md_note_32 ?_
  refine lv_iload_n hx hb d_md_note_35 rfl (lv_at hl 1 rfl) ?_
  refine va_iast hx hb hK hP hD hS 8 7 rfl rfl he d_md_note_36 (fun H locs hP hD hS => ?_)
  have hP : va_P D cx (mv ad cs (sg_im u) (sg_ap u) (sg_ag u) (vp_updL (sg_he u) r.toNatClampNeg (sp_h (sg_he u r.toNatClampNeg) v)) (upd (sg_er u) (sg_en u).toNatClampNeg r) (sg_ev u) (sg_en u) (sg_ma u) (sg_po u) (sg_se u) (sg_ac u) (sg_fa u) (sg_la u) (sg_st u) (jm_ag j) (jm_de j) (jm_ru j) (jm_nx j) (jm_th j)) H := hP
  have hD : va_D A (mv ad cs (sg_im u) (sg_ap u) (sg_ag u) (vp_updL (sg_he u) r.toNatClampNeg (sp_h (sg_he u r.toNatClampNeg) v)) (upd (sg_er u) (sg_en u).toNatClampNeg r) (sg_ev u) (sg_en u) (sg_ma u) (sg_po u) (sg_se u) (sg_ac u) (sg_fa u) (sg_la u) (sg_st u) (jm_ag j) (jm_de j) (jm_ru j) (jm_nx j) (jm_th j)) := hD
  refine lv_aload_n hx hb d_md_note_37 rfl (lv_at hl 0 rfl) ?_
  refine va_get (D := D) (ci := 3) (v := .ref (ad 9)) (C := "MeasuredStagesModel") (T := F_md) (N := 19) hx hb hts (fun w h => List.mem_cons_of_mem _ (i_md w h)) hown hK hP 0 rfl rfl 9 (by decide) (hT _ tb_468) (fun _ h9 => h9) rfl d_md_note_38 ?_
  refine lv_aload_n hx hb d_md_note_41 rfl (lv_at hl 0 rfl) ?_
  refine va_get (D := D) (ci := 3) (v := .int (sg_en u)) (C := "MeasuredStagesModel") (T := F_md) (N := 19) hx hb hts (fun w h => List.mem_cons_of_mem _ (i_md w h)) hown hK hP 0 rfl rfl 7 (by decide) (hT _ tb_466) (fun _ h9 => h9) rfl d_md_note_42 ?_
  refine lv_lload_n hx hb d_md_note_45 rfl (lv_at hl 2 rfl) ?_
  refine va_last hx hb hK hP hD hS 9 8 rfl rfl he d_md_note_46 (fun H locs hP hD hS => ?_)
  have hP : va_P D cx (mv ad cs (sg_im u) (sg_ap u) (sg_ag u) (vp_updL (sg_he u) r.toNatClampNeg (sp_h (sg_he u r.toNatClampNeg) v)) (upd (sg_er u) (sg_en u).toNatClampNeg r) (vp_updL (sg_ev u) (sg_en u).toNatClampNeg v) (sg_en u) (sg_ma u) (sg_po u) (sg_se u) (sg_ac u) (sg_fa u) (sg_la u) (sg_st u) (jm_ag j) (jm_de j) (jm_ru j) (jm_nx j) (jm_th j)) H := hP
  have hD : va_D A (mv ad cs (sg_im u) (sg_ap u) (sg_ag u) (vp_updL (sg_he u) r.toNatClampNeg (sp_h (sg_he u r.toNatClampNeg) v)) (upd (sg_er u) (sg_en u).toNatClampNeg r) (vp_updL (sg_ev u) (sg_en u).toNatClampNeg v) (sg_en u) (sg_ma u) (sg_po u) (sg_se u) (sg_ac u) (sg_fa u) (sg_la u) (sg_st u) (jm_ag j) (jm_de j) (jm_ru j) (jm_nx j) (jm_th j)) := hD
  refine lv_aload_n hx hb d_md_note_47 rfl (lv_at hl 0 rfl) ?_
  refine lv_dup hx hb d_md_note_48 rfl ?_
  refine va_get (D := D) (ci := 3) (v := .int (sg_en u)) (C := "MeasuredStagesModel") (T := F_md) (N := 19) hx hb hts (fun w h => List.mem_cons_of_mem _ (i_md w h)) hown hK hP 0 rfl rfl 7 (by decide) (hT _ tb_466) (fun _ h9 => h9) rfl d_md_note_49 ?_
  refine lv_iconst (v := 1) hx hb d_md_note_52 (by decide) ?_
  refine lv_iadd hx hb d_md_note_53 ?_
  refine va_put (D := D) (ci := 3) (v := .int ((sg_en u) + (1))) (ty := .int) (C := "MeasuredStagesModel") (T := F_md) (N := 19) hx hb hts (fun w h => List.mem_cons_of_mem _ (i_md w h)) t_md o_md n_md hown hK hP hD hS 0 rfl rfl 7 (by decide) (hT _ tb_466) (fun _ h9 => h9) rfl (by decide +kernel) rfl rfl (Nat.le_of_ble_eq_true rfl) d_md_note_54 (fun H locs hP hD hS => ?_)
  have hP : va_P D cx (mv ad cs (sg_im u) (sg_ap u) (sg_ag u) (vp_updL (sg_he u) r.toNatClampNeg (sp_h (sg_he u r.toNatClampNeg) v)) (upd (sg_er u) (sg_en u).toNatClampNeg r) (vp_updL (sg_ev u) (sg_en u).toNatClampNeg v) ((sg_en u) + (1)) (sg_ma u) (sg_po u) (sg_se u) (sg_ac u) (sg_fa u) (sg_la u) (sg_st u) (jm_ag j) (jm_de j) (jm_ru j) (jm_nx j) (jm_th j)) H := hP
  have hD : va_D A (mv ad cs (sg_im u) (sg_ap u) (sg_ag u) (vp_updL (sg_he u) r.toNatClampNeg (sp_h (sg_he u r.toNatClampNeg) v)) (upd (sg_er u) (sg_en u).toNatClampNeg r) (vp_updL (sg_ev u) (sg_en u).toNatClampNeg v) ((sg_en u) + (1)) (sg_ma u) (sg_po u) (sg_se u) (sg_ac u) (sg_fa u) (sg_la u) (sg_st u) (jm_ag j) (jm_de j) (jm_ru j) (jm_nx j) (jm_th j)) := hD
  refine lv_iconst (v := 1) hx hb d_md_note_57 (by decide) ?_
  obtain ⟨v1, ev1⟩ : ∃ z : Sg, z = (sg_im u, sg_ap u, sg_ag u, vp_updL (sg_he u) r.toNatClampNeg (sp_h (sg_he u r.toNatClampNeg) v), upd (sg_er u) (sg_en u).toNatClampNeg r, vp_updL (sg_ev u) (sg_en u).toNatClampNeg v, (sg_en u) + (1), sg_ma u, sg_po u, sg_se u, sg_ac u, sg_fa u, sg_la u, sg_st u) := ⟨_, rfl⟩
  have hP : va_P D cx (mw ad cs v1 j) H := by rw [ev1, mw_u]; exact hP
  have hD : va_D A (mw ad cs v1 j) := by rw [ev1, mw_u]; exact hD
  subst ev1
  exact W.zret hx hb hret rfl (fun t ht hW => ⟨⟨_, j, rfl, ⟨rfl, (by rfl)⟩, by rw [ht]; exact hP, va_K.moved hW.alike hK, hD⟩, hS.F ht⟩) hS.2.2 d_md_note_58
set_option maxHeartbeats 4000000 in
set_option maxRecDepth 100000 in
theorem c_md_fill (l : Launch) (D : va_G) (cs : Nat → ClassId) (ad : Nat → Nat) (sz : Nat) (u : Sg) (j : Jm) (k mask : Int32) (x : Int64) (hk : vp_in k 8) : Met l y_md_fill (Cond.code y_md_fill b_md_fill 5 none :: TB) { frames := 2, cells := 0, slots := 0, locals := 49 } (va_Pc [.ref (ad 0), .int k, .int mask, .long x] (mw_Pre D cs ad u j sz)) (va_Qv (fun (j1 : Jm) => j1 = j) (fun (j1 : Jm) t => mw_B D cs ad (va_A (mw ad cs u j) sz) (sp_fi u k mask x) j1 t) (va_A (mw ad cs u j) sz)) 0 0 (va_A (mw ad cs u j) sz) := by
  refine Met.ofW (cc := b_md_fill) (maxL := 5) (ret := none) (by decide) rfl ?_
  intro p e s m args below meth c s₁ B hml hv
  obtain ⟨rfl, hsz, hP, hK, hD, hN⟩ := hv
  have hx := B.exec
  have hb := B.bytes
  have hret := B.returns
  have hts := atoms_spec (ws := Cond.code y_md_fill b_md_fill 5 none :: TB) B.pre
  have hT : ∀ w ∈ TB, w.before _ s = true := fun w h => hts w (List.mem_cons_of_mem _ h)
  have hown : s.vm.findClass "MeasuredStagesModel" = some m.cls := findClass_of_methodNamed B.named
  have hlocks := B.notSynchronized
  subst hsz
  have hD := hD.self (sz := s.heap.size)
  generalize hAe : va_A (mw ad cs u j) s.heap.size = A at hD ⊢
  have hA : ∀ q : Nat, s.heap.size ≤ q → A q := fun q h => by rw [← hAe]; exact Or.inr h
  have hS : va_S A s.heap s.heap [] := va_S.rf
  have hl := lv_entry ([.ref (ad 0), .int k, .int mask, .long x]) (n := 5) (Nat.le_of_ble_eq_true rfl)
  rw [lg_entry_eq]
  generalize (lg_sl ([.ref (ad 0), .int k, .int mask, .long x]) ++ List.replicate (5 - (lg_sl ([.ref (ad 0), .int k, .int mask, .long x])).length) Slot.unset).toArray = ls at hl ⊢
  have hl : lv_has ls 5 [(0, .ref (ad 0)), (1, .int k), (2, .int mask), (3, .long x)] := hl
  skip
  refine lv_aload_n hx hb d_md_fill_0 rfl (lv_at hl 0 rfl) ?_
  refine va_get (D := D) (ci := 3) (v := .ref (ad 6)) (C := "MeasuredStagesModel") (T := F_md) (N := 19) hx hb hts (fun w h => List.mem_cons_of_mem _ (i_md w h)) hown hK hP 0 rfl rfl 5 (by decide) (hT _ tb_464) (fun _ h9 => h9) rfl d_md_fill_1 ?_
  refine lv_iload_n hx hb d_md_fill_4 rfl (lv_at hl 1 rfl) ?_
  refine lv_aload_n hx hb d_md_fill_5 rfl (lv_at hl 0 rfl) ?_
  refine lv_iload_n hx hb d_md_fill_6 rfl (lv_at hl 2 rfl) ?_
  refine mw_rdl (v := sp_po u mask) (As := [.int mask]) (rest := [.int k, .ref (ad 6)]) ⟨hx, hb, hml, hown, hts⟩ (c_md_policy l D cs ad _ u j mask) tb_565 tb_567 sl_21 tb_4 tb_568 ⟨rfl, hd_md_policy⟩ ⟨Nat.le_of_ble_eq_true rfl, Nat.le_of_ble_eq_true rfl⟩ rfl rfl hK hP hD hN 0 3 rfl rfl hl.1 rfl (Nat.le_of_ble_eq_true rfl) d_md_fill_7 ⟨Nat.zero_le _, Nat.zero_le _⟩ ?_
  refine va_last hx hb hK hP hD hS 6 5 rfl rfl hk d_md_fill_10 (fun H locs hP hD hS => ?_)
  have hP : va_P D cx (mv ad cs (sg_im u) (sg_ap u) (sg_ag u) (sg_he u) (sg_er u) (sg_ev u) (sg_en u) (sg_ma u) (vp_updL (sg_po u) k.toNatClampNeg (sp_po u mask)) (sg_se u) (sg_ac u) (sg_fa u) (sg_la u) (sg_st u) (jm_ag j) (jm_de j) (jm_ru j) (jm_nx j) (jm_th j)) H := hP
  have hD : va_D A (mv ad cs (sg_im u) (sg_ap u) (sg_ag u) (sg_he u) (sg_er u) (sg_ev u) (sg_en u) (sg_ma u) (vp_updL (sg_po u) k.toNatClampNeg (sp_po u mask)) (sg_se u) (sg_ac u) (sg_fa u) (sg_la u) (sg_st u) (jm_ag j) (jm_de j) (jm_ru j) (jm_nx j) (jm_th j)) := hD
  refine lv_aload_n hx hb d_md_fill_11 rfl (lv_at hl 0 rfl) ?_
  refine va_get (D := D) (ci := 3) (v := .ref (ad 5)) (C := "MeasuredStagesModel") (T := F_md) (N := 19) hx hb hts (fun w h => List.mem_cons_of_mem _ (i_md w h)) hown hK hP 0 rfl rfl 4 (by decide) (hT _ tb_463) (fun _ h9 => h9) rfl d_md_fill_12 ?_
  refine lv_iload_n hx hb d_md_fill_15 rfl (lv_at hl 1 rfl) ?_
  refine lv_iload_n hx hb d_md_fill_16 rfl (lv_at hl 2 rfl) ?_
  refine va_iast hx hb hK hP hD hS 5 4 rfl rfl hk d_md_fill_17 (fun H locs hP hD hS => ?_)
  have hP : va_P D cx (mv ad cs (sg_im u) (sg_ap u) (sg_ag u) (sg_he u) (sg_er u) (sg_ev u) (sg_en u) (upd (sg_ma u) k.toNatClampNeg mask) (vp_updL (sg_po u) k.toNatClampNeg (sp_po u mask)) (sg_se u) (sg_ac u) (sg_fa u) (sg_la u) (sg_st u) (jm_ag j) (jm_de j) (jm_ru j) (jm_nx j) (jm_th j)) H := hP
  have hD : va_D A (mv ad cs (sg_im u) (sg_ap u) (sg_ag u) (sg_he u) (sg_er u) (sg_ev u) (sg_en u) (upd (sg_ma u) k.toNatClampNeg mask) (vp_updL (sg_po u) k.toNatClampNeg (sp_po u mask)) (sg_se u) (sg_ac u) (sg_fa u) (sg_la u) (sg_st u) (jm_ag j) (jm_de j) (jm_ru j) (jm_nx j) (jm_th j)) := hD
  refine lv_aload_n hx hb d_md_fill_18 rfl (lv_at hl 0 rfl) ?_
  refine va_get (D := D) (ci := 3) (v := .ref (ad 7)) (C := "MeasuredStagesModel") (T := F_md) (N := 19) hx hb hts (fun w h => List.mem_cons_of_mem _ (i_md w h)) hown hK hP 0 rfl rfl 6 (by decide) (hT _ tb_465) (fun _ h9 => h9) rfl d_md_fill_19 ?_
  refine lv_iload_n hx hb d_md_fill_22 rfl (lv_at hl 1 rfl) ?_
  refine lv_lload_n hx hb d_md_fill_23 rfl (lv_at hl 3 rfl) ?_
  refine va_last hx hb hK hP hD hS 7 6 rfl rfl hk d_md_fill_24 (fun H locs hP hD hS => ?_)
  have hP : va_P D cx (mv ad cs (sg_im u) (sg_ap u) (sg_ag u) (sg_he u) (sg_er u) (sg_ev u) (sg_en u) (upd (sg_ma u) k.toNatClampNeg mask) (vp_updL (sg_po u) k.toNatClampNeg (sp_po u mask)) (vp_updL (sg_se u) k.toNatClampNeg x) (sg_ac u) (sg_fa u) (sg_la u) (sg_st u) (jm_ag j) (jm_de j) (jm_ru j) (jm_nx j) (jm_th j)) H := hP
  have hD : va_D A (mv ad cs (sg_im u) (sg_ap u) (sg_ag u) (sg_he u) (sg_er u) (sg_ev u) (sg_en u) (upd (sg_ma u) k.toNatClampNeg mask) (vp_updL (sg_po u) k.toNatClampNeg (sp_po u mask)) (vp_updL (sg_se u) k.toNatClampNeg x) (sg_ac u) (sg_fa u) (sg_la u) (sg_st u) (jm_ag j) (jm_de j) (jm_ru j) (jm_nx j) (jm_th j)) := hD
  obtain ⟨v1, ev1⟩ : ∃ z : Sg, z = (sg_im u, sg_ap u, sg_ag u, sg_he u, sg_er u, sg_ev u, sg_en u, upd (sg_ma u) k.toNatClampNeg mask, vp_updL (sg_po u) k.toNatClampNeg (sp_po u mask), vp_updL (sg_se u) k.toNatClampNeg x, sg_ac u, sg_fa u, sg_la u, sg_st u) := ⟨_, rfl⟩
  have hP : va_P D cx (mw ad cs v1 j) H := by rw [ev1, mw_u]; exact hP
  have hD : va_D A (mw ad cs v1 j) := by rw [ev1, mw_u]; exact hD
  subst ev1
  exact W.vret hx hb hret (fun t ht hW => ⟨⟨j, rfl, (by rfl), by rw [ht]; exact hP, va_K.moved hW.alike hK, hD⟩, hS.F ht⟩) hS.2.2 d_md_fill_25
set_option maxHeartbeats 4000000 in
set_option maxRecDepth 100000 in
theorem c_md_launch (l : Launch) (D : va_G) (cs : Nat → ClassId) (ad : Nat → Nat) (sz : Nat) (u : Sg) (j : Jm) (n d : Int32) (hn : vp_in n 8) (hd : vp_in d 6) (he : vp_in (sg_en u) 32) : Met l y_md_launch (Cond.code y_md_launch b_md_launch 3 (some .boolean) :: TB) { frames := 2, cells := 0, slots := 0, locals := 48 } (va_Pc [.ref (ad 0), .int n, .int d] (mw_Pre D cs ad u j sz)) (va_Qi (fun (r : Int32) (j1 : Jm) => r = 1 ∧ j1 = sm_nx (sm_ru (sm_de j d) (upd (jm_ru j) d.toNatClampNeg n)) (upd (jm_nx j) d.toNatClampNeg 0)) (fun (j1 : Jm) t => mw_B D cs ad (va_A (mw ad cs u j) sz) ((fun v : Sg => ss_la v (sg_la v + 1)) (sp_no u d (sp_di u n))) j1 t) (va_A (mw ad cs u j) sz)) 0 0 (va_A (mw ad cs u j) sz) := by
  refine Met.ofW (cc := b_md_launch) (maxL := 3) (ret := (some .boolean)) (by decide) rfl ?_
  intro p e s m args below meth c s₁ B hml hv
  obtain ⟨rfl, hsz, hP, hK, hD, hN⟩ := hv
  have hx := B.exec
  have hb := B.bytes
  have hret := B.returns
  have hts := atoms_spec (ws := Cond.code y_md_launch b_md_launch 3 (some .boolean) :: TB) B.pre
  have hT : ∀ w ∈ TB, w.before _ s = true := fun w h => hts w (List.mem_cons_of_mem _ h)
  have hown : s.vm.findClass "MeasuredStagesModel" = some m.cls := findClass_of_methodNamed B.named
  have hlocks := B.notSynchronized
  subst hsz
  have hD := hD.self (sz := s.heap.size)
  generalize hAe : va_A (mw ad cs u j) s.heap.size = A at hD ⊢
  have hA : ∀ q : Nat, s.heap.size ≤ q → A q := fun q h => by rw [← hAe]; exact Or.inr h
  have hS : va_S A s.heap s.heap [] := va_S.rf
  have hl := lv_entry ([.ref (ad 0), .int n, .int d]) (n := 3) (Nat.le_of_ble_eq_true rfl)
  rw [lg_entry_eq]
  generalize (lg_sl ([.ref (ad 0), .int n, .int d]) ++ List.replicate (3 - (lg_sl ([.ref (ad 0), .int n, .int d])).length) Slot.unset).toArray = ls at hl ⊢
  have hl : lv_has ls 3 [(0, .ref (ad 0)), (1, .int n), (2, .int d)] := hl
  skip
  refine lv_aload_n hx hb d_md_launch_0 rfl (lv_at hl 0 rfl) ?_
  refine lv_iload_n hx hb d_md_launch_1 rfl (lv_at hl 2 rfl) ?_
  refine lv_aload_n hx hb d_md_launch_2 rfl (lv_at hl 0 rfl) ?_
  refine lv_iload_n hx hb d_md_launch_3 rfl (lv_at hl 1 rfl) ?_
  refine mw_rdl (v := sp_di u n) (As := [.int n]) (rest := [.int d, .ref (ad 0)]) ⟨hx, hb, hml, hown, hts⟩ (c_md_digest l D cs ad _ u j n hn) tb_529 tb_531 sl_15 tb_4 tb_532 ⟨rfl, hd_md_digest⟩ ⟨Nat.le_of_ble_eq_true rfl, Nat.le_of_ble_eq_true rfl⟩ rfl rfl hK hP hD hN 0 3 rfl rfl hl.1 rfl (Nat.le_of_ble_eq_true rfl) d_md_launch_4 ⟨Nat.zero_le _, Nat.zero_le _⟩ ?_
  refine mw_wri (v := 1) (u' := sp_no u d (sp_di u n)) (As := [.int d, .long (sp_di u n)]) (rest := []) ⟨hx, hb, hml, hown, hts⟩ (c_md_note l D cs ad _ u j d (sp_di u n) hd he) tb_548 tb_550 sl_17 tb_4 tb_551 ⟨rfl, hd_md_note⟩ ⟨Nat.le_of_ble_eq_true rfl, Nat.le_of_ble_eq_true rfl⟩ rfl rfl hK hP hD hN 0 3 rfl rfl hl.1 rfl (Nat.le_of_ble_eq_true rfl) d_md_launch_7 ⟨Nat.zero_le _, Nat.zero_le _⟩ hS hA (fun j1 H locs hj2 hP hD hS => ?_)
  obtain ⟨v3, ev3⟩ : ∃ z : Sg, z = sp_no u d (sp_di u n) := ⟨_, rfl⟩
  rw [← ev3] at hP hD
  rw [hj2] at hP hD
  refine lv_if_ne hx hb d_md_launch_10 (tgt := 15) (by decide) (fun _ => ?_) (fun z => absurd z (by decide))
  refine lv_aload_n hx hb d_md_launch_15 rfl (lv_at hl 0 rfl) ?_
  refine lv_dup hx hb d_md_launch_16 rfl ?_
  refine va_get (D := D) (ci := 3) (v := .int (sg_la v3)) (C := "MeasuredStagesModel") (T := F_md) (N := 19) hx hb hts (fun w h => List.mem_cons_of_mem _ (i_md w h)) hown hK hP 0 rfl rfl 12 (by decide) (hT _ tb_471) (fun _ h9 => h9) rfl d_md_launch_17 ?_
  refine lv_iconst (v := 1) hx hb d_md_launch_20 (by decide) ?_
  refine lv_iadd hx hb d_md_launch_21 ?_
  refine va_put (D := D) (ci := 3) (v := .int ((sg_la v3) + (1))) (ty := .int) (C := "MeasuredStagesModel") (T := F_md) (N := 19) hx hb hts (fun w h => List.mem_cons_of_mem _ (i_md w h)) t_md o_md n_md hown hK hP hD hS 0 rfl rfl 12 (by decide) (hT _ tb_471) (fun _ h9 => h9) rfl (by decide +kernel) rfl rfl (Nat.le_of_ble_eq_true rfl) d_md_launch_22 (fun H locs hP hD hS => ?_)
  have hP : va_P D cx (mv ad cs (sg_im v3) (sg_ap v3) (sg_ag v3) (sg_he v3) (sg_er v3) (sg_ev v3) (sg_en v3) (sg_ma v3) (sg_po v3) (sg_se v3) (sg_ac v3) (sg_fa v3) ((sg_la v3) + (1)) (sg_st v3) (jm_ag j) (jm_de j) (jm_ru j) (jm_nx j) (jm_th j)) H := hP
  have hD : va_D A (mv ad cs (sg_im v3) (sg_ap v3) (sg_ag v3) (sg_he v3) (sg_er v3) (sg_ev v3) (sg_en v3) (sg_ma v3) (sg_po v3) (sg_se v3) (sg_ac v3) (sg_fa v3) ((sg_la v3) + (1)) (sg_st v3) (jm_ag j) (jm_de j) (jm_ru j) (jm_nx j) (jm_th j)) := hD
  refine lv_aload_n hx hb d_md_launch_25 rfl (lv_at hl 0 rfl) ?_
  refine lv_iload_n hx hb d_md_launch_26 rfl (lv_at hl 2 rfl) ?_
  refine va_put (D := D) (ci := 3) (v := .int d) (ty := .int) (C := "MeasuredStagesModel") (T := F_md) (N := 19) hx hb hts (fun w h => List.mem_cons_of_mem _ (i_md w h)) t_md o_md n_md hown hK hP hD hS 0 rfl rfl 15 (by decide) (hT _ tb_474) (fun _ h9 => h9) rfl (by decide +kernel) rfl rfl (Nat.le_of_ble_eq_true rfl) d_md_launch_27 (fun H locs hP hD hS => ?_)
  have hP : va_P D cx (mv ad cs (sg_im v3) (sg_ap v3) (sg_ag v3) (sg_he v3) (sg_er v3) (sg_ev v3) (sg_en v3) (sg_ma v3) (sg_po v3) (sg_se v3) (sg_ac v3) (sg_fa v3) ((sg_la v3) + (1)) (sg_st v3) (jm_ag j) d (jm_ru j) (jm_nx j) (jm_th j)) H := hP
  have hD : va_D A (mv ad cs (sg_im v3) (sg_ap v3) (sg_ag v3) (sg_he v3) (sg_er v3) (sg_ev v3) (sg_en v3) (sg_ma v3) (sg_po v3) (sg_se v3) (sg_ac v3) (sg_fa v3) ((sg_la v3) + (1)) (sg_st v3) (jm_ag j) d (jm_ru j) (jm_nx j) (jm_th j)) := hD
  refine lv_aload_n hx hb d_md_launch_30 rfl (lv_at hl 0 rfl) ?_
  refine va_get (D := D) (ci := 3) (v := .ref (ad 11)) (C := "MeasuredStagesModel") (T := F_md) (N := 19) hx hb hts (fun w h => List.mem_cons_of_mem _ (i_md w h)) hown hK hP 0 rfl rfl 16 (by decide) (hT _ tb_475) (fun _ h9 => h9) rfl d_md_launch_31 ?_
  refine lv_iload_n hx hb d_md_launch_34 rfl (lv_at hl 2 rfl) ?_
  refine lv_iload_n hx hb d_md_launch_35 rfl (lv_at hl 1 rfl) ?_
  refine va_iast hx hb hK hP hD hS 11 10 rfl rfl hd d_md_launch_36 (fun H locs hP hD hS => ?_)
  have hP : va_P D cx (mv ad cs (sg_im v3) (sg_ap v3) (sg_ag v3) (sg_he v3) (sg_er v3) (sg_ev v3) (sg_en v3) (sg_ma v3) (sg_po v3) (sg_se v3) (sg_ac v3) (sg_fa v3) ((sg_la v3) + (1)) (sg_st v3) (jm_ag j) d (upd (jm_ru j) d.toNatClampNeg n) (jm_nx j) (jm_th j)) H := hP
  have hD : va_D A (mv ad cs (sg_im v3) (sg_ap v3) (sg_ag v3) (sg_he v3) (sg_er v3) (sg_ev v3) (sg_en v3) (sg_ma v3) (sg_po v3) (sg_se v3) (sg_ac v3) (sg_fa v3) ((sg_la v3) + (1)) (sg_st v3) (jm_ag j) d (upd (jm_ru j) d.toNatClampNeg n) (jm_nx j) (jm_th j)) := hD
  refine lv_aload_n hx hb d_md_launch_37 rfl (lv_at hl 0 rfl) ?_
  refine va_get (D := D) (ci := 3) (v := .ref (ad 12)) (C := "MeasuredStagesModel") (T := F_md) (N := 19) hx hb hts (fun w h => List.mem_cons_of_mem _ (i_md w h)) hown hK hP 0 rfl rfl 17 (by decide) (hT _ tb_476) (fun _ h9 => h9) rfl d_md_launch_38 ?_
  refine lv_iload_n hx hb d_md_launch_41 rfl (lv_at hl 2 rfl) ?_
  refine lv_iconst (v := 0) hx hb d_md_launch_42 (by decide) ?_
  refine va_iast hx hb hK hP hD hS 12 11 rfl rfl hd d_md_launch_43 (fun H locs hP hD hS => ?_)
  have hP : va_P D cx (mv ad cs (sg_im v3) (sg_ap v3) (sg_ag v3) (sg_he v3) (sg_er v3) (sg_ev v3) (sg_en v3) (sg_ma v3) (sg_po v3) (sg_se v3) (sg_ac v3) (sg_fa v3) ((sg_la v3) + (1)) (sg_st v3) (jm_ag j) d (upd (jm_ru j) d.toNatClampNeg n) (upd (jm_nx j) d.toNatClampNeg (0)) (jm_th j)) H := hP
  have hD : va_D A (mv ad cs (sg_im v3) (sg_ap v3) (sg_ag v3) (sg_he v3) (sg_er v3) (sg_ev v3) (sg_en v3) (sg_ma v3) (sg_po v3) (sg_se v3) (sg_ac v3) (sg_fa v3) ((sg_la v3) + (1)) (sg_st v3) (jm_ag j) d (upd (jm_ru j) d.toNatClampNeg n) (upd (jm_nx j) d.toNatClampNeg (0)) (jm_th j)) := hD
  refine lv_iconst (v := 1) hx hb d_md_launch_44 (by decide) ?_
  obtain ⟨v4, ev4⟩ : ∃ z : Sg, z = (sg_im v3, sg_ap v3, sg_ag v3, sg_he v3, sg_er v3, sg_ev v3, sg_en v3, sg_ma v3, sg_po v3, sg_se v3, sg_ac v3, sg_fa v3, (sg_la v3) + (1), sg_st v3) := ⟨_, rfl⟩
  obtain ⟨q5, eq5⟩ : ∃ z : Jm, z = (jm_ag j, d, upd (jm_ru j) d.toNatClampNeg n, upd (jm_nx j) d.toNatClampNeg (0), jm_th j) := ⟨_, rfl⟩
  have hP : va_P D cx (mw ad cs v4 q5) H := by rw [ev4, eq5, mw_uj]; exact hP
  have hD : va_D A (mw ad cs v4 q5) := by rw [ev4, eq5, mw_uj]; exact hD
  subst ev4
  subst ev3
  exact W.zret hx hb hret rfl (fun t ht hW => ⟨⟨_, q5, rfl, ⟨rfl, (by subst eq5; rfl)⟩, by rw [ht]; exact hP, va_K.moved hW.alike hK, hD⟩, hS.F ht⟩) hS.2.2 d_md_launch_45
set_option maxHeartbeats 4000000 in
set_option maxRecDepth 100000 in
theorem c_act_0 (l : Launch) (D : va_G) (cs : Nat → ClassId) (ad : Nat → Nat) (sz : Nat) (u : Sg) (j : Jm) (code x y d : Int32) (hc : code = 0)  : Met l y_md_act (Cond.code y_md_act b_md_act 6 none :: TB) { frames := 4, cells := 0, slots := 0, locals := 110 } (va_Pc [.ref (ad 0), .int code, .int x, .int y, .int d] (mw_Pre D cs ad u j sz)) (va_Qv (fun (j1 : Jm) => jm_de j1 = d - 1 ∧ jm_ru j1 = jm_ru j ∧ jm_nx j1 = (jm_nx j)) (fun (j1 : Jm) t => mw_B D cs ad (va_A (mw ad cs u j) sz) u j1 t) (va_A (mw ad cs u j) sz)) 0 0 (va_A (mw ad cs u j) sz) := by
  refine Met.ofW (cc := b_md_act) (maxL := 6) (ret := none) (by decide) rfl ?_
  intro p e s m args below meth c s₁ B hml hv
  obtain ⟨rfl, hsz, hP, hK, hD, hN⟩ := hv
  have hx := B.exec
  have hb := B.bytes
  have hret := B.returns
  have hts := atoms_spec (ws := Cond.code y_md_act b_md_act 6 none :: TB) B.pre
  have hT : ∀ w ∈ TB, w.before _ s = true := fun w h => hts w (List.mem_cons_of_mem _ h)
  have hown : s.vm.findClass "MeasuredStagesModel" = some m.cls := findClass_of_methodNamed B.named
  have hlocks := B.notSynchronized
  subst hsz
  have hD := hD.self (sz := s.heap.size)
  generalize hAe : va_A (mw ad cs u j) s.heap.size = A at hD ⊢
  have hA : ∀ q : Nat, s.heap.size ≤ q → A q := fun q h => by rw [← hAe]; exact Or.inr h
  have hS : va_S A s.heap s.heap [] := va_S.rf
  have hl := lv_entry ([.ref (ad 0), .int code, .int x, .int y, .int d]) (n := 6) (Nat.le_of_ble_eq_true rfl)
  rw [lg_entry_eq]
  generalize (lg_sl ([.ref (ad 0), .int code, .int x, .int y, .int d]) ++ List.replicate (6 - (lg_sl ([.ref (ad 0), .int code, .int x, .int y, .int d])).length) Slot.unset).toArray = ls at hl ⊢
  have hl : lv_has ls 6 [(0, .ref (ad 0)), (1, .int code), (2, .int x), (3, .int y), (4, .int d)] := hl
  skip
  refine lv_iconst (v := 1) hx hb d_md_act_0 (by decide) ?_
  refine lv_istore (nL := 6) (lv' := [(5, .int (1)), (0, .ref (ad 0)), (1, .int code), (2, .int x), (3, .int y), (4, .int d)]) hx hb d_md_act_1 hl (by decide) rfl (fun ls hl => ?_)
  refine lv_iload_n hx hb d_md_act_3 rfl (lv_at hl 2 rfl) ?_
  refine W.eq (g2 := F0 m 4 ls (.int 0 :: [])) (by rw [hc]) ?_
  refine lv_tableIn hx hb d_md_act_4 (off := 52) (tgt := 56) (by decide) (by decide) rfl (by decide) ?_
  refine lv_aload_n hx hb d_md_act_56 rfl (lv_at hl 1 rfl) ?_
  refine lv_iload hx hb d_md_act_57 (lv_at hl 5 rfl) ?_
  refine lv_iconst (v := 1) hx hb d_md_act_59 (by decide) ?_
  refine lv_isub hx hb d_md_act_60 ?_
  refine va_put (D := D) (ci := 3) (v := .int (d - (1))) (ty := .int) (C := "MeasuredStagesModel") (T := F_md) (N := 19) hx hb hts (fun w h => List.mem_cons_of_mem _ (i_md w h)) t_md o_md n_md hown hK hP hD hS 0 rfl rfl 15 (by decide) (hT _ tb_474) (fun _ h9 => h9) rfl (by decide +kernel) rfl rfl (Nat.le_of_ble_eq_true rfl) d_md_act_61 (fun H locs hP hD hS => ?_)
  have hP : va_P D cx (mv ad cs (sg_im u) (sg_ap u) (sg_ag u) (sg_he u) (sg_er u) (sg_ev u) (sg_en u) (sg_ma u) (sg_po u) (sg_se u) (sg_ac u) (sg_fa u) (sg_la u) (sg_st u) (jm_ag j) (d - (1)) (jm_ru j) (jm_nx j) (jm_th j)) H := hP
  have hD : va_D A (mv ad cs (sg_im u) (sg_ap u) (sg_ag u) (sg_he u) (sg_er u) (sg_ev u) (sg_en u) (sg_ma u) (sg_po u) (sg_se u) (sg_ac u) (sg_fa u) (sg_la u) (sg_st u) (jm_ag j) (d - (1)) (jm_ru j) (jm_nx j) (jm_th j)) := hD
  refine lv_goto hx hb d_md_act_64 (tgt := 204) (by decide) ?_
  refine lv_aload_n hx hb d_md_act_204 rfl (lv_at hl 1 rfl) ?_
  refine lv_iload hx hb d_md_act_205 (lv_at hl 0 rfl) ?_
  refine lv_if_eq hx hb d_md_act_207 (tgt := 217) (by decide) (fun z => absurd z (by decide)) (fun _ => ?_)
  refine lv_aload_n hx hb d_md_act_210 rfl (lv_at hl 1 rfl) ?_
  refine va_get (D := D) (ci := 3) (v := .int (sg_fa u)) (C := "MeasuredStagesModel") (T := F_md) (N := 19) hx hb hts (fun w h => List.mem_cons_of_mem _ (i_md w h)) hown hK hP 0 rfl rfl 14 (by decide) (hT _ tb_473) (fun _ h9 => h9) rfl d_md_act_211 ?_
  refine lv_goto hx hb d_md_act_214 (tgt := 218) (by decide) ?_
  refine va_put (D := D) (ci := 3) (v := .int (sg_fa u)) (ty := .int) (C := "MeasuredStagesModel") (T := F_md) (N := 19) hx hb hts (fun w h => List.mem_cons_of_mem _ (i_md w h)) t_md o_md n_md hown hK hP hD hS 0 rfl rfl 14 (by decide) (hT _ tb_473) (fun _ h9 => h9) rfl (by decide +kernel) rfl rfl (Nat.le_of_ble_eq_true rfl) d_md_act_218 (fun H locs hP hD hS => ?_)
  have hP : va_P D cx (mv ad cs (sg_im u) (sg_ap u) (sg_ag u) (sg_he u) (sg_er u) (sg_ev u) (sg_en u) (sg_ma u) (sg_po u) (sg_se u) (sg_ac u) (sg_fa u) (sg_la u) (sg_st u) (jm_ag j) (d - (1)) (jm_ru j) (jm_nx j) (jm_th j)) H := hP
  have hD : va_D A (mv ad cs (sg_im u) (sg_ap u) (sg_ag u) (sg_he u) (sg_er u) (sg_ev u) (sg_en u) (sg_ma u) (sg_po u) (sg_se u) (sg_ac u) (sg_fa u) (sg_la u) (sg_st u) (jm_ag j) (d - (1)) (jm_ru j) (jm_nx j) (jm_th j)) := hD
  obtain ⟨q1, eq1⟩ : ∃ z : Jm, z = (jm_ag j, d - (1), jm_ru j, jm_nx j, jm_th j) := ⟨_, rfl⟩
  have hP : va_P D cx (mw ad cs u q1) H := by rw [eq1, mw_j]; exact hP
  have hD : va_D A (mw ad cs u q1) := by rw [eq1, mw_j]; exact hD
  exact W.vret hx hb hret (fun t ht hW => ⟨⟨q1, rfl, (by subst eq1; exact ⟨rfl, rfl, rfl⟩), by rw [ht]; exact hP, va_K.moved hW.alike hK, hD⟩, hS.F ht⟩) hS.2.2 d_md_act_221
set_option maxHeartbeats 4000000 in
set_option maxRecDepth 100000 in
theorem c_act_1 (l : Launch) (D : va_G) (cs : Nat → ClassId) (ad : Nat → Nat) (sz : Nat) (u : Sg) (j : Jm) (code x y d : Int32) (hc : code = 1) (h8 : vp_in (sp_rm x 8) 8) (hd : vp_in (d + 1) 6) (he : vp_in (sg_en u) 32) : Met l y_md_act (Cond.code y_md_act b_md_act 6 none :: TB) { frames := 4, cells := 0, slots := 0, locals := 110 } (va_Pc [.ref (ad 0), .int code, .int x, .int y, .int d] (mw_Pre D cs ad u j sz)) (va_Qv (fun (j1 : Jm) => jm_de j1 = d + 1 ∧ jm_ru j1 = upd (jm_ru j) (d + 1).toNatClampNeg (sp_rm x 8) ∧ jm_nx j1 = (upd (jm_nx j) (d + 1).toNatClampNeg 0)) (fun (j1 : Jm) t => mw_B D cs ad (va_A (mw ad cs u j) sz) ((fun v : Sg => ss_la v (sg_la v + 1)) (sp_no u (d + 1) (sp_di u (sp_rm x 8)))) j1 t) (va_A (mw ad cs u j) sz)) 0 0 (va_A (mw ad cs u j) sz) := by
  refine Met.ofW (cc := b_md_act) (maxL := 6) (ret := none) (by decide) rfl ?_
  intro p e s m args below meth c s₁ B hml hv
  obtain ⟨rfl, hsz, hP, hK, hD, hN⟩ := hv
  have hx := B.exec
  have hb := B.bytes
  have hret := B.returns
  have hts := atoms_spec (ws := Cond.code y_md_act b_md_act 6 none :: TB) B.pre
  have hT : ∀ w ∈ TB, w.before _ s = true := fun w h => hts w (List.mem_cons_of_mem _ h)
  have hown : s.vm.findClass "MeasuredStagesModel" = some m.cls := findClass_of_methodNamed B.named
  have hlocks := B.notSynchronized
  subst hsz
  have hD := hD.self (sz := s.heap.size)
  generalize hAe : va_A (mw ad cs u j) s.heap.size = A at hD ⊢
  have hA : ∀ q : Nat, s.heap.size ≤ q → A q := fun q h => by rw [← hAe]; exact Or.inr h
  have hS : va_S A s.heap s.heap [] := va_S.rf
  have hl := lv_entry ([.ref (ad 0), .int code, .int x, .int y, .int d]) (n := 6) (Nat.le_of_ble_eq_true rfl)
  rw [lg_entry_eq]
  generalize (lg_sl ([.ref (ad 0), .int code, .int x, .int y, .int d]) ++ List.replicate (6 - (lg_sl ([.ref (ad 0), .int code, .int x, .int y, .int d])).length) Slot.unset).toArray = ls at hl ⊢
  have hl : lv_has ls 6 [(0, .ref (ad 0)), (1, .int code), (2, .int x), (3, .int y), (4, .int d)] := hl
  skip
  refine lv_iconst (v := 1) hx hb d_md_act_0 (by decide) ?_
  refine lv_istore (nL := 6) (lv' := [(5, .int (1)), (0, .ref (ad 0)), (1, .int code), (2, .int x), (3, .int y), (4, .int d)]) hx hb d_md_act_1 hl (by decide) rfl (fun ls hl => ?_)
  refine lv_iload_n hx hb d_md_act_3 rfl (lv_at hl 2 rfl) ?_
  refine W.eq (g2 := F0 m 4 ls (.int 1 :: [])) (by rw [hc]) ?_
  refine lv_tableIn hx hb d_md_act_4 (off := 63) (tgt := 67) (by decide) (by decide) rfl (by decide) ?_
  refine lv_aload_n hx hb d_md_act_67 rfl (lv_at hl 1 rfl) ?_
  refine lv_iload_n hx hb d_md_act_68 rfl (lv_at hl 3 rfl) ?_
  refine lv_bipush (v := 8) hx hb d_md_act_69 (by decide) ?_
  refine lv_irem hx hb d_md_act_71 (by decide) ?_
  refine lv_iload hx hb d_md_act_72 (lv_at hl 5 rfl) ?_
  refine lv_iconst (v := 1) hx hb d_md_act_74 (by decide) ?_
  refine lv_iadd hx hb d_md_act_75 ?_
  refine mw_wri (v := 1) (u' := (fun v : Sg => ss_la v (sg_la v + 1)) (sp_no u (d + (1)) (sp_di u (sp_rm x (8))))) (As := [.int (sp_rm x (8)), .int (d + (1))]) (rest := []) ⟨hx, hb, hml, hown, hts⟩ (c_md_launch l D cs ad _ u j (sp_rm x (8)) (d + (1)) h8 hd he) tb_544 tb_546 sl_16 tb_4 tb_547 ⟨rfl, hd_md_launch⟩ ⟨Nat.le_of_ble_eq_true rfl, Nat.le_of_ble_eq_true rfl⟩ rfl rfl hK hP hD hN 0 3 rfl rfl hl.1 rfl (Nat.le_of_ble_eq_true rfl) d_md_act_76 ⟨Nat.zero_le _, Nat.zero_le _⟩ hS hA (fun j1 H locs hj2 hP hD hS => ?_)
  obtain ⟨v3, ev3⟩ : ∃ z : Sg, z = (fun v : Sg => ss_la v (sg_la v + 1)) (sp_no u (d + (1)) (sp_di u (sp_rm x (8)))) := ⟨_, rfl⟩
  rw [← ev3] at hP hD
  refine lv_istore (nL := 6) (lv' := [(5, .int (1)), (0, .ref (ad 0)), (1, .int code), (2, .int x), (3, .int y), (4, .int d)]) hx hb d_md_act_79 hl (by decide) rfl (fun ls hl => ?_)
  refine lv_goto hx hb d_md_act_81 (tgt := 204) (by decide) ?_
  refine lv_aload_n hx hb d_md_act_204 rfl (lv_at hl 1 rfl) ?_
  refine lv_iload hx hb d_md_act_205 (lv_at hl 0 rfl) ?_
  refine lv_if_eq hx hb d_md_act_207 (tgt := 217) (by decide) (fun z => absurd z (by decide)) (fun _ => ?_)
  refine lv_aload_n hx hb d_md_act_210 rfl (lv_at hl 1 rfl) ?_
  refine va_get (D := D) (ci := 3) (v := .int (sg_fa v3)) (C := "MeasuredStagesModel") (T := F_md) (N := 19) hx hb hts (fun w h => List.mem_cons_of_mem _ (i_md w h)) hown hK hP 0 rfl rfl 14 (by decide) (hT _ tb_473) (fun _ h9 => h9) rfl d_md_act_211 ?_
  refine lv_goto hx hb d_md_act_214 (tgt := 218) (by decide) ?_
  refine va_put (D := D) (ci := 3) (v := .int (sg_fa v3)) (ty := .int) (C := "MeasuredStagesModel") (T := F_md) (N := 19) hx hb hts (fun w h => List.mem_cons_of_mem _ (i_md w h)) t_md o_md n_md hown hK hP hD hS 0 rfl rfl 14 (by decide) (hT _ tb_473) (fun _ h9 => h9) rfl (by decide +kernel) rfl rfl (Nat.le_of_ble_eq_true rfl) d_md_act_218 (fun H locs hP hD hS => ?_)
  have hP : va_P D cx (mw ad cs v3 j1) H := hP
  have hD : va_D A (mw ad cs v3 j1) := hD
  subst ev3
  exact W.vret hx hb hret (fun t ht hW => ⟨⟨j1, rfl, (by subst hj2; exact ⟨rfl, rfl, rfl⟩), by rw [ht]; exact hP, va_K.moved hW.alike hK, hD⟩, hS.F ht⟩) hS.2.2 d_md_act_221
set_option maxHeartbeats 4000000 in
set_option maxRecDepth 100000 in
theorem c_act_2 (l : Launch) (D : va_G) (cs : Nat → ClassId) (ad : Nat → Nat) (sz : Nat) (u : Sg) (j : Jm) (code x y d : Int32) (hc : code = 2) (h6 : vp_in (sp_rm x 6) 6) (he : vp_in (sg_en u) 32) : Met l y_md_act (Cond.code y_md_act b_md_act 6 none :: TB) { frames := 4, cells := 0, slots := 0, locals := 110 } (va_Pc [.ref (ad 0), .int code, .int x, .int y, .int d] (mw_Pre D cs ad u j sz)) (va_Qv (fun (j1 : Jm) => jm_de j1 = jm_de j ∧ jm_ru j1 = jm_ru j ∧ jm_nx j1 = (jm_nx j)) (fun (j1 : Jm) t => mw_B D cs ad (va_A (mw ad cs u j) sz) (sp_no u (sp_rm x 6) y.toInt64) j1 t) (va_A (mw ad cs u j) sz)) 0 0 (va_A (mw ad cs u j) sz) := by
  refine Met.ofW (cc := b_md_act) (maxL := 6) (ret := none) (by decide) rfl ?_
  intro p e s m args below meth c s₁ B hml hv
  obtain ⟨rfl, hsz, hP, hK, hD, hN⟩ := hv
  have hx := B.exec
  have hb := B.bytes
  have hret := B.returns
  have hts := atoms_spec (ws := Cond.code y_md_act b_md_act 6 none :: TB) B.pre
  have hT : ∀ w ∈ TB, w.before _ s = true := fun w h => hts w (List.mem_cons_of_mem _ h)
  have hown : s.vm.findClass "MeasuredStagesModel" = some m.cls := findClass_of_methodNamed B.named
  have hlocks := B.notSynchronized
  subst hsz
  have hD := hD.self (sz := s.heap.size)
  generalize hAe : va_A (mw ad cs u j) s.heap.size = A at hD ⊢
  have hA : ∀ q : Nat, s.heap.size ≤ q → A q := fun q h => by rw [← hAe]; exact Or.inr h
  have hS : va_S A s.heap s.heap [] := va_S.rf
  have hl := lv_entry ([.ref (ad 0), .int code, .int x, .int y, .int d]) (n := 6) (Nat.le_of_ble_eq_true rfl)
  rw [lg_entry_eq]
  generalize (lg_sl ([.ref (ad 0), .int code, .int x, .int y, .int d]) ++ List.replicate (6 - (lg_sl ([.ref (ad 0), .int code, .int x, .int y, .int d])).length) Slot.unset).toArray = ls at hl ⊢
  have hl : lv_has ls 6 [(0, .ref (ad 0)), (1, .int code), (2, .int x), (3, .int y), (4, .int d)] := hl
  skip
  refine lv_iconst (v := 1) hx hb d_md_act_0 (by decide) ?_
  refine lv_istore (nL := 6) (lv' := [(5, .int (1)), (0, .ref (ad 0)), (1, .int code), (2, .int x), (3, .int y), (4, .int d)]) hx hb d_md_act_1 hl (by decide) rfl (fun ls hl => ?_)
  refine lv_iload_n hx hb d_md_act_3 rfl (lv_at hl 2 rfl) ?_
  refine W.eq (g2 := F0 m 4 ls (.int 2 :: [])) (by rw [hc]) ?_
  refine lv_tableIn hx hb d_md_act_4 (off := 80) (tgt := 84) (by decide) (by decide) rfl (by decide) ?_
  refine lv_aload_n hx hb d_md_act_84 rfl (lv_at hl 1 rfl) ?_
  refine lv_iload_n hx hb d_md_act_85 rfl (lv_at hl 3 rfl) ?_
  refine lv_bipush (v := 6) hx hb d_md_act_86 (by decide) ?_
  refine lv_irem hx hb d_md_act_88 (by decide) ?_
  refine lv_iload_n hx hb d_md_act_89 rfl (lv_at hl 4 rfl) ?_
  refine lv_i2l hx hb d_md_act_90 rfl ?_
  refine mw_wri (v := 1) (u' := sp_no u (sp_rm x (6)) (y.toInt64)) (As := [.int (sp_rm x (6)), .long (y.toInt64)]) (rest := []) ⟨hx, hb, hml, hown, hts⟩ (c_md_note l D cs ad _ u j (sp_rm x (6)) (y.toInt64) h6 he) tb_548 tb_550 sl_17 tb_4 tb_551 ⟨rfl, hd_md_note⟩ ⟨Nat.le_of_ble_eq_true rfl, Nat.le_of_ble_eq_true rfl⟩ rfl rfl hK hP hD hN 0 3 rfl rfl hl.1 rfl (Nat.le_of_ble_eq_true rfl) d_md_act_91 ⟨Nat.zero_le _, Nat.zero_le _⟩ hS hA (fun j1 H locs hj2 hP hD hS => ?_)
  obtain ⟨v3, ev3⟩ : ∃ z : Sg, z = sp_no u (sp_rm x (6)) (y.toInt64) := ⟨_, rfl⟩
  rw [← ev3] at hP hD
  rw [hj2] at hP hD
  refine lv_istore (nL := 6) (lv' := [(5, .int (1)), (0, .ref (ad 0)), (1, .int code), (2, .int x), (3, .int y), (4, .int d)]) hx hb d_md_act_94 hl (by decide) rfl (fun ls hl => ?_)
  refine lv_goto hx hb d_md_act_96 (tgt := 204) (by decide) ?_
  refine lv_aload_n hx hb d_md_act_204 rfl (lv_at hl 1 rfl) ?_
  refine lv_iload hx hb d_md_act_205 (lv_at hl 0 rfl) ?_
  refine lv_if_eq hx hb d_md_act_207 (tgt := 217) (by decide) (fun z => absurd z (by decide)) (fun _ => ?_)
  refine lv_aload_n hx hb d_md_act_210 rfl (lv_at hl 1 rfl) ?_
  refine va_get (D := D) (ci := 3) (v := .int (sg_fa v3)) (C := "MeasuredStagesModel") (T := F_md) (N := 19) hx hb hts (fun w h => List.mem_cons_of_mem _ (i_md w h)) hown hK hP 0 rfl rfl 14 (by decide) (hT _ tb_473) (fun _ h9 => h9) rfl d_md_act_211 ?_
  refine lv_goto hx hb d_md_act_214 (tgt := 218) (by decide) ?_
  refine va_put (D := D) (ci := 3) (v := .int (sg_fa v3)) (ty := .int) (C := "MeasuredStagesModel") (T := F_md) (N := 19) hx hb hts (fun w h => List.mem_cons_of_mem _ (i_md w h)) t_md o_md n_md hown hK hP hD hS 0 rfl rfl 14 (by decide) (hT _ tb_473) (fun _ h9 => h9) rfl (by decide +kernel) rfl rfl (Nat.le_of_ble_eq_true rfl) d_md_act_218 (fun H locs hP hD hS => ?_)
  have hP : va_P D cx (mw ad cs v3 j) H := hP
  have hD : va_D A (mw ad cs v3 j) := hD
  subst ev3
  exact W.vret hx hb hret (fun t ht hW => ⟨⟨j, rfl, (by exact ⟨rfl, rfl, rfl⟩), by rw [ht]; exact hP, va_K.moved hW.alike hK, hD⟩, hS.F ht⟩) hS.2.2 d_md_act_221
set_option maxHeartbeats 4000000 in
set_option maxRecDepth 100000 in
theorem c_act_3 (l : Launch) (D : va_G) (cs : Nat → ClassId) (ad : Nat → Nat) (sz : Nat) (u : Sg) (j : Jm) (code x y d : Int32) (hc : code = 3)  : Met l y_md_act (Cond.code y_md_act b_md_act 6 none :: TB) { frames := 4, cells := 0, slots := 0, locals := 110 } (va_Pc [.ref (ad 0), .int code, .int x, .int y, .int d] (mw_Pre D cs ad u j sz)) (va_Qv (fun (j1 : Jm) => jm_de j1 = jm_de j ∧ jm_ru j1 = jm_ru j ∧ jm_nx j1 = (jm_nx j)) (fun (j1 : Jm) t => mw_B D cs ad (va_A (mw ad cs u j) sz) u j1 t) (va_A (mw ad cs u j) sz)) 0 0 (va_A (mw ad cs u j) sz) := by
  refine Met.ofW (cc := b_md_act) (maxL := 6) (ret := none) (by decide) rfl ?_
  intro p e s m args below meth c s₁ B hml hv
  obtain ⟨rfl, hsz, hP, hK, hD, hN⟩ := hv
  have hx := B.exec
  have hb := B.bytes
  have hret := B.returns
  have hts := atoms_spec (ws := Cond.code y_md_act b_md_act 6 none :: TB) B.pre
  have hT : ∀ w ∈ TB, w.before _ s = true := fun w h => hts w (List.mem_cons_of_mem _ h)
  have hown : s.vm.findClass "MeasuredStagesModel" = some m.cls := findClass_of_methodNamed B.named
  have hlocks := B.notSynchronized
  subst hsz
  have hD := hD.self (sz := s.heap.size)
  generalize hAe : va_A (mw ad cs u j) s.heap.size = A at hD ⊢
  have hA : ∀ q : Nat, s.heap.size ≤ q → A q := fun q h => by rw [← hAe]; exact Or.inr h
  have hS : va_S A s.heap s.heap [] := va_S.rf
  have hl := lv_entry ([.ref (ad 0), .int code, .int x, .int y, .int d]) (n := 6) (Nat.le_of_ble_eq_true rfl)
  rw [lg_entry_eq]
  generalize (lg_sl ([.ref (ad 0), .int code, .int x, .int y, .int d]) ++ List.replicate (6 - (lg_sl ([.ref (ad 0), .int code, .int x, .int y, .int d])).length) Slot.unset).toArray = ls at hl ⊢
  have hl : lv_has ls 6 [(0, .ref (ad 0)), (1, .int code), (2, .int x), (3, .int y), (4, .int d)] := hl
  skip
  refine lv_iconst (v := 1) hx hb d_md_act_0 (by decide) ?_
  refine lv_istore (nL := 6) (lv' := [(5, .int (1)), (0, .ref (ad 0)), (1, .int code), (2, .int x), (3, .int y), (4, .int d)]) hx hb d_md_act_1 hl (by decide) rfl (fun ls hl => ?_)
  refine lv_iload_n hx hb d_md_act_3 rfl (lv_at hl 2 rfl) ?_
  refine W.eq (g2 := F0 m 4 ls (.int 3 :: [])) (by rw [hc]) ?_
  refine lv_tableIn hx hb d_md_act_4 (off := 200) (tgt := 204) (by decide) (by decide) rfl (by decide) ?_
  refine lv_aload_n hx hb d_md_act_204 rfl (lv_at hl 1 rfl) ?_
  refine lv_iload hx hb d_md_act_205 (lv_at hl 0 rfl) ?_
  refine lv_if_eq hx hb d_md_act_207 (tgt := 217) (by decide) (fun z => absurd z (by decide)) (fun _ => ?_)
  refine lv_aload_n hx hb d_md_act_210 rfl (lv_at hl 1 rfl) ?_
  refine va_get (D := D) (ci := 3) (v := .int (sg_fa u)) (C := "MeasuredStagesModel") (T := F_md) (N := 19) hx hb hts (fun w h => List.mem_cons_of_mem _ (i_md w h)) hown hK hP 0 rfl rfl 14 (by decide) (hT _ tb_473) (fun _ h9 => h9) rfl d_md_act_211 ?_
  refine lv_goto hx hb d_md_act_214 (tgt := 218) (by decide) ?_
  refine va_put (D := D) (ci := 3) (v := .int (sg_fa u)) (ty := .int) (C := "MeasuredStagesModel") (T := F_md) (N := 19) hx hb hts (fun w h => List.mem_cons_of_mem _ (i_md w h)) t_md o_md n_md hown hK hP hD hS 0 rfl rfl 14 (by decide) (hT _ tb_473) (fun _ h9 => h9) rfl (by decide +kernel) rfl rfl (Nat.le_of_ble_eq_true rfl) d_md_act_218 (fun H locs hP hD hS => ?_)
  have hP : va_P D cx (mw ad cs u j) H := hP
  have hD : va_D A (mw ad cs u j) := hD
  exact W.vret hx hb hret (fun t ht hW => ⟨⟨j, rfl, (by exact ⟨rfl, rfl, rfl⟩), by rw [ht]; exact hP, va_K.moved hW.alike hK, hD⟩, hS.F ht⟩) hS.2.2 d_md_act_221
set_option maxHeartbeats 4000000 in
set_option maxRecDepth 100000 in
theorem c_act_4 (l : Launch) (D : va_G) (cs : Nat → ClassId) (ad : Nat → Nat) (sz : Nat) (u : Sg) (j : Jm) (code x y d : Int32) (hc : code = 4) (h8 : vp_in (sp_rm x 8) 8) : Met l y_md_act (Cond.code y_md_act b_md_act 6 none :: TB) { frames := 4, cells := 0, slots := 0, locals := 110 } (va_Pc [.ref (ad 0), .int code, .int x, .int y, .int d] (mw_Pre D cs ad u j sz)) (va_Qv (fun (j1 : Jm) => jm_de j1 = jm_de j ∧ jm_ru j1 = jm_ru j ∧ jm_nx j1 = (jm_nx j)) (fun (j1 : Jm) t => mw_B D cs ad (va_A (mw ad cs u j) sz) (ss_ac u (sg_se u (sp_rm x 8).toNatClampNeg)) j1 t) (va_A (mw ad cs u j) sz)) 0 0 (va_A (mw ad cs u j) sz) := by
  refine Met.ofW (cc := b_md_act) (maxL := 6) (ret := none) (by decide) rfl ?_
  intro p e s m args below meth c s₁ B hml hv
  obtain ⟨rfl, hsz, hP, hK, hD, hN⟩ := hv
  have hx := B.exec
  have hb := B.bytes
  have hret := B.returns
  have hts := atoms_spec (ws := Cond.code y_md_act b_md_act 6 none :: TB) B.pre
  have hT : ∀ w ∈ TB, w.before _ s = true := fun w h => hts w (List.mem_cons_of_mem _ h)
  have hown : s.vm.findClass "MeasuredStagesModel" = some m.cls := findClass_of_methodNamed B.named
  have hlocks := B.notSynchronized
  subst hsz
  have hD := hD.self (sz := s.heap.size)
  generalize hAe : va_A (mw ad cs u j) s.heap.size = A at hD ⊢
  have hA : ∀ q : Nat, s.heap.size ≤ q → A q := fun q h => by rw [← hAe]; exact Or.inr h
  have hS : va_S A s.heap s.heap [] := va_S.rf
  have hl := lv_entry ([.ref (ad 0), .int code, .int x, .int y, .int d]) (n := 6) (Nat.le_of_ble_eq_true rfl)
  rw [lg_entry_eq]
  generalize (lg_sl ([.ref (ad 0), .int code, .int x, .int y, .int d]) ++ List.replicate (6 - (lg_sl ([.ref (ad 0), .int code, .int x, .int y, .int d])).length) Slot.unset).toArray = ls at hl ⊢
  have hl : lv_has ls 6 [(0, .ref (ad 0)), (1, .int code), (2, .int x), (3, .int y), (4, .int d)] := hl
  skip
  refine lv_iconst (v := 1) hx hb d_md_act_0 (by decide) ?_
  refine lv_istore (nL := 6) (lv' := [(5, .int (1)), (0, .ref (ad 0)), (1, .int code), (2, .int x), (3, .int y), (4, .int d)]) hx hb d_md_act_1 hl (by decide) rfl (fun ls hl => ?_)
  refine lv_iload_n hx hb d_md_act_3 rfl (lv_at hl 2 rfl) ?_
  refine W.eq (g2 := F0 m 4 ls (.int 4 :: [])) (by rw [hc]) ?_
  refine lv_tableIn hx hb d_md_act_4 (off := 95) (tgt := 99) (by decide) (by decide) rfl (by decide) ?_
  refine lv_aload_n hx hb d_md_act_99 rfl (lv_at hl 1 rfl) ?_
  refine lv_aload_n hx hb d_md_act_100 rfl (lv_at hl 1 rfl) ?_
  refine va_get (D := D) (ci := 3) (v := .ref (ad 7)) (C := "MeasuredStagesModel") (T := F_md) (N := 19) hx hb hts (fun w h => List.mem_cons_of_mem _ (i_md w h)) hown hK hP 0 rfl rfl 6 (by decide) (hT _ tb_465) (fun _ h9 => h9) rfl d_md_act_101 ?_
  refine lv_iload_n hx hb d_md_act_104 rfl (lv_at hl 3 rfl) ?_
  refine lv_bipush (v := 8) hx hb d_md_act_105 (by decide) ?_
  refine lv_irem hx hb d_md_act_107 (by decide) ?_
  refine va_lald hx hb hK hP 7 6 rfl rfl h8 d_md_act_108 ?_
  refine va_put (D := D) (ci := 3) (v := .long (sg_se u (sp_rm x (8)).toNatClampNeg)) (ty := .long) (C := "MeasuredStagesModel") (T := F_md) (N := 19) hx hb hts (fun w h => List.mem_cons_of_mem _ (i_md w h)) t_md o_md n_md hown hK hP hD hS 0 rfl rfl 11 (by decide) (hT _ tb_470) (fun _ h9 => h9) rfl (by decide +kernel) rfl rfl (Nat.le_of_ble_eq_true rfl) d_md_act_109 (fun H locs hP hD hS => ?_)
  have hP : va_P D cx (mv ad cs (sg_im u) (sg_ap u) (sg_ag u) (sg_he u) (sg_er u) (sg_ev u) (sg_en u) (sg_ma u) (sg_po u) (sg_se u) (sg_se u (sp_rm x (8)).toNatClampNeg) (sg_fa u) (sg_la u) (sg_st u) (jm_ag j) (jm_de j) (jm_ru j) (jm_nx j) (jm_th j)) H := hP
  have hD : va_D A (mv ad cs (sg_im u) (sg_ap u) (sg_ag u) (sg_he u) (sg_er u) (sg_ev u) (sg_en u) (sg_ma u) (sg_po u) (sg_se u) (sg_se u (sp_rm x (8)).toNatClampNeg) (sg_fa u) (sg_la u) (sg_st u) (jm_ag j) (jm_de j) (jm_ru j) (jm_nx j) (jm_th j)) := hD
  refine lv_goto hx hb d_md_act_112 (tgt := 204) (by decide) ?_
  refine lv_aload_n hx hb d_md_act_204 rfl (lv_at hl 1 rfl) ?_
  refine lv_iload hx hb d_md_act_205 (lv_at hl 0 rfl) ?_
  refine lv_if_eq hx hb d_md_act_207 (tgt := 217) (by decide) (fun z => absurd z (by decide)) (fun _ => ?_)
  refine lv_aload_n hx hb d_md_act_210 rfl (lv_at hl 1 rfl) ?_
  refine va_get (D := D) (ci := 3) (v := .int (sg_fa u)) (C := "MeasuredStagesModel") (T := F_md) (N := 19) hx hb hts (fun w h => List.mem_cons_of_mem _ (i_md w h)) hown hK hP 0 rfl rfl 14 (by decide) (hT _ tb_473) (fun _ h9 => h9) rfl d_md_act_211 ?_
  refine lv_goto hx hb d_md_act_214 (tgt := 218) (by decide) ?_
  refine va_put (D := D) (ci := 3) (v := .int (sg_fa u)) (ty := .int) (C := "MeasuredStagesModel") (T := F_md) (N := 19) hx hb hts (fun w h => List.mem_cons_of_mem _ (i_md w h)) t_md o_md n_md hown hK hP hD hS 0 rfl rfl 14 (by decide) (hT _ tb_473) (fun _ h9 => h9) rfl (by decide +kernel) rfl rfl (Nat.le_of_ble_eq_true rfl) d_md_act_218 (fun H locs hP hD hS => ?_)
  have hP : va_P D cx (mv ad cs (sg_im u) (sg_ap u) (sg_ag u) (sg_he u) (sg_er u) (sg_ev u) (sg_en u) (sg_ma u) (sg_po u) (sg_se u) (sg_se u (sp_rm x (8)).toNatClampNeg) (sg_fa u) (sg_la u) (sg_st u) (jm_ag j) (jm_de j) (jm_ru j) (jm_nx j) (jm_th j)) H := hP
  have hD : va_D A (mv ad cs (sg_im u) (sg_ap u) (sg_ag u) (sg_he u) (sg_er u) (sg_ev u) (sg_en u) (sg_ma u) (sg_po u) (sg_se u) (sg_se u (sp_rm x (8)).toNatClampNeg) (sg_fa u) (sg_la u) (sg_st u) (jm_ag j) (jm_de j) (jm_ru j) (jm_nx j) (jm_th j)) := hD
  obtain ⟨v1, ev1⟩ : ∃ z : Sg, z = (sg_im u, sg_ap u, sg_ag u, sg_he u, sg_er u, sg_ev u, sg_en u, sg_ma u, sg_po u, sg_se u, sg_se u (sp_rm x (8)).toNatClampNeg, sg_fa u, sg_la u, sg_st u) := ⟨_, rfl⟩
  have hP : va_P D cx (mw ad cs v1 j) H := by rw [ev1, mw_u]; exact hP
  have hD : va_D A (mw ad cs v1 j) := by rw [ev1, mw_u]; exact hD
  subst ev1
  exact W.vret hx hb hret (fun t ht hW => ⟨⟨j, rfl, (by exact ⟨rfl, rfl, rfl⟩), by rw [ht]; exact hP, va_K.moved hW.alike hK, hD⟩, hS.F ht⟩) hS.2.2 d_md_act_221
set_option maxHeartbeats 4000000 in
set_option maxRecDepth 100000 in
theorem c_act_5 (l : Launch) (D : va_G) (cs : Nat → ClassId) (ad : Nat → Nat) (sz : Nat) (u : Sg) (j : Jm) (code x y d : Int32) (hc : code = 5)  : Met l y_md_act (Cond.code y_md_act b_md_act 6 none :: TB) { frames := 4, cells := 0, slots := 0, locals := 110 } (va_Pc [.ref (ad 0), .int code, .int x, .int y, .int d] (mw_Pre D cs ad u j sz)) (va_Qv (fun (j1 : Jm) => jm_de j1 = jm_de j ∧ jm_ru j1 = jm_ru j ∧ jm_nx j1 = (jm_nx j)) (fun (j1 : Jm) t => mw_B D cs ad (va_A (mw ad cs u j) sz) (ss_ac u (sp_h (sg_ac u) x.toInt64)) j1 t) (va_A (mw ad cs u j) sz)) 0 0 (va_A (mw ad cs u j) sz) := by
  refine Met.ofW (cc := b_md_act) (maxL := 6) (ret := none) (by decide) rfl ?_
  intro p e s m args below meth c s₁ B hml hv
  obtain ⟨rfl, hsz, hP, hK, hD, hN⟩ := hv
  have hx := B.exec
  have hb := B.bytes
  have hret := B.returns
  have hts := atoms_spec (ws := Cond.code y_md_act b_md_act 6 none :: TB) B.pre
  have hT : ∀ w ∈ TB, w.before _ s = true := fun w h => hts w (List.mem_cons_of_mem _ h)
  have hown : s.vm.findClass "MeasuredStagesModel" = some m.cls := findClass_of_methodNamed B.named
  have hlocks := B.notSynchronized
  subst hsz
  have hD := hD.self (sz := s.heap.size)
  generalize hAe : va_A (mw ad cs u j) s.heap.size = A at hD ⊢
  have hA : ∀ q : Nat, s.heap.size ≤ q → A q := fun q h => by rw [← hAe]; exact Or.inr h
  have hS : va_S A s.heap s.heap [] := va_S.rf
  have hl := lv_entry ([.ref (ad 0), .int code, .int x, .int y, .int d]) (n := 6) (Nat.le_of_ble_eq_true rfl)
  rw [lg_entry_eq]
  generalize (lg_sl ([.ref (ad 0), .int code, .int x, .int y, .int d]) ++ List.replicate (6 - (lg_sl ([.ref (ad 0), .int code, .int x, .int y, .int d])).length) Slot.unset).toArray = ls at hl ⊢
  have hl : lv_has ls 6 [(0, .ref (ad 0)), (1, .int code), (2, .int x), (3, .int y), (4, .int d)] := hl
  skip
  refine lv_iconst (v := 1) hx hb d_md_act_0 (by decide) ?_
  refine lv_istore (nL := 6) (lv' := [(5, .int (1)), (0, .ref (ad 0)), (1, .int code), (2, .int x), (3, .int y), (4, .int d)]) hx hb d_md_act_1 hl (by decide) rfl (fun ls hl => ?_)
  refine lv_iload_n hx hb d_md_act_3 rfl (lv_at hl 2 rfl) ?_
  refine W.eq (g2 := F0 m 4 ls (.int 5 :: [])) (by rw [hc]) ?_
  refine lv_tableIn hx hb d_md_act_4 (off := 111) (tgt := 115) (by decide) (by decide) rfl (by decide) ?_
  refine lv_aload_n hx hb d_md_act_115 rfl (lv_at hl 1 rfl) ?_
  refine lv_aload_n hx hb d_md_act_116 rfl (lv_at hl 1 rfl) ?_
  refine va_get (D := D) (ci := 3) (v := .long (sg_ac u)) (C := "MeasuredStagesModel") (T := F_md) (N := 19) hx hb hts (fun w h => List.mem_cons_of_mem _ (i_md w h)) hown hK hP 0 rfl rfl 11 (by decide) (hT _ tb_470) (fun _ h9 => h9) rfl d_md_act_117 ?_
  refine lv_iload_n hx hb d_md_act_120 rfl (lv_at hl 3 rfl) ?_
  refine lv_i2l hx hb d_md_act_121 rfl ?_
  refine st_l (v := sp_h (sg_ac u) (x.toInt64)) (As := [.long (sg_ac u), .long (x.toInt64)]) (rest := [.ref (ad 0)]) ⟨hx, hb, hml, hown, hts⟩ (c_md_h l (sg_ac u) (x.toInt64)) tb_534 tb_535 tb_4 tb_536 hd_md_h ⟨Nat.le_of_ble_eq_true rfl, Nat.le_of_ble_eq_true rfl⟩ rfl rfl hl.1 rfl (Nat.le_of_ble_eq_true rfl) d_md_act_122 ⟨Nat.zero_le _, Nat.zero_le _⟩ ?_
  refine va_put (D := D) (ci := 3) (v := .long (sp_h (sg_ac u) (x.toInt64))) (ty := .long) (C := "MeasuredStagesModel") (T := F_md) (N := 19) hx hb hts (fun w h => List.mem_cons_of_mem _ (i_md w h)) t_md o_md n_md hown hK hP hD hS 0 rfl rfl 11 (by decide) (hT _ tb_470) (fun _ h9 => h9) rfl (by decide +kernel) rfl rfl (Nat.le_of_ble_eq_true rfl) d_md_act_125 (fun H locs hP hD hS => ?_)
  have hP : va_P D cx (mv ad cs (sg_im u) (sg_ap u) (sg_ag u) (sg_he u) (sg_er u) (sg_ev u) (sg_en u) (sg_ma u) (sg_po u) (sg_se u) (sp_h (sg_ac u) (x.toInt64)) (sg_fa u) (sg_la u) (sg_st u) (jm_ag j) (jm_de j) (jm_ru j) (jm_nx j) (jm_th j)) H := hP
  have hD : va_D A (mv ad cs (sg_im u) (sg_ap u) (sg_ag u) (sg_he u) (sg_er u) (sg_ev u) (sg_en u) (sg_ma u) (sg_po u) (sg_se u) (sp_h (sg_ac u) (x.toInt64)) (sg_fa u) (sg_la u) (sg_st u) (jm_ag j) (jm_de j) (jm_ru j) (jm_nx j) (jm_th j)) := hD
  refine lv_goto hx hb d_md_act_128 (tgt := 204) (by decide) ?_
  refine lv_aload_n hx hb d_md_act_204 rfl (lv_at hl 1 rfl) ?_
  refine lv_iload hx hb d_md_act_205 (lv_at hl 0 rfl) ?_
  refine lv_if_eq hx hb d_md_act_207 (tgt := 217) (by decide) (fun z => absurd z (by decide)) (fun _ => ?_)
  refine lv_aload_n hx hb d_md_act_210 rfl (lv_at hl 1 rfl) ?_
  refine va_get (D := D) (ci := 3) (v := .int (sg_fa u)) (C := "MeasuredStagesModel") (T := F_md) (N := 19) hx hb hts (fun w h => List.mem_cons_of_mem _ (i_md w h)) hown hK hP 0 rfl rfl 14 (by decide) (hT _ tb_473) (fun _ h9 => h9) rfl d_md_act_211 ?_
  refine lv_goto hx hb d_md_act_214 (tgt := 218) (by decide) ?_
  refine va_put (D := D) (ci := 3) (v := .int (sg_fa u)) (ty := .int) (C := "MeasuredStagesModel") (T := F_md) (N := 19) hx hb hts (fun w h => List.mem_cons_of_mem _ (i_md w h)) t_md o_md n_md hown hK hP hD hS 0 rfl rfl 14 (by decide) (hT _ tb_473) (fun _ h9 => h9) rfl (by decide +kernel) rfl rfl (Nat.le_of_ble_eq_true rfl) d_md_act_218 (fun H locs hP hD hS => ?_)
  have hP : va_P D cx (mv ad cs (sg_im u) (sg_ap u) (sg_ag u) (sg_he u) (sg_er u) (sg_ev u) (sg_en u) (sg_ma u) (sg_po u) (sg_se u) (sp_h (sg_ac u) (x.toInt64)) (sg_fa u) (sg_la u) (sg_st u) (jm_ag j) (jm_de j) (jm_ru j) (jm_nx j) (jm_th j)) H := hP
  have hD : va_D A (mv ad cs (sg_im u) (sg_ap u) (sg_ag u) (sg_he u) (sg_er u) (sg_ev u) (sg_en u) (sg_ma u) (sg_po u) (sg_se u) (sp_h (sg_ac u) (x.toInt64)) (sg_fa u) (sg_la u) (sg_st u) (jm_ag j) (jm_de j) (jm_ru j) (jm_nx j) (jm_th j)) := hD
  obtain ⟨v1, ev1⟩ : ∃ z : Sg, z = (sg_im u, sg_ap u, sg_ag u, sg_he u, sg_er u, sg_ev u, sg_en u, sg_ma u, sg_po u, sg_se u, sp_h (sg_ac u) (x.toInt64), sg_fa u, sg_la u, sg_st u) := ⟨_, rfl⟩
  have hP : va_P D cx (mw ad cs v1 j) H := by rw [ev1, mw_u]; exact hP
  have hD : va_D A (mw ad cs v1 j) := by rw [ev1, mw_u]; exact hD
  subst ev1
  exact W.vret hx hb hret (fun t ht hW => ⟨⟨j, rfl, (by exact ⟨rfl, rfl, rfl⟩), by rw [ht]; exact hP, va_K.moved hW.alike hK, hD⟩, hS.F ht⟩) hS.2.2 d_md_act_221
set_option maxHeartbeats 4000000 in
set_option maxRecDepth 100000 in
theorem c_act_6 (l : Launch) (D : va_G) (cs : Nat → ClassId) (ad : Nat → Nat) (sz : Nat) (u : Sg) (j : Jm) (code x y d : Int32) (hc : code = 6) (h6 : vp_in (sp_rm x 6) 6) (he : vp_in (sg_en u) 32) : Met l y_md_act (Cond.code y_md_act b_md_act 6 none :: TB) { frames := 4, cells := 0, slots := 0, locals := 110 } (va_Pc [.ref (ad 0), .int code, .int x, .int y, .int d] (mw_Pre D cs ad u j sz)) (va_Qv (fun (j1 : Jm) => jm_de j1 = jm_de j ∧ jm_ru j1 = jm_ru j ∧ jm_nx j1 = (jm_nx j)) (fun (j1 : Jm) t => mw_B D cs ad (va_A (mw ad cs u j) sz) (sp_no u (sp_rm x 6) (sg_ac u)) j1 t) (va_A (mw ad cs u j) sz)) 0 0 (va_A (mw ad cs u j) sz) := by
  refine Met.ofW (cc := b_md_act) (maxL := 6) (ret := none) (by decide) rfl ?_
  intro p e s m args below meth c s₁ B hml hv
  obtain ⟨rfl, hsz, hP, hK, hD, hN⟩ := hv
  have hx := B.exec
  have hb := B.bytes
  have hret := B.returns
  have hts := atoms_spec (ws := Cond.code y_md_act b_md_act 6 none :: TB) B.pre
  have hT : ∀ w ∈ TB, w.before _ s = true := fun w h => hts w (List.mem_cons_of_mem _ h)
  have hown : s.vm.findClass "MeasuredStagesModel" = some m.cls := findClass_of_methodNamed B.named
  have hlocks := B.notSynchronized
  subst hsz
  have hD := hD.self (sz := s.heap.size)
  generalize hAe : va_A (mw ad cs u j) s.heap.size = A at hD ⊢
  have hA : ∀ q : Nat, s.heap.size ≤ q → A q := fun q h => by rw [← hAe]; exact Or.inr h
  have hS : va_S A s.heap s.heap [] := va_S.rf
  have hl := lv_entry ([.ref (ad 0), .int code, .int x, .int y, .int d]) (n := 6) (Nat.le_of_ble_eq_true rfl)
  rw [lg_entry_eq]
  generalize (lg_sl ([.ref (ad 0), .int code, .int x, .int y, .int d]) ++ List.replicate (6 - (lg_sl ([.ref (ad 0), .int code, .int x, .int y, .int d])).length) Slot.unset).toArray = ls at hl ⊢
  have hl : lv_has ls 6 [(0, .ref (ad 0)), (1, .int code), (2, .int x), (3, .int y), (4, .int d)] := hl
  skip
  refine lv_iconst (v := 1) hx hb d_md_act_0 (by decide) ?_
  refine lv_istore (nL := 6) (lv' := [(5, .int (1)), (0, .ref (ad 0)), (1, .int code), (2, .int x), (3, .int y), (4, .int d)]) hx hb d_md_act_1 hl (by decide) rfl (fun ls hl => ?_)
  refine lv_iload_n hx hb d_md_act_3 rfl (lv_at hl 2 rfl) ?_
  refine W.eq (g2 := F0 m 4 ls (.int 6 :: [])) (by rw [hc]) ?_
  refine lv_tableIn hx hb d_md_act_4 (off := 127) (tgt := 131) (by decide) (by decide) rfl (by decide) ?_
  refine lv_aload_n hx hb d_md_act_131 rfl (lv_at hl 1 rfl) ?_
  refine lv_iload_n hx hb d_md_act_132 rfl (lv_at hl 3 rfl) ?_
  refine lv_bipush (v := 6) hx hb d_md_act_133 (by decide) ?_
  refine lv_irem hx hb d_md_act_135 (by decide) ?_
  refine lv_aload_n hx hb d_md_act_136 rfl (lv_at hl 1 rfl) ?_
  refine va_get (D := D) (ci := 3) (v := .long (sg_ac u)) (C := "MeasuredStagesModel") (T := F_md) (N := 19) hx hb hts (fun w h => List.mem_cons_of_mem _ (i_md w h)) hown hK hP 0 rfl rfl 11 (by decide) (hT _ tb_470) (fun _ h9 => h9) rfl d_md_act_137 ?_
  refine mw_wri (v := 1) (u' := sp_no u (sp_rm x (6)) (sg_ac u)) (As := [.int (sp_rm x (6)), .long (sg_ac u)]) (rest := []) ⟨hx, hb, hml, hown, hts⟩ (c_md_note l D cs ad _ u j (sp_rm x (6)) (sg_ac u) h6 he) tb_548 tb_550 sl_17 tb_4 tb_551 ⟨rfl, hd_md_note⟩ ⟨Nat.le_of_ble_eq_true rfl, Nat.le_of_ble_eq_true rfl⟩ rfl rfl hK hP hD hN 0 3 rfl rfl hl.1 rfl (Nat.le_of_ble_eq_true rfl) d_md_act_140 ⟨Nat.zero_le _, Nat.zero_le _⟩ hS hA (fun j1 H locs hj2 hP hD hS => ?_)
  obtain ⟨v3, ev3⟩ : ∃ z : Sg, z = sp_no u (sp_rm x (6)) (sg_ac u) := ⟨_, rfl⟩
  rw [← ev3] at hP hD
  rw [hj2] at hP hD
  refine lv_istore (nL := 6) (lv' := [(5, .int (1)), (0, .ref (ad 0)), (1, .int code), (2, .int x), (3, .int y), (4, .int d)]) hx hb d_md_act_143 hl (by decide) rfl (fun ls hl => ?_)
  refine lv_goto hx hb d_md_act_145 (tgt := 204) (by decide) ?_
  refine lv_aload_n hx hb d_md_act_204 rfl (lv_at hl 1 rfl) ?_
  refine lv_iload hx hb d_md_act_205 (lv_at hl 0 rfl) ?_
  refine lv_if_eq hx hb d_md_act_207 (tgt := 217) (by decide) (fun z => absurd z (by decide)) (fun _ => ?_)
  refine lv_aload_n hx hb d_md_act_210 rfl (lv_at hl 1 rfl) ?_
  refine va_get (D := D) (ci := 3) (v := .int (sg_fa v3)) (C := "MeasuredStagesModel") (T := F_md) (N := 19) hx hb hts (fun w h => List.mem_cons_of_mem _ (i_md w h)) hown hK hP 0 rfl rfl 14 (by decide) (hT _ tb_473) (fun _ h9 => h9) rfl d_md_act_211 ?_
  refine lv_goto hx hb d_md_act_214 (tgt := 218) (by decide) ?_
  refine va_put (D := D) (ci := 3) (v := .int (sg_fa v3)) (ty := .int) (C := "MeasuredStagesModel") (T := F_md) (N := 19) hx hb hts (fun w h => List.mem_cons_of_mem _ (i_md w h)) t_md o_md n_md hown hK hP hD hS 0 rfl rfl 14 (by decide) (hT _ tb_473) (fun _ h9 => h9) rfl (by decide +kernel) rfl rfl (Nat.le_of_ble_eq_true rfl) d_md_act_218 (fun H locs hP hD hS => ?_)
  have hP : va_P D cx (mw ad cs v3 j) H := hP
  have hD : va_D A (mw ad cs v3 j) := hD
  subst ev3
  exact W.vret hx hb hret (fun t ht hW => ⟨⟨j, rfl, (by exact ⟨rfl, rfl, rfl⟩), by rw [ht]; exact hP, va_K.moved hW.alike hK, hD⟩, hS.F ht⟩) hS.2.2 d_md_act_221
set_option maxHeartbeats 4000000 in
set_option maxRecDepth 100000 in
theorem c_act_7 (l : Launch) (D : va_G) (cs : Nat → ClassId) (ad : Nat → Nat) (sz : Nat) (u : Sg) (j : Jm) (code x y d : Int32) (hc : code = 7) (hd : vp_in d 6) : Met l y_md_act (Cond.code y_md_act b_md_act 6 none :: TB) { frames := 4, cells := 0, slots := 0, locals := 110 } (va_Pc [.ref (ad 0), .int code, .int x, .int y, .int d] (mw_Pre D cs ad u j sz)) (va_Qv (fun (j1 : Jm) => jm_de j1 = jm_de j ∧ jm_ru j1 = jm_ru j ∧ jm_nx j1 = (if sg_ac u = 0 then upd (jm_nx j) d.toNatClampNeg (jm_nx j d.toNatClampNeg + x) else jm_nx j)) (fun (j1 : Jm) t => mw_B D cs ad (va_A (mw ad cs u j) sz) u j1 t) (va_A (mw ad cs u j) sz)) 0 0 (va_A (mw ad cs u j) sz) := by
  refine Met.ofW (cc := b_md_act) (maxL := 6) (ret := none) (by decide) rfl ?_
  intro p e s m args below meth c s₁ B hml hv
  obtain ⟨rfl, hsz, hP, hK, hD, hN⟩ := hv
  have hx := B.exec
  have hb := B.bytes
  have hret := B.returns
  have hts := atoms_spec (ws := Cond.code y_md_act b_md_act 6 none :: TB) B.pre
  have hT : ∀ w ∈ TB, w.before _ s = true := fun w h => hts w (List.mem_cons_of_mem _ h)
  have hown : s.vm.findClass "MeasuredStagesModel" = some m.cls := findClass_of_methodNamed B.named
  have hlocks := B.notSynchronized
  subst hsz
  have hD := hD.self (sz := s.heap.size)
  generalize hAe : va_A (mw ad cs u j) s.heap.size = A at hD ⊢
  have hA : ∀ q : Nat, s.heap.size ≤ q → A q := fun q h => by rw [← hAe]; exact Or.inr h
  have hS : va_S A s.heap s.heap [] := va_S.rf
  have hl := lv_entry ([.ref (ad 0), .int code, .int x, .int y, .int d]) (n := 6) (Nat.le_of_ble_eq_true rfl)
  rw [lg_entry_eq]
  generalize (lg_sl ([.ref (ad 0), .int code, .int x, .int y, .int d]) ++ List.replicate (6 - (lg_sl ([.ref (ad 0), .int code, .int x, .int y, .int d])).length) Slot.unset).toArray = ls at hl ⊢
  have hl : lv_has ls 6 [(0, .ref (ad 0)), (1, .int code), (2, .int x), (3, .int y), (4, .int d)] := hl
  skip
  refine lv_iconst (v := 1) hx hb d_md_act_0 (by decide) ?_
  refine lv_istore (nL := 6) (lv' := [(5, .int (1)), (0, .ref (ad 0)), (1, .int code), (2, .int x), (3, .int y), (4, .int d)]) hx hb d_md_act_1 hl (by decide) rfl (fun ls hl => ?_)
  refine lv_iload_n hx hb d_md_act_3 rfl (lv_at hl 2 rfl) ?_
  refine W.eq (g2 := F0 m 4 ls (.int 7 :: [])) (by rw [hc]) ?_
  refine lv_tableIn hx hb d_md_act_4 (off := 144) (tgt := 148) (by decide) (by decide) rfl (by decide) ?_
  refine lv_aload_n hx hb d_md_act_148 rfl (lv_at hl 1 rfl) ?_
  refine va_get (D := D) (ci := 3) (v := .ref (ad 12)) (C := "MeasuredStagesModel") (T := F_md) (N := 19) hx hb hts (fun w h => List.mem_cons_of_mem _ (i_md w h)) hown hK hP 0 rfl rfl 17 (by decide) (hT _ tb_476) (fun _ h9 => h9) rfl d_md_act_149 ?_
  refine lv_iload hx hb d_md_act_152 (lv_at hl 5 rfl) ?_
  refine lv_aload_n hx hb d_md_act_154 rfl (lv_at hl 1 rfl) ?_
  refine va_get (D := D) (ci := 3) (v := .long (sg_ac u)) (C := "MeasuredStagesModel") (T := F_md) (N := 19) hx hb hts (fun w h => List.mem_cons_of_mem _ (i_md w h)) hown hK hP 0 rfl rfl 11 (by decide) (hT _ tb_470) (fun _ h9 => h9) rfl d_md_act_155 ?_
  refine lv_lconst (v := 0) hx hb d_md_act_158 (by decide) ?_
  refine W.lcmp hx hb d_md_act_159 ?_
  refine lv_if_ne hx hb d_md_act_160 (tgt := 175) (by decide) (fun h1 => ?_) (fun h1 => ?_)
  · skip
    have h1 := mt sp_cmp.mpr h1
    refine lv_aload_n hx hb d_md_act_175 rfl (lv_at hl 1 rfl) ?_
    refine va_get (D := D) (ci := 3) (v := .ref (ad 12)) (C := "MeasuredStagesModel") (T := F_md) (N := 19) hx hb hts (fun w h => List.mem_cons_of_mem _ (i_md w h)) hown hK hP 0 rfl rfl 17 (by decide) (hT _ tb_476) (fun _ h9 => h9) rfl d_md_act_176 ?_
    refine lv_iload hx hb d_md_act_179 (lv_at hl 5 rfl) ?_
    refine va_iald hx hb hK hP 12 11 rfl rfl hd d_md_act_181 ?_
    refine va_iast hx hb hK hP hD hS 12 11 rfl rfl hd d_md_act_182 (fun H locs hP hD hS => ?_)
    have hP : va_P D cx (mv ad cs (sg_im u) (sg_ap u) (sg_ag u) (sg_he u) (sg_er u) (sg_ev u) (sg_en u) (sg_ma u) (sg_po u) (sg_se u) (sg_ac u) (sg_fa u) (sg_la u) (sg_st u) (jm_ag j) (jm_de j) (jm_ru j) (upd (jm_nx j) d.toNatClampNeg (jm_nx j d.toNatClampNeg)) (jm_th j)) H := hP
    have hD : va_D A (mv ad cs (sg_im u) (sg_ap u) (sg_ag u) (sg_he u) (sg_er u) (sg_ev u) (sg_en u) (sg_ma u) (sg_po u) (sg_se u) (sg_ac u) (sg_fa u) (sg_la u) (sg_st u) (jm_ag j) (jm_de j) (jm_ru j) (upd (jm_nx j) d.toNatClampNeg (jm_nx j d.toNatClampNeg)) (jm_th j)) := hD
    refine lv_goto hx hb d_md_act_183 (tgt := 204) (by decide) ?_
    refine lv_aload_n hx hb d_md_act_204 rfl (lv_at hl 1 rfl) ?_
    refine lv_iload hx hb d_md_act_205 (lv_at hl 0 rfl) ?_
    refine lv_if_eq hx hb d_md_act_207 (tgt := 217) (by decide) (fun z => absurd z (by decide)) (fun _ => ?_)
    refine lv_aload_n hx hb d_md_act_210 rfl (lv_at hl 1 rfl) ?_
    refine va_get (D := D) (ci := 3) (v := .int (sg_fa u)) (C := "MeasuredStagesModel") (T := F_md) (N := 19) hx hb hts (fun w h => List.mem_cons_of_mem _ (i_md w h)) hown hK hP 0 rfl rfl 14 (by decide) (hT _ tb_473) (fun _ h9 => h9) rfl d_md_act_211 ?_
    refine lv_goto hx hb d_md_act_214 (tgt := 218) (by decide) ?_
    refine va_put (D := D) (ci := 3) (v := .int (sg_fa u)) (ty := .int) (C := "MeasuredStagesModel") (T := F_md) (N := 19) hx hb hts (fun w h => List.mem_cons_of_mem _ (i_md w h)) t_md o_md n_md hown hK hP hD hS 0 rfl rfl 14 (by decide) (hT _ tb_473) (fun _ h9 => h9) rfl (by decide +kernel) rfl rfl (Nat.le_of_ble_eq_true rfl) d_md_act_218 (fun H locs hP hD hS => ?_)
    have hP : va_P D cx (mv ad cs (sg_im u) (sg_ap u) (sg_ag u) (sg_he u) (sg_er u) (sg_ev u) (sg_en u) (sg_ma u) (sg_po u) (sg_se u) (sg_ac u) (sg_fa u) (sg_la u) (sg_st u) (jm_ag j) (jm_de j) (jm_ru j) (upd (jm_nx j) d.toNatClampNeg (jm_nx j d.toNatClampNeg)) (jm_th j)) H := hP
    have hD : va_D A (mv ad cs (sg_im u) (sg_ap u) (sg_ag u) (sg_he u) (sg_er u) (sg_ev u) (sg_en u) (sg_ma u) (sg_po u) (sg_se u) (sg_ac u) (sg_fa u) (sg_la u) (sg_st u) (jm_ag j) (jm_de j) (jm_ru j) (upd (jm_nx j) d.toNatClampNeg (jm_nx j d.toNatClampNeg)) (jm_th j)) := hD
    obtain ⟨q2, eq2⟩ : ∃ z : Jm, z = (jm_ag j, jm_de j, jm_ru j, upd (jm_nx j) d.toNatClampNeg (jm_nx j d.toNatClampNeg), jm_th j) := ⟨_, rfl⟩
    have hP : va_P D cx (mw ad cs u q2) H := by rw [eq2, mw_j]; exact hP
    have hD : va_D A (mw ad cs u q2) := by rw [eq2, mw_j]; exact hD
    exact W.vret hx hb hret (fun t ht hW => ⟨⟨q2, rfl, (by subst eq2; exact ⟨rfl, rfl, by rw [if_neg h1]; exact up_self⟩), by rw [ht]; exact hP, va_K.moved hW.alike hK, hD⟩, hS.F ht⟩) hS.2.2 d_md_act_221
  · skip
    have h1 := sp_cmp.mp h1
    refine lv_aload_n hx hb d_md_act_163 rfl (lv_at hl 1 rfl) ?_
    refine va_get (D := D) (ci := 3) (v := .ref (ad 12)) (C := "MeasuredStagesModel") (T := F_md) (N := 19) hx hb hts (fun w h => List.mem_cons_of_mem _ (i_md w h)) hown hK hP 0 rfl rfl 17 (by decide) (hT _ tb_476) (fun _ h9 => h9) rfl d_md_act_164 ?_
    refine lv_iload hx hb d_md_act_167 (lv_at hl 5 rfl) ?_
    refine va_iald hx hb hK hP 12 11 rfl rfl hd d_md_act_169 ?_
    refine lv_iload_n hx hb d_md_act_170 rfl (lv_at hl 3 rfl) ?_
    refine lv_iadd hx hb d_md_act_171 ?_
    refine lv_goto hx hb d_md_act_172 (tgt := 182) (by decide) ?_
    refine va_iast hx hb hK hP hD hS 12 11 rfl rfl hd d_md_act_182 (fun H locs hP hD hS => ?_)
    have hP : va_P D cx (mv ad cs (sg_im u) (sg_ap u) (sg_ag u) (sg_he u) (sg_er u) (sg_ev u) (sg_en u) (sg_ma u) (sg_po u) (sg_se u) (sg_ac u) (sg_fa u) (sg_la u) (sg_st u) (jm_ag j) (jm_de j) (jm_ru j) (upd (jm_nx j) d.toNatClampNeg ((jm_nx j d.toNatClampNeg) + x)) (jm_th j)) H := hP
    have hD : va_D A (mv ad cs (sg_im u) (sg_ap u) (sg_ag u) (sg_he u) (sg_er u) (sg_ev u) (sg_en u) (sg_ma u) (sg_po u) (sg_se u) (sg_ac u) (sg_fa u) (sg_la u) (sg_st u) (jm_ag j) (jm_de j) (jm_ru j) (upd (jm_nx j) d.toNatClampNeg ((jm_nx j d.toNatClampNeg) + x)) (jm_th j)) := hD
    refine lv_goto hx hb d_md_act_183 (tgt := 204) (by decide) ?_
    refine lv_aload_n hx hb d_md_act_204 rfl (lv_at hl 1 rfl) ?_
    refine lv_iload hx hb d_md_act_205 (lv_at hl 0 rfl) ?_
    refine lv_if_eq hx hb d_md_act_207 (tgt := 217) (by decide) (fun z => absurd z (by decide)) (fun _ => ?_)
    refine lv_aload_n hx hb d_md_act_210 rfl (lv_at hl 1 rfl) ?_
    refine va_get (D := D) (ci := 3) (v := .int (sg_fa u)) (C := "MeasuredStagesModel") (T := F_md) (N := 19) hx hb hts (fun w h => List.mem_cons_of_mem _ (i_md w h)) hown hK hP 0 rfl rfl 14 (by decide) (hT _ tb_473) (fun _ h9 => h9) rfl d_md_act_211 ?_
    refine lv_goto hx hb d_md_act_214 (tgt := 218) (by decide) ?_
    refine va_put (D := D) (ci := 3) (v := .int (sg_fa u)) (ty := .int) (C := "MeasuredStagesModel") (T := F_md) (N := 19) hx hb hts (fun w h => List.mem_cons_of_mem _ (i_md w h)) t_md o_md n_md hown hK hP hD hS 0 rfl rfl 14 (by decide) (hT _ tb_473) (fun _ h9 => h9) rfl (by decide +kernel) rfl rfl (Nat.le_of_ble_eq_true rfl) d_md_act_218 (fun H locs hP hD hS => ?_)
    have hP : va_P D cx (mv ad cs (sg_im u) (sg_ap u) (sg_ag u) (sg_he u) (sg_er u) (sg_ev u) (sg_en u) (sg_ma u) (sg_po u) (sg_se u) (sg_ac u) (sg_fa u) (sg_la u) (sg_st u) (jm_ag j) (jm_de j) (jm_ru j) (upd (jm_nx j) d.toNatClampNeg ((jm_nx j d.toNatClampNeg) + x)) (jm_th j)) H := hP
    have hD : va_D A (mv ad cs (sg_im u) (sg_ap u) (sg_ag u) (sg_he u) (sg_er u) (sg_ev u) (sg_en u) (sg_ma u) (sg_po u) (sg_se u) (sg_ac u) (sg_fa u) (sg_la u) (sg_st u) (jm_ag j) (jm_de j) (jm_ru j) (upd (jm_nx j) d.toNatClampNeg ((jm_nx j d.toNatClampNeg) + x)) (jm_th j)) := hD
    obtain ⟨q3, eq3⟩ : ∃ z : Jm, z = (jm_ag j, jm_de j, jm_ru j, upd (jm_nx j) d.toNatClampNeg ((jm_nx j d.toNatClampNeg) + x), jm_th j) := ⟨_, rfl⟩
    have hP : va_P D cx (mw ad cs u q3) H := by rw [eq3, mw_j]; exact hP
    have hD : va_D A (mw ad cs u q3) := by rw [eq3, mw_j]; exact hD
    exact W.vret hx hb hret (fun t ht hW => ⟨⟨q3, rfl, (by subst eq3; exact ⟨rfl, rfl, by rw [if_pos h1]; rfl⟩), by rw [ht]; exact hP, va_K.moved hW.alike hK, hD⟩, hS.F ht⟩) hS.2.2 d_md_act_221
set_option maxHeartbeats 4000000 in
set_option maxRecDepth 100000 in
theorem c_act_8 (l : Launch) (D : va_G) (cs : Nat → ClassId) (ad : Nat → Nat) (sz : Nat) (u : Sg) (j : Jm) (code x y d : Int32) (hc : code = 8) (hk : vp_in (sp_lf (sg_ma u)) 8) : Met l y_md_act (Cond.code y_md_act b_md_act 6 none :: TB) { frames := 4, cells := 0, slots := 0, locals := 110 } (va_Pc [.ref (ad 0), .int code, .int x, .int y, .int d] (mw_Pre D cs ad u j sz)) (va_Qv (fun (j1 : Jm) => jm_de j1 = jm_de j ∧ jm_ru j1 = jm_ru j ∧ jm_nx j1 = (jm_nx j)) (fun (j1 : Jm) t => mw_B D cs ad (va_A (mw ad cs u j) sz) (sp_fi u (sp_lf (sg_ma u)) (x + 1) (sg_ac u)) j1 t) (va_A (mw ad cs u j) sz)) 0 0 (va_A (mw ad cs u j) sz) := by
  refine Met.ofW (cc := b_md_act) (maxL := 6) (ret := none) (by decide) rfl ?_
  intro p e s m args below meth c s₁ B hml hv
  obtain ⟨rfl, hsz, hP, hK, hD, hN⟩ := hv
  have hx := B.exec
  have hb := B.bytes
  have hret := B.returns
  have hts := atoms_spec (ws := Cond.code y_md_act b_md_act 6 none :: TB) B.pre
  have hT : ∀ w ∈ TB, w.before _ s = true := fun w h => hts w (List.mem_cons_of_mem _ h)
  have hown : s.vm.findClass "MeasuredStagesModel" = some m.cls := findClass_of_methodNamed B.named
  have hlocks := B.notSynchronized
  subst hsz
  have hD := hD.self (sz := s.heap.size)
  generalize hAe : va_A (mw ad cs u j) s.heap.size = A at hD ⊢
  have hA : ∀ q : Nat, s.heap.size ≤ q → A q := fun q h => by rw [← hAe]; exact Or.inr h
  have hS : va_S A s.heap s.heap [] := va_S.rf
  have hl := lv_entry ([.ref (ad 0), .int code, .int x, .int y, .int d]) (n := 6) (Nat.le_of_ble_eq_true rfl)
  rw [lg_entry_eq]
  generalize (lg_sl ([.ref (ad 0), .int code, .int x, .int y, .int d]) ++ List.replicate (6 - (lg_sl ([.ref (ad 0), .int code, .int x, .int y, .int d])).length) Slot.unset).toArray = ls at hl ⊢
  have hl : lv_has ls 6 [(0, .ref (ad 0)), (1, .int code), (2, .int x), (3, .int y), (4, .int d)] := hl
  skip
  refine lv_iconst (v := 1) hx hb d_md_act_0 (by decide) ?_
  refine lv_istore (nL := 6) (lv' := [(5, .int (1)), (0, .ref (ad 0)), (1, .int code), (2, .int x), (3, .int y), (4, .int d)]) hx hb d_md_act_1 hl (by decide) rfl (fun ls hl => ?_)
  refine lv_iload_n hx hb d_md_act_3 rfl (lv_at hl 2 rfl) ?_
  refine W.eq (g2 := F0 m 4 ls (.int 8 :: [])) (by rw [hc]) ?_
  refine lv_tableIn hx hb d_md_act_4 (off := 182) (tgt := 186) (by decide) (by decide) rfl (by decide) ?_
  refine lv_aload_n hx hb d_md_act_186 rfl (lv_at hl 1 rfl) ?_
  refine lv_aload_n hx hb d_md_act_187 rfl (lv_at hl 1 rfl) ?_
  refine mw_rdi (v := sp_lf (sg_ma u)) (As := []) (rest := [.ref (ad 0)]) ⟨hx, hb, hml, hown, hts⟩ (c_md_freeBlob l D cs ad _ u j ) tb_570 tb_572 sl_22 tb_4 tb_573 ⟨rfl, hd_md_freeBlob⟩ ⟨Nat.le_of_ble_eq_true rfl, Nat.le_of_ble_eq_true rfl⟩ rfl rfl hK hP hD hN 0 3 rfl rfl hl.1 rfl (Nat.le_of_ble_eq_true rfl) d_md_act_188 ⟨Nat.zero_le _, Nat.zero_le _⟩ ?_
  refine lv_iload_n hx hb d_md_act_191 rfl (lv_at hl 3 rfl) ?_
  refine lv_iconst (v := 1) hx hb d_md_act_192 (by decide) ?_
  refine lv_iadd hx hb d_md_act_193 ?_
  refine lv_aload_n hx hb d_md_act_194 rfl (lv_at hl 1 rfl) ?_
  refine va_get (D := D) (ci := 3) (v := .long (sg_ac u)) (C := "MeasuredStagesModel") (T := F_md) (N := 19) hx hb hts (fun w h => List.mem_cons_of_mem _ (i_md w h)) hown hK hP 0 rfl rfl 11 (by decide) (hT _ tb_470) (fun _ h9 => h9) rfl d_md_act_195 ?_
  refine mw_wrv (u' := sp_fi u (sp_lf (sg_ma u)) (x + (1)) (sg_ac u)) (As := [.int (sp_lf (sg_ma u)), .int (x + (1)), .long (sg_ac u)]) (rest := []) ⟨hx, hb, hml, hown, hts⟩ (c_md_fill l D cs ad _ u j (sp_lf (sg_ma u)) (x + (1)) (sg_ac u) hk) tb_581 tb_583 sl_24 tb_4 tb_584 ⟨rfl, hd_md_fill⟩ ⟨Nat.le_of_ble_eq_true rfl, Nat.le_of_ble_eq_true rfl⟩ rfl rfl hK hP hD hN 0 3 rfl rfl hl.1 rfl (Nat.le_of_ble_eq_true rfl) d_md_act_198 ⟨Nat.zero_le _, Nat.zero_le _⟩ hS hA (fun j1 H locs hj2 hP hD hS => ?_)
  obtain ⟨v3, ev3⟩ : ∃ z : Sg, z = sp_fi u (sp_lf (sg_ma u)) (x + (1)) (sg_ac u) := ⟨_, rfl⟩
  rw [← ev3] at hP hD
  rw [hj2] at hP hD
  refine lv_goto hx hb d_md_act_201 (tgt := 204) (by decide) ?_
  refine lv_aload_n hx hb d_md_act_204 rfl (lv_at hl 1 rfl) ?_
  refine lv_iload hx hb d_md_act_205 (lv_at hl 0 rfl) ?_
  refine lv_if_eq hx hb d_md_act_207 (tgt := 217) (by decide) (fun z => absurd z (by decide)) (fun _ => ?_)
  refine lv_aload_n hx hb d_md_act_210 rfl (lv_at hl 1 rfl) ?_
  refine va_get (D := D) (ci := 3) (v := .int (sg_fa v3)) (C := "MeasuredStagesModel") (T := F_md) (N := 19) hx hb hts (fun w h => List.mem_cons_of_mem _ (i_md w h)) hown hK hP 0 rfl rfl 14 (by decide) (hT _ tb_473) (fun _ h9 => h9) rfl d_md_act_211 ?_
  refine lv_goto hx hb d_md_act_214 (tgt := 218) (by decide) ?_
  refine va_put (D := D) (ci := 3) (v := .int (sg_fa v3)) (ty := .int) (C := "MeasuredStagesModel") (T := F_md) (N := 19) hx hb hts (fun w h => List.mem_cons_of_mem _ (i_md w h)) t_md o_md n_md hown hK hP hD hS 0 rfl rfl 14 (by decide) (hT _ tb_473) (fun _ h9 => h9) rfl (by decide +kernel) rfl rfl (Nat.le_of_ble_eq_true rfl) d_md_act_218 (fun H locs hP hD hS => ?_)
  have hP : va_P D cx (mw ad cs v3 j) H := hP
  have hD : va_D A (mw ad cs v3 j) := hD
  subst ev3
  exact W.vret hx hb hret (fun t ht hW => ⟨⟨j, rfl, (by exact ⟨rfl, rfl, rfl⟩), by rw [ht]; exact hP, va_K.moved hW.alike hK, hD⟩, hS.F ht⟩) hS.2.2 d_md_act_221
end
section
/-- what an instruction does in the model -/
theorem c_md_act (l : Launch) (D : va_G) (cs : Nat → ClassId) (ad : Nat → Nat) (sz : Nat) (u : Sg) (j : Jm) (code x y d : Int32) (hd : vp_in d 6) (hok : sp_ok u) (h8 : vp_in (sp_rm x 8) 8) (h6 : vp_in (sp_rm x 6) 6) (hk : ∃ k : Nat, k < 16 ∧ code = nI k) (hf : sp_fo u code x d = 0) : Met l y_md_act (Cond.code y_md_act b_md_act 6 none :: TB) { frames := 4, cells := 0, slots := 0, locals := 110 } (va_Pc [.ref (ad 0), .int code, .int x, .int y, .int d] (mw_Pre D cs ad u j sz)) (va_Qv (fun (j1 : Jm) => mb (sp_ac (mb u j) code x y d).1 j1 = sp_ac (mb u j) code x y d) (fun (j1 : Jm) t => mw_B D cs ad (va_A (mw ad cs u j) sz) (sp_ac (mb u j) code x y d).1 j1 t) (va_A (mw ad cs u j) sz)) 0 0 (va_A (mw ad cs u j) sz) := by
  obtain ⟨k, hk, ek⟩ := hk
  rcases (show k = 0 ∨ k = 1 ∨ k = 2 ∨ k = 3 ∨ k = 4 ∨ k = 5 ∨ k = 6 ∨ k = 7 ∨ k = 8 ∨ 8 < k by omega) with h | h | h | h | h | h | h | h | h | h
  · subst h
    have hc : code = 0 := ek
    subst hc
    rw [ac_0]
    refine mt_mono (c_act_0 l D cs ad sz u j 0 x y d rfl ) ?_
    intro a st o t hq
    obtain ⟨⟨j1, q1, ⟨q3, q4, q5⟩, hB⟩, hF⟩ := hq
    exact ⟨⟨j1, q1, mb_eq (b := (u, d - 1, jm_ru j, jm_nx j)) q3 q4 q5, hB⟩, hF⟩
  · subst h
    have hc : code = 1 := ek
    subst hc
    rw [fo_1] at hf
    have h5 : ¬ d = 5 := fun z => by rw [if_pos z] at hf; exact absurd hf (by decide)
    rw [if_neg h5] at hf
    have he : ¬ sg_en u = 32 := fun z => by rw [if_pos z] at hf; exact absurd hf (by decide)
    rw [ac_1]
    refine mt_mono (c_act_1 l D cs ad sz u j 1 x y d rfl h8 (de_up hd h5) (en_in hok he)) ?_
    intro a st o t hq
    obtain ⟨⟨j1, q1, ⟨q3, q4, q5⟩, hB⟩, hF⟩ := hq
    exact ⟨⟨j1, q1, mb_eq (b := sp_la (mb u j) (sp_rm x 8) (d + 1)) q3 q4 q5, hB⟩, hF⟩
  · subst h
    have hc : code = 2 := ek
    subst hc
    rw [fo_2] at hf
    have he : ¬ sg_en u = 32 := fun z => by rw [if_pos z] at hf; exact absurd hf (by decide)
    rw [ac_2]
    refine mt_mono (c_act_2 l D cs ad sz u j 2 x y d rfl h6 (en_in hok he)) ?_
    intro a st o t hq
    obtain ⟨⟨j1, q1, ⟨q3, q4, q5⟩, hB⟩, hF⟩ := hq
    exact ⟨⟨j1, q1, mb_eq (b := (sp_no u (sp_rm x 6) y.toInt64, (mb u j).2)) q3 q4 q5, hB⟩, hF⟩
  · subst h
    have hc : code = 3 := ek
    subst hc
    rw [ac_3]
    refine mt_mono (c_act_3 l D cs ad sz u j 3 x y d rfl ) ?_
    intro a st o t hq
    obtain ⟨⟨j1, q1, ⟨q3, q4, q5⟩, hB⟩, hF⟩ := hq
    exact ⟨⟨j1, q1, mb_eq (b := mb u j) q3 q4 q5, hB⟩, hF⟩
  · subst h
    have hc : code = 4 := ek
    subst hc
    rw [ac_4]
    refine mt_mono (c_act_4 l D cs ad sz u j 4 x y d rfl h8) ?_
    intro a st o t hq
    obtain ⟨⟨j1, q1, ⟨q3, q4, q5⟩, hB⟩, hF⟩ := hq
    exact ⟨⟨j1, q1, mb_eq (b := (ss_ac u (sg_se u (sp_rm x 8).toNatClampNeg), (mb u j).2)) q3 q4 q5, hB⟩, hF⟩
  · subst h
    have hc : code = 5 := ek
    subst hc
    rw [ac_5]
    refine mt_mono (c_act_5 l D cs ad sz u j 5 x y d rfl ) ?_
    intro a st o t hq
    obtain ⟨⟨j1, q1, ⟨q3, q4, q5⟩, hB⟩, hF⟩ := hq
    exact ⟨⟨j1, q1, mb_eq (b := (ss_ac u (sp_h (sg_ac u) x.toInt64), (mb u j).2)) q3 q4 q5, hB⟩, hF⟩
  · subst h
    have hc : code = 6 := ek
    subst hc
    rw [fo_6] at hf
    have he : ¬ sg_en u = 32 := fun z => by rw [if_pos z] at hf; exact absurd hf (by decide)
    rw [ac_6]
    refine mt_mono (c_act_6 l D cs ad sz u j 6 x y d rfl h6 (en_in hok he)) ?_
    intro a st o t hq
    obtain ⟨⟨j1, q1, ⟨q3, q4, q5⟩, hB⟩, hF⟩ := hq
    exact ⟨⟨j1, q1, mb_eq (b := (sp_no u (sp_rm x 6) (sg_ac u), (mb u j).2)) q3 q4 q5, hB⟩, hF⟩
  · subst h
    have hc : code = 7 := ek
    subst hc
    rw [ac_7]
    refine mt_mono (c_act_7 l D cs ad sz u j 7 x y d rfl hd) ?_
    intro a st o t hq
    obtain ⟨⟨j1, q1, ⟨q3, q4, q5⟩, hB⟩, hF⟩ := hq
    exact ⟨⟨j1, q1, mb_eq (b := (u, jm_de j, jm_ru j, if sg_ac u = 0 then upd (jm_nx j) d.toNatClampNeg (jm_nx j d.toNatClampNeg + x) else jm_nx j)) q3 q4 q5, hB⟩, hF⟩
  · subst h
    have hc : code = 8 := ek
    subst hc
    rw [fo_8] at hf
    have h1 : ¬ sp_lf (sg_ma u) < 0 := fun z => by rw [if_pos z] at hf; exact absurd hf (by decide)
    rw [ac_8]
    refine mt_mono (c_act_8 l D cs ad sz u j 8 x y d rfl (lf_in h1)) ?_
    intro a st o t hq
    obtain ⟨⟨j1, q1, ⟨q3, q4, q5⟩, hB⟩, hF⟩ := hq
    exact ⟨⟨j1, q1, mb_eq (b := (sp_fi u (sp_lf (sg_ma u)) (x + 1) (sg_ac u), (mb u j).2)) q3 q4 q5, hB⟩, hF⟩
  · rw [fo_9 _ _ _ _ (by rw [ek]; exact nI_lt (a := 8) h (by omega))] at hf
    exact absurd hf (by decide)
theorem d_md_instruction_0 : decode b_md_instruction 0 = .ok (.aload_n 0, 1) := by decide +kernel
theorem d_md_instruction_1 : decode b_md_instruction 1 = .ok (.getfield 85, 3) := by decide +kernel
theorem d_md_instruction_4 : decode b_md_instruction 4 = .ok (.istore_n 1, 1) := by decide +kernel
theorem d_md_instruction_5 : decode b_md_instruction 5 = .ok (.aload_n 0, 1) := by decide +kernel
theorem d_md_instruction_6 : decode b_md_instruction 6 = .ok (.getfield 42, 3) := by decide +kernel
theorem d_md_instruction_9 : decode b_md_instruction 9 = .ok (.iload_n 1, 1) := by decide +kernel
theorem d_md_instruction_10 : decode b_md_instruction 10 = .ok (.iaload, 1) := by decide +kernel
theorem d_md_instruction_11 : decode b_md_instruction 11 = .ok (.istore_n 2, 1) := by decide +kernel
theorem d_md_instruction_12 : decode b_md_instruction 12 = .ok (.aload_n 0, 1) := by decide +kernel
theorem d_md_instruction_13 : decode b_md_instruction 13 = .ok (.getfield 45, 3) := by decide +kernel
theorem d_md_instruction_16 : decode b_md_instruction 16 = .ok (.iload_n 1, 1) := by decide +kernel
theorem d_md_instruction_17 : decode b_md_instruction 17 = .ok (.iaload, 1) := by decide +kernel
theorem d_md_instruction_18 : decode b_md_instruction 18 = .ok (.istore_n 3, 1) := by decide +kernel
theorem d_md_instruction_19 : decode b_md_instruction 19 = .ok (.aload_n 0, 1) := by decide +kernel
theorem d_md_instruction_20 : decode b_md_instruction 20 = .ok (.iload_n 2, 1) := by decide +kernel
theorem d_md_instruction_21 : decode b_md_instruction 21 = .ok (.iload_n 3, 1) := by decide +kernel
theorem d_md_instruction_22 : decode b_md_instruction 22 = .ok (.invokevirtual 106, 3) := by decide +kernel
theorem d_md_instruction_25 : decode b_md_instruction 25 = .ok (.istore 4, 2) := by decide +kernel
theorem d_md_instruction_27 : decode b_md_instruction 27 = .ok (.aload_n 0, 1) := by decide +kernel
theorem d_md_instruction_28 : decode b_md_instruction 28 = .ok (.iload_n 2, 1) := by decide +kernel
theorem d_md_instruction_29 : decode b_md_instruction 29 = .ok (.iload_n 3, 1) := by decide +kernel
theorem d_md_instruction_30 : decode b_md_instruction 30 = .ok (.iconst 1, 1) := by decide +kernel
theorem d_md_instruction_31 : decode b_md_instruction 31 = .ok (.iadd, 1) := by decide +kernel
theorem d_md_instruction_32 : decode b_md_instruction 32 = .ok (.invokevirtual 106, 3) := by decide +kernel
theorem d_md_instruction_35 : decode b_md_instruction 35 = .ok (.istore 5, 2) := by decide +kernel
theorem d_md_instruction_37 : decode b_md_instruction 37 = .ok (.aload_n 0, 1) := by decide +kernel
theorem d_md_instruction_38 : decode b_md_instruction 38 = .ok (.iload_n 2, 1) := by decide +kernel
theorem d_md_instruction_39 : decode b_md_instruction 39 = .ok (.iload_n 3, 1) := by decide +kernel
theorem d_md_instruction_40 : decode b_md_instruction 40 = .ok (.iconst 2, 1) := by decide +kernel
theorem d_md_instruction_41 : decode b_md_instruction 41 = .ok (.iadd, 1) := by decide +kernel
theorem d_md_instruction_42 : decode b_md_instruction 42 = .ok (.invokevirtual 106, 3) := by decide +kernel
theorem d_md_instruction_45 : decode b_md_instruction 45 = .ok (.istore 6, 2) := by decide +kernel
theorem d_md_instruction_47 : decode b_md_instruction 47 = .ok (.aload_n 0, 1) := by decide +kernel
theorem d_md_instruction_48 : decode b_md_instruction 48 = .ok (.iload 4, 2) := by decide +kernel
theorem d_md_instruction_50 : decode b_md_instruction 50 = .ok (.iload 5, 2) := by decide +kernel
theorem d_md_instruction_52 : decode b_md_instruction 52 = .ok (.iload_n 1, 1) := by decide +kernel
theorem d_md_instruction_53 : decode b_md_instruction 53 = .ok (.invokevirtual 110, 3) := by decide +kernel
theorem d_md_instruction_56 : decode b_md_instruction 56 = .ok (.istore 7, 2) := by decide +kernel
theorem d_md_instruction_58 : decode b_md_instruction 58 = .ok (.iload 7, 2) := by decide +kernel
theorem d_md_instruction_60 : decode b_md_instruction 60 = .ok (.ifCond .eq 6, 3) := by decide +kernel
theorem d_md_instruction_63 : decode b_md_instruction 63 = .ok (.iload 7, 2) := by decide +kernel
theorem d_md_instruction_65 : decode b_md_instruction 65 = .ok (.ireturn, 1) := by decide +kernel
theorem d_md_instruction_66 : decode b_md_instruction 66 = .ok (.aload_n 0, 1) := by decide +kernel
theorem d_md_instruction_67 : decode b_md_instruction 67 = .ok (.getfield 45, 3) := by decide +kernel
theorem d_md_instruction_70 : decode b_md_instruction 70 = .ok (.iload_n 1, 1) := by decide +kernel
theorem d_md_instruction_71 : decode b_md_instruction 71 = .ok (.iload_n 3, 1) := by decide +kernel
theorem d_md_instruction_72 : decode b_md_instruction 72 = .ok (.iconst 1, 1) := by decide +kernel
theorem d_md_instruction_73 : decode b_md_instruction 73 = .ok (.iadd, 1) := by decide +kernel
theorem d_md_instruction_74 : decode b_md_instruction 74 = .ok (.iload 4, 2) := by decide +kernel
theorem d_md_instruction_76 : decode b_md_instruction 76 = .ok (.invokestatic 114, 3) := by decide +kernel
theorem d_md_instruction_79 : decode b_md_instruction 79 = .ok (.iadd, 1) := by decide +kernel
theorem d_md_instruction_80 : decode b_md_instruction 80 = .ok (.iastore, 1) := by decide +kernel
theorem d_md_instruction_81 : decode b_md_instruction 81 = .ok (.aload_n 0, 1) := by decide +kernel
theorem d_md_instruction_82 : decode b_md_instruction 82 = .ok (.iload 4, 2) := by decide +kernel
theorem d_md_instruction_84 : decode b_md_instruction 84 = .ok (.iload 5, 2) := by decide +kernel
theorem d_md_instruction_86 : decode b_md_instruction 86 = .ok (.iload 6, 2) := by decide +kernel
theorem d_md_instruction_88 : decode b_md_instruction 88 = .ok (.iload_n 1, 1) := by decide +kernel
theorem d_md_instruction_89 : decode b_md_instruction 89 = .ok (.invokevirtual 118, 3) := by decide +kernel
theorem d_md_instruction_92 : decode b_md_instruction 92 = .ok (.iconst 0, 1) := by decide +kernel
theorem d_md_instruction_93 : decode b_md_instruction 93 = .ok (.ireturn, 1) := by decide +kernel
set_option maxHeartbeats 4000000 in
set_option maxRecDepth 100000 in
theorem c_md_instruction_f (l : Launch) (D : va_G) (cs : Nat → ClassId) (ad : Nat → Nat) (sz : Nat) (u : Sg) (j : Jm)  (hd : vp_in (jm_de j) 6) (hok : sp_ok u) (hru : vp_in (jm_ru j (jm_de j).toNatClampNeg) 8) (hf : ¬ sp_if (mb u j) = 0) : Met l y_md_instruction (Cond.code y_md_instruction b_md_instruction 8 (some .int) :: TB) { frames := 5, cells := 0, slots := 0, locals := 140 } (va_Pc [.ref (ad 0)] (mw_Pre D cs ad u j sz)) (vp_Si (fun r => r = sp_if (mb u j))) 0 0 (fun _ => False) := by
  refine Met.ofW (cc := b_md_instruction) (maxL := 8) (ret := (some .int)) (by decide) rfl ?_
  intro p e s m args below meth c s₁ B hml hv
  obtain ⟨rfl, hsz, hP, hK, hD, hN⟩ := hv
  have hx := B.exec
  have hb := B.bytes
  have hret := B.returns
  have hts := atoms_spec (ws := Cond.code y_md_instruction b_md_instruction 8 (some .int) :: TB) B.pre
  have hT : ∀ w ∈ TB, w.before _ s = true := fun w h => hts w (List.mem_cons_of_mem _ h)
  have hown : s.vm.findClass "MeasuredStagesModel" = some m.cls := findClass_of_methodNamed B.named
  have hlocks := B.notSynchronized
  subst hsz
  have hl := lv_entry ([.ref (ad 0)]) (n := 8) (Nat.le_of_ble_eq_true rfl)
  rw [lg_entry_eq]
  generalize (lg_sl ([.ref (ad 0)]) ++ List.replicate (8 - (lg_sl ([.ref (ad 0)])).length) Slot.unset).toArray = ls at hl ⊢
  have hl : lv_has ls 8 [(0, .ref (ad 0))] := hl
  refine lv_aload_n hx hb d_md_instruction_0 rfl (lv_at hl 0 rfl) ?_
  refine va_get (D := D) (ci := 3) (v := .int (jm_de j)) (C := "MeasuredStagesModel") (T := F_md) (N := 19) hx hb hts (fun w h => List.mem_cons_of_mem _ (i_md w h)) hown hK hP 0 rfl rfl 15 (by decide) (hT _ tb_474) (fun _ h9 => h9) rfl d_md_instruction_1 ?_
  refine lv_istore_n (nL := 8) (lv' := [(1, .int (jm_de j)), (0, .ref (ad 0))]) hx hb d_md_instruction_4 rfl hl (by decide) rfl (fun ls hl => ?_)
  refine lv_aload_n hx hb d_md_instruction_5 rfl (lv_at hl 1 rfl) ?_
  refine va_get (D := D) (ci := 3) (v := .ref (ad 11)) (C := "MeasuredStagesModel") (T := F_md) (N := 19) hx hb hts (fun w h => List.mem_cons_of_mem _ (i_md w h)) hown hK hP 0 rfl rfl 16 (by decide) (hT _ tb_475) (fun _ h9 => h9) rfl d_md_instruction_6 ?_
  refine lv_iload_n hx hb d_md_instruction_9 rfl (lv_at hl 0 rfl) ?_
  refine va_iald hx hb hK hP 11 10 rfl rfl hd d_md_instruction_10 ?_
  refine lv_istore_n (nL := 8) (lv' := [(2, .int (jm_ru j (jm_de j).toNatClampNeg)), (1, .int (jm_de j)), (0, .ref (ad 0))]) hx hb d_md_instruction_11 rfl hl (by decide) rfl (fun ls hl => ?_)
  refine lv_aload_n hx hb d_md_instruction_12 rfl (lv_at hl 2 rfl) ?_
  refine va_get (D := D) (ci := 3) (v := .ref (ad 12)) (C := "MeasuredStagesModel") (T := F_md) (N := 19) hx hb hts (fun w h => List.mem_cons_of_mem _ (i_md w h)) hown hK hP 0 rfl rfl 17 (by decide) (hT _ tb_476) (fun _ h9 => h9) rfl d_md_instruction_13 ?_
  refine lv_iload_n hx hb d_md_instruction_16 rfl (lv_at hl 1 rfl) ?_
  refine va_iald hx hb hK hP 12 11 rfl rfl hd d_md_instruction_17 ?_
  refine lv_istore_n (nL := 8) (lv' := [(3, .int (jm_nx j (jm_de j).toNatClampNeg)), (2, .int (jm_ru j (jm_de j).toNatClampNeg)), (1, .int (jm_de j)), (0, .ref (ad 0))]) hx hb d_md_instruction_18 rfl hl (by decide) rfl (fun ls hl => ?_)
  refine lv_aload_n hx hb d_md_instruction_19 rfl (lv_at hl 3 rfl) ?_
  refine lv_iload_n hx hb d_md_instruction_20 rfl (lv_at hl 1 rfl) ?_
  refine lv_iload_n hx hb d_md_instruction_21 rfl (lv_at hl 0 rfl) ?_
  refine mw_rdi (v := sp_dg (sg_im u (jm_ru j (jm_de j).toNatClampNeg).toNatClampNeg) (jm_nx j (jm_de j).toNatClampNeg)) (As := [.int (jm_ru j (jm_de j).toNatClampNeg), .int (jm_nx j (jm_de j).toNatClampNeg)]) (rest := []) ⟨hx, hb, hml, hown, hts⟩ (c_md_digit l D cs ad _ u j (jm_ru j (jm_de j).toNatClampNeg) (jm_nx j (jm_de j).toNatClampNeg) hru) tb_556 tb_558 sl_19 tb_4 tb_559 ⟨rfl, hd_md_digit⟩ ⟨Nat.le_of_ble_eq_true rfl, Nat.le_of_ble_eq_true rfl⟩ rfl rfl hK hP hD hN 0 3 rfl rfl hl.1 rfl (Nat.le_of_ble_eq_true rfl) d_md_instruction_22 ⟨Nat.zero_le _, Nat.zero_le _⟩ ?_
  refine lv_istore (nL := 8) (lv' := [(4, .int (sp_dg (sg_im u (jm_ru j (jm_de j).toNatClampNeg).toNatClampNeg) (jm_nx j (jm_de j).toNatClampNeg))), (3, .int (jm_nx j (jm_de j).toNatClampNeg)), (2, .int (jm_ru j (jm_de j).toNatClampNeg)), (1, .int (jm_de j)), (0, .ref (ad 0))]) hx hb d_md_instruction_25 hl (by decide) rfl (fun ls hl => ?_)
  refine lv_aload_n hx hb d_md_instruction_27 rfl (lv_at hl 4 rfl) ?_
  refine lv_iload_n hx hb d_md_instruction_28 rfl (lv_at hl 2 rfl) ?_
  refine lv_iload_n hx hb d_md_instruction_29 rfl (lv_at hl 1 rfl) ?_
  refine lv_iconst (v := 1) hx hb d_md_instruction_30 (by decide) ?_
  refine lv_iadd hx hb d_md_instruction_31 ?_
  refine mw_rdi (v := sp_dg (sg_im u (jm_ru j (jm_de j).toNatClampNeg).toNatClampNeg) ((jm_nx j (jm_de j).toNatClampNeg) + (1))) (As := [.int (jm_ru j (jm_de j).toNatClampNeg), .int ((jm_nx j (jm_de j).toNatClampNeg) + (1))]) (rest := []) ⟨hx, hb, hml, hown, hts⟩ (c_md_digit l D cs ad _ u j (jm_ru j (jm_de j).toNatClampNeg) ((jm_nx j (jm_de j).toNatClampNeg) + (1)) hru) tb_556 tb_558 sl_19 tb_4 tb_559 ⟨rfl, hd_md_digit⟩ ⟨Nat.le_of_ble_eq_true rfl, Nat.le_of_ble_eq_true rfl⟩ rfl rfl hK hP hD hN 0 3 rfl rfl hl.1 rfl (Nat.le_of_ble_eq_true rfl) d_md_instruction_32 ⟨Nat.zero_le _, Nat.zero_le _⟩ ?_
  refine lv_istore (nL := 8) (lv' := [(5, .int (sp_dg (sg_im u (jm_ru j (jm_de j).toNatClampNeg).toNatClampNeg) ((jm_nx j (jm_de j).toNatClampNeg) + (1)))), (4, .int (sp_dg (sg_im u (jm_ru j (jm_de j).toNatClampNeg).toNatClampNeg) (jm_nx j (jm_de j).toNatClampNeg))), (3, .int (jm_nx j (jm_de j).toNatClampNeg)), (2, .int (jm_ru j (jm_de j).toNatClampNeg)), (1, .int (jm_de j)), (0, .ref (ad 0))]) hx hb d_md_instruction_35 hl (by decide) rfl (fun ls hl => ?_)
  refine lv_aload_n hx hb d_md_instruction_37 rfl (lv_at hl 5 rfl) ?_
  refine lv_iload_n hx hb d_md_instruction_38 rfl (lv_at hl 3 rfl) ?_
  refine lv_iload_n hx hb d_md_instruction_39 rfl (lv_at hl 2 rfl) ?_
  refine lv_iconst (v := 2) hx hb d_md_instruction_40 (by decide) ?_
  refine lv_iadd hx hb d_md_instruction_41 ?_
  refine mw_rdi (v := sp_dg (sg_im u (jm_ru j (jm_de j).toNatClampNeg).toNatClampNeg) ((jm_nx j (jm_de j).toNatClampNeg) + (2))) (As := [.int (jm_ru j (jm_de j).toNatClampNeg), .int ((jm_nx j (jm_de j).toNatClampNeg) + (2))]) (rest := []) ⟨hx, hb, hml, hown, hts⟩ (c_md_digit l D cs ad _ u j (jm_ru j (jm_de j).toNatClampNeg) ((jm_nx j (jm_de j).toNatClampNeg) + (2)) hru) tb_556 tb_558 sl_19 tb_4 tb_559 ⟨rfl, hd_md_digit⟩ ⟨Nat.le_of_ble_eq_true rfl, Nat.le_of_ble_eq_true rfl⟩ rfl rfl hK hP hD hN 0 3 rfl rfl hl.1 rfl (Nat.le_of_ble_eq_true rfl) d_md_instruction_42 ⟨Nat.zero_le _, Nat.zero_le _⟩ ?_
  refine lv_istore (nL := 8) (lv' := [(6, .int (sp_dg (sg_im u (jm_ru j (jm_de j).toNatClampNeg).toNatClampNeg) ((jm_nx j (jm_de j).toNatClampNeg) + (2)))), (5, .int (sp_dg (sg_im u (jm_ru j (jm_de j).toNatClampNeg).toNatClampNeg) ((jm_nx j (jm_de j).toNatClampNeg) + (1)))), (4, .int (sp_dg (sg_im u (jm_ru j (jm_de j).toNatClampNeg).toNatClampNeg) (jm_nx j (jm_de j).toNatClampNeg))), (3, .int (jm_nx j (jm_de j).toNatClampNeg)), (2, .int (jm_ru j (jm_de j).toNatClampNeg)), (1, .int (jm_de j)), (0, .ref (ad 0))]) hx hb d_md_instruction_45 hl (by decide) rfl (fun ls hl => ?_)
  refine lv_aload_n hx hb d_md_instruction_47 rfl (lv_at hl 6 rfl) ?_
  refine lv_iload hx hb d_md_instruction_48 (lv_at hl 2 rfl) ?_
  refine lv_iload hx hb d_md_instruction_50 (lv_at hl 1 rfl) ?_
  refine lv_iload_n hx hb d_md_instruction_52 rfl (lv_at hl 5 rfl) ?_
  refine mw_rdi (v := sp_fo u (sp_dg (sg_im u (jm_ru j (jm_de j).toNatClampNeg).toNatClampNeg) (jm_nx j (jm_de j).toNatClampNeg)) (sp_dg (sg_im u (jm_ru j (jm_de j).toNatClampNeg).toNatClampNeg) ((jm_nx j (jm_de j).toNatClampNeg) + (1))) (jm_de j)) (As := [.int (sp_dg (sg_im u (jm_ru j (jm_de j).toNatClampNeg).toNatClampNeg) (jm_nx j (jm_de j).toNatClampNeg)), .int (sp_dg (sg_im u (jm_ru j (jm_de j).toNatClampNeg).toNatClampNeg) ((jm_nx j (jm_de j).toNatClampNeg) + (1))), .int (jm_de j)]) (rest := []) ⟨hx, hb, hml, hown, hts⟩ (c_md_faultOf l D cs ad _ u j (sp_dg (sg_im u (jm_ru j (jm_de j).toNatClampNeg).toNatClampNeg) (jm_nx j (jm_de j).toNatClampNeg)) (sp_dg (sg_im u (jm_ru j (jm_de j).toNatClampNeg).toNatClampNeg) ((jm_nx j (jm_de j).toNatClampNeg) + (1))) (jm_de j) (sp_rd8 _ _)) tb_561 tb_563 sl_20 tb_4 tb_564 ⟨rfl, hd_md_faultOf⟩ ⟨Nat.le_of_ble_eq_true rfl, Nat.le_of_ble_eq_true rfl⟩ rfl rfl hK hP hD hN 0 3 rfl rfl hl.1 rfl (Nat.le_of_ble_eq_true rfl) d_md_instruction_53 ⟨Nat.zero_le _, Nat.zero_le _⟩ ?_
  refine lv_istore (nL := 8) (lv' := [(7, .int (sp_fo u (sp_dg (sg_im u (jm_ru j (jm_de j).toNatClampNeg).toNatClampNeg) (jm_nx j (jm_de j).toNatClampNeg)) (sp_dg (sg_im u (jm_ru j (jm_de j).toNatClampNeg).toNatClampNeg) ((jm_nx j (jm_de j).toNatClampNeg) + (1))) (jm_de j))), (6, .int (sp_dg (sg_im u (jm_ru j (jm_de j).toNatClampNeg).toNatClampNeg) ((jm_nx j (jm_de j).toNatClampNeg) + (2)))), (5, .int (sp_dg (sg_im u (jm_ru j (jm_de j).toNatClampNeg).toNatClampNeg) ((jm_nx j (jm_de j).toNatClampNeg) + (1)))), (4, .int (sp_dg (sg_im u (jm_ru j (jm_de j).toNatClampNeg).toNatClampNeg) (jm_nx j (jm_de j).toNatClampNeg))), (3, .int (jm_nx j (jm_de j).toNatClampNeg)), (2, .int (jm_ru j (jm_de j).toNatClampNeg)), (1, .int (jm_de j)), (0, .ref (ad 0))]) hx hb d_md_instruction_56 hl (by decide) rfl (fun ls hl => ?_)
  refine lv_iload hx hb d_md_instruction_58 (lv_at hl 0 rfl) ?_
  refine lv_if_eq hx hb d_md_instruction_60 (tgt := 66) (by decide) (fun z => absurd z hf) (fun _ => ?_)
  refine lv_iload hx hb d_md_instruction_63 (lv_at hl 0 rfl) ?_
  exact W.iret (v := sp_fo u (sp_dg (sg_im u (jm_ru j (jm_de j).toNatClampNeg).toNatClampNeg) (jm_nx j (jm_de j).toNatClampNeg)) (sp_dg (sg_im u (jm_ru j (jm_de j).toNatClampNeg).toNatClampNeg) ((jm_nx j (jm_de j).toNatClampNeg) + (1))) (jm_de j)) hx hb hret (fun t ht hW => ⟨_, rfl, rfl, ht⟩) (fun q h => by cases h) d_md_instruction_65
set_option maxHeartbeats 4000000 in
set_option maxRecDepth 100000 in
theorem c_md_instruction (l : Launch) (D : va_G) (cs : Nat → ClassId) (ad : Nat → Nat) (sz : Nat) (u : Sg) (j : Jm)  (hd : vp_in (jm_de j) 6) (hok : sp_ok u) (hru : vp_in (jm_ru j (jm_de j).toNatClampNeg) 8) (hf : sp_if (mb u j) = 0) : Met l y_md_instruction (Cond.code y_md_instruction b_md_instruction 8 (some .int) :: TB) { frames := 5, cells := 0, slots := 0, locals := 140 } (va_Pc [.ref (ad 0)] (mw_Pre D cs ad u j sz)) (va_Qi (fun (r : Int32) (j1 : Jm) => r = 0 ∧ mb (sp_in (mb u j)).1 j1 = sp_in (mb u j)) (fun (j1 : Jm) t => mw_B D cs ad (va_A (mw ad cs u j) sz) ((sp_in (mb u j)).1) j1 t) (va_A (mw ad cs u j) sz)) 0 0 (va_A (mw ad cs u j) sz) := by
  refine Met.ofW (cc := b_md_instruction) (maxL := 8) (ret := (some .int)) (by decide) rfl ?_
  intro p e s m args below meth c s₁ B hml hv
  obtain ⟨rfl, hsz, hP, hK, hD, hN⟩ := hv
  have hx := B.exec
  have hb := B.bytes
  have hret := B.returns
  have hts := atoms_spec (ws := Cond.code y_md_instruction b_md_instruction 8 (some .int) :: TB) B.pre
  have hT : ∀ w ∈ TB, w.before _ s = true := fun w h => hts w (List.mem_cons_of_mem _ h)
  have hown : s.vm.findClass "MeasuredStagesModel" = some m.cls := findClass_of_methodNamed B.named
  have hlocks := B.notSynchronized
  subst hsz
  have hD := hD.self (sz := s.heap.size)
  generalize hAe : va_A (mw ad cs u j) s.heap.size = A at hD ⊢
  have hA : ∀ q : Nat, s.heap.size ≤ q → A q := fun q h => by rw [← hAe]; exact Or.inr h
  have hS : va_S A s.heap s.heap [] := va_S.rf
  have hl := lv_entry ([.ref (ad 0)]) (n := 8) (Nat.le_of_ble_eq_true rfl)
  rw [lg_entry_eq]
  generalize (lg_sl ([.ref (ad 0)]) ++ List.replicate (8 - (lg_sl ([.ref (ad 0)])).length) Slot.unset).toArray = ls at hl ⊢
  have hl : lv_has ls 8 [(0, .ref (ad 0))] := hl
  skip
  refine lv_aload_n hx hb d_md_instruction_0 rfl (lv_at hl 0 rfl) ?_
  refine va_get (D := D) (ci := 3) (v := .int (jm_de j)) (C := "MeasuredStagesModel") (T := F_md) (N := 19) hx hb hts (fun w h => List.mem_cons_of_mem _ (i_md w h)) hown hK hP 0 rfl rfl 15 (by decide) (hT _ tb_474) (fun _ h9 => h9) rfl d_md_instruction_1 ?_
  refine lv_istore_n (nL := 8) (lv' := [(1, .int (jm_de j)), (0, .ref (ad 0))]) hx hb d_md_instruction_4 rfl hl (by decide) rfl (fun ls hl => ?_)
  refine lv_aload_n hx hb d_md_instruction_5 rfl (lv_at hl 1 rfl) ?_
  refine va_get (D := D) (ci := 3) (v := .ref (ad 11)) (C := "MeasuredStagesModel") (T := F_md) (N := 19) hx hb hts (fun w h => List.mem_cons_of_mem _ (i_md w h)) hown hK hP 0 rfl rfl 16 (by decide) (hT _ tb_475) (fun _ h9 => h9) rfl d_md_instruction_6 ?_
  refine lv_iload_n hx hb d_md_instruction_9 rfl (lv_at hl 0 rfl) ?_
  refine va_iald hx hb hK hP 11 10 rfl rfl hd d_md_instruction_10 ?_
  refine lv_istore_n (nL := 8) (lv' := [(2, .int (jm_ru j (jm_de j).toNatClampNeg)), (1, .int (jm_de j)), (0, .ref (ad 0))]) hx hb d_md_instruction_11 rfl hl (by decide) rfl (fun ls hl => ?_)
  refine lv_aload_n hx hb d_md_instruction_12 rfl (lv_at hl 2 rfl) ?_
  refine va_get (D := D) (ci := 3) (v := .ref (ad 12)) (C := "MeasuredStagesModel") (T := F_md) (N := 19) hx hb hts (fun w h => List.mem_cons_of_mem _ (i_md w h)) hown hK hP 0 rfl rfl 17 (by decide) (hT _ tb_476) (fun _ h9 => h9) rfl d_md_instruction_13 ?_
  refine lv_iload_n hx hb d_md_instruction_16 rfl (lv_at hl 1 rfl) ?_
  refine va_iald hx hb hK hP 12 11 rfl rfl hd d_md_instruction_17 ?_
  refine lv_istore_n (nL := 8) (lv' := [(3, .int (jm_nx j (jm_de j).toNatClampNeg)), (2, .int (jm_ru j (jm_de j).toNatClampNeg)), (1, .int (jm_de j)), (0, .ref (ad 0))]) hx hb d_md_instruction_18 rfl hl (by decide) rfl (fun ls hl => ?_)
  refine lv_aload_n hx hb d_md_instruction_19 rfl (lv_at hl 3 rfl) ?_
  refine lv_iload_n hx hb d_md_instruction_20 rfl (lv_at hl 1 rfl) ?_
  refine lv_iload_n hx hb d_md_instruction_21 rfl (lv_at hl 0 rfl) ?_
  refine mw_rdi (v := sp_dg (sg_im u (jm_ru j (jm_de j).toNatClampNeg).toNatClampNeg) (jm_nx j (jm_de j).toNatClampNeg)) (As := [.int (jm_ru j (jm_de j).toNatClampNeg), .int (jm_nx j (jm_de j).toNatClampNeg)]) (rest := []) ⟨hx, hb, hml, hown, hts⟩ (c_md_digit l D cs ad _ u j (jm_ru j (jm_de j).toNatClampNeg) (jm_nx j (jm_de j).toNatClampNeg) hru) tb_556 tb_558 sl_19 tb_4 tb_559 ⟨rfl, hd_md_digit⟩ ⟨Nat.le_of_ble_eq_true rfl, Nat.le_of_ble_eq_true rfl⟩ rfl rfl hK hP hD hN 0 3 rfl rfl hl.1 rfl (Nat.le_of_ble_eq_true rfl) d_md_instruction_22 ⟨Nat.zero_le _, Nat.zero_le _⟩ ?_
  refine lv_istore (nL := 8) (lv' := [(4, .int (sp_dg (sg_im u (jm_ru j (jm_de j).toNatClampNeg).toNatClampNeg) (jm_nx j (jm_de j).toNatClampNeg))), (3, .int (jm_nx j (jm_de j).toNatClampNeg)), (2, .int (jm_ru j (jm_de j).toNatClampNeg)), (1, .int (jm_de j)), (0, .ref (ad 0))]) hx hb d_md_instruction_25 hl (by decide) rfl (fun ls hl => ?_)
  refine lv_aload_n hx hb d_md_instruction_27 rfl (lv_at hl 4 rfl) ?_
  refine lv_iload_n hx hb d_md_instruction_28 rfl (lv_at hl 2 rfl) ?_
  refine lv_iload_n hx hb d_md_instruction_29 rfl (lv_at hl 1 rfl) ?_
  refine lv_iconst (v := 1) hx hb d_md_instruction_30 (by decide) ?_
  refine lv_iadd hx hb d_md_instruction_31 ?_
  refine mw_rdi (v := sp_dg (sg_im u (jm_ru j (jm_de j).toNatClampNeg).toNatClampNeg) ((jm_nx j (jm_de j).toNatClampNeg) + (1))) (As := [.int (jm_ru j (jm_de j).toNatClampNeg), .int ((jm_nx j (jm_de j).toNatClampNeg) + (1))]) (rest := []) ⟨hx, hb, hml, hown, hts⟩ (c_md_digit l D cs ad _ u j (jm_ru j (jm_de j).toNatClampNeg) ((jm_nx j (jm_de j).toNatClampNeg) + (1)) hru) tb_556 tb_558 sl_19 tb_4 tb_559 ⟨rfl, hd_md_digit⟩ ⟨Nat.le_of_ble_eq_true rfl, Nat.le_of_ble_eq_true rfl⟩ rfl rfl hK hP hD hN 0 3 rfl rfl hl.1 rfl (Nat.le_of_ble_eq_true rfl) d_md_instruction_32 ⟨Nat.zero_le _, Nat.zero_le _⟩ ?_
  refine lv_istore (nL := 8) (lv' := [(5, .int (sp_dg (sg_im u (jm_ru j (jm_de j).toNatClampNeg).toNatClampNeg) ((jm_nx j (jm_de j).toNatClampNeg) + (1)))), (4, .int (sp_dg (sg_im u (jm_ru j (jm_de j).toNatClampNeg).toNatClampNeg) (jm_nx j (jm_de j).toNatClampNeg))), (3, .int (jm_nx j (jm_de j).toNatClampNeg)), (2, .int (jm_ru j (jm_de j).toNatClampNeg)), (1, .int (jm_de j)), (0, .ref (ad 0))]) hx hb d_md_instruction_35 hl (by decide) rfl (fun ls hl => ?_)
  refine lv_aload_n hx hb d_md_instruction_37 rfl (lv_at hl 5 rfl) ?_
  refine lv_iload_n hx hb d_md_instruction_38 rfl (lv_at hl 3 rfl) ?_
  refine lv_iload_n hx hb d_md_instruction_39 rfl (lv_at hl 2 rfl) ?_
  refine lv_iconst (v := 2) hx hb d_md_instruction_40 (by decide) ?_
  refine lv_iadd hx hb d_md_instruction_41 ?_
  refine mw_rdi (v := sp_dg (sg_im u (jm_ru j (jm_de j).toNatClampNeg).toNatClampNeg) ((jm_nx j (jm_de j).toNatClampNeg) + (2))) (As := [.int (jm_ru j (jm_de j).toNatClampNeg), .int ((jm_nx j (jm_de j).toNatClampNeg) + (2))]) (rest := []) ⟨hx, hb, hml, hown, hts⟩ (c_md_digit l D cs ad _ u j (jm_ru j (jm_de j).toNatClampNeg) ((jm_nx j (jm_de j).toNatClampNeg) + (2)) hru) tb_556 tb_558 sl_19 tb_4 tb_559 ⟨rfl, hd_md_digit⟩ ⟨Nat.le_of_ble_eq_true rfl, Nat.le_of_ble_eq_true rfl⟩ rfl rfl hK hP hD hN 0 3 rfl rfl hl.1 rfl (Nat.le_of_ble_eq_true rfl) d_md_instruction_42 ⟨Nat.zero_le _, Nat.zero_le _⟩ ?_
  refine lv_istore (nL := 8) (lv' := [(6, .int (sp_dg (sg_im u (jm_ru j (jm_de j).toNatClampNeg).toNatClampNeg) ((jm_nx j (jm_de j).toNatClampNeg) + (2)))), (5, .int (sp_dg (sg_im u (jm_ru j (jm_de j).toNatClampNeg).toNatClampNeg) ((jm_nx j (jm_de j).toNatClampNeg) + (1)))), (4, .int (sp_dg (sg_im u (jm_ru j (jm_de j).toNatClampNeg).toNatClampNeg) (jm_nx j (jm_de j).toNatClampNeg))), (3, .int (jm_nx j (jm_de j).toNatClampNeg)), (2, .int (jm_ru j (jm_de j).toNatClampNeg)), (1, .int (jm_de j)), (0, .ref (ad 0))]) hx hb d_md_instruction_45 hl (by decide) rfl (fun ls hl => ?_)
  refine lv_aload_n hx hb d_md_instruction_47 rfl (lv_at hl 6 rfl) ?_
  refine lv_iload hx hb d_md_instruction_48 (lv_at hl 2 rfl) ?_
  refine lv_iload hx hb d_md_instruction_50 (lv_at hl 1 rfl) ?_
  refine lv_iload_n hx hb d_md_instruction_52 rfl (lv_at hl 5 rfl) ?_
  refine mw_rdi (v := sp_fo u (sp_dg (sg_im u (jm_ru j (jm_de j).toNatClampNeg).toNatClampNeg) (jm_nx j (jm_de j).toNatClampNeg)) (sp_dg (sg_im u (jm_ru j (jm_de j).toNatClampNeg).toNatClampNeg) ((jm_nx j (jm_de j).toNatClampNeg) + (1))) (jm_de j)) (As := [.int (sp_dg (sg_im u (jm_ru j (jm_de j).toNatClampNeg).toNatClampNeg) (jm_nx j (jm_de j).toNatClampNeg)), .int (sp_dg (sg_im u (jm_ru j (jm_de j).toNatClampNeg).toNatClampNeg) ((jm_nx j (jm_de j).toNatClampNeg) + (1))), .int (jm_de j)]) (rest := []) ⟨hx, hb, hml, hown, hts⟩ (c_md_faultOf l D cs ad _ u j (sp_dg (sg_im u (jm_ru j (jm_de j).toNatClampNeg).toNatClampNeg) (jm_nx j (jm_de j).toNatClampNeg)) (sp_dg (sg_im u (jm_ru j (jm_de j).toNatClampNeg).toNatClampNeg) ((jm_nx j (jm_de j).toNatClampNeg) + (1))) (jm_de j) (sp_rd8 _ _)) tb_561 tb_563 sl_20 tb_4 tb_564 ⟨rfl, hd_md_faultOf⟩ ⟨Nat.le_of_ble_eq_true rfl, Nat.le_of_ble_eq_true rfl⟩ rfl rfl hK hP hD hN 0 3 rfl rfl hl.1 rfl (Nat.le_of_ble_eq_true rfl) d_md_instruction_53 ⟨Nat.zero_le _, Nat.zero_le _⟩ ?_
  refine lv_istore (nL := 8) (lv' := [(7, .int (sp_fo u (sp_dg (sg_im u (jm_ru j (jm_de j).toNatClampNeg).toNatClampNeg) (jm_nx j (jm_de j).toNatClampNeg)) (sp_dg (sg_im u (jm_ru j (jm_de j).toNatClampNeg).toNatClampNeg) ((jm_nx j (jm_de j).toNatClampNeg) + (1))) (jm_de j))), (6, .int (sp_dg (sg_im u (jm_ru j (jm_de j).toNatClampNeg).toNatClampNeg) ((jm_nx j (jm_de j).toNatClampNeg) + (2)))), (5, .int (sp_dg (sg_im u (jm_ru j (jm_de j).toNatClampNeg).toNatClampNeg) ((jm_nx j (jm_de j).toNatClampNeg) + (1)))), (4, .int (sp_dg (sg_im u (jm_ru j (jm_de j).toNatClampNeg).toNatClampNeg) (jm_nx j (jm_de j).toNatClampNeg))), (3, .int (jm_nx j (jm_de j).toNatClampNeg)), (2, .int (jm_ru j (jm_de j).toNatClampNeg)), (1, .int (jm_de j)), (0, .ref (ad 0))]) hx hb d_md_instruction_56 hl (by decide) rfl (fun ls hl => ?_)
  refine lv_iload hx hb d_md_instruction_58 (lv_at hl 0 rfl) ?_
  refine lv_if_eq hx hb d_md_instruction_60 (tgt := 66) (by decide) (fun _ => ?_) (fun z => absurd hf z)
  refine lv_aload_n hx hb d_md_instruction_66 rfl (lv_at hl 7 rfl) ?_
  refine va_get (D := D) (ci := 3) (v := .ref (ad 12)) (C := "MeasuredStagesModel") (T := F_md) (N := 19) hx hb hts (fun w h => List.mem_cons_of_mem _ (i_md w h)) hown hK hP 0 rfl rfl 17 (by decide) (hT _ tb_476) (fun _ h9 => h9) rfl d_md_instruction_67 ?_
  refine lv_iload_n hx hb d_md_instruction_70 rfl (lv_at hl 6 rfl) ?_
  refine lv_iload_n hx hb d_md_instruction_71 rfl (lv_at hl 4 rfl) ?_
  refine lv_iconst (v := 1) hx hb d_md_instruction_72 (by decide) ?_
  refine lv_iadd hx hb d_md_instruction_73 ?_
  refine lv_iload hx hb d_md_instruction_74 (lv_at hl 3 rfl) ?_
  refine st_i (v := sp_op (sp_dg (sg_im u (jm_ru j (jm_de j).toNatClampNeg).toNatClampNeg) (jm_nx j (jm_de j).toNatClampNeg))) (As := [.int (sp_dg (sg_im u (jm_ru j (jm_de j).toNatClampNeg).toNatClampNeg) (jm_nx j (jm_de j).toNatClampNeg))]) (rest := [.int ((jm_nx j (jm_de j).toNatClampNeg) + (1)), .int (jm_de j), .ref (ad 12)]) ⟨hx, hb, hml, hown, hts⟩ (c_md_operands l (sp_dg (sg_im u (jm_ru j (jm_de j).toNatClampNeg).toNatClampNeg) (jm_nx j (jm_de j).toNatClampNeg))) tb_574 tb_575 tb_4 tb_576 hd_md_operands ⟨Nat.le_of_ble_eq_true rfl, Nat.le_of_ble_eq_true rfl⟩ rfl rfl hl.1 rfl (Nat.le_of_ble_eq_true rfl) d_md_instruction_76 ⟨Nat.zero_le _, Nat.zero_le _⟩ ?_
  refine lv_iadd hx hb d_md_instruction_79 ?_
  refine va_iast hx hb hK hP hD hS 12 11 rfl rfl hd d_md_instruction_80 (fun H locs hP hD hS => ?_)
  have hP : va_P D cx (mv ad cs (sg_im u) (sg_ap u) (sg_ag u) (sg_he u) (sg_er u) (sg_ev u) (sg_en u) (sg_ma u) (sg_po u) (sg_se u) (sg_ac u) (sg_fa u) (sg_la u) (sg_st u) (jm_ag j) (jm_de j) (jm_ru j) (upd (jm_nx j) (jm_de j).toNatClampNeg (((jm_nx j (jm_de j).toNatClampNeg) + (1)) + (sp_op (sp_dg (sg_im u (jm_ru j (jm_de j).toNatClampNeg).toNatClampNeg) (jm_nx j (jm_de j).toNatClampNeg))))) (jm_th j)) H := hP
  have hD : va_D A (mv ad cs (sg_im u) (sg_ap u) (sg_ag u) (sg_he u) (sg_er u) (sg_ev u) (sg_en u) (sg_ma u) (sg_po u) (sg_se u) (sg_ac u) (sg_fa u) (sg_la u) (sg_st u) (jm_ag j) (jm_de j) (jm_ru j) (upd (jm_nx j) (jm_de j).toNatClampNeg (((jm_nx j (jm_de j).toNatClampNeg) + (1)) + (sp_op (sp_dg (sg_im u (jm_ru j (jm_de j).toNatClampNeg).toNatClampNeg) (jm_nx j (jm_de j).toNatClampNeg))))) (jm_th j)) := hD
  refine lv_aload_n hx hb d_md_instruction_81 rfl (lv_at hl 7 rfl) ?_
  refine lv_iload hx hb d_md_instruction_82 (lv_at hl 3 rfl) ?_
  refine lv_iload hx hb d_md_instruction_84 (lv_at hl 2 rfl) ?_
  refine lv_iload hx hb d_md_instruction_86 (lv_at hl 1 rfl) ?_
  refine lv_iload_n hx hb d_md_instruction_88 rfl (lv_at hl 6 rfl) ?_
  obtain ⟨q1, eq1⟩ : ∃ z : Jm, z = (jm_ag j, jm_de j, jm_ru j, upd (jm_nx j) (jm_de j).toNatClampNeg (((jm_nx j (jm_de j).toNatClampNeg) + (1)) + (sp_op (sp_dg (sg_im u (jm_ru j (jm_de j).toNatClampNeg).toNatClampNeg) (jm_nx j (jm_de j).toNatClampNeg)))), jm_th j) := ⟨_, rfl⟩
  have hP : va_P D cx (mw ad cs u q1) H := by rw [eq1, mw_j]; exact hP
  have hD : va_D A (mw ad cs u q1) := by rw [eq1, mw_j]; exact hD
  refine mw_wrv (u' := (sp_ac (mb u q1) (sp_dg (sg_im u (jm_ru j (jm_de j).toNatClampNeg).toNatClampNeg) (jm_nx j (jm_de j).toNatClampNeg)) (sp_dg (sg_im u (jm_ru j (jm_de j).toNatClampNeg).toNatClampNeg) ((jm_nx j (jm_de j).toNatClampNeg) + (1))) (sp_dg (sg_im u (jm_ru j (jm_de j).toNatClampNeg).toNatClampNeg) ((jm_nx j (jm_de j).toNatClampNeg) + (2))) (jm_de j)).1) (As := [.int (sp_dg (sg_im u (jm_ru j (jm_de j).toNatClampNeg).toNatClampNeg) (jm_nx j (jm_de j).toNatClampNeg)), .int (sp_dg (sg_im u (jm_ru j (jm_de j).toNatClampNeg).toNatClampNeg) ((jm_nx j (jm_de j).toNatClampNeg) + (1))), .int (sp_dg (sg_im u (jm_ru j (jm_de j).toNatClampNeg).toNatClampNeg) ((jm_nx j (jm_de j).toNatClampNeg) + (2))), .int (jm_de j)]) (rest := []) ⟨hx, hb, hml, hown, hts⟩ (c_md_act l D cs ad _ u q1 (sp_dg (sg_im u (jm_ru j (jm_de j).toNatClampNeg).toNatClampNeg) (jm_nx j (jm_de j).toNatClampNeg)) (sp_dg (sg_im u (jm_ru j (jm_de j).toNatClampNeg).toNatClampNeg) ((jm_nx j (jm_de j).toNatClampNeg) + (1))) (sp_dg (sg_im u (jm_ru j (jm_de j).toNatClampNeg).toNatClampNeg) ((jm_nx j (jm_de j).toNatClampNeg) + (2))) (jm_de j) hd hok (sp_rd8 _ _) (sp_rd6 _ _) (sp_dg16 _ _) hf) tb_577 tb_579 sl_23 tb_4 tb_580 ⟨rfl, hd_md_act⟩ ⟨Nat.le_of_ble_eq_true rfl, Nat.le_of_ble_eq_true rfl⟩ rfl rfl hK hP hD hN 0 3 rfl rfl hl.1 rfl (Nat.le_of_ble_eq_true rfl) d_md_instruction_89 ⟨Nat.zero_le _, Nat.zero_le _⟩ hS hA (fun j2 H locs hj3 hP hD hS => ?_)
  obtain ⟨v4, ev4⟩ : ∃ z : Sg, z = (sp_ac (mb u q1) (sp_dg (sg_im u (jm_ru j (jm_de j).toNatClampNeg).toNatClampNeg) (jm_nx j (jm_de j).toNatClampNeg)) (sp_dg (sg_im u (jm_ru j (jm_de j).toNatClampNeg).toNatClampNeg) ((jm_nx j (jm_de j).toNatClampNeg) + (1))) (sp_dg (sg_im u (jm_ru j (jm_de j).toNatClampNeg).toNatClampNeg) ((jm_nx j (jm_de j).toNatClampNeg) + (2))) (jm_de j)).1 := ⟨_, rfl⟩
  rw [← ev4] at hP hD
  refine lv_iconst (v := 0) hx hb d_md_instruction_92 (by decide) ?_
  have eI : sp_ac (mb u q1) (sp_dg (sg_im u (jm_ru j (jm_de j).toNatClampNeg).toNatClampNeg) (jm_nx j (jm_de j).toNatClampNeg)) (sp_dg (sg_im u (jm_ru j (jm_de j).toNatClampNeg).toNatClampNeg) ((jm_nx j (jm_de j).toNatClampNeg) + (1))) (sp_dg (sg_im u (jm_ru j (jm_de j).toNatClampNeg).toNatClampNeg) ((jm_nx j (jm_de j).toNatClampNeg) + (2))) (jm_de j) = sp_in (mb u j) := by
    subst eq1
    rfl
  have hP : va_P D cx (mw ad cs (sp_in (mb u j)).1 j2) H := by rw [← eI, ← ev4]; exact hP
  have hD : va_D A (mw ad cs (sp_in (mb u j)).1 j2) := by rw [← eI, ← ev4]; exact hD
  rw [eI] at hj3
  exact W.iret hx hb hret (fun t ht hW => ⟨⟨_, j2, rfl, ⟨rfl, hj3⟩, by rw [ht]; exact hP, va_K.moved hW.alike hK, hD⟩, hS.F ht⟩) hS.2.2 d_md_instruction_93
end
