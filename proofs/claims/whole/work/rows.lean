section
-- ===== PART A: goes FIRST, ahead of the names: the tables' words, and 'selects' of the private methods out of them =====
/-- a private method of a class that the tables say can be made, by its rows of tables_1 -/
def lw_okq (q : MethodName × Nat) : Prop := (q.1.cls ≠ "java/lang/invoke/MethodHandle" ∧ q.1.cls ≠ "java/lang/invoke/VarHandle") ∧ Cond.instantiable q.1.cls q.2 ∈ tables_1 ∧ Cond.privateMethod q.1 ∈ tables_1 ∧ Cond.instanceMethod q.1 ∈ tables_1
theorem lw_p0 : lw_okq (⟨"FusedEngine", "beginBoth", "()V"⟩, 3) := ⟨⟨by decide +kernel, by decide +kernel⟩, List.mem_of_getElem? (i := 19) (by decide +kernel), List.mem_of_getElem? (i := 121) (by decide +kernel), List.mem_of_getElem? (i := 122) (by decide +kernel)⟩
theorem lw_p1 : lw_okq (⟨"FusedEngine$Program", "longestRowAt", "(I)I"⟩, 7) := ⟨⟨by decide +kernel, by decide +kernel⟩, List.mem_of_getElem? (i := 27) (by decide +kernel), List.mem_of_getElem? (i := 140) (by decide +kernel), List.mem_of_getElem? (i := 141) (by decide +kernel)⟩
theorem lw_p2 : lw_okq (⟨"FusedEngine$Program", "isRowAt", "(III)Z"⟩, 7) := ⟨⟨by decide +kernel, by decide +kernel⟩, List.mem_of_getElem? (i := 27) (by decide +kernel), List.mem_of_getElem? (i := 153) (by decide +kernel), List.mem_of_getElem? (i := 154) (by decide +kernel)⟩
theorem lw_p3 : lw_okq (⟨"FusedEngine", "machineOf", "(Z)LFusedEngine$Machine;"⟩, 3) := ⟨⟨by decide +kernel, by decide +kernel⟩, List.mem_of_getElem? (i := 19) (by decide +kernel), List.mem_of_getElem? (i := 165) (by decide +kernel), List.mem_of_getElem? (i := 166) (by decide +kernel)⟩
theorem lw_p4 : lw_okq (⟨"java/lang/Throwable", "fillInStackTrace", "(I)Ljava/lang/Throwable;"⟩, 6) := ⟨⟨by decide +kernel, by decide +kernel⟩, List.mem_of_getElem? (i := 272) (by decide +kernel), List.mem_of_getElem? (i := 270) (by decide +kernel), List.mem_of_getElem? (i := 271) (by decide +kernel)⟩
theorem lw_p5 : lw_okq (⟨"FusedEngine$Program", "findTargets", "()V"⟩, 7) := ⟨⟨by decide +kernel, by decide +kernel⟩, List.mem_of_getElem? (i := 27) (by decide +kernel), List.mem_of_getElem? (i := 326) (by decide +kernel), List.mem_of_getElem? (i := 327) (by decide +kernel)⟩
theorem lw_p6 : lw_okq (⟨"FusedEngine$Program", "markTarget", "(I)V"⟩, 7) := ⟨⟨by decide +kernel, by decide +kernel⟩, List.mem_of_getElem? (i := 27) (by decide +kernel), List.mem_of_getElem? (i := 330) (by decide +kernel), List.mem_of_getElem? (i := 331) (by decide +kernel)⟩
theorem lw_p7 : lw_okq (⟨"FusedEngine$Machine", "doRow", "(LFusedEngine$Program;I)V"⟩, 10) := ⟨⟨by decide +kernel, by decide +kernel⟩, List.mem_of_getElem? (i := 62) (by decide +kernel), List.mem_of_getElem? (i := 392) (by decide +kernel), List.mem_of_getElem? (i := 393) (by decide +kernel)⟩
theorem lw_p8 : lw_okq (⟨"FusedEngine$Machine", "trapOf", "(I)I"⟩, 10) := ⟨⟨by decide +kernel, by decide +kernel⟩, List.mem_of_getElem? (i := 62) (by decide +kernel), List.mem_of_getElem? (i := 396) (by decide +kernel), List.mem_of_getElem? (i := 397) (by decide +kernel)⟩
theorem lw_p9 : lw_okq (⟨"FusedEngine$Machine", "act", "(II)V"⟩, 10) := ⟨⟨by decide +kernel, by decide +kernel⟩, List.mem_of_getElem? (i := 62) (by decide +kernel), List.mem_of_getElem? (i := 406) (by decide +kernel), List.mem_of_getElem? (i := 407) (by decide +kernel)⟩
theorem lw_p10 : lw_okq (⟨"FusedEngine$Machine", "push", "(I)V"⟩, 10) := ⟨⟨by decide +kernel, by decide +kernel⟩, List.mem_of_getElem? (i := 62) (by decide +kernel), List.mem_of_getElem? (i := 410) (by decide +kernel), List.mem_of_getElem? (i := 411) (by decide +kernel)⟩
theorem lw_p11 : lw_okq (⟨"FusedEngine$Machine", "pop", "()I"⟩, 10) := ⟨⟨by decide +kernel, by decide +kernel⟩, List.mem_of_getElem? (i := 62) (by decide +kernel), List.mem_of_getElem? (i := 414) (by decide +kernel), List.mem_of_getElem? (i := 415) (by decide +kernel)⟩
theorem lw_p12 : lw_okq (⟨"FusedEngine$Machine", "exchange", "()V"⟩, 10) := ⟨⟨by decide +kernel, by decide +kernel⟩, List.mem_of_getElem? (i := 62) (by decide +kernel), List.mem_of_getElem? (i := 418) (by decide +kernel), List.mem_of_getElem? (i := 419) (by decide +kernel)⟩
theorem lw_p13 : lw_okq (⟨"FusedEngine$Machine", "putOut", "(I)V"⟩, 10) := ⟨⟨by decide +kernel, by decide +kernel⟩, List.mem_of_getElem? (i := 62) (by decide +kernel), List.mem_of_getElem? (i := 422) (by decide +kernel), List.mem_of_getElem? (i := 423) (by decide +kernel)⟩
theorem lw_p14 : lw_okq (⟨"FusedEngine$Machine", "combine", "(I)V"⟩, 10) := ⟨⟨by decide +kernel, by decide +kernel⟩, List.mem_of_getElem? (i := 62) (by decide +kernel), List.mem_of_getElem? (i := 426) (by decide +kernel), List.mem_of_getElem? (i := 427) (by decide +kernel)⟩
theorem lw_p15 : lw_okq (⟨"FusedEngineModel", "set", "(III)V"⟩, 17) := ⟨⟨by decide +kernel, by decide +kernel⟩, List.mem_of_getElem? (i := 461) (by decide +kernel), List.mem_of_getElem? (i := 540) (by decide +kernel), List.mem_of_getElem? (i := 541) (by decide +kernel)⟩
def lw_privs_1 : List (MethodName × Nat) := [(⟨"FusedEngine", "beginBoth", "()V"⟩, 3), (⟨"FusedEngine$Program", "longestRowAt", "(I)I"⟩, 7), (⟨"FusedEngine$Program", "isRowAt", "(III)Z"⟩, 7), (⟨"FusedEngine", "machineOf", "(Z)LFusedEngine$Machine;"⟩, 3), (⟨"java/lang/Throwable", "fillInStackTrace", "(I)Ljava/lang/Throwable;"⟩, 6), (⟨"FusedEngine$Program", "findTargets", "()V"⟩, 7), (⟨"FusedEngine$Program", "markTarget", "(I)V"⟩, 7), (⟨"FusedEngine$Machine", "doRow", "(LFusedEngine$Program;I)V"⟩, 10), (⟨"FusedEngine$Machine", "trapOf", "(I)I"⟩, 10), (⟨"FusedEngine$Machine", "act", "(II)V"⟩, 10), (⟨"FusedEngine$Machine", "push", "(I)V"⟩, 10), (⟨"FusedEngine$Machine", "pop", "()I"⟩, 10), (⟨"FusedEngine$Machine", "exchange", "()V"⟩, 10), (⟨"FusedEngine$Machine", "putOut", "(I)V"⟩, 10), (⟨"FusedEngine$Machine", "combine", "(I)V"⟩, 10), (⟨"FusedEngineModel", "set", "(III)V"⟩, 17)]
theorem lw_r1 : ∀ q ∈ lw_privs_1, lw_okq q := List.forall_mem_cons.mpr ⟨lw_p0, List.forall_mem_cons.mpr ⟨lw_p1, List.forall_mem_cons.mpr ⟨lw_p2, List.forall_mem_cons.mpr ⟨lw_p3, List.forall_mem_cons.mpr ⟨lw_p4, List.forall_mem_cons.mpr ⟨lw_p5, List.forall_mem_cons.mpr ⟨lw_p6, List.forall_mem_cons.mpr ⟨lw_p7, List.forall_mem_cons.mpr ⟨lw_p8, List.forall_mem_cons.mpr ⟨lw_p9, List.forall_mem_cons.mpr ⟨lw_p10, List.forall_mem_cons.mpr ⟨lw_p11, List.forall_mem_cons.mpr ⟨lw_p12, List.forall_mem_cons.mpr ⟨lw_p13, List.forall_mem_cons.mpr ⟨lw_p14, List.forall_mem_cons.mpr ⟨lw_p15, fun _ h => absurd h List.not_mem_nil⟩⟩⟩⟩⟩⟩⟩⟩⟩⟩⟩⟩⟩⟩⟩⟩
theorem lw_p16 : lw_okq (⟨"FusedEngineModel", "begin", "()V"⟩, 17) := ⟨⟨by decide +kernel, by decide +kernel⟩, List.mem_of_getElem? (i := 461) (by decide +kernel), List.mem_of_getElem? (i := 544) (by decide +kernel), List.mem_of_getElem? (i := 545) (by decide +kernel)⟩
theorem lw_p17 : lw_okq (⟨"FusedEngineModel", "rowAt", "(I)I"⟩, 17) := ⟨⟨by decide +kernel, by decide +kernel⟩, List.mem_of_getElem? (i := 461) (by decide +kernel), List.mem_of_getElem? (i := 560) (by decide +kernel), List.mem_of_getElem? (i := 561) (by decide +kernel)⟩
theorem lw_p18 : lw_okq (⟨"FusedEngineModel", "alike", "(II)I"⟩, 17) := ⟨⟨by decide +kernel, by decide +kernel⟩, List.mem_of_getElem? (i := 461) (by decide +kernel), List.mem_of_getElem? (i := 564) (by decide +kernel), List.mem_of_getElem? (i := 565) (by decide +kernel)⟩
theorem lw_p19 : lw_okq (⟨"FusedEngineModel", "target", "(I)Z"⟩, 17) := ⟨⟨by decide +kernel, by decide +kernel⟩, List.mem_of_getElem? (i := 461) (by decide +kernel), List.mem_of_getElem? (i := 568) (by decide +kernel), List.mem_of_getElem? (i := 569) (by decide +kernel)⟩
theorem lw_p20 : lw_okq (⟨"FusedEngineModel", "lengthOf", "(I)I"⟩, 17) := ⟨⟨by decide +kernel, by decide +kernel⟩, List.mem_of_getElem? (i := 461) (by decide +kernel), List.mem_of_getElem? (i := 575) (by decide +kernel), List.mem_of_getElem? (i := 576) (by decide +kernel)⟩
theorem lw_p21 : lw_okq (⟨"FusedEngineModel", "refuse", "(I)I"⟩, 17) := ⟨⟨by decide +kernel, by decide +kernel⟩, List.mem_of_getElem? (i := 461) (by decide +kernel), List.mem_of_getElem? (i := 583) (by decide +kernel), List.mem_of_getElem? (i := 584) (by decide +kernel)⟩
theorem lw_p22 : lw_okq (⟨"FusedEngineModel", "act", "(I)Z"⟩, 17) := ⟨⟨by decide +kernel, by decide +kernel⟩, List.mem_of_getElem? (i := 461) (by decide +kernel), List.mem_of_getElem? (i := 591) (by decide +kernel), List.mem_of_getElem? (i := 592) (by decide +kernel)⟩
theorem lw_p23 : lw_okq (⟨"FusedEngineModel", "trap", "(II)I"⟩, 17) := ⟨⟨by decide +kernel, by decide +kernel⟩, List.mem_of_getElem? (i := 461) (by decide +kernel), List.mem_of_getElem? (i := 595) (by decide +kernel), List.mem_of_getElem? (i := 596) (by decide +kernel)⟩
theorem lw_p24 : lw_okq (⟨"FusedEngineModel", "takes", "(I)I"⟩, 17) := ⟨⟨by decide +kernel, by decide +kernel⟩, List.mem_of_getElem? (i := 461) (by decide +kernel), List.mem_of_getElem? (i := 599) (by decide +kernel), List.mem_of_getElem? (i := 600) (by decide +kernel)⟩
theorem lw_p25 : lw_okq (⟨"FusedEngineModel", "work", "(III)V"⟩, 17) := ⟨⟨by decide +kernel, by decide +kernel⟩, List.mem_of_getElem? (i := 461) (by decide +kernel), List.mem_of_getElem? (i := 603) (by decide +kernel), List.mem_of_getElem? (i := 604) (by decide +kernel)⟩
theorem lw_p26 : lw_okq (⟨"FusedEngineModel", "pop", "(I)I"⟩, 17) := ⟨⟨by decide +kernel, by decide +kernel⟩, List.mem_of_getElem? (i := 461) (by decide +kernel), List.mem_of_getElem? (i := 607) (by decide +kernel), List.mem_of_getElem? (i := 608) (by decide +kernel)⟩
theorem lw_p27 : lw_okq (⟨"FusedEngineModel", "push", "(II)V"⟩, 17) := ⟨⟨by decide +kernel, by decide +kernel⟩, List.mem_of_getElem? (i := 461) (by decide +kernel), List.mem_of_getElem? (i := 614) (by decide +kernel), List.mem_of_getElem? (i := 615) (by decide +kernel)⟩
theorem lw_p28 : lw_okq (⟨"FusedEngineModel", "say", "(II)V"⟩, 17) := ⟨⟨by decide +kernel, by decide +kernel⟩, List.mem_of_getElem? (i := 461) (by decide +kernel), List.mem_of_getElem? (i := 618) (by decide +kernel), List.mem_of_getElem? (i := 619) (by decide +kernel)⟩
theorem lw_p29 : lw_okq (⟨"FusedEngineModel", "next", "(III)I"⟩, 17) := ⟨⟨by decide +kernel, by decide +kernel⟩, List.mem_of_getElem? (i := 461) (by decide +kernel), List.mem_of_getElem? (i := 622) (by decide +kernel), List.mem_of_getElem? (i := 623) (by decide +kernel)⟩
def lw_privs_2 : List (MethodName × Nat) := [(⟨"FusedEngineModel", "begin", "()V"⟩, 17), (⟨"FusedEngineModel", "rowAt", "(I)I"⟩, 17), (⟨"FusedEngineModel", "alike", "(II)I"⟩, 17), (⟨"FusedEngineModel", "target", "(I)Z"⟩, 17), (⟨"FusedEngineModel", "lengthOf", "(I)I"⟩, 17), (⟨"FusedEngineModel", "refuse", "(I)I"⟩, 17), (⟨"FusedEngineModel", "act", "(I)Z"⟩, 17), (⟨"FusedEngineModel", "trap", "(II)I"⟩, 17), (⟨"FusedEngineModel", "takes", "(I)I"⟩, 17), (⟨"FusedEngineModel", "work", "(III)V"⟩, 17), (⟨"FusedEngineModel", "pop", "(I)I"⟩, 17), (⟨"FusedEngineModel", "push", "(II)V"⟩, 17), (⟨"FusedEngineModel", "say", "(II)V"⟩, 17), (⟨"FusedEngineModel", "next", "(III)I"⟩, 17)]
theorem lw_r2 : ∀ q ∈ lw_privs_2, lw_okq q := List.forall_mem_cons.mpr ⟨lw_p16, List.forall_mem_cons.mpr ⟨lw_p17, List.forall_mem_cons.mpr ⟨lw_p18, List.forall_mem_cons.mpr ⟨lw_p19, List.forall_mem_cons.mpr ⟨lw_p20, List.forall_mem_cons.mpr ⟨lw_p21, List.forall_mem_cons.mpr ⟨lw_p22, List.forall_mem_cons.mpr ⟨lw_p23, List.forall_mem_cons.mpr ⟨lw_p24, List.forall_mem_cons.mpr ⟨lw_p25, List.forall_mem_cons.mpr ⟨lw_p26, List.forall_mem_cons.mpr ⟨lw_p27, List.forall_mem_cons.mpr ⟨lw_p28, List.forall_mem_cons.mpr ⟨lw_p29, fun _ h => absurd h List.not_mem_nil⟩⟩⟩⟩⟩⟩⟩⟩⟩⟩⟩⟩⟩⟩
def lw_privs : List (MethodName × Nat) := lw_privs_1 ++ (lw_privs_2)
def lw_tbl : List Cond := k2_sels lw_privs ++ tables_1
theorem lw_privs_ok : ∀ q ∈ lw_privs, lw_okq q := by
  show ∀ q ∈ lw_privs_1 ++ (lw_privs_2), lw_okq q
  exact List.forall_mem_append.mpr ⟨lw_r1, lw_r2⟩

/-- the words that every contract carries: those of the tables that speak of the tables alone -/
def lw_ok : List Cond := lw_tbl.filter goodWord
theorem lw_good : ∀ w ∈ lw_ok, goodWord w = true := fun _ h => (List.mem_filter.mp h).2
theorem lw_okT : ∀ w ∈ lw_ok, w ∈ lw_tbl := fun _ h => (List.mem_filter.mp h).1
theorem lw_T {w : Cond} (h : w ∈ tables_1) : w ∈ lw_tbl := List.mem_append_right _ h
theorem lw_0 {w : Cond} (h : w ∈ k2_sels lw_privs) (g : goodWord w = true) : w ∈ lw_ok := List.mem_filter.mpr ⟨List.mem_append_left _ h, g⟩
theorem lt_1 {w : Cond} (h : w ∈ tables_1_1) : w ∈ tables_1 := List.mem_append_left _ h
theorem lt_2 {w : Cond} (h : w ∈ tables_1_2) : w ∈ tables_1 := List.mem_append_right _ (List.mem_append_left _ h)
theorem lt_3 {w : Cond} (h : w ∈ tables_1_3) : w ∈ tables_1 := List.mem_append_right _ (List.mem_append_right _ h)
theorem lw_1 {w : Cond} (h : w ∈ tables_1_1) (g : goodWord w = true) : w ∈ lw_ok := List.mem_filter.mpr ⟨lw_T (lt_1 h), g⟩
theorem lw_2 {w : Cond} (h : w ∈ tables_1_2) (g : goodWord w = true) : w ∈ lw_ok := List.mem_filter.mpr ⟨lw_T (lt_2 h), g⟩
theorem lw_3 {w : Cond} (h : w ∈ tables_1_3) (g : goodWord w = true) : w ∈ lw_ok := List.mem_filter.mpr ⟨lw_T (lt_3 h), g⟩
theorem tw1_0 : Cond.initialized "FusedEngineLaw" ∈ lw_ok := lw_1 (List.mem_of_getElem? (i := 0) rfl) rfl
theorem tw1_1 : Cond.initialized "FusedEngine" ∈ lw_ok := lw_1 (List.mem_of_getElem? (i := 1) rfl) rfl
theorem tw1_2 : Cond.initialized "FusedEngine$Program" ∈ lw_ok := lw_1 (List.mem_of_getElem? (i := 2) rfl) rfl
theorem tw1_3 : Cond.initialized "FusedEngine$Machine" ∈ lw_ok := lw_1 (List.mem_of_getElem? (i := 3) rfl) rfl
theorem tw1_4 : Cond.initialized "FusedEngineModel" ∈ lw_ok := lw_1 (List.mem_of_getElem? (i := 4) rfl) rfl
theorem tw1_5 : Cond.initialized "java/lang/String" ∈ lw_ok := lw_1 (List.mem_of_getElem? (i := 5) rfl) rfl
theorem tw1_6 : Cond.initialized "java/lang/StringLatin1" ∈ lw_ok := lw_1 (List.mem_of_getElem? (i := 6) rfl) rfl
theorem tw1_7 : Cond.initialized "jdk/internal/util/Preconditions" ∈ lw_ok := lw_1 (List.mem_of_getElem? (i := 7) rfl) rfl
theorem tw1_8 : Cond.initialized "java/lang/StringUTF16" ∈ lw_ok := lw_1 (List.mem_of_getElem? (i := 8) rfl) rfl
theorem tw1_9 : Cond.initialized "java/lang/Throwable" ∈ lw_ok := lw_1 (List.mem_of_getElem? (i := 9) rfl) rfl
theorem tw1_10 : Cond.initialized "java/lang/Exception" ∈ lw_ok := lw_1 (List.mem_of_getElem? (i := 10) rfl) rfl
theorem tw1_11 : Cond.initialized "java/lang/RuntimeException" ∈ lw_ok := lw_1 (List.mem_of_getElem? (i := 11) rfl) rfl
theorem tw1_12 : Cond.initialized "java/lang/IllegalArgumentException" ∈ lw_ok := lw_1 (List.mem_of_getElem? (i := 12) rfl) rfl
theorem tw1_13 : Cond.initialized "java/lang/IllegalStateException" ∈ lw_ok := lw_1 (List.mem_of_getElem? (i := 13) rfl) rfl
theorem tw1_14 : Cond.initialized "java/util/Arrays" ∈ lw_ok := lw_1 (List.mem_of_getElem? (i := 14) rfl) rfl
theorem tw1_15 : Cond.initialized "java/util/NoSuchElementException" ∈ lw_ok := lw_1 (List.mem_of_getElem? (i := 15) rfl) rfl
theorem tw1_16 : Cond.initialized "FusedEngine$Rows" ∈ lw_ok := lw_1 (List.mem_of_getElem? (i := 16) rfl) rfl
theorem tw1_17 : Cond.initialized "java/lang/Math" ∈ lw_ok := lw_1 (List.mem_of_getElem? (i := 17) rfl) rfl
theorem tw1_18 : Cond.classLink "FusedEngineLaw" 8 "FusedEngine" ∈ lw_ok := lw_1 (List.mem_of_getElem? (i := 18) rfl) rfl
theorem tw1_19 : Cond.instantiable "FusedEngine" 3 ∈ lw_ok := lw_1 (List.mem_of_getElem? (i := 19) rfl) rfl
theorem tw1_20 : Cond.methodLink "FusedEngineLaw" 39 ⟨"FusedEngine", "<init>", "()V"⟩ ∈ lw_ok := lw_1 (List.mem_of_getElem? (i := 20) rfl) rfl
theorem tw1_21 : Cond.instanceMethod ⟨"FusedEngine", "<init>", "()V"⟩ ∈ lw_ok := lw_1 (List.mem_of_getElem? (i := 21) rfl) rfl
theorem tw1_22 : Cond.code ⟨"FusedEngine", "<init>", "()V"⟩ prog_1_method_1_code 1 (Option.none : Option FieldType) ∈ lw_ok := lw_1 (List.mem_of_getElem? (i := 22) rfl) rfl
theorem tw1_23 : Cond.methodLink "FusedEngine" 1 ⟨"java/lang/Object", "<init>", "()V"⟩ ∈ lw_ok := lw_1 (List.mem_of_getElem? (i := 23) rfl) rfl
theorem tw1_24 : Cond.instanceMethod ⟨"java/lang/Object", "<init>", "()V"⟩ ∈ lw_ok := lw_1 (List.mem_of_getElem? (i := 24) rfl) rfl
theorem tw1_25 : Cond.code ⟨"java/lang/Object", "<init>", "()V"⟩ object_method_1_code 1 (Option.none : Option FieldType) ∈ lw_ok := lw_1 (List.mem_of_getElem? (i := 25) rfl) rfl
theorem tw1_26 : Cond.classLink "FusedEngine" 7 "FusedEngine$Program" ∈ lw_ok := lw_1 (List.mem_of_getElem? (i := 26) rfl) rfl
theorem tw1_27 : Cond.instantiable "FusedEngine$Program" 7 ∈ lw_ok := lw_1 (List.mem_of_getElem? (i := 27) rfl) rfl
theorem tw1_28 : Cond.methodLinkNest "FusedEngine" 9 ⟨"FusedEngine$Program", "<init>", "()V"⟩ "FusedEngine" ∈ tables_1 := lt_1 (List.mem_of_getElem? (i := 28) rfl)
theorem tw1_29 : Cond.instanceMethod ⟨"FusedEngine$Program", "<init>", "()V"⟩ ∈ lw_ok := lw_1 (List.mem_of_getElem? (i := 29) rfl) rfl
theorem tw1_30 : Cond.code ⟨"FusedEngine$Program", "<init>", "()V"⟩ prog_3_method_1_code 1 (Option.none : Option FieldType) ∈ lw_ok := lw_1 (List.mem_of_getElem? (i := 30) rfl) rfl
theorem tw1_31 : Cond.methodLink "FusedEngine$Program" 3 ⟨"java/lang/Object", "<init>", "()V"⟩ ∈ lw_ok := lw_1 (List.mem_of_getElem? (i := 31) rfl) rfl
theorem tw1_32 : Cond.fieldLink "FusedEngine$Program" 11 "FusedEngine$Program" "letters" "[I" ∈ lw_ok := lw_1 (List.mem_of_getElem? (i := 32) rfl) rfl
theorem tw1_33 : Cond.fieldLink "FusedEngine$Machine" 68 "FusedEngine$Program" "letters" "[I" ∈ lw_ok := lw_1 (List.mem_of_getElem? (i := 33) rfl) rfl
theorem tw1_34 : Cond.fieldLink "FusedEngine$Program" 15 "FusedEngine$Program" "numbers" "[I" ∈ lw_ok := lw_1 (List.mem_of_getElem? (i := 34) rfl) rfl
theorem tw1_35 : Cond.fieldLink "FusedEngine$Machine" 75 "FusedEngine$Program" "numbers" "[I" ∈ lw_ok := lw_1 (List.mem_of_getElem? (i := 35) rfl) rfl
theorem tw1_36 : Cond.fieldLink "FusedEngine$Program" 18 "FusedEngine$Program" "targets" "[Z" ∈ lw_ok := lw_1 (List.mem_of_getElem? (i := 36) rfl) rfl
theorem tw1_37 : Cond.fieldLink "FusedEngine$Program" 22 "FusedEngine$Program" "rows" "[I" ∈ lw_ok := lw_1 (List.mem_of_getElem? (i := 37) rfl) rfl
theorem tw1_38 : Cond.fieldLink "FusedEngine$Program" 25 "FusedEngine$Program" "lengths" "[I" ∈ lw_ok := lw_1 (List.mem_of_getElem? (i := 38) rfl) rfl
theorem tw1_39 : Cond.fieldLink "FusedEngine$Machine" 61 "FusedEngine$Program" "lengths" "[I" ∈ lw_ok := lw_1 (List.mem_of_getElem? (i := 39) rfl) rfl
theorem tw1_40 : Cond.fieldLink "FusedEngine" 37 "FusedEngine$Program" "size" "I" ∈ lw_ok := lw_1 (List.mem_of_getElem? (i := 40) rfl) rfl
theorem tw1_41 : Cond.fieldLink "FusedEngine$Program" 42 "FusedEngine$Program" "size" "I" ∈ lw_ok := lw_1 (List.mem_of_getElem? (i := 41) rfl) rfl
theorem tw1_42 : Cond.fieldLink "FusedEngine$Program" 50 "FusedEngine$Program" "isFused" "Z" ∈ lw_ok := lw_1 (List.mem_of_getElem? (i := 42) rfl) rfl
theorem tw1_43 : Cond.fieldLink "FusedEngine" 75 "FusedEngine$Program" "isFused" "Z" ∈ lw_ok := lw_1 (List.mem_of_getElem? (i := 43) rfl) rfl
theorem tw1_44 : Cond.laysFinal "FusedEngine$Program" "FusedEngine$Program" "letters" "[I" ∈ lw_ok := lw_1 (List.mem_of_getElem? (i := 44) rfl) rfl
theorem tw1_45 : Cond.soleField "FusedEngine$Program" "letters" ∈ lw_ok := lw_1 (List.mem_of_getElem? (i := 45) rfl) rfl
theorem tw1_46 : Cond.laysFinal "FusedEngine$Program" "FusedEngine$Program" "numbers" "[I" ∈ lw_ok := lw_1 (List.mem_of_getElem? (i := 46) rfl) rfl
theorem tw1_47 : Cond.soleField "FusedEngine$Program" "numbers" ∈ lw_ok := lw_1 (List.mem_of_getElem? (i := 47) rfl) rfl
theorem tw1_48 : Cond.laysFinal "FusedEngine$Program" "FusedEngine$Program" "targets" "[Z" ∈ lw_ok := lw_1 (List.mem_of_getElem? (i := 48) rfl) rfl
theorem tw1_49 : Cond.soleField "FusedEngine$Program" "targets" ∈ lw_ok := lw_1 (List.mem_of_getElem? (i := 49) rfl) rfl
theorem tw1_50 : Cond.laysFinal "FusedEngine$Program" "FusedEngine$Program" "rows" "[I" ∈ lw_ok := lw_1 (List.mem_of_getElem? (i := 50) rfl) rfl
theorem tw1_51 : Cond.soleField "FusedEngine$Program" "rows" ∈ lw_ok := lw_1 (List.mem_of_getElem? (i := 51) rfl) rfl
theorem tw1_52 : Cond.laysFinal "FusedEngine$Program" "FusedEngine$Program" "lengths" "[I" ∈ lw_ok := lw_1 (List.mem_of_getElem? (i := 52) rfl) rfl
theorem tw1_53 : Cond.soleField "FusedEngine$Program" "lengths" ∈ lw_ok := lw_1 (List.mem_of_getElem? (i := 53) rfl) rfl
theorem tw1_54 : Cond.lays "FusedEngine$Program" "FusedEngine$Program" "size" "I" ∈ lw_ok := lw_1 (List.mem_of_getElem? (i := 54) rfl) rfl
theorem tw1_55 : Cond.soleField "FusedEngine$Program" "size" ∈ lw_ok := lw_1 (List.mem_of_getElem? (i := 55) rfl) rfl
theorem tw1_56 : Cond.lays "FusedEngine$Program" "FusedEngine$Program" "isFused" "Z" ∈ lw_ok := lw_1 (List.mem_of_getElem? (i := 56) rfl) rfl
theorem tw1_57 : Cond.soleField "FusedEngine$Program" "isFused" ∈ lw_ok := lw_1 (List.mem_of_getElem? (i := 57) rfl) rfl
theorem tw1_58 : Cond.superclass "FusedEngine$Program" "java/lang/Object" ∈ lw_ok := lw_1 (List.mem_of_getElem? (i := 58) rfl) rfl
theorem tw1_59 : Cond.arrayClass FieldType.int ∈ lw_ok := lw_1 (List.mem_of_getElem? (i := 59) rfl) rfl
theorem tw1_60 : Cond.arrayClass FieldType.boolean ∈ lw_ok := lw_1 (List.mem_of_getElem? (i := 60) rfl) rfl
theorem tw1_61 : Cond.classLink "FusedEngine" 16 "FusedEngine$Machine" ∈ lw_ok := lw_1 (List.mem_of_getElem? (i := 61) rfl) rfl
theorem tw1_62 : Cond.instantiable "FusedEngine$Machine" 10 ∈ lw_ok := lw_1 (List.mem_of_getElem? (i := 62) rfl) rfl
theorem tw1_63 : Cond.methodLinkNest "FusedEngine" 18 ⟨"FusedEngine$Machine", "<init>", "()V"⟩ "FusedEngine" ∈ tables_1 := lt_1 (List.mem_of_getElem? (i := 63) rfl)
theorem tw1_64 : Cond.instanceMethod ⟨"FusedEngine$Machine", "<init>", "()V"⟩ ∈ lw_ok := lw_1 (List.mem_of_getElem? (i := 64) rfl) rfl
theorem tw1_65 : Cond.code ⟨"FusedEngine$Machine", "<init>", "()V"⟩ prog_2_method_1_code 1 (Option.none : Option FieldType) ∈ lw_ok := lw_1 (List.mem_of_getElem? (i := 65) rfl) rfl
theorem tw1_66 : Cond.methodLink "FusedEngine$Machine" 3 ⟨"java/lang/Object", "<init>", "()V"⟩ ∈ lw_ok := lw_1 (List.mem_of_getElem? (i := 66) rfl) rfl
theorem tw1_67 : Cond.fieldLink "FusedEngine$Machine" 11 "FusedEngine$Machine" "values" "[I" ∈ lw_ok := lw_1 (List.mem_of_getElem? (i := 67) rfl) rfl
theorem tw1_68 : Cond.fieldLink "FusedEngine" 100 "FusedEngine$Machine" "values" "[I" ∈ lw_ok := lw_1 (List.mem_of_getElem? (i := 68) rfl) rfl
theorem tw1_69 : Cond.fieldLink "FusedEngine$Machine" 15 "FusedEngine$Machine" "locals" "[I" ∈ lw_ok := lw_1 (List.mem_of_getElem? (i := 69) rfl) rfl
theorem tw1_70 : Cond.fieldLink "FusedEngine" 106 "FusedEngine$Machine" "locals" "[I" ∈ lw_ok := lw_1 (List.mem_of_getElem? (i := 70) rfl) rfl
theorem tw1_71 : Cond.fieldLink "FusedEngine$Machine" 18 "FusedEngine$Machine" "outputs" "[I" ∈ lw_ok := lw_1 (List.mem_of_getElem? (i := 71) rfl) rfl
theorem tw1_72 : Cond.fieldLink "FusedEngine" 114 "FusedEngine$Machine" "outputs" "[I" ∈ lw_ok := lw_1 (List.mem_of_getElem? (i := 72) rfl) rfl
theorem tw1_73 : Cond.fieldLink "FusedEngine$Machine" 21 "FusedEngine$Machine" "returns" "[I" ∈ lw_ok := lw_1 (List.mem_of_getElem? (i := 73) rfl) rfl
theorem tw1_74 : Cond.fieldLink "FusedEngine$Machine" 30 "FusedEngine$Machine" "height" "I" ∈ lw_ok := lw_1 (List.mem_of_getElem? (i := 74) rfl) rfl
theorem tw1_75 : Cond.fieldLink "FusedEngine" 95 "FusedEngine$Machine" "height" "I" ∈ lw_ok := lw_1 (List.mem_of_getElem? (i := 75) rfl) rfl
theorem tw1_76 : Cond.fieldLink "FusedEngine$Machine" 34 "FusedEngine$Machine" "returnCount" "I" ∈ lw_ok := lw_1 (List.mem_of_getElem? (i := 76) rfl) rfl
theorem tw1_77 : Cond.fieldLink "FusedEngine$Machine" 37 "FusedEngine$Machine" "outputCount" "I" ∈ lw_ok := lw_1 (List.mem_of_getElem? (i := 77) rfl) rfl
theorem tw1_78 : Cond.fieldLink "FusedEngine$Machine" 40 "FusedEngine$Machine" "place" "I" ∈ lw_ok := lw_1 (List.mem_of_getElem? (i := 78) rfl) rfl
theorem tw1_79 : Cond.fieldLink "FusedEngine$Machine" 43 "FusedEngine$Machine" "state" "I" ∈ lw_ok := lw_1 (List.mem_of_getElem? (i := 79) rfl) rfl
theorem tw1_80 : Cond.fieldLink "FusedEngine$Machine" 46 "FusedEngine$Machine" "done" "I" ∈ lw_ok := lw_1 (List.mem_of_getElem? (i := 80) rfl) rfl
theorem tw1_81 : Cond.laysFinal "FusedEngine$Machine" "FusedEngine$Machine" "values" "[I" ∈ lw_ok := lw_1 (List.mem_of_getElem? (i := 81) rfl) rfl
theorem tw1_82 : Cond.soleField "FusedEngine$Machine" "values" ∈ lw_ok := lw_1 (List.mem_of_getElem? (i := 82) rfl) rfl
theorem tw1_83 : Cond.laysFinal "FusedEngine$Machine" "FusedEngine$Machine" "locals" "[I" ∈ lw_ok := lw_1 (List.mem_of_getElem? (i := 83) rfl) rfl
theorem tw1_84 : Cond.soleField "FusedEngine$Machine" "locals" ∈ lw_ok := lw_1 (List.mem_of_getElem? (i := 84) rfl) rfl
theorem tw1_85 : Cond.laysFinal "FusedEngine$Machine" "FusedEngine$Machine" "outputs" "[I" ∈ lw_ok := lw_1 (List.mem_of_getElem? (i := 85) rfl) rfl
theorem tw1_86 : Cond.soleField "FusedEngine$Machine" "outputs" ∈ lw_ok := lw_1 (List.mem_of_getElem? (i := 86) rfl) rfl
theorem tw1_87 : Cond.laysFinal "FusedEngine$Machine" "FusedEngine$Machine" "returns" "[I" ∈ lw_ok := lw_1 (List.mem_of_getElem? (i := 87) rfl) rfl
theorem tw1_88 : Cond.soleField "FusedEngine$Machine" "returns" ∈ lw_ok := lw_1 (List.mem_of_getElem? (i := 88) rfl) rfl
theorem tw1_89 : Cond.lays "FusedEngine$Machine" "FusedEngine$Machine" "height" "I" ∈ lw_ok := lw_1 (List.mem_of_getElem? (i := 89) rfl) rfl
theorem tw1_90 : Cond.soleField "FusedEngine$Machine" "height" ∈ lw_ok := lw_1 (List.mem_of_getElem? (i := 90) rfl) rfl
theorem tw1_91 : Cond.lays "FusedEngine$Machine" "FusedEngine$Machine" "returnCount" "I" ∈ lw_ok := lw_1 (List.mem_of_getElem? (i := 91) rfl) rfl
theorem tw1_92 : Cond.soleField "FusedEngine$Machine" "returnCount" ∈ lw_ok := lw_1 (List.mem_of_getElem? (i := 92) rfl) rfl
theorem tw1_93 : Cond.lays "FusedEngine$Machine" "FusedEngine$Machine" "outputCount" "I" ∈ lw_ok := lw_1 (List.mem_of_getElem? (i := 93) rfl) rfl
theorem tw1_94 : Cond.soleField "FusedEngine$Machine" "outputCount" ∈ lw_ok := lw_1 (List.mem_of_getElem? (i := 94) rfl) rfl
theorem tw1_95 : Cond.lays "FusedEngine$Machine" "FusedEngine$Machine" "place" "I" ∈ lw_ok := lw_1 (List.mem_of_getElem? (i := 95) rfl) rfl
theorem tw1_96 : Cond.soleField "FusedEngine$Machine" "place" ∈ lw_ok := lw_1 (List.mem_of_getElem? (i := 96) rfl) rfl
theorem tw1_97 : Cond.lays "FusedEngine$Machine" "FusedEngine$Machine" "state" "I" ∈ lw_ok := lw_1 (List.mem_of_getElem? (i := 97) rfl) rfl
theorem tw1_98 : Cond.soleField "FusedEngine$Machine" "state" ∈ lw_ok := lw_1 (List.mem_of_getElem? (i := 98) rfl) rfl
theorem tw1_99 : Cond.lays "FusedEngine$Machine" "FusedEngine$Machine" "done" "I" ∈ lw_ok := lw_1 (List.mem_of_getElem? (i := 99) rfl) rfl
theorem tw1_100 : Cond.soleField "FusedEngine$Machine" "done" ∈ lw_ok := lw_1 (List.mem_of_getElem? (i := 100) rfl) rfl
theorem tw1_101 : Cond.superclass "FusedEngine$Machine" "java/lang/Object" ∈ lw_ok := lw_1 (List.mem_of_getElem? (i := 101) rfl) rfl
theorem tw1_102 : Cond.fieldLink "FusedEngine" 10 "FusedEngine" "program" "LFusedEngine$Program;" ∈ lw_ok := lw_1 (List.mem_of_getElem? (i := 102) rfl) rfl
theorem tw1_103 : Cond.fieldLink "FusedEngine" 19 "FusedEngine" "plainMachine" "LFusedEngine$Machine;" ∈ lw_ok := lw_1 (List.mem_of_getElem? (i := 103) rfl) rfl
theorem tw1_104 : Cond.fieldLink "FusedEngine" 23 "FusedEngine" "fusedMachine" "LFusedEngine$Machine;" ∈ lw_ok := lw_1 (List.mem_of_getElem? (i := 104) rfl) rfl
theorem tw1_105 : Cond.laysFinal "FusedEngine" "FusedEngine" "program" "LFusedEngine$Program;" ∈ lw_ok := lw_1 (List.mem_of_getElem? (i := 105) rfl) rfl
theorem tw1_106 : Cond.soleField "FusedEngine" "program" ∈ lw_ok := lw_1 (List.mem_of_getElem? (i := 106) rfl) rfl
theorem tw1_107 : Cond.laysFinal "FusedEngine" "FusedEngine" "plainMachine" "LFusedEngine$Machine;" ∈ lw_ok := lw_1 (List.mem_of_getElem? (i := 107) rfl) rfl
theorem tw1_108 : Cond.soleField "FusedEngine" "plainMachine" ∈ lw_ok := lw_1 (List.mem_of_getElem? (i := 108) rfl) rfl
theorem tw1_109 : Cond.laysFinal "FusedEngine" "FusedEngine" "fusedMachine" "LFusedEngine$Machine;" ∈ lw_ok := lw_1 (List.mem_of_getElem? (i := 109) rfl) rfl
theorem tw1_110 : Cond.soleField "FusedEngine" "fusedMachine" ∈ lw_ok := lw_1 (List.mem_of_getElem? (i := 110) rfl) rfl
theorem tw1_111 : Cond.superclass "FusedEngine" "java/lang/Object" ∈ lw_ok := lw_1 (List.mem_of_getElem? (i := 111) rfl) rfl
theorem tw1_112 : Cond.methodLink "FusedEngineLaw" 57 ⟨"FusedEngine", "clear", "()V"⟩ ∈ lw_ok := lw_1 (List.mem_of_getElem? (i := 112) rfl) rfl
theorem tw1_113 : Cond.instanceMethod ⟨"FusedEngine", "clear", "()V"⟩ ∈ lw_ok := lw_1 (List.mem_of_getElem? (i := 113) rfl) rfl
theorem tw1_114 : Cond.selects "FusedEngine" ⟨"FusedEngine", "clear", "()V"⟩ ⟨"FusedEngine", "clear", "()V"⟩ ∈ lw_ok := lw_1 (List.mem_of_getElem? (i := 114) rfl) rfl
theorem tw1_115 : Cond.code ⟨"FusedEngine", "clear", "()V"⟩ prog_1_method_4_code 1 (Option.none : Option FieldType) ∈ lw_ok := lw_1 (List.mem_of_getElem? (i := 115) rfl) rfl
theorem tw1_116 : Cond.methodLink "FusedEngine" 66 ⟨"FusedEngine$Program", "removeAll", "()V"⟩ ∈ lw_ok := lw_1 (List.mem_of_getElem? (i := 116) rfl) rfl
theorem tw1_117 : Cond.instanceMethod ⟨"FusedEngine$Program", "removeAll", "()V"⟩ ∈ lw_ok := lw_1 (List.mem_of_getElem? (i := 117) rfl) rfl
theorem tw1_118 : Cond.selects "FusedEngine$Program" ⟨"FusedEngine$Program", "removeAll", "()V"⟩ ⟨"FusedEngine$Program", "removeAll", "()V"⟩ ∈ lw_ok := lw_1 (List.mem_of_getElem? (i := 118) rfl) rfl
theorem tw1_119 : Cond.code ⟨"FusedEngine$Program", "removeAll", "()V"⟩ prog_3_method_6_code 1 (Option.none : Option FieldType) ∈ lw_ok := lw_1 (List.mem_of_getElem? (i := 119) rfl) rfl
theorem tw1_120 : Cond.methodLink "FusedEngine" 50 ⟨"FusedEngine", "beginBoth", "()V"⟩ ∈ lw_ok := lw_1 (List.mem_of_getElem? (i := 120) rfl) rfl
theorem tw1_121 : Cond.privateMethod ⟨"FusedEngine", "beginBoth", "()V"⟩ ∈ tables_1 := lt_1 (List.mem_of_getElem? (i := 121) rfl)
theorem tw1_122 : Cond.instanceMethod ⟨"FusedEngine", "beginBoth", "()V"⟩ ∈ lw_ok := lw_1 (List.mem_of_getElem? (i := 122) rfl) rfl
theorem tw1_123 : Cond.code ⟨"FusedEngine", "beginBoth", "()V"⟩ prog_1_method_14_code 1 (Option.none : Option FieldType) ∈ lw_ok := lw_1 (List.mem_of_getElem? (i := 123) rfl) rfl
theorem tw1_124 : Cond.methodLink "FusedEngine" 117 ⟨"FusedEngine$Machine", "begin", "()V"⟩ ∈ lw_ok := lw_1 (List.mem_of_getElem? (i := 124) rfl) rfl
theorem tw1_125 : Cond.instanceMethod ⟨"FusedEngine$Machine", "begin", "()V"⟩ ∈ lw_ok := lw_1 (List.mem_of_getElem? (i := 125) rfl) rfl
theorem tw1_126 : Cond.selects "FusedEngine$Machine" ⟨"FusedEngine$Machine", "begin", "()V"⟩ ⟨"FusedEngine$Machine", "begin", "()V"⟩ ∈ lw_ok := lw_1 (List.mem_of_getElem? (i := 126) rfl) rfl
theorem tw1_127 : Cond.code ⟨"FusedEngine$Machine", "begin", "()V"⟩ prog_2_method_2_code 1 (Option.none : Option FieldType) ∈ lw_ok := lw_1 (List.mem_of_getElem? (i := 127) rfl) rfl
theorem tw1_128 : Cond.methodLink "FusedEngine$Machine" 24 ⟨"java/util/Arrays", "fill", "([II)V"⟩ ∈ lw_ok := lw_1 (List.mem_of_getElem? (i := 128) rfl) rfl
theorem tw1_129 : Cond.static ⟨"java/util/Arrays", "fill", "([II)V"⟩ ∈ lw_ok := lw_1 (List.mem_of_getElem? (i := 129) rfl) rfl
theorem tw1_130 : Cond.code ⟨"java/util/Arrays", "fill", "([II)V"⟩ prog_16_method_103_code 4 (Option.none : Option FieldType) ∈ lw_ok := lw_1 (List.mem_of_getElem? (i := 130) rfl) rfl
theorem tw1_131 : Cond.methodLink "FusedEngineLaw" 61 ⟨"FusedEngine", "fuse", "()I"⟩ ∈ lw_ok := lw_1 (List.mem_of_getElem? (i := 131) rfl) rfl
theorem tw1_132 : Cond.instanceMethod ⟨"FusedEngine", "fuse", "()I"⟩ ∈ lw_ok := lw_1 (List.mem_of_getElem? (i := 132) rfl) rfl
theorem tw1_133 : Cond.selects "FusedEngine" ⟨"FusedEngine", "fuse", "()I"⟩ ⟨"FusedEngine", "fuse", "()I"⟩ ∈ lw_ok := lw_1 (List.mem_of_getElem? (i := 133) rfl) rfl
theorem tw1_134 : Cond.code ⟨"FusedEngine", "fuse", "()I"⟩ prog_1_method_5_code 2 (Option.some FieldType.int) ∈ lw_ok := lw_1 (List.mem_of_getElem? (i := 134) rfl) rfl
theorem tw1_135 : Cond.methodLink "FusedEngine" 69 ⟨"FusedEngine$Program", "fuseRows", "()I"⟩ ∈ lw_ok := lw_1 (List.mem_of_getElem? (i := 135) rfl) rfl
theorem tw1_136 : Cond.instanceMethod ⟨"FusedEngine$Program", "fuseRows", "()I"⟩ ∈ lw_ok := lw_1 (List.mem_of_getElem? (i := 136) rfl) rfl
theorem tw1_137 : Cond.selects "FusedEngine$Program" ⟨"FusedEngine$Program", "fuseRows", "()I"⟩ ⟨"FusedEngine$Program", "fuseRows", "()I"⟩ ∈ lw_ok := lw_1 (List.mem_of_getElem? (i := 137) rfl) rfl
theorem tw1_138 : Cond.code ⟨"FusedEngine$Program", "fuseRows", "()I"⟩ prog_3_method_10_code 5 (Option.some FieldType.int) ∈ lw_ok := lw_1 (List.mem_of_getElem? (i := 138) rfl) rfl
theorem tw1_139 : Cond.methodLink "FusedEngine$Program" 65 ⟨"FusedEngine$Program", "longestRowAt", "(I)I"⟩ ∈ lw_ok := lw_1 (List.mem_of_getElem? (i := 139) rfl) rfl
theorem tw1_140 : Cond.privateMethod ⟨"FusedEngine$Program", "longestRowAt", "(I)I"⟩ ∈ tables_1 := lt_1 (List.mem_of_getElem? (i := 140) rfl)
theorem tw1_141 : Cond.instanceMethod ⟨"FusedEngine$Program", "longestRowAt", "(I)I"⟩ ∈ lw_ok := lw_1 (List.mem_of_getElem? (i := 141) rfl) rfl
theorem tw1_142 : Cond.code ⟨"FusedEngine$Program", "longestRowAt", "(I)I"⟩ prog_3_method_11_code 6 (Option.some FieldType.int) ∈ lw_ok := lw_1 (List.mem_of_getElem? (i := 142) rfl) rfl
theorem tw1_143 : Cond.methodLink "FusedEngine$Program" 74 ⟨"FusedEngine$Rows", "letterOf", "(II)I"⟩ ∈ lw_ok := lw_1 (List.mem_of_getElem? (i := 143) rfl) rfl
theorem tw1_144 : Cond.static ⟨"FusedEngine$Rows", "letterOf", "(II)I"⟩ ∈ lw_ok := lw_1 (List.mem_of_getElem? (i := 144) rfl) rfl
theorem tw1_145 : Cond.code ⟨"FusedEngine$Rows", "letterOf", "(II)I"⟩ prog_4_method_2_code 2 (Option.some FieldType.int) ∈ lw_ok := lw_1 (List.mem_of_getElem? (i := 145) rfl) rfl
theorem tw1_146 : Cond.fieldLink "FusedEngine$Rows" 7 "FusedEngine$Rows" "LETTERS" "[C" ∈ lw_ok := lw_1 (List.mem_of_getElem? (i := 146) rfl) rfl
theorem tw1_147 : Cond.laysStatic "FusedEngine$Rows" "LETTERS" "[C" ∈ tables_1 := lt_1 (List.mem_of_getElem? (i := 147) rfl)
theorem tw1_148 : Cond.methodLink "FusedEngine$Program" 69 ⟨"FusedEngine$Rows", "lengthOf", "(I)I"⟩ ∈ lw_ok := lw_1 (List.mem_of_getElem? (i := 148) rfl) rfl
theorem tw1_149 : Cond.static ⟨"FusedEngine$Rows", "lengthOf", "(I)I"⟩ ∈ lw_ok := lw_1 (List.mem_of_getElem? (i := 149) rfl) rfl
theorem tw1_150 : Cond.code ⟨"FusedEngine$Rows", "lengthOf", "(I)I"⟩ prog_4_method_3_code 2 (Option.some FieldType.int) ∈ lw_ok := lw_1 (List.mem_of_getElem? (i := 150) rfl) rfl
theorem tw1_151 : Cond.methodLink "FusedEngine$Rows" 13 ⟨"FusedEngine$Rows", "letterOf", "(II)I"⟩ ∈ lw_ok := lw_1 (List.mem_of_getElem? (i := 151) rfl) rfl
theorem tw1_152 : Cond.methodLink "FusedEngine$Program" 78 ⟨"FusedEngine$Program", "isRowAt", "(III)Z"⟩ ∈ lw_ok := lw_1 (List.mem_of_getElem? (i := 152) rfl) rfl
theorem tw1_153 : Cond.privateMethod ⟨"FusedEngine$Program", "isRowAt", "(III)Z"⟩ ∈ tables_1 := lt_1 (List.mem_of_getElem? (i := 153) rfl)
theorem tw1_154 : Cond.instanceMethod ⟨"FusedEngine$Program", "isRowAt", "(III)Z"⟩ ∈ lw_ok := lw_1 (List.mem_of_getElem? (i := 154) rfl) rfl
theorem tw1_155 : Cond.code ⟨"FusedEngine$Program", "isRowAt", "(III)Z"⟩ prog_3_method_12_code 5 (Option.some FieldType.boolean) ∈ lw_ok := lw_1 (List.mem_of_getElem? (i := 155) rfl) rfl
theorem tw1_156 : Cond.methodLink "FusedEngineLaw" 72 ⟨"FusedEngine", "restart", "()V"⟩ ∈ lw_ok := lw_1 (List.mem_of_getElem? (i := 156) rfl) rfl
theorem tw1_157 : Cond.instanceMethod ⟨"FusedEngine", "restart", "()V"⟩ ∈ lw_ok := lw_1 (List.mem_of_getElem? (i := 157) rfl) rfl
theorem tw1_158 : Cond.selects "FusedEngine" ⟨"FusedEngine", "restart", "()V"⟩ ⟨"FusedEngine", "restart", "()V"⟩ ∈ lw_ok := lw_1 (List.mem_of_getElem? (i := 158) rfl) rfl
theorem tw1_159 : Cond.code ⟨"FusedEngine", "restart", "()V"⟩ prog_1_method_8_code 1 (Option.none : Option FieldType) ∈ lw_ok := lw_1 (List.mem_of_getElem? (i := 159) rfl) rfl
theorem tw1_160 : Cond.methodLink "FusedEngineLaw" 76 ⟨"FusedEngine", "about", "(ZI)I"⟩ ∈ lw_ok := lw_1 (List.mem_of_getElem? (i := 160) rfl) rfl
theorem tw1_161 : Cond.instanceMethod ⟨"FusedEngine", "about", "(ZI)I"⟩ ∈ lw_ok := lw_1 (List.mem_of_getElem? (i := 161) rfl) rfl
theorem tw1_162 : Cond.selects "FusedEngine" ⟨"FusedEngine", "about", "(ZI)I"⟩ ⟨"FusedEngine", "about", "(ZI)I"⟩ ∈ lw_ok := lw_1 (List.mem_of_getElem? (i := 162) rfl) rfl
theorem tw1_163 : Cond.code ⟨"FusedEngine", "about", "(ZI)I"⟩ prog_1_method_9_code 3 (Option.some FieldType.int) ∈ lw_ok := lw_1 (List.mem_of_getElem? (i := 163) rfl) rfl
theorem tw1_164 : Cond.methodLink "FusedEngine" 84 ⟨"FusedEngine", "machineOf", "(Z)LFusedEngine$Machine;"⟩ ∈ lw_ok := lw_1 (List.mem_of_getElem? (i := 164) rfl) rfl
theorem tw1_165 : Cond.privateMethod ⟨"FusedEngine", "machineOf", "(Z)LFusedEngine$Machine;"⟩ ∈ tables_1 := lt_1 (List.mem_of_getElem? (i := 165) rfl)
theorem tw1_166 : Cond.instanceMethod ⟨"FusedEngine", "machineOf", "(Z)LFusedEngine$Machine;"⟩ ∈ lw_ok := lw_1 (List.mem_of_getElem? (i := 166) rfl) rfl
theorem tw1_167 : Cond.code ⟨"FusedEngine", "machineOf", "(Z)LFusedEngine$Machine;"⟩ prog_1_method_13_code 2 (Option.some (FieldType.object "FusedEngine$Machine")) ∈ lw_ok := lw_1 (List.mem_of_getElem? (i := 167) rfl) rfl
theorem tw1_168 : Cond.methodLink "FusedEngine" 92 ⟨"FusedEngine$Machine", "factOf", "(I)I"⟩ ∈ lw_ok := lw_1 (List.mem_of_getElem? (i := 168) rfl) rfl
theorem tw1_169 : Cond.instanceMethod ⟨"FusedEngine$Machine", "factOf", "(I)I"⟩ ∈ lw_ok := lw_1 (List.mem_of_getElem? (i := 169) rfl) rfl
theorem tw1_170 : Cond.selects "FusedEngine$Machine" ⟨"FusedEngine$Machine", "factOf", "(I)I"⟩ ⟨"FusedEngine$Machine", "factOf", "(I)I"⟩ ∈ lw_ok := lw_1 (List.mem_of_getElem? (i := 170) rfl) rfl
theorem tw1_171 : Cond.code ⟨"FusedEngine$Machine", "factOf", "(I)I"⟩ prog_2_method_4_code 2 (Option.some FieldType.int) ∈ lw_ok := lw_1 (List.mem_of_getElem? (i := 171) rfl) rfl
theorem tw1_172 : Cond.methodLink "FusedEngineLaw" 43 ⟨"FusedEngineLaw", "add", "(LFusedEngine;II[J)I"⟩ ∈ lw_ok := lw_1 (List.mem_of_getElem? (i := 172) rfl) rfl
theorem tw1_173 : Cond.static ⟨"FusedEngineLaw", "add", "(LFusedEngine;II[J)I"⟩ ∈ lw_ok := lw_1 (List.mem_of_getElem? (i := 173) rfl) rfl
theorem tw1_174 : Cond.codeWith ⟨"FusedEngineLaw", "add", "(LFusedEngine;II[J)I"⟩ method_3_code 5 (Option.some FieldType.int) [(0, 10, 13, 13), (0, 10, 17, 15)] ∈ lw_ok := lw_1 (List.mem_of_getElem? (i := 174) rfl) rfl
theorem tw1_175 : Cond.classLink "FusedEngineLaw" 13 "java/lang/IllegalArgumentException" ∈ lw_ok := lw_1 (List.mem_of_getElem? (i := 175) rfl) rfl
theorem tw1_176 : Cond.classLink "FusedEngineLaw" 15 "java/lang/IllegalStateException" ∈ lw_ok := lw_1 (List.mem_of_getElem? (i := 176) rfl) rfl
theorem tw1_177 : Cond.methodLink "FusedEngineLaw" 7 ⟨"FusedEngine", "add", "(II)I"⟩ ∈ lw_ok := lw_1 (List.mem_of_getElem? (i := 177) rfl) rfl
theorem tw1_178 : Cond.instanceMethod ⟨"FusedEngine", "add", "(II)I"⟩ ∈ lw_ok := lw_1 (List.mem_of_getElem? (i := 178) rfl) rfl
theorem tw1_179 : Cond.selects "FusedEngine" ⟨"FusedEngine", "add", "(II)I"⟩ ⟨"FusedEngine", "add", "(II)I"⟩ ∈ lw_ok := lw_1 (List.mem_of_getElem? (i := 179) rfl) rfl
theorem tw1_180 : Cond.code ⟨"FusedEngine", "add", "(II)I"⟩ prog_1_method_2_code 4 (Option.some FieldType.int) ∈ lw_ok := lw_1 (List.mem_of_getElem? (i := 180) rfl) rfl
theorem tw1_181 : Cond.methodLink "FusedEngine" 26 ⟨"FusedEngine$Program", "allows", "(II)Z"⟩ ∈ lw_ok := lw_1 (List.mem_of_getElem? (i := 181) rfl) rfl
theorem tw1_182 : Cond.static ⟨"FusedEngine$Program", "allows", "(II)Z"⟩ ∈ lw_ok := lw_1 (List.mem_of_getElem? (i := 182) rfl) rfl
theorem tw1_183 : Cond.code ⟨"FusedEngine$Program", "allows", "(II)Z"⟩ prog_3_method_2_code 3 (Option.some FieldType.boolean) ∈ lw_ok := lw_1 (List.mem_of_getElem? (i := 183) rfl) rfl
theorem tw1_184 : Cond.stringRef "FusedEngine$Program" 30 "PLS+-*/<=DXOVJZCRH" ∈ tables_1 := lt_1 (List.mem_of_getElem? (i := 184) rfl)
theorem tw1_185 : Cond.methodLink "FusedEngine$Program" 32 ⟨"java/lang/String", "length", "()I"⟩ ∈ lw_ok := lw_1 (List.mem_of_getElem? (i := 185) rfl) rfl
theorem tw1_186 : Cond.instanceMethod ⟨"java/lang/String", "length", "()I"⟩ ∈ lw_ok := lw_1 (List.mem_of_getElem? (i := 186) rfl) rfl
theorem tw1_187 : Cond.selects "java/lang/String" ⟨"java/lang/String", "length", "()I"⟩ ⟨"java/lang/String", "length", "()I"⟩ ∈ lw_ok := lw_1 (List.mem_of_getElem? (i := 187) rfl) rfl
theorem tw1_188 : Cond.code ⟨"java/lang/String", "length", "()I"⟩ prog_12_method_54_code 1 (Option.some FieldType.int) ∈ lw_ok := lw_1 (List.mem_of_getElem? (i := 188) rfl) rfl
theorem tw1_189 : Cond.methodLink "java/lang/String" 335 ⟨"java/lang/String", "coder", "()B"⟩ ∈ lw_ok := lw_1 (List.mem_of_getElem? (i := 189) rfl) rfl
theorem tw1_190 : Cond.instanceMethod ⟨"java/lang/String", "coder", "()B"⟩ ∈ lw_ok := lw_1 (List.mem_of_getElem? (i := 190) rfl) rfl
theorem tw1_191 : Cond.selects "java/lang/String" ⟨"java/lang/String", "coder", "()B"⟩ ⟨"java/lang/String", "coder", "()B"⟩ ∈ lw_ok := lw_1 (List.mem_of_getElem? (i := 191) rfl) rfl
theorem tw1_192 : Cond.code ⟨"java/lang/String", "coder", "()B"⟩ prog_12_method_152_code 1 (Option.some FieldType.byte) ∈ lw_ok := lw_1 (List.mem_of_getElem? (i := 192) rfl) rfl
theorem tw1_193 : Cond.fieldLink "java/lang/String" 38 "java/lang/String" "COMPACT_STRINGS" "Z" ∈ lw_ok := lw_1 (List.mem_of_getElem? (i := 193) rfl) rfl
theorem tw1_194 : Cond.laysStatic "java/lang/String" "COMPACT_STRINGS" "Z" ∈ tables_1 := lt_1 (List.mem_of_getElem? (i := 194) rfl)
theorem tw1_195 : Cond.methodLink "FusedEngine$Program" 38 ⟨"java/lang/String", "charAt", "(I)C"⟩ ∈ lw_ok := lw_1 (List.mem_of_getElem? (i := 195) rfl) rfl
theorem tw1_196 : Cond.instanceMethod ⟨"java/lang/String", "charAt", "(I)C"⟩ ∈ lw_ok := lw_1 (List.mem_of_getElem? (i := 196) rfl) rfl
theorem tw1_197 : Cond.selects "java/lang/String" ⟨"java/lang/String", "charAt", "(I)C"⟩ ⟨"java/lang/String", "charAt", "(I)C"⟩ ∈ lw_ok := lw_1 (List.mem_of_getElem? (i := 197) rfl) rfl
theorem tw1_198 : Cond.code ⟨"java/lang/String", "charAt", "(I)C"⟩ prog_12_method_56_code 2 (Option.some FieldType.char) ∈ lw_ok := lw_1 (List.mem_of_getElem? (i := 198) rfl) rfl
theorem tw1_199 : Cond.methodLink "java/lang/String" 492 ⟨"java/lang/String", "isLatin1", "()Z"⟩ ∈ lw_ok := lw_1 (List.mem_of_getElem? (i := 199) rfl) rfl
theorem tw1_200 : Cond.instanceMethod ⟨"java/lang/String", "isLatin1", "()Z"⟩ ∈ lw_ok := lw_1 (List.mem_of_getElem? (i := 200) rfl) rfl
theorem tw1_201 : Cond.selects "java/lang/String" ⟨"java/lang/String", "isLatin1", "()Z"⟩ ⟨"java/lang/String", "isLatin1", "()Z"⟩ ∈ lw_ok := lw_1 (List.mem_of_getElem? (i := 201) rfl) rfl
theorem tw1_202 : Cond.code ⟨"java/lang/String", "isLatin1", "()Z"⟩ prog_12_method_154_code 1 (Option.some FieldType.boolean) ∈ lw_ok := lw_1 (List.mem_of_getElem? (i := 202) rfl) rfl
theorem tw1_203 : Cond.methodLink "java/lang/String" 495 ⟨"java/lang/StringLatin1", "charAt", "([BI)C"⟩ ∈ lw_ok := lw_1 (List.mem_of_getElem? (i := 203) rfl) rfl
theorem tw1_204 : Cond.static ⟨"java/lang/StringLatin1", "charAt", "([BI)C"⟩ ∈ lw_ok := lw_1 (List.mem_of_getElem? (i := 204) rfl) rfl
theorem tw1_205 : Cond.code ⟨"java/lang/StringLatin1", "charAt", "([BI)C"⟩ prog_13_method_2_code 2 (Option.some FieldType.char) ∈ lw_ok := lw_1 (List.mem_of_getElem? (i := 205) rfl) rfl
theorem tw1_206 : Cond.methodLink "java/lang/StringLatin1" 9 ⟨"java/lang/String", "checkIndex", "(II)V"⟩ ∈ lw_ok := lw_1 (List.mem_of_getElem? (i := 206) rfl) rfl
theorem tw1_207 : Cond.static ⟨"java/lang/String", "checkIndex", "(II)V"⟩ ∈ lw_ok := lw_1 (List.mem_of_getElem? (i := 207) rfl) rfl
theorem tw1_208 : Cond.code ⟨"java/lang/String", "checkIndex", "(II)V"⟩ prog_12_method_155_code 2 (Option.none : Option FieldType) ∈ lw_ok := lw_1 (List.mem_of_getElem? (i := 208) rfl) rfl
theorem tw1_209 : Cond.fieldLink "java/lang/String" 1053 "jdk/internal/util/Preconditions" "SIOOBE_FORMATTER" "Ljava/util/function/BiFunction;" ∈ lw_ok := lw_1 (List.mem_of_getElem? (i := 209) rfl) rfl
theorem tw1_210 : Cond.laysStatic "jdk/internal/util/Preconditions" "SIOOBE_FORMATTER" "Ljava/util/function/BiFunction;" ∈ tables_1 := lt_1 (List.mem_of_getElem? (i := 210) rfl)
theorem tw1_211 : Cond.methodLink "java/lang/String" 1059 ⟨"jdk/internal/util/Preconditions", "checkIndex", "(IILjava/util/function/BiFunction;)I"⟩ ∈ lw_ok := lw_1 (List.mem_of_getElem? (i := 211) rfl) rfl
theorem tw1_212 : Cond.static ⟨"jdk/internal/util/Preconditions", "checkIndex", "(IILjava/util/function/BiFunction;)I"⟩ ∈ lw_ok := lw_1 (List.mem_of_getElem? (i := 212) rfl) rfl
theorem tw1_213 : Cond.code ⟨"jdk/internal/util/Preconditions", "checkIndex", "(IILjava/util/function/BiFunction;)I"⟩ prog_18_method_11_code 3 (Option.some FieldType.int) ∈ lw_ok := lw_1 (List.mem_of_getElem? (i := 213) rfl) rfl
theorem tw1_214 : Cond.methodLink "java/lang/String" 498 ⟨"java/lang/StringUTF16", "charAt", "([BI)C"⟩ ∈ lw_ok := lw_1 (List.mem_of_getElem? (i := 214) rfl) rfl
theorem tw1_215 : Cond.static ⟨"java/lang/StringUTF16", "charAt", "([BI)C"⟩ ∈ lw_ok := lw_1 (List.mem_of_getElem? (i := 215) rfl) rfl
theorem tw1_216 : Cond.code ⟨"java/lang/StringUTF16", "charAt", "([BI)C"⟩ prog_14_method_83_code 2 (Option.some FieldType.char) ∈ lw_ok := lw_1 (List.mem_of_getElem? (i := 216) rfl) rfl
theorem tw1_217 : Cond.methodLink "java/lang/StringUTF16" 67 ⟨"java/lang/StringUTF16", "checkIndex", "(I[B)V"⟩ ∈ lw_ok := lw_1 (List.mem_of_getElem? (i := 217) rfl) rfl
theorem tw1_218 : Cond.static ⟨"java/lang/StringUTF16", "checkIndex", "(I[B)V"⟩ ∈ lw_ok := lw_1 (List.mem_of_getElem? (i := 218) rfl) rfl
theorem tw1_219 : Cond.code ⟨"java/lang/StringUTF16", "checkIndex", "(I[B)V"⟩ prog_14_method_91_code 2 (Option.none : Option FieldType) ∈ lw_ok := lw_1 (List.mem_of_getElem? (i := 219) rfl) rfl
theorem tw1_220 : Cond.methodLink "java/lang/StringUTF16" 48 ⟨"java/lang/StringUTF16", "length", "([B)I"⟩ ∈ lw_ok := lw_1 (List.mem_of_getElem? (i := 220) rfl) rfl
theorem tw1_221 : Cond.static ⟨"java/lang/StringUTF16", "length", "([B)I"⟩ ∈ lw_ok := lw_1 (List.mem_of_getElem? (i := 221) rfl) rfl
theorem tw1_222 : Cond.code ⟨"java/lang/StringUTF16", "length", "([B)I"⟩ prog_14_method_6_code 1 (Option.some FieldType.int) ∈ lw_ok := lw_1 (List.mem_of_getElem? (i := 222) rfl) rfl
theorem tw1_223 : Cond.methodLink "java/lang/StringUTF16" 414 ⟨"java/lang/String", "checkIndex", "(II)V"⟩ ∈ lw_ok := lw_1 (List.mem_of_getElem? (i := 223) rfl) rfl
theorem tw1_224 : Cond.methodLink "java/lang/StringUTF16" 71 ⟨"java/lang/StringUTF16", "getChar", "([BI)C"⟩ ∈ lw_ok := lw_1 (List.mem_of_getElem? (i := 224) rfl) rfl
theorem tw1_225 : Cond.static ⟨"java/lang/StringUTF16", "getChar", "([BI)C"⟩ ∈ lw_ok := lw_1 (List.mem_of_getElem? (i := 225) rfl) rfl
theorem tw1_226 : Cond.code ⟨"java/lang/StringUTF16", "getChar", "([BI)C"⟩ prog_14_method_5_code 2 (Option.some FieldType.char) ∈ lw_ok := lw_1 (List.mem_of_getElem? (i := 226) rfl) rfl
theorem tw1_227 : Cond.fieldLink "java/lang/StringUTF16" 44 "java/lang/StringUTF16" "$assertionsDisabled" "Z" ∈ lw_ok := lw_1 (List.mem_of_getElem? (i := 227) rfl) rfl
theorem tw1_228 : Cond.laysStatic "java/lang/StringUTF16" "$assertionsDisabled" "Z" ∈ tables_1 := lt_1 (List.mem_of_getElem? (i := 228) rfl)
theorem tw1_229 : Cond.fieldLink "java/lang/StringUTF16" 59 "java/lang/StringUTF16" "HI_BYTE_SHIFT" "I" ∈ lw_ok := lw_1 (List.mem_of_getElem? (i := 229) rfl) rfl
theorem tw1_230 : Cond.laysStatic "java/lang/StringUTF16" "HI_BYTE_SHIFT" "I" ∈ tables_1 := lt_1 (List.mem_of_getElem? (i := 230) rfl)
theorem tw1_231 : Cond.fieldLink "java/lang/StringUTF16" 63 "java/lang/StringUTF16" "LO_BYTE_SHIFT" "I" ∈ lw_ok := lw_1 (List.mem_of_getElem? (i := 231) rfl) rfl
theorem tw1_232 : Cond.laysStatic "java/lang/StringUTF16" "LO_BYTE_SHIFT" "I" ∈ tables_1 := lt_1 (List.mem_of_getElem? (i := 232) rfl)
theorem tw1_233 : Cond.classLink "FusedEngine" 30 "java/lang/IllegalArgumentException" ∈ lw_ok := lw_1 (List.mem_of_getElem? (i := 233) rfl) rfl
theorem tw1_234 : Cond.instantiable "java/lang/IllegalArgumentException" 6 ∈ lw_ok := lw_1 (List.mem_of_getElem? (i := 234) rfl) rfl
theorem tw1_235 : Cond.castable "java/lang/IllegalArgumentException" "java/lang/IllegalArgumentException" ∈ tables_1 := lt_1 (List.mem_of_getElem? (i := 235) rfl)
theorem tw1_236 : Cond.declares ⟨"java/lang/RuntimeException", "<init>", "()V"⟩ ∈ tables_1 := lt_1 (List.mem_of_getElem? (i := 236) rfl)
theorem tw1_237 : Cond.declares ⟨"java/lang/RuntimeException", "<init>", "(Ljava/lang/String;)V"⟩ ∈ tables_1 := lt_1 (List.mem_of_getElem? (i := 237) rfl)
theorem tw1_238 : Cond.declares ⟨"java/lang/Exception", "<init>", "()V"⟩ ∈ tables_1 := lt_1 (List.mem_of_getElem? (i := 238) rfl)
theorem tw1_239 : Cond.declares ⟨"java/lang/Exception", "<init>", "(Ljava/lang/String;)V"⟩ ∈ tables_1 := lt_1 (List.mem_of_getElem? (i := 239) rfl)
theorem tw2_0 : Cond.declares ⟨"java/lang/Throwable", "<init>", "()V"⟩ ∈ tables_1 := lt_2 (List.mem_of_getElem? (i := 0) rfl)
theorem tw2_1 : Cond.declares ⟨"java/lang/Throwable", "<init>", "(Ljava/lang/String;)V"⟩ ∈ tables_1 := lt_2 (List.mem_of_getElem? (i := 1) rfl)
theorem tw2_2 : Cond.selects "java/lang/IllegalArgumentException" ⟨"java/lang/Throwable", "fillInStackTrace", "(I)Ljava/lang/Throwable;"⟩ ⟨"java/lang/Throwable", "fillInStackTrace", "(I)Ljava/lang/Throwable;"⟩ ∈ lw_ok := lw_2 (List.mem_of_getElem? (i := 2) rfl) rfl
theorem tw2_3 : Cond.selects "java/lang/IllegalArgumentException" ⟨"java/lang/Throwable", "fillInStackTrace", "()Ljava/lang/Throwable;"⟩ ⟨"java/lang/Throwable", "fillInStackTrace", "()Ljava/lang/Throwable;"⟩ ∈ lw_ok := lw_2 (List.mem_of_getElem? (i := 3) rfl) rfl
theorem tw2_4 : Cond.lays "java/lang/IllegalArgumentException" "java/lang/Throwable" "cause" "Ljava/lang/Throwable;" ∈ lw_ok := lw_2 (List.mem_of_getElem? (i := 4) rfl) rfl
theorem tw2_5 : Cond.lays "java/lang/Throwable" "java/lang/Throwable" "cause" "Ljava/lang/Throwable;" ∈ lw_ok := lw_2 (List.mem_of_getElem? (i := 5) rfl) rfl
theorem tw2_6 : Cond.lays "java/lang/IllegalArgumentException" "java/lang/Throwable" "stackTrace" "[Ljava/lang/StackTraceElement;" ∈ lw_ok := lw_2 (List.mem_of_getElem? (i := 6) rfl) rfl
theorem tw2_7 : Cond.lays "java/lang/Throwable" "java/lang/Throwable" "stackTrace" "[Ljava/lang/StackTraceElement;" ∈ lw_ok := lw_2 (List.mem_of_getElem? (i := 7) rfl) rfl
theorem tw2_8 : Cond.lays "java/lang/IllegalArgumentException" "java/lang/Throwable" "suppressedExceptions" "Ljava/util/List;" ∈ lw_ok := lw_2 (List.mem_of_getElem? (i := 8) rfl) rfl
theorem tw2_9 : Cond.lays "java/lang/Throwable" "java/lang/Throwable" "suppressedExceptions" "Ljava/util/List;" ∈ lw_ok := lw_2 (List.mem_of_getElem? (i := 9) rfl) rfl
theorem tw2_10 : Cond.lays "java/lang/IllegalArgumentException" "java/lang/Throwable" "detailMessage" "Ljava/lang/String;" ∈ lw_ok := lw_2 (List.mem_of_getElem? (i := 10) rfl) rfl
theorem tw2_11 : Cond.lays "java/lang/Throwable" "java/lang/Throwable" "detailMessage" "Ljava/lang/String;" ∈ lw_ok := lw_2 (List.mem_of_getElem? (i := 11) rfl) rfl
theorem tw2_12 : Cond.lays "java/lang/IllegalArgumentException" "java/lang/Throwable" "backtrace" "Ljava/lang/Object;" ∈ lw_ok := lw_2 (List.mem_of_getElem? (i := 12) rfl) rfl
theorem tw2_13 : Cond.lays "java/lang/Throwable" "java/lang/Throwable" "backtrace" "Ljava/lang/Object;" ∈ lw_ok := lw_2 (List.mem_of_getElem? (i := 13) rfl) rfl
theorem tw2_14 : Cond.fieldLink "java/lang/Throwable" 198 "java/lang/Throwable" "backtrace" "Ljava/lang/Object;" ∈ lw_ok := lw_2 (List.mem_of_getElem? (i := 14) rfl) rfl
theorem tw2_15 : Cond.superclass "java/lang/Throwable" "java/lang/Object" ∈ lw_ok := lw_2 (List.mem_of_getElem? (i := 15) rfl) rfl
theorem tw2_16 : Cond.instanceMethod ⟨"java/lang/Throwable", "<init>", "()V"⟩ ∈ lw_ok := lw_2 (List.mem_of_getElem? (i := 16) rfl) rfl
theorem tw2_17 : Cond.code ⟨"java/lang/Throwable", "<init>", "()V"⟩ prog_15_method_1_code 1 (Option.none : Option FieldType) ∈ lw_ok := lw_2 (List.mem_of_getElem? (i := 17) rfl) rfl
theorem tw2_18 : Cond.methodLink "java/lang/Throwable" 1 ⟨"java/lang/Object", "<init>", "()V"⟩ ∈ lw_ok := lw_2 (List.mem_of_getElem? (i := 18) rfl) rfl
theorem tw2_19 : Cond.fieldLink "java/lang/Throwable" 13 "java/lang/Throwable" "UNASSIGNED_STACK" "[Ljava/lang/StackTraceElement;" ∈ lw_ok := lw_2 (List.mem_of_getElem? (i := 19) rfl) rfl
theorem tw2_20 : Cond.laysStatic "java/lang/Throwable" "UNASSIGNED_STACK" "[Ljava/lang/StackTraceElement;" ∈ tables_1 := lt_2 (List.mem_of_getElem? (i := 20) rfl)
theorem tw2_21 : Cond.fieldLink "java/lang/Throwable" 20 "java/lang/Throwable" "SUPPRESSED_SENTINEL" "Ljava/util/List;" ∈ lw_ok := lw_2 (List.mem_of_getElem? (i := 21) rfl) rfl
theorem tw2_22 : Cond.laysStatic "java/lang/Throwable" "SUPPRESSED_SENTINEL" "Ljava/util/List;" ∈ tables_1 := lt_2 (List.mem_of_getElem? (i := 22) rfl)
theorem tw2_23 : Cond.methodLink "java/lang/Throwable" 27 ⟨"java/lang/Throwable", "fillInStackTrace", "()Ljava/lang/Throwable;"⟩ ∈ lw_ok := lw_2 (List.mem_of_getElem? (i := 23) rfl) rfl
theorem tw2_24 : Cond.instanceMethod ⟨"java/lang/Throwable", "fillInStackTrace", "()Ljava/lang/Throwable;"⟩ ∈ lw_ok := lw_2 (List.mem_of_getElem? (i := 24) rfl) rfl
theorem tw2_25 : Cond.sameMethod "java/lang/Throwable" "java/lang/Throwable" "fillInStackTrace" "()Ljava/lang/Throwable;" ∈ lw_ok := lw_2 (List.mem_of_getElem? (i := 25) rfl) rfl
theorem tw2_26 : Cond.selects "java/lang/IllegalStateException" ⟨"java/lang/Throwable", "fillInStackTrace", "()Ljava/lang/Throwable;"⟩ ⟨"java/lang/Throwable", "fillInStackTrace", "()Ljava/lang/Throwable;"⟩ ∈ lw_ok := lw_2 (List.mem_of_getElem? (i := 26) rfl) rfl
theorem tw2_27 : Cond.selects "java/util/NoSuchElementException" ⟨"java/lang/Throwable", "fillInStackTrace", "()Ljava/lang/Throwable;"⟩ ⟨"java/lang/Throwable", "fillInStackTrace", "()Ljava/lang/Throwable;"⟩ ∈ lw_ok := lw_2 (List.mem_of_getElem? (i := 27) rfl) rfl
theorem tw2_28 : Cond.codeSync ⟨"java/lang/Throwable", "fillInStackTrace", "()Ljava/lang/Throwable;"⟩ prog_15_method_18_code 1 (Option.some (FieldType.object "java/lang/Throwable")) ∈ lw_ok := lw_2 (List.mem_of_getElem? (i := 28) rfl) rfl
theorem tw2_29 : Cond.methodLink "java/lang/Throwable" 202 ⟨"java/lang/Throwable", "fillInStackTrace", "(I)Ljava/lang/Throwable;"⟩ ∈ lw_ok := lw_2 (List.mem_of_getElem? (i := 29) rfl) rfl
theorem tw2_30 : Cond.privateMethod ⟨"java/lang/Throwable", "fillInStackTrace", "(I)Ljava/lang/Throwable;"⟩ ∈ tables_1 := lt_2 (List.mem_of_getElem? (i := 30) rfl)
theorem tw2_31 : Cond.instanceMethod ⟨"java/lang/Throwable", "fillInStackTrace", "(I)Ljava/lang/Throwable;"⟩ ∈ lw_ok := lw_2 (List.mem_of_getElem? (i := 31) rfl) rfl
theorem tw2_32 : Cond.instantiable "java/lang/Throwable" 6 ∈ lw_ok := lw_2 (List.mem_of_getElem? (i := 32) rfl) rfl
theorem tw2_33 : Cond.native ⟨"java/lang/Throwable", "fillInStackTrace", "(I)Ljava/lang/Throwable;"⟩ ∈ lw_ok := lw_2 (List.mem_of_getElem? (i := 33) rfl) rfl
theorem tw2_34 : Cond.stringRef "FusedEngine" 32 "no such instruction" ∈ tables_1 := lt_2 (List.mem_of_getElem? (i := 34) rfl)
theorem tw2_35 : Cond.methodLink "FusedEngine" 34 ⟨"java/lang/IllegalArgumentException", "<init>", "(Ljava/lang/String;)V"⟩ ∈ lw_ok := lw_2 (List.mem_of_getElem? (i := 35) rfl) rfl
theorem tw2_36 : Cond.instanceMethod ⟨"java/lang/IllegalArgumentException", "<init>", "(Ljava/lang/String;)V"⟩ ∈ lw_ok := lw_2 (List.mem_of_getElem? (i := 36) rfl) rfl
theorem tw2_37 : Cond.code ⟨"java/lang/IllegalArgumentException", "<init>", "(Ljava/lang/String;)V"⟩ prog_8_method_2_code 2 (Option.none : Option FieldType) ∈ lw_ok := lw_2 (List.mem_of_getElem? (i := 37) rfl) rfl
theorem tw2_38 : Cond.methodLink "java/lang/IllegalArgumentException" 7 ⟨"java/lang/RuntimeException", "<init>", "(Ljava/lang/String;)V"⟩ ∈ lw_ok := lw_2 (List.mem_of_getElem? (i := 38) rfl) rfl
theorem tw2_39 : Cond.instanceMethod ⟨"java/lang/RuntimeException", "<init>", "(Ljava/lang/String;)V"⟩ ∈ lw_ok := lw_2 (List.mem_of_getElem? (i := 39) rfl) rfl
theorem tw2_40 : Cond.code ⟨"java/lang/RuntimeException", "<init>", "(Ljava/lang/String;)V"⟩ prog_11_method_2_code 2 (Option.none : Option FieldType) ∈ lw_ok := lw_2 (List.mem_of_getElem? (i := 40) rfl) rfl
theorem tw2_41 : Cond.methodLink "java/lang/RuntimeException" 7 ⟨"java/lang/Exception", "<init>", "(Ljava/lang/String;)V"⟩ ∈ lw_ok := lw_2 (List.mem_of_getElem? (i := 41) rfl) rfl
theorem tw2_42 : Cond.instanceMethod ⟨"java/lang/Exception", "<init>", "(Ljava/lang/String;)V"⟩ ∈ lw_ok := lw_2 (List.mem_of_getElem? (i := 42) rfl) rfl
theorem tw2_43 : Cond.code ⟨"java/lang/Exception", "<init>", "(Ljava/lang/String;)V"⟩ prog_7_method_2_code 2 (Option.none : Option FieldType) ∈ lw_ok := lw_2 (List.mem_of_getElem? (i := 43) rfl) rfl
theorem tw2_44 : Cond.methodLink "java/lang/Exception" 7 ⟨"java/lang/Throwable", "<init>", "(Ljava/lang/String;)V"⟩ ∈ lw_ok := lw_2 (List.mem_of_getElem? (i := 44) rfl) rfl
theorem tw2_45 : Cond.instanceMethod ⟨"java/lang/Throwable", "<init>", "(Ljava/lang/String;)V"⟩ ∈ lw_ok := lw_2 (List.mem_of_getElem? (i := 45) rfl) rfl
theorem tw2_46 : Cond.code ⟨"java/lang/Throwable", "<init>", "(Ljava/lang/String;)V"⟩ prog_15_method_2_code 2 (Option.none : Option FieldType) ∈ lw_ok := lw_2 (List.mem_of_getElem? (i := 46) rfl) rfl
theorem tw2_48 : Cond.fieldLink "java/lang/Throwable" 31 "java/lang/Throwable" "detailMessage" "Ljava/lang/String;" ∈ lw_ok := lw_2 (List.mem_of_getElem? (i := 48) rfl) rfl
theorem tw2_49 : Cond.fieldLink "java/lang/Throwable" 7 "java/lang/Throwable" "cause" "Ljava/lang/Throwable;" ∈ lw_ok := lw_2 (List.mem_of_getElem? (i := 49) rfl) rfl
theorem tw2_50 : Cond.fieldLink "java/lang/Throwable" 17 "java/lang/Throwable" "stackTrace" "[Ljava/lang/StackTraceElement;" ∈ lw_ok := lw_2 (List.mem_of_getElem? (i := 50) rfl) rfl
theorem tw2_51 : Cond.fieldLink "java/lang/Throwable" 24 "java/lang/Throwable" "suppressedExceptions" "Ljava/util/List;" ∈ lw_ok := lw_2 (List.mem_of_getElem? (i := 51) rfl) rfl
theorem tw2_52 : Cond.soleField "java/lang/Throwable" "backtrace" ∈ lw_ok := lw_2 (List.mem_of_getElem? (i := 52) rfl) rfl
theorem tw2_53 : Cond.soleField "java/lang/Throwable" "detailMessage" ∈ lw_ok := lw_2 (List.mem_of_getElem? (i := 53) rfl) rfl
theorem tw2_54 : Cond.soleField "java/lang/Throwable" "cause" ∈ lw_ok := lw_2 (List.mem_of_getElem? (i := 54) rfl) rfl
theorem tw2_55 : Cond.soleField "java/lang/Throwable" "stackTrace" ∈ lw_ok := lw_2 (List.mem_of_getElem? (i := 55) rfl) rfl
theorem tw2_56 : Cond.lays "java/lang/IllegalArgumentException" "java/lang/Throwable" "depth" "I" ∈ lw_ok := lw_2 (List.mem_of_getElem? (i := 56) rfl) rfl
theorem tw2_57 : Cond.soleField "java/lang/Throwable" "depth" ∈ lw_ok := lw_2 (List.mem_of_getElem? (i := 57) rfl) rfl
theorem tw2_58 : Cond.soleField "java/lang/Throwable" "suppressedExceptions" ∈ lw_ok := lw_2 (List.mem_of_getElem? (i := 58) rfl) rfl
theorem tw2_59 : Cond.superclass "java/lang/IllegalArgumentException" "java/lang/RuntimeException" ∈ lw_ok := lw_2 (List.mem_of_getElem? (i := 59) rfl) rfl
theorem tw2_60 : Cond.arrayClass FieldType.byte ∈ lw_ok := lw_2 (List.mem_of_getElem? (i := 60) rfl) rfl
theorem tw2_61 : Cond.classLink "FusedEngine" 41 "java/lang/IllegalStateException" ∈ lw_ok := lw_2 (List.mem_of_getElem? (i := 61) rfl) rfl
theorem tw2_62 : Cond.instantiable "java/lang/IllegalStateException" 6 ∈ lw_ok := lw_2 (List.mem_of_getElem? (i := 62) rfl) rfl
theorem tw2_63 : Cond.castable "java/lang/IllegalStateException" "java/lang/IllegalStateException" ∈ tables_1 := lt_2 (List.mem_of_getElem? (i := 63) rfl)
theorem tw2_64 : Cond.selects "java/lang/IllegalStateException" ⟨"java/lang/Throwable", "fillInStackTrace", "(I)Ljava/lang/Throwable;"⟩ ⟨"java/lang/Throwable", "fillInStackTrace", "(I)Ljava/lang/Throwable;"⟩ ∈ lw_ok := lw_2 (List.mem_of_getElem? (i := 64) rfl) rfl
theorem tw2_65 : Cond.lays "java/lang/IllegalStateException" "java/lang/Throwable" "cause" "Ljava/lang/Throwable;" ∈ lw_ok := lw_2 (List.mem_of_getElem? (i := 65) rfl) rfl
theorem tw2_66 : Cond.lays "java/lang/IllegalStateException" "java/lang/Throwable" "stackTrace" "[Ljava/lang/StackTraceElement;" ∈ lw_ok := lw_2 (List.mem_of_getElem? (i := 66) rfl) rfl
theorem tw2_67 : Cond.lays "java/lang/IllegalStateException" "java/lang/Throwable" "suppressedExceptions" "Ljava/util/List;" ∈ lw_ok := lw_2 (List.mem_of_getElem? (i := 67) rfl) rfl
theorem tw2_68 : Cond.lays "java/lang/IllegalStateException" "java/lang/Throwable" "detailMessage" "Ljava/lang/String;" ∈ lw_ok := lw_2 (List.mem_of_getElem? (i := 68) rfl) rfl
theorem tw2_69 : Cond.lays "java/lang/IllegalStateException" "java/lang/Throwable" "backtrace" "Ljava/lang/Object;" ∈ lw_ok := lw_2 (List.mem_of_getElem? (i := 69) rfl) rfl
theorem tw2_70 : Cond.stringRef "FusedEngine" 43 "the program is full" ∈ tables_1 := lt_2 (List.mem_of_getElem? (i := 70) rfl)
theorem tw2_71 : Cond.methodLink "FusedEngine" 45 ⟨"java/lang/IllegalStateException", "<init>", "(Ljava/lang/String;)V"⟩ ∈ lw_ok := lw_2 (List.mem_of_getElem? (i := 71) rfl) rfl
theorem tw2_72 : Cond.instanceMethod ⟨"java/lang/IllegalStateException", "<init>", "(Ljava/lang/String;)V"⟩ ∈ lw_ok := lw_2 (List.mem_of_getElem? (i := 72) rfl) rfl
theorem tw2_73 : Cond.code ⟨"java/lang/IllegalStateException", "<init>", "(Ljava/lang/String;)V"⟩ prog_9_method_2_code 2 (Option.none : Option FieldType) ∈ lw_ok := lw_2 (List.mem_of_getElem? (i := 73) rfl) rfl
theorem tw2_74 : Cond.methodLink "java/lang/IllegalStateException" 7 ⟨"java/lang/RuntimeException", "<init>", "(Ljava/lang/String;)V"⟩ ∈ lw_ok := lw_2 (List.mem_of_getElem? (i := 74) rfl) rfl
theorem tw2_75 : Cond.lays "java/lang/IllegalStateException" "java/lang/Throwable" "depth" "I" ∈ lw_ok := lw_2 (List.mem_of_getElem? (i := 75) rfl) rfl
theorem tw2_76 : Cond.superclass "java/lang/IllegalStateException" "java/lang/RuntimeException" ∈ lw_ok := lw_2 (List.mem_of_getElem? (i := 76) rfl) rfl
theorem tw2_77 : Cond.methodLink "FusedEngine" 46 ⟨"FusedEngine$Program", "append", "(II)I"⟩ ∈ lw_ok := lw_2 (List.mem_of_getElem? (i := 77) rfl) rfl
theorem tw2_78 : Cond.instanceMethod ⟨"FusedEngine$Program", "append", "(II)I"⟩ ∈ lw_ok := lw_2 (List.mem_of_getElem? (i := 78) rfl) rfl
theorem tw2_79 : Cond.selects "FusedEngine$Program" ⟨"FusedEngine$Program", "append", "(II)I"⟩ ⟨"FusedEngine$Program", "append", "(II)I"⟩ ∈ lw_ok := lw_2 (List.mem_of_getElem? (i := 79) rfl) rfl
theorem tw2_80 : Cond.code ⟨"FusedEngine$Program", "append", "(II)I"⟩ prog_3_method_4_code 4 (Option.some FieldType.int) ∈ lw_ok := lw_2 (List.mem_of_getElem? (i := 80) rfl) rfl
theorem tw2_81 : Cond.methodLink "FusedEngine$Program" 46 ⟨"FusedEngine$Program", "replace", "(III)V"⟩ ∈ lw_ok := lw_2 (List.mem_of_getElem? (i := 81) rfl) rfl
theorem tw2_82 : Cond.instanceMethod ⟨"FusedEngine$Program", "replace", "(III)V"⟩ ∈ lw_ok := lw_2 (List.mem_of_getElem? (i := 82) rfl) rfl
theorem tw2_83 : Cond.selects "FusedEngine$Program" ⟨"FusedEngine$Program", "replace", "(III)V"⟩ ⟨"FusedEngine$Program", "replace", "(III)V"⟩ ∈ lw_ok := lw_2 (List.mem_of_getElem? (i := 83) rfl) rfl
theorem tw2_84 : Cond.code ⟨"FusedEngine$Program", "replace", "(III)V"⟩ prog_3_method_5_code 4 (Option.none : Option FieldType) ∈ lw_ok := lw_2 (List.mem_of_getElem? (i := 84) rfl) rfl
theorem tw2_85 : Cond.methodLink "FusedEngine$Program" 54 ⟨"FusedEngine$Program", "findTargets", "()V"⟩ ∈ lw_ok := lw_2 (List.mem_of_getElem? (i := 85) rfl) rfl
theorem tw2_86 : Cond.privateMethod ⟨"FusedEngine$Program", "findTargets", "()V"⟩ ∈ tables_1 := lt_2 (List.mem_of_getElem? (i := 86) rfl)
theorem tw2_87 : Cond.instanceMethod ⟨"FusedEngine$Program", "findTargets", "()V"⟩ ∈ lw_ok := lw_2 (List.mem_of_getElem? (i := 87) rfl) rfl
theorem tw2_88 : Cond.code ⟨"FusedEngine$Program", "findTargets", "()V"⟩ prog_3_method_8_code 3 (Option.none : Option FieldType) ∈ lw_ok := lw_2 (List.mem_of_getElem? (i := 88) rfl) rfl
theorem tw2_89 : Cond.methodLink "FusedEngine$Program" 57 ⟨"FusedEngine$Program", "markTarget", "(I)V"⟩ ∈ lw_ok := lw_2 (List.mem_of_getElem? (i := 89) rfl) rfl
theorem tw2_90 : Cond.privateMethod ⟨"FusedEngine$Program", "markTarget", "(I)V"⟩ ∈ tables_1 := lt_2 (List.mem_of_getElem? (i := 90) rfl)
theorem tw2_91 : Cond.instanceMethod ⟨"FusedEngine$Program", "markTarget", "(I)V"⟩ ∈ lw_ok := lw_2 (List.mem_of_getElem? (i := 91) rfl) rfl
theorem tw2_92 : Cond.code ⟨"FusedEngine$Program", "markTarget", "(I)V"⟩ prog_3_method_9_code 2 (Option.none : Option FieldType) ∈ lw_ok := lw_2 (List.mem_of_getElem? (i := 92) rfl) rfl
theorem tw2_93 : Cond.methodLink "FusedEngine$Program" 61 ⟨"FusedEngine$Program", "has", "(I)Z"⟩ ∈ lw_ok := lw_2 (List.mem_of_getElem? (i := 93) rfl) rfl
theorem tw2_94 : Cond.instanceMethod ⟨"FusedEngine$Program", "has", "(I)Z"⟩ ∈ lw_ok := lw_2 (List.mem_of_getElem? (i := 94) rfl) rfl
theorem tw2_95 : Cond.selects "FusedEngine$Program" ⟨"FusedEngine$Program", "has", "(I)Z"⟩ ⟨"FusedEngine$Program", "has", "(I)Z"⟩ ∈ lw_ok := lw_2 (List.mem_of_getElem? (i := 95) rfl) rfl
theorem tw2_96 : Cond.code ⟨"FusedEngine$Program", "has", "(I)Z"⟩ prog_3_method_3_code 2 (Option.some FieldType.boolean) ∈ lw_ok := lw_2 (List.mem_of_getElem? (i := 96) rfl) rfl
theorem tw2_97 : Cond.methodLink "FusedEngineLaw" 53 ⟨"FusedEngineLaw", "change", "(LFusedEngine;III)I"⟩ ∈ lw_ok := lw_2 (List.mem_of_getElem? (i := 97) rfl) rfl
theorem tw2_98 : Cond.static ⟨"FusedEngineLaw", "change", "(LFusedEngine;III)I"⟩ ∈ lw_ok := lw_2 (List.mem_of_getElem? (i := 98) rfl) rfl
theorem tw2_99 : Cond.codeWith ⟨"FusedEngineLaw", "change", "(LFusedEngine;III)I"⟩ method_4_code 5 (Option.some FieldType.int) [(0, 7, 10, 21), (0, 7, 14, 13)] ∈ lw_ok := lw_2 (List.mem_of_getElem? (i := 99) rfl) rfl
theorem tw2_100 : Cond.classLink "FusedEngineLaw" 21 "java/util/NoSuchElementException" ∈ lw_ok := lw_2 (List.mem_of_getElem? (i := 100) rfl) rfl
theorem tw2_101 : Cond.methodLink "FusedEngineLaw" 17 ⟨"FusedEngine", "change", "(III)V"⟩ ∈ lw_ok := lw_2 (List.mem_of_getElem? (i := 101) rfl) rfl
theorem tw2_102 : Cond.instanceMethod ⟨"FusedEngine", "change", "(III)V"⟩ ∈ lw_ok := lw_2 (List.mem_of_getElem? (i := 102) rfl) rfl
theorem tw2_103 : Cond.selects "FusedEngine" ⟨"FusedEngine", "change", "(III)V"⟩ ⟨"FusedEngine", "change", "(III)V"⟩ ∈ lw_ok := lw_2 (List.mem_of_getElem? (i := 103) rfl) rfl
theorem tw2_104 : Cond.code ⟨"FusedEngine", "change", "(III)V"⟩ prog_1_method_3_code 4 (Option.none : Option FieldType) ∈ lw_ok := lw_2 (List.mem_of_getElem? (i := 104) rfl) rfl
theorem tw2_105 : Cond.methodLink "FusedEngine" 53 ⟨"FusedEngine$Program", "has", "(I)Z"⟩ ∈ lw_ok := lw_2 (List.mem_of_getElem? (i := 105) rfl) rfl
theorem tw2_106 : Cond.classLink "FusedEngine" 57 "java/util/NoSuchElementException" ∈ lw_ok := lw_2 (List.mem_of_getElem? (i := 106) rfl) rfl
theorem tw2_107 : Cond.instantiable "java/util/NoSuchElementException" 6 ∈ lw_ok := lw_2 (List.mem_of_getElem? (i := 107) rfl) rfl
theorem tw2_108 : Cond.castable "java/util/NoSuchElementException" "java/util/NoSuchElementException" ∈ tables_1 := lt_2 (List.mem_of_getElem? (i := 108) rfl)
theorem tw2_109 : Cond.selects "java/util/NoSuchElementException" ⟨"java/lang/Throwable", "fillInStackTrace", "(I)Ljava/lang/Throwable;"⟩ ⟨"java/lang/Throwable", "fillInStackTrace", "(I)Ljava/lang/Throwable;"⟩ ∈ lw_ok := lw_2 (List.mem_of_getElem? (i := 109) rfl) rfl
theorem tw2_110 : Cond.lays "java/util/NoSuchElementException" "java/lang/Throwable" "cause" "Ljava/lang/Throwable;" ∈ lw_ok := lw_2 (List.mem_of_getElem? (i := 110) rfl) rfl
theorem tw2_111 : Cond.lays "java/util/NoSuchElementException" "java/lang/Throwable" "stackTrace" "[Ljava/lang/StackTraceElement;" ∈ lw_ok := lw_2 (List.mem_of_getElem? (i := 111) rfl) rfl
theorem tw2_112 : Cond.lays "java/util/NoSuchElementException" "java/lang/Throwable" "suppressedExceptions" "Ljava/util/List;" ∈ lw_ok := lw_2 (List.mem_of_getElem? (i := 112) rfl) rfl
theorem tw2_113 : Cond.lays "java/util/NoSuchElementException" "java/lang/Throwable" "detailMessage" "Ljava/lang/String;" ∈ lw_ok := lw_2 (List.mem_of_getElem? (i := 113) rfl) rfl
theorem tw2_114 : Cond.lays "java/util/NoSuchElementException" "java/lang/Throwable" "backtrace" "Ljava/lang/Object;" ∈ lw_ok := lw_2 (List.mem_of_getElem? (i := 114) rfl) rfl
theorem tw2_115 : Cond.stringRef "FusedEngine" 59 "no such place" ∈ tables_1 := lt_2 (List.mem_of_getElem? (i := 115) rfl)
theorem tw2_116 : Cond.methodLink "FusedEngine" 61 ⟨"java/util/NoSuchElementException", "<init>", "(Ljava/lang/String;)V"⟩ ∈ lw_ok := lw_2 (List.mem_of_getElem? (i := 116) rfl) rfl
theorem tw2_117 : Cond.instanceMethod ⟨"java/util/NoSuchElementException", "<init>", "(Ljava/lang/String;)V"⟩ ∈ lw_ok := lw_2 (List.mem_of_getElem? (i := 117) rfl) rfl
theorem tw2_118 : Cond.code ⟨"java/util/NoSuchElementException", "<init>", "(Ljava/lang/String;)V"⟩ prog_17_method_4_code 2 (Option.none : Option FieldType) ∈ lw_ok := lw_2 (List.mem_of_getElem? (i := 118) rfl) rfl
theorem tw2_119 : Cond.methodLink "java/util/NoSuchElementException" 13 ⟨"java/lang/RuntimeException", "<init>", "(Ljava/lang/String;)V"⟩ ∈ lw_ok := lw_2 (List.mem_of_getElem? (i := 119) rfl) rfl
theorem tw2_120 : Cond.lays "java/util/NoSuchElementException" "java/lang/Throwable" "depth" "I" ∈ lw_ok := lw_2 (List.mem_of_getElem? (i := 120) rfl) rfl
theorem tw2_121 : Cond.superclass "java/util/NoSuchElementException" "java/lang/RuntimeException" ∈ lw_ok := lw_2 (List.mem_of_getElem? (i := 121) rfl) rfl
theorem tw2_122 : Cond.methodLink "FusedEngine" 62 ⟨"FusedEngine$Program", "replace", "(III)V"⟩ ∈ lw_ok := lw_2 (List.mem_of_getElem? (i := 122) rfl) rfl
theorem tw2_123 : Cond.methodLink "FusedEngineLaw" 65 ⟨"FusedEngineLaw", "look", "(LFusedEngine;II[J)I"⟩ ∈ lw_ok := lw_2 (List.mem_of_getElem? (i := 123) rfl) rfl
theorem tw2_124 : Cond.static ⟨"FusedEngineLaw", "look", "(LFusedEngine;II[J)I"⟩ ∈ lw_ok := lw_2 (List.mem_of_getElem? (i := 124) rfl) rfl
theorem tw2_125 : Cond.codeWith ⟨"FusedEngineLaw", "look", "(LFusedEngine;II[J)I"⟩ method_5_code 5 (Option.some FieldType.int) [(0, 10, 13, 21)] ∈ lw_ok := lw_2 (List.mem_of_getElem? (i := 125) rfl) rfl
theorem tw2_126 : Cond.methodLink "FusedEngineLaw" 23 ⟨"FusedEngine", "look", "(II)I"⟩ ∈ lw_ok := lw_2 (List.mem_of_getElem? (i := 126) rfl) rfl
theorem tw2_127 : Cond.instanceMethod ⟨"FusedEngine", "look", "(II)I"⟩ ∈ lw_ok := lw_2 (List.mem_of_getElem? (i := 127) rfl) rfl
theorem tw2_128 : Cond.selects "FusedEngine" ⟨"FusedEngine", "look", "(II)I"⟩ ⟨"FusedEngine", "look", "(II)I"⟩ ∈ lw_ok := lw_2 (List.mem_of_getElem? (i := 128) rfl) rfl
theorem tw2_129 : Cond.code ⟨"FusedEngine", "look", "(II)I"⟩ prog_1_method_6_code 3 (Option.some FieldType.int) ∈ lw_ok := lw_2 (List.mem_of_getElem? (i := 129) rfl) rfl
theorem tw2_130 : Cond.stringRef "FusedEngine" 73 "nothing to be looked at by this number" ∈ tables_1 := lt_2 (List.mem_of_getElem? (i := 130) rfl)
theorem tw2_131 : Cond.stringRef "FusedEngine" 79 "the program is not fused" ∈ tables_1 := lt_2 (List.mem_of_getElem? (i := 131) rfl)
theorem tw2_132 : Cond.methodLink "FusedEngine" 81 ⟨"FusedEngine$Program", "factOf", "(II)I"⟩ ∈ lw_ok := lw_2 (List.mem_of_getElem? (i := 132) rfl) rfl
theorem tw2_133 : Cond.instanceMethod ⟨"FusedEngine$Program", "factOf", "(II)I"⟩ ∈ lw_ok := lw_2 (List.mem_of_getElem? (i := 133) rfl) rfl
theorem tw2_134 : Cond.selects "FusedEngine$Program" ⟨"FusedEngine$Program", "factOf", "(II)I"⟩ ⟨"FusedEngine$Program", "factOf", "(II)I"⟩ ∈ lw_ok := lw_2 (List.mem_of_getElem? (i := 134) rfl) rfl
theorem tw2_135 : Cond.code ⟨"FusedEngine$Program", "factOf", "(II)I"⟩ prog_3_method_7_code 3 (Option.some FieldType.int) ∈ lw_ok := lw_2 (List.mem_of_getElem? (i := 135) rfl) rfl
theorem tw2_136 : Cond.methodLink "FusedEngineLaw" 68 ⟨"FusedEngineLaw", "run", "(LFusedEngine;ZI[J)I"⟩ ∈ lw_ok := lw_2 (List.mem_of_getElem? (i := 136) rfl) rfl
theorem tw2_137 : Cond.static ⟨"FusedEngineLaw", "run", "(LFusedEngine;ZI[J)I"⟩ ∈ lw_ok := lw_2 (List.mem_of_getElem? (i := 137) rfl) rfl
theorem tw2_138 : Cond.codeWith ⟨"FusedEngineLaw", "run", "(LFusedEngine;ZI[J)I"⟩ method_6_code 5 (Option.some FieldType.int) [(0, 10, 13, 15)] ∈ lw_ok := lw_2 (List.mem_of_getElem? (i := 138) rfl) rfl
theorem tw2_139 : Cond.methodLink "FusedEngineLaw" 26 ⟨"FusedEngine", "run", "(ZI)I"⟩ ∈ lw_ok := lw_2 (List.mem_of_getElem? (i := 139) rfl) rfl
theorem tw2_140 : Cond.instanceMethod ⟨"FusedEngine", "run", "(ZI)I"⟩ ∈ lw_ok := lw_2 (List.mem_of_getElem? (i := 140) rfl) rfl
theorem tw2_141 : Cond.selects "FusedEngine" ⟨"FusedEngine", "run", "(ZI)I"⟩ ⟨"FusedEngine", "run", "(ZI)I"⟩ ∈ lw_ok := lw_2 (List.mem_of_getElem? (i := 141) rfl) rfl
theorem tw2_142 : Cond.code ⟨"FusedEngine", "run", "(ZI)I"⟩ prog_1_method_7_code 3 (Option.some FieldType.int) ∈ lw_ok := lw_2 (List.mem_of_getElem? (i := 142) rfl) rfl
theorem tw2_143 : Cond.methodLink "FusedEngine" 88 ⟨"FusedEngine$Machine", "goOn", "(LFusedEngine$Program;ZI)I"⟩ ∈ lw_ok := lw_2 (List.mem_of_getElem? (i := 143) rfl) rfl
theorem tw2_144 : Cond.instanceMethod ⟨"FusedEngine$Machine", "goOn", "(LFusedEngine$Program;ZI)I"⟩ ∈ lw_ok := lw_2 (List.mem_of_getElem? (i := 144) rfl) rfl
theorem tw2_145 : Cond.selects "FusedEngine$Machine" ⟨"FusedEngine$Machine", "goOn", "(LFusedEngine$Program;ZI)I"⟩ ⟨"FusedEngine$Machine", "goOn", "(LFusedEngine$Program;ZI)I"⟩ ∈ lw_ok := lw_2 (List.mem_of_getElem? (i := 145) rfl) rfl
theorem tw2_146 : Cond.code ⟨"FusedEngine$Machine", "goOn", "(LFusedEngine$Program;ZI)I"⟩ prog_2_method_5_code 6 (Option.some FieldType.int) ∈ lw_ok := lw_2 (List.mem_of_getElem? (i := 146) rfl) rfl
theorem tw2_147 : Cond.methodLink "FusedEngine$Machine" 49 ⟨"java/lang/Math", "min", "(II)I"⟩ ∈ lw_ok := lw_2 (List.mem_of_getElem? (i := 147) rfl) rfl
theorem tw2_148 : Cond.static ⟨"java/lang/Math", "min", "(II)I"⟩ ∈ lw_ok := lw_2 (List.mem_of_getElem? (i := 148) rfl) rfl
theorem tw2_149 : Cond.code ⟨"java/lang/Math", "min", "(II)I"⟩ prog_10_method_69_code 2 (Option.some FieldType.int) ∈ lw_ok := lw_2 (List.mem_of_getElem? (i := 149) rfl) rfl
theorem tw2_150 : Cond.methodLink "FusedEngine$Machine" 55 ⟨"FusedEngine$Program", "has", "(I)Z"⟩ ∈ lw_ok := lw_2 (List.mem_of_getElem? (i := 150) rfl) rfl
theorem tw2_151 : Cond.methodLink "FusedEngine$Machine" 64 ⟨"FusedEngine$Machine", "doRow", "(LFusedEngine$Program;I)V"⟩ ∈ lw_ok := lw_2 (List.mem_of_getElem? (i := 151) rfl) rfl
theorem tw2_152 : Cond.privateMethod ⟨"FusedEngine$Machine", "doRow", "(LFusedEngine$Program;I)V"⟩ ∈ tables_1 := lt_2 (List.mem_of_getElem? (i := 152) rfl)
theorem tw2_153 : Cond.instanceMethod ⟨"FusedEngine$Machine", "doRow", "(LFusedEngine$Program;I)V"⟩ ∈ lw_ok := lw_2 (List.mem_of_getElem? (i := 153) rfl) rfl
theorem tw2_154 : Cond.code ⟨"FusedEngine$Machine", "doRow", "(LFusedEngine$Program;I)V"⟩ prog_2_method_6_code 6 (Option.none : Option FieldType) ∈ lw_ok := lw_2 (List.mem_of_getElem? (i := 154) rfl) rfl
theorem tw2_155 : Cond.methodLink "FusedEngine$Machine" 71 ⟨"FusedEngine$Machine", "trapOf", "(I)I"⟩ ∈ lw_ok := lw_2 (List.mem_of_getElem? (i := 155) rfl) rfl
theorem tw2_156 : Cond.privateMethod ⟨"FusedEngine$Machine", "trapOf", "(I)I"⟩ ∈ tables_1 := lt_2 (List.mem_of_getElem? (i := 156) rfl)
theorem tw2_157 : Cond.instanceMethod ⟨"FusedEngine$Machine", "trapOf", "(I)I"⟩ ∈ lw_ok := lw_2 (List.mem_of_getElem? (i := 157) rfl) rfl
theorem tw2_158 : Cond.code ⟨"FusedEngine$Machine", "trapOf", "(I)I"⟩ prog_2_method_7_code 2 (Option.some FieldType.int) ∈ lw_ok := lw_2 (List.mem_of_getElem? (i := 158) rfl) rfl
theorem tw2_159 : Cond.methodLink "FusedEngine$Machine" 82 ⟨"FusedEngine$Machine", "neededValues", "(I)I"⟩ ∈ lw_ok := lw_2 (List.mem_of_getElem? (i := 159) rfl) rfl
theorem tw2_160 : Cond.static ⟨"FusedEngine$Machine", "neededValues", "(I)I"⟩ ∈ lw_ok := lw_2 (List.mem_of_getElem? (i := 160) rfl) rfl
theorem tw2_161 : Cond.code ⟨"FusedEngine$Machine", "neededValues", "(I)I"⟩ prog_2_method_8_code 1 (Option.some FieldType.int) ∈ lw_ok := lw_2 (List.mem_of_getElem? (i := 161) rfl) rfl
theorem tw2_162 : Cond.methodLink "FusedEngine$Machine" 85 ⟨"FusedEngine$Machine", "putsOneMore", "(I)Z"⟩ ∈ lw_ok := lw_2 (List.mem_of_getElem? (i := 162) rfl) rfl
theorem tw2_163 : Cond.static ⟨"FusedEngine$Machine", "putsOneMore", "(I)Z"⟩ ∈ lw_ok := lw_2 (List.mem_of_getElem? (i := 163) rfl) rfl
theorem tw2_164 : Cond.code ⟨"FusedEngine$Machine", "putsOneMore", "(I)Z"⟩ prog_2_method_9_code 1 (Option.some FieldType.boolean) ∈ lw_ok := lw_2 (List.mem_of_getElem? (i := 164) rfl) rfl
theorem tw2_165 : Cond.methodLink "FusedEngine$Machine" 78 ⟨"FusedEngine$Machine", "act", "(II)V"⟩ ∈ lw_ok := lw_2 (List.mem_of_getElem? (i := 165) rfl) rfl
theorem tw2_166 : Cond.privateMethod ⟨"FusedEngine$Machine", "act", "(II)V"⟩ ∈ tables_1 := lt_2 (List.mem_of_getElem? (i := 166) rfl)
theorem tw2_167 : Cond.instanceMethod ⟨"FusedEngine$Machine", "act", "(II)V"⟩ ∈ lw_ok := lw_2 (List.mem_of_getElem? (i := 167) rfl) rfl
theorem tw2_168 : Cond.code ⟨"FusedEngine$Machine", "act", "(II)V"⟩ prog_2_method_10_code 4 (Option.none : Option FieldType) ∈ lw_ok := lw_2 (List.mem_of_getElem? (i := 168) rfl) rfl
theorem tw2_169 : Cond.methodLink "FusedEngine$Machine" 88 ⟨"FusedEngine$Machine", "push", "(I)V"⟩ ∈ lw_ok := lw_2 (List.mem_of_getElem? (i := 169) rfl) rfl
theorem tw2_170 : Cond.privateMethod ⟨"FusedEngine$Machine", "push", "(I)V"⟩ ∈ tables_1 := lt_2 (List.mem_of_getElem? (i := 170) rfl)
theorem tw2_171 : Cond.instanceMethod ⟨"FusedEngine$Machine", "push", "(I)V"⟩ ∈ lw_ok := lw_2 (List.mem_of_getElem? (i := 171) rfl) rfl
theorem tw2_172 : Cond.code ⟨"FusedEngine$Machine", "push", "(I)V"⟩ prog_2_method_11_code 2 (Option.none : Option FieldType) ∈ lw_ok := lw_2 (List.mem_of_getElem? (i := 172) rfl) rfl
theorem tw2_173 : Cond.methodLink "FusedEngine$Machine" 92 ⟨"FusedEngine$Machine", "pop", "()I"⟩ ∈ lw_ok := lw_2 (List.mem_of_getElem? (i := 173) rfl) rfl
theorem tw2_174 : Cond.privateMethod ⟨"FusedEngine$Machine", "pop", "()I"⟩ ∈ tables_1 := lt_2 (List.mem_of_getElem? (i := 174) rfl)
theorem tw2_175 : Cond.instanceMethod ⟨"FusedEngine$Machine", "pop", "()I"⟩ ∈ lw_ok := lw_2 (List.mem_of_getElem? (i := 175) rfl) rfl
theorem tw2_176 : Cond.code ⟨"FusedEngine$Machine", "pop", "()I"⟩ prog_2_method_12_code 1 (Option.some FieldType.int) ∈ lw_ok := lw_2 (List.mem_of_getElem? (i := 176) rfl) rfl
theorem tw2_177 : Cond.methodLink "FusedEngine$Machine" 96 ⟨"FusedEngine$Machine", "exchange", "()V"⟩ ∈ lw_ok := lw_2 (List.mem_of_getElem? (i := 177) rfl) rfl
theorem tw2_178 : Cond.privateMethod ⟨"FusedEngine$Machine", "exchange", "()V"⟩ ∈ tables_1 := lt_2 (List.mem_of_getElem? (i := 178) rfl)
theorem tw2_179 : Cond.instanceMethod ⟨"FusedEngine$Machine", "exchange", "()V"⟩ ∈ lw_ok := lw_2 (List.mem_of_getElem? (i := 179) rfl) rfl
theorem tw2_180 : Cond.code ⟨"FusedEngine$Machine", "exchange", "()V"⟩ prog_2_method_13_code 2 (Option.none : Option FieldType) ∈ lw_ok := lw_2 (List.mem_of_getElem? (i := 180) rfl) rfl
theorem tw2_181 : Cond.methodLink "FusedEngine$Machine" 99 ⟨"FusedEngine$Machine", "putOut", "(I)V"⟩ ∈ lw_ok := lw_2 (List.mem_of_getElem? (i := 181) rfl) rfl
theorem tw2_182 : Cond.privateMethod ⟨"FusedEngine$Machine", "putOut", "(I)V"⟩ ∈ tables_1 := lt_2 (List.mem_of_getElem? (i := 182) rfl)
theorem tw2_183 : Cond.instanceMethod ⟨"FusedEngine$Machine", "putOut", "(I)V"⟩ ∈ lw_ok := lw_2 (List.mem_of_getElem? (i := 183) rfl) rfl
theorem tw2_184 : Cond.code ⟨"FusedEngine$Machine", "putOut", "(I)V"⟩ prog_2_method_14_code 2 (Option.none : Option FieldType) ∈ lw_ok := lw_2 (List.mem_of_getElem? (i := 184) rfl) rfl
theorem tw2_185 : Cond.methodLink "FusedEngine$Machine" 102 ⟨"FusedEngine$Machine", "combine", "(I)V"⟩ ∈ lw_ok := lw_2 (List.mem_of_getElem? (i := 185) rfl) rfl
theorem tw2_186 : Cond.privateMethod ⟨"FusedEngine$Machine", "combine", "(I)V"⟩ ∈ tables_1 := lt_2 (List.mem_of_getElem? (i := 186) rfl)
theorem tw2_187 : Cond.instanceMethod ⟨"FusedEngine$Machine", "combine", "(I)V"⟩ ∈ lw_ok := lw_2 (List.mem_of_getElem? (i := 187) rfl) rfl
theorem tw2_188 : Cond.code ⟨"FusedEngine$Machine", "combine", "(I)V"⟩ prog_2_method_15_code 4 (Option.none : Option FieldType) ∈ lw_ok := lw_2 (List.mem_of_getElem? (i := 188) rfl) rfl
theorem tw2_189 : Cond.methodLink "FusedEngine$Machine" 105 ⟨"FusedEngine$Machine", "resultOf", "(III)I"⟩ ∈ lw_ok := lw_2 (List.mem_of_getElem? (i := 189) rfl) rfl
theorem tw2_190 : Cond.static ⟨"FusedEngine$Machine", "resultOf", "(III)I"⟩ ∈ lw_ok := lw_2 (List.mem_of_getElem? (i := 190) rfl) rfl
theorem tw2_191 : Cond.code ⟨"FusedEngine$Machine", "resultOf", "(III)I"⟩ prog_2_method_16_code 3 (Option.some FieldType.int) ∈ lw_ok := lw_2 (List.mem_of_getElem? (i := 191) rfl) rfl
theorem tw2_192 : Cond.methodLink "FusedEngineLaw" 80 ⟨"FusedEngineLaw", "stack", "(LFusedEngine;ZI[J)I"⟩ ∈ lw_ok := lw_2 (List.mem_of_getElem? (i := 192) rfl) rfl
theorem tw2_193 : Cond.static ⟨"FusedEngineLaw", "stack", "(LFusedEngine;ZI[J)I"⟩ ∈ lw_ok := lw_2 (List.mem_of_getElem? (i := 193) rfl) rfl
theorem tw2_194 : Cond.codeWith ⟨"FusedEngineLaw", "stack", "(LFusedEngine;ZI[J)I"⟩ method_7_code 5 (Option.some FieldType.int) [(0, 10, 13, 21)] ∈ lw_ok := lw_2 (List.mem_of_getElem? (i := 194) rfl) rfl
theorem tw2_195 : Cond.methodLink "FusedEngineLaw" 30 ⟨"FusedEngine", "stack", "(ZI)I"⟩ ∈ lw_ok := lw_2 (List.mem_of_getElem? (i := 195) rfl) rfl
theorem tw2_196 : Cond.instanceMethod ⟨"FusedEngine", "stack", "(ZI)I"⟩ ∈ lw_ok := lw_2 (List.mem_of_getElem? (i := 196) rfl) rfl
theorem tw2_197 : Cond.selects "FusedEngine" ⟨"FusedEngine", "stack", "(ZI)I"⟩ ⟨"FusedEngine", "stack", "(ZI)I"⟩ ∈ lw_ok := lw_2 (List.mem_of_getElem? (i := 197) rfl) rfl
theorem tw2_198 : Cond.code ⟨"FusedEngine", "stack", "(ZI)I"⟩ prog_1_method_10_code 4 (Option.some FieldType.int) ∈ lw_ok := lw_2 (List.mem_of_getElem? (i := 198) rfl) rfl
theorem tw2_199 : Cond.stringRef "FusedEngine" 98 "no such value on the stack" ∈ tables_1 := lt_2 (List.mem_of_getElem? (i := 199) rfl)
theorem tw2_200 : Cond.methodLink "FusedEngineLaw" 83 ⟨"FusedEngineLaw", "local", "(LFusedEngine;ZI[J)I"⟩ ∈ lw_ok := lw_2 (List.mem_of_getElem? (i := 200) rfl) rfl
theorem tw2_201 : Cond.static ⟨"FusedEngineLaw", "local", "(LFusedEngine;ZI[J)I"⟩ ∈ lw_ok := lw_2 (List.mem_of_getElem? (i := 201) rfl) rfl
theorem tw2_202 : Cond.codeWith ⟨"FusedEngineLaw", "local", "(LFusedEngine;ZI[J)I"⟩ method_8_code 5 (Option.some FieldType.int) [(0, 10, 13, 21)] ∈ lw_ok := lw_2 (List.mem_of_getElem? (i := 202) rfl) rfl
theorem tw2_203 : Cond.methodLink "FusedEngineLaw" 33 ⟨"FusedEngine", "local", "(ZI)I"⟩ ∈ lw_ok := lw_2 (List.mem_of_getElem? (i := 203) rfl) rfl
theorem tw2_204 : Cond.instanceMethod ⟨"FusedEngine", "local", "(ZI)I"⟩ ∈ lw_ok := lw_2 (List.mem_of_getElem? (i := 204) rfl) rfl
theorem tw2_205 : Cond.selects "FusedEngine" ⟨"FusedEngine", "local", "(ZI)I"⟩ ⟨"FusedEngine", "local", "(ZI)I"⟩ ∈ lw_ok := lw_2 (List.mem_of_getElem? (i := 205) rfl) rfl
theorem tw2_206 : Cond.code ⟨"FusedEngine", "local", "(ZI)I"⟩ prog_1_method_11_code 3 (Option.some FieldType.int) ∈ lw_ok := lw_2 (List.mem_of_getElem? (i := 206) rfl) rfl
theorem tw2_207 : Cond.stringRef "FusedEngine" 104 "no such local" ∈ tables_1 := lt_2 (List.mem_of_getElem? (i := 207) rfl)
theorem tw2_208 : Cond.methodLink "FusedEngineLaw" 86 ⟨"FusedEngineLaw", "out", "(LFusedEngine;ZI[J)I"⟩ ∈ lw_ok := lw_2 (List.mem_of_getElem? (i := 208) rfl) rfl
theorem tw2_209 : Cond.static ⟨"FusedEngineLaw", "out", "(LFusedEngine;ZI[J)I"⟩ ∈ lw_ok := lw_2 (List.mem_of_getElem? (i := 209) rfl) rfl
theorem tw2_210 : Cond.codeWith ⟨"FusedEngineLaw", "out", "(LFusedEngine;ZI[J)I"⟩ method_9_code 5 (Option.some FieldType.int) [(0, 10, 13, 21)] ∈ lw_ok := lw_2 (List.mem_of_getElem? (i := 210) rfl) rfl
theorem tw2_211 : Cond.methodLink "FusedEngineLaw" 36 ⟨"FusedEngine", "out", "(ZI)I"⟩ ∈ lw_ok := lw_2 (List.mem_of_getElem? (i := 211) rfl) rfl
theorem tw2_212 : Cond.instanceMethod ⟨"FusedEngine", "out", "(ZI)I"⟩ ∈ lw_ok := lw_2 (List.mem_of_getElem? (i := 212) rfl) rfl
theorem tw2_213 : Cond.selects "FusedEngine" ⟨"FusedEngine", "out", "(ZI)I"⟩ ⟨"FusedEngine", "out", "(ZI)I"⟩ ∈ lw_ok := lw_2 (List.mem_of_getElem? (i := 213) rfl) rfl
theorem tw2_214 : Cond.code ⟨"FusedEngine", "out", "(ZI)I"⟩ prog_1_method_12_code 4 (Option.some FieldType.int) ∈ lw_ok := lw_2 (List.mem_of_getElem? (i := 214) rfl) rfl
theorem tw2_215 : Cond.methodLink "FusedEngine" 109 ⟨"FusedEngine$Machine", "keptOutputs", "()I"⟩ ∈ lw_ok := lw_2 (List.mem_of_getElem? (i := 215) rfl) rfl
theorem tw2_216 : Cond.instanceMethod ⟨"FusedEngine$Machine", "keptOutputs", "()I"⟩ ∈ lw_ok := lw_2 (List.mem_of_getElem? (i := 216) rfl) rfl
theorem tw2_217 : Cond.selects "FusedEngine$Machine" ⟨"FusedEngine$Machine", "keptOutputs", "()I"⟩ ⟨"FusedEngine$Machine", "keptOutputs", "()I"⟩ ∈ lw_ok := lw_2 (List.mem_of_getElem? (i := 217) rfl) rfl
theorem tw2_218 : Cond.code ⟨"FusedEngine$Machine", "keptOutputs", "()I"⟩ prog_2_method_3_code 1 (Option.some FieldType.int) ∈ lw_ok := lw_2 (List.mem_of_getElem? (i := 218) rfl) rfl
theorem tw2_219 : Cond.stringRef "FusedEngine" 112 "no such value put out, or not kept" ∈ tables_1 := lt_2 (List.mem_of_getElem? (i := 219) rfl)
theorem tw2_220 : Cond.classLink "FusedEngineLaw" 40 "FusedEngineModel" ∈ lw_ok := lw_2 (List.mem_of_getElem? (i := 220) rfl) rfl
theorem tw2_221 : Cond.instantiable "FusedEngineModel" 17 ∈ lw_ok := lw_2 (List.mem_of_getElem? (i := 221) rfl) rfl
theorem tw2_222 : Cond.methodLink "FusedEngineLaw" 42 ⟨"FusedEngineModel", "<init>", "()V"⟩ ∈ lw_ok := lw_2 (List.mem_of_getElem? (i := 222) rfl) rfl
theorem tw2_223 : Cond.instanceMethod ⟨"FusedEngineModel", "<init>", "()V"⟩ ∈ lw_ok := lw_2 (List.mem_of_getElem? (i := 223) rfl) rfl
theorem tw2_224 : Cond.code ⟨"FusedEngineModel", "<init>", "()V"⟩ prog_6_method_1_code 1 (Option.none : Option FieldType) ∈ lw_ok := lw_2 (List.mem_of_getElem? (i := 224) rfl) rfl
theorem tw2_225 : Cond.methodLink "FusedEngineModel" 1 ⟨"java/lang/Object", "<init>", "()V"⟩ ∈ lw_ok := lw_2 (List.mem_of_getElem? (i := 225) rfl) rfl
theorem tw2_226 : Cond.fieldLink "FusedEngineModel" 53 "FusedEngineModel" "code" "I" ∈ lw_ok := lw_2 (List.mem_of_getElem? (i := 226) rfl) rfl
theorem tw2_227 : Cond.fieldLink "FusedEngineModel" 79 "FusedEngineModel" "size" "I" ∈ lw_ok := lw_2 (List.mem_of_getElem? (i := 227) rfl) rfl
theorem tw2_228 : Cond.fieldLink "FusedEngineModel" 7 "FusedEngineModel" "letter" "[C" ∈ lw_ok := lw_2 (List.mem_of_getElem? (i := 228) rfl) rfl
theorem tw2_229 : Cond.fieldLink "FusedEngineModel" 13 "FusedEngineModel" "number" "[I" ∈ lw_ok := lw_2 (List.mem_of_getElem? (i := 229) rfl) rfl
theorem tw2_230 : Cond.fieldLink "FusedEngineModel" 68 "FusedEngineModel" "fused" "Z" ∈ lw_ok := lw_2 (List.mem_of_getElem? (i := 230) rfl) rfl
theorem tw2_231 : Cond.fieldLink "FusedEngineModel" 17 "FusedEngineModel" "fusedTo" "[I" ∈ lw_ok := lw_2 (List.mem_of_getElem? (i := 231) rfl) rfl
theorem tw2_232 : Cond.fieldLink "FusedEngineModel" 20 "FusedEngineModel" "rows" "[C" ∈ lw_ok := lw_2 (List.mem_of_getElem? (i := 232) rfl) rfl
theorem tw2_233 : Cond.fieldLink "FusedEngineModel" 23 "FusedEngineModel" "place" "[I" ∈ lw_ok := lw_2 (List.mem_of_getElem? (i := 233) rfl) rfl
theorem tw2_234 : Cond.fieldLink "FusedEngineModel" 26 "FusedEngineModel" "high" "[I" ∈ lw_ok := lw_2 (List.mem_of_getElem? (i := 234) rfl) rfl
theorem tw2_235 : Cond.fieldLink "FusedEngineModel" 29 "FusedEngineModel" "depth" "[I" ∈ lw_ok := lw_2 (List.mem_of_getElem? (i := 235) rfl) rfl
theorem tw2_236 : Cond.fieldLink "FusedEngineModel" 32 "FusedEngineModel" "put" "[I" ∈ lw_ok := lw_2 (List.mem_of_getElem? (i := 236) rfl) rfl
theorem tw2_237 : Cond.fieldLink "FusedEngineModel" 35 "FusedEngineModel" "state" "[I" ∈ lw_ok := lw_2 (List.mem_of_getElem? (i := 237) rfl) rfl
theorem tw2_238 : Cond.fieldLink "FusedEngineModel" 38 "FusedEngineModel" "done" "[I" ∈ lw_ok := lw_2 (List.mem_of_getElem? (i := 238) rfl) rfl
theorem tw2_239 : Cond.fieldLink "FusedEngineModel" 41 "FusedEngineModel" "stack" "[I" ∈ lw_ok := lw_2 (List.mem_of_getElem? (i := 239) rfl) rfl
theorem tw3_0 : Cond.fieldLink "FusedEngineModel" 44 "FusedEngineModel" "local" "[I" ∈ lw_ok := lw_3 (List.mem_of_getElem? (i := 0) rfl) rfl
theorem tw3_1 : Cond.fieldLink "FusedEngineModel" 47 "FusedEngineModel" "back" "[I" ∈ lw_ok := lw_3 (List.mem_of_getElem? (i := 1) rfl) rfl
theorem tw3_2 : Cond.fieldLink "FusedEngineModel" 50 "FusedEngineModel" "outs" "[I" ∈ lw_ok := lw_3 (List.mem_of_getElem? (i := 2) rfl) rfl
theorem tw3_3 : Cond.lays "FusedEngineModel" "FusedEngineModel" "code" "I" ∈ lw_ok := lw_3 (List.mem_of_getElem? (i := 3) rfl) rfl
theorem tw3_4 : Cond.soleField "FusedEngineModel" "code" ∈ lw_ok := lw_3 (List.mem_of_getElem? (i := 4) rfl) rfl
theorem tw3_5 : Cond.lays "FusedEngineModel" "FusedEngineModel" "size" "I" ∈ lw_ok := lw_3 (List.mem_of_getElem? (i := 5) rfl) rfl
theorem tw3_6 : Cond.soleField "FusedEngineModel" "size" ∈ lw_ok := lw_3 (List.mem_of_getElem? (i := 6) rfl) rfl
theorem tw3_7 : Cond.laysFinal "FusedEngineModel" "FusedEngineModel" "letter" "[C" ∈ lw_ok := lw_3 (List.mem_of_getElem? (i := 7) rfl) rfl
theorem tw3_8 : Cond.soleField "FusedEngineModel" "letter" ∈ lw_ok := lw_3 (List.mem_of_getElem? (i := 8) rfl) rfl
theorem tw3_9 : Cond.laysFinal "FusedEngineModel" "FusedEngineModel" "number" "[I" ∈ lw_ok := lw_3 (List.mem_of_getElem? (i := 9) rfl) rfl
theorem tw3_10 : Cond.soleField "FusedEngineModel" "number" ∈ lw_ok := lw_3 (List.mem_of_getElem? (i := 10) rfl) rfl
theorem tw3_11 : Cond.lays "FusedEngineModel" "FusedEngineModel" "fused" "Z" ∈ lw_ok := lw_3 (List.mem_of_getElem? (i := 11) rfl) rfl
theorem tw3_12 : Cond.soleField "FusedEngineModel" "fused" ∈ lw_ok := lw_3 (List.mem_of_getElem? (i := 12) rfl) rfl
theorem tw3_13 : Cond.laysFinal "FusedEngineModel" "FusedEngineModel" "fusedTo" "[I" ∈ lw_ok := lw_3 (List.mem_of_getElem? (i := 13) rfl) rfl
theorem tw3_14 : Cond.soleField "FusedEngineModel" "fusedTo" ∈ lw_ok := lw_3 (List.mem_of_getElem? (i := 14) rfl) rfl
theorem tw3_15 : Cond.laysFinal "FusedEngineModel" "FusedEngineModel" "rows" "[C" ∈ lw_ok := lw_3 (List.mem_of_getElem? (i := 15) rfl) rfl
theorem tw3_16 : Cond.soleField "FusedEngineModel" "rows" ∈ lw_ok := lw_3 (List.mem_of_getElem? (i := 16) rfl) rfl
theorem tw3_17 : Cond.laysFinal "FusedEngineModel" "FusedEngineModel" "place" "[I" ∈ lw_ok := lw_3 (List.mem_of_getElem? (i := 17) rfl) rfl
theorem tw3_18 : Cond.soleField "FusedEngineModel" "place" ∈ lw_ok := lw_3 (List.mem_of_getElem? (i := 18) rfl) rfl
theorem tw3_19 : Cond.laysFinal "FusedEngineModel" "FusedEngineModel" "high" "[I" ∈ lw_ok := lw_3 (List.mem_of_getElem? (i := 19) rfl) rfl
theorem tw3_20 : Cond.soleField "FusedEngineModel" "high" ∈ lw_ok := lw_3 (List.mem_of_getElem? (i := 20) rfl) rfl
theorem tw3_21 : Cond.laysFinal "FusedEngineModel" "FusedEngineModel" "depth" "[I" ∈ lw_ok := lw_3 (List.mem_of_getElem? (i := 21) rfl) rfl
theorem tw3_22 : Cond.soleField "FusedEngineModel" "depth" ∈ lw_ok := lw_3 (List.mem_of_getElem? (i := 22) rfl) rfl
theorem tw3_23 : Cond.laysFinal "FusedEngineModel" "FusedEngineModel" "put" "[I" ∈ lw_ok := lw_3 (List.mem_of_getElem? (i := 23) rfl) rfl
theorem tw3_24 : Cond.soleField "FusedEngineModel" "put" ∈ lw_ok := lw_3 (List.mem_of_getElem? (i := 24) rfl) rfl
theorem tw3_25 : Cond.laysFinal "FusedEngineModel" "FusedEngineModel" "state" "[I" ∈ lw_ok := lw_3 (List.mem_of_getElem? (i := 25) rfl) rfl
theorem tw3_26 : Cond.soleField "FusedEngineModel" "state" ∈ lw_ok := lw_3 (List.mem_of_getElem? (i := 26) rfl) rfl
theorem tw3_27 : Cond.laysFinal "FusedEngineModel" "FusedEngineModel" "done" "[I" ∈ lw_ok := lw_3 (List.mem_of_getElem? (i := 27) rfl) rfl
theorem tw3_28 : Cond.soleField "FusedEngineModel" "done" ∈ lw_ok := lw_3 (List.mem_of_getElem? (i := 28) rfl) rfl
theorem tw3_29 : Cond.laysFinal "FusedEngineModel" "FusedEngineModel" "stack" "[I" ∈ lw_ok := lw_3 (List.mem_of_getElem? (i := 29) rfl) rfl
theorem tw3_30 : Cond.soleField "FusedEngineModel" "stack" ∈ lw_ok := lw_3 (List.mem_of_getElem? (i := 30) rfl) rfl
theorem tw3_31 : Cond.laysFinal "FusedEngineModel" "FusedEngineModel" "local" "[I" ∈ lw_ok := lw_3 (List.mem_of_getElem? (i := 31) rfl) rfl
theorem tw3_32 : Cond.soleField "FusedEngineModel" "local" ∈ lw_ok := lw_3 (List.mem_of_getElem? (i := 32) rfl) rfl
theorem tw3_33 : Cond.laysFinal "FusedEngineModel" "FusedEngineModel" "back" "[I" ∈ lw_ok := lw_3 (List.mem_of_getElem? (i := 33) rfl) rfl
theorem tw3_34 : Cond.soleField "FusedEngineModel" "back" ∈ lw_ok := lw_3 (List.mem_of_getElem? (i := 34) rfl) rfl
theorem tw3_35 : Cond.laysFinal "FusedEngineModel" "FusedEngineModel" "outs" "[I" ∈ lw_ok := lw_3 (List.mem_of_getElem? (i := 35) rfl) rfl
theorem tw3_36 : Cond.soleField "FusedEngineModel" "outs" ∈ lw_ok := lw_3 (List.mem_of_getElem? (i := 36) rfl) rfl
theorem tw3_37 : Cond.superclass "FusedEngineModel" "java/lang/Object" ∈ lw_ok := lw_3 (List.mem_of_getElem? (i := 37) rfl) rfl
theorem tw3_38 : Cond.arrayClass FieldType.char ∈ lw_ok := lw_3 (List.mem_of_getElem? (i := 38) rfl) rfl
theorem tw3_39 : Cond.methodLink "FusedEngineLaw" 49 ⟨"FusedEngineModel", "thrown", "()I"⟩ ∈ lw_ok := lw_3 (List.mem_of_getElem? (i := 39) rfl) rfl
theorem tw3_40 : Cond.instanceMethod ⟨"FusedEngineModel", "thrown", "()I"⟩ ∈ lw_ok := lw_3 (List.mem_of_getElem? (i := 40) rfl) rfl
theorem tw3_41 : Cond.selects "FusedEngineModel" ⟨"FusedEngineModel", "thrown", "()I"⟩ ⟨"FusedEngineModel", "thrown", "()I"⟩ ∈ lw_ok := lw_3 (List.mem_of_getElem? (i := 41) rfl) rfl
theorem tw3_42 : Cond.code ⟨"FusedEngineModel", "thrown", "()I"⟩ prog_6_method_2_code 1 (Option.some FieldType.int) ∈ lw_ok := lw_3 (List.mem_of_getElem? (i := 42) rfl) rfl
theorem tw3_43 : Cond.methodLink "FusedEngineLaw" 48 ⟨"FusedEngineModel", "add", "(II)I"⟩ ∈ lw_ok := lw_3 (List.mem_of_getElem? (i := 43) rfl) rfl
theorem tw3_44 : Cond.instanceMethod ⟨"FusedEngineModel", "add", "(II)I"⟩ ∈ lw_ok := lw_3 (List.mem_of_getElem? (i := 44) rfl) rfl
theorem tw3_45 : Cond.selects "FusedEngineModel" ⟨"FusedEngineModel", "add", "(II)I"⟩ ⟨"FusedEngineModel", "add", "(II)I"⟩ ∈ lw_ok := lw_3 (List.mem_of_getElem? (i := 45) rfl) rfl
theorem tw3_46 : Cond.code ⟨"FusedEngineModel", "add", "(II)I"⟩ prog_6_method_11_code 3 (Option.some FieldType.int) ∈ lw_ok := lw_3 (List.mem_of_getElem? (i := 46) rfl) rfl
theorem tw3_47 : Cond.methodLink "FusedEngineModel" 75 ⟨"FusedEngineModel", "fits", "(II)Z"⟩ ∈ lw_ok := lw_3 (List.mem_of_getElem? (i := 47) rfl) rfl
theorem tw3_48 : Cond.static ⟨"FusedEngineModel", "fits", "(II)Z"⟩ ∈ lw_ok := lw_3 (List.mem_of_getElem? (i := 48) rfl) rfl
theorem tw3_49 : Cond.code ⟨"FusedEngineModel", "fits", "(II)Z"⟩ prog_6_method_8_code 2 (Option.some FieldType.boolean) ∈ lw_ok := lw_3 (List.mem_of_getElem? (i := 49) rfl) rfl
theorem tw3_50 : Cond.methodLink "FusedEngineModel" 61 ⟨"FusedEngineModel", "isLetter", "(I)Z"⟩ ∈ lw_ok := lw_3 (List.mem_of_getElem? (i := 50) rfl) rfl
theorem tw3_51 : Cond.static ⟨"FusedEngineModel", "isLetter", "(I)Z"⟩ ∈ lw_ok := lw_3 (List.mem_of_getElem? (i := 51) rfl) rfl
theorem tw3_52 : Cond.code ⟨"FusedEngineModel", "isLetter", "(I)Z"⟩ prog_6_method_6_code 1 (Option.some FieldType.boolean) ∈ lw_ok := lw_3 (List.mem_of_getElem? (i := 52) rfl) rfl
theorem tw3_53 : Cond.methodLink "FusedEngineModel" 57 ⟨"FusedEngineModel", "isPlain", "(I)Z"⟩ ∈ lw_ok := lw_3 (List.mem_of_getElem? (i := 53) rfl) rfl
theorem tw3_54 : Cond.static ⟨"FusedEngineModel", "isPlain", "(I)Z"⟩ ∈ lw_ok := lw_3 (List.mem_of_getElem? (i := 54) rfl) rfl
theorem tw3_55 : Cond.code ⟨"FusedEngineModel", "isPlain", "(I)Z"⟩ prog_6_method_5_code 1 (Option.some FieldType.boolean) ∈ lw_ok := lw_3 (List.mem_of_getElem? (i := 55) rfl) rfl
theorem tw3_56 : Cond.methodLink "FusedEngineModel" 64 ⟨"FusedEngineModel", "outside", "(III)Z"⟩ ∈ lw_ok := lw_3 (List.mem_of_getElem? (i := 56) rfl) rfl
theorem tw3_57 : Cond.static ⟨"FusedEngineModel", "outside", "(III)Z"⟩ ∈ lw_ok := lw_3 (List.mem_of_getElem? (i := 57) rfl) rfl
theorem tw3_58 : Cond.code ⟨"FusedEngineModel", "outside", "(III)Z"⟩ prog_6_method_4_code 3 (Option.some FieldType.boolean) ∈ lw_ok := lw_3 (List.mem_of_getElem? (i := 58) rfl) rfl
theorem tw3_59 : Cond.methodLink "FusedEngineModel" 82 ⟨"FusedEngineModel", "set", "(III)V"⟩ ∈ lw_ok := lw_3 (List.mem_of_getElem? (i := 59) rfl) rfl
theorem tw3_60 : Cond.privateMethod ⟨"FusedEngineModel", "set", "(III)V"⟩ ∈ tables_1 := lt_3 (List.mem_of_getElem? (i := 60) rfl)
theorem tw3_61 : Cond.instanceMethod ⟨"FusedEngineModel", "set", "(III)V"⟩ ∈ lw_ok := lw_3 (List.mem_of_getElem? (i := 61) rfl) rfl
theorem tw3_62 : Cond.code ⟨"FusedEngineModel", "set", "(III)V"⟩ prog_6_method_10_code 4 (Option.none : Option FieldType) ∈ lw_ok := lw_3 (List.mem_of_getElem? (i := 62) rfl) rfl
theorem tw3_63 : Cond.methodLink "FusedEngineModel" 72 ⟨"FusedEngineModel", "begin", "()V"⟩ ∈ lw_ok := lw_3 (List.mem_of_getElem? (i := 63) rfl) rfl
theorem tw3_64 : Cond.privateMethod ⟨"FusedEngineModel", "begin", "()V"⟩ ∈ tables_1 := lt_3 (List.mem_of_getElem? (i := 64) rfl)
theorem tw3_65 : Cond.instanceMethod ⟨"FusedEngineModel", "begin", "()V"⟩ ∈ lw_ok := lw_3 (List.mem_of_getElem? (i := 65) rfl) rfl
theorem tw3_66 : Cond.code ⟨"FusedEngineModel", "begin", "()V"⟩ prog_6_method_9_code 2 (Option.none : Option FieldType) ∈ lw_ok := lw_3 (List.mem_of_getElem? (i := 66) rfl) rfl
theorem tw3_67 : Cond.methodLink "FusedEngineLaw" 56 ⟨"FusedEngineModel", "change", "(III)V"⟩ ∈ lw_ok := lw_3 (List.mem_of_getElem? (i := 67) rfl) rfl
theorem tw3_68 : Cond.instanceMethod ⟨"FusedEngineModel", "change", "(III)V"⟩ ∈ lw_ok := lw_3 (List.mem_of_getElem? (i := 68) rfl) rfl
theorem tw3_69 : Cond.selects "FusedEngineModel" ⟨"FusedEngineModel", "change", "(III)V"⟩ ⟨"FusedEngineModel", "change", "(III)V"⟩ ∈ lw_ok := lw_3 (List.mem_of_getElem? (i := 69) rfl) rfl
theorem tw3_70 : Cond.code ⟨"FusedEngineModel", "change", "(III)V"⟩ prog_6_method_12_code 4 (Option.none : Option FieldType) ∈ lw_ok := lw_3 (List.mem_of_getElem? (i := 70) rfl) rfl
theorem tw3_71 : Cond.methodLink "FusedEngineLaw" 60 ⟨"FusedEngineModel", "clear", "()V"⟩ ∈ lw_ok := lw_3 (List.mem_of_getElem? (i := 71) rfl) rfl
theorem tw3_72 : Cond.instanceMethod ⟨"FusedEngineModel", "clear", "()V"⟩ ∈ lw_ok := lw_3 (List.mem_of_getElem? (i := 72) rfl) rfl
theorem tw3_73 : Cond.selects "FusedEngineModel" ⟨"FusedEngineModel", "clear", "()V"⟩ ⟨"FusedEngineModel", "clear", "()V"⟩ ∈ lw_ok := lw_3 (List.mem_of_getElem? (i := 73) rfl) rfl
theorem tw3_74 : Cond.code ⟨"FusedEngineModel", "clear", "()V"⟩ prog_6_method_13_code 1 (Option.none : Option FieldType) ∈ lw_ok := lw_3 (List.mem_of_getElem? (i := 74) rfl) rfl
theorem tw3_75 : Cond.methodLink "FusedEngineLaw" 64 ⟨"FusedEngineModel", "fuse", "()I"⟩ ∈ lw_ok := lw_3 (List.mem_of_getElem? (i := 75) rfl) rfl
theorem tw3_76 : Cond.instanceMethod ⟨"FusedEngineModel", "fuse", "()I"⟩ ∈ lw_ok := lw_3 (List.mem_of_getElem? (i := 76) rfl) rfl
theorem tw3_77 : Cond.selects "FusedEngineModel" ⟨"FusedEngineModel", "fuse", "()I"⟩ ⟨"FusedEngineModel", "fuse", "()I"⟩ ∈ lw_ok := lw_3 (List.mem_of_getElem? (i := 77) rfl) rfl
theorem tw3_78 : Cond.code ⟨"FusedEngineModel", "fuse", "()I"⟩ prog_6_method_18_code 5 (Option.some FieldType.int) ∈ lw_ok := lw_3 (List.mem_of_getElem? (i := 78) rfl) rfl
theorem tw3_79 : Cond.methodLink "FusedEngineModel" 100 ⟨"FusedEngineModel", "rowAt", "(I)I"⟩ ∈ lw_ok := lw_3 (List.mem_of_getElem? (i := 79) rfl) rfl
theorem tw3_80 : Cond.privateMethod ⟨"FusedEngineModel", "rowAt", "(I)I"⟩ ∈ tables_1 := lt_3 (List.mem_of_getElem? (i := 80) rfl)
theorem tw3_81 : Cond.instanceMethod ⟨"FusedEngineModel", "rowAt", "(I)I"⟩ ∈ lw_ok := lw_3 (List.mem_of_getElem? (i := 81) rfl) rfl
theorem tw3_82 : Cond.code ⟨"FusedEngineModel", "rowAt", "(I)I"⟩ prog_6_method_17_code 5 (Option.some FieldType.int) ∈ lw_ok := lw_3 (List.mem_of_getElem? (i := 82) rfl) rfl
theorem tw3_83 : Cond.methodLink "FusedEngineModel" 92 ⟨"FusedEngineModel", "alike", "(II)I"⟩ ∈ lw_ok := lw_3 (List.mem_of_getElem? (i := 83) rfl) rfl
theorem tw3_84 : Cond.privateMethod ⟨"FusedEngineModel", "alike", "(II)I"⟩ ∈ tables_1 := lt_3 (List.mem_of_getElem? (i := 84) rfl)
theorem tw3_85 : Cond.instanceMethod ⟨"FusedEngineModel", "alike", "(II)I"⟩ ∈ lw_ok := lw_3 (List.mem_of_getElem? (i := 85) rfl) rfl
theorem tw3_86 : Cond.code ⟨"FusedEngineModel", "alike", "(II)I"⟩ prog_6_method_16_code 4 (Option.some FieldType.int) ∈ lw_ok := lw_3 (List.mem_of_getElem? (i := 86) rfl) rfl
theorem tw3_87 : Cond.methodLink "FusedEngineModel" 89 ⟨"FusedEngineModel", "target", "(I)Z"⟩ ∈ lw_ok := lw_3 (List.mem_of_getElem? (i := 87) rfl) rfl
theorem tw3_88 : Cond.privateMethod ⟨"FusedEngineModel", "target", "(I)Z"⟩ ∈ tables_1 := lt_3 (List.mem_of_getElem? (i := 88) rfl)
theorem tw3_89 : Cond.instanceMethod ⟨"FusedEngineModel", "target", "(I)Z"⟩ ∈ lw_ok := lw_3 (List.mem_of_getElem? (i := 89) rfl) rfl
theorem tw3_90 : Cond.code ⟨"FusedEngineModel", "target", "(I)Z"⟩ prog_6_method_14_code 4 (Option.some FieldType.boolean) ∈ lw_ok := lw_3 (List.mem_of_getElem? (i := 90) rfl) rfl
theorem tw3_91 : Cond.methodLink "FusedEngineModel" 86 ⟨"FusedEngineModel", "leads", "(I)Z"⟩ ∈ lw_ok := lw_3 (List.mem_of_getElem? (i := 91) rfl) rfl
theorem tw3_92 : Cond.static ⟨"FusedEngineModel", "leads", "(I)Z"⟩ ∈ lw_ok := lw_3 (List.mem_of_getElem? (i := 92) rfl) rfl
theorem tw3_93 : Cond.code ⟨"FusedEngineModel", "leads", "(I)Z"⟩ prog_6_method_7_code 1 (Option.some FieldType.boolean) ∈ lw_ok := lw_3 (List.mem_of_getElem? (i := 93) rfl) rfl
theorem tw3_94 : Cond.methodLink "FusedEngineModel" 96 ⟨"FusedEngineModel", "lengthOf", "(I)I"⟩ ∈ lw_ok := lw_3 (List.mem_of_getElem? (i := 94) rfl) rfl
theorem tw3_95 : Cond.privateMethod ⟨"FusedEngineModel", "lengthOf", "(I)I"⟩ ∈ tables_1 := lt_3 (List.mem_of_getElem? (i := 95) rfl)
theorem tw3_96 : Cond.instanceMethod ⟨"FusedEngineModel", "lengthOf", "(I)I"⟩ ∈ lw_ok := lw_3 (List.mem_of_getElem? (i := 96) rfl) rfl
theorem tw3_97 : Cond.code ⟨"FusedEngineModel", "lengthOf", "(I)I"⟩ prog_6_method_15_code 3 (Option.some FieldType.int) ∈ lw_ok := lw_3 (List.mem_of_getElem? (i := 97) rfl) rfl
theorem tw3_98 : Cond.methodLink "FusedEngineLaw" 67 ⟨"FusedEngineModel", "look", "(II)I"⟩ ∈ lw_ok := lw_3 (List.mem_of_getElem? (i := 98) rfl) rfl
theorem tw3_99 : Cond.instanceMethod ⟨"FusedEngineModel", "look", "(II)I"⟩ ∈ lw_ok := lw_3 (List.mem_of_getElem? (i := 99) rfl) rfl
theorem tw3_100 : Cond.selects "FusedEngineModel" ⟨"FusedEngineModel", "look", "(II)I"⟩ ⟨"FusedEngineModel", "look", "(II)I"⟩ ∈ lw_ok := lw_3 (List.mem_of_getElem? (i := 100) rfl) rfl
theorem tw3_101 : Cond.code ⟨"FusedEngineModel", "look", "(II)I"⟩ prog_6_method_19_code 3 (Option.some FieldType.int) ∈ lw_ok := lw_3 (List.mem_of_getElem? (i := 101) rfl) rfl
theorem tw3_102 : Cond.methodLink "FusedEngineModel" 103 ⟨"FusedEngineModel", "refuse", "(I)I"⟩ ∈ lw_ok := lw_3 (List.mem_of_getElem? (i := 102) rfl) rfl
theorem tw3_103 : Cond.privateMethod ⟨"FusedEngineModel", "refuse", "(I)I"⟩ ∈ tables_1 := lt_3 (List.mem_of_getElem? (i := 103) rfl)
theorem tw3_104 : Cond.instanceMethod ⟨"FusedEngineModel", "refuse", "(I)I"⟩ ∈ lw_ok := lw_3 (List.mem_of_getElem? (i := 104) rfl) rfl
theorem tw3_105 : Cond.code ⟨"FusedEngineModel", "refuse", "(I)I"⟩ prog_6_method_3_code 2 (Option.some FieldType.int) ∈ lw_ok := lw_3 (List.mem_of_getElem? (i := 105) rfl) rfl
theorem tw3_106 : Cond.methodLink "FusedEngineLaw" 71 ⟨"FusedEngineModel", "run", "(ZI)I"⟩ ∈ lw_ok := lw_3 (List.mem_of_getElem? (i := 106) rfl) rfl
theorem tw3_107 : Cond.instanceMethod ⟨"FusedEngineModel", "run", "(ZI)I"⟩ ∈ lw_ok := lw_3 (List.mem_of_getElem? (i := 107) rfl) rfl
theorem tw3_108 : Cond.selects "FusedEngineModel" ⟨"FusedEngineModel", "run", "(ZI)I"⟩ ⟨"FusedEngineModel", "run", "(ZI)I"⟩ ∈ lw_ok := lw_3 (List.mem_of_getElem? (i := 108) rfl) rfl
theorem tw3_109 : Cond.code ⟨"FusedEngineModel", "run", "(ZI)I"⟩ prog_6_method_29_code 7 (Option.some FieldType.int) ∈ lw_ok := lw_3 (List.mem_of_getElem? (i := 109) rfl) rfl
theorem tw3_110 : Cond.methodLink "FusedEngineModel" 132 ⟨"FusedEngineModel", "act", "(I)Z"⟩ ∈ lw_ok := lw_3 (List.mem_of_getElem? (i := 110) rfl) rfl
theorem tw3_111 : Cond.privateMethod ⟨"FusedEngineModel", "act", "(I)Z"⟩ ∈ tables_1 := lt_3 (List.mem_of_getElem? (i := 111) rfl)
theorem tw3_112 : Cond.instanceMethod ⟨"FusedEngineModel", "act", "(I)Z"⟩ ∈ lw_ok := lw_3 (List.mem_of_getElem? (i := 112) rfl) rfl
theorem tw3_113 : Cond.code ⟨"FusedEngineModel", "act", "(I)Z"⟩ prog_6_method_28_code 5 (Option.some FieldType.boolean) ∈ lw_ok := lw_3 (List.mem_of_getElem? (i := 113) rfl) rfl
theorem tw3_114 : Cond.methodLink "FusedEngineModel" 123 ⟨"FusedEngineModel", "trap", "(II)I"⟩ ∈ lw_ok := lw_3 (List.mem_of_getElem? (i := 114) rfl) rfl
theorem tw3_115 : Cond.privateMethod ⟨"FusedEngineModel", "trap", "(II)I"⟩ ∈ tables_1 := lt_3 (List.mem_of_getElem? (i := 115) rfl)
theorem tw3_116 : Cond.instanceMethod ⟨"FusedEngineModel", "trap", "(II)I"⟩ ∈ lw_ok := lw_3 (List.mem_of_getElem? (i := 116) rfl) rfl
theorem tw3_117 : Cond.code ⟨"FusedEngineModel", "trap", "(II)I"⟩ prog_6_method_21_code 4 (Option.some FieldType.int) ∈ lw_ok := lw_3 (List.mem_of_getElem? (i := 117) rfl) rfl
theorem tw3_118 : Cond.methodLink "FusedEngineModel" 106 ⟨"FusedEngineModel", "takes", "(I)I"⟩ ∈ lw_ok := lw_3 (List.mem_of_getElem? (i := 118) rfl) rfl
theorem tw3_119 : Cond.privateMethod ⟨"FusedEngineModel", "takes", "(I)I"⟩ ∈ tables_1 := lt_3 (List.mem_of_getElem? (i := 119) rfl)
theorem tw3_120 : Cond.instanceMethod ⟨"FusedEngineModel", "takes", "(I)I"⟩ ∈ lw_ok := lw_3 (List.mem_of_getElem? (i := 120) rfl) rfl
theorem tw3_121 : Cond.code ⟨"FusedEngineModel", "takes", "(I)I"⟩ prog_6_method_20_code 2 (Option.some FieldType.int) ∈ lw_ok := lw_3 (List.mem_of_getElem? (i := 121) rfl) rfl
theorem tw3_122 : Cond.methodLink "FusedEngineModel" 126 ⟨"FusedEngineModel", "work", "(III)V"⟩ ∈ lw_ok := lw_3 (List.mem_of_getElem? (i := 122) rfl) rfl
theorem tw3_123 : Cond.privateMethod ⟨"FusedEngineModel", "work", "(III)V"⟩ ∈ tables_1 := lt_3 (List.mem_of_getElem? (i := 123) rfl)
theorem tw3_124 : Cond.instanceMethod ⟨"FusedEngineModel", "work", "(III)V"⟩ ∈ lw_ok := lw_3 (List.mem_of_getElem? (i := 124) rfl) rfl
theorem tw3_125 : Cond.code ⟨"FusedEngineModel", "work", "(III)V"⟩ prog_6_method_27_code 6 (Option.none : Option FieldType) ∈ lw_ok := lw_3 (List.mem_of_getElem? (i := 125) rfl) rfl
theorem tw3_126 : Cond.methodLink "FusedEngineModel" 109 ⟨"FusedEngineModel", "pop", "(I)I"⟩ ∈ lw_ok := lw_3 (List.mem_of_getElem? (i := 126) rfl) rfl
theorem tw3_127 : Cond.privateMethod ⟨"FusedEngineModel", "pop", "(I)I"⟩ ∈ tables_1 := lt_3 (List.mem_of_getElem? (i := 127) rfl)
theorem tw3_128 : Cond.instanceMethod ⟨"FusedEngineModel", "pop", "(I)I"⟩ ∈ lw_ok := lw_3 (List.mem_of_getElem? (i := 128) rfl) rfl
theorem tw3_129 : Cond.code ⟨"FusedEngineModel", "pop", "(I)I"⟩ prog_6_method_23_code 2 (Option.some FieldType.int) ∈ lw_ok := lw_3 (List.mem_of_getElem? (i := 129) rfl) rfl
theorem tw3_130 : Cond.methodLink "FusedEngineModel" 112 ⟨"FusedEngineModel", "reckon", "(III)I"⟩ ∈ lw_ok := lw_3 (List.mem_of_getElem? (i := 130) rfl) rfl
theorem tw3_131 : Cond.static ⟨"FusedEngineModel", "reckon", "(III)I"⟩ ∈ lw_ok := lw_3 (List.mem_of_getElem? (i := 131) rfl) rfl
theorem tw3_132 : Cond.code ⟨"FusedEngineModel", "reckon", "(III)I"⟩ prog_6_method_24_code 3 (Option.some FieldType.int) ∈ lw_ok := lw_3 (List.mem_of_getElem? (i := 132) rfl) rfl
theorem tw3_133 : Cond.methodLink "FusedEngineModel" 116 ⟨"FusedEngineModel", "push", "(II)V"⟩ ∈ lw_ok := lw_3 (List.mem_of_getElem? (i := 133) rfl) rfl
theorem tw3_134 : Cond.privateMethod ⟨"FusedEngineModel", "push", "(II)V"⟩ ∈ tables_1 := lt_3 (List.mem_of_getElem? (i := 134) rfl)
theorem tw3_135 : Cond.instanceMethod ⟨"FusedEngineModel", "push", "(II)V"⟩ ∈ lw_ok := lw_3 (List.mem_of_getElem? (i := 135) rfl) rfl
theorem tw3_136 : Cond.code ⟨"FusedEngineModel", "push", "(II)V"⟩ prog_6_method_22_code 3 (Option.none : Option FieldType) ∈ lw_ok := lw_3 (List.mem_of_getElem? (i := 136) rfl) rfl
theorem tw3_137 : Cond.methodLink "FusedEngineModel" 120 ⟨"FusedEngineModel", "say", "(II)V"⟩ ∈ lw_ok := lw_3 (List.mem_of_getElem? (i := 137) rfl) rfl
theorem tw3_138 : Cond.privateMethod ⟨"FusedEngineModel", "say", "(II)V"⟩ ∈ tables_1 := lt_3 (List.mem_of_getElem? (i := 138) rfl)
theorem tw3_139 : Cond.instanceMethod ⟨"FusedEngineModel", "say", "(II)V"⟩ ∈ lw_ok := lw_3 (List.mem_of_getElem? (i := 139) rfl) rfl
theorem tw3_140 : Cond.code ⟨"FusedEngineModel", "say", "(II)V"⟩ prog_6_method_25_code 3 (Option.none : Option FieldType) ∈ lw_ok := lw_3 (List.mem_of_getElem? (i := 140) rfl) rfl
theorem tw3_141 : Cond.methodLink "FusedEngineModel" 129 ⟨"FusedEngineModel", "next", "(III)I"⟩ ∈ lw_ok := lw_3 (List.mem_of_getElem? (i := 141) rfl) rfl
theorem tw3_142 : Cond.privateMethod ⟨"FusedEngineModel", "next", "(III)I"⟩ ∈ tables_1 := lt_3 (List.mem_of_getElem? (i := 142) rfl)
theorem tw3_143 : Cond.instanceMethod ⟨"FusedEngineModel", "next", "(III)I"⟩ ∈ lw_ok := lw_3 (List.mem_of_getElem? (i := 143) rfl) rfl
theorem tw3_144 : Cond.code ⟨"FusedEngineModel", "next", "(III)I"⟩ prog_6_method_26_code 5 (Option.some FieldType.int) ∈ lw_ok := lw_3 (List.mem_of_getElem? (i := 144) rfl) rfl
theorem tw3_145 : Cond.methodLink "FusedEngineLaw" 75 ⟨"FusedEngineModel", "restart", "()V"⟩ ∈ lw_ok := lw_3 (List.mem_of_getElem? (i := 145) rfl) rfl
theorem tw3_146 : Cond.instanceMethod ⟨"FusedEngineModel", "restart", "()V"⟩ ∈ lw_ok := lw_3 (List.mem_of_getElem? (i := 146) rfl) rfl
theorem tw3_147 : Cond.selects "FusedEngineModel" ⟨"FusedEngineModel", "restart", "()V"⟩ ⟨"FusedEngineModel", "restart", "()V"⟩ ∈ lw_ok := lw_3 (List.mem_of_getElem? (i := 147) rfl) rfl
theorem tw3_148 : Cond.code ⟨"FusedEngineModel", "restart", "()V"⟩ prog_6_method_30_code 1 (Option.none : Option FieldType) ∈ lw_ok := lw_3 (List.mem_of_getElem? (i := 148) rfl) rfl
theorem tw3_149 : Cond.methodLink "FusedEngineLaw" 79 ⟨"FusedEngineModel", "about", "(ZI)I"⟩ ∈ lw_ok := lw_3 (List.mem_of_getElem? (i := 149) rfl) rfl
theorem tw3_150 : Cond.instanceMethod ⟨"FusedEngineModel", "about", "(ZI)I"⟩ ∈ lw_ok := lw_3 (List.mem_of_getElem? (i := 150) rfl) rfl
theorem tw3_151 : Cond.selects "FusedEngineModel" ⟨"FusedEngineModel", "about", "(ZI)I"⟩ ⟨"FusedEngineModel", "about", "(ZI)I"⟩ ∈ lw_ok := lw_3 (List.mem_of_getElem? (i := 151) rfl) rfl
theorem tw3_152 : Cond.code ⟨"FusedEngineModel", "about", "(ZI)I"⟩ prog_6_method_31_code 4 (Option.some FieldType.int) ∈ lw_ok := lw_3 (List.mem_of_getElem? (i := 152) rfl) rfl
theorem tw3_153 : Cond.methodLink "FusedEngineLaw" 82 ⟨"FusedEngineModel", "stack", "(ZI)I"⟩ ∈ lw_ok := lw_3 (List.mem_of_getElem? (i := 153) rfl) rfl
theorem tw3_154 : Cond.instanceMethod ⟨"FusedEngineModel", "stack", "(ZI)I"⟩ ∈ lw_ok := lw_3 (List.mem_of_getElem? (i := 154) rfl) rfl
theorem tw3_155 : Cond.selects "FusedEngineModel" ⟨"FusedEngineModel", "stack", "(ZI)I"⟩ ⟨"FusedEngineModel", "stack", "(ZI)I"⟩ ∈ lw_ok := lw_3 (List.mem_of_getElem? (i := 155) rfl) rfl
theorem tw3_156 : Cond.code ⟨"FusedEngineModel", "stack", "(ZI)I"⟩ prog_6_method_32_code 4 (Option.some FieldType.int) ∈ lw_ok := lw_3 (List.mem_of_getElem? (i := 156) rfl) rfl
theorem tw3_157 : Cond.methodLink "FusedEngineLaw" 85 ⟨"FusedEngineModel", "local", "(ZI)I"⟩ ∈ lw_ok := lw_3 (List.mem_of_getElem? (i := 157) rfl) rfl
theorem tw3_158 : Cond.instanceMethod ⟨"FusedEngineModel", "local", "(ZI)I"⟩ ∈ lw_ok := lw_3 (List.mem_of_getElem? (i := 158) rfl) rfl
theorem tw3_159 : Cond.selects "FusedEngineModel" ⟨"FusedEngineModel", "local", "(ZI)I"⟩ ⟨"FusedEngineModel", "local", "(ZI)I"⟩ ∈ lw_ok := lw_3 (List.mem_of_getElem? (i := 159) rfl) rfl
theorem tw3_160 : Cond.code ⟨"FusedEngineModel", "local", "(ZI)I"⟩ prog_6_method_33_code 3 (Option.some FieldType.int) ∈ lw_ok := lw_3 (List.mem_of_getElem? (i := 160) rfl) rfl
theorem tw3_161 : Cond.methodLink "FusedEngineLaw" 88 ⟨"FusedEngineModel", "out", "(ZI)I"⟩ ∈ lw_ok := lw_3 (List.mem_of_getElem? (i := 161) rfl) rfl
theorem tw3_162 : Cond.instanceMethod ⟨"FusedEngineModel", "out", "(ZI)I"⟩ ∈ lw_ok := lw_3 (List.mem_of_getElem? (i := 162) rfl) rfl
theorem tw3_163 : Cond.selects "FusedEngineModel" ⟨"FusedEngineModel", "out", "(ZI)I"⟩ ⟨"FusedEngineModel", "out", "(ZI)I"⟩ ∈ lw_ok := lw_3 (List.mem_of_getElem? (i := 163) rfl) rfl
theorem tw3_164 : Cond.code ⟨"FusedEngineModel", "out", "(ZI)I"⟩ prog_6_method_34_code 4 (Option.some FieldType.int) ∈ lw_ok := lw_3 (List.mem_of_getElem? (i := 164) rfl) rfl
theorem tw3_165 : Cond.arrayClass FieldType.long ∈ lw_ok := lw_3 (List.mem_of_getElem? (i := 165) rfl) rfl
theorem tw3_166 : Cond.sameMethod "java/lang/Throwable" "java/lang/Throwable" "fillInStackTrace" "(I)Ljava/lang/Throwable;" ∈ lw_ok := lw_3 (List.mem_of_getElem? (i := 166) rfl) rfl
theorem tw3_167 : Cond.fieldLink "java/lang/String" 9 "java/lang/String" "value" "[B" ∈ lw_ok := lw_3 (List.mem_of_getElem? (i := 167) rfl) rfl
theorem tw3_168 : Cond.fieldLink "java/lang/String" 15 "java/lang/String" "coder" "B" ∈ lw_ok := lw_3 (List.mem_of_getElem? (i := 168) rfl) rfl
theorem ts_0 : Cond.selects "FusedEngine" ⟨"FusedEngine", "beginBoth", "()V"⟩ ⟨"FusedEngine", "beginBoth", "()V"⟩ ∈ lw_ok := lw_0 (List.mem_of_getElem? (i := 0) rfl) rfl
theorem ts_1 : Cond.selects "FusedEngine$Program" ⟨"FusedEngine$Program", "longestRowAt", "(I)I"⟩ ⟨"FusedEngine$Program", "longestRowAt", "(I)I"⟩ ∈ lw_ok := lw_0 (List.mem_of_getElem? (i := 1) rfl) rfl
theorem ts_2 : Cond.selects "FusedEngine$Program" ⟨"FusedEngine$Program", "isRowAt", "(III)Z"⟩ ⟨"FusedEngine$Program", "isRowAt", "(III)Z"⟩ ∈ lw_ok := lw_0 (List.mem_of_getElem? (i := 2) rfl) rfl
theorem ts_3 : Cond.selects "FusedEngine" ⟨"FusedEngine", "machineOf", "(Z)LFusedEngine$Machine;"⟩ ⟨"FusedEngine", "machineOf", "(Z)LFusedEngine$Machine;"⟩ ∈ lw_ok := lw_0 (List.mem_of_getElem? (i := 3) rfl) rfl
theorem ts_4 : Cond.selects "java/lang/Throwable" ⟨"java/lang/Throwable", "fillInStackTrace", "(I)Ljava/lang/Throwable;"⟩ ⟨"java/lang/Throwable", "fillInStackTrace", "(I)Ljava/lang/Throwable;"⟩ ∈ lw_ok := lw_0 (List.mem_of_getElem? (i := 4) rfl) rfl
theorem ts_5 : Cond.selects "FusedEngine$Program" ⟨"FusedEngine$Program", "findTargets", "()V"⟩ ⟨"FusedEngine$Program", "findTargets", "()V"⟩ ∈ lw_ok := lw_0 (List.mem_of_getElem? (i := 5) rfl) rfl
theorem ts_6 : Cond.selects "FusedEngine$Program" ⟨"FusedEngine$Program", "markTarget", "(I)V"⟩ ⟨"FusedEngine$Program", "markTarget", "(I)V"⟩ ∈ lw_ok := lw_0 (List.mem_of_getElem? (i := 6) rfl) rfl
theorem ts_7 : Cond.selects "FusedEngine$Machine" ⟨"FusedEngine$Machine", "doRow", "(LFusedEngine$Program;I)V"⟩ ⟨"FusedEngine$Machine", "doRow", "(LFusedEngine$Program;I)V"⟩ ∈ lw_ok := lw_0 (List.mem_of_getElem? (i := 7) rfl) rfl
theorem ts_8 : Cond.selects "FusedEngine$Machine" ⟨"FusedEngine$Machine", "trapOf", "(I)I"⟩ ⟨"FusedEngine$Machine", "trapOf", "(I)I"⟩ ∈ lw_ok := lw_0 (List.mem_of_getElem? (i := 8) rfl) rfl
theorem ts_9 : Cond.selects "FusedEngine$Machine" ⟨"FusedEngine$Machine", "act", "(II)V"⟩ ⟨"FusedEngine$Machine", "act", "(II)V"⟩ ∈ lw_ok := lw_0 (List.mem_of_getElem? (i := 9) rfl) rfl
theorem ts_10 : Cond.selects "FusedEngine$Machine" ⟨"FusedEngine$Machine", "push", "(I)V"⟩ ⟨"FusedEngine$Machine", "push", "(I)V"⟩ ∈ lw_ok := lw_0 (List.mem_of_getElem? (i := 10) rfl) rfl
theorem ts_11 : Cond.selects "FusedEngine$Machine" ⟨"FusedEngine$Machine", "pop", "()I"⟩ ⟨"FusedEngine$Machine", "pop", "()I"⟩ ∈ lw_ok := lw_0 (List.mem_of_getElem? (i := 11) rfl) rfl
theorem ts_12 : Cond.selects "FusedEngine$Machine" ⟨"FusedEngine$Machine", "exchange", "()V"⟩ ⟨"FusedEngine$Machine", "exchange", "()V"⟩ ∈ lw_ok := lw_0 (List.mem_of_getElem? (i := 12) rfl) rfl
theorem ts_13 : Cond.selects "FusedEngine$Machine" ⟨"FusedEngine$Machine", "putOut", "(I)V"⟩ ⟨"FusedEngine$Machine", "putOut", "(I)V"⟩ ∈ lw_ok := lw_0 (List.mem_of_getElem? (i := 13) rfl) rfl
theorem ts_14 : Cond.selects "FusedEngine$Machine" ⟨"FusedEngine$Machine", "combine", "(I)V"⟩ ⟨"FusedEngine$Machine", "combine", "(I)V"⟩ ∈ lw_ok := lw_0 (List.mem_of_getElem? (i := 14) rfl) rfl
theorem ts_15 : Cond.selects "FusedEngineModel" ⟨"FusedEngineModel", "set", "(III)V"⟩ ⟨"FusedEngineModel", "set", "(III)V"⟩ ∈ lw_ok := lw_0 (List.mem_of_getElem? (i := 15) rfl) rfl
theorem ts_16 : Cond.selects "FusedEngineModel" ⟨"FusedEngineModel", "begin", "()V"⟩ ⟨"FusedEngineModel", "begin", "()V"⟩ ∈ lw_ok := lw_0 (List.mem_of_getElem? (i := 16) rfl) rfl
theorem ts_17 : Cond.selects "FusedEngineModel" ⟨"FusedEngineModel", "rowAt", "(I)I"⟩ ⟨"FusedEngineModel", "rowAt", "(I)I"⟩ ∈ lw_ok := lw_0 (List.mem_of_getElem? (i := 17) rfl) rfl
theorem ts_18 : Cond.selects "FusedEngineModel" ⟨"FusedEngineModel", "alike", "(II)I"⟩ ⟨"FusedEngineModel", "alike", "(II)I"⟩ ∈ lw_ok := lw_0 (List.mem_of_getElem? (i := 18) rfl) rfl
theorem ts_19 : Cond.selects "FusedEngineModel" ⟨"FusedEngineModel", "target", "(I)Z"⟩ ⟨"FusedEngineModel", "target", "(I)Z"⟩ ∈ lw_ok := lw_0 (List.mem_of_getElem? (i := 19) rfl) rfl
theorem ts_20 : Cond.selects "FusedEngineModel" ⟨"FusedEngineModel", "lengthOf", "(I)I"⟩ ⟨"FusedEngineModel", "lengthOf", "(I)I"⟩ ∈ lw_ok := lw_0 (List.mem_of_getElem? (i := 20) rfl) rfl
theorem ts_21 : Cond.selects "FusedEngineModel" ⟨"FusedEngineModel", "refuse", "(I)I"⟩ ⟨"FusedEngineModel", "refuse", "(I)I"⟩ ∈ lw_ok := lw_0 (List.mem_of_getElem? (i := 21) rfl) rfl
theorem ts_22 : Cond.selects "FusedEngineModel" ⟨"FusedEngineModel", "act", "(I)Z"⟩ ⟨"FusedEngineModel", "act", "(I)Z"⟩ ∈ lw_ok := lw_0 (List.mem_of_getElem? (i := 22) rfl) rfl
theorem ts_23 : Cond.selects "FusedEngineModel" ⟨"FusedEngineModel", "trap", "(II)I"⟩ ⟨"FusedEngineModel", "trap", "(II)I"⟩ ∈ lw_ok := lw_0 (List.mem_of_getElem? (i := 23) rfl) rfl
theorem ts_24 : Cond.selects "FusedEngineModel" ⟨"FusedEngineModel", "takes", "(I)I"⟩ ⟨"FusedEngineModel", "takes", "(I)I"⟩ ∈ lw_ok := lw_0 (List.mem_of_getElem? (i := 24) rfl) rfl
theorem ts_25 : Cond.selects "FusedEngineModel" ⟨"FusedEngineModel", "work", "(III)V"⟩ ⟨"FusedEngineModel", "work", "(III)V"⟩ ∈ lw_ok := lw_0 (List.mem_of_getElem? (i := 25) rfl) rfl
theorem ts_26 : Cond.selects "FusedEngineModel" ⟨"FusedEngineModel", "pop", "(I)I"⟩ ⟨"FusedEngineModel", "pop", "(I)I"⟩ ∈ lw_ok := lw_0 (List.mem_of_getElem? (i := 26) rfl) rfl
theorem ts_27 : Cond.selects "FusedEngineModel" ⟨"FusedEngineModel", "push", "(II)V"⟩ ⟨"FusedEngineModel", "push", "(II)V"⟩ ∈ lw_ok := lw_0 (List.mem_of_getElem? (i := 27) rfl) rfl
theorem ts_28 : Cond.selects "FusedEngineModel" ⟨"FusedEngineModel", "say", "(II)V"⟩ ⟨"FusedEngineModel", "say", "(II)V"⟩ ∈ lw_ok := lw_0 (List.mem_of_getElem? (i := 28) rfl) rfl
theorem ts_29 : Cond.selects "FusedEngineModel" ⟨"FusedEngineModel", "next", "(III)I"⟩ ⟨"FusedEngineModel", "next", "(III)I"⟩ ∈ lw_ok := lw_0 (List.mem_of_getElem? (i := 29) rfl) rfl
abbrev R_Eng : String := "FusedEngine"
def F_Eng : u_T := fun k => match k with
  | 0 => ("FusedEngine", "program", "LFusedEngine$Program;", true)
  | 1 => ("FusedEngine", "plainMachine", "LFusedEngine$Machine;", true)
  | _ => ("FusedEngine", "fusedMachine", "LFusedEngine$Machine;", true)
def t_Eng : Nat → FieldType := fun k => match k with
  | 0 => .object "FusedEngine$Program"
  | 1 => .object "FusedEngine$Machine"
  | _ => .object "FusedEngine$Machine"
theorem n_Eng : ∀ a, a < 3 → ∀ b, b < 3 → a ≠ b → (F_Eng a).2.1 ≠ (F_Eng b).2.1 := by decide +kernel
theorem t_Eng_ok : ∀ k, k < 3 → parseFieldDescriptor (F_Eng k).2.2.1 = some (t_Eng k) := by decide +kernel
theorem in_Eng : ∀ w ∈ u_ws R_Eng F_Eng 3, w ∈ lw_ok := by
  intro w hw
  have h : w ∈ ([Cond.laysFinal "FusedEngine" "FusedEngine" "program" "LFusedEngine$Program;", Cond.laysFinal "FusedEngine" "FusedEngine" "plainMachine" "LFusedEngine$Machine;", Cond.laysFinal "FusedEngine" "FusedEngine" "fusedMachine" "LFusedEngine$Machine;"] : List Cond) := hw
  simp only [List.mem_cons, List.not_mem_nil, or_false] at h
  rcases h with rfl | rfl | rfl
  · exact tw1_105
  · exact tw1_107
  · exact tw1_109
abbrev R_Mac : String := "FusedEngine$Machine"
def F_Mac : u_T := fun k => match k with
  | 0 => ("FusedEngine$Machine", "values", "[I", true)
  | 1 => ("FusedEngine$Machine", "locals", "[I", true)
  | 2 => ("FusedEngine$Machine", "outputs", "[I", true)
  | 3 => ("FusedEngine$Machine", "returns", "[I", true)
  | 4 => ("FusedEngine$Machine", "height", "I", false)
  | 5 => ("FusedEngine$Machine", "returnCount", "I", false)
  | 6 => ("FusedEngine$Machine", "outputCount", "I", false)
  | 7 => ("FusedEngine$Machine", "place", "I", false)
  | 8 => ("FusedEngine$Machine", "state", "I", false)
  | _ => ("FusedEngine$Machine", "done", "I", false)
def t_Mac : Nat → FieldType := fun k => match k with
  | 0 => .array .int
  | 1 => .array .int
  | 2 => .array .int
  | 3 => .array .int
  | 4 => .int
  | 5 => .int
  | 6 => .int
  | 7 => .int
  | 8 => .int
  | _ => .int
theorem n_Mac : ∀ a, a < 10 → ∀ b, b < 10 → a ≠ b → (F_Mac a).2.1 ≠ (F_Mac b).2.1 := by decide +kernel
theorem t_Mac_ok : ∀ k, k < 10 → parseFieldDescriptor (F_Mac k).2.2.1 = some (t_Mac k) := by decide +kernel
theorem in_Mac : ∀ w ∈ u_ws R_Mac F_Mac 10, w ∈ lw_ok := by
  intro w hw
  have h : w ∈ ([Cond.laysFinal "FusedEngine$Machine" "FusedEngine$Machine" "values" "[I", Cond.laysFinal "FusedEngine$Machine" "FusedEngine$Machine" "locals" "[I", Cond.laysFinal "FusedEngine$Machine" "FusedEngine$Machine" "outputs" "[I", Cond.laysFinal "FusedEngine$Machine" "FusedEngine$Machine" "returns" "[I", Cond.lays "FusedEngine$Machine" "FusedEngine$Machine" "height" "I", Cond.lays "FusedEngine$Machine" "FusedEngine$Machine" "returnCount" "I", Cond.lays "FusedEngine$Machine" "FusedEngine$Machine" "outputCount" "I", Cond.lays "FusedEngine$Machine" "FusedEngine$Machine" "place" "I", Cond.lays "FusedEngine$Machine" "FusedEngine$Machine" "state" "I", Cond.lays "FusedEngine$Machine" "FusedEngine$Machine" "done" "I"] : List Cond) := hw
  simp only [List.mem_cons, List.not_mem_nil, or_false] at h
  rcases h with rfl | rfl | rfl | rfl | rfl | rfl | rfl | rfl | rfl | rfl
  · exact tw1_81
  · exact tw1_83
  · exact tw1_85
  · exact tw1_87
  · exact tw1_89
  · exact tw1_91
  · exact tw1_93
  · exact tw1_95
  · exact tw1_97
  · exact tw1_99
abbrev R_Prg : String := "FusedEngine$Program"
def F_Prg : u_T := fun k => match k with
  | 0 => ("FusedEngine$Program", "letters", "[I", true)
  | 1 => ("FusedEngine$Program", "numbers", "[I", true)
  | 2 => ("FusedEngine$Program", "targets", "[Z", true)
  | 3 => ("FusedEngine$Program", "rows", "[I", true)
  | 4 => ("FusedEngine$Program", "lengths", "[I", true)
  | 5 => ("FusedEngine$Program", "size", "I", false)
  | _ => ("FusedEngine$Program", "isFused", "Z", false)
def t_Prg : Nat → FieldType := fun k => match k with
  | 0 => .array .int
  | 1 => .array .int
  | 2 => .array .boolean
  | 3 => .array .int
  | 4 => .array .int
  | 5 => .int
  | _ => .boolean
theorem n_Prg : ∀ a, a < 7 → ∀ b, b < 7 → a ≠ b → (F_Prg a).2.1 ≠ (F_Prg b).2.1 := by decide +kernel
theorem t_Prg_ok : ∀ k, k < 7 → parseFieldDescriptor (F_Prg k).2.2.1 = some (t_Prg k) := by decide +kernel
theorem in_Prg : ∀ w ∈ u_ws R_Prg F_Prg 7, w ∈ lw_ok := by
  intro w hw
  have h : w ∈ ([Cond.laysFinal "FusedEngine$Program" "FusedEngine$Program" "letters" "[I", Cond.laysFinal "FusedEngine$Program" "FusedEngine$Program" "numbers" "[I", Cond.laysFinal "FusedEngine$Program" "FusedEngine$Program" "targets" "[Z", Cond.laysFinal "FusedEngine$Program" "FusedEngine$Program" "rows" "[I", Cond.laysFinal "FusedEngine$Program" "FusedEngine$Program" "lengths" "[I", Cond.lays "FusedEngine$Program" "FusedEngine$Program" "size" "I", Cond.lays "FusedEngine$Program" "FusedEngine$Program" "isFused" "Z"] : List Cond) := hw
  simp only [List.mem_cons, List.not_mem_nil, or_false] at h
  rcases h with rfl | rfl | rfl | rfl | rfl | rfl | rfl
  · exact tw1_44
  · exact tw1_46
  · exact tw1_48
  · exact tw1_50
  · exact tw1_52
  · exact tw1_54
  · exact tw1_56
abbrev R_Mod : String := "FusedEngineModel"
def F_Mod : u_T := fun k => match k with
  | 0 => ("FusedEngineModel", "code", "I", false)
  | 1 => ("FusedEngineModel", "size", "I", false)
  | 2 => ("FusedEngineModel", "letter", "[C", true)
  | 3 => ("FusedEngineModel", "number", "[I", true)
  | 4 => ("FusedEngineModel", "fused", "Z", false)
  | 5 => ("FusedEngineModel", "fusedTo", "[I", true)
  | 6 => ("FusedEngineModel", "rows", "[C", true)
  | 7 => ("FusedEngineModel", "place", "[I", true)
  | 8 => ("FusedEngineModel", "high", "[I", true)
  | 9 => ("FusedEngineModel", "depth", "[I", true)
  | 10 => ("FusedEngineModel", "put", "[I", true)
  | 11 => ("FusedEngineModel", "state", "[I", true)
  | 12 => ("FusedEngineModel", "done", "[I", true)
  | 13 => ("FusedEngineModel", "stack", "[I", true)
  | 14 => ("FusedEngineModel", "local", "[I", true)
  | 15 => ("FusedEngineModel", "back", "[I", true)
  | _ => ("FusedEngineModel", "outs", "[I", true)
def t_Mod : Nat → FieldType := fun k => match k with
  | 0 => .int
  | 1 => .int
  | 2 => .array .char
  | 3 => .array .int
  | 4 => .boolean
  | 5 => .array .int
  | 6 => .array .char
  | 7 => .array .int
  | 8 => .array .int
  | 9 => .array .int
  | 10 => .array .int
  | 11 => .array .int
  | 12 => .array .int
  | 13 => .array .int
  | 14 => .array .int
  | 15 => .array .int
  | _ => .array .int
theorem n_Mod : ∀ a, a < 17 → ∀ b, b < 17 → a ≠ b → (F_Mod a).2.1 ≠ (F_Mod b).2.1 := by decide +kernel
theorem t_Mod_ok : ∀ k, k < 17 → parseFieldDescriptor (F_Mod k).2.2.1 = some (t_Mod k) := by decide +kernel
theorem in_Mod : ∀ w ∈ u_ws R_Mod F_Mod 17, w ∈ lw_ok := by
  intro w hw
  have h : w ∈ ([Cond.lays "FusedEngineModel" "FusedEngineModel" "code" "I", Cond.lays "FusedEngineModel" "FusedEngineModel" "size" "I", Cond.laysFinal "FusedEngineModel" "FusedEngineModel" "letter" "[C", Cond.laysFinal "FusedEngineModel" "FusedEngineModel" "number" "[I", Cond.lays "FusedEngineModel" "FusedEngineModel" "fused" "Z", Cond.laysFinal "FusedEngineModel" "FusedEngineModel" "fusedTo" "[I", Cond.laysFinal "FusedEngineModel" "FusedEngineModel" "rows" "[C", Cond.laysFinal "FusedEngineModel" "FusedEngineModel" "place" "[I", Cond.laysFinal "FusedEngineModel" "FusedEngineModel" "high" "[I", Cond.laysFinal "FusedEngineModel" "FusedEngineModel" "depth" "[I", Cond.laysFinal "FusedEngineModel" "FusedEngineModel" "put" "[I", Cond.laysFinal "FusedEngineModel" "FusedEngineModel" "state" "[I", Cond.laysFinal "FusedEngineModel" "FusedEngineModel" "done" "[I", Cond.laysFinal "FusedEngineModel" "FusedEngineModel" "stack" "[I", Cond.laysFinal "FusedEngineModel" "FusedEngineModel" "local" "[I", Cond.laysFinal "FusedEngineModel" "FusedEngineModel" "back" "[I", Cond.laysFinal "FusedEngineModel" "FusedEngineModel" "outs" "[I"] : List Cond) := hw
  simp only [List.mem_cons, List.not_mem_nil, or_false] at h
  rcases h with rfl | rfl | rfl | rfl | rfl | rfl | rfl | rfl | rfl | rfl | rfl | rfl | rfl | rfl | rfl | rfl | rfl
  · exact tw3_3
  · exact tw3_5
  · exact tw3_7
  · exact tw3_9
  · exact tw3_11
  · exact tw3_13
  · exact tw3_15
  · exact tw3_17
  · exact tw3_19
  · exact tw3_21
  · exact tw3_23
  · exact tw3_25
  · exact tw3_27
  · exact tw3_29
  · exact tw3_31
  · exact tw3_33
  · exact tw3_35
/-- the classes whose objects the worlds hold: an object names its class by its place here -/
abbrev classes : List vw_C := [(R_Eng, F_Eng, 3), (R_Mac, F_Mac, 10), (R_Prg, F_Prg, 7), (R_Mod, F_Mod, 17)]
end
section
/-! BASE: contracts of two kinds (a method that only answers; a method that turns given cells), and the rows that call them. lw_ok (part 01) is the list of the tables' words that every contract carries. -/
/-- a fact of the tables alone -/
def kXm (X : State → Prop) : Prop := ∀ u U : State, u.WarmedH U.vm → X u → X U
abbrev kRm (fr lo : Nat) : Room := { frames := fr, cells := 0, slots := 0, locals := lo }
abbrev kWs (y : MethodName) (b : ByteArray) (n : Nat) (ret : Option FieldType) : List Cond := Cond.code y b n ret :: lw_ok
abbrev kPc (As : List Value) (H : Heap) (X : State → Prop) : Array Value → State → Prop := va_Pc As (fun U => U.heap = H ∧ X U)
/-- the end of a method that answers r and changes nothing -/
abbrev kQp (H : Heap) (r : Int32) : Array Value → State → Outcome → State → Prop := va_Qi (fun z (_ : Unit) => z = r) (fun _ t => t.heap = H) (fun _ => False)
/-- the end of a method that turns the cells w (at the heap H) into w1, void, or with the answer r -/
abbrev kQv (D : va_G) (H : Heap) (w w1 : va_W) : Array Value → State → Outcome → State → Prop := va_Qv (fun _ : Unit => True) (fun _ t => va_P D classes w1 t.heap ∧ va_D (va_A w H.size) w1) (va_A w H.size)
abbrev kQi (D : va_G) (H : Heap) (w w1 : va_W) (r : Int32) : Array Value → State → Outcome → State → Prop := va_Qi (fun z (_ : Unit) => z = r) (fun _ t => va_P D classes w1 t.heap ∧ va_D (va_A w H.size) w1) (va_A w H.size)
def kPu (l : Launch) (y : MethodName) (b : ByteArray) (n : Nat) (ret : Option FieldType) (fr lo : Nat) (As : List Value) (H : Heap) (X : State → Prop) (r : Int32) : Prop :=
  Met l y (kWs y b n ret) (kRm fr lo) (kPc As H X) (kQp H r) 0 0 (fun _ => False)
def kMv (l : Launch) (y : MethodName) (b : ByteArray) (n : Nat) (fr lo : Nat) (As : List Value) (H : Heap) (X : State → Prop) (D : va_G) (w w1 : va_W) : Prop :=
  Met l y (kWs y b n none) (kRm fr lo) (kPc As H X) (kQv D H w w1) 0 0 (va_A w H.size)
def kMi (l : Launch) (y : MethodName) (b : ByteArray) (n : Nat) (ret : Option FieldType) (fr lo : Nat) (As : List Value) (H : Heap) (X : State → Prop) (D : va_G) (w w1 : va_W) (r : Int32) : Prop :=
  Met l y (kWs y b n ret) (kRm fr lo) (kPc As H X) (kQi D H w w1 r) 0 0 (va_A w H.size)
/-- the words of a call site: the callee's code, its class, the link -/
def kWd (y : MethodName) (b : ByteArray) (n : Nat) (ret : Option FieldType) (own : String) (index k : Nat) : Prop :=
  Cond.code y b n ret ∈ lw_ok ∧ Cond.initialized y.cls ∈ lw_ok ∧ (y.cls ≠ "java/lang/invoke/MethodHandle" ∧ y.cls ≠ "java/lang/invoke/VarHandle") ∧ (parseMethodDescriptor y.desc).map (fun d => d.parameters.length) = some k ∧ Cond.methodLink own index y ∈ lw_ok
theorem kx_and {X Y : State → Prop} (h1 : kXm X) (h2 : kXm Y) : kXm (fun U => X U ∧ Y U) := fun u U hv h => ⟨h1 u U hv h.1, h2 u U hv h.2⟩
theorem kx_K {D : va_G} {cl : List vw_C} {tys : List (ClassId × FieldType)} : kXm (va_K D cl tys) := fun _ _ hv h => va_K.moved hv.alike h
theorem k_blind {As : List Value} {H : Heap} {X : State → Prop} (hm : kXm X) : FrameBlind (kPc As H X) := fun a U g mk q => by
  obtain ⟨q0, q1, q2⟩ := q
  exact ⟨q0, q1, hm U (U.calling g mk a) (State.WarmedH.refl U) q2⟩
section KB
variable {p : Program} {l : Launch} {e : Env} {R : Room} {s : State} {m : MethodId} {args : Array Value} {below : List Frame} {meth : Method} {c : Code} {H H0 : Heap} {locs : List Loc} {cells slots : Nat} {Q : State → Prop} {cc : ByteArray} {pc : Nat} {ls : Array Slot} {rest st : List Value} {own : String} {nL : Nat} {A0 : Nat → Prop}
theorem k_words (hT : ∀ w ∈ lw_ok, w.before args s = true) {y : MethodName} {b : ByteArray} {n : Nat} {ret : Option FieldType} (hc : Cond.code y b n ret ∈ lw_ok) : ∀ w ∈ kWs y b n ret, ∀ (a' : Array Value) (U : State), s.WarmedH U.vm → w.before a' U = true := by
  intro w hw a' U hW
  have hw' : w ∈ lw_ok := by
    rcases List.mem_cons.mp hw with h | h
    · rw [h]; exact hc
    · exact h
  exact word_at hW (good_of_word (lw_good w hw')) (hT w hw')
theorem k_len {y : MethodName} {k : Nat} (h : (parseMethodDescriptor y.desc).map (fun d => d.parameters.length) = some k) : ∀ sig, parseMethodDescriptor y.desc = some sig → k = sig.parameters.length := by
  intro sig hs
  rw [hs] at h
  exact (Option.some.inj h).symm
theorem k_B (hT : ∀ w ∈ lw_ok, w.before args s = true) {y : MethodName} {b : ByteArray} {n : Nat} {ret : Option FieldType} {index k fr lo : Nat} (hw : kWd y b n ret own index k) (hR : fr + 1 ≤ R.frames ∧ 8 + (n + 11) + lo ≤ R.locals) :
    CallB R s args own index y b n ret (kWs y b n ret) (kRm fr lo) 0 0 k := by
  obtain ⟨h1, h2, h3, h4, h5⟩ := hw
  exact ⟨rfl, rfl, hR.1, hR.2, k_words hT h1, List.mem_cons_self, hT _ h1, hT _ h2, h3, k_len h4, hT _ h5⟩
/-- invokestatic of a method that only answers -/
theorem kp_S (F : CallFix p m c cc nL s args lw_ok own) {y : MethodName} {b : ByteArray} {n : Nat} {ret : Option FieldType} {fr lo index k : Nat} {As : List Value} {X : State → Prop} {r : Int32} (hM : kPu l y b n ret fr lo As H X r) (hm : kXm X) (hX : X s) (hw : kWd y b n ret own index k) (hst : Cond.static y ∈ lw_ok) (hS : va_S A0 H0 H locs)
    (hd : decode cc pc = .ok (.invokestatic index, 3)) (hR : (fr + 1 ≤ R.frames ∧ 8 + (n + 11) + lo ≤ R.locals) ∧ cells ≤ R.cells ∧ slots ≤ R.slots) (hk : As.length = k) (hz : ls.size = nL) (hs : st = As.reverse ++ rest) (hr : (rest.map fun v => v.category).sum ≤ 8)
    (kk : ∀ locs1 : List Loc, va_S A0 H0 H locs1 → W p l e R s m args below meth c H locs1 cells slots Q (F0 m (pc + 3) ls (.int r :: rest))) : W p l e R s m args below meth c H locs cells slots Q (F0 m pc ls st) := by
  subst hs
  refine va_calli (va_runS F hM ⟨k_B F.2.2.2.2 hw hR.1, F.2.2.2.2 _ hst⟩ ⟨k_blind hm, fun U hU hW => ⟨rfl, hU, hm _ _ hW hX⟩⟩ rfl hk hz rfl (lv_room hr) hd hR.2) hS (fun q _ h => h.elim) (fun q h => h.elim) (fun z u t H1 locs1 ht hvm hp hB hz1 hk1 hS1 => ?_)
  have e1 : H1 = H := by rw [← ht]; exact hB
  subst hp
  subst e1
  exact kk locs1 hS1
/-- invokevirtual of a method that only answers -/
theorem kp_V (F : CallFix p m c cc nL s args lw_ok own) {y : MethodName} {b : ByteArray} {n : Nat} {ret : Option FieldType} {fr lo index k : Nat} {C : String} {o : Nat} {As : List Value} {X : State → Prop} {r : Int32} (hM : kPu l y b n ret fr lo (.ref o :: As) H X r) (hm : kXm X) (hX : X s) (hw : kWd y b n ret own index k) (hin : Cond.instanceMethod y ∈ lw_ok) (hse : Cond.selects C y y ∈ lw_ok)
    (ho : ∃ cell : Cell, H[o]? = some cell ∧ cell.vm.isStatics = false ∧ s.vm.findClass C = some cell.cls) (hS : va_S A0 H0 H locs)
    (hd : decode cc pc = .ok (.invokevirtual index, 3)) (hR : (fr + 1 ≤ R.frames ∧ 8 + (n + 11) + lo ≤ R.locals) ∧ cells ≤ R.cells ∧ slots ≤ R.slots) (hk : As.length = k) (hz : ls.size = nL) (hs : st = As.reverse ++ .ref o :: rest) (hr : (rest.map fun v => v.category).sum ≤ 8)
    (kk : ∀ locs1 : List Loc, va_S A0 H0 H locs1 → W p l e R s m args below meth c H locs1 cells slots Q (F0 m (pc + 3) ls (.int r :: rest))) : W p l e R s m args below meth c H locs cells slots Q (F0 m pc ls st) := by
  subst hs
  refine va_calli (va_runV F hM ⟨k_B F.2.2.2.2 hw hR.1, F.2.2.2.2 _ hin, F.2.2.2.2 _ hse⟩ ⟨k_blind hm, ho, fun U hU hW => ⟨rfl, hU, hm _ _ hW hX⟩⟩ rfl hk hz rfl (lv_room hr) hd hR.2) hS (fun q _ h => h.elim) (fun q h => h.elim) (fun z u t H1 locs1 ht hvm hp hB hz1 hk1 hS1 => ?_)
  have e1 : H1 = H := by rw [← ht]; exact hB
  subst hp
  subst e1
  exact kk locs1 hS1
/-- invokevirtual of a void method that turns the cells w (of ws: at isC; the rest of ws, at isR, is wr) into w1 -/
theorem km_Vv (F : CallFix p m c cc nL s args lw_ok own) {y : MethodName} {b : ByteArray} {n : Nat} {fr lo index k : Nat} {C : String} {o : Nat} {As : List Value} {X : State → Prop} {D : va_G} {ws w wr w1 : va_W} (hM : kMv l y b n fr lo (.ref o :: As) H X D w w1) (hm : kXm X) (hX : X s) (hw : kWd y b n none own index k) (hin : Cond.instanceMethod y ∈ lw_ok) (hse : Cond.selects C y y ∈ lw_ok)
    (ho : ∃ cell : Cell, H[o]? = some cell ∧ cell.vm.isStatics = false ∧ s.vm.findClass C = some cell.cls) (hP : va_P D classes ws H) (hD : va_D A0 ws) (hS : va_S A0 H0 H locs) (hA : ∀ q, H0.size ≤ q → A0 q)
    (isC isR : List Nat) (hC : isC.map (fun i => ws[i]?) = w.map some) (hRr : isR.map (fun i => ws[i]?) = wr.map some) (hn : va_nd isR = true) (hdis : ∀ i ∈ isR, i ∉ isC)
    (hd : decode cc pc = .ok (.invokevirtual index, 3)) (hR : (fr + 1 ≤ R.frames ∧ 8 + (n + 11) + lo ≤ R.locals) ∧ cells ≤ R.cells ∧ slots ≤ R.slots) (hk : As.length = k) (hz : ls.size = nL) (hs : st = As.reverse ++ .ref o :: rest) (hr : (rest.map fun v => v.category).sum ≤ 8)
    (kk : ∀ (H1 : Heap) (locs1 : List Loc), va_P D classes (wr ++ w1) H1 → va_D A0 (wr ++ w1) → va_S A0 H0 H1 locs1 → W p l e R s m args below meth c H1 locs1 cells slots Q (F0 m (pc + 3) ls rest)) : W p l e R s m args below meth c H locs cells slots Q (F0 m pc ls st) := by
  subst hs
  have hF := va_free (wc := w) hD hS hA isC hC
  refine va_callv (va_runV F hM ⟨k_B F.2.2.2.2 hw hR.1, F.2.2.2.2 _ hin, F.2.2.2.2 _ hse⟩ ⟨k_blind hm, ho, fun U hU hW => ⟨rfl, hU, hm _ _ hW hX⟩⟩ rfl hk hz rfl (lv_room hr) hd hR.2) hS (fun q _ h => hF q h) hF (fun u t H1 locs1 ht hvm hp hB hz1 hk1 hS1 => ?_)
  obtain ⟨hP1, hD1⟩ := hB
  rw [ht] at hP1
  obtain ⟨hP2, hD2⟩ := va_join hP hD isC isR hC hRr hn hdis hk1 hF hP1 hD1
  exact kk H1 locs1 hP2 hD2 hS1
/-- the same, with an int's answer -/
theorem km_Vi (F : CallFix p m c cc nL s args lw_ok own) {y : MethodName} {b : ByteArray} {n : Nat} {ret : Option FieldType} {fr lo index k : Nat} {C : String} {o : Nat} {As : List Value} {X : State → Prop} {D : va_G} {ws w wr w1 : va_W} {r : Int32} (hM : kMi l y b n ret fr lo (.ref o :: As) H X D w w1 r) (hm : kXm X) (hX : X s) (hw : kWd y b n ret own index k) (hin : Cond.instanceMethod y ∈ lw_ok) (hse : Cond.selects C y y ∈ lw_ok)
    (ho : ∃ cell : Cell, H[o]? = some cell ∧ cell.vm.isStatics = false ∧ s.vm.findClass C = some cell.cls) (hP : va_P D classes ws H) (hD : va_D A0 ws) (hS : va_S A0 H0 H locs) (hA : ∀ q, H0.size ≤ q → A0 q)
    (isC isR : List Nat) (hC : isC.map (fun i => ws[i]?) = w.map some) (hRr : isR.map (fun i => ws[i]?) = wr.map some) (hn : va_nd isR = true) (hdis : ∀ i ∈ isR, i ∉ isC)
    (hd : decode cc pc = .ok (.invokevirtual index, 3)) (hR : (fr + 1 ≤ R.frames ∧ 8 + (n + 11) + lo ≤ R.locals) ∧ cells ≤ R.cells ∧ slots ≤ R.slots) (hk : As.length = k) (hz : ls.size = nL) (hs : st = As.reverse ++ .ref o :: rest) (hr : (rest.map fun v => v.category).sum ≤ 8)
    (kk : ∀ (H1 : Heap) (locs1 : List Loc), va_P D classes (wr ++ w1) H1 → va_D A0 (wr ++ w1) → va_S A0 H0 H1 locs1 → W p l e R s m args below meth c H1 locs1 cells slots Q (F0 m (pc + 3) ls (.int r :: rest))) : W p l e R s m args below meth c H locs cells slots Q (F0 m pc ls st) := by
  subst hs
  have hF := va_free (wc := w) hD hS hA isC hC
  refine va_calli (va_runV F hM ⟨k_B F.2.2.2.2 hw hR.1, F.2.2.2.2 _ hin, F.2.2.2.2 _ hse⟩ ⟨k_blind hm, ho, fun U hU hW => ⟨rfl, hU, hm _ _ hW hX⟩⟩ rfl hk hz rfl (lv_room hr) hd hR.2) hS (fun q _ h => hF q h) hF (fun z u t H1 locs1 ht hvm hp hB hz1 hk1 hS1 => ?_)
  obtain ⟨hP1, hD1⟩ := hB
  rw [ht] at hP1
  obtain ⟨hP2, hD2⟩ := va_join hP hD isC isR hC hRr hn hdis hk1 hF hP1 hD1
  subst hp
  exact kk H1 locs1 hP2 hD2 hS1
/-- the end of a method that only answers -/
theorem kp_i {r v : Int32} (F : CallFix p m c cc nL s args lw_ok own) (hlocks : meth.locks = false) (hr : meth.sig.returnType = some .int) (hS : va_S (fun _ => False) s.heap s.heap locs) (hd : decode cc pc = .ok (.ireturn, 1)) (hv : v = r) :
    W p l e R s m args below meth c s.heap locs 0 0 (MQ below (kQp s.heap r) args s 0 0 (fun _ => False)) (F0 m pc ls [.int v]) :=
  W.iret F.1 F.2.1 hr (fun t ht hW => ⟨⟨v, (), rfl, hv, ht⟩, hS.F ht⟩) hS.2.2 hd hlocks
theorem kp_z {r v : Int32} {ty : FieldType} (F : CallFix p m c cc nL s args lw_ok own) (hlocks : meth.locks = false) (hr : meth.sig.returnType = some ty) (hS : va_S (fun _ => False) s.heap s.heap locs) (hd : decode cc pc = .ok (.ireturn, 1)) (hn : narrow ty (.int v) = .int v) (hv : v = r) :
    W p l e R s m args below meth c s.heap locs 0 0 (MQ below (kQp s.heap r) args s 0 0 (fun _ => False)) (F0 m pc ls [.int v]) :=
  W.zret F.1 F.2.1 hr hn (fun t ht hW => ⟨⟨v, (), rfl, hv, ht⟩, hS.F ht⟩) hS.2.2 hd hlocks
/-- the ends of a method that turns cells -/
theorem km_v {D : va_G} {w w1 w2 : va_W} (F : CallFix p m c cc nL s args lw_ok own) (hlocks : meth.locks = false) (hr : meth.sig.returnType = none) (hP : va_P D classes w2 H) (hD : va_D (va_A w s.heap.size) w2) (hS : va_S (va_A w s.heap.size) s.heap H locs) (hd : decode cc pc = .ok (.return_, 1)) (hw : w2 = w1) :
    W p l e R s m args below meth c H locs 0 0 (MQ below (kQv D s.heap w w1) args s 0 0 (va_A w s.heap.size)) (F0 m pc ls []) := by
  subst hw
  exact W.vret F.1 F.2.1 hr (fun t ht hW => ⟨⟨(), rfl, trivial, by rw [ht]; exact hP, hD⟩, hS.F ht⟩) hS.2.2 hd hlocks
theorem km_i {D : va_G} {w w1 w2 : va_W} {r v : Int32} (F : CallFix p m c cc nL s args lw_ok own) (hlocks : meth.locks = false) (hr : meth.sig.returnType = some .int) (hP : va_P D classes w2 H) (hD : va_D (va_A w s.heap.size) w2) (hS : va_S (va_A w s.heap.size) s.heap H locs) (hd : decode cc pc = .ok (.ireturn, 1)) (hv : v = r) (hw : w2 = w1) :
    W p l e R s m args below meth c H locs 0 0 (MQ below (kQi D s.heap w w1 r) args s 0 0 (va_A w s.heap.size)) (F0 m pc ls [.int v]) := by
  subst hw
  exact W.iret F.1 F.2.1 hr (fun t ht hW => ⟨⟨v, (), rfl, hv, by rw [ht]; exact hP, hD⟩, hS.F ht⟩) hS.2.2 hd hlocks
end KB
/-- the entry of a method: what every walk begins with -/
theorem k_of {l : Launch} {y : MethodName} {b : ByteArray} {n : Nat} {ret : Option FieldType} {rm : Room} {As : List Value} {H : Heap} {X : State → Prop} {Qc : Array Value → State → Outcome → State → Prop} {mc ms : Nat} {free : Addr → Prop} (hy : plainName y.cls = true) (hn : (lg_sl As).length ≤ n)
    (body : ∀ (p : Program) (e : Env) (s : State) (m : MethodId) (below : List Frame) (meth : Method) (c : Code) (ls : Array Slot), CallFix p m c b n s As.toArray lw_ok y.cls → meth.locks = false → meth.sig.returnType = ret → (meth.name = y.name) → s.heap = H → X s → lv_has ls n (lv_args 0 As) →
      W p l e rm s m As.toArray below meth c s.heap [] 0 0 (MQ below Qc As.toArray s mc ms free) (F0 m 0 ls [])) : Met l y (kWs y b n ret) rm (kPc As H X) Qc mc ms free := by
  refine Met.ofW (cc := b) (maxL := n) (ret := ret) hy rfl ?_
  intro p e s m args below meth c s₁ B hml hv
  obtain ⟨rfl, hh, hX⟩ := hv
  have hts := atoms_spec (ws := kWs y b n ret) B.pre
  rw [lg_entry_eq]
  exact body p e s m below meth c _ ⟨B.exec, B.bytes, hml, findClass_of_methodNamed B.named, fun w hw => hts w (List.mem_cons_of_mem _ hw)⟩ B.notSynchronized B.returns (name_of_methodNamed B.named B.method).1 hh hX (lv_entry As hn)
end
section
/-! EXCEPTIONS: a method that throws a new object of the class cls and changes nothing that was there; a call of it by a method that catches it. -/
theorem tx_same {s s' : State} {k n : Nat} (h : s.sameButNew s' [] k n) {a : Addr} (ha : a < s.heap.size) : s'.heap[a]? = s.heap[a]? := by
  obtain ⟨c', h1, h2, h3, h4⟩ := h.2.2.2.2.2 a _ (Array.getElem?_eq_getElem ha)
  have hs : c'.slots = (s.heap[a]).slots := Array.ext_getElem? (fun i => h4 i (by simp))
  rw [hs] at h2
  rw [h1, Array.getElem?_eq_getElem ha]
  exact congrArg some h2
/-- a static field of Throwable that holds a reference or null; its cell is one of the first B -/
def tzL (n d : String) (B : Nat) (U : State) (H : Heap) : Prop := ∃ (c : ClassId) (k : Class) (i : Nat) (f : Field) (a : Nat) (cell : Cell) (v : Value), U.vm.findClass Bundle.tN = some c ∧ U.fieldFound? Bundle.tN n d = some (c, k, i, f) ∧ f.isStatic = true ∧ k.statics = some a ∧ H[a]? = some cell ∧ cell.vm.isStatics = true ∧ cell.cls = c ∧ f.slot < cell.slots.size ∧ k.staticTypes[f.slot]? = some f.type ∧ cell.slots[f.slot]? = some v ∧ v.isRef = true ∧ a < B
theorem tzL.moved {n d : String} {B : Nat} {u U : State} {H : Heap} (hvm : u.vm.Alike U.vm) (h : tzL n d B u H) : tzL n d B U H := by
  obtain ⟨c, k, i, f, a, cell, v, h1, h2, h3, h4, h5, h6, h7, h8, h9, h10⟩ := h
  obtain ⟨k', hi', he⟩ := State.fieldFound?_setVm hvm h2
  exact ⟨c, k', i, f, a, cell, v, by rw [hvm.findClass]; exact h1, hi', h3, by rw [he]; exact h4, h5, h6, h7, h8, by rw [he]; exact h9, h10⟩
theorem tzL.kept {n d : String} {B : Nat} {U : State} {H H1 : Heap} (h : tzL n d B U H) (hq : ∀ a : Nat, a < B → H1[a]? = H[a]?) : tzL n d B U H1 := by
  obtain ⟨c, k, i, f, a, cell, v, h1, h2, h3, h4, h5, h6, h7, h8, h9, h10, h11, h12⟩ := h
  exact ⟨c, k, i, f, a, cell, v, h1, h2, h3, h4, by rw [hq a h12]; exact h5, h6, h7, h8, h9, h10, h11, h12⟩
theorem tzL.lays {n d : String} {B : Nat} {s : State} {args : Array Value} (h : tzL n d B s s.heap) : (Cond.laysStatic Bundle.tN n d).before args s = true := by
  obtain ⟨c, k, i, f, a, cell, v, h1, h2, h3, h4, h5, h6, h7, h8, h9, -⟩ := h
  show (Cond.laysStatic Bundle.tN n d).holds args s none s [] = true
  exact Cond.laysStatic_of h1 h2 h3 h4 h5 h6 h7 h8 h9
theorem tzL.ref {n d : String} {B : Nat} {s : State} {args : Array Value} (h : tzL n d B s s.heap) : (Cond.isRef (.static Bundle.tN n d)).before args s = true := by
  obtain ⟨c, k, i, f, a, cell, v, h1, h2, h3, h4, h5, h6, h7, h8, h9, h10, h11, -⟩ := h
  have he : (Term.static Bundle.tN n d).eval args s none [] s = some v := by
    simp [Term.eval, State.fieldNamed?, h2, h3, h4, h5, h6, h10]
  simp only [Cond.before, Cond.holds, Cond.value, he]
  cases v <;> simp_all [Value.isRef]
theorem tzL.of {n d : String} {s : State} {args : Array Value} (hl : (Cond.laysStatic Bundle.tN n d).before args s = true) (h : (Cond.isRef (.static Bundle.tN n d)).before args s = true) : tzL n d s.heap.size s s.heap := by
  obtain ⟨c, k, i, f, a, cell, h1, h2, h3, h4, h5, h6, h7, h8, h9⟩ := Cond.laysStatic_spec hl
  have he : (Term.static Bundle.tN n d).eval args s none [] s = cell.slots[f.slot]? := by
    simp [Term.eval, State.fieldNamed?, h2, h3, h4, h5, h6]
  simp only [Cond.before, Cond.holds, Cond.value, he] at h
  refine ⟨c, k, i, f, a, cell, cell.slots[f.slot], h1, h2, h3, h4, h5, h6, h7, h8, h9, Array.getElem?_eq_getElem h8, ?_, (Array.getElem?_eq_some_iff.mp h5).1⟩
  rw [Array.getElem?_eq_getElem h8] at h
  cases hv : cell.slots[f.slot] <;> rw [hv] at h <;> simp_all [Value.isRef]
/-- can an object of the class c be assigned to the class t? -/
def tzC (c t : String) (v : Bool) (U : State) : Prop := ∃ a b : ClassId, U.vm.findClass c = some a ∧ U.vm.findClass t = some b ∧ U.vm.assignable a b = v
theorem tzC.moved {c t : String} {v : Bool} {u U : State} (hvm : u.vm.Alike U.vm) (h : tzC c t v u) : tzC c t v U := by
  obtain ⟨a, b, h1, h2, h3⟩ := h
  exact ⟨a, b, by rw [hvm.findClass]; exact h1, by rw [hvm.findClass]; exact h2, by rw [hvm.assignable]; exact h3⟩
theorem tzC.word {c t : String} {s : State} {args : Array Value} (h : tzC c t true s) : (Cond.castable c t).before args s = true := by
  obtain ⟨a, b, h1, h2, h3⟩ := h
  simp only [Cond.before, Cond.holds, Cond.value, h1, h2, h3]
  rfl
theorem tzC.of {c t : String} {s : State} {args : Array Value} (h : (Cond.castable c t).before args s = true) : tzC c t true s := by
  obtain ⟨a, b, h1, h2, h3⟩ := Cond.castable_spec h
  exact ⟨a, b, h1, h2, h3⟩
theorem tzC.ofNot {c t : String} {s : State} {args : Array Value} {a b : ClassId} (h1 : s.vm.findClass c = some a) (h2 : s.vm.findClass t = some b) (h : (Cond.not (.castable c t)).before args s = true) : tzC c t false s := by
  have hv := Cond.holds_not_iff.mp h
  simp only [Cond.value, h1, h2] at hv
  exact ⟨a, b, h1, h2, Option.some.inj hv⟩
abbrev xIA : String := "java/lang/IllegalArgumentException"
abbrev xIS : String := "java/lang/IllegalStateException"
abbrev xNS : String := "java/util/NoSuchElementException"
/-- what every throw and every catch needs of the heap and of the tables -/
def tz (B : Nat) (H : Heap) (U : State) : Prop := tzL "UNASSIGNED_STACK" Bundle.steD B U H ∧ tzL "SUPPRESSED_SENTINEL" Bundle.listD B U H ∧ tzC xIA xIA true U ∧ tzC xIS xIS true U ∧ tzC xNS xNS true U ∧ tzC xIS xIA false U ∧ tzC xIA xNS false U
theorem tz_m {B : Nat} {H : Heap} : kXm (tz B H) := fun _ _ hv h => ⟨h.1.moved hv.alike, h.2.1.moved hv.alike, h.2.2.1.moved hv.alike, h.2.2.2.1.moved hv.alike, h.2.2.2.2.1.moved hv.alike, h.2.2.2.2.2.1.moved hv.alike, h.2.2.2.2.2.2.moved hv.alike⟩
theorem tz.kept {B : Nat} {H H1 : Heap} {U : State} (h : tz B H U) (hq : ∀ a : Nat, a < B → H1[a]? = H[a]?) : tz B H1 U := ⟨h.1.kept hq, h.2.1.kept hq, h.2.2⟩
def tz_no (cls : String) (w : Cond) : Bool := decide (w = .castable cls cls) || decide (w = .isRef (.static Bundle.tN "UNASSIGNED_STACK" Bundle.steD)) || decide (w = .isRef (.static Bundle.tN "SUPPRESSED_SENTINEL" Bundle.listD)) || decide (w = .laysStatic Bundle.tN "UNASSIGNED_STACK" Bundle.steD) || decide (w = .laysStatic Bundle.tN "SUPPRESSED_SENTINEL" Bundle.listD)
theorem tz_own {B : Nat} {s : State} {args : Array Value} {cls : String} (h : tz B s.heap s) (hc : tzC cls cls true s) (hT : ∀ w ∈ lw_ok, w.before args s = true) {L : List Cond} (hL : L.all (fun w => decide (w ∈ lw_ok) || tz_no cls w) = true) : ∀ w ∈ L, w.before args s = true := by
  intro w hw
  have h1 := List.all_eq_true.mp hL w hw
  simp only [Bool.or_eq_true, decide_eq_true_eq, tz_no] at h1
  rcases h1 with h1 | ((((h1 | h1) | h1) | h1) | h1)
  · exact hT w h1
  · rw [h1]; exact hc.word
  · rw [h1]; exact h.1.ref
  · rw [h1]; exact h.2.1.ref
  · rw [h1]; exact h.1.lays
  · rw [h1]; exact h.2.1.lays
/-- the end of a method that threw a new object of the class cls, and changed nothing that was there -/
def tx_End (cls : String) (mc ms : Nat) (st : State) (o : Outcome) (t : State) : Prop :=
  ∃ (x : Addr) (ce : Cell), o = .threw x ∧ st.WarmedH t.vm ∧ st.sameButNew ({ t with vm := st.vm } : State) [] mc ms ∧ t.heap[x]? = some ce ∧ st.vm.findClass cls = some ce.cls ∧ ce.vm = .none
def kTh (l : Launch) (y : MethodName) (b : ByteArray) (n : Nat) (ret : Option FieldType) (fr lo : Nat) (As : List Value) (H : Heap) (X : State → Prop) (cls : String) : Prop :=
  MetFree l y (headSpec (kWs y b n ret) { frames := fr, cells := 1, slots := 6, locals := lo }) (kPc As H X) (fun _ _ _ _ _ => True) (fun _ st o t => tx_End cls 1 6 st o t)
abbrev kQt (below : List Frame) (s : State) (cls : String) : State → Prop := fun t => ∃ o, t.status = .running ∧ Ended t below o ∧ tx_End cls 1 6 s o t
theorem kt_of {l : Launch} {y : MethodName} {b : ByteArray} {n : Nat} {ret : Option FieldType} {fr lo : Nat} {As : List Value} {H : Heap} {X : State → Prop} {cls : String} (hy : plainName y.cls = true) (hn : (lg_sl As).length ≤ n)
    (body : ∀ (p : Program) (e : Env) (s : State) (m : MethodId) (below : List Frame) (meth : Method) (c : Code) (ls : Array Slot), CallFix p m c b n s As.toArray lw_ok y.cls → meth.locks = false → c.exceptionTable.isEmpty = true → s.heap = H → X s → lv_has ls n (lv_args 0 As) →
      W p l e { frames := fr, cells := 1, slots := 6, locals := lo } s m As.toArray below meth c s.heap [] 0 0 (kQt below s cls) (F0 m 0 ls [])) : kTh l y b n ret fr lo As H X cls := by
  refine MetFree.of_bodyS (code := b) (maxLocals := n) (ret := ret) hy ?_ ?_
  · intro args s m h hnm
    obtain ⟨meth, c, h1, h2, h3, h4, h5, h6, -, -⟩ := Cond.code_spec hnm (atoms_spec (ws := kWs y b n ret) h _ List.mem_cons_self)
    exact ⟨meth, c, h1, h2, h3, h4, h5, h6⟩
  · intro p e s m args below meth c s₁ B hml hv _
    obtain ⟨rfl, hh, hX⟩ := hv
    have hts := atoms_spec (ws := kWs y b n ret) B.pre
    have hh0 : s₁.heap = s.heap := by rw [B.state]; rfl
    have hex : c.exceptionTable.isEmpty = true := BodyLoose.noHandlers B (hts _ List.mem_cons_self)
    have K := body p e s m below meth c _ ⟨B.exec, B.bytes, B.maxLocals_eq (hts _ List.mem_cons_self), findClass_of_methodNamed B.named, fun w hw => hts w (List.mem_cons_of_mem _ hw)⟩ B.notSynchronized hex hh hX (lv_entry As hn)
    rw [← lg_entry_eq] at K
    obtain ⟨t, a1, o, b1, b2, b3⟩ := K s₁ hh0 (Stand.of_body B)
    exact ⟨t, o, a1, b1, b2, b3⟩
section KT
variable {p : Program} {l : Launch} {e : Env} {R : Room} {s : State} {m : MethodId} {args : Array Value} {below : List Frame} {meth : Method} {c : Code} {H H0 : Heap} {locs : List Loc} {cells slots : Nat} {Q : State → Prop} {cc : ByteArray} {pc : Nat} {ls : Array Slot} {rest st : List Value} {own : String} {nL : Nat} {A0 : Nat → Prop}
set_option maxRecDepth 100000 in
set_option maxHeartbeats 4000000 in
/-- 'throw new cls(text)', from the 'new' on, in a method that has written nothing -/
theorem kt_throw {cls tx : String} {names : List String} {ik is ic q B : Nat} (F : CallFix p m c cc nL s args lw_ok own) (hlocks : meth.locks = false) (hex : c.exceptionTable.isEmpty = true) (hl : l.stackTraces = false) (hz : tz B s.heap s) (hc : tzC cls cls true s) (hL : (Bundle.ownAtoms own ic cls names).all (fun w => decide (w ∈ lw_ok) || tz_no cls w) = true)
    (hcls : Bundle.fit cls = true) (hnames : ∀ n ∈ names, Bundle.fit n = true) (hcl : Cond.classLink own ik cls ∈ lw_ok) (hin : Cond.instantiable cls 6 ∈ lw_ok) (hini : Cond.initialized cls ∈ lw_ok) (hq : vk_R own is tx q s) (hS : va_S (fun _ => False) s.heap s.heap locs) (hsz : ls.size = nL) (hR : names.length + 3 < R.frames ∧ (rest.map fun v => v.category).sum + 13 * (names.length + 1) + 43 ≤ R.locals ∧ 1 ≤ R.cells ∧ 6 ≤ R.slots)
    (d1 : decode cc pc = .ok (.new ik, 3)) (d2 : decode cc (pc + 3) = .ok (.dup, 1)) (d3 : decode cc (pc + 4) = .ok (.ldc is, 2)) (d4 : decode cc (pc + 6) = .ok (.invokespecial ic, 3)) (d5 : decode cc (pc + 9) = .ok (.athrow, 1)) :
    W p l e R s m args below meth c s.heap locs 0 0 (kQt below s cls) (F0 m pc ls rest) := by
  obtain ⟨hx, hb, hml, hown, hT⟩ := F
  refine va_forget (fun z hz => (hS.2.2 z hz).elim) ?_
  refine W.newc hx hb hown (hT _ hcl) (hT _ hin) (hT _ hini) rfl d1 (by omega) (by omega) (fun cC kC h1 h2 h3 h4 => ?_)
  refine lv_dup hx hb d2 rfl ?_
  refine va_ldcS hx hb hown hq d3 ?_
  intro T hT0 X
  have htr : e.platform.stackTraces = false := (show e.platform.stackTraces = l.stackTraces by rw [X.admits.platform]).trans hl
  obtain ⟨U, hsteps, hrun, hend, hW, hsame, ce, hce, hown'⟩ := X.ctorThrowS hx htr (own := own) (cls := cls) (names := names) (ic := ic) hown hcls hnames (tz_own hz hc hT hL) (fun x h => by cases h) (a := s.heap.size) (cX := cC) (kX := kC) h1 h2
    (by rw [hT0]; simp [freshCell]) (Nat.le_refl _) (msg := .ref q) rfl (g := F0 m (pc + 6) ls (.ref q :: .ref s.heap.size :: .ref s.heap.size :: rest)) rfl (hsz.trans hml.symm) rfl rfl (rest := rest) rfl (by rw [hb]; exact d4) (by rw [hb]; exact d5) (fun x hx => by simp at hex; rw [hex] at hx; simp at hx) hR.1 (by show 2 * 0 + (1 + (rest.map fun v => v.category).sum) + _ ≤ _; omega) hlocks
  exact ⟨U, hsteps, .threw s.heap.size, hrun, hend, s.heap.size, ce, rfl, hW, hsame, hce, hown'.cls, hown'.vm⟩
/-- the search for a handler, through rows that are passed, to one that takes the object: the tables that it leaves are warmer -/
theorem tx_go {s₀ : State} {f : JFrame} {a : Addr} {ce : Cell} (hobj : ∀ k, ce.vm ≠ .statics k) (hk0 : ∃ k, s₀.vm.classes[ce.cls]? = some k) (x : ExceptionTableEntry) (suf : List ExceptionTableEntry) (hx : covers x f.pc = true) (h0 : x.catchType ≠ 0) {cx : ClassId} (hlx : s₀.vm.ClassLinks e.platform f.method.cls x.catchType cx) (hfx : s₀.vm.assignable ce.cls cx = true) :
    ∀ (pre : List ExceptionTableEntry) (S : State), s₀.WarmedH S.vm → S.heap[a]? = some ce → (∀ y ∈ pre, covers y f.pc = true ∧ y.catchType ≠ 0 ∧ ∃ cy, s₀.vm.ClassLinks e.platform f.method.cls y.catchType cy ∧ s₀.vm.assignable ce.cls cy = false) →
      ∃ vm', s₀.WarmedH vm' ∧ ∀ (Q : Handler → Pre) (E : CtlPost) (d : Bool) (acts : List Action), wp (findHandler.go f a (pre ++ x :: suf)) Q E e d acts S ↔ Q (.found x.handlerPc) d acts (S.setVm vm') := by
  obtain ⟨k0, hk0⟩ := hk0
  have one : ∀ (S : State) (y : ExceptionTableEntry) (cy : ClassId) (t : List ExceptionTableEntry), s₀.WarmedH S.vm → S.heap[a]? = some ce → covers y f.pc = true → y.catchType ≠ 0 → s₀.vm.ClassLinks e.platform f.method.cls y.catchType cy →
      s₀.WarmedH (S.vm.noted f.method.cls y.catchType (.cls cy)) ∧ ∀ (Q : Handler → Pre) (E : CtlPost) (d : Bool) (acts : List Action), wp (findHandler.go f a (y :: t)) Q E e d acts S ↔ if s₀.vm.assignable ce.cls cy = true then Q (.found y.handlerPc) d acts (S.setVm (S.vm.noted f.method.cls y.catchType (.cls cy))) else wp (findHandler.go f a t) Q E e d acts (S.setVm (S.vm.noted f.method.cls y.catchType (.cls cy))) := by
    intro S y cy t hW hcell hcov hy0 hl
    obtain ⟨dk, _, _, kt, hd, _, _, _, _, hkt, _, hopen⟩ := hl.here
    refine ⟨hW.noted hd hopen (State.rightAt_cls hl), fun Q E d acts => ?_⟩
    obtain ⟨ha, ht⟩ := (resolveClass_links e.toSetting (hW.classLinks hl)).op (op := VmOp.resolveClass f.method.cls y.catchType) rfl
    have hal : s₀.vm.Alike (S.vm.noted f.method.cls y.catchType (.cls cy)) := hW.alike.trans ((Vm.Alike.refl S.vm).noted _ _ _)
    obtain ⟨k1', hk1', -⟩ := hal.2.2 _ _ hk0
    obtain ⟨k2', hk2', -⟩ := hal.2.2 _ _ hkt
    have hasg : (S.vm.noted f.method.cls y.catchType (.cls cy)).assignable ce.cls cy = s₀.vm.assignable ce.cls cy := hal.assignable _ _
    simp only [covers] at hcov
    cases hfit : s₀.vm.assignable ce.cls cy <;> rw [hfit] at hasg <;> simp [findHandler.go, hcov, hy0, ha, ht, hcell, hobj, hk1', hk2', hasg, VmOp.dirties, VmOp.acts]
  intro pre
  induction pre with
  | nil =>
    intro S hW hcell _
    obtain ⟨h1, h2⟩ := one S x cx suf hW hcell hx h0 hlx
    exact ⟨_, h1, fun Q E d acts => by rw [List.nil_append, h2, if_pos hfx]⟩
  | cons y ys ih =>
    intro S hW hcell hpass
    obtain ⟨hcov, hy0, cy, hl, hno⟩ := hpass y List.mem_cons_self
    obtain ⟨h1, h2⟩ := one S y cy (ys ++ x :: suf) hW hcell hcov hy0 hl
    obtain ⟨vm', hW', hq⟩ := ih (S.setVm (S.vm.noted f.method.cls y.catchType (.cls cy))) h1 hcell (fun z hz => hpass z (List.mem_cons_of_mem _ hz))
    exact ⟨vm', hW', fun Q E d acts => by rw [List.cons_append, h2, if_neg (by rw [hno]; decide), hq]; rfl⟩
/-- a call of a method that throws, up to the note that it lays -/
theorem kt_call {y : MethodName} {b : ByteArray} {n : Nat} {ret : Option FieldType} {fr lo : Nat} {As : List Value} {X : State → Prop} {cls : String} (hT : ∀ w ∈ lw_ok, w.before args s = true) (hM : kTh l y b n ret fr lo As H X cls) (hm : kXm X) (hX : X s) (hc : Cond.code y b n ret ∈ lw_ok) (hi : Cond.initialized y.cls ∈ lw_ok)
    {T : State} (S : Stand p l e R s m args below meth c T locs cells slots) (hTH : T.heap = H) {g : JFrame} (hg : g.method = m) (hsize : g.locals.size = c.maxLocals) {ig : Instr} {len : Nat} (hdg : decode c.code g.pc = .ok (ig, len)) (hW : 2 * g.monitorRoom + (g.stack.map fun v => v.category).sum ≤ 8) {mk : MethodId} (hn : T.methodNamed? y = some mk)
    (hR : (fr + 1 ≤ R.frames ∧ 8 + (n + 11) + lo ≤ R.locals) ∧ cells + 1 ≤ R.cells ∧ slots + 6 ≤ R.slots) :
    ∃ (x : Addr) (T' : State) (ce : Cell), Stand p l e R s m args below meth c T' locs (cells + 1) (slots + 6) ∧ T'.heap[x]? = some ce ∧ s.vm.findClass cls = some ce.cls ∧ ce.vm = .none ∧ H.size ≤ T'.heap.size ∧ (∀ q, q < H.size → T'.heap[q]? = H[q]?) ∧
      Steps p.tables e below (doInvoke e (T.setTop g) [] mk As.toArray).1 ((T'.setTop g).pushFrame (.throwing x)) := by
  subst hg
  subst hTH
  have hcode := k_words hT hc _ List.mem_cons_self As.toArray T S.warmed
  have hini := word_at (a' := As.toArray) S.warmed (good_of_word (lw_good _ hi)) (hT _ hi)
  obtain ⟨methY, cY, hmY, hcY, -, hlY, -, -, -, -⟩ := Cond.code_spec hn hcode
  obtain ⟨kY, hkY, -⟩ := className_of_methodNamed hn
  have hinitY : kY.init = .initialized := Cond.initialized_spec (findClass_of_methodNamed hn) hkY hini
  have happ : (headSpec (kWs y b n ret) { frames := fr, cells := 1, slots := 6, locals := lo }).appliesLoose y e.platform (T.calling g mk As.toArray) = true :=
    Spec.appliesLoose_calling (g := g) S.here hdg hn hkY hinitY (S.room_calling (g := g) (R' := { frames := fr, cells := 1, slots := 6, locals := lo }) hsize hmY hcY hR.1.1 (by rw [hlY]; show _ + (n + 11) + lo ≤ _; omega) hR.2.1 hR.2.2) (atoms_intro fun w hw => k_words hT hc w hw _ _ S.warmed)
  obtain ⟨mid, hmid⟩ := S.here.above
  have hfr : (T.setTop g).frames = (.java g :: mid) ++ below := by rw [State.frames_setTop' g S.here.top, hmid]; rfl
  obtain ⟨o, s₂, hsteps, -, hend, hq⟩ := Steps.callFree hM p S.admits S.cas S.clock (acts := []) hfr happ (k_blind hm As.toArray T g mk ⟨rfl, rfl, hm _ _ S.warmed hX⟩) trivial
  obtain ⟨x, ce, rfl, hW₂, hsame, hce, hcl, hvm⟩ := hq
  rw [State.frames_setTop' g S.here.top] at hend
  have hf₂ : s₂.frames = .throwing x :: .java g :: T.frames.tail := hend
  have hW' : T.WarmedH s₂.vm := hW₂
  obtain ⟨g₀, hg0⟩ := Option.isSome_iff_exists.mp S.here.top
  obtain ⟨r, hr⟩ := State.topJava?_eq_some.mp hg0
  have e2 := hsame.1
  have e3 : s₂ = ({ (T.calling g mk As.toArray).setFrames s₂.frames with heap := s₂.heap, slotsUsed := s₂.slotsUsed } : State).setVm s₂.vm := by
    have h9 : s₂ = ({ s₂ with vm := (T.calling g mk As.toArray).vm } : State).setVm s₂.vm := rfl
    exact h9.trans (congrArg (fun z : State => z.setVm s₂.vm) e2)
  have hs₂ : s₂ = ((({ T with heap := s₂.heap, slotsUsed := s₂.slotsUsed } : State).setVm s₂.vm).setTop g).pushFrame (.throwing x) := by
    have hr' : (({ T with heap := s₂.heap, slotsUsed := s₂.slotsUsed } : State).setVm s₂.vm).frames = .java g₀ :: r := hr
    refine e3.trans ?_
    rw [hf₂, State.calling_eq S.here.top, State.setFrames_setFrames, State.pushFrame, State.frames_setTop _ hr', State.setTop_of_frames _ hr', State.setFrames_setFrames, hr]
    rfl
  have hsame2 : T.sameButNew ({ T with heap := s₂.heap, slotsUsed := s₂.slotsUsed } : State) [] 1 6 := by
    obtain ⟨q1, q2, q3, q4, q5, q6⟩ := hsame
    refine ⟨?_, q2, q3, q4, q5, q6⟩
    obtain ⟨t, ht, -⟩ := State.frames_cons hr
    show ({ T with heap := s₂.heap, slotsUsed := s₂.slotsUsed } : State) = { T.setFrames T.frames with heap := s₂.heap, slotsUsed := s₂.slotsUsed }
    rw [State.setFrames_self ht]
  have hsame3 := S.same.trans (hsame2.setVm s.vm)
  rw [List.append_nil] at hsame3
  refine ⟨x, ({ T with heap := s₂.heap, slotsUsed := s₂.slotsUsed } : State).setVm s₂.vm, ce, ⟨S.admits, S.cas, S.clock, S.frames, S.room, S.hears, S.method, S.code, (S.here.setHeapUsed s₂.heap s₂.slotsUsed).setVm hW'.alike, S.tail, State.WarmedH.trans S.warmed hW', S.limits, S.bytes, hsame3⟩, hce, ?_, hvm, hsame2.2.1, fun q hq => tx_same hsame2 hq, ?_⟩
  · have h9 : T.vm.findClass cls = some ce.cls := hcl
    rw [S.warmed.alike.findClass] at h9
    exact h9
  · show Steps p.tables e below _ (((({ T with heap := s₂.heap, slotsUsed := s₂.slotsUsed } : State).setVm s₂.vm).setTop g).pushFrame (.throwing x))
    rw [← hs₂]
    exact hsteps
/-- invokevirtual of a method that throws; the caller catches it: the row x of its table takes the class cls, those ahead of it don't -/
theorem kt_V (F : CallFix p m c cc nL s args lw_ok own) {y : MethodName} {b : ByteArray} {n : Nat} {ret : Option FieldType} {fr lo index k : Nat} {C : String} {o : Nat} {As : List Value} {X : State → Prop} {cls : String} (hM : kTh l y b n ret fr lo (.ref o :: As) H X cls) (hm : kXm X) (hX : X s) (hw : kWd y b n ret own index k) (hin : Cond.instanceMethod y ∈ lw_ok) (hse : Cond.selects C y y ∈ lw_ok)
    (ho : ∃ cell : Cell, H[o]? = some cell ∧ cell.vm.isStatics = false ∧ s.vm.findClass C = some cell.cls)
    (pre : List ExceptionTableEntry) (x : ExceptionTableEntry) (suf : List ExceptionTableEntry) (hsplit : c.exceptionTable.toList = pre ++ x :: suf) (hx : covers x pc = true) (h0 : x.catchType ≠ 0) {nm : String} (hlx : Cond.classLink own x.catchType nm ∈ lw_ok) (hcx : tzC cls nm true s)
    (hpass : ∀ z ∈ pre, covers z pc = true ∧ z.catchType ≠ 0 ∧ ∃ nz, Cond.classLink own z.catchType nz ∈ lw_ok ∧ tzC cls nz false s)
    (hd : decode cc pc = .ok (.invokevirtual index, 3)) (hR : (fr + 1 ≤ R.frames ∧ 8 + (n + 11) + lo ≤ R.locals) ∧ cells + 1 ≤ R.cells ∧ slots + 6 ≤ R.slots) (hk : As.length = k) (hz : ls.size = nL) (hs : st = As.reverse ++ .ref o :: rest) (hr : (rest.map fun v => v.category).sum ≤ 8)
    (kk : ∀ (q : Addr) (H1 : Heap), H.size ≤ H1.size → (∀ a, a < H.size → H1[a]? = H[a]?) → W p l e R s m args below meth c H1 locs (cells + 1) (slots + 6) Q (F0 m x.handlerPc ls [.ref q])) : W p l e R s m args below meth c H locs cells slots Q (F0 m pc ls st) := by
  subst hs
  obtain ⟨hexec, hb, hml, hown, hT⟩ := F
  obtain ⟨hc, hi, hy, hln, hlink⟩ := hw
  intro T hTH S
  have hpl : e.platform.magicAccessors = ({} : Platform).magicAccessors := by rw [S.admits.platform]
  obtain ⟨mk, methM, hnamed, hmethM, hstM, habM⟩ := Cond.instanceMethod_spec (hT _ hin)
  obtain ⟨methM', cM, hmethM', -, -, -, -, -, -, hsigM⟩ := Cond.code_spec hnamed (hT _ hc)
  cases hmethM.symm.trans hmethM'
  obtain ⟨c2, r2, m2, q1, q2, q3, q4, kP, hkP, hkPi⟩ := Cond.selects_spec (hT _ hse)
  obtain ⟨cellB, hcell, hobj, hcls⟩ := ho
  cases hcls.symm.trans q1
  cases (State.methodFound?_of_named hnamed hy).symm.trans q2
  cases hnamed.symm.trans q3
  have hselP : selectMethod e.platform s.vm cellB.cls mk = .method mk := by rw [Launch.admits_selectMethod S.admits]; exact q4
  have hsz : (F0 m pc ls (As.reverse ++ .ref o :: rest)).locals.size = c.maxLocals := hz.trans hml.symm
  obtain ⟨vm₁, X₁, hstep₁⟩ := S.invokevirtual hexec hown (hT _ hlink) hnamed hmethM hstM hkP hkPi hy (a := o) (cell := cellB) (by rw [hTH]; exact hcell)
    (fun z h => by rw [h] at hobj; cases hobj) hselP hmethM habM hkP hkPi (g := F0 m pc ls (As.reverse ++ .ref o :: rest)) rfl (argsL := As) (rest := rest) (hk.trans (k_len hln _ hsigM)) rfl (by rw [hb]; exact hd)
  obtain ⟨q, T', ce, X₂, hce, hcc, hcv, hsz2, hsame, hsteps⟩ := kt_call (g := { F0 m pc ls (As.reverse ++ .ref o :: rest) with stack := rest }) hT hM hm hX hc hi X₁ hTH rfl hsz (ig := .invokevirtual index) (len := 3) (by rw [hb]; exact hd) (lv_room hr) (X₁.named hnamed) hR
  have hobj2 : ∀ k, ce.vm ≠ .statics k := fun k h => by rw [hcv] at h; cases h
  have hk0 : ∃ k, s.vm.classes[ce.cls]? = some k := Vm.classAt_of_findClass hcc
  have link : ∀ {i : Nat} {nz : String} {v : Bool}, Cond.classLink own i nz ∈ lw_ok → tzC cls nz v s → ∃ cz, s.vm.ClassLinks e.platform m.cls i cz ∧ s.vm.assignable ce.cls cz = v := by
    intro i nz v h1 h2
    obtain ⟨a, b, g1, g2, g3⟩ := h2
    obtain ⟨c', hc', hcl⟩ := Cond.classLink_spec hown (hT _ h1) e.platform hpl
    cases g2.symm.trans hc'
    cases g1.symm.trans hcc
    exact ⟨b, hcl, g3⟩
  obtain ⟨cx, hl1, hl2⟩ := link hlx hcx
  obtain ⟨vm₂, hW₂, hgo⟩ := tx_go (e := e) (s₀ := s) (f := F0 m pc ls rest) (a := q) (ce := ce) hobj2 hk0 x suf hx h0 hl1 hl2 pre ((T'.setTop (F0 m pc ls rest)).pushFrame (.throwing q)) (by rw [throwing_vm]; exact X₂.warmed) (by rw [throwing_heap]; exact hce)
    (fun z hzz => by
      obtain ⟨g1, g2, nz, g3, g4⟩ := hpass z hzz
      exact ⟨g1, g2, link g3 g4⟩)
  have X₃ := X₂.noted hW₂
  obtain ⟨t, ht1, ht2⟩ := kk q T'.heap hsz2 hsame (T'.setVm vm₂) rfl X₃
  refine ⟨t, ?_, ht2⟩
  refine hstep₁ _ fun acts => ?_
  rw [doInvoke_state]
  refine hsteps.trans ?_
  have hat : At T' (F0 m pc ls rest).method c below := X₂.here
  obtain ⟨hgo1, hw1⟩ := hat.throwing q
  refine Steps.head hgo1 hw1 ?_
  have hfind : ∀ (Q : Handler → Pre) (E : CtlPost) (d : Bool) (acts : List Action), wp (findHandler (F0 m pc ls rest) q) Q E e d acts ((T'.setTop (F0 m pc ls rest)).pushFrame (.throwing q)) ↔ Q (.found x.handlerPc) d acts (((T'.setTop (F0 m pc ls rest)).pushFrame (.throwing q)).setVm vm₂) := fun Q E d acts => by
    rw [W.findHandler_eq (meth := meth) (code := c) (by rw [throwing_vm]; exact X₂.method') X₂.code, hsplit]
    exact hgo Q E d acts
  have hf : (stepThrowing e ((T'.setTop (F0 m pc ls rest)).pushFrame (.throwing q)) q (.java (F0 m pc ls rest) :: T'.frames.tail)).1 = (((T'.setTop (F0 m pc ls rest)).pushFrame (.throwing q)).setVm vm₂).setFrames (.java { F0 m pc ls rest with pc := x.handlerPc, stack := [.ref q] } :: T'.frames.tail) := by
    simp only [stepThrowing, searchFrame, vmDo]
    generalize hr9 : Sem.go _ e false [] _ = res
    obtain ⟨as, rfl, ha⟩ := Sem.eq_ok_of hr9 (a := Handler.found x.handlerPc) (s' := ((T'.setTop (F0 m pc ls rest)).pushFrame (.throwing q)).setVm vm₂) (acts' := []) (by simp [hfind _ _ _ _])
    rfl
  rw [stepThread_throwing (frames_entered hat.top _), hf]
  obtain ⟨g₀, hg0⟩ := Option.isSome_iff_exists.mp hat.top
  obtain ⟨r, hr2⟩ := State.topJava?_eq_some.mp hg0
  have hr3 : (T'.setVm vm₂).frames = .java g₀ :: r := hr2
  rw [State.setTop_of_frames _ hr3] at ht1
  have e9 : (((T'.setTop (F0 m pc ls rest)).pushFrame (.throwing q)).setVm vm₂).setFrames (.java { F0 m pc ls rest with pc := x.handlerPc, stack := [.ref q] } :: T'.frames.tail) = (T'.setVm vm₂).setFrames (.java (F0 m x.handlerPc ls [.ref q]) :: r) := by
    have sv : ∀ (u : State) (F G : List Frame), ((u.setFrames F).setVm vm₂).setFrames G = (u.setVm vm₂).setFrames G := fun u F G => by
      have h1 : (u.setFrames F).setVm vm₂ = (u.setVm vm₂).setFrames F := rfl
      rw [h1, State.setFrames_setFrames]
    rw [hr2, List.tail_cons, State.pushFrame, sv, State.setTop_of_frames _ hr2, sv]
  rw [e9]
  exact ht1
end KT
end
section
/-! 'throw new X(text)' where X's constructor passes on by any entry of its pool -/
def txA (own : String) (ic : Nat) (cls Y : String) (i1 : Nat) (b1 : ByteArray) (names : List String) : List Cond :=
  Bundle.throwableAtoms ++ (Bundle.throwableSAtoms ++ (Bundle.passSAtoms cls Y i1 b1 ++ (Bundle.chainSAtoms Y names ++
  [.methodLink own ic (Bundle.initS cls), .instantiable cls 6, .selects cls Bundle.tFill0 Bundle.tFill0, .selects cls Bundle.tFill Bundle.tFill,
   .lays cls Bundle.tN "cause" "Ljava/lang/Throwable;", .lays cls Bundle.tN "stackTrace" Bundle.steD, .lays cls Bundle.tN "suppressedExceptions" Bundle.listD, .lays cls Bundle.tN "detailMessage" "Ljava/lang/String;",
   .isRef (.static Bundle.tN "UNASSIGNED_STACK" Bundle.steD), .isRef (.static Bundle.tN "SUPPRESSED_SENTINEL" Bundle.listD),
   .fieldLink Bundle.tN 198 Bundle.tN "backtrace" "Ljava/lang/Object;", .lays Bundle.tN Bundle.tN "backtrace" "Ljava/lang/Object;", .lays cls Bundle.tN "backtrace" "Ljava/lang/Object;"])))
theorem tx_decl {y : MethodName} {b : ByteArray} {n : Nat} {ret : Option FieldType} {args : Array Value} {s : State} (h1 : (Cond.instanceMethod y).before args s = true) (h2 : (Cond.code y b n ret).before args s = true) : (Cond.declares y).before args s = true := by
  obtain ⟨mk, methM, hn, hm, hst, -⟩ := Cond.instanceMethod_spec h1
  obtain ⟨methM', cM, hm', -, -, -, -, -, -, hsig⟩ := Cond.code_spec hn h2
  cases hm.symm.trans hm'
  simp [Cond.before, Cond.holds, Cond.value, hn, hm, hst, hsig]
def tx_no (w : Cond) : Bool := decide (w = .declares (Bundle.initS "java/lang/RuntimeException")) || decide (w = .declares (Bundle.initS "java/lang/Exception")) || decide (w = .declares (Bundle.initS Bundle.tN))
def tx_4 (w : Cond) : Bool := decide (w = .isRef (.static Bundle.tN "UNASSIGNED_STACK" Bundle.steD)) || decide (w = .isRef (.static Bundle.tN "SUPPRESSED_SENTINEL" Bundle.listD)) || decide (w = .laysStatic Bundle.tN "UNASSIGNED_STACK" Bundle.steD) || decide (w = .laysStatic Bundle.tN "SUPPRESSED_SENTINEL" Bundle.listD)
theorem tx_own {B : Nat} {s : State} {args : Array Value} (h : tz B s.heap s) (hT : ∀ w ∈ lw_ok, w.before args s = true) {L : List Cond} (hL : L.all (fun w => decide (w ∈ lw_ok) || (tx_4 w || tx_no w)) = true) : ∀ w ∈ L, w.before args s = true := by
  intro w hw
  have h1 := List.all_eq_true.mp hL w hw
  simp only [Bool.or_eq_true, decide_eq_true_eq, tx_4, tx_no] at h1
  rcases h1 with h1 | ((((h1 | h1) | h1) | h1) | ((h1 | h1) | h1))
  · exact hT w h1
  · rw [h1]; exact h.1.ref
  · rw [h1]; exact h.2.1.ref
  · rw [h1]; exact h.1.lays
  · rw [h1]; exact h.2.1.lays
  · rw [h1]; exact tx_decl (hT _ tw2_39) (hT _ tw2_40)
  · rw [h1]; exact tx_decl (hT _ tw2_42) (hT _ tw2_43)
  · rw [h1]; exact tx_decl (hT _ tw2_45) (hT _ tw2_46)
section KTN
variable {p : Program} {l : Launch} {e : Env} {R : Room} {s : State} {m : MethodId} {args : Array Value} {below : List Frame} {meth : Method} {c : Code} {H H0 : Heap} {locs : List Loc} {cells slots : Nat} {Q : State → Prop} {cc : ByteArray} {pc : Nat} {ls : Array Slot} {rest st : List Value} {own : String} {nL : Nat} {A0 : Nat → Prop}
set_option maxRecDepth 100000 in
set_option maxHeartbeats 4000000 in
/-- from the constructor's call to 'threw' -/
theorem tx_ctor {T0 : State} (X : Stand p l e R s m args below meth c T0 [] cells slots) (hexec : p.tables.exec = Jvm.exec) (htr : e.platform.stackTraces = false) (hlocks : meth.locks = false) {cls Y : String} {names : List String} {ic i1 : Nat} {b1 : ByteArray}
    (hown : s.vm.findClass own = some m.cls) (hcls : Bundle.fit cls = true) (hY : Bundle.fit Y = true) (hnames : ∀ n ∈ names, Bundle.fit n = true)
    (g0 : decode b1 0 = .ok (.aload_n 0, 1)) (g1 : decode b1 1 = .ok (.aload_n 1, 1)) (g2 : decode b1 2 = .ok (.invokespecial i1, 3)) (g5 : decode b1 5 = .ok (.return_, 1))
    (h : ∀ w ∈ txA own ic cls Y i1 b1 names, w.before args s = true)
    {a : Addr} {cX : ClassId} {kX : Class} (hfoundX : s.vm.findClass cls = some cX) (hkX : s.vm.classes[cX]? = some kX) (hcell : T0.heap[a]? = some (freshCell cX kX)) (hnew : s.heap.size ≤ a) {q : Nat}
    (hsize : ls.size = c.maxLocals) (hout : ∀ x ∈ c.exceptionTable.toList, covers x (pc + 3) = false) (hd6 : decode c.code pc = .ok (.invokespecial ic, 3)) (hd9 : decode c.code (pc + 3) = .ok (.athrow, 1))
    (hRf : names.length + 4 < R.frames) (hRl : (rest.map fun v => v.category).sum + 1 + (13 * (names.length + 2) + 42) ≤ R.locals) :
    ∃ U : State, Steps p.tables e below (T0.setTop (F0 m pc ls (.ref q :: .ref a :: .ref a :: rest))) U ∧ U.status = .running ∧ Ended U below (.threw a) ∧ s.WarmedH U.vm ∧ s.sameButNew ({ U with vm := s.vm } : State) [] cells slots ∧ ∃ ce, U.heap[a]? = some ce ∧ s.vm.findClass cls = some ce.cls ∧ ce.vm = .none := by
  have howns : e.platform.frameOwnsMonitors = true := by rw [X.admits.platform]
  have hfin : e.platform.finalization = false := by rw [X.admits.platform]
  have hpl : e.platform.magicAccessors = ({} : Platform).magicAccessors := by rw [X.admits.platform]
  have inA : ∀ w, w ∈ Bundle.throwableAtoms → w.before args s = true := fun w hw => h w (List.mem_append_left _ hw)
  have inB : ∀ w, w ∈ Bundle.throwableSAtoms → w.before args s = true := fun w hw => h w (List.mem_append_right _ (List.mem_append_left _ hw))
  have inC : ∀ w, w ∈ Bundle.passSAtoms cls Y i1 b1 → w.before args s = true := fun w hw => h w (List.mem_append_right _ (List.mem_append_right _ (List.mem_append_left _ hw)))
  have inD : ∀ w, w ∈ Bundle.chainSAtoms Y names → w.before args s = true := fun w hw => h w (List.mem_append_right _ (List.mem_append_right _ (List.mem_append_right _ (List.mem_append_left _ hw))))
  have inE : ∀ w, w ∈ [Cond.methodLink own ic (Bundle.initS cls), .instantiable cls 6, .selects cls Bundle.tFill0 Bundle.tFill0, .selects cls Bundle.tFill Bundle.tFill, .lays cls Bundle.tN "cause" "Ljava/lang/Throwable;", .lays cls Bundle.tN "stackTrace" Bundle.steD, .lays cls Bundle.tN "suppressedExceptions" Bundle.listD, .lays cls Bundle.tN "detailMessage" "Ljava/lang/String;", .isRef (.static Bundle.tN "UNASSIGNED_STACK" Bundle.steD), .isRef (.static Bundle.tN "SUPPRESSED_SENTINEL" Bundle.listD), .fieldLink Bundle.tN 198 Bundle.tN "backtrace" "Ljava/lang/Object;", .lays Bundle.tN Bundle.tN "backtrace" "Ljava/lang/Object;", .lays cls Bundle.tN "backtrace" "Ljava/lang/Object;"] → w.before args s = true := fun w hw => h w (List.mem_append_right _ (List.mem_append_right _ (List.mem_append_right _ (List.mem_append_right _ hw))))
  obtain ⟨T, Z0, L, -, Ti⟩ := ThrowableC.of_atoms (args := args) howns hfin hpl inA
  obtain ⟨Z, M, LZ, LM, hnZ⟩ := Init0T.ofS_atoms (args := args) hpl L Ti inB
  obtain ⟨P1, L1, hP1m, hP1s⟩ := PassC.ofS_atoms (args := args) (s := s) hpl (X := cls) (Y := Y) (Bundle.fit_spec hcls).1 (Bundle.fit_spec hY).2 g0 g1 g2 g5 inC
  obtain ⟨P2, Ps, hlen, L2, hL, hP2m, hlink1, hlink⟩ := Bundle.chainS (args := args) hpl hnZ names Y hY hnames inD
  have hs12 : P1.sup = P2.m := Option.some.inj (hP1s.symm.trans hP2m)
  have hfound : s.vm.findClass cls = some P1.m.cls := findClass_of_methodNamed hP1m
  cases Option.some.inj (hfoundX.symm.trans hfound)
  obtain ⟨c1, kX', hc1, hk, hord, -, -, hn6⟩ := Cond.instantiable_spec (inE (.instantiable cls 6) (by simp))
  cases Option.some.inj (hc1.symm.trans hfound)
  cases Option.some.inj (hkX.symm.trans hk)
  have hsel0 : selectMethod e.platform s.vm P1.m.cls T.fill0 = .method T.fill0 := by
    obtain ⟨c2, r2, m2, q1, q2, q3, q4, -⟩ := Cond.selects_spec (inE (.selects cls Bundle.tFill0 Bundle.tFill0) (by simp))
    cases Option.some.inj (q1.symm.trans hfound)
    cases Option.some.inj (q2.symm.trans (State.methodFound?_of_named Ti.fill0 (by decide)))
    cases Option.some.inj (q3.symm.trans Ti.fill0)
    rw [Launch.admits_selectMethod X.admits]; exact q4
  have hselF : selectMethod e.platform s.vm P1.m.cls T.fill = .method T.fill := by
    obtain ⟨c2, r2, m2, q1, q2, q3, q4, -⟩ := Cond.selects_spec (inE (.selects cls Bundle.tFill Bundle.tFill) (by simp))
    cases Option.some.inj (q1.symm.trans hfound)
    cases Option.some.inj (q2.symm.trans (State.methodFound?_of_named Ti.fill (by decide)))
    cases Option.some.inj (q3.symm.trans Ti.fill)
    rw [Launch.admits_selectMethod X.admits]; exact q4
  obtain ⟨cellS0, hcS0, hiss⟩ := Ti.statics
  obtain ⟨u0, hu0⟩ := Cond.staticRefV Ti.unassigned L.unassignedStatic L.statics hcS0 hiss (inE (.isRef (.static Bundle.tN "UNASSIGNED_STACK" Bundle.steD)) (by simp))
  obtain ⟨sen, hsen⟩ := Cond.staticRefV Ti.sentinel L.sentinelStatic L.statics hcS0 hiss (inE (.isRef (.static Bundle.tN "SUPPRESSED_SENTINEL" Bundle.listD)) (by simp))
  obtain ⟨ci198, i198, fB, hk198, hg198, ha198, hsB, -, hnB, htB, hffB⟩ := Cond.ownField (t := .object "java/lang/Object") Ti.found L.cls (by decide +kernel) (inE (.fieldLink Bundle.tN 198 Bundle.tN "backtrace" "Ljava/lang/Object;") (by simp)) (inE (.lays Bundle.tN Bundle.tN "backtrace" "Ljava/lang/Object;") (by simp)) e.platform hpl
  obtain ⟨cellS, hcS', heS, -, hkeep⟩ := X.same.2.2.2.2.2 T.aS cellS0 hcS0
  have hcellS : T0.heap[T.aS]? = some cellS := hcS'
  have hknownS : cellS.vm ≠ .unknown := by
    rw [heS]; intro hu
    rw [show cellS0.vm = .unknown from hu] at hiss
    cases hiss
  have hneS : T.aS ≠ a := Nat.ne_of_lt (Nat.lt_of_lt_of_le (Array.getElem?_eq_some_iff.mp hcS0).1 hnew)
  obtain ⟨iM, hffM⟩ := Ti.msg
  obtain ⟨tyC, dC, hdC, hdnC⟩ := Cond.laysAt hfound hk Ti.cause (inE (.lays cls Bundle.tN "cause" "Ljava/lang/Throwable;") (by simp))
  obtain ⟨tyS, dS, hdS, hdnS⟩ := Cond.laysAt hfound hk Ti.stack (inE (.lays cls Bundle.tN "stackTrace" Bundle.steD) (by simp))
  obtain ⟨tyP, dP, hdP, hdnP⟩ := Cond.laysAt hfound hk Ti.supp (inE (.lays cls Bundle.tN "suppressedExceptions" Bundle.listD) (by simp))
  obtain ⟨tyM, dM, hdM, hdnM⟩ := Cond.laysAt hfound hk hffM (inE (.lays cls Bundle.tN "detailMessage" "Ljava/lang/String;") (by simp))
  obtain ⟨tyB, dB, hdB, hdnB⟩ := Cond.laysAt hfound hk hffB (inE (.lays cls Bundle.tN "backtrace" "Ljava/lang/Object;") (by simp))
  have bC := Cond.laysApart hdB hdC hdnB hdnC (by rw [hnB, Ti.causeName]; decide)
  have bS := Cond.laysApart hdB hdS hdnB hdnS (by rw [hnB, Ti.stackName]; decide)
  have bP := Cond.laysApart hdB hdP hdnB hdnP (by rw [hnB, Ti.suppName]; decide)
  have hskip : SkipFacts T e.platform s (fun u => u) u0 ((preparedCellV T.toThrowableT (freshCell P1.m.cls kX) a u0 sen).withEntry T0.cur) :=
    ⟨{ ci198 := ci198, i198 := i198, fBack := fB }, ⟨hk198, hg198, ha198, hsB⟩, by
      have h9 := fresh_default (c := P1.m.cls) tyB
      rw [htB] at h9
      simpa [preparedCellV, Cell.setSlot, Cell.withEntry, Array.getElem?_setIfInBounds, bC, bS, bP, bC.symm, bS.symm, bP.symm, defaultValue] using h9, fun _ _ => rfl⟩
  obtain ⟨tm, methC, cdC, kC, vm₁, hnC, -, -, -, -, -, -, -, hW₁, st1⟩ := Steps.initColdS (tb := p.tables) (e := e) (below := below) (s := s) (U := T0) X.here hexec X.warmed hpl hown (t := Bundle.initS cls) rfl rfl (Bundle.fit_spec hcls).2
    (inE (.methodLink own ic (Bundle.initS cls)) (by simp)) (inC (.instanceMethod (Bundle.initS cls)) (by simp [Bundle.passSAtoms])) (bytes := b1) (maxL := 2) (inC (.code (Bundle.initS cls) b1 2 none) (by simp [Bundle.passSAtoms]))
    (f := F0 m pc ls (.ref q :: .ref a :: .ref a :: rest)) rfl (a := a) (msg := .ref q) (rest := .ref a :: rest) rfl hd6
  cases Option.some.inj (hnC.symm.trans hP1m)
  have X₁ := X.noted hW₁
  obtain ⟨vm₂, X₂, st2⟩ := X₁.ctorMessageOffV hexec (g := F0 m pc ls (.ref a :: rest)) rfl hsize T L Z LZ M LM (P1 :: P2 :: Ps)
    (fun P hP => by
      rcases List.mem_cons.mp hP with rfl | hP
      · exact L1
      · rcases List.mem_cons.mp hP with rfl | hP
        · exact L2
        · exact hL P hP) ⟨hs12, hlink1, hlink⟩ (u0 := u0) (sen := sen) (self := a) (msg := .ref q) rfl (cell := freshCell P1.m.cls kX) (cellS := cellS)
    hcell (fun _ => by simp) (by simp) rfl rfl hsel0 hselF hcellS hneS hknownS (by rw [hkeep _ (by simp)]; exact hu0) (by rw [hkeep _ (by simp)]; exact hsen)
    (Takes.of_laid hk hord tyC (by rw [Ti.causeType]; rfl)) (Takes.of_laid hk hord tyS (by rw [Ti.stackType]; exact fits_refV_array _ u0)) (Takes.of_laid hk hord tyP (by rw [Ti.suppType]; exact fits_refV_object _ sen))
    (Takes.of_laid hk hord tyM (by rw [Ti.msgType]; exact fits_refV_object _ ⟨.ref q, rfl⟩)) Ti.objLocals hskip htr [] hd6
    (by simp only [List.length_cons, hlen]; omega) (by simp only [List.length_cons, hlen]; show 2 * 0 + (1 + (rest.map fun v => v.category).sum) + _ ≤ _; omega)
  obtain ⟨hwalk, hrun, hended, hWU, hsame⟩ := X₂.athrowLeaves hexec (g := F0 m (pc + 3) ls (.ref a :: rest)) rfl rfl rfl hout (a := a) (rest := rest) rfl hd9 hlocks
  have hlt : a < ((T0.setVm vm₁).setVm vm₂).heap.size := (Array.getElem?_eq_some_iff.mp hcell).1
  have hU := heapAt_setCell_self (s := (T0.setVm vm₁).setVm vm₂) (plainBareV T.toThrowableT (freshCell P1.m.cls kX) a u0 sen (.ref q)) hlt
  refine ⟨_, st1 _ (fun acts => ?_), hrun, hended, hWU, hsame.weaken (fun y hy hlt' => ?_) (Nat.le_refl _) (Nat.le_refl _), _, hU, hfound, rfl⟩
  · rw [doInvoke_state]
    exact st2 _ hwalk
  · exfalso
    have hb : y.base = a := by
      simp only [List.nil_append, List.mem_cons, List.not_mem_nil, or_false] at hy
      rcases hy with rfl | rfl | rfl | rfl | rfl <;> rfl
    rw [hb] at hlt'
    exact Nat.not_lt.mpr hnew hlt'
set_option maxRecDepth 100000 in
set_option maxHeartbeats 4000000 in
theorem kt_throwN {cls Y tx : String} {names : List String} {ik is ic i1 q B : Nat} {b1 : ByteArray} (F : CallFix p m c cc nL s args lw_ok own) (hlocks : meth.locks = false) (hex : c.exceptionTable.isEmpty = true) (hl : l.stackTraces = false) (hz : tz B s.heap s) (hL : (txA own ic cls Y i1 b1 names).all (fun w => decide (w ∈ lw_ok) || (tx_4 w || tx_no w)) = true)
    (hcls : Bundle.fit cls = true) (hY : Bundle.fit Y = true) (hnames : ∀ n ∈ names, Bundle.fit n = true) (g0 : decode b1 0 = .ok (.aload_n 0, 1)) (g1 : decode b1 1 = .ok (.aload_n 1, 1)) (g2 : decode b1 2 = .ok (.invokespecial i1, 3)) (g5 : decode b1 5 = .ok (.return_, 1))
    (hcl : Cond.classLink own ik cls ∈ lw_ok) (hin : Cond.instantiable cls 6 ∈ lw_ok) (hini : Cond.initialized cls ∈ lw_ok) (hq : vk_R own is tx q s) (hS : va_S (fun _ => False) s.heap s.heap locs) (hsz : ls.size = nL) (hR : names.length + 4 < R.frames ∧ (rest.map fun v => v.category).sum + 1 + (13 * (names.length + 2) + 42) ≤ R.locals ∧ 1 ≤ R.cells ∧ 6 ≤ R.slots)
    (d1 : decode cc pc = .ok (.new ik, 3)) (d2 : decode cc (pc + 3) = .ok (.dup, 1)) (d3 : decode cc (pc + 4) = .ok (.ldc is, 2)) (d4 : decode cc (pc + 6) = .ok (.invokespecial ic, 3)) (d5 : decode cc (pc + 9) = .ok (.athrow, 1)) :
    W p l e R s m args below meth c s.heap locs 0 0 (kQt below s cls) (F0 m pc ls rest) := by
  obtain ⟨hx, hb, hml, hown, hT⟩ := F
  refine va_forget (fun z hz => (hS.2.2 z hz).elim) ?_
  refine W.newc hx hb hown (hT _ hcl) (hT _ hin) (hT _ hini) rfl d1 (by omega) (by omega) (fun cC kC h1 h2 h3 h4 => ?_)
  refine lv_dup hx hb d2 rfl ?_
  refine va_ldcS hx hb hown hq d3 ?_
  intro T hT0 X
  have htr : e.platform.stackTraces = false := (show e.platform.stackTraces = l.stackTraces by rw [X.admits.platform]).trans hl
  obtain ⟨U, hsteps, hrun, hend, hW, hsame, ce, hce, hc1, hc2⟩ := tx_ctor (ls := ls) (pc := pc + 6) (rest := rest) (q := q) X hx htr hlocks (own := own) (cls := cls) (names := names) (ic := ic) hown hcls hY hnames g0 g1 g2 g5 (tx_own hz hT hL) (a := s.heap.size) (cX := cC) (kX := kC) h1 h2
    (by rw [hT0]; simp [freshCell]) (Nat.le_refl _) (hsz.trans hml.symm) (fun x hx => by simp at hex; rw [hex] at hx; simp at hx) (by rw [hb]; exact d4) (by rw [hb]; exact d5) hR.1 hR.2.1
  exact ⟨U, hsteps, .threw s.heap.size, hrun, hend, s.heap.size, ce, rfl, hW, hsame, hce, hc1, hc2⟩
end KTN
end
section
/-! the words of the three kinds of throws -/
abbrev thN : List String := ["java/lang/Exception"]
abbrev thY : String := "java/lang/RuntimeException"
abbrev bIA : ByteArray := prog_8_method_2_code
abbrev bIS : ByteArray := prog_9_method_2_code
abbrev bNS : ByteArray := prog_17_method_4_code
theorem own_IA : (txA "FusedEngine" 34 xIA thY 7 bIA thN).all (fun w => decide (w ∈ lw_ok) || (tx_4 w || tx_no w)) = true := by decide +kernel
theorem own_IS : (txA "FusedEngine" 45 xIS thY 7 bIS thN).all (fun w => decide (w ∈ lw_ok) || (tx_4 w || tx_no w)) = true := by decide +kernel
theorem own_NS : (txA "FusedEngine" 61 xNS thY 13 bNS thN).all (fun w => decide (w ∈ lw_ok) || (tx_4 w || tx_no w)) = true := by decide +kernel
theorem fit_N : ∀ n ∈ thN, Bundle.fit n = true := by decide +kernel
end
section
/-! STATE: what a state of the system is. Rows of ints: M (a machine): 0 values, 1 locals, 2 outputs, 3 returns, 4: height, returnCount, outputCount, place, state, done. G (a program): 0 letters, 1 numbers, 2 targets, 3 rows, 4 lengths, 5: size, isFused. D (the model): 0 letter, 1 number, 2 fusedTo, 3 rows, 4 place, 5 high, 6 depth, 7 put, 8 state, 9 done, 10 stack, 11 local, 12 back, 13 outs, 14: code, size, fused. -/
abbrev vSt : Type := Nat → Nat → Int32
def u2 (S : vSt) (r k : Nat) (v : Int32) : vSt := fun i => if i = r then upd (S i) k v else S i
abbrev kTy (k : Nat → ClassId) : List (ClassId × FieldType) := [(k 0, .int), (k 1, .boolean), (k 2, .char)]
abbrev wE (a p m n : Nat → Nat) : va_W := [(a 0, .inr (0, [.ref (p 0), .ref (m 0), .ref (n 0)]))]
abbrev wM (a : Nat → Nat) (k : Nat → ClassId) (M : vSt) : va_W := [(a 0, .inr (1, [.ref (a 1), .ref (a 2), .ref (a 3), .ref (a 4), .int (M 4 0), .int (M 4 1), .int (M 4 2), .int (M 4 3), .int (M 4 4), .int (M 4 5)])), (a 1, .inl (k 0, 40, .inl (M 0))), (a 2, .inl (k 0, 8, .inl (M 1))), (a 3, .inl (k 0, 60, .inl (M 2))), (a 4, .inl (k 0, 10, .inl (M 3)))]
abbrev wP (a : Nat → Nat) (k : Nat → ClassId) (G : vSt) : va_W := [(a 0, .inr (2, [.ref (a 1), .ref (a 2), .ref (a 3), .ref (a 4), .ref (a 5), .int (G 5 0), .int (G 5 1)])), (a 1, .inl (k 0, 80, .inl (G 0))), (a 2, .inl (k 0, 80, .inl (G 1))), (a 3, .inl (k 1, 80, .inl (G 2))), (a 4, .inl (k 0, 80, .inl (G 3))), (a 5, .inl (k 0, 80, .inl (G 4)))]
abbrev wD (a : Nat → Nat) (k : Nat → ClassId) (D : vSt) : va_W := [(a 0, .inr (3, [.int (D 14 0), .int (D 14 1), .ref (a 1), .ref (a 2), .int (D 14 2), .ref (a 3), .ref (a 4), .ref (a 5), .ref (a 6), .ref (a 7), .ref (a 8), .ref (a 9), .ref (a 10), .ref (a 11), .ref (a 12), .ref (a 13), .ref (a 14)])), (a 1, .inl (k 2, 80, .inl (D 0))), (a 2, .inl (k 0, 80, .inl (D 1))), (a 3, .inl (k 0, 80, .inl (D 2))), (a 4, .inl (k 2, 80, .inl (D 3))), (a 5, .inl (k 0, 2, .inl (D 4))), (a 6, .inl (k 0, 2, .inl (D 5))), (a 7, .inl (k 0, 2, .inl (D 6))), (a 8, .inl (k 0, 2, .inl (D 7))), (a 9, .inl (k 0, 2, .inl (D 8))), (a 10, .inl (k 0, 2, .inl (D 9))), (a 11, .inl (k 0, 80, .inl (D 10))), (a 12, .inl (k 0, 16, .inl (D 11))), (a 13, .inl (k 0, 20, .inl (D 12))), (a 14, .inl (k 0, 120, .inl (D 13)))]
/-- the 18 letters -/
def okC (c : Int32) : Prop := c = 80 ∨ c = 76 ∨ c = 83 ∨ c = 43 ∨ c = 45 ∨ c = 42 ∨ c = 47 ∨ c = 60 ∨ c = 61 ∨ c = 68 ∨ c = 88 ∨ c = 79 ∨ c = 86 ∨ c = 74 ∨ c = 90 ∨ c = 67 ∨ c = 82 ∨ c = 72
/-- how many values a letter needs; does it put one more? what an arithmetic letter answers -/
def sNeed (c : Int32) : Int32 := if c = 43 ∨ c = 45 ∨ c = 42 ∨ c = 47 ∨ c = 60 ∨ c = 61 ∨ c = 88 then 2 else if c = 83 ∨ c = 68 ∨ c = 79 ∨ c = 86 ∨ c = 90 then 1 else 0
def sPuts (c : Int32) : Int32 := if c = 80 ∨ c = 76 ∨ c = 68 then 1 else 0
def sRes (c a b : Int32) : Int32 := if c = 43 then a + b else if c = 45 then a - b else if c = 42 then a * b else if c = 47 then a / b else if c = 60 then (if b ≤ a then 0 else 1) else (if a = b then 1 else 0)
def sPush (M : vSt) (v : Int32) : vSt := u2 (u2 M 0 (M 4 0).toNatClampNeg v) 4 0 (M 4 0 + 1)
def sPop (M : vSt) : vSt := u2 M 4 0 (M 4 0 - 1)
def sTop (M : vSt) : Int32 := M 0 (M 4 0 - 1).toNatClampNeg
def sExch (M : vSt) : vSt := u2 (u2 M 0 (M 4 0 - 1).toNatClampNeg (M 0 (M 4 0 - 2).toNatClampNeg)) 0 (M 4 0 - 2).toNatClampNeg (M 0 (M 4 0 - 1).toNatClampNeg)
def sOut (M : vSt) (v : Int32) : vSt := if 60 ≤ M 4 2 then u2 M 4 2 (M 4 2 + 1) else u2 (u2 M 2 (M 4 2).toNatClampNeg v) 4 2 (M 4 2 + 1)
def sComb (M : vSt) (c : Int32) : vSt := sPush (sPop (sPop M)) (sRes c (sTop (sPop M)) (sTop M))
/-- the state that a letter would set, 0 where it sets none -/
def sTrap (M : vSt) (c : Int32) : Int32 := if M 4 0 < sNeed c then 1 else if c = 82 ∧ M 4 1 = 0 then 1 else if ¬ sPuts c = 0 ∧ M 4 0 = 40 then 2 else if c = 67 ∧ M 4 1 = 10 then 2 else if c = 47 ∧ sTop M = 0 then 3 else 0
/-- what a letter does that sets no such state -/
def sAct (M : vSt) (c n : Int32) : vSt :=
  if c = 80 then u2 (sPush M n) 4 3 (M 4 3 + 1)
  else if c = 76 then u2 (sPush M (M 1 n.toNatClampNeg)) 4 3 (M 4 3 + 1)
  else if c = 83 then u2 (u2 (sPop M) 1 n.toNatClampNeg (sTop M)) 4 3 (M 4 3 + 1)
  else if c = 68 then u2 (sPush M (sTop M)) 4 3 (M 4 3 + 1)
  else if c = 88 then u2 (sExch M) 4 3 (M 4 3 + 1)
  else if c = 79 then u2 (sOut (sPop M) (sTop M)) 4 3 (M 4 3 + 1)
  else if c = 86 then u2 (sPop M) 4 3 (M 4 3 + 1)
  else if c = 74 then u2 M 4 3 n
  else if c = 90 then u2 (sPop M) 4 3 (if sTop M = 0 then n else M 4 3 + 1)
  else if c = 67 then u2 (u2 (u2 M 3 (M 4 1).toNatClampNeg (M 4 3 + 1)) 4 1 (M 4 1 + 1)) 4 3 n
  else if c = 82 then u2 (u2 M 4 1 (M 4 1 - 1)) 4 3 (M 3 (M 4 1 - 1).toNatClampNeg)
  else if c = 72 then u2 (u2 M 4 4 5) 4 3 (M 4 3)
  else u2 (sComb M c) 4 3 (M 4 3 + 1)
/-- a machine's numbers are in their bounds -/
def mOk (M : vSt) : Prop := ∃ h r o : Nat, M 4 0 = nI h ∧ M 4 1 = nI r ∧ M 4 2 = nI o ∧ h ≤ 40 ∧ r ≤ 10 ∧ o < 2 ^ 30
theorem tr_n {h d : Nat} (hd : d < 2 ^ 31) (hn : ¬ nI h < nI d) : d ≤ h := by
  rcases Nat.lt_or_ge h d with q | q
  · exact absurd (nI_lt q hd) hn
  · exact q
theorem tr_all {M : vSt} {c : Int32} (hm : mOk M) (ht : sTrap M c = 0) : ∃ h r o : Nat, M 4 0 = nI h ∧ M 4 1 = nI r ∧ M 4 2 = nI o ∧ h ≤ 40 ∧ r ≤ 10 ∧ o < 2 ^ 30 ∧ ¬ nI h < sNeed c ∧ ¬ (c = 82 ∧ r = 0) ∧ ¬ (¬ sPuts c = 0 ∧ h = 40) ∧ ¬ (c = 67 ∧ r = 10) ∧ ¬ (c = 47 ∧ sTop M = 0) := by
  obtain ⟨h, r, o, e0, e1, e2, b0, b1, b2⟩ := hm
  unfold sTrap at ht
  rw [e0, e1] at ht
  by_cases c1 : nI h < sNeed c
  · rw [if_pos c1] at ht; exact absurd ht (by decide)
  rw [if_neg c1] at ht
  by_cases c2 : c = 82 ∧ nI r = 0
  · rw [if_pos c2] at ht; exact absurd ht (by decide)
  rw [if_neg c2] at ht
  by_cases c3 : ¬ sPuts c = 0 ∧ nI h = 40
  · rw [if_pos c3] at ht; exact absurd ht (by decide)
  rw [if_neg c3] at ht
  by_cases c4 : c = 67 ∧ nI r = 10
  · rw [if_pos c4] at ht; exact absurd ht (by decide)
  rw [if_neg c4] at ht
  by_cases c5 : c = 47 ∧ sTop M = 0
  · rw [if_pos c5] at ht; exact absurd ht (by decide)
  exact ⟨h, r, o, e0, e1, e2, b0, b1, b2, c1, fun z => c2 ⟨z.1, by rw [z.2]; rfl⟩, fun z => c3 ⟨z.1, by rw [z.2]; rfl⟩, fun z => c4 ⟨z.1, by rw [z.2]; rfl⟩, c5⟩
/-- indices in range -/
theorem in_0 {x : Int32} {h N : Nat} (e : x = nI h) (hh : h < N) (hN : N < 2 ^ 31) : vp_in x N := by rw [e]; exact vp_in_nI hh hN
theorem in_1 {x : Int32} {h N : Nat} (e : x = nI h) (h1 : 1 ≤ h) (hh : h ≤ N) (hN : N < 2 ^ 31) : vp_in (x - 1) N := by
  have e1 : nI h - 1 = nI (h - 1) := pk_sub (b := 1) h1
  rw [e, e1]
  exact vp_in_nI (by omega) hN
theorem in_2 {x : Int32} {h N : Nat} (e : x = nI h) (h2 : 2 ≤ h) (hh : h ≤ N) (hN : N < 2 ^ 31) : vp_in (x - 2) N := by
  have e1 : nI h - 2 = nI (h - 2) := pk_sub (b := 2) h2
  rw [e, e1]
  exact vp_in_nI (by omega) hN
theorem in_11 {x : Int32} {h N : Nat} (e : x = nI h) (h2 : 2 ≤ h) (hh : h ≤ N) (hN : N < 2 ^ 31) : vp_in (x - 1 - 1) N := by
  have e1 : nI h - 1 = nI (h - 1) := pk_sub (b := 1) (by omega)
  have e2 : nI (h - 1) - 1 = nI (h - 1 - 1) := pk_sub (b := 1) (by omega)
  rw [e, e1, e2]
  exact vp_in_nI (by omega) hN
end
section
/-! DECODE: Machine, Rows, Program, FusedEngine, Arrays.fill, Math.min -/
abbrev y_Mac_init : MethodName := ⟨"FusedEngine$Machine", "<init>", "()V"⟩
abbrev b_Mac_init : ByteArray := prog_2_method_1_code
theorem d_Mac_init_0 : decode b_Mac_init 0 = .ok (.aload_n 0, 1) := by decide +kernel
theorem d_Mac_init_1 : decode b_Mac_init 1 = .ok (.invokespecial 3, 3) := by decide +kernel
theorem d_Mac_init_4 : decode b_Mac_init 4 = .ok (.aload_n 0, 1) := by decide +kernel
theorem d_Mac_init_5 : decode b_Mac_init 5 = .ok (.bipush 40, 2) := by decide +kernel
theorem d_Mac_init_7 : decode b_Mac_init 7 = .ok (.newarray .int, 2) := by decide +kernel
theorem d_Mac_init_9 : decode b_Mac_init 9 = .ok (.putfield 11, 3) := by decide +kernel
theorem d_Mac_init_12 : decode b_Mac_init 12 = .ok (.aload_n 0, 1) := by decide +kernel
theorem d_Mac_init_13 : decode b_Mac_init 13 = .ok (.bipush 8, 2) := by decide +kernel
theorem d_Mac_init_15 : decode b_Mac_init 15 = .ok (.newarray .int, 2) := by decide +kernel
theorem d_Mac_init_17 : decode b_Mac_init 17 = .ok (.putfield 15, 3) := by decide +kernel
theorem d_Mac_init_20 : decode b_Mac_init 20 = .ok (.aload_n 0, 1) := by decide +kernel
theorem d_Mac_init_21 : decode b_Mac_init 21 = .ok (.bipush 60, 2) := by decide +kernel
theorem d_Mac_init_23 : decode b_Mac_init 23 = .ok (.newarray .int, 2) := by decide +kernel
theorem d_Mac_init_25 : decode b_Mac_init 25 = .ok (.putfield 18, 3) := by decide +kernel
theorem d_Mac_init_28 : decode b_Mac_init 28 = .ok (.aload_n 0, 1) := by decide +kernel
theorem d_Mac_init_29 : decode b_Mac_init 29 = .ok (.bipush 10, 2) := by decide +kernel
theorem d_Mac_init_31 : decode b_Mac_init 31 = .ok (.newarray .int, 2) := by decide +kernel
theorem d_Mac_init_33 : decode b_Mac_init 33 = .ok (.putfield 21, 3) := by decide +kernel
theorem d_Mac_init_36 : decode b_Mac_init 36 = .ok (.return_, 1) := by decide +kernel
abbrev y_Mac_begin : MethodName := ⟨"FusedEngine$Machine", "begin", "()V"⟩
abbrev b_Mac_begin : ByteArray := prog_2_method_2_code
theorem d_Mac_begin_0 : decode b_Mac_begin 0 = .ok (.aload_n 0, 1) := by decide +kernel
theorem d_Mac_begin_1 : decode b_Mac_begin 1 = .ok (.getfield 15, 3) := by decide +kernel
theorem d_Mac_begin_4 : decode b_Mac_begin 4 = .ok (.iconst 0, 1) := by decide +kernel
theorem d_Mac_begin_5 : decode b_Mac_begin 5 = .ok (.invokestatic 24, 3) := by decide +kernel
theorem d_Mac_begin_8 : decode b_Mac_begin 8 = .ok (.aload_n 0, 1) := by decide +kernel
theorem d_Mac_begin_9 : decode b_Mac_begin 9 = .ok (.iconst 0, 1) := by decide +kernel
theorem d_Mac_begin_10 : decode b_Mac_begin 10 = .ok (.putfield 30, 3) := by decide +kernel
theorem d_Mac_begin_13 : decode b_Mac_begin 13 = .ok (.aload_n 0, 1) := by decide +kernel
theorem d_Mac_begin_14 : decode b_Mac_begin 14 = .ok (.iconst 0, 1) := by decide +kernel
theorem d_Mac_begin_15 : decode b_Mac_begin 15 = .ok (.putfield 34, 3) := by decide +kernel
theorem d_Mac_begin_18 : decode b_Mac_begin 18 = .ok (.aload_n 0, 1) := by decide +kernel
theorem d_Mac_begin_19 : decode b_Mac_begin 19 = .ok (.iconst 0, 1) := by decide +kernel
theorem d_Mac_begin_20 : decode b_Mac_begin 20 = .ok (.putfield 37, 3) := by decide +kernel
theorem d_Mac_begin_23 : decode b_Mac_begin 23 = .ok (.aload_n 0, 1) := by decide +kernel
theorem d_Mac_begin_24 : decode b_Mac_begin 24 = .ok (.iconst 0, 1) := by decide +kernel
theorem d_Mac_begin_25 : decode b_Mac_begin 25 = .ok (.putfield 40, 3) := by decide +kernel
theorem d_Mac_begin_28 : decode b_Mac_begin 28 = .ok (.aload_n 0, 1) := by decide +kernel
theorem d_Mac_begin_29 : decode b_Mac_begin 29 = .ok (.iconst 0, 1) := by decide +kernel
theorem d_Mac_begin_30 : decode b_Mac_begin 30 = .ok (.putfield 43, 3) := by decide +kernel
theorem d_Mac_begin_33 : decode b_Mac_begin 33 = .ok (.aload_n 0, 1) := by decide +kernel
theorem d_Mac_begin_34 : decode b_Mac_begin 34 = .ok (.iconst 0, 1) := by decide +kernel
theorem d_Mac_begin_35 : decode b_Mac_begin 35 = .ok (.putfield 46, 3) := by decide +kernel
theorem d_Mac_begin_38 : decode b_Mac_begin 38 = .ok (.return_, 1) := by decide +kernel
abbrev y_Mac_keptOutputs : MethodName := ⟨"FusedEngine$Machine", "keptOutputs", "()I"⟩
abbrev b_Mac_keptOutputs : ByteArray := prog_2_method_3_code
theorem d_Mac_keptOutputs_0 : decode b_Mac_keptOutputs 0 = .ok (.aload_n 0, 1) := by decide +kernel
theorem d_Mac_keptOutputs_1 : decode b_Mac_keptOutputs 1 = .ok (.getfield 37, 3) := by decide +kernel
theorem d_Mac_keptOutputs_4 : decode b_Mac_keptOutputs 4 = .ok (.bipush 60, 2) := by decide +kernel
theorem d_Mac_keptOutputs_6 : decode b_Mac_keptOutputs 6 = .ok (.invokestatic 49, 3) := by decide +kernel
theorem d_Mac_keptOutputs_9 : decode b_Mac_keptOutputs 9 = .ok (.ireturn, 1) := by decide +kernel
abbrev y_Mac_factOf : MethodName := ⟨"FusedEngine$Machine", "factOf", "(I)I"⟩
abbrev b_Mac_factOf : ByteArray := prog_2_method_4_code
theorem d_Mac_factOf_0 : decode b_Mac_factOf 0 = .ok (.iload_n 1, 1) := by decide +kernel
theorem d_Mac_factOf_1 : decode b_Mac_factOf 1 = .ok (.tableswitch 69 0 5 #[39, 44, 49, 54, 59, 64], 39) := by decide +kernel
theorem d_Mac_factOf_40 : decode b_Mac_factOf 40 = .ok (.aload_n 0, 1) := by decide +kernel
theorem d_Mac_factOf_41 : decode b_Mac_factOf 41 = .ok (.getfield 40, 3) := by decide +kernel
theorem d_Mac_factOf_44 : decode b_Mac_factOf 44 = .ok (.ireturn, 1) := by decide +kernel
theorem d_Mac_factOf_45 : decode b_Mac_factOf 45 = .ok (.aload_n 0, 1) := by decide +kernel
theorem d_Mac_factOf_46 : decode b_Mac_factOf 46 = .ok (.getfield 30, 3) := by decide +kernel
theorem d_Mac_factOf_49 : decode b_Mac_factOf 49 = .ok (.ireturn, 1) := by decide +kernel
theorem d_Mac_factOf_50 : decode b_Mac_factOf 50 = .ok (.aload_n 0, 1) := by decide +kernel
theorem d_Mac_factOf_51 : decode b_Mac_factOf 51 = .ok (.getfield 34, 3) := by decide +kernel
theorem d_Mac_factOf_54 : decode b_Mac_factOf 54 = .ok (.ireturn, 1) := by decide +kernel
theorem d_Mac_factOf_55 : decode b_Mac_factOf 55 = .ok (.aload_n 0, 1) := by decide +kernel
theorem d_Mac_factOf_56 : decode b_Mac_factOf 56 = .ok (.getfield 37, 3) := by decide +kernel
theorem d_Mac_factOf_59 : decode b_Mac_factOf 59 = .ok (.ireturn, 1) := by decide +kernel
theorem d_Mac_factOf_60 : decode b_Mac_factOf 60 = .ok (.aload_n 0, 1) := by decide +kernel
theorem d_Mac_factOf_61 : decode b_Mac_factOf 61 = .ok (.getfield 43, 3) := by decide +kernel
theorem d_Mac_factOf_64 : decode b_Mac_factOf 64 = .ok (.ireturn, 1) := by decide +kernel
theorem d_Mac_factOf_65 : decode b_Mac_factOf 65 = .ok (.aload_n 0, 1) := by decide +kernel
theorem d_Mac_factOf_66 : decode b_Mac_factOf 66 = .ok (.getfield 46, 3) := by decide +kernel
theorem d_Mac_factOf_69 : decode b_Mac_factOf 69 = .ok (.ireturn, 1) := by decide +kernel
theorem d_Mac_factOf_70 : decode b_Mac_factOf 70 = .ok (.iconst (-1), 1) := by decide +kernel
theorem d_Mac_factOf_71 : decode b_Mac_factOf 71 = .ok (.ireturn, 1) := by decide +kernel
abbrev y_Mac_goOn : MethodName := ⟨"FusedEngine$Machine", "goOn", "(LFusedEngine$Program;ZI)I"⟩
abbrev b_Mac_goOn : ByteArray := prog_2_method_5_code
theorem d_Mac_goOn_0 : decode b_Mac_goOn 0 = .ok (.iload_n 3, 1) := by decide +kernel
theorem d_Mac_goOn_1 : decode b_Mac_goOn 1 = .ok (.sipush 3000, 3) := by decide +kernel
theorem d_Mac_goOn_4 : decode b_Mac_goOn 4 = .ok (.invokestatic 49, 3) := by decide +kernel
theorem d_Mac_goOn_7 : decode b_Mac_goOn 7 = .ok (.istore 4, 2) := by decide +kernel
theorem d_Mac_goOn_9 : decode b_Mac_goOn 9 = .ok (.iconst 0, 1) := by decide +kernel
theorem d_Mac_goOn_10 : decode b_Mac_goOn 10 = .ok (.istore 5, 2) := by decide +kernel
theorem d_Mac_goOn_12 : decode b_Mac_goOn 12 = .ok (.iload 5, 2) := by decide +kernel
theorem d_Mac_goOn_14 : decode b_Mac_goOn 14 = .ok (.iload 4, 2) := by decide +kernel
theorem d_Mac_goOn_16 : decode b_Mac_goOn 16 = .ok (.if_icmp .ge 49, 3) := by decide +kernel
theorem d_Mac_goOn_19 : decode b_Mac_goOn 19 = .ok (.aload_n 0, 1) := by decide +kernel
theorem d_Mac_goOn_20 : decode b_Mac_goOn 20 = .ok (.getfield 43, 3) := by decide +kernel
theorem d_Mac_goOn_23 : decode b_Mac_goOn 23 = .ok (.ifCond .ne 42, 3) := by decide +kernel
theorem d_Mac_goOn_26 : decode b_Mac_goOn 26 = .ok (.aload_n 1, 1) := by decide +kernel
theorem d_Mac_goOn_27 : decode b_Mac_goOn 27 = .ok (.aload_n 0, 1) := by decide +kernel
theorem d_Mac_goOn_28 : decode b_Mac_goOn 28 = .ok (.getfield 40, 3) := by decide +kernel
theorem d_Mac_goOn_31 : decode b_Mac_goOn 31 = .ok (.invokevirtual 55, 3) := by decide +kernel
theorem d_Mac_goOn_34 : decode b_Mac_goOn 34 = .ok (.ifCond .eq 31, 3) := by decide +kernel
theorem d_Mac_goOn_37 : decode b_Mac_goOn 37 = .ok (.aload_n 0, 1) := by decide +kernel
theorem d_Mac_goOn_38 : decode b_Mac_goOn 38 = .ok (.aload_n 1, 1) := by decide +kernel
theorem d_Mac_goOn_39 : decode b_Mac_goOn 39 = .ok (.iload_n 2, 1) := by decide +kernel
theorem d_Mac_goOn_40 : decode b_Mac_goOn 40 = .ok (.ifCond .eq 15, 3) := by decide +kernel
theorem d_Mac_goOn_43 : decode b_Mac_goOn 43 = .ok (.aload_n 1, 1) := by decide +kernel
theorem d_Mac_goOn_44 : decode b_Mac_goOn 44 = .ok (.getfield 61, 3) := by decide +kernel
theorem d_Mac_goOn_47 : decode b_Mac_goOn 47 = .ok (.aload_n 0, 1) := by decide +kernel
theorem d_Mac_goOn_48 : decode b_Mac_goOn 48 = .ok (.getfield 40, 3) := by decide +kernel
theorem d_Mac_goOn_51 : decode b_Mac_goOn 51 = .ok (.iaload, 1) := by decide +kernel
theorem d_Mac_goOn_52 : decode b_Mac_goOn 52 = .ok (.goto 4, 3) := by decide +kernel
theorem d_Mac_goOn_55 : decode b_Mac_goOn 55 = .ok (.iconst 1, 1) := by decide +kernel
theorem d_Mac_goOn_56 : decode b_Mac_goOn 56 = .ok (.invokevirtual 64, 3) := by decide +kernel
theorem d_Mac_goOn_59 : decode b_Mac_goOn 59 = .ok (.iinc 5 1, 3) := by decide +kernel
theorem d_Mac_goOn_62 : decode b_Mac_goOn 62 = .ok (.goto (-50), 3) := by decide +kernel
theorem d_Mac_goOn_65 : decode b_Mac_goOn 65 = .ok (.iload 5, 2) := by decide +kernel
theorem d_Mac_goOn_67 : decode b_Mac_goOn 67 = .ok (.iload 4, 2) := by decide +kernel
theorem d_Mac_goOn_69 : decode b_Mac_goOn 69 = .ok (.if_icmp .ge 15, 3) := by decide +kernel
theorem d_Mac_goOn_72 : decode b_Mac_goOn 72 = .ok (.aload_n 0, 1) := by decide +kernel
theorem d_Mac_goOn_73 : decode b_Mac_goOn 73 = .ok (.getfield 43, 3) := by decide +kernel
theorem d_Mac_goOn_76 : decode b_Mac_goOn 76 = .ok (.ifCond .ne 8, 3) := by decide +kernel
theorem d_Mac_goOn_79 : decode b_Mac_goOn 79 = .ok (.aload_n 0, 1) := by decide +kernel
theorem d_Mac_goOn_80 : decode b_Mac_goOn 80 = .ok (.iconst 4, 1) := by decide +kernel
theorem d_Mac_goOn_81 : decode b_Mac_goOn 81 = .ok (.putfield 43, 3) := by decide +kernel
theorem d_Mac_goOn_84 : decode b_Mac_goOn 84 = .ok (.iload 5, 2) := by decide +kernel
theorem d_Mac_goOn_86 : decode b_Mac_goOn 86 = .ok (.ireturn, 1) := by decide +kernel
abbrev y_Mac_doRow : MethodName := ⟨"FusedEngine$Machine", "doRow", "(LFusedEngine$Program;I)V"⟩
abbrev b_Mac_doRow : ByteArray := prog_2_method_6_code
theorem d_Mac_doRow_0 : decode b_Mac_doRow 0 = .ok (.iconst 0, 1) := by decide +kernel
theorem d_Mac_doRow_1 : decode b_Mac_doRow 1 = .ok (.istore_n 3, 1) := by decide +kernel
theorem d_Mac_doRow_2 : decode b_Mac_doRow 2 = .ok (.iload_n 3, 1) := by decide +kernel
theorem d_Mac_doRow_3 : decode b_Mac_doRow 3 = .ok (.iload_n 2, 1) := by decide +kernel
theorem d_Mac_doRow_4 : decode b_Mac_doRow 4 = .ok (.if_icmp .ge 74, 3) := by decide +kernel
theorem d_Mac_doRow_7 : decode b_Mac_doRow 7 = .ok (.aload_n 0, 1) := by decide +kernel
theorem d_Mac_doRow_8 : decode b_Mac_doRow 8 = .ok (.getfield 43, 3) := by decide +kernel
theorem d_Mac_doRow_11 : decode b_Mac_doRow 11 = .ok (.ifCond .ne 67, 3) := by decide +kernel
theorem d_Mac_doRow_14 : decode b_Mac_doRow 14 = .ok (.aload_n 1, 1) := by decide +kernel
theorem d_Mac_doRow_15 : decode b_Mac_doRow 15 = .ok (.getfield 68, 3) := by decide +kernel
theorem d_Mac_doRow_18 : decode b_Mac_doRow 18 = .ok (.aload_n 0, 1) := by decide +kernel
theorem d_Mac_doRow_19 : decode b_Mac_doRow 19 = .ok (.getfield 40, 3) := by decide +kernel
theorem d_Mac_doRow_22 : decode b_Mac_doRow 22 = .ok (.iaload, 1) := by decide +kernel
theorem d_Mac_doRow_23 : decode b_Mac_doRow 23 = .ok (.istore 4, 2) := by decide +kernel
theorem d_Mac_doRow_25 : decode b_Mac_doRow 25 = .ok (.aload_n 0, 1) := by decide +kernel
theorem d_Mac_doRow_26 : decode b_Mac_doRow 26 = .ok (.iload 4, 2) := by decide +kernel
theorem d_Mac_doRow_28 : decode b_Mac_doRow 28 = .ok (.invokevirtual 71, 3) := by decide +kernel
theorem d_Mac_doRow_31 : decode b_Mac_doRow 31 = .ok (.istore 5, 2) := by decide +kernel
theorem d_Mac_doRow_33 : decode b_Mac_doRow 33 = .ok (.iload 5, 2) := by decide +kernel
theorem d_Mac_doRow_35 : decode b_Mac_doRow 35 = .ok (.ifCond .ne 31, 3) := by decide +kernel
theorem d_Mac_doRow_38 : decode b_Mac_doRow 38 = .ok (.aload_n 0, 1) := by decide +kernel
theorem d_Mac_doRow_39 : decode b_Mac_doRow 39 = .ok (.dup, 1) := by decide +kernel
theorem d_Mac_doRow_40 : decode b_Mac_doRow 40 = .ok (.getfield 46, 3) := by decide +kernel
theorem d_Mac_doRow_43 : decode b_Mac_doRow 43 = .ok (.iconst 1, 1) := by decide +kernel
theorem d_Mac_doRow_44 : decode b_Mac_doRow 44 = .ok (.iadd, 1) := by decide +kernel
theorem d_Mac_doRow_45 : decode b_Mac_doRow 45 = .ok (.putfield 46, 3) := by decide +kernel
theorem d_Mac_doRow_48 : decode b_Mac_doRow 48 = .ok (.aload_n 0, 1) := by decide +kernel
theorem d_Mac_doRow_49 : decode b_Mac_doRow 49 = .ok (.iload 4, 2) := by decide +kernel
theorem d_Mac_doRow_51 : decode b_Mac_doRow 51 = .ok (.aload_n 1, 1) := by decide +kernel
theorem d_Mac_doRow_52 : decode b_Mac_doRow 52 = .ok (.getfield 75, 3) := by decide +kernel
theorem d_Mac_doRow_55 : decode b_Mac_doRow 55 = .ok (.aload_n 0, 1) := by decide +kernel
theorem d_Mac_doRow_56 : decode b_Mac_doRow 56 = .ok (.getfield 40, 3) := by decide +kernel
theorem d_Mac_doRow_59 : decode b_Mac_doRow 59 = .ok (.iaload, 1) := by decide +kernel
theorem d_Mac_doRow_60 : decode b_Mac_doRow 60 = .ok (.invokevirtual 78, 3) := by decide +kernel
theorem d_Mac_doRow_63 : decode b_Mac_doRow 63 = .ok (.goto 9, 3) := by decide +kernel
theorem d_Mac_doRow_66 : decode b_Mac_doRow 66 = .ok (.aload_n 0, 1) := by decide +kernel
theorem d_Mac_doRow_67 : decode b_Mac_doRow 67 = .ok (.iload 5, 2) := by decide +kernel
theorem d_Mac_doRow_69 : decode b_Mac_doRow 69 = .ok (.putfield 43, 3) := by decide +kernel
theorem d_Mac_doRow_72 : decode b_Mac_doRow 72 = .ok (.iinc 3 1, 3) := by decide +kernel
theorem d_Mac_doRow_75 : decode b_Mac_doRow 75 = .ok (.goto (-73), 3) := by decide +kernel
theorem d_Mac_doRow_78 : decode b_Mac_doRow 78 = .ok (.return_, 1) := by decide +kernel
abbrev y_Mac_trapOf : MethodName := ⟨"FusedEngine$Machine", "trapOf", "(I)I"⟩
abbrev b_Mac_trapOf : ByteArray := prog_2_method_7_code
theorem d_Mac_trapOf_0 : decode b_Mac_trapOf 0 = .ok (.aload_n 0, 1) := by decide +kernel
theorem d_Mac_trapOf_1 : decode b_Mac_trapOf 1 = .ok (.getfield 30, 3) := by decide +kernel
theorem d_Mac_trapOf_4 : decode b_Mac_trapOf 4 = .ok (.iload_n 1, 1) := by decide +kernel
theorem d_Mac_trapOf_5 : decode b_Mac_trapOf 5 = .ok (.invokestatic 82, 3) := by decide +kernel
theorem d_Mac_trapOf_8 : decode b_Mac_trapOf 8 = .ok (.if_icmp .lt 16, 3) := by decide +kernel
theorem d_Mac_trapOf_11 : decode b_Mac_trapOf 11 = .ok (.iload_n 1, 1) := by decide +kernel
theorem d_Mac_trapOf_12 : decode b_Mac_trapOf 12 = .ok (.bipush 82, 2) := by decide +kernel
theorem d_Mac_trapOf_14 : decode b_Mac_trapOf 14 = .ok (.if_icmp .ne 12, 3) := by decide +kernel
theorem d_Mac_trapOf_17 : decode b_Mac_trapOf 17 = .ok (.aload_n 0, 1) := by decide +kernel
theorem d_Mac_trapOf_18 : decode b_Mac_trapOf 18 = .ok (.getfield 34, 3) := by decide +kernel
theorem d_Mac_trapOf_21 : decode b_Mac_trapOf 21 = .ok (.ifCond .ne 5, 3) := by decide +kernel
theorem d_Mac_trapOf_24 : decode b_Mac_trapOf 24 = .ok (.iconst 1, 1) := by decide +kernel
theorem d_Mac_trapOf_25 : decode b_Mac_trapOf 25 = .ok (.ireturn, 1) := by decide +kernel
theorem d_Mac_trapOf_26 : decode b_Mac_trapOf 26 = .ok (.iload_n 1, 1) := by decide +kernel
theorem d_Mac_trapOf_27 : decode b_Mac_trapOf 27 = .ok (.invokestatic 85, 3) := by decide +kernel
theorem d_Mac_trapOf_30 : decode b_Mac_trapOf 30 = .ok (.ifCond .eq 12, 3) := by decide +kernel
theorem d_Mac_trapOf_33 : decode b_Mac_trapOf 33 = .ok (.aload_n 0, 1) := by decide +kernel
theorem d_Mac_trapOf_34 : decode b_Mac_trapOf 34 = .ok (.getfield 30, 3) := by decide +kernel
theorem d_Mac_trapOf_37 : decode b_Mac_trapOf 37 = .ok (.bipush 40, 2) := by decide +kernel
theorem d_Mac_trapOf_39 : decode b_Mac_trapOf 39 = .ok (.if_icmp .eq 18, 3) := by decide +kernel
theorem d_Mac_trapOf_42 : decode b_Mac_trapOf 42 = .ok (.iload_n 1, 1) := by decide +kernel
theorem d_Mac_trapOf_43 : decode b_Mac_trapOf 43 = .ok (.bipush 67, 2) := by decide +kernel
theorem d_Mac_trapOf_45 : decode b_Mac_trapOf 45 = .ok (.if_icmp .ne 14, 3) := by decide +kernel
theorem d_Mac_trapOf_48 : decode b_Mac_trapOf 48 = .ok (.aload_n 0, 1) := by decide +kernel
theorem d_Mac_trapOf_49 : decode b_Mac_trapOf 49 = .ok (.getfield 34, 3) := by decide +kernel
theorem d_Mac_trapOf_52 : decode b_Mac_trapOf 52 = .ok (.bipush 10, 2) := by decide +kernel
theorem d_Mac_trapOf_54 : decode b_Mac_trapOf 54 = .ok (.if_icmp .ne 5, 3) := by decide +kernel
theorem d_Mac_trapOf_57 : decode b_Mac_trapOf 57 = .ok (.iconst 2, 1) := by decide +kernel
theorem d_Mac_trapOf_58 : decode b_Mac_trapOf 58 = .ok (.ireturn, 1) := by decide +kernel
theorem d_Mac_trapOf_59 : decode b_Mac_trapOf 59 = .ok (.iload_n 1, 1) := by decide +kernel
theorem d_Mac_trapOf_60 : decode b_Mac_trapOf 60 = .ok (.bipush 47, 2) := by decide +kernel
theorem d_Mac_trapOf_62 : decode b_Mac_trapOf 62 = .ok (.if_icmp .ne 19, 3) := by decide +kernel
theorem d_Mac_trapOf_65 : decode b_Mac_trapOf 65 = .ok (.aload_n 0, 1) := by decide +kernel
theorem d_Mac_trapOf_66 : decode b_Mac_trapOf 66 = .ok (.getfield 11, 3) := by decide +kernel
theorem d_Mac_trapOf_69 : decode b_Mac_trapOf 69 = .ok (.aload_n 0, 1) := by decide +kernel
theorem d_Mac_trapOf_70 : decode b_Mac_trapOf 70 = .ok (.getfield 30, 3) := by decide +kernel
theorem d_Mac_trapOf_73 : decode b_Mac_trapOf 73 = .ok (.iconst 1, 1) := by decide +kernel
theorem d_Mac_trapOf_74 : decode b_Mac_trapOf 74 = .ok (.isub, 1) := by decide +kernel
theorem d_Mac_trapOf_75 : decode b_Mac_trapOf 75 = .ok (.iaload, 1) := by decide +kernel
theorem d_Mac_trapOf_76 : decode b_Mac_trapOf 76 = .ok (.ifCond .ne 5, 3) := by decide +kernel
theorem d_Mac_trapOf_79 : decode b_Mac_trapOf 79 = .ok (.iconst 3, 1) := by decide +kernel
theorem d_Mac_trapOf_80 : decode b_Mac_trapOf 80 = .ok (.ireturn, 1) := by decide +kernel
theorem d_Mac_trapOf_81 : decode b_Mac_trapOf 81 = .ok (.iconst 0, 1) := by decide +kernel
theorem d_Mac_trapOf_82 : decode b_Mac_trapOf 82 = .ok (.ireturn, 1) := by decide +kernel
abbrev y_Mac_neededValues : MethodName := ⟨"FusedEngine$Machine", "neededValues", "(I)I"⟩
abbrev b_Mac_neededValues : ByteArray := prog_2_method_8_code
theorem d_Mac_neededValues_0 : decode b_Mac_neededValues 0 = .ok (.iload_n 0, 1) := by decide +kernel
theorem d_Mac_neededValues_1 : decode b_Mac_neededValues 1 = .ok (.tableswitch 215 42 90 #[211, 211, 215, 211, 215, 211, 215, 215, 215, 215, 215, 215, 215, 215, 215, 215, 215, 215, 211, 211, 215, 215, 215, 215, 215, 215, 213, 215, 215, 215, 215, 215, 215, 215, 215, 215, 215, 213, 215, 215, 215, 213, 215, 215, 213, 215, 211, 215, 213], 211) := by decide +kernel
theorem d_Mac_neededValues_212 : decode b_Mac_neededValues 212 = .ok (.iconst 2, 1) := by decide +kernel
theorem d_Mac_neededValues_213 : decode b_Mac_neededValues 213 = .ok (.ireturn, 1) := by decide +kernel
theorem d_Mac_neededValues_214 : decode b_Mac_neededValues 214 = .ok (.iconst 1, 1) := by decide +kernel
theorem d_Mac_neededValues_215 : decode b_Mac_neededValues 215 = .ok (.ireturn, 1) := by decide +kernel
theorem d_Mac_neededValues_216 : decode b_Mac_neededValues 216 = .ok (.iconst 0, 1) := by decide +kernel
theorem d_Mac_neededValues_217 : decode b_Mac_neededValues 217 = .ok (.ireturn, 1) := by decide +kernel
abbrev y_Mac_putsOneMore : MethodName := ⟨"FusedEngine$Machine", "putsOneMore", "(I)Z"⟩
abbrev b_Mac_putsOneMore : ByteArray := prog_2_method_9_code
theorem d_Mac_putsOneMore_0 : decode b_Mac_putsOneMore 0 = .ok (.iload_n 0, 1) := by decide +kernel
theorem d_Mac_putsOneMore_1 : decode b_Mac_putsOneMore 1 = .ok (.bipush 80, 2) := by decide +kernel
theorem d_Mac_putsOneMore_3 : decode b_Mac_putsOneMore 3 = .ok (.if_icmp .eq 15, 3) := by decide +kernel
theorem d_Mac_putsOneMore_6 : decode b_Mac_putsOneMore 6 = .ok (.iload_n 0, 1) := by decide +kernel
theorem d_Mac_putsOneMore_7 : decode b_Mac_putsOneMore 7 = .ok (.bipush 76, 2) := by decide +kernel
theorem d_Mac_putsOneMore_9 : decode b_Mac_putsOneMore 9 = .ok (.if_icmp .eq 9, 3) := by decide +kernel
theorem d_Mac_putsOneMore_12 : decode b_Mac_putsOneMore 12 = .ok (.iload_n 0, 1) := by decide +kernel
theorem d_Mac_putsOneMore_13 : decode b_Mac_putsOneMore 13 = .ok (.bipush 68, 2) := by decide +kernel
theorem d_Mac_putsOneMore_15 : decode b_Mac_putsOneMore 15 = .ok (.if_icmp .ne 7, 3) := by decide +kernel
theorem d_Mac_putsOneMore_18 : decode b_Mac_putsOneMore 18 = .ok (.iconst 1, 1) := by decide +kernel
theorem d_Mac_putsOneMore_19 : decode b_Mac_putsOneMore 19 = .ok (.goto 4, 3) := by decide +kernel
theorem d_Mac_putsOneMore_22 : decode b_Mac_putsOneMore 22 = .ok (.iconst 0, 1) := by decide +kernel
theorem d_Mac_putsOneMore_23 : decode b_Mac_putsOneMore 23 = .ok (.ireturn, 1) := by decide +kernel
abbrev y_Mac_act : MethodName := ⟨"FusedEngine$Machine", "act", "(II)V"⟩
abbrev b_Mac_act : ByteArray := prog_2_method_10_code
theorem d_Mac_act_0 : decode b_Mac_act 0 = .ok (.aload_n 0, 1) := by decide +kernel
theorem d_Mac_act_1 : decode b_Mac_act 1 = .ok (.getfield 40, 3) := by decide +kernel
theorem d_Mac_act_4 : decode b_Mac_act 4 = .ok (.iconst 1, 1) := by decide +kernel
theorem d_Mac_act_5 : decode b_Mac_act 5 = .ok (.iadd, 1) := by decide +kernel
theorem d_Mac_act_6 : decode b_Mac_act 6 = .ok (.istore_n 3, 1) := by decide +kernel
theorem d_Mac_act_7 : decode b_Mac_act 7 = .ok (.iload_n 1, 1) := by decide +kernel
theorem d_Mac_act_8 : decode b_Mac_act 8 = .ok (.tableswitch 272 67 90 #[211, 146, 272, 272, 272, 259, 272, 190, 272, 120, 272, 272, 171, 112, 272, 236, 133, 272, 272, 182, 272, 164, 272, 195], 112) := by decide +kernel
theorem d_Mac_act_120 : decode b_Mac_act 120 = .ok (.aload_n 0, 1) := by decide +kernel
theorem d_Mac_act_121 : decode b_Mac_act 121 = .ok (.iload_n 2, 1) := by decide +kernel
theorem d_Mac_act_122 : decode b_Mac_act 122 = .ok (.invokevirtual 88, 3) := by decide +kernel
theorem d_Mac_act_125 : decode b_Mac_act 125 = .ok (.goto 160, 3) := by decide +kernel
theorem d_Mac_act_128 : decode b_Mac_act 128 = .ok (.aload_n 0, 1) := by decide +kernel
theorem d_Mac_act_129 : decode b_Mac_act 129 = .ok (.aload_n 0, 1) := by decide +kernel
theorem d_Mac_act_130 : decode b_Mac_act 130 = .ok (.getfield 15, 3) := by decide +kernel
theorem d_Mac_act_133 : decode b_Mac_act 133 = .ok (.iload_n 2, 1) := by decide +kernel
theorem d_Mac_act_134 : decode b_Mac_act 134 = .ok (.iaload, 1) := by decide +kernel
theorem d_Mac_act_135 : decode b_Mac_act 135 = .ok (.invokevirtual 88, 3) := by decide +kernel
theorem d_Mac_act_138 : decode b_Mac_act 138 = .ok (.goto 147, 3) := by decide +kernel
theorem d_Mac_act_141 : decode b_Mac_act 141 = .ok (.aload_n 0, 1) := by decide +kernel
theorem d_Mac_act_142 : decode b_Mac_act 142 = .ok (.getfield 15, 3) := by decide +kernel
theorem d_Mac_act_145 : decode b_Mac_act 145 = .ok (.iload_n 2, 1) := by decide +kernel
theorem d_Mac_act_146 : decode b_Mac_act 146 = .ok (.aload_n 0, 1) := by decide +kernel
theorem d_Mac_act_147 : decode b_Mac_act 147 = .ok (.invokevirtual 92, 3) := by decide +kernel
theorem d_Mac_act_150 : decode b_Mac_act 150 = .ok (.iastore, 1) := by decide +kernel
theorem d_Mac_act_151 : decode b_Mac_act 151 = .ok (.goto 134, 3) := by decide +kernel
theorem d_Mac_act_154 : decode b_Mac_act 154 = .ok (.aload_n 0, 1) := by decide +kernel
theorem d_Mac_act_155 : decode b_Mac_act 155 = .ok (.aload_n 0, 1) := by decide +kernel
theorem d_Mac_act_156 : decode b_Mac_act 156 = .ok (.getfield 11, 3) := by decide +kernel
theorem d_Mac_act_159 : decode b_Mac_act 159 = .ok (.aload_n 0, 1) := by decide +kernel
theorem d_Mac_act_160 : decode b_Mac_act 160 = .ok (.getfield 30, 3) := by decide +kernel
theorem d_Mac_act_163 : decode b_Mac_act 163 = .ok (.iconst 1, 1) := by decide +kernel
theorem d_Mac_act_164 : decode b_Mac_act 164 = .ok (.isub, 1) := by decide +kernel
theorem d_Mac_act_165 : decode b_Mac_act 165 = .ok (.iaload, 1) := by decide +kernel
theorem d_Mac_act_166 : decode b_Mac_act 166 = .ok (.invokevirtual 88, 3) := by decide +kernel
theorem d_Mac_act_169 : decode b_Mac_act 169 = .ok (.goto 116, 3) := by decide +kernel
theorem d_Mac_act_172 : decode b_Mac_act 172 = .ok (.aload_n 0, 1) := by decide +kernel
theorem d_Mac_act_173 : decode b_Mac_act 173 = .ok (.invokevirtual 96, 3) := by decide +kernel
theorem d_Mac_act_176 : decode b_Mac_act 176 = .ok (.goto 109, 3) := by decide +kernel
theorem d_Mac_act_179 : decode b_Mac_act 179 = .ok (.aload_n 0, 1) := by decide +kernel
theorem d_Mac_act_180 : decode b_Mac_act 180 = .ok (.aload_n 0, 1) := by decide +kernel
theorem d_Mac_act_181 : decode b_Mac_act 181 = .ok (.invokevirtual 92, 3) := by decide +kernel
theorem d_Mac_act_184 : decode b_Mac_act 184 = .ok (.invokevirtual 99, 3) := by decide +kernel
theorem d_Mac_act_187 : decode b_Mac_act 187 = .ok (.goto 98, 3) := by decide +kernel
theorem d_Mac_act_190 : decode b_Mac_act 190 = .ok (.aload_n 0, 1) := by decide +kernel
theorem d_Mac_act_191 : decode b_Mac_act 191 = .ok (.invokevirtual 92, 3) := by decide +kernel
theorem d_Mac_act_194 : decode b_Mac_act 194 = .ok (.pop, 1) := by decide +kernel
theorem d_Mac_act_195 : decode b_Mac_act 195 = .ok (.goto 90, 3) := by decide +kernel
theorem d_Mac_act_198 : decode b_Mac_act 198 = .ok (.iload_n 2, 1) := by decide +kernel
theorem d_Mac_act_199 : decode b_Mac_act 199 = .ok (.istore_n 3, 1) := by decide +kernel
theorem d_Mac_act_200 : decode b_Mac_act 200 = .ok (.goto 85, 3) := by decide +kernel
theorem d_Mac_act_203 : decode b_Mac_act 203 = .ok (.aload_n 0, 1) := by decide +kernel
theorem d_Mac_act_204 : decode b_Mac_act 204 = .ok (.invokevirtual 92, 3) := by decide +kernel
theorem d_Mac_act_207 : decode b_Mac_act 207 = .ok (.ifCond .ne 7, 3) := by decide +kernel
theorem d_Mac_act_210 : decode b_Mac_act 210 = .ok (.iload_n 2, 1) := by decide +kernel
theorem d_Mac_act_211 : decode b_Mac_act 211 = .ok (.goto 4, 3) := by decide +kernel
theorem d_Mac_act_214 : decode b_Mac_act 214 = .ok (.iload_n 3, 1) := by decide +kernel
theorem d_Mac_act_215 : decode b_Mac_act 215 = .ok (.istore_n 3, 1) := by decide +kernel
theorem d_Mac_act_216 : decode b_Mac_act 216 = .ok (.goto 69, 3) := by decide +kernel
theorem d_Mac_act_219 : decode b_Mac_act 219 = .ok (.aload_n 0, 1) := by decide +kernel
theorem d_Mac_act_220 : decode b_Mac_act 220 = .ok (.getfield 21, 3) := by decide +kernel
theorem d_Mac_act_223 : decode b_Mac_act 223 = .ok (.aload_n 0, 1) := by decide +kernel
theorem d_Mac_act_224 : decode b_Mac_act 224 = .ok (.getfield 34, 3) := by decide +kernel
theorem d_Mac_act_227 : decode b_Mac_act 227 = .ok (.iload_n 3, 1) := by decide +kernel
theorem d_Mac_act_228 : decode b_Mac_act 228 = .ok (.iastore, 1) := by decide +kernel
theorem d_Mac_act_229 : decode b_Mac_act 229 = .ok (.aload_n 0, 1) := by decide +kernel
theorem d_Mac_act_230 : decode b_Mac_act 230 = .ok (.dup, 1) := by decide +kernel
theorem d_Mac_act_231 : decode b_Mac_act 231 = .ok (.getfield 34, 3) := by decide +kernel
theorem d_Mac_act_234 : decode b_Mac_act 234 = .ok (.iconst 1, 1) := by decide +kernel
theorem d_Mac_act_235 : decode b_Mac_act 235 = .ok (.iadd, 1) := by decide +kernel
theorem d_Mac_act_236 : decode b_Mac_act 236 = .ok (.putfield 34, 3) := by decide +kernel
theorem d_Mac_act_239 : decode b_Mac_act 239 = .ok (.iload_n 2, 1) := by decide +kernel
theorem d_Mac_act_240 : decode b_Mac_act 240 = .ok (.istore_n 3, 1) := by decide +kernel
theorem d_Mac_act_241 : decode b_Mac_act 241 = .ok (.goto 44, 3) := by decide +kernel
theorem d_Mac_act_244 : decode b_Mac_act 244 = .ok (.aload_n 0, 1) := by decide +kernel
theorem d_Mac_act_245 : decode b_Mac_act 245 = .ok (.dup, 1) := by decide +kernel
theorem d_Mac_act_246 : decode b_Mac_act 246 = .ok (.getfield 34, 3) := by decide +kernel
theorem d_Mac_act_249 : decode b_Mac_act 249 = .ok (.iconst 1, 1) := by decide +kernel
theorem d_Mac_act_250 : decode b_Mac_act 250 = .ok (.isub, 1) := by decide +kernel
theorem d_Mac_act_251 : decode b_Mac_act 251 = .ok (.putfield 34, 3) := by decide +kernel
theorem d_Mac_act_254 : decode b_Mac_act 254 = .ok (.aload_n 0, 1) := by decide +kernel
theorem d_Mac_act_255 : decode b_Mac_act 255 = .ok (.getfield 21, 3) := by decide +kernel
theorem d_Mac_act_258 : decode b_Mac_act 258 = .ok (.aload_n 0, 1) := by decide +kernel
theorem d_Mac_act_259 : decode b_Mac_act 259 = .ok (.getfield 34, 3) := by decide +kernel
theorem d_Mac_act_262 : decode b_Mac_act 262 = .ok (.iaload, 1) := by decide +kernel
theorem d_Mac_act_263 : decode b_Mac_act 263 = .ok (.istore_n 3, 1) := by decide +kernel
theorem d_Mac_act_264 : decode b_Mac_act 264 = .ok (.goto 21, 3) := by decide +kernel
theorem d_Mac_act_267 : decode b_Mac_act 267 = .ok (.aload_n 0, 1) := by decide +kernel
theorem d_Mac_act_268 : decode b_Mac_act 268 = .ok (.iconst 5, 1) := by decide +kernel
theorem d_Mac_act_269 : decode b_Mac_act 269 = .ok (.putfield 43, 3) := by decide +kernel
theorem d_Mac_act_272 : decode b_Mac_act 272 = .ok (.aload_n 0, 1) := by decide +kernel
theorem d_Mac_act_273 : decode b_Mac_act 273 = .ok (.getfield 40, 3) := by decide +kernel
theorem d_Mac_act_276 : decode b_Mac_act 276 = .ok (.istore_n 3, 1) := by decide +kernel
theorem d_Mac_act_277 : decode b_Mac_act 277 = .ok (.goto 8, 3) := by decide +kernel
theorem d_Mac_act_280 : decode b_Mac_act 280 = .ok (.aload_n 0, 1) := by decide +kernel
theorem d_Mac_act_281 : decode b_Mac_act 281 = .ok (.iload_n 1, 1) := by decide +kernel
theorem d_Mac_act_282 : decode b_Mac_act 282 = .ok (.invokevirtual 102, 3) := by decide +kernel
theorem d_Mac_act_285 : decode b_Mac_act 285 = .ok (.aload_n 0, 1) := by decide +kernel
theorem d_Mac_act_286 : decode b_Mac_act 286 = .ok (.iload_n 3, 1) := by decide +kernel
theorem d_Mac_act_287 : decode b_Mac_act 287 = .ok (.putfield 40, 3) := by decide +kernel
theorem d_Mac_act_290 : decode b_Mac_act 290 = .ok (.return_, 1) := by decide +kernel
abbrev y_Mac_push : MethodName := ⟨"FusedEngine$Machine", "push", "(I)V"⟩
abbrev b_Mac_push : ByteArray := prog_2_method_11_code
theorem d_Mac_push_0 : decode b_Mac_push 0 = .ok (.aload_n 0, 1) := by decide +kernel
theorem d_Mac_push_1 : decode b_Mac_push 1 = .ok (.getfield 11, 3) := by decide +kernel
theorem d_Mac_push_4 : decode b_Mac_push 4 = .ok (.aload_n 0, 1) := by decide +kernel
theorem d_Mac_push_5 : decode b_Mac_push 5 = .ok (.getfield 30, 3) := by decide +kernel
theorem d_Mac_push_8 : decode b_Mac_push 8 = .ok (.iload_n 1, 1) := by decide +kernel
theorem d_Mac_push_9 : decode b_Mac_push 9 = .ok (.iastore, 1) := by decide +kernel
theorem d_Mac_push_10 : decode b_Mac_push 10 = .ok (.aload_n 0, 1) := by decide +kernel
theorem d_Mac_push_11 : decode b_Mac_push 11 = .ok (.dup, 1) := by decide +kernel
theorem d_Mac_push_12 : decode b_Mac_push 12 = .ok (.getfield 30, 3) := by decide +kernel
theorem d_Mac_push_15 : decode b_Mac_push 15 = .ok (.iconst 1, 1) := by decide +kernel
theorem d_Mac_push_16 : decode b_Mac_push 16 = .ok (.iadd, 1) := by decide +kernel
theorem d_Mac_push_17 : decode b_Mac_push 17 = .ok (.putfield 30, 3) := by decide +kernel
theorem d_Mac_push_20 : decode b_Mac_push 20 = .ok (.return_, 1) := by decide +kernel
abbrev y_Mac_pop : MethodName := ⟨"FusedEngine$Machine", "pop", "()I"⟩
abbrev b_Mac_pop : ByteArray := prog_2_method_12_code
theorem d_Mac_pop_0 : decode b_Mac_pop 0 = .ok (.aload_n 0, 1) := by decide +kernel
theorem d_Mac_pop_1 : decode b_Mac_pop 1 = .ok (.dup, 1) := by decide +kernel
theorem d_Mac_pop_2 : decode b_Mac_pop 2 = .ok (.getfield 30, 3) := by decide +kernel
theorem d_Mac_pop_5 : decode b_Mac_pop 5 = .ok (.iconst 1, 1) := by decide +kernel
theorem d_Mac_pop_6 : decode b_Mac_pop 6 = .ok (.isub, 1) := by decide +kernel
theorem d_Mac_pop_7 : decode b_Mac_pop 7 = .ok (.putfield 30, 3) := by decide +kernel
theorem d_Mac_pop_10 : decode b_Mac_pop 10 = .ok (.aload_n 0, 1) := by decide +kernel
theorem d_Mac_pop_11 : decode b_Mac_pop 11 = .ok (.getfield 11, 3) := by decide +kernel
theorem d_Mac_pop_14 : decode b_Mac_pop 14 = .ok (.aload_n 0, 1) := by decide +kernel
theorem d_Mac_pop_15 : decode b_Mac_pop 15 = .ok (.getfield 30, 3) := by decide +kernel
theorem d_Mac_pop_18 : decode b_Mac_pop 18 = .ok (.iaload, 1) := by decide +kernel
theorem d_Mac_pop_19 : decode b_Mac_pop 19 = .ok (.ireturn, 1) := by decide +kernel
abbrev y_Mac_exchange : MethodName := ⟨"FusedEngine$Machine", "exchange", "()V"⟩
abbrev b_Mac_exchange : ByteArray := prog_2_method_13_code
theorem d_Mac_exchange_0 : decode b_Mac_exchange 0 = .ok (.aload_n 0, 1) := by decide +kernel
theorem d_Mac_exchange_1 : decode b_Mac_exchange 1 = .ok (.getfield 11, 3) := by decide +kernel
theorem d_Mac_exchange_4 : decode b_Mac_exchange 4 = .ok (.aload_n 0, 1) := by decide +kernel
theorem d_Mac_exchange_5 : decode b_Mac_exchange 5 = .ok (.getfield 30, 3) := by decide +kernel
theorem d_Mac_exchange_8 : decode b_Mac_exchange 8 = .ok (.iconst 1, 1) := by decide +kernel
theorem d_Mac_exchange_9 : decode b_Mac_exchange 9 = .ok (.isub, 1) := by decide +kernel
theorem d_Mac_exchange_10 : decode b_Mac_exchange 10 = .ok (.iaload, 1) := by decide +kernel
theorem d_Mac_exchange_11 : decode b_Mac_exchange 11 = .ok (.istore_n 1, 1) := by decide +kernel
theorem d_Mac_exchange_12 : decode b_Mac_exchange 12 = .ok (.aload_n 0, 1) := by decide +kernel
theorem d_Mac_exchange_13 : decode b_Mac_exchange 13 = .ok (.getfield 11, 3) := by decide +kernel
theorem d_Mac_exchange_16 : decode b_Mac_exchange 16 = .ok (.aload_n 0, 1) := by decide +kernel
theorem d_Mac_exchange_17 : decode b_Mac_exchange 17 = .ok (.getfield 30, 3) := by decide +kernel
theorem d_Mac_exchange_20 : decode b_Mac_exchange 20 = .ok (.iconst 1, 1) := by decide +kernel
theorem d_Mac_exchange_21 : decode b_Mac_exchange 21 = .ok (.isub, 1) := by decide +kernel
theorem d_Mac_exchange_22 : decode b_Mac_exchange 22 = .ok (.aload_n 0, 1) := by decide +kernel
theorem d_Mac_exchange_23 : decode b_Mac_exchange 23 = .ok (.getfield 11, 3) := by decide +kernel
theorem d_Mac_exchange_26 : decode b_Mac_exchange 26 = .ok (.aload_n 0, 1) := by decide +kernel
theorem d_Mac_exchange_27 : decode b_Mac_exchange 27 = .ok (.getfield 30, 3) := by decide +kernel
theorem d_Mac_exchange_30 : decode b_Mac_exchange 30 = .ok (.iconst 2, 1) := by decide +kernel
theorem d_Mac_exchange_31 : decode b_Mac_exchange 31 = .ok (.isub, 1) := by decide +kernel
theorem d_Mac_exchange_32 : decode b_Mac_exchange 32 = .ok (.iaload, 1) := by decide +kernel
theorem d_Mac_exchange_33 : decode b_Mac_exchange 33 = .ok (.iastore, 1) := by decide +kernel
theorem d_Mac_exchange_34 : decode b_Mac_exchange 34 = .ok (.aload_n 0, 1) := by decide +kernel
theorem d_Mac_exchange_35 : decode b_Mac_exchange 35 = .ok (.getfield 11, 3) := by decide +kernel
theorem d_Mac_exchange_38 : decode b_Mac_exchange 38 = .ok (.aload_n 0, 1) := by decide +kernel
theorem d_Mac_exchange_39 : decode b_Mac_exchange 39 = .ok (.getfield 30, 3) := by decide +kernel
theorem d_Mac_exchange_42 : decode b_Mac_exchange 42 = .ok (.iconst 2, 1) := by decide +kernel
theorem d_Mac_exchange_43 : decode b_Mac_exchange 43 = .ok (.isub, 1) := by decide +kernel
theorem d_Mac_exchange_44 : decode b_Mac_exchange 44 = .ok (.iload_n 1, 1) := by decide +kernel
theorem d_Mac_exchange_45 : decode b_Mac_exchange 45 = .ok (.iastore, 1) := by decide +kernel
theorem d_Mac_exchange_46 : decode b_Mac_exchange 46 = .ok (.return_, 1) := by decide +kernel
abbrev y_Mac_putOut : MethodName := ⟨"FusedEngine$Machine", "putOut", "(I)V"⟩
abbrev b_Mac_putOut : ByteArray := prog_2_method_14_code
theorem d_Mac_putOut_0 : decode b_Mac_putOut 0 = .ok (.aload_n 0, 1) := by decide +kernel
theorem d_Mac_putOut_1 : decode b_Mac_putOut 1 = .ok (.getfield 37, 3) := by decide +kernel
theorem d_Mac_putOut_4 : decode b_Mac_putOut 4 = .ok (.bipush 60, 2) := by decide +kernel
theorem d_Mac_putOut_6 : decode b_Mac_putOut 6 = .ok (.if_icmp .ge 13, 3) := by decide +kernel
theorem d_Mac_putOut_9 : decode b_Mac_putOut 9 = .ok (.aload_n 0, 1) := by decide +kernel
theorem d_Mac_putOut_10 : decode b_Mac_putOut 10 = .ok (.getfield 18, 3) := by decide +kernel
theorem d_Mac_putOut_13 : decode b_Mac_putOut 13 = .ok (.aload_n 0, 1) := by decide +kernel
theorem d_Mac_putOut_14 : decode b_Mac_putOut 14 = .ok (.getfield 37, 3) := by decide +kernel
theorem d_Mac_putOut_17 : decode b_Mac_putOut 17 = .ok (.iload_n 1, 1) := by decide +kernel
theorem d_Mac_putOut_18 : decode b_Mac_putOut 18 = .ok (.iastore, 1) := by decide +kernel
theorem d_Mac_putOut_19 : decode b_Mac_putOut 19 = .ok (.aload_n 0, 1) := by decide +kernel
theorem d_Mac_putOut_20 : decode b_Mac_putOut 20 = .ok (.dup, 1) := by decide +kernel
theorem d_Mac_putOut_21 : decode b_Mac_putOut 21 = .ok (.getfield 37, 3) := by decide +kernel
theorem d_Mac_putOut_24 : decode b_Mac_putOut 24 = .ok (.iconst 1, 1) := by decide +kernel
theorem d_Mac_putOut_25 : decode b_Mac_putOut 25 = .ok (.iadd, 1) := by decide +kernel
theorem d_Mac_putOut_26 : decode b_Mac_putOut 26 = .ok (.putfield 37, 3) := by decide +kernel
theorem d_Mac_putOut_29 : decode b_Mac_putOut 29 = .ok (.return_, 1) := by decide +kernel
abbrev y_Mac_combine : MethodName := ⟨"FusedEngine$Machine", "combine", "(I)V"⟩
abbrev b_Mac_combine : ByteArray := prog_2_method_15_code
theorem d_Mac_combine_0 : decode b_Mac_combine 0 = .ok (.aload_n 0, 1) := by decide +kernel
theorem d_Mac_combine_1 : decode b_Mac_combine 1 = .ok (.invokevirtual 92, 3) := by decide +kernel
theorem d_Mac_combine_4 : decode b_Mac_combine 4 = .ok (.istore_n 2, 1) := by decide +kernel
theorem d_Mac_combine_5 : decode b_Mac_combine 5 = .ok (.aload_n 0, 1) := by decide +kernel
theorem d_Mac_combine_6 : decode b_Mac_combine 6 = .ok (.invokevirtual 92, 3) := by decide +kernel
theorem d_Mac_combine_9 : decode b_Mac_combine 9 = .ok (.istore_n 3, 1) := by decide +kernel
theorem d_Mac_combine_10 : decode b_Mac_combine 10 = .ok (.aload_n 0, 1) := by decide +kernel
theorem d_Mac_combine_11 : decode b_Mac_combine 11 = .ok (.iload_n 1, 1) := by decide +kernel
theorem d_Mac_combine_12 : decode b_Mac_combine 12 = .ok (.iload_n 3, 1) := by decide +kernel
theorem d_Mac_combine_13 : decode b_Mac_combine 13 = .ok (.iload_n 2, 1) := by decide +kernel
theorem d_Mac_combine_14 : decode b_Mac_combine 14 = .ok (.invokestatic 105, 3) := by decide +kernel
theorem d_Mac_combine_17 : decode b_Mac_combine 17 = .ok (.invokevirtual 88, 3) := by decide +kernel
theorem d_Mac_combine_20 : decode b_Mac_combine 20 = .ok (.return_, 1) := by decide +kernel
abbrev y_Mac_resultOf : MethodName := ⟨"FusedEngine$Machine", "resultOf", "(III)I"⟩
abbrev b_Mac_resultOf : ByteArray := prog_2_method_16_code
theorem d_Mac_resultOf_0 : decode b_Mac_resultOf 0 = .ok (.iload_n 0, 1) := by decide +kernel
theorem d_Mac_resultOf_1 : decode b_Mac_resultOf 1 = .ok (.lookupswitch 78 #[(42, 59), (43, 51), (45, 55), (47, 63), (60, 67)], 51) := by decide +kernel
theorem d_Mac_resultOf_52 : decode b_Mac_resultOf 52 = .ok (.iload_n 1, 1) := by decide +kernel
theorem d_Mac_resultOf_53 : decode b_Mac_resultOf 53 = .ok (.iload_n 2, 1) := by decide +kernel
theorem d_Mac_resultOf_54 : decode b_Mac_resultOf 54 = .ok (.iadd, 1) := by decide +kernel
theorem d_Mac_resultOf_55 : decode b_Mac_resultOf 55 = .ok (.ireturn, 1) := by decide +kernel
theorem d_Mac_resultOf_56 : decode b_Mac_resultOf 56 = .ok (.iload_n 1, 1) := by decide +kernel
theorem d_Mac_resultOf_57 : decode b_Mac_resultOf 57 = .ok (.iload_n 2, 1) := by decide +kernel
theorem d_Mac_resultOf_58 : decode b_Mac_resultOf 58 = .ok (.isub, 1) := by decide +kernel
theorem d_Mac_resultOf_59 : decode b_Mac_resultOf 59 = .ok (.ireturn, 1) := by decide +kernel
theorem d_Mac_resultOf_60 : decode b_Mac_resultOf 60 = .ok (.iload_n 1, 1) := by decide +kernel
theorem d_Mac_resultOf_61 : decode b_Mac_resultOf 61 = .ok (.iload_n 2, 1) := by decide +kernel
theorem d_Mac_resultOf_62 : decode b_Mac_resultOf 62 = .ok (.imul, 1) := by decide +kernel
theorem d_Mac_resultOf_63 : decode b_Mac_resultOf 63 = .ok (.ireturn, 1) := by decide +kernel
theorem d_Mac_resultOf_64 : decode b_Mac_resultOf 64 = .ok (.iload_n 1, 1) := by decide +kernel
theorem d_Mac_resultOf_65 : decode b_Mac_resultOf 65 = .ok (.iload_n 2, 1) := by decide +kernel
theorem d_Mac_resultOf_66 : decode b_Mac_resultOf 66 = .ok (.idiv, 1) := by decide +kernel
theorem d_Mac_resultOf_67 : decode b_Mac_resultOf 67 = .ok (.ireturn, 1) := by decide +kernel
theorem d_Mac_resultOf_68 : decode b_Mac_resultOf 68 = .ok (.iload_n 1, 1) := by decide +kernel
theorem d_Mac_resultOf_69 : decode b_Mac_resultOf 69 = .ok (.iload_n 2, 1) := by decide +kernel
theorem d_Mac_resultOf_70 : decode b_Mac_resultOf 70 = .ok (.if_icmp .ge 7, 3) := by decide +kernel
theorem d_Mac_resultOf_73 : decode b_Mac_resultOf 73 = .ok (.iconst 1, 1) := by decide +kernel
theorem d_Mac_resultOf_74 : decode b_Mac_resultOf 74 = .ok (.goto 4, 3) := by decide +kernel
theorem d_Mac_resultOf_77 : decode b_Mac_resultOf 77 = .ok (.iconst 0, 1) := by decide +kernel
theorem d_Mac_resultOf_78 : decode b_Mac_resultOf 78 = .ok (.ireturn, 1) := by decide +kernel
theorem d_Mac_resultOf_79 : decode b_Mac_resultOf 79 = .ok (.iload_n 1, 1) := by decide +kernel
theorem d_Mac_resultOf_80 : decode b_Mac_resultOf 80 = .ok (.iload_n 2, 1) := by decide +kernel
theorem d_Mac_resultOf_81 : decode b_Mac_resultOf 81 = .ok (.if_icmp .ne 7, 3) := by decide +kernel
theorem d_Mac_resultOf_84 : decode b_Mac_resultOf 84 = .ok (.iconst 1, 1) := by decide +kernel
theorem d_Mac_resultOf_85 : decode b_Mac_resultOf 85 = .ok (.goto 4, 3) := by decide +kernel
theorem d_Mac_resultOf_88 : decode b_Mac_resultOf 88 = .ok (.iconst 0, 1) := by decide +kernel
theorem d_Mac_resultOf_89 : decode b_Mac_resultOf 89 = .ok (.ireturn, 1) := by decide +kernel
abbrev y_Row_letterOf : MethodName := ⟨"FusedEngine$Rows", "letterOf", "(II)I"⟩
abbrev b_Row_letterOf : ByteArray := prog_4_method_2_code
theorem d_Row_letterOf_0 : decode b_Row_letterOf 0 = .ok (.getstatic 7, 3) := by decide +kernel
theorem d_Row_letterOf_3 : decode b_Row_letterOf 3 = .ok (.iload_n 0, 1) := by decide +kernel
theorem d_Row_letterOf_4 : decode b_Row_letterOf 4 = .ok (.iconst 4, 1) := by decide +kernel
theorem d_Row_letterOf_5 : decode b_Row_letterOf 5 = .ok (.imul, 1) := by decide +kernel
theorem d_Row_letterOf_6 : decode b_Row_letterOf 6 = .ok (.iload_n 1, 1) := by decide +kernel
theorem d_Row_letterOf_7 : decode b_Row_letterOf 7 = .ok (.iadd, 1) := by decide +kernel
theorem d_Row_letterOf_8 : decode b_Row_letterOf 8 = .ok (.caload, 1) := by decide +kernel
theorem d_Row_letterOf_9 : decode b_Row_letterOf 9 = .ok (.ireturn, 1) := by decide +kernel
abbrev y_Row_lengthOf : MethodName := ⟨"FusedEngine$Rows", "lengthOf", "(I)I"⟩
abbrev b_Row_lengthOf : ByteArray := prog_4_method_3_code
theorem d_Row_lengthOf_0 : decode b_Row_lengthOf 0 = .ok (.iconst 0, 1) := by decide +kernel
theorem d_Row_lengthOf_1 : decode b_Row_lengthOf 1 = .ok (.istore_n 1, 1) := by decide +kernel
theorem d_Row_lengthOf_2 : decode b_Row_lengthOf 2 = .ok (.iload_n 1, 1) := by decide +kernel
theorem d_Row_lengthOf_3 : decode b_Row_lengthOf 3 = .ok (.iconst 4, 1) := by decide +kernel
theorem d_Row_lengthOf_4 : decode b_Row_lengthOf 4 = .ok (.if_icmp .ge 19, 3) := by decide +kernel
theorem d_Row_lengthOf_7 : decode b_Row_lengthOf 7 = .ok (.iload_n 0, 1) := by decide +kernel
theorem d_Row_lengthOf_8 : decode b_Row_lengthOf 8 = .ok (.iload_n 1, 1) := by decide +kernel
theorem d_Row_lengthOf_9 : decode b_Row_lengthOf 9 = .ok (.invokestatic 13, 3) := by decide +kernel
theorem d_Row_lengthOf_12 : decode b_Row_lengthOf 12 = .ok (.bipush 32, 2) := by decide +kernel
theorem d_Row_lengthOf_14 : decode b_Row_lengthOf 14 = .ok (.if_icmp .eq 9, 3) := by decide +kernel
theorem d_Row_lengthOf_17 : decode b_Row_lengthOf 17 = .ok (.iinc 1 1, 3) := by decide +kernel
theorem d_Row_lengthOf_20 : decode b_Row_lengthOf 20 = .ok (.goto (-18), 3) := by decide +kernel
theorem d_Row_lengthOf_23 : decode b_Row_lengthOf 23 = .ok (.iload_n 1, 1) := by decide +kernel
theorem d_Row_lengthOf_24 : decode b_Row_lengthOf 24 = .ok (.ireturn, 1) := by decide +kernel
abbrev y_Prg_init : MethodName := ⟨"FusedEngine$Program", "<init>", "()V"⟩
abbrev b_Prg_init : ByteArray := prog_3_method_1_code
theorem d_Prg_init_0 : decode b_Prg_init 0 = .ok (.aload_n 0, 1) := by decide +kernel
theorem d_Prg_init_1 : decode b_Prg_init 1 = .ok (.invokespecial 3, 3) := by decide +kernel
theorem d_Prg_init_4 : decode b_Prg_init 4 = .ok (.aload_n 0, 1) := by decide +kernel
theorem d_Prg_init_5 : decode b_Prg_init 5 = .ok (.bipush 80, 2) := by decide +kernel
theorem d_Prg_init_7 : decode b_Prg_init 7 = .ok (.newarray .int, 2) := by decide +kernel
theorem d_Prg_init_9 : decode b_Prg_init 9 = .ok (.putfield 11, 3) := by decide +kernel
theorem d_Prg_init_12 : decode b_Prg_init 12 = .ok (.aload_n 0, 1) := by decide +kernel
theorem d_Prg_init_13 : decode b_Prg_init 13 = .ok (.bipush 80, 2) := by decide +kernel
theorem d_Prg_init_15 : decode b_Prg_init 15 = .ok (.newarray .int, 2) := by decide +kernel
theorem d_Prg_init_17 : decode b_Prg_init 17 = .ok (.putfield 15, 3) := by decide +kernel
theorem d_Prg_init_20 : decode b_Prg_init 20 = .ok (.aload_n 0, 1) := by decide +kernel
theorem d_Prg_init_21 : decode b_Prg_init 21 = .ok (.bipush 80, 2) := by decide +kernel
theorem d_Prg_init_23 : decode b_Prg_init 23 = .ok (.newarray .boolean, 2) := by decide +kernel
theorem d_Prg_init_25 : decode b_Prg_init 25 = .ok (.putfield 18, 3) := by decide +kernel
theorem d_Prg_init_28 : decode b_Prg_init 28 = .ok (.aload_n 0, 1) := by decide +kernel
theorem d_Prg_init_29 : decode b_Prg_init 29 = .ok (.bipush 80, 2) := by decide +kernel
theorem d_Prg_init_31 : decode b_Prg_init 31 = .ok (.newarray .int, 2) := by decide +kernel
theorem d_Prg_init_33 : decode b_Prg_init 33 = .ok (.putfield 22, 3) := by decide +kernel
theorem d_Prg_init_36 : decode b_Prg_init 36 = .ok (.aload_n 0, 1) := by decide +kernel
theorem d_Prg_init_37 : decode b_Prg_init 37 = .ok (.bipush 80, 2) := by decide +kernel
theorem d_Prg_init_39 : decode b_Prg_init 39 = .ok (.newarray .int, 2) := by decide +kernel
theorem d_Prg_init_41 : decode b_Prg_init 41 = .ok (.putfield 25, 3) := by decide +kernel
theorem d_Prg_init_44 : decode b_Prg_init 44 = .ok (.return_, 1) := by decide +kernel
abbrev y_Prg_allows : MethodName := ⟨"FusedEngine$Program", "allows", "(II)Z"⟩
abbrev b_Prg_allows : ByteArray := prog_3_method_2_code
theorem d_Prg_allows_0 : decode b_Prg_allows 0 = .ok (.iload_n 0, 1) := by decide +kernel
theorem d_Prg_allows_1 : decode b_Prg_allows 1 = .ok (.bipush 76, 2) := by decide +kernel
theorem d_Prg_allows_3 : decode b_Prg_allows 3 = .ok (.if_icmp .eq 9, 3) := by decide +kernel
theorem d_Prg_allows_6 : decode b_Prg_allows 6 = .ok (.iload_n 0, 1) := by decide +kernel
theorem d_Prg_allows_7 : decode b_Prg_allows 7 = .ok (.bipush 83, 2) := by decide +kernel
theorem d_Prg_allows_9 : decode b_Prg_allows 9 = .ok (.if_icmp .ne 19, 3) := by decide +kernel
theorem d_Prg_allows_12 : decode b_Prg_allows 12 = .ok (.iload_n 1, 1) := by decide +kernel
theorem d_Prg_allows_13 : decode b_Prg_allows 13 = .ok (.ifCond .lt 13, 3) := by decide +kernel
theorem d_Prg_allows_16 : decode b_Prg_allows 16 = .ok (.iload_n 1, 1) := by decide +kernel
theorem d_Prg_allows_17 : decode b_Prg_allows 17 = .ok (.bipush 8, 2) := by decide +kernel
theorem d_Prg_allows_19 : decode b_Prg_allows 19 = .ok (.if_icmp .ge 7, 3) := by decide +kernel
theorem d_Prg_allows_22 : decode b_Prg_allows 22 = .ok (.iconst 1, 1) := by decide +kernel
theorem d_Prg_allows_23 : decode b_Prg_allows 23 = .ok (.goto 4, 3) := by decide +kernel
theorem d_Prg_allows_26 : decode b_Prg_allows 26 = .ok (.iconst 0, 1) := by decide +kernel
theorem d_Prg_allows_27 : decode b_Prg_allows 27 = .ok (.ireturn, 1) := by decide +kernel
theorem d_Prg_allows_28 : decode b_Prg_allows 28 = .ok (.iconst 0, 1) := by decide +kernel
theorem d_Prg_allows_29 : decode b_Prg_allows 29 = .ok (.istore_n 2, 1) := by decide +kernel
theorem d_Prg_allows_30 : decode b_Prg_allows 30 = .ok (.iload_n 2, 1) := by decide +kernel
theorem d_Prg_allows_31 : decode b_Prg_allows 31 = .ok (.ldc 30, 2) := by decide +kernel
theorem d_Prg_allows_33 : decode b_Prg_allows 33 = .ok (.invokevirtual 32, 3) := by decide +kernel
theorem d_Prg_allows_36 : decode b_Prg_allows 36 = .ok (.if_icmp .ge 21, 3) := by decide +kernel
theorem d_Prg_allows_39 : decode b_Prg_allows 39 = .ok (.ldc 30, 2) := by decide +kernel
theorem d_Prg_allows_41 : decode b_Prg_allows 41 = .ok (.iload_n 2, 1) := by decide +kernel
theorem d_Prg_allows_42 : decode b_Prg_allows 42 = .ok (.invokevirtual 38, 3) := by decide +kernel
theorem d_Prg_allows_45 : decode b_Prg_allows 45 = .ok (.iload_n 0, 1) := by decide +kernel
theorem d_Prg_allows_46 : decode b_Prg_allows 46 = .ok (.if_icmp .ne 5, 3) := by decide +kernel
theorem d_Prg_allows_49 : decode b_Prg_allows 49 = .ok (.iconst 1, 1) := by decide +kernel
theorem d_Prg_allows_50 : decode b_Prg_allows 50 = .ok (.ireturn, 1) := by decide +kernel
theorem d_Prg_allows_51 : decode b_Prg_allows 51 = .ok (.iinc 2 1, 3) := by decide +kernel
theorem d_Prg_allows_54 : decode b_Prg_allows 54 = .ok (.goto (-24), 3) := by decide +kernel
theorem d_Prg_allows_57 : decode b_Prg_allows 57 = .ok (.iconst 0, 1) := by decide +kernel
theorem d_Prg_allows_58 : decode b_Prg_allows 58 = .ok (.ireturn, 1) := by decide +kernel
abbrev y_Prg_has : MethodName := ⟨"FusedEngine$Program", "has", "(I)Z"⟩
abbrev b_Prg_has : ByteArray := prog_3_method_3_code
theorem d_Prg_has_0 : decode b_Prg_has 0 = .ok (.iload_n 1, 1) := by decide +kernel
theorem d_Prg_has_1 : decode b_Prg_has 1 = .ok (.ifCond .lt 15, 3) := by decide +kernel
theorem d_Prg_has_4 : decode b_Prg_has 4 = .ok (.iload_n 1, 1) := by decide +kernel
theorem d_Prg_has_5 : decode b_Prg_has 5 = .ok (.aload_n 0, 1) := by decide +kernel
theorem d_Prg_has_6 : decode b_Prg_has 6 = .ok (.getfield 42, 3) := by decide +kernel
theorem d_Prg_has_9 : decode b_Prg_has 9 = .ok (.if_icmp .ge 7, 3) := by decide +kernel
theorem d_Prg_has_12 : decode b_Prg_has 12 = .ok (.iconst 1, 1) := by decide +kernel
theorem d_Prg_has_13 : decode b_Prg_has 13 = .ok (.goto 4, 3) := by decide +kernel
theorem d_Prg_has_16 : decode b_Prg_has 16 = .ok (.iconst 0, 1) := by decide +kernel
theorem d_Prg_has_17 : decode b_Prg_has 17 = .ok (.ireturn, 1) := by decide +kernel
abbrev y_Prg_append : MethodName := ⟨"FusedEngine$Program", "append", "(II)I"⟩
abbrev b_Prg_append : ByteArray := prog_3_method_4_code
theorem d_Prg_append_0 : decode b_Prg_append 0 = .ok (.aload_n 0, 1) := by decide +kernel
theorem d_Prg_append_1 : decode b_Prg_append 1 = .ok (.getfield 42, 3) := by decide +kernel
theorem d_Prg_append_4 : decode b_Prg_append 4 = .ok (.istore_n 3, 1) := by decide +kernel
theorem d_Prg_append_5 : decode b_Prg_append 5 = .ok (.aload_n 0, 1) := by decide +kernel
theorem d_Prg_append_6 : decode b_Prg_append 6 = .ok (.dup, 1) := by decide +kernel
theorem d_Prg_append_7 : decode b_Prg_append 7 = .ok (.getfield 42, 3) := by decide +kernel
theorem d_Prg_append_10 : decode b_Prg_append 10 = .ok (.iconst 1, 1) := by decide +kernel
theorem d_Prg_append_11 : decode b_Prg_append 11 = .ok (.iadd, 1) := by decide +kernel
theorem d_Prg_append_12 : decode b_Prg_append 12 = .ok (.putfield 42, 3) := by decide +kernel
theorem d_Prg_append_15 : decode b_Prg_append 15 = .ok (.aload_n 0, 1) := by decide +kernel
theorem d_Prg_append_16 : decode b_Prg_append 16 = .ok (.iload_n 3, 1) := by decide +kernel
theorem d_Prg_append_17 : decode b_Prg_append 17 = .ok (.iload_n 1, 1) := by decide +kernel
theorem d_Prg_append_18 : decode b_Prg_append 18 = .ok (.iload_n 2, 1) := by decide +kernel
theorem d_Prg_append_19 : decode b_Prg_append 19 = .ok (.invokevirtual 46, 3) := by decide +kernel
theorem d_Prg_append_22 : decode b_Prg_append 22 = .ok (.iload_n 3, 1) := by decide +kernel
theorem d_Prg_append_23 : decode b_Prg_append 23 = .ok (.ireturn, 1) := by decide +kernel
abbrev y_Prg_replace : MethodName := ⟨"FusedEngine$Program", "replace", "(III)V"⟩
abbrev b_Prg_replace : ByteArray := prog_3_method_5_code
theorem d_Prg_replace_0 : decode b_Prg_replace 0 = .ok (.aload_n 0, 1) := by decide +kernel
theorem d_Prg_replace_1 : decode b_Prg_replace 1 = .ok (.getfield 11, 3) := by decide +kernel
theorem d_Prg_replace_4 : decode b_Prg_replace 4 = .ok (.iload_n 1, 1) := by decide +kernel
theorem d_Prg_replace_5 : decode b_Prg_replace 5 = .ok (.iload_n 2, 1) := by decide +kernel
theorem d_Prg_replace_6 : decode b_Prg_replace 6 = .ok (.iastore, 1) := by decide +kernel
theorem d_Prg_replace_7 : decode b_Prg_replace 7 = .ok (.aload_n 0, 1) := by decide +kernel
theorem d_Prg_replace_8 : decode b_Prg_replace 8 = .ok (.getfield 15, 3) := by decide +kernel
theorem d_Prg_replace_11 : decode b_Prg_replace 11 = .ok (.iload_n 1, 1) := by decide +kernel
theorem d_Prg_replace_12 : decode b_Prg_replace 12 = .ok (.iload_n 3, 1) := by decide +kernel
theorem d_Prg_replace_13 : decode b_Prg_replace 13 = .ok (.iastore, 1) := by decide +kernel
theorem d_Prg_replace_14 : decode b_Prg_replace 14 = .ok (.aload_n 0, 1) := by decide +kernel
theorem d_Prg_replace_15 : decode b_Prg_replace 15 = .ok (.iconst 0, 1) := by decide +kernel
theorem d_Prg_replace_16 : decode b_Prg_replace 16 = .ok (.putfield 50, 3) := by decide +kernel
theorem d_Prg_replace_19 : decode b_Prg_replace 19 = .ok (.aload_n 0, 1) := by decide +kernel
theorem d_Prg_replace_20 : decode b_Prg_replace 20 = .ok (.invokevirtual 54, 3) := by decide +kernel
theorem d_Prg_replace_23 : decode b_Prg_replace 23 = .ok (.return_, 1) := by decide +kernel
abbrev y_Prg_removeAll : MethodName := ⟨"FusedEngine$Program", "removeAll", "()V"⟩
abbrev b_Prg_removeAll : ByteArray := prog_3_method_6_code
theorem d_Prg_removeAll_0 : decode b_Prg_removeAll 0 = .ok (.aload_n 0, 1) := by decide +kernel
theorem d_Prg_removeAll_1 : decode b_Prg_removeAll 1 = .ok (.iconst 0, 1) := by decide +kernel
theorem d_Prg_removeAll_2 : decode b_Prg_removeAll 2 = .ok (.putfield 42, 3) := by decide +kernel
theorem d_Prg_removeAll_5 : decode b_Prg_removeAll 5 = .ok (.aload_n 0, 1) := by decide +kernel
theorem d_Prg_removeAll_6 : decode b_Prg_removeAll 6 = .ok (.iconst 0, 1) := by decide +kernel
theorem d_Prg_removeAll_7 : decode b_Prg_removeAll 7 = .ok (.putfield 50, 3) := by decide +kernel
theorem d_Prg_removeAll_10 : decode b_Prg_removeAll 10 = .ok (.return_, 1) := by decide +kernel
abbrev y_Prg_factOf : MethodName := ⟨"FusedEngine$Program", "factOf", "(II)I"⟩
abbrev b_Prg_factOf : ByteArray := prog_3_method_7_code
theorem d_Prg_factOf_0 : decode b_Prg_factOf 0 = .ok (.iload_n 2, 1) := by decide +kernel
theorem d_Prg_factOf_1 : decode b_Prg_factOf 1 = .ok (.tableswitch 48 0 2 #[27, 34, 41], 27) := by decide +kernel
theorem d_Prg_factOf_28 : decode b_Prg_factOf 28 = .ok (.aload_n 0, 1) := by decide +kernel
theorem d_Prg_factOf_29 : decode b_Prg_factOf 29 = .ok (.getfield 11, 3) := by decide +kernel
theorem d_Prg_factOf_32 : decode b_Prg_factOf 32 = .ok (.iload_n 1, 1) := by decide +kernel
theorem d_Prg_factOf_33 : decode b_Prg_factOf 33 = .ok (.iaload, 1) := by decide +kernel
theorem d_Prg_factOf_34 : decode b_Prg_factOf 34 = .ok (.ireturn, 1) := by decide +kernel
theorem d_Prg_factOf_35 : decode b_Prg_factOf 35 = .ok (.aload_n 0, 1) := by decide +kernel
theorem d_Prg_factOf_36 : decode b_Prg_factOf 36 = .ok (.getfield 15, 3) := by decide +kernel
theorem d_Prg_factOf_39 : decode b_Prg_factOf 39 = .ok (.iload_n 1, 1) := by decide +kernel
theorem d_Prg_factOf_40 : decode b_Prg_factOf 40 = .ok (.iaload, 1) := by decide +kernel
theorem d_Prg_factOf_41 : decode b_Prg_factOf 41 = .ok (.ireturn, 1) := by decide +kernel
theorem d_Prg_factOf_42 : decode b_Prg_factOf 42 = .ok (.aload_n 0, 1) := by decide +kernel
theorem d_Prg_factOf_43 : decode b_Prg_factOf 43 = .ok (.getfield 22, 3) := by decide +kernel
theorem d_Prg_factOf_46 : decode b_Prg_factOf 46 = .ok (.iload_n 1, 1) := by decide +kernel
theorem d_Prg_factOf_47 : decode b_Prg_factOf 47 = .ok (.iaload, 1) := by decide +kernel
theorem d_Prg_factOf_48 : decode b_Prg_factOf 48 = .ok (.ireturn, 1) := by decide +kernel
theorem d_Prg_factOf_49 : decode b_Prg_factOf 49 = .ok (.aload_n 0, 1) := by decide +kernel
theorem d_Prg_factOf_50 : decode b_Prg_factOf 50 = .ok (.getfield 18, 3) := by decide +kernel
theorem d_Prg_factOf_53 : decode b_Prg_factOf 53 = .ok (.iload_n 1, 1) := by decide +kernel
theorem d_Prg_factOf_54 : decode b_Prg_factOf 54 = .ok (.baload, 1) := by decide +kernel
theorem d_Prg_factOf_55 : decode b_Prg_factOf 55 = .ok (.ifCond .eq 7, 3) := by decide +kernel
theorem d_Prg_factOf_58 : decode b_Prg_factOf 58 = .ok (.iconst 1, 1) := by decide +kernel
theorem d_Prg_factOf_59 : decode b_Prg_factOf 59 = .ok (.goto 4, 3) := by decide +kernel
theorem d_Prg_factOf_62 : decode b_Prg_factOf 62 = .ok (.iconst 0, 1) := by decide +kernel
theorem d_Prg_factOf_63 : decode b_Prg_factOf 63 = .ok (.ireturn, 1) := by decide +kernel
abbrev y_Prg_findTargets : MethodName := ⟨"FusedEngine$Program", "findTargets", "()V"⟩
abbrev b_Prg_findTargets : ByteArray := prog_3_method_8_code
theorem d_Prg_findTargets_0 : decode b_Prg_findTargets 0 = .ok (.iconst 0, 1) := by decide +kernel
theorem d_Prg_findTargets_1 : decode b_Prg_findTargets 1 = .ok (.istore_n 1, 1) := by decide +kernel
theorem d_Prg_findTargets_2 : decode b_Prg_findTargets 2 = .ok (.iload_n 1, 1) := by decide +kernel
theorem d_Prg_findTargets_3 : decode b_Prg_findTargets 3 = .ok (.aload_n 0, 1) := by decide +kernel
theorem d_Prg_findTargets_4 : decode b_Prg_findTargets 4 = .ok (.getfield 42, 3) := by decide +kernel
theorem d_Prg_findTargets_7 : decode b_Prg_findTargets 7 = .ok (.if_icmp .ge 16, 3) := by decide +kernel
theorem d_Prg_findTargets_10 : decode b_Prg_findTargets 10 = .ok (.aload_n 0, 1) := by decide +kernel
theorem d_Prg_findTargets_11 : decode b_Prg_findTargets 11 = .ok (.getfield 18, 3) := by decide +kernel
theorem d_Prg_findTargets_14 : decode b_Prg_findTargets 14 = .ok (.iload_n 1, 1) := by decide +kernel
theorem d_Prg_findTargets_15 : decode b_Prg_findTargets 15 = .ok (.iconst 0, 1) := by decide +kernel
theorem d_Prg_findTargets_16 : decode b_Prg_findTargets 16 = .ok (.bastore, 1) := by decide +kernel
theorem d_Prg_findTargets_17 : decode b_Prg_findTargets 17 = .ok (.iinc 1 1, 3) := by decide +kernel
theorem d_Prg_findTargets_20 : decode b_Prg_findTargets 20 = .ok (.goto (-18), 3) := by decide +kernel
theorem d_Prg_findTargets_23 : decode b_Prg_findTargets 23 = .ok (.iconst 0, 1) := by decide +kernel
theorem d_Prg_findTargets_24 : decode b_Prg_findTargets 24 = .ok (.istore_n 1, 1) := by decide +kernel
theorem d_Prg_findTargets_25 : decode b_Prg_findTargets 25 = .ok (.iload_n 1, 1) := by decide +kernel
theorem d_Prg_findTargets_26 : decode b_Prg_findTargets 26 = .ok (.aload_n 0, 1) := by decide +kernel
theorem d_Prg_findTargets_27 : decode b_Prg_findTargets 27 = .ok (.getfield 42, 3) := by decide +kernel
theorem d_Prg_findTargets_30 : decode b_Prg_findTargets 30 = .ok (.if_icmp .ge 57, 3) := by decide +kernel
theorem d_Prg_findTargets_33 : decode b_Prg_findTargets 33 = .ok (.aload_n 0, 1) := by decide +kernel
theorem d_Prg_findTargets_34 : decode b_Prg_findTargets 34 = .ok (.getfield 11, 3) := by decide +kernel
theorem d_Prg_findTargets_37 : decode b_Prg_findTargets 37 = .ok (.iload_n 1, 1) := by decide +kernel
theorem d_Prg_findTargets_38 : decode b_Prg_findTargets 38 = .ok (.iaload, 1) := by decide +kernel
theorem d_Prg_findTargets_39 : decode b_Prg_findTargets 39 = .ok (.istore_n 2, 1) := by decide +kernel
theorem d_Prg_findTargets_40 : decode b_Prg_findTargets 40 = .ok (.iload_n 2, 1) := by decide +kernel
theorem d_Prg_findTargets_41 : decode b_Prg_findTargets 41 = .ok (.bipush 74, 2) := by decide +kernel
theorem d_Prg_findTargets_43 : decode b_Prg_findTargets 43 = .ok (.if_icmp .eq 15, 3) := by decide +kernel
theorem d_Prg_findTargets_46 : decode b_Prg_findTargets 46 = .ok (.iload_n 2, 1) := by decide +kernel
theorem d_Prg_findTargets_47 : decode b_Prg_findTargets 47 = .ok (.bipush 90, 2) := by decide +kernel
theorem d_Prg_findTargets_49 : decode b_Prg_findTargets 49 = .ok (.if_icmp .eq 9, 3) := by decide +kernel
theorem d_Prg_findTargets_52 : decode b_Prg_findTargets 52 = .ok (.iload_n 2, 1) := by decide +kernel
theorem d_Prg_findTargets_53 : decode b_Prg_findTargets 53 = .ok (.bipush 67, 2) := by decide +kernel
theorem d_Prg_findTargets_55 : decode b_Prg_findTargets 55 = .ok (.if_icmp .ne 13, 3) := by decide +kernel
theorem d_Prg_findTargets_58 : decode b_Prg_findTargets 58 = .ok (.aload_n 0, 1) := by decide +kernel
theorem d_Prg_findTargets_59 : decode b_Prg_findTargets 59 = .ok (.aload_n 0, 1) := by decide +kernel
theorem d_Prg_findTargets_60 : decode b_Prg_findTargets 60 = .ok (.getfield 15, 3) := by decide +kernel
theorem d_Prg_findTargets_63 : decode b_Prg_findTargets 63 = .ok (.iload_n 1, 1) := by decide +kernel
theorem d_Prg_findTargets_64 : decode b_Prg_findTargets 64 = .ok (.iaload, 1) := by decide +kernel
theorem d_Prg_findTargets_65 : decode b_Prg_findTargets 65 = .ok (.invokevirtual 57, 3) := by decide +kernel
theorem d_Prg_findTargets_68 : decode b_Prg_findTargets 68 = .ok (.iload_n 2, 1) := by decide +kernel
theorem d_Prg_findTargets_69 : decode b_Prg_findTargets 69 = .ok (.bipush 67, 2) := by decide +kernel
theorem d_Prg_findTargets_71 : decode b_Prg_findTargets 71 = .ok (.if_icmp .ne 10, 3) := by decide +kernel
theorem d_Prg_findTargets_74 : decode b_Prg_findTargets 74 = .ok (.aload_n 0, 1) := by decide +kernel
theorem d_Prg_findTargets_75 : decode b_Prg_findTargets 75 = .ok (.iload_n 1, 1) := by decide +kernel
theorem d_Prg_findTargets_76 : decode b_Prg_findTargets 76 = .ok (.iconst 1, 1) := by decide +kernel
theorem d_Prg_findTargets_77 : decode b_Prg_findTargets 77 = .ok (.iadd, 1) := by decide +kernel
theorem d_Prg_findTargets_78 : decode b_Prg_findTargets 78 = .ok (.invokevirtual 57, 3) := by decide +kernel
theorem d_Prg_findTargets_81 : decode b_Prg_findTargets 81 = .ok (.iinc 1 1, 3) := by decide +kernel
theorem d_Prg_findTargets_84 : decode b_Prg_findTargets 84 = .ok (.goto (-59), 3) := by decide +kernel
theorem d_Prg_findTargets_87 : decode b_Prg_findTargets 87 = .ok (.return_, 1) := by decide +kernel
abbrev y_Prg_markTarget : MethodName := ⟨"FusedEngine$Program", "markTarget", "(I)V"⟩
abbrev b_Prg_markTarget : ByteArray := prog_3_method_9_code
theorem d_Prg_markTarget_0 : decode b_Prg_markTarget 0 = .ok (.aload_n 0, 1) := by decide +kernel
theorem d_Prg_markTarget_1 : decode b_Prg_markTarget 1 = .ok (.iload_n 1, 1) := by decide +kernel
theorem d_Prg_markTarget_2 : decode b_Prg_markTarget 2 = .ok (.invokevirtual 61, 3) := by decide +kernel
theorem d_Prg_markTarget_5 : decode b_Prg_markTarget 5 = .ok (.ifCond .eq 10, 3) := by decide +kernel
theorem d_Prg_markTarget_8 : decode b_Prg_markTarget 8 = .ok (.aload_n 0, 1) := by decide +kernel
theorem d_Prg_markTarget_9 : decode b_Prg_markTarget 9 = .ok (.getfield 18, 3) := by decide +kernel
theorem d_Prg_markTarget_12 : decode b_Prg_markTarget 12 = .ok (.iload_n 1, 1) := by decide +kernel
theorem d_Prg_markTarget_13 : decode b_Prg_markTarget 13 = .ok (.iconst 1, 1) := by decide +kernel
theorem d_Prg_markTarget_14 : decode b_Prg_markTarget 14 = .ok (.bastore, 1) := by decide +kernel
theorem d_Prg_markTarget_15 : decode b_Prg_markTarget 15 = .ok (.return_, 1) := by decide +kernel
abbrev y_Prg_fuseRows : MethodName := ⟨"FusedEngine$Program", "fuseRows", "()I"⟩
abbrev b_Prg_fuseRows : ByteArray := prog_3_method_10_code
theorem d_Prg_fuseRows_0 : decode b_Prg_fuseRows 0 = .ok (.iconst 0, 1) := by decide +kernel
theorem d_Prg_fuseRows_1 : decode b_Prg_fuseRows 1 = .ok (.istore_n 1, 1) := by decide +kernel
theorem d_Prg_fuseRows_2 : decode b_Prg_fuseRows 2 = .ok (.iconst 0, 1) := by decide +kernel
theorem d_Prg_fuseRows_3 : decode b_Prg_fuseRows 3 = .ok (.istore_n 2, 1) := by decide +kernel
theorem d_Prg_fuseRows_4 : decode b_Prg_fuseRows 4 = .ok (.iconst 0, 1) := by decide +kernel
theorem d_Prg_fuseRows_5 : decode b_Prg_fuseRows 5 = .ok (.istore_n 3, 1) := by decide +kernel
theorem d_Prg_fuseRows_6 : decode b_Prg_fuseRows 6 = .ok (.iload_n 3, 1) := by decide +kernel
theorem d_Prg_fuseRows_7 : decode b_Prg_fuseRows 7 = .ok (.aload_n 0, 1) := by decide +kernel
theorem d_Prg_fuseRows_8 : decode b_Prg_fuseRows 8 = .ok (.getfield 42, 3) := by decide +kernel
theorem d_Prg_fuseRows_11 : decode b_Prg_fuseRows 11 = .ok (.if_icmp .ge 82, 3) := by decide +kernel
theorem d_Prg_fuseRows_14 : decode b_Prg_fuseRows 14 = .ok (.iload_n 2, 1) := by decide +kernel
theorem d_Prg_fuseRows_15 : decode b_Prg_fuseRows 15 = .ok (.ifCond .le 24, 3) := by decide +kernel
theorem d_Prg_fuseRows_18 : decode b_Prg_fuseRows 18 = .ok (.aload_n 0, 1) := by decide +kernel
theorem d_Prg_fuseRows_19 : decode b_Prg_fuseRows 19 = .ok (.getfield 22, 3) := by decide +kernel
theorem d_Prg_fuseRows_22 : decode b_Prg_fuseRows 22 = .ok (.iload_n 3, 1) := by decide +kernel
theorem d_Prg_fuseRows_23 : decode b_Prg_fuseRows 23 = .ok (.bipush (-2), 2) := by decide +kernel
theorem d_Prg_fuseRows_25 : decode b_Prg_fuseRows 25 = .ok (.iastore, 1) := by decide +kernel
theorem d_Prg_fuseRows_26 : decode b_Prg_fuseRows 26 = .ok (.aload_n 0, 1) := by decide +kernel
theorem d_Prg_fuseRows_27 : decode b_Prg_fuseRows 27 = .ok (.getfield 25, 3) := by decide +kernel
theorem d_Prg_fuseRows_30 : decode b_Prg_fuseRows 30 = .ok (.iload_n 3, 1) := by decide +kernel
theorem d_Prg_fuseRows_31 : decode b_Prg_fuseRows 31 = .ok (.iconst 1, 1) := by decide +kernel
theorem d_Prg_fuseRows_32 : decode b_Prg_fuseRows 32 = .ok (.iastore, 1) := by decide +kernel
theorem d_Prg_fuseRows_33 : decode b_Prg_fuseRows 33 = .ok (.iinc 2 (-1), 3) := by decide +kernel
theorem d_Prg_fuseRows_36 : decode b_Prg_fuseRows 36 = .ok (.goto 51, 3) := by decide +kernel
theorem d_Prg_fuseRows_39 : decode b_Prg_fuseRows 39 = .ok (.aload_n 0, 1) := by decide +kernel
theorem d_Prg_fuseRows_40 : decode b_Prg_fuseRows 40 = .ok (.iload_n 3, 1) := by decide +kernel
theorem d_Prg_fuseRows_41 : decode b_Prg_fuseRows 41 = .ok (.invokevirtual 65, 3) := by decide +kernel
theorem d_Prg_fuseRows_44 : decode b_Prg_fuseRows 44 = .ok (.istore 4, 2) := by decide +kernel
theorem d_Prg_fuseRows_46 : decode b_Prg_fuseRows 46 = .ok (.aload_n 0, 1) := by decide +kernel
theorem d_Prg_fuseRows_47 : decode b_Prg_fuseRows 47 = .ok (.getfield 22, 3) := by decide +kernel
theorem d_Prg_fuseRows_50 : decode b_Prg_fuseRows 50 = .ok (.iload_n 3, 1) := by decide +kernel
theorem d_Prg_fuseRows_51 : decode b_Prg_fuseRows 51 = .ok (.iload 4, 2) := by decide +kernel
theorem d_Prg_fuseRows_53 : decode b_Prg_fuseRows 53 = .ok (.iastore, 1) := by decide +kernel
theorem d_Prg_fuseRows_54 : decode b_Prg_fuseRows 54 = .ok (.aload_n 0, 1) := by decide +kernel
theorem d_Prg_fuseRows_55 : decode b_Prg_fuseRows 55 = .ok (.getfield 25, 3) := by decide +kernel
theorem d_Prg_fuseRows_58 : decode b_Prg_fuseRows 58 = .ok (.iload_n 3, 1) := by decide +kernel
theorem d_Prg_fuseRows_59 : decode b_Prg_fuseRows 59 = .ok (.iload 4, 2) := by decide +kernel
theorem d_Prg_fuseRows_61 : decode b_Prg_fuseRows 61 = .ok (.iconst (-1), 1) := by decide +kernel
theorem d_Prg_fuseRows_62 : decode b_Prg_fuseRows 62 = .ok (.if_icmp .ne 7, 3) := by decide +kernel
theorem d_Prg_fuseRows_65 : decode b_Prg_fuseRows 65 = .ok (.iconst 1, 1) := by decide +kernel
theorem d_Prg_fuseRows_66 : decode b_Prg_fuseRows 66 = .ok (.goto 8, 3) := by decide +kernel
theorem d_Prg_fuseRows_69 : decode b_Prg_fuseRows 69 = .ok (.iload 4, 2) := by decide +kernel
theorem d_Prg_fuseRows_71 : decode b_Prg_fuseRows 71 = .ok (.invokestatic 69, 3) := by decide +kernel
theorem d_Prg_fuseRows_74 : decode b_Prg_fuseRows 74 = .ok (.iastore, 1) := by decide +kernel
theorem d_Prg_fuseRows_75 : decode b_Prg_fuseRows 75 = .ok (.aload_n 0, 1) := by decide +kernel
theorem d_Prg_fuseRows_76 : decode b_Prg_fuseRows 76 = .ok (.getfield 25, 3) := by decide +kernel
theorem d_Prg_fuseRows_79 : decode b_Prg_fuseRows 79 = .ok (.iload_n 3, 1) := by decide +kernel
theorem d_Prg_fuseRows_80 : decode b_Prg_fuseRows 80 = .ok (.iaload, 1) := by decide +kernel
theorem d_Prg_fuseRows_81 : decode b_Prg_fuseRows 81 = .ok (.iconst 1, 1) := by decide +kernel
theorem d_Prg_fuseRows_82 : decode b_Prg_fuseRows 82 = .ok (.isub, 1) := by decide +kernel
theorem d_Prg_fuseRows_83 : decode b_Prg_fuseRows 83 = .ok (.istore_n 2, 1) := by decide +kernel
theorem d_Prg_fuseRows_84 : decode b_Prg_fuseRows 84 = .ok (.iinc 1 1, 3) := by decide +kernel
theorem d_Prg_fuseRows_87 : decode b_Prg_fuseRows 87 = .ok (.iinc 3 1, 3) := by decide +kernel
theorem d_Prg_fuseRows_90 : decode b_Prg_fuseRows 90 = .ok (.goto (-84), 3) := by decide +kernel
theorem d_Prg_fuseRows_93 : decode b_Prg_fuseRows 93 = .ok (.aload_n 0, 1) := by decide +kernel
theorem d_Prg_fuseRows_94 : decode b_Prg_fuseRows 94 = .ok (.iconst 1, 1) := by decide +kernel
theorem d_Prg_fuseRows_95 : decode b_Prg_fuseRows 95 = .ok (.putfield 50, 3) := by decide +kernel
theorem d_Prg_fuseRows_98 : decode b_Prg_fuseRows 98 = .ok (.iload_n 1, 1) := by decide +kernel
theorem d_Prg_fuseRows_99 : decode b_Prg_fuseRows 99 = .ok (.ireturn, 1) := by decide +kernel
abbrev y_Prg_longestRowAt : MethodName := ⟨"FusedEngine$Program", "longestRowAt", "(I)I"⟩
abbrev b_Prg_longestRowAt : ByteArray := prog_3_method_11_code
theorem d_Prg_longestRowAt_0 : decode b_Prg_longestRowAt 0 = .ok (.iconst (-1), 1) := by decide +kernel
theorem d_Prg_longestRowAt_1 : decode b_Prg_longestRowAt 1 = .ok (.istore_n 2, 1) := by decide +kernel
theorem d_Prg_longestRowAt_2 : decode b_Prg_longestRowAt 2 = .ok (.iconst 0, 1) := by decide +kernel
theorem d_Prg_longestRowAt_3 : decode b_Prg_longestRowAt 3 = .ok (.istore_n 3, 1) := by decide +kernel
theorem d_Prg_longestRowAt_4 : decode b_Prg_longestRowAt 4 = .ok (.iconst 0, 1) := by decide +kernel
theorem d_Prg_longestRowAt_5 : decode b_Prg_longestRowAt 5 = .ok (.istore 4, 2) := by decide +kernel
theorem d_Prg_longestRowAt_7 : decode b_Prg_longestRowAt 7 = .ok (.iload 4, 2) := by decide +kernel
theorem d_Prg_longestRowAt_9 : decode b_Prg_longestRowAt 9 = .ok (.bipush 20, 2) := by decide +kernel
theorem d_Prg_longestRowAt_11 : decode b_Prg_longestRowAt 11 = .ok (.if_icmp .ge 55, 3) := by decide +kernel
theorem d_Prg_longestRowAt_14 : decode b_Prg_longestRowAt 14 = .ok (.iload 4, 2) := by decide +kernel
theorem d_Prg_longestRowAt_16 : decode b_Prg_longestRowAt 16 = .ok (.iconst 0, 1) := by decide +kernel
theorem d_Prg_longestRowAt_17 : decode b_Prg_longestRowAt 17 = .ok (.invokestatic 74, 3) := by decide +kernel
theorem d_Prg_longestRowAt_20 : decode b_Prg_longestRowAt 20 = .ok (.aload_n 0, 1) := by decide +kernel
theorem d_Prg_longestRowAt_21 : decode b_Prg_longestRowAt 21 = .ok (.getfield 11, 3) := by decide +kernel
theorem d_Prg_longestRowAt_24 : decode b_Prg_longestRowAt 24 = .ok (.iload_n 1, 1) := by decide +kernel
theorem d_Prg_longestRowAt_25 : decode b_Prg_longestRowAt 25 = .ok (.iaload, 1) := by decide +kernel
theorem d_Prg_longestRowAt_26 : decode b_Prg_longestRowAt 26 = .ok (.if_icmp .ne 34, 3) := by decide +kernel
theorem d_Prg_longestRowAt_29 : decode b_Prg_longestRowAt 29 = .ok (.iload 4, 2) := by decide +kernel
theorem d_Prg_longestRowAt_31 : decode b_Prg_longestRowAt 31 = .ok (.invokestatic 69, 3) := by decide +kernel
theorem d_Prg_longestRowAt_34 : decode b_Prg_longestRowAt 34 = .ok (.istore 5, 2) := by decide +kernel
theorem d_Prg_longestRowAt_36 : decode b_Prg_longestRowAt 36 = .ok (.iload 5, 2) := by decide +kernel
theorem d_Prg_longestRowAt_38 : decode b_Prg_longestRowAt 38 = .ok (.iload_n 3, 1) := by decide +kernel
theorem d_Prg_longestRowAt_39 : decode b_Prg_longestRowAt 39 = .ok (.if_icmp .le 21, 3) := by decide +kernel
theorem d_Prg_longestRowAt_42 : decode b_Prg_longestRowAt 42 = .ok (.aload_n 0, 1) := by decide +kernel
theorem d_Prg_longestRowAt_43 : decode b_Prg_longestRowAt 43 = .ok (.iload_n 1, 1) := by decide +kernel
theorem d_Prg_longestRowAt_44 : decode b_Prg_longestRowAt 44 = .ok (.iload 4, 2) := by decide +kernel
theorem d_Prg_longestRowAt_46 : decode b_Prg_longestRowAt 46 = .ok (.iload 5, 2) := by decide +kernel
theorem d_Prg_longestRowAt_48 : decode b_Prg_longestRowAt 48 = .ok (.invokevirtual 78, 3) := by decide +kernel
theorem d_Prg_longestRowAt_51 : decode b_Prg_longestRowAt 51 = .ok (.ifCond .eq 9, 3) := by decide +kernel
theorem d_Prg_longestRowAt_54 : decode b_Prg_longestRowAt 54 = .ok (.iload 4, 2) := by decide +kernel
theorem d_Prg_longestRowAt_56 : decode b_Prg_longestRowAt 56 = .ok (.istore_n 2, 1) := by decide +kernel
theorem d_Prg_longestRowAt_57 : decode b_Prg_longestRowAt 57 = .ok (.iload 5, 2) := by decide +kernel
theorem d_Prg_longestRowAt_59 : decode b_Prg_longestRowAt 59 = .ok (.istore_n 3, 1) := by decide +kernel
theorem d_Prg_longestRowAt_60 : decode b_Prg_longestRowAt 60 = .ok (.iinc 4 1, 3) := by decide +kernel
theorem d_Prg_longestRowAt_63 : decode b_Prg_longestRowAt 63 = .ok (.goto (-56), 3) := by decide +kernel
theorem d_Prg_longestRowAt_66 : decode b_Prg_longestRowAt 66 = .ok (.iload_n 2, 1) := by decide +kernel
theorem d_Prg_longestRowAt_67 : decode b_Prg_longestRowAt 67 = .ok (.ireturn, 1) := by decide +kernel
abbrev y_Prg_isRowAt : MethodName := ⟨"FusedEngine$Program", "isRowAt", "(III)Z"⟩
abbrev b_Prg_isRowAt : ByteArray := prog_3_method_12_code
theorem d_Prg_isRowAt_0 : decode b_Prg_isRowAt 0 = .ok (.iload_n 1, 1) := by decide +kernel
theorem d_Prg_isRowAt_1 : decode b_Prg_isRowAt 1 = .ok (.iload_n 3, 1) := by decide +kernel
theorem d_Prg_isRowAt_2 : decode b_Prg_isRowAt 2 = .ok (.iadd, 1) := by decide +kernel
theorem d_Prg_isRowAt_3 : decode b_Prg_isRowAt 3 = .ok (.aload_n 0, 1) := by decide +kernel
theorem d_Prg_isRowAt_4 : decode b_Prg_isRowAt 4 = .ok (.getfield 42, 3) := by decide +kernel
theorem d_Prg_isRowAt_7 : decode b_Prg_isRowAt 7 = .ok (.if_icmp .le 5, 3) := by decide +kernel
theorem d_Prg_isRowAt_10 : decode b_Prg_isRowAt 10 = .ok (.iconst 0, 1) := by decide +kernel
theorem d_Prg_isRowAt_11 : decode b_Prg_isRowAt 11 = .ok (.ireturn, 1) := by decide +kernel
theorem d_Prg_isRowAt_12 : decode b_Prg_isRowAt 12 = .ok (.iconst 0, 1) := by decide +kernel
theorem d_Prg_isRowAt_13 : decode b_Prg_isRowAt 13 = .ok (.istore 4, 2) := by decide +kernel
theorem d_Prg_isRowAt_15 : decode b_Prg_isRowAt 15 = .ok (.iload 4, 2) := by decide +kernel
theorem d_Prg_isRowAt_17 : decode b_Prg_isRowAt 17 = .ok (.iload_n 3, 1) := by decide +kernel
theorem d_Prg_isRowAt_18 : decode b_Prg_isRowAt 18 = .ok (.if_icmp .ge 48, 3) := by decide +kernel
theorem d_Prg_isRowAt_21 : decode b_Prg_isRowAt 21 = .ok (.aload_n 0, 1) := by decide +kernel
theorem d_Prg_isRowAt_22 : decode b_Prg_isRowAt 22 = .ok (.getfield 11, 3) := by decide +kernel
theorem d_Prg_isRowAt_25 : decode b_Prg_isRowAt 25 = .ok (.iload_n 1, 1) := by decide +kernel
theorem d_Prg_isRowAt_26 : decode b_Prg_isRowAt 26 = .ok (.iload 4, 2) := by decide +kernel
theorem d_Prg_isRowAt_28 : decode b_Prg_isRowAt 28 = .ok (.iadd, 1) := by decide +kernel
theorem d_Prg_isRowAt_29 : decode b_Prg_isRowAt 29 = .ok (.iaload, 1) := by decide +kernel
theorem d_Prg_isRowAt_30 : decode b_Prg_isRowAt 30 = .ok (.iload_n 2, 1) := by decide +kernel
theorem d_Prg_isRowAt_31 : decode b_Prg_isRowAt 31 = .ok (.iload 4, 2) := by decide +kernel
theorem d_Prg_isRowAt_33 : decode b_Prg_isRowAt 33 = .ok (.invokestatic 74, 3) := by decide +kernel
theorem d_Prg_isRowAt_36 : decode b_Prg_isRowAt 36 = .ok (.if_icmp .eq 5, 3) := by decide +kernel
theorem d_Prg_isRowAt_39 : decode b_Prg_isRowAt 39 = .ok (.iconst 0, 1) := by decide +kernel
theorem d_Prg_isRowAt_40 : decode b_Prg_isRowAt 40 = .ok (.ireturn, 1) := by decide +kernel
theorem d_Prg_isRowAt_41 : decode b_Prg_isRowAt 41 = .ok (.iload 4, 2) := by decide +kernel
theorem d_Prg_isRowAt_43 : decode b_Prg_isRowAt 43 = .ok (.ifCond .le 17, 3) := by decide +kernel
theorem d_Prg_isRowAt_46 : decode b_Prg_isRowAt 46 = .ok (.aload_n 0, 1) := by decide +kernel
theorem d_Prg_isRowAt_47 : decode b_Prg_isRowAt 47 = .ok (.getfield 18, 3) := by decide +kernel
theorem d_Prg_isRowAt_50 : decode b_Prg_isRowAt 50 = .ok (.iload_n 1, 1) := by decide +kernel
theorem d_Prg_isRowAt_51 : decode b_Prg_isRowAt 51 = .ok (.iload 4, 2) := by decide +kernel
theorem d_Prg_isRowAt_53 : decode b_Prg_isRowAt 53 = .ok (.iadd, 1) := by decide +kernel
theorem d_Prg_isRowAt_54 : decode b_Prg_isRowAt 54 = .ok (.baload, 1) := by decide +kernel
theorem d_Prg_isRowAt_55 : decode b_Prg_isRowAt 55 = .ok (.ifCond .eq 5, 3) := by decide +kernel
theorem d_Prg_isRowAt_58 : decode b_Prg_isRowAt 58 = .ok (.iconst 0, 1) := by decide +kernel
theorem d_Prg_isRowAt_59 : decode b_Prg_isRowAt 59 = .ok (.ireturn, 1) := by decide +kernel
theorem d_Prg_isRowAt_60 : decode b_Prg_isRowAt 60 = .ok (.iinc 4 1, 3) := by decide +kernel
theorem d_Prg_isRowAt_63 : decode b_Prg_isRowAt 63 = .ok (.goto (-48), 3) := by decide +kernel
theorem d_Prg_isRowAt_66 : decode b_Prg_isRowAt 66 = .ok (.iconst 1, 1) := by decide +kernel
theorem d_Prg_isRowAt_67 : decode b_Prg_isRowAt 67 = .ok (.ireturn, 1) := by decide +kernel
abbrev y_Eng_init : MethodName := ⟨"FusedEngine", "<init>", "()V"⟩
abbrev b_Eng_init : ByteArray := prog_1_method_1_code
theorem d_Eng_init_0 : decode b_Eng_init 0 = .ok (.aload_n 0, 1) := by decide +kernel
theorem d_Eng_init_1 : decode b_Eng_init 1 = .ok (.invokespecial 1, 3) := by decide +kernel
theorem d_Eng_init_4 : decode b_Eng_init 4 = .ok (.aload_n 0, 1) := by decide +kernel
theorem d_Eng_init_5 : decode b_Eng_init 5 = .ok (.new 7, 3) := by decide +kernel
theorem d_Eng_init_8 : decode b_Eng_init 8 = .ok (.dup, 1) := by decide +kernel
theorem d_Eng_init_9 : decode b_Eng_init 9 = .ok (.invokespecial 9, 3) := by decide +kernel
theorem d_Eng_init_12 : decode b_Eng_init 12 = .ok (.putfield 10, 3) := by decide +kernel
theorem d_Eng_init_15 : decode b_Eng_init 15 = .ok (.aload_n 0, 1) := by decide +kernel
theorem d_Eng_init_16 : decode b_Eng_init 16 = .ok (.new 16, 3) := by decide +kernel
theorem d_Eng_init_19 : decode b_Eng_init 19 = .ok (.dup, 1) := by decide +kernel
theorem d_Eng_init_20 : decode b_Eng_init 20 = .ok (.invokespecial 18, 3) := by decide +kernel
theorem d_Eng_init_23 : decode b_Eng_init 23 = .ok (.putfield 19, 3) := by decide +kernel
theorem d_Eng_init_26 : decode b_Eng_init 26 = .ok (.aload_n 0, 1) := by decide +kernel
theorem d_Eng_init_27 : decode b_Eng_init 27 = .ok (.new 16, 3) := by decide +kernel
theorem d_Eng_init_30 : decode b_Eng_init 30 = .ok (.dup, 1) := by decide +kernel
theorem d_Eng_init_31 : decode b_Eng_init 31 = .ok (.invokespecial 18, 3) := by decide +kernel
theorem d_Eng_init_34 : decode b_Eng_init 34 = .ok (.putfield 23, 3) := by decide +kernel
theorem d_Eng_init_37 : decode b_Eng_init 37 = .ok (.return_, 1) := by decide +kernel
abbrev y_Eng_add : MethodName := ⟨"FusedEngine", "add", "(II)I"⟩
abbrev b_Eng_add : ByteArray := prog_1_method_2_code
theorem d_Eng_add_0 : decode b_Eng_add 0 = .ok (.iload_n 1, 1) := by decide +kernel
theorem d_Eng_add_1 : decode b_Eng_add 1 = .ok (.iload_n 2, 1) := by decide +kernel
theorem d_Eng_add_2 : decode b_Eng_add 2 = .ok (.invokestatic 26, 3) := by decide +kernel
theorem d_Eng_add_5 : decode b_Eng_add 5 = .ok (.ifCond .ne 13, 3) := by decide +kernel
theorem d_Eng_add_8 : decode b_Eng_add 8 = .ok (.new 30, 3) := by decide +kernel
theorem d_Eng_add_11 : decode b_Eng_add 11 = .ok (.dup, 1) := by decide +kernel
theorem d_Eng_add_12 : decode b_Eng_add 12 = .ok (.ldc 32, 2) := by decide +kernel
theorem d_Eng_add_14 : decode b_Eng_add 14 = .ok (.invokespecial 34, 3) := by decide +kernel
theorem d_Eng_add_17 : decode b_Eng_add 17 = .ok (.athrow, 1) := by decide +kernel
theorem d_Eng_add_18 : decode b_Eng_add 18 = .ok (.aload_n 0, 1) := by decide +kernel
theorem d_Eng_add_19 : decode b_Eng_add 19 = .ok (.getfield 10, 3) := by decide +kernel
theorem d_Eng_add_22 : decode b_Eng_add 22 = .ok (.getfield 37, 3) := by decide +kernel
theorem d_Eng_add_25 : decode b_Eng_add 25 = .ok (.bipush 80, 2) := by decide +kernel
theorem d_Eng_add_27 : decode b_Eng_add 27 = .ok (.if_icmp .ne 13, 3) := by decide +kernel
theorem d_Eng_add_30 : decode b_Eng_add 30 = .ok (.new 41, 3) := by decide +kernel
theorem d_Eng_add_33 : decode b_Eng_add 33 = .ok (.dup, 1) := by decide +kernel
theorem d_Eng_add_34 : decode b_Eng_add 34 = .ok (.ldc 43, 2) := by decide +kernel
theorem d_Eng_add_36 : decode b_Eng_add 36 = .ok (.invokespecial 45, 3) := by decide +kernel
theorem d_Eng_add_39 : decode b_Eng_add 39 = .ok (.athrow, 1) := by decide +kernel
theorem d_Eng_add_40 : decode b_Eng_add 40 = .ok (.aload_n 0, 1) := by decide +kernel
theorem d_Eng_add_41 : decode b_Eng_add 41 = .ok (.getfield 10, 3) := by decide +kernel
theorem d_Eng_add_44 : decode b_Eng_add 44 = .ok (.iload_n 1, 1) := by decide +kernel
theorem d_Eng_add_45 : decode b_Eng_add 45 = .ok (.iload_n 2, 1) := by decide +kernel
theorem d_Eng_add_46 : decode b_Eng_add 46 = .ok (.invokevirtual 46, 3) := by decide +kernel
theorem d_Eng_add_49 : decode b_Eng_add 49 = .ok (.istore_n 3, 1) := by decide +kernel
theorem d_Eng_add_50 : decode b_Eng_add 50 = .ok (.aload_n 0, 1) := by decide +kernel
theorem d_Eng_add_51 : decode b_Eng_add 51 = .ok (.invokevirtual 50, 3) := by decide +kernel
theorem d_Eng_add_54 : decode b_Eng_add 54 = .ok (.iload_n 3, 1) := by decide +kernel
theorem d_Eng_add_55 : decode b_Eng_add 55 = .ok (.ireturn, 1) := by decide +kernel
abbrev y_Eng_change : MethodName := ⟨"FusedEngine", "change", "(III)V"⟩
abbrev b_Eng_change : ByteArray := prog_1_method_3_code
theorem d_Eng_change_0 : decode b_Eng_change 0 = .ok (.aload_n 0, 1) := by decide +kernel
theorem d_Eng_change_1 : decode b_Eng_change 1 = .ok (.getfield 10, 3) := by decide +kernel
theorem d_Eng_change_4 : decode b_Eng_change 4 = .ok (.iload_n 1, 1) := by decide +kernel
theorem d_Eng_change_5 : decode b_Eng_change 5 = .ok (.invokevirtual 53, 3) := by decide +kernel
theorem d_Eng_change_8 : decode b_Eng_change 8 = .ok (.ifCond .ne 13, 3) := by decide +kernel
theorem d_Eng_change_11 : decode b_Eng_change 11 = .ok (.new 57, 3) := by decide +kernel
theorem d_Eng_change_14 : decode b_Eng_change 14 = .ok (.dup, 1) := by decide +kernel
theorem d_Eng_change_15 : decode b_Eng_change 15 = .ok (.ldc 59, 2) := by decide +kernel
theorem d_Eng_change_17 : decode b_Eng_change 17 = .ok (.invokespecial 61, 3) := by decide +kernel
theorem d_Eng_change_20 : decode b_Eng_change 20 = .ok (.athrow, 1) := by decide +kernel
theorem d_Eng_change_21 : decode b_Eng_change 21 = .ok (.iload_n 2, 1) := by decide +kernel
theorem d_Eng_change_22 : decode b_Eng_change 22 = .ok (.iload_n 3, 1) := by decide +kernel
theorem d_Eng_change_23 : decode b_Eng_change 23 = .ok (.invokestatic 26, 3) := by decide +kernel
theorem d_Eng_change_26 : decode b_Eng_change 26 = .ok (.ifCond .ne 13, 3) := by decide +kernel
theorem d_Eng_change_29 : decode b_Eng_change 29 = .ok (.new 30, 3) := by decide +kernel
theorem d_Eng_change_32 : decode b_Eng_change 32 = .ok (.dup, 1) := by decide +kernel
theorem d_Eng_change_33 : decode b_Eng_change 33 = .ok (.ldc 32, 2) := by decide +kernel
theorem d_Eng_change_35 : decode b_Eng_change 35 = .ok (.invokespecial 34, 3) := by decide +kernel
theorem d_Eng_change_38 : decode b_Eng_change 38 = .ok (.athrow, 1) := by decide +kernel
theorem d_Eng_change_39 : decode b_Eng_change 39 = .ok (.aload_n 0, 1) := by decide +kernel
theorem d_Eng_change_40 : decode b_Eng_change 40 = .ok (.getfield 10, 3) := by decide +kernel
theorem d_Eng_change_43 : decode b_Eng_change 43 = .ok (.iload_n 1, 1) := by decide +kernel
theorem d_Eng_change_44 : decode b_Eng_change 44 = .ok (.iload_n 2, 1) := by decide +kernel
theorem d_Eng_change_45 : decode b_Eng_change 45 = .ok (.iload_n 3, 1) := by decide +kernel
theorem d_Eng_change_46 : decode b_Eng_change 46 = .ok (.invokevirtual 62, 3) := by decide +kernel
theorem d_Eng_change_49 : decode b_Eng_change 49 = .ok (.aload_n 0, 1) := by decide +kernel
theorem d_Eng_change_50 : decode b_Eng_change 50 = .ok (.invokevirtual 50, 3) := by decide +kernel
theorem d_Eng_change_53 : decode b_Eng_change 53 = .ok (.return_, 1) := by decide +kernel
abbrev y_Eng_clear : MethodName := ⟨"FusedEngine", "clear", "()V"⟩
abbrev b_Eng_clear : ByteArray := prog_1_method_4_code
theorem d_Eng_clear_0 : decode b_Eng_clear 0 = .ok (.aload_n 0, 1) := by decide +kernel
theorem d_Eng_clear_1 : decode b_Eng_clear 1 = .ok (.getfield 10, 3) := by decide +kernel
theorem d_Eng_clear_4 : decode b_Eng_clear 4 = .ok (.invokevirtual 66, 3) := by decide +kernel
theorem d_Eng_clear_7 : decode b_Eng_clear 7 = .ok (.aload_n 0, 1) := by decide +kernel
theorem d_Eng_clear_8 : decode b_Eng_clear 8 = .ok (.invokevirtual 50, 3) := by decide +kernel
theorem d_Eng_clear_11 : decode b_Eng_clear 11 = .ok (.return_, 1) := by decide +kernel
abbrev y_Eng_fuse : MethodName := ⟨"FusedEngine", "fuse", "()I"⟩
abbrev b_Eng_fuse : ByteArray := prog_1_method_5_code
theorem d_Eng_fuse_0 : decode b_Eng_fuse 0 = .ok (.aload_n 0, 1) := by decide +kernel
theorem d_Eng_fuse_1 : decode b_Eng_fuse 1 = .ok (.getfield 10, 3) := by decide +kernel
theorem d_Eng_fuse_4 : decode b_Eng_fuse 4 = .ok (.invokevirtual 69, 3) := by decide +kernel
theorem d_Eng_fuse_7 : decode b_Eng_fuse 7 = .ok (.istore_n 1, 1) := by decide +kernel
theorem d_Eng_fuse_8 : decode b_Eng_fuse 8 = .ok (.aload_n 0, 1) := by decide +kernel
theorem d_Eng_fuse_9 : decode b_Eng_fuse 9 = .ok (.invokevirtual 50, 3) := by decide +kernel
theorem d_Eng_fuse_12 : decode b_Eng_fuse 12 = .ok (.iload_n 1, 1) := by decide +kernel
theorem d_Eng_fuse_13 : decode b_Eng_fuse 13 = .ok (.ireturn, 1) := by decide +kernel
abbrev y_Eng_look : MethodName := ⟨"FusedEngine", "look", "(II)I"⟩
abbrev b_Eng_look : ByteArray := prog_1_method_6_code
theorem d_Eng_look_0 : decode b_Eng_look 0 = .ok (.aload_n 0, 1) := by decide +kernel
theorem d_Eng_look_1 : decode b_Eng_look 1 = .ok (.getfield 10, 3) := by decide +kernel
theorem d_Eng_look_4 : decode b_Eng_look 4 = .ok (.iload_n 1, 1) := by decide +kernel
theorem d_Eng_look_5 : decode b_Eng_look 5 = .ok (.invokevirtual 53, 3) := by decide +kernel
theorem d_Eng_look_8 : decode b_Eng_look 8 = .ok (.ifCond .ne 13, 3) := by decide +kernel
theorem d_Eng_look_11 : decode b_Eng_look 11 = .ok (.new 57, 3) := by decide +kernel
theorem d_Eng_look_14 : decode b_Eng_look 14 = .ok (.dup, 1) := by decide +kernel
theorem d_Eng_look_15 : decode b_Eng_look 15 = .ok (.ldc 59, 2) := by decide +kernel
theorem d_Eng_look_17 : decode b_Eng_look 17 = .ok (.invokespecial 61, 3) := by decide +kernel
theorem d_Eng_look_20 : decode b_Eng_look 20 = .ok (.athrow, 1) := by decide +kernel
theorem d_Eng_look_21 : decode b_Eng_look 21 = .ok (.iload_n 2, 1) := by decide +kernel
theorem d_Eng_look_22 : decode b_Eng_look 22 = .ok (.ifCond .lt 8, 3) := by decide +kernel
theorem d_Eng_look_25 : decode b_Eng_look 25 = .ok (.iload_n 2, 1) := by decide +kernel
theorem d_Eng_look_26 : decode b_Eng_look 26 = .ok (.iconst 3, 1) := by decide +kernel
theorem d_Eng_look_27 : decode b_Eng_look 27 = .ok (.if_icmp .le 13, 3) := by decide +kernel
theorem d_Eng_look_30 : decode b_Eng_look 30 = .ok (.new 57, 3) := by decide +kernel
theorem d_Eng_look_33 : decode b_Eng_look 33 = .ok (.dup, 1) := by decide +kernel
theorem d_Eng_look_34 : decode b_Eng_look 34 = .ok (.ldc 73, 2) := by decide +kernel
theorem d_Eng_look_36 : decode b_Eng_look 36 = .ok (.invokespecial 61, 3) := by decide +kernel
theorem d_Eng_look_39 : decode b_Eng_look 39 = .ok (.athrow, 1) := by decide +kernel
theorem d_Eng_look_40 : decode b_Eng_look 40 = .ok (.iload_n 2, 1) := by decide +kernel
theorem d_Eng_look_41 : decode b_Eng_look 41 = .ok (.iconst 2, 1) := by decide +kernel
theorem d_Eng_look_42 : decode b_Eng_look 42 = .ok (.if_icmp .ne 23, 3) := by decide +kernel
theorem d_Eng_look_45 : decode b_Eng_look 45 = .ok (.aload_n 0, 1) := by decide +kernel
theorem d_Eng_look_46 : decode b_Eng_look 46 = .ok (.getfield 10, 3) := by decide +kernel
theorem d_Eng_look_49 : decode b_Eng_look 49 = .ok (.getfield 75, 3) := by decide +kernel
theorem d_Eng_look_52 : decode b_Eng_look 52 = .ok (.ifCond .ne 13, 3) := by decide +kernel
theorem d_Eng_look_55 : decode b_Eng_look 55 = .ok (.new 57, 3) := by decide +kernel
theorem d_Eng_look_58 : decode b_Eng_look 58 = .ok (.dup, 1) := by decide +kernel
theorem d_Eng_look_59 : decode b_Eng_look 59 = .ok (.ldc 79, 2) := by decide +kernel
theorem d_Eng_look_61 : decode b_Eng_look 61 = .ok (.invokespecial 61, 3) := by decide +kernel
theorem d_Eng_look_64 : decode b_Eng_look 64 = .ok (.athrow, 1) := by decide +kernel
theorem d_Eng_look_65 : decode b_Eng_look 65 = .ok (.aload_n 0, 1) := by decide +kernel
theorem d_Eng_look_66 : decode b_Eng_look 66 = .ok (.getfield 10, 3) := by decide +kernel
theorem d_Eng_look_69 : decode b_Eng_look 69 = .ok (.iload_n 1, 1) := by decide +kernel
theorem d_Eng_look_70 : decode b_Eng_look 70 = .ok (.iload_n 2, 1) := by decide +kernel
theorem d_Eng_look_71 : decode b_Eng_look 71 = .ok (.invokevirtual 81, 3) := by decide +kernel
theorem d_Eng_look_74 : decode b_Eng_look 74 = .ok (.ireturn, 1) := by decide +kernel
abbrev y_Eng_run : MethodName := ⟨"FusedEngine", "run", "(ZI)I"⟩
abbrev b_Eng_run : ByteArray := prog_1_method_7_code
theorem d_Eng_run_0 : decode b_Eng_run 0 = .ok (.iload_n 1, 1) := by decide +kernel
theorem d_Eng_run_1 : decode b_Eng_run 1 = .ok (.ifCond .eq 23, 3) := by decide +kernel
theorem d_Eng_run_4 : decode b_Eng_run 4 = .ok (.aload_n 0, 1) := by decide +kernel
theorem d_Eng_run_5 : decode b_Eng_run 5 = .ok (.getfield 10, 3) := by decide +kernel
theorem d_Eng_run_8 : decode b_Eng_run 8 = .ok (.getfield 75, 3) := by decide +kernel
theorem d_Eng_run_11 : decode b_Eng_run 11 = .ok (.ifCond .ne 13, 3) := by decide +kernel
theorem d_Eng_run_14 : decode b_Eng_run 14 = .ok (.new 41, 3) := by decide +kernel
theorem d_Eng_run_17 : decode b_Eng_run 17 = .ok (.dup, 1) := by decide +kernel
theorem d_Eng_run_18 : decode b_Eng_run 18 = .ok (.ldc 79, 2) := by decide +kernel
theorem d_Eng_run_20 : decode b_Eng_run 20 = .ok (.invokespecial 45, 3) := by decide +kernel
theorem d_Eng_run_23 : decode b_Eng_run 23 = .ok (.athrow, 1) := by decide +kernel
theorem d_Eng_run_24 : decode b_Eng_run 24 = .ok (.aload_n 0, 1) := by decide +kernel
theorem d_Eng_run_25 : decode b_Eng_run 25 = .ok (.iload_n 1, 1) := by decide +kernel
theorem d_Eng_run_26 : decode b_Eng_run 26 = .ok (.invokevirtual 84, 3) := by decide +kernel
theorem d_Eng_run_29 : decode b_Eng_run 29 = .ok (.aload_n 0, 1) := by decide +kernel
theorem d_Eng_run_30 : decode b_Eng_run 30 = .ok (.getfield 10, 3) := by decide +kernel
theorem d_Eng_run_33 : decode b_Eng_run 33 = .ok (.iload_n 1, 1) := by decide +kernel
theorem d_Eng_run_34 : decode b_Eng_run 34 = .ok (.iload_n 2, 1) := by decide +kernel
theorem d_Eng_run_35 : decode b_Eng_run 35 = .ok (.invokevirtual 88, 3) := by decide +kernel
theorem d_Eng_run_38 : decode b_Eng_run 38 = .ok (.ireturn, 1) := by decide +kernel
abbrev y_Eng_restart : MethodName := ⟨"FusedEngine", "restart", "()V"⟩
abbrev b_Eng_restart : ByteArray := prog_1_method_8_code
theorem d_Eng_restart_0 : decode b_Eng_restart 0 = .ok (.aload_n 0, 1) := by decide +kernel
theorem d_Eng_restart_1 : decode b_Eng_restart 1 = .ok (.invokevirtual 50, 3) := by decide +kernel
theorem d_Eng_restart_4 : decode b_Eng_restart 4 = .ok (.return_, 1) := by decide +kernel
abbrev y_Eng_about : MethodName := ⟨"FusedEngine", "about", "(ZI)I"⟩
abbrev b_Eng_about : ByteArray := prog_1_method_9_code
theorem d_Eng_about_0 : decode b_Eng_about 0 = .ok (.aload_n 0, 1) := by decide +kernel
theorem d_Eng_about_1 : decode b_Eng_about 1 = .ok (.iload_n 1, 1) := by decide +kernel
theorem d_Eng_about_2 : decode b_Eng_about 2 = .ok (.invokevirtual 84, 3) := by decide +kernel
theorem d_Eng_about_5 : decode b_Eng_about 5 = .ok (.iload_n 2, 1) := by decide +kernel
theorem d_Eng_about_6 : decode b_Eng_about 6 = .ok (.invokevirtual 92, 3) := by decide +kernel
theorem d_Eng_about_9 : decode b_Eng_about 9 = .ok (.ireturn, 1) := by decide +kernel
abbrev y_Eng_stack : MethodName := ⟨"FusedEngine", "stack", "(ZI)I"⟩
abbrev b_Eng_stack : ByteArray := prog_1_method_10_code
theorem d_Eng_stack_0 : decode b_Eng_stack 0 = .ok (.aload_n 0, 1) := by decide +kernel
theorem d_Eng_stack_1 : decode b_Eng_stack 1 = .ok (.iload_n 1, 1) := by decide +kernel
theorem d_Eng_stack_2 : decode b_Eng_stack 2 = .ok (.invokevirtual 84, 3) := by decide +kernel
theorem d_Eng_stack_5 : decode b_Eng_stack 5 = .ok (.astore_n 3, 1) := by decide +kernel
theorem d_Eng_stack_6 : decode b_Eng_stack 6 = .ok (.iload_n 2, 1) := by decide +kernel
theorem d_Eng_stack_7 : decode b_Eng_stack 7 = .ok (.ifCond .lt 11, 3) := by decide +kernel
theorem d_Eng_stack_10 : decode b_Eng_stack 10 = .ok (.iload_n 2, 1) := by decide +kernel
theorem d_Eng_stack_11 : decode b_Eng_stack 11 = .ok (.aload_n 3, 1) := by decide +kernel
theorem d_Eng_stack_12 : decode b_Eng_stack 12 = .ok (.getfield 95, 3) := by decide +kernel
theorem d_Eng_stack_15 : decode b_Eng_stack 15 = .ok (.if_icmp .lt 13, 3) := by decide +kernel
theorem d_Eng_stack_18 : decode b_Eng_stack 18 = .ok (.new 57, 3) := by decide +kernel
theorem d_Eng_stack_21 : decode b_Eng_stack 21 = .ok (.dup, 1) := by decide +kernel
theorem d_Eng_stack_22 : decode b_Eng_stack 22 = .ok (.ldc 98, 2) := by decide +kernel
theorem d_Eng_stack_24 : decode b_Eng_stack 24 = .ok (.invokespecial 61, 3) := by decide +kernel
theorem d_Eng_stack_27 : decode b_Eng_stack 27 = .ok (.athrow, 1) := by decide +kernel
theorem d_Eng_stack_28 : decode b_Eng_stack 28 = .ok (.aload_n 3, 1) := by decide +kernel
theorem d_Eng_stack_29 : decode b_Eng_stack 29 = .ok (.getfield 100, 3) := by decide +kernel
theorem d_Eng_stack_32 : decode b_Eng_stack 32 = .ok (.iload_n 2, 1) := by decide +kernel
theorem d_Eng_stack_33 : decode b_Eng_stack 33 = .ok (.iaload, 1) := by decide +kernel
theorem d_Eng_stack_34 : decode b_Eng_stack 34 = .ok (.ireturn, 1) := by decide +kernel
abbrev y_Eng_local : MethodName := ⟨"FusedEngine", "local", "(ZI)I"⟩
abbrev b_Eng_local : ByteArray := prog_1_method_11_code
theorem d_Eng_local_0 : decode b_Eng_local 0 = .ok (.iload_n 2, 1) := by decide +kernel
theorem d_Eng_local_1 : decode b_Eng_local 1 = .ok (.ifCond .lt 9, 3) := by decide +kernel
theorem d_Eng_local_4 : decode b_Eng_local 4 = .ok (.iload_n 2, 1) := by decide +kernel
theorem d_Eng_local_5 : decode b_Eng_local 5 = .ok (.bipush 8, 2) := by decide +kernel
theorem d_Eng_local_7 : decode b_Eng_local 7 = .ok (.if_icmp .lt 13, 3) := by decide +kernel
theorem d_Eng_local_10 : decode b_Eng_local 10 = .ok (.new 57, 3) := by decide +kernel
theorem d_Eng_local_13 : decode b_Eng_local 13 = .ok (.dup, 1) := by decide +kernel
theorem d_Eng_local_14 : decode b_Eng_local 14 = .ok (.ldc 104, 2) := by decide +kernel
theorem d_Eng_local_16 : decode b_Eng_local 16 = .ok (.invokespecial 61, 3) := by decide +kernel
theorem d_Eng_local_19 : decode b_Eng_local 19 = .ok (.athrow, 1) := by decide +kernel
theorem d_Eng_local_20 : decode b_Eng_local 20 = .ok (.aload_n 0, 1) := by decide +kernel
theorem d_Eng_local_21 : decode b_Eng_local 21 = .ok (.iload_n 1, 1) := by decide +kernel
theorem d_Eng_local_22 : decode b_Eng_local 22 = .ok (.invokevirtual 84, 3) := by decide +kernel
theorem d_Eng_local_25 : decode b_Eng_local 25 = .ok (.getfield 106, 3) := by decide +kernel
theorem d_Eng_local_28 : decode b_Eng_local 28 = .ok (.iload_n 2, 1) := by decide +kernel
theorem d_Eng_local_29 : decode b_Eng_local 29 = .ok (.iaload, 1) := by decide +kernel
theorem d_Eng_local_30 : decode b_Eng_local 30 = .ok (.ireturn, 1) := by decide +kernel
abbrev y_Eng_out : MethodName := ⟨"FusedEngine", "out", "(ZI)I"⟩
abbrev b_Eng_out : ByteArray := prog_1_method_12_code
theorem d_Eng_out_0 : decode b_Eng_out 0 = .ok (.aload_n 0, 1) := by decide +kernel
theorem d_Eng_out_1 : decode b_Eng_out 1 = .ok (.iload_n 1, 1) := by decide +kernel
theorem d_Eng_out_2 : decode b_Eng_out 2 = .ok (.invokevirtual 84, 3) := by decide +kernel
theorem d_Eng_out_5 : decode b_Eng_out 5 = .ok (.astore_n 3, 1) := by decide +kernel
theorem d_Eng_out_6 : decode b_Eng_out 6 = .ok (.iload_n 2, 1) := by decide +kernel
theorem d_Eng_out_7 : decode b_Eng_out 7 = .ok (.ifCond .lt 11, 3) := by decide +kernel
theorem d_Eng_out_10 : decode b_Eng_out 10 = .ok (.iload_n 2, 1) := by decide +kernel
theorem d_Eng_out_11 : decode b_Eng_out 11 = .ok (.aload_n 3, 1) := by decide +kernel
theorem d_Eng_out_12 : decode b_Eng_out 12 = .ok (.invokevirtual 109, 3) := by decide +kernel
theorem d_Eng_out_15 : decode b_Eng_out 15 = .ok (.if_icmp .lt 13, 3) := by decide +kernel
theorem d_Eng_out_18 : decode b_Eng_out 18 = .ok (.new 57, 3) := by decide +kernel
theorem d_Eng_out_21 : decode b_Eng_out 21 = .ok (.dup, 1) := by decide +kernel
theorem d_Eng_out_22 : decode b_Eng_out 22 = .ok (.ldc 112, 2) := by decide +kernel
theorem d_Eng_out_24 : decode b_Eng_out 24 = .ok (.invokespecial 61, 3) := by decide +kernel
theorem d_Eng_out_27 : decode b_Eng_out 27 = .ok (.athrow, 1) := by decide +kernel
theorem d_Eng_out_28 : decode b_Eng_out 28 = .ok (.aload_n 3, 1) := by decide +kernel
theorem d_Eng_out_29 : decode b_Eng_out 29 = .ok (.getfield 114, 3) := by decide +kernel
theorem d_Eng_out_32 : decode b_Eng_out 32 = .ok (.iload_n 2, 1) := by decide +kernel
theorem d_Eng_out_33 : decode b_Eng_out 33 = .ok (.iaload, 1) := by decide +kernel
theorem d_Eng_out_34 : decode b_Eng_out 34 = .ok (.ireturn, 1) := by decide +kernel
abbrev y_Eng_machineOf : MethodName := ⟨"FusedEngine", "machineOf", "(Z)LFusedEngine$Machine;"⟩
abbrev b_Eng_machineOf : ByteArray := prog_1_method_13_code
theorem d_Eng_machineOf_0 : decode b_Eng_machineOf 0 = .ok (.iload_n 1, 1) := by decide +kernel
theorem d_Eng_machineOf_1 : decode b_Eng_machineOf 1 = .ok (.ifCond .eq 10, 3) := by decide +kernel
theorem d_Eng_machineOf_4 : decode b_Eng_machineOf 4 = .ok (.aload_n 0, 1) := by decide +kernel
theorem d_Eng_machineOf_5 : decode b_Eng_machineOf 5 = .ok (.getfield 23, 3) := by decide +kernel
theorem d_Eng_machineOf_8 : decode b_Eng_machineOf 8 = .ok (.goto 7, 3) := by decide +kernel
theorem d_Eng_machineOf_11 : decode b_Eng_machineOf 11 = .ok (.aload_n 0, 1) := by decide +kernel
theorem d_Eng_machineOf_12 : decode b_Eng_machineOf 12 = .ok (.getfield 19, 3) := by decide +kernel
theorem d_Eng_machineOf_15 : decode b_Eng_machineOf 15 = .ok (.areturn, 1) := by decide +kernel
abbrev y_Eng_beginBoth : MethodName := ⟨"FusedEngine", "beginBoth", "()V"⟩
abbrev b_Eng_beginBoth : ByteArray := prog_1_method_14_code
theorem d_Eng_beginBoth_0 : decode b_Eng_beginBoth 0 = .ok (.aload_n 0, 1) := by decide +kernel
theorem d_Eng_beginBoth_1 : decode b_Eng_beginBoth 1 = .ok (.getfield 19, 3) := by decide +kernel
theorem d_Eng_beginBoth_4 : decode b_Eng_beginBoth 4 = .ok (.invokevirtual 117, 3) := by decide +kernel
theorem d_Eng_beginBoth_7 : decode b_Eng_beginBoth 7 = .ok (.aload_n 0, 1) := by decide +kernel
theorem d_Eng_beginBoth_8 : decode b_Eng_beginBoth 8 = .ok (.getfield 23, 3) := by decide +kernel
theorem d_Eng_beginBoth_11 : decode b_Eng_beginBoth 11 = .ok (.invokevirtual 117, 3) := by decide +kernel
theorem d_Eng_beginBoth_14 : decode b_Eng_beginBoth 14 = .ok (.return_, 1) := by decide +kernel
abbrev y_Arr_fill : MethodName := ⟨"java/util/Arrays", "fill", "([II)V"⟩
abbrev b_Arr_fill : ByteArray := prog_16_method_103_code
theorem d_Arr_fill_0 : decode b_Arr_fill 0 = .ok (.iconst 0, 1) := by decide +kernel
theorem d_Arr_fill_1 : decode b_Arr_fill 1 = .ok (.istore_n 2, 1) := by decide +kernel
theorem d_Arr_fill_2 : decode b_Arr_fill 2 = .ok (.aload_n 0, 1) := by decide +kernel
theorem d_Arr_fill_3 : decode b_Arr_fill 3 = .ok (.arraylength, 1) := by decide +kernel
theorem d_Arr_fill_4 : decode b_Arr_fill 4 = .ok (.istore_n 3, 1) := by decide +kernel
theorem d_Arr_fill_5 : decode b_Arr_fill 5 = .ok (.iload_n 2, 1) := by decide +kernel
theorem d_Arr_fill_6 : decode b_Arr_fill 6 = .ok (.iload_n 3, 1) := by decide +kernel
theorem d_Arr_fill_7 : decode b_Arr_fill 7 = .ok (.if_icmp .ge 13, 3) := by decide +kernel
theorem d_Arr_fill_10 : decode b_Arr_fill 10 = .ok (.aload_n 0, 1) := by decide +kernel
theorem d_Arr_fill_11 : decode b_Arr_fill 11 = .ok (.iload_n 2, 1) := by decide +kernel
theorem d_Arr_fill_12 : decode b_Arr_fill 12 = .ok (.iload_n 1, 1) := by decide +kernel
theorem d_Arr_fill_13 : decode b_Arr_fill 13 = .ok (.iastore, 1) := by decide +kernel
theorem d_Arr_fill_14 : decode b_Arr_fill 14 = .ok (.iinc 2 1, 3) := by decide +kernel
theorem d_Arr_fill_17 : decode b_Arr_fill 17 = .ok (.goto (-12), 3) := by decide +kernel
theorem d_Arr_fill_20 : decode b_Arr_fill 20 = .ok (.return_, 1) := by decide +kernel
end
section
/-! DECODE: the model, but its constructor -/
abbrev y_Mod_thrown : MethodName := ⟨"FusedEngineModel", "thrown", "()I"⟩
abbrev b_Mod_thrown : ByteArray := prog_6_method_2_code
theorem d_Mod_thrown_0 : decode b_Mod_thrown 0 = .ok (.aload_n 0, 1) := by decide +kernel
theorem d_Mod_thrown_1 : decode b_Mod_thrown 1 = .ok (.getfield 53, 3) := by decide +kernel
theorem d_Mod_thrown_4 : decode b_Mod_thrown 4 = .ok (.ireturn, 1) := by decide +kernel
abbrev y_Mod_refuse : MethodName := ⟨"FusedEngineModel", "refuse", "(I)I"⟩
abbrev b_Mod_refuse : ByteArray := prog_6_method_3_code
theorem d_Mod_refuse_0 : decode b_Mod_refuse 0 = .ok (.aload_n 0, 1) := by decide +kernel
theorem d_Mod_refuse_1 : decode b_Mod_refuse 1 = .ok (.iload_n 1, 1) := by decide +kernel
theorem d_Mod_refuse_2 : decode b_Mod_refuse 2 = .ok (.putfield 53, 3) := by decide +kernel
theorem d_Mod_refuse_5 : decode b_Mod_refuse 5 = .ok (.iconst 0, 1) := by decide +kernel
theorem d_Mod_refuse_6 : decode b_Mod_refuse 6 = .ok (.ireturn, 1) := by decide +kernel
abbrev y_Mod_outside : MethodName := ⟨"FusedEngineModel", "outside", "(III)Z"⟩
abbrev b_Mod_outside : ByteArray := prog_6_method_4_code
theorem d_Mod_outside_0 : decode b_Mod_outside 0 = .ok (.iload_n 0, 1) := by decide +kernel
theorem d_Mod_outside_1 : decode b_Mod_outside 1 = .ok (.iload_n 1, 1) := by decide +kernel
theorem d_Mod_outside_2 : decode b_Mod_outside 2 = .ok (.if_icmp .lt 8, 3) := by decide +kernel
theorem d_Mod_outside_5 : decode b_Mod_outside 5 = .ok (.iload_n 0, 1) := by decide +kernel
theorem d_Mod_outside_6 : decode b_Mod_outside 6 = .ok (.iload_n 2, 1) := by decide +kernel
theorem d_Mod_outside_7 : decode b_Mod_outside 7 = .ok (.if_icmp .le 7, 3) := by decide +kernel
theorem d_Mod_outside_10 : decode b_Mod_outside 10 = .ok (.iconst 1, 1) := by decide +kernel
theorem d_Mod_outside_11 : decode b_Mod_outside 11 = .ok (.goto 4, 3) := by decide +kernel
theorem d_Mod_outside_14 : decode b_Mod_outside 14 = .ok (.iconst 0, 1) := by decide +kernel
theorem d_Mod_outside_15 : decode b_Mod_outside 15 = .ok (.ireturn, 1) := by decide +kernel
abbrev y_Mod_isPlain : MethodName := ⟨"FusedEngineModel", "isPlain", "(I)Z"⟩
abbrev b_Mod_isPlain : ByteArray := prog_6_method_5_code
theorem d_Mod_isPlain_0 : decode b_Mod_isPlain 0 = .ok (.iload_n 0, 1) := by decide +kernel
theorem d_Mod_isPlain_1 : decode b_Mod_isPlain 1 = .ok (.bipush 43, 2) := by decide +kernel
theorem d_Mod_isPlain_3 : decode b_Mod_isPlain 3 = .ok (.if_icmp .eq 33, 3) := by decide +kernel
theorem d_Mod_isPlain_6 : decode b_Mod_isPlain 6 = .ok (.iload_n 0, 1) := by decide +kernel
theorem d_Mod_isPlain_7 : decode b_Mod_isPlain 7 = .ok (.bipush 45, 2) := by decide +kernel
theorem d_Mod_isPlain_9 : decode b_Mod_isPlain 9 = .ok (.if_icmp .eq 27, 3) := by decide +kernel
theorem d_Mod_isPlain_12 : decode b_Mod_isPlain 12 = .ok (.iload_n 0, 1) := by decide +kernel
theorem d_Mod_isPlain_13 : decode b_Mod_isPlain 13 = .ok (.bipush 42, 2) := by decide +kernel
theorem d_Mod_isPlain_15 : decode b_Mod_isPlain 15 = .ok (.if_icmp .eq 21, 3) := by decide +kernel
theorem d_Mod_isPlain_18 : decode b_Mod_isPlain 18 = .ok (.iload_n 0, 1) := by decide +kernel
theorem d_Mod_isPlain_19 : decode b_Mod_isPlain 19 = .ok (.bipush 47, 2) := by decide +kernel
theorem d_Mod_isPlain_21 : decode b_Mod_isPlain 21 = .ok (.if_icmp .eq 15, 3) := by decide +kernel
theorem d_Mod_isPlain_24 : decode b_Mod_isPlain 24 = .ok (.iload_n 0, 1) := by decide +kernel
theorem d_Mod_isPlain_25 : decode b_Mod_isPlain 25 = .ok (.bipush 60, 2) := by decide +kernel
theorem d_Mod_isPlain_27 : decode b_Mod_isPlain 27 = .ok (.if_icmp .eq 9, 3) := by decide +kernel
theorem d_Mod_isPlain_30 : decode b_Mod_isPlain 30 = .ok (.iload_n 0, 1) := by decide +kernel
theorem d_Mod_isPlain_31 : decode b_Mod_isPlain 31 = .ok (.bipush 61, 2) := by decide +kernel
theorem d_Mod_isPlain_33 : decode b_Mod_isPlain 33 = .ok (.if_icmp .ne 7, 3) := by decide +kernel
theorem d_Mod_isPlain_36 : decode b_Mod_isPlain 36 = .ok (.iconst 1, 1) := by decide +kernel
theorem d_Mod_isPlain_37 : decode b_Mod_isPlain 37 = .ok (.goto 4, 3) := by decide +kernel
theorem d_Mod_isPlain_40 : decode b_Mod_isPlain 40 = .ok (.iconst 0, 1) := by decide +kernel
theorem d_Mod_isPlain_41 : decode b_Mod_isPlain 41 = .ok (.ireturn, 1) := by decide +kernel
abbrev y_Mod_isLetter : MethodName := ⟨"FusedEngineModel", "isLetter", "(I)Z"⟩
abbrev b_Mod_isLetter : ByteArray := prog_6_method_6_code
theorem d_Mod_isLetter_0 : decode b_Mod_isLetter 0 = .ok (.iload_n 0, 1) := by decide +kernel
theorem d_Mod_isLetter_1 : decode b_Mod_isLetter 1 = .ok (.invokestatic 57, 3) := by decide +kernel
theorem d_Mod_isLetter_4 : decode b_Mod_isLetter 4 = .ok (.ifCond .ne 75, 3) := by decide +kernel
theorem d_Mod_isLetter_7 : decode b_Mod_isLetter 7 = .ok (.iload_n 0, 1) := by decide +kernel
theorem d_Mod_isLetter_8 : decode b_Mod_isLetter 8 = .ok (.bipush 80, 2) := by decide +kernel
theorem d_Mod_isLetter_10 : decode b_Mod_isLetter 10 = .ok (.if_icmp .eq 69, 3) := by decide +kernel
theorem d_Mod_isLetter_13 : decode b_Mod_isLetter 13 = .ok (.iload_n 0, 1) := by decide +kernel
theorem d_Mod_isLetter_14 : decode b_Mod_isLetter 14 = .ok (.bipush 76, 2) := by decide +kernel
theorem d_Mod_isLetter_16 : decode b_Mod_isLetter 16 = .ok (.if_icmp .eq 63, 3) := by decide +kernel
theorem d_Mod_isLetter_19 : decode b_Mod_isLetter 19 = .ok (.iload_n 0, 1) := by decide +kernel
theorem d_Mod_isLetter_20 : decode b_Mod_isLetter 20 = .ok (.bipush 83, 2) := by decide +kernel
theorem d_Mod_isLetter_22 : decode b_Mod_isLetter 22 = .ok (.if_icmp .eq 57, 3) := by decide +kernel
theorem d_Mod_isLetter_25 : decode b_Mod_isLetter 25 = .ok (.iload_n 0, 1) := by decide +kernel
theorem d_Mod_isLetter_26 : decode b_Mod_isLetter 26 = .ok (.bipush 68, 2) := by decide +kernel
theorem d_Mod_isLetter_28 : decode b_Mod_isLetter 28 = .ok (.if_icmp .eq 51, 3) := by decide +kernel
theorem d_Mod_isLetter_31 : decode b_Mod_isLetter 31 = .ok (.iload_n 0, 1) := by decide +kernel
theorem d_Mod_isLetter_32 : decode b_Mod_isLetter 32 = .ok (.bipush 88, 2) := by decide +kernel
theorem d_Mod_isLetter_34 : decode b_Mod_isLetter 34 = .ok (.if_icmp .eq 45, 3) := by decide +kernel
theorem d_Mod_isLetter_37 : decode b_Mod_isLetter 37 = .ok (.iload_n 0, 1) := by decide +kernel
theorem d_Mod_isLetter_38 : decode b_Mod_isLetter 38 = .ok (.bipush 79, 2) := by decide +kernel
theorem d_Mod_isLetter_40 : decode b_Mod_isLetter 40 = .ok (.if_icmp .eq 39, 3) := by decide +kernel
theorem d_Mod_isLetter_43 : decode b_Mod_isLetter 43 = .ok (.iload_n 0, 1) := by decide +kernel
theorem d_Mod_isLetter_44 : decode b_Mod_isLetter 44 = .ok (.bipush 86, 2) := by decide +kernel
theorem d_Mod_isLetter_46 : decode b_Mod_isLetter 46 = .ok (.if_icmp .eq 33, 3) := by decide +kernel
theorem d_Mod_isLetter_49 : decode b_Mod_isLetter 49 = .ok (.iload_n 0, 1) := by decide +kernel
theorem d_Mod_isLetter_50 : decode b_Mod_isLetter 50 = .ok (.bipush 74, 2) := by decide +kernel
theorem d_Mod_isLetter_52 : decode b_Mod_isLetter 52 = .ok (.if_icmp .eq 27, 3) := by decide +kernel
theorem d_Mod_isLetter_55 : decode b_Mod_isLetter 55 = .ok (.iload_n 0, 1) := by decide +kernel
theorem d_Mod_isLetter_56 : decode b_Mod_isLetter 56 = .ok (.bipush 90, 2) := by decide +kernel
theorem d_Mod_isLetter_58 : decode b_Mod_isLetter 58 = .ok (.if_icmp .eq 21, 3) := by decide +kernel
theorem d_Mod_isLetter_61 : decode b_Mod_isLetter 61 = .ok (.iload_n 0, 1) := by decide +kernel
theorem d_Mod_isLetter_62 : decode b_Mod_isLetter 62 = .ok (.bipush 67, 2) := by decide +kernel
theorem d_Mod_isLetter_64 : decode b_Mod_isLetter 64 = .ok (.if_icmp .eq 15, 3) := by decide +kernel
theorem d_Mod_isLetter_67 : decode b_Mod_isLetter 67 = .ok (.iload_n 0, 1) := by decide +kernel
theorem d_Mod_isLetter_68 : decode b_Mod_isLetter 68 = .ok (.bipush 82, 2) := by decide +kernel
theorem d_Mod_isLetter_70 : decode b_Mod_isLetter 70 = .ok (.if_icmp .eq 9, 3) := by decide +kernel
theorem d_Mod_isLetter_73 : decode b_Mod_isLetter 73 = .ok (.iload_n 0, 1) := by decide +kernel
theorem d_Mod_isLetter_74 : decode b_Mod_isLetter 74 = .ok (.bipush 72, 2) := by decide +kernel
theorem d_Mod_isLetter_76 : decode b_Mod_isLetter 76 = .ok (.if_icmp .ne 7, 3) := by decide +kernel
theorem d_Mod_isLetter_79 : decode b_Mod_isLetter 79 = .ok (.iconst 1, 1) := by decide +kernel
theorem d_Mod_isLetter_80 : decode b_Mod_isLetter 80 = .ok (.goto 4, 3) := by decide +kernel
theorem d_Mod_isLetter_83 : decode b_Mod_isLetter 83 = .ok (.iconst 0, 1) := by decide +kernel
theorem d_Mod_isLetter_84 : decode b_Mod_isLetter 84 = .ok (.ireturn, 1) := by decide +kernel
abbrev y_Mod_leads : MethodName := ⟨"FusedEngineModel", "leads", "(I)Z"⟩
abbrev b_Mod_leads : ByteArray := prog_6_method_7_code
theorem d_Mod_leads_0 : decode b_Mod_leads 0 = .ok (.iload_n 0, 1) := by decide +kernel
theorem d_Mod_leads_1 : decode b_Mod_leads 1 = .ok (.bipush 74, 2) := by decide +kernel
theorem d_Mod_leads_3 : decode b_Mod_leads 3 = .ok (.if_icmp .eq 15, 3) := by decide +kernel
theorem d_Mod_leads_6 : decode b_Mod_leads 6 = .ok (.iload_n 0, 1) := by decide +kernel
theorem d_Mod_leads_7 : decode b_Mod_leads 7 = .ok (.bipush 90, 2) := by decide +kernel
theorem d_Mod_leads_9 : decode b_Mod_leads 9 = .ok (.if_icmp .eq 9, 3) := by decide +kernel
theorem d_Mod_leads_12 : decode b_Mod_leads 12 = .ok (.iload_n 0, 1) := by decide +kernel
theorem d_Mod_leads_13 : decode b_Mod_leads 13 = .ok (.bipush 67, 2) := by decide +kernel
theorem d_Mod_leads_15 : decode b_Mod_leads 15 = .ok (.if_icmp .ne 7, 3) := by decide +kernel
theorem d_Mod_leads_18 : decode b_Mod_leads 18 = .ok (.iconst 1, 1) := by decide +kernel
theorem d_Mod_leads_19 : decode b_Mod_leads 19 = .ok (.goto 4, 3) := by decide +kernel
theorem d_Mod_leads_22 : decode b_Mod_leads 22 = .ok (.iconst 0, 1) := by decide +kernel
theorem d_Mod_leads_23 : decode b_Mod_leads 23 = .ok (.ireturn, 1) := by decide +kernel
abbrev y_Mod_fits : MethodName := ⟨"FusedEngineModel", "fits", "(II)Z"⟩
abbrev b_Mod_fits : ByteArray := prog_6_method_8_code
theorem d_Mod_fits_0 : decode b_Mod_fits 0 = .ok (.iload_n 0, 1) := by decide +kernel
theorem d_Mod_fits_1 : decode b_Mod_fits 1 = .ok (.invokestatic 61, 3) := by decide +kernel
theorem d_Mod_fits_4 : decode b_Mod_fits 4 = .ok (.ifCond .eq 29, 3) := by decide +kernel
theorem d_Mod_fits_7 : decode b_Mod_fits 7 = .ok (.iload_n 0, 1) := by decide +kernel
theorem d_Mod_fits_8 : decode b_Mod_fits 8 = .ok (.bipush 76, 2) := by decide +kernel
theorem d_Mod_fits_10 : decode b_Mod_fits 10 = .ok (.if_icmp .eq 9, 3) := by decide +kernel
theorem d_Mod_fits_13 : decode b_Mod_fits 13 = .ok (.iload_n 0, 1) := by decide +kernel
theorem d_Mod_fits_14 : decode b_Mod_fits 14 = .ok (.bipush 83, 2) := by decide +kernel
theorem d_Mod_fits_16 : decode b_Mod_fits 16 = .ok (.if_icmp .ne 13, 3) := by decide +kernel
theorem d_Mod_fits_19 : decode b_Mod_fits 19 = .ok (.iload_n 1, 1) := by decide +kernel
theorem d_Mod_fits_20 : decode b_Mod_fits 20 = .ok (.iconst 0, 1) := by decide +kernel
theorem d_Mod_fits_21 : decode b_Mod_fits 21 = .ok (.bipush 7, 2) := by decide +kernel
theorem d_Mod_fits_23 : decode b_Mod_fits 23 = .ok (.invokestatic 64, 3) := by decide +kernel
theorem d_Mod_fits_26 : decode b_Mod_fits 26 = .ok (.ifCond .ne 7, 3) := by decide +kernel
theorem d_Mod_fits_29 : decode b_Mod_fits 29 = .ok (.iconst 1, 1) := by decide +kernel
theorem d_Mod_fits_30 : decode b_Mod_fits 30 = .ok (.goto 4, 3) := by decide +kernel
theorem d_Mod_fits_33 : decode b_Mod_fits 33 = .ok (.iconst 0, 1) := by decide +kernel
theorem d_Mod_fits_34 : decode b_Mod_fits 34 = .ok (.ireturn, 1) := by decide +kernel
abbrev y_Mod_begin : MethodName := ⟨"FusedEngineModel", "begin", "()V"⟩
abbrev b_Mod_begin : ByteArray := prog_6_method_9_code
theorem d_Mod_begin_0 : decode b_Mod_begin 0 = .ok (.iconst 0, 1) := by decide +kernel
theorem d_Mod_begin_1 : decode b_Mod_begin 1 = .ok (.istore_n 1, 1) := by decide +kernel
theorem d_Mod_begin_2 : decode b_Mod_begin 2 = .ok (.iload_n 1, 1) := by decide +kernel
theorem d_Mod_begin_3 : decode b_Mod_begin 3 = .ok (.iconst 2, 1) := by decide +kernel
theorem d_Mod_begin_4 : decode b_Mod_begin 4 = .ok (.if_icmp .ge 51, 3) := by decide +kernel
theorem d_Mod_begin_7 : decode b_Mod_begin 7 = .ok (.aload_n 0, 1) := by decide +kernel
theorem d_Mod_begin_8 : decode b_Mod_begin 8 = .ok (.getfield 23, 3) := by decide +kernel
theorem d_Mod_begin_11 : decode b_Mod_begin 11 = .ok (.iload_n 1, 1) := by decide +kernel
theorem d_Mod_begin_12 : decode b_Mod_begin 12 = .ok (.iconst 0, 1) := by decide +kernel
theorem d_Mod_begin_13 : decode b_Mod_begin 13 = .ok (.iastore, 1) := by decide +kernel
theorem d_Mod_begin_14 : decode b_Mod_begin 14 = .ok (.aload_n 0, 1) := by decide +kernel
theorem d_Mod_begin_15 : decode b_Mod_begin 15 = .ok (.getfield 26, 3) := by decide +kernel
theorem d_Mod_begin_18 : decode b_Mod_begin 18 = .ok (.iload_n 1, 1) := by decide +kernel
theorem d_Mod_begin_19 : decode b_Mod_begin 19 = .ok (.iconst 0, 1) := by decide +kernel
theorem d_Mod_begin_20 : decode b_Mod_begin 20 = .ok (.iastore, 1) := by decide +kernel
theorem d_Mod_begin_21 : decode b_Mod_begin 21 = .ok (.aload_n 0, 1) := by decide +kernel
theorem d_Mod_begin_22 : decode b_Mod_begin 22 = .ok (.getfield 29, 3) := by decide +kernel
theorem d_Mod_begin_25 : decode b_Mod_begin 25 = .ok (.iload_n 1, 1) := by decide +kernel
theorem d_Mod_begin_26 : decode b_Mod_begin 26 = .ok (.iconst 0, 1) := by decide +kernel
theorem d_Mod_begin_27 : decode b_Mod_begin 27 = .ok (.iastore, 1) := by decide +kernel
theorem d_Mod_begin_28 : decode b_Mod_begin 28 = .ok (.aload_n 0, 1) := by decide +kernel
theorem d_Mod_begin_29 : decode b_Mod_begin 29 = .ok (.getfield 32, 3) := by decide +kernel
theorem d_Mod_begin_32 : decode b_Mod_begin 32 = .ok (.iload_n 1, 1) := by decide +kernel
theorem d_Mod_begin_33 : decode b_Mod_begin 33 = .ok (.iconst 0, 1) := by decide +kernel
theorem d_Mod_begin_34 : decode b_Mod_begin 34 = .ok (.iastore, 1) := by decide +kernel
theorem d_Mod_begin_35 : decode b_Mod_begin 35 = .ok (.aload_n 0, 1) := by decide +kernel
theorem d_Mod_begin_36 : decode b_Mod_begin 36 = .ok (.getfield 35, 3) := by decide +kernel
theorem d_Mod_begin_39 : decode b_Mod_begin 39 = .ok (.iload_n 1, 1) := by decide +kernel
theorem d_Mod_begin_40 : decode b_Mod_begin 40 = .ok (.iconst 0, 1) := by decide +kernel
theorem d_Mod_begin_41 : decode b_Mod_begin 41 = .ok (.iastore, 1) := by decide +kernel
theorem d_Mod_begin_42 : decode b_Mod_begin 42 = .ok (.aload_n 0, 1) := by decide +kernel
theorem d_Mod_begin_43 : decode b_Mod_begin 43 = .ok (.getfield 38, 3) := by decide +kernel
theorem d_Mod_begin_46 : decode b_Mod_begin 46 = .ok (.iload_n 1, 1) := by decide +kernel
theorem d_Mod_begin_47 : decode b_Mod_begin 47 = .ok (.iconst 0, 1) := by decide +kernel
theorem d_Mod_begin_48 : decode b_Mod_begin 48 = .ok (.iastore, 1) := by decide +kernel
theorem d_Mod_begin_49 : decode b_Mod_begin 49 = .ok (.iinc 1 1, 3) := by decide +kernel
theorem d_Mod_begin_52 : decode b_Mod_begin 52 = .ok (.goto (-50), 3) := by decide +kernel
theorem d_Mod_begin_55 : decode b_Mod_begin 55 = .ok (.iconst 0, 1) := by decide +kernel
theorem d_Mod_begin_56 : decode b_Mod_begin 56 = .ok (.istore_n 1, 1) := by decide +kernel
theorem d_Mod_begin_57 : decode b_Mod_begin 57 = .ok (.iload_n 1, 1) := by decide +kernel
theorem d_Mod_begin_58 : decode b_Mod_begin 58 = .ok (.bipush 16, 2) := by decide +kernel
theorem d_Mod_begin_60 : decode b_Mod_begin 60 = .ok (.if_icmp .ge 16, 3) := by decide +kernel
theorem d_Mod_begin_63 : decode b_Mod_begin 63 = .ok (.aload_n 0, 1) := by decide +kernel
theorem d_Mod_begin_64 : decode b_Mod_begin 64 = .ok (.getfield 44, 3) := by decide +kernel
theorem d_Mod_begin_67 : decode b_Mod_begin 67 = .ok (.iload_n 1, 1) := by decide +kernel
theorem d_Mod_begin_68 : decode b_Mod_begin 68 = .ok (.iconst 0, 1) := by decide +kernel
theorem d_Mod_begin_69 : decode b_Mod_begin 69 = .ok (.iastore, 1) := by decide +kernel
theorem d_Mod_begin_70 : decode b_Mod_begin 70 = .ok (.iinc 1 1, 3) := by decide +kernel
theorem d_Mod_begin_73 : decode b_Mod_begin 73 = .ok (.goto (-16), 3) := by decide +kernel
theorem d_Mod_begin_76 : decode b_Mod_begin 76 = .ok (.return_, 1) := by decide +kernel
abbrev y_Mod_set : MethodName := ⟨"FusedEngineModel", "set", "(III)V"⟩
abbrev b_Mod_set : ByteArray := prog_6_method_10_code
theorem d_Mod_set_0 : decode b_Mod_set 0 = .ok (.aload_n 0, 1) := by decide +kernel
theorem d_Mod_set_1 : decode b_Mod_set 1 = .ok (.getfield 7, 3) := by decide +kernel
theorem d_Mod_set_4 : decode b_Mod_set 4 = .ok (.iload_n 1, 1) := by decide +kernel
theorem d_Mod_set_5 : decode b_Mod_set 5 = .ok (.iload_n 2, 1) := by decide +kernel
theorem d_Mod_set_6 : decode b_Mod_set 6 = .ok (.i2c, 1) := by decide +kernel
theorem d_Mod_set_7 : decode b_Mod_set 7 = .ok (.castore, 1) := by decide +kernel
theorem d_Mod_set_8 : decode b_Mod_set 8 = .ok (.aload_n 0, 1) := by decide +kernel
theorem d_Mod_set_9 : decode b_Mod_set 9 = .ok (.getfield 13, 3) := by decide +kernel
theorem d_Mod_set_12 : decode b_Mod_set 12 = .ok (.iload_n 1, 1) := by decide +kernel
theorem d_Mod_set_13 : decode b_Mod_set 13 = .ok (.iload_n 3, 1) := by decide +kernel
theorem d_Mod_set_14 : decode b_Mod_set 14 = .ok (.iastore, 1) := by decide +kernel
theorem d_Mod_set_15 : decode b_Mod_set 15 = .ok (.aload_n 0, 1) := by decide +kernel
theorem d_Mod_set_16 : decode b_Mod_set 16 = .ok (.iconst 0, 1) := by decide +kernel
theorem d_Mod_set_17 : decode b_Mod_set 17 = .ok (.putfield 68, 3) := by decide +kernel
theorem d_Mod_set_20 : decode b_Mod_set 20 = .ok (.aload_n 0, 1) := by decide +kernel
theorem d_Mod_set_21 : decode b_Mod_set 21 = .ok (.invokevirtual 72, 3) := by decide +kernel
theorem d_Mod_set_24 : decode b_Mod_set 24 = .ok (.return_, 1) := by decide +kernel
abbrev y_Mod_add : MethodName := ⟨"FusedEngineModel", "add", "(II)I"⟩
abbrev b_Mod_add : ByteArray := prog_6_method_11_code
theorem d_Mod_add_0 : decode b_Mod_add 0 = .ok (.aload_n 0, 1) := by decide +kernel
theorem d_Mod_add_1 : decode b_Mod_add 1 = .ok (.iload_n 1, 1) := by decide +kernel
theorem d_Mod_add_2 : decode b_Mod_add 2 = .ok (.iload_n 2, 1) := by decide +kernel
theorem d_Mod_add_3 : decode b_Mod_add 3 = .ok (.invokestatic 75, 3) := by decide +kernel
theorem d_Mod_add_6 : decode b_Mod_add 6 = .ok (.ifCond .ne 7, 3) := by decide +kernel
theorem d_Mod_add_9 : decode b_Mod_add 9 = .ok (.iconst 1, 1) := by decide +kernel
theorem d_Mod_add_10 : decode b_Mod_add 10 = .ok (.goto 17, 3) := by decide +kernel
theorem d_Mod_add_13 : decode b_Mod_add 13 = .ok (.aload_n 0, 1) := by decide +kernel
theorem d_Mod_add_14 : decode b_Mod_add 14 = .ok (.getfield 79, 3) := by decide +kernel
theorem d_Mod_add_17 : decode b_Mod_add 17 = .ok (.bipush 80, 2) := by decide +kernel
theorem d_Mod_add_19 : decode b_Mod_add 19 = .ok (.if_icmp .ne 7, 3) := by decide +kernel
theorem d_Mod_add_22 : decode b_Mod_add 22 = .ok (.iconst 2, 1) := by decide +kernel
theorem d_Mod_add_23 : decode b_Mod_add 23 = .ok (.goto 4, 3) := by decide +kernel
theorem d_Mod_add_26 : decode b_Mod_add 26 = .ok (.iconst 0, 1) := by decide +kernel
theorem d_Mod_add_27 : decode b_Mod_add 27 = .ok (.putfield 53, 3) := by decide +kernel
theorem d_Mod_add_30 : decode b_Mod_add 30 = .ok (.aload_n 0, 1) := by decide +kernel
theorem d_Mod_add_31 : decode b_Mod_add 31 = .ok (.getfield 53, 3) := by decide +kernel
theorem d_Mod_add_34 : decode b_Mod_add 34 = .ok (.ifCond .le 5, 3) := by decide +kernel
theorem d_Mod_add_37 : decode b_Mod_add 37 = .ok (.iconst 0, 1) := by decide +kernel
theorem d_Mod_add_38 : decode b_Mod_add 38 = .ok (.ireturn, 1) := by decide +kernel
theorem d_Mod_add_39 : decode b_Mod_add 39 = .ok (.aload_n 0, 1) := by decide +kernel
theorem d_Mod_add_40 : decode b_Mod_add 40 = .ok (.aload_n 0, 1) := by decide +kernel
theorem d_Mod_add_41 : decode b_Mod_add 41 = .ok (.getfield 79, 3) := by decide +kernel
theorem d_Mod_add_44 : decode b_Mod_add 44 = .ok (.iload_n 1, 1) := by decide +kernel
theorem d_Mod_add_45 : decode b_Mod_add 45 = .ok (.iload_n 2, 1) := by decide +kernel
theorem d_Mod_add_46 : decode b_Mod_add 46 = .ok (.invokevirtual 82, 3) := by decide +kernel
theorem d_Mod_add_49 : decode b_Mod_add 49 = .ok (.aload_n 0, 1) := by decide +kernel
theorem d_Mod_add_50 : decode b_Mod_add 50 = .ok (.dup, 1) := by decide +kernel
theorem d_Mod_add_51 : decode b_Mod_add 51 = .ok (.getfield 79, 3) := by decide +kernel
theorem d_Mod_add_54 : decode b_Mod_add 54 = .ok (.iconst 1, 1) := by decide +kernel
theorem d_Mod_add_55 : decode b_Mod_add 55 = .ok (.iadd, 1) := by decide +kernel
theorem d_Mod_add_56 : decode b_Mod_add 56 = .ok (.putfield 79, 3) := by decide +kernel
theorem d_Mod_add_59 : decode b_Mod_add 59 = .ok (.aload_n 0, 1) := by decide +kernel
theorem d_Mod_add_60 : decode b_Mod_add 60 = .ok (.getfield 79, 3) := by decide +kernel
theorem d_Mod_add_63 : decode b_Mod_add 63 = .ok (.iconst 1, 1) := by decide +kernel
theorem d_Mod_add_64 : decode b_Mod_add 64 = .ok (.isub, 1) := by decide +kernel
theorem d_Mod_add_65 : decode b_Mod_add 65 = .ok (.ireturn, 1) := by decide +kernel
abbrev y_Mod_change : MethodName := ⟨"FusedEngineModel", "change", "(III)V"⟩
abbrev b_Mod_change : ByteArray := prog_6_method_12_code
theorem d_Mod_change_0 : decode b_Mod_change 0 = .ok (.aload_n 0, 1) := by decide +kernel
theorem d_Mod_change_1 : decode b_Mod_change 1 = .ok (.iload_n 1, 1) := by decide +kernel
theorem d_Mod_change_2 : decode b_Mod_change 2 = .ok (.iconst 0, 1) := by decide +kernel
theorem d_Mod_change_3 : decode b_Mod_change 3 = .ok (.aload_n 0, 1) := by decide +kernel
theorem d_Mod_change_4 : decode b_Mod_change 4 = .ok (.getfield 79, 3) := by decide +kernel
theorem d_Mod_change_7 : decode b_Mod_change 7 = .ok (.iconst 1, 1) := by decide +kernel
theorem d_Mod_change_8 : decode b_Mod_change 8 = .ok (.isub, 1) := by decide +kernel
theorem d_Mod_change_9 : decode b_Mod_change 9 = .ok (.invokestatic 64, 3) := by decide +kernel
theorem d_Mod_change_12 : decode b_Mod_change 12 = .ok (.ifCond .eq 7, 3) := by decide +kernel
theorem d_Mod_change_15 : decode b_Mod_change 15 = .ok (.iconst 1, 1) := by decide +kernel
theorem d_Mod_change_16 : decode b_Mod_change 16 = .ok (.goto 16, 3) := by decide +kernel
theorem d_Mod_change_19 : decode b_Mod_change 19 = .ok (.iload_n 2, 1) := by decide +kernel
theorem d_Mod_change_20 : decode b_Mod_change 20 = .ok (.iload_n 3, 1) := by decide +kernel
theorem d_Mod_change_21 : decode b_Mod_change 21 = .ok (.invokestatic 75, 3) := by decide +kernel
theorem d_Mod_change_24 : decode b_Mod_change 24 = .ok (.ifCond .eq 7, 3) := by decide +kernel
theorem d_Mod_change_27 : decode b_Mod_change 27 = .ok (.iconst 0, 1) := by decide +kernel
theorem d_Mod_change_28 : decode b_Mod_change 28 = .ok (.goto 4, 3) := by decide +kernel
theorem d_Mod_change_31 : decode b_Mod_change 31 = .ok (.iconst 2, 1) := by decide +kernel
theorem d_Mod_change_32 : decode b_Mod_change 32 = .ok (.putfield 53, 3) := by decide +kernel
theorem d_Mod_change_35 : decode b_Mod_change 35 = .ok (.aload_n 0, 1) := by decide +kernel
theorem d_Mod_change_36 : decode b_Mod_change 36 = .ok (.getfield 53, 3) := by decide +kernel
theorem d_Mod_change_39 : decode b_Mod_change 39 = .ok (.ifCond .ne 10, 3) := by decide +kernel
theorem d_Mod_change_42 : decode b_Mod_change 42 = .ok (.aload_n 0, 1) := by decide +kernel
theorem d_Mod_change_43 : decode b_Mod_change 43 = .ok (.iload_n 1, 1) := by decide +kernel
theorem d_Mod_change_44 : decode b_Mod_change 44 = .ok (.iload_n 2, 1) := by decide +kernel
theorem d_Mod_change_45 : decode b_Mod_change 45 = .ok (.iload_n 3, 1) := by decide +kernel
theorem d_Mod_change_46 : decode b_Mod_change 46 = .ok (.invokevirtual 82, 3) := by decide +kernel
theorem d_Mod_change_49 : decode b_Mod_change 49 = .ok (.return_, 1) := by decide +kernel
abbrev y_Mod_clear : MethodName := ⟨"FusedEngineModel", "clear", "()V"⟩
abbrev b_Mod_clear : ByteArray := prog_6_method_13_code
theorem d_Mod_clear_0 : decode b_Mod_clear 0 = .ok (.aload_n 0, 1) := by decide +kernel
theorem d_Mod_clear_1 : decode b_Mod_clear 1 = .ok (.iconst 0, 1) := by decide +kernel
theorem d_Mod_clear_2 : decode b_Mod_clear 2 = .ok (.putfield 53, 3) := by decide +kernel
theorem d_Mod_clear_5 : decode b_Mod_clear 5 = .ok (.aload_n 0, 1) := by decide +kernel
theorem d_Mod_clear_6 : decode b_Mod_clear 6 = .ok (.iconst 0, 1) := by decide +kernel
theorem d_Mod_clear_7 : decode b_Mod_clear 7 = .ok (.putfield 79, 3) := by decide +kernel
theorem d_Mod_clear_10 : decode b_Mod_clear 10 = .ok (.aload_n 0, 1) := by decide +kernel
theorem d_Mod_clear_11 : decode b_Mod_clear 11 = .ok (.iconst 0, 1) := by decide +kernel
theorem d_Mod_clear_12 : decode b_Mod_clear 12 = .ok (.putfield 68, 3) := by decide +kernel
theorem d_Mod_clear_15 : decode b_Mod_clear 15 = .ok (.aload_n 0, 1) := by decide +kernel
theorem d_Mod_clear_16 : decode b_Mod_clear 16 = .ok (.invokevirtual 72, 3) := by decide +kernel
theorem d_Mod_clear_19 : decode b_Mod_clear 19 = .ok (.return_, 1) := by decide +kernel
abbrev y_Mod_target : MethodName := ⟨"FusedEngineModel", "target", "(I)Z"⟩
abbrev b_Mod_target : ByteArray := prog_6_method_14_code
theorem d_Mod_target_0 : decode b_Mod_target 0 = .ok (.iload_n 1, 1) := by decide +kernel
theorem d_Mod_target_1 : decode b_Mod_target 1 = .ok (.ifCond .le 20, 3) := by decide +kernel
theorem d_Mod_target_4 : decode b_Mod_target 4 = .ok (.aload_n 0, 1) := by decide +kernel
theorem d_Mod_target_5 : decode b_Mod_target 5 = .ok (.getfield 7, 3) := by decide +kernel
theorem d_Mod_target_8 : decode b_Mod_target 8 = .ok (.iload_n 1, 1) := by decide +kernel
theorem d_Mod_target_9 : decode b_Mod_target 9 = .ok (.iconst 1, 1) := by decide +kernel
theorem d_Mod_target_10 : decode b_Mod_target 10 = .ok (.isub, 1) := by decide +kernel
theorem d_Mod_target_11 : decode b_Mod_target 11 = .ok (.caload, 1) := by decide +kernel
theorem d_Mod_target_12 : decode b_Mod_target 12 = .ok (.bipush 67, 2) := by decide +kernel
theorem d_Mod_target_14 : decode b_Mod_target 14 = .ok (.if_icmp .ne 7, 3) := by decide +kernel
theorem d_Mod_target_17 : decode b_Mod_target 17 = .ok (.iconst 1, 1) := by decide +kernel
theorem d_Mod_target_18 : decode b_Mod_target 18 = .ok (.goto 4, 3) := by decide +kernel
theorem d_Mod_target_21 : decode b_Mod_target 21 = .ok (.iconst 0, 1) := by decide +kernel
theorem d_Mod_target_22 : decode b_Mod_target 22 = .ok (.istore_n 2, 1) := by decide +kernel
theorem d_Mod_target_23 : decode b_Mod_target 23 = .ok (.iconst 0, 1) := by decide +kernel
theorem d_Mod_target_24 : decode b_Mod_target 24 = .ok (.istore_n 3, 1) := by decide +kernel
theorem d_Mod_target_25 : decode b_Mod_target 25 = .ok (.iload_n 3, 1) := by decide +kernel
theorem d_Mod_target_26 : decode b_Mod_target 26 = .ok (.aload_n 0, 1) := by decide +kernel
theorem d_Mod_target_27 : decode b_Mod_target 27 = .ok (.getfield 79, 3) := by decide +kernel
theorem d_Mod_target_30 : decode b_Mod_target 30 = .ok (.if_icmp .ge 41, 3) := by decide +kernel
theorem d_Mod_target_33 : decode b_Mod_target 33 = .ok (.iload_n 2, 1) := by decide +kernel
theorem d_Mod_target_34 : decode b_Mod_target 34 = .ok (.ifCond .ne 25, 3) := by decide +kernel
theorem d_Mod_target_37 : decode b_Mod_target 37 = .ok (.aload_n 0, 1) := by decide +kernel
theorem d_Mod_target_38 : decode b_Mod_target 38 = .ok (.getfield 7, 3) := by decide +kernel
theorem d_Mod_target_41 : decode b_Mod_target 41 = .ok (.iload_n 3, 1) := by decide +kernel
theorem d_Mod_target_42 : decode b_Mod_target 42 = .ok (.caload, 1) := by decide +kernel
theorem d_Mod_target_43 : decode b_Mod_target 43 = .ok (.invokestatic 86, 3) := by decide +kernel
theorem d_Mod_target_46 : decode b_Mod_target 46 = .ok (.ifCond .eq 17, 3) := by decide +kernel
theorem d_Mod_target_49 : decode b_Mod_target 49 = .ok (.aload_n 0, 1) := by decide +kernel
theorem d_Mod_target_50 : decode b_Mod_target 50 = .ok (.getfield 13, 3) := by decide +kernel
theorem d_Mod_target_53 : decode b_Mod_target 53 = .ok (.iload_n 3, 1) := by decide +kernel
theorem d_Mod_target_54 : decode b_Mod_target 54 = .ok (.iaload, 1) := by decide +kernel
theorem d_Mod_target_55 : decode b_Mod_target 55 = .ok (.iload_n 1, 1) := by decide +kernel
theorem d_Mod_target_56 : decode b_Mod_target 56 = .ok (.if_icmp .ne 7, 3) := by decide +kernel
theorem d_Mod_target_59 : decode b_Mod_target 59 = .ok (.iconst 1, 1) := by decide +kernel
theorem d_Mod_target_60 : decode b_Mod_target 60 = .ok (.goto 4, 3) := by decide +kernel
theorem d_Mod_target_63 : decode b_Mod_target 63 = .ok (.iconst 0, 1) := by decide +kernel
theorem d_Mod_target_64 : decode b_Mod_target 64 = .ok (.istore_n 2, 1) := by decide +kernel
theorem d_Mod_target_65 : decode b_Mod_target 65 = .ok (.iinc 3 1, 3) := by decide +kernel
theorem d_Mod_target_68 : decode b_Mod_target 68 = .ok (.goto (-43), 3) := by decide +kernel
theorem d_Mod_target_71 : decode b_Mod_target 71 = .ok (.iload_n 2, 1) := by decide +kernel
theorem d_Mod_target_72 : decode b_Mod_target 72 = .ok (.ireturn, 1) := by decide +kernel
abbrev y_Mod_lengthOf : MethodName := ⟨"FusedEngineModel", "lengthOf", "(I)I"⟩
abbrev b_Mod_lengthOf : ByteArray := prog_6_method_15_code
theorem d_Mod_lengthOf_0 : decode b_Mod_lengthOf 0 = .ok (.iconst 0, 1) := by decide +kernel
theorem d_Mod_lengthOf_1 : decode b_Mod_lengthOf 1 = .ok (.istore_n 2, 1) := by decide +kernel
theorem d_Mod_lengthOf_2 : decode b_Mod_lengthOf 2 = .ok (.iload_n 2, 1) := by decide +kernel
theorem d_Mod_lengthOf_3 : decode b_Mod_lengthOf 3 = .ok (.iconst 4, 1) := by decide +kernel
theorem d_Mod_lengthOf_4 : decode b_Mod_lengthOf 4 = .ok (.if_icmp .ge 22, 3) := by decide +kernel
theorem d_Mod_lengthOf_7 : decode b_Mod_lengthOf 7 = .ok (.aload_n 0, 1) := by decide +kernel
theorem d_Mod_lengthOf_8 : decode b_Mod_lengthOf 8 = .ok (.getfield 20, 3) := by decide +kernel
theorem d_Mod_lengthOf_11 : decode b_Mod_lengthOf 11 = .ok (.iconst 4, 1) := by decide +kernel
theorem d_Mod_lengthOf_12 : decode b_Mod_lengthOf 12 = .ok (.iload_n 1, 1) := by decide +kernel
theorem d_Mod_lengthOf_13 : decode b_Mod_lengthOf 13 = .ok (.imul, 1) := by decide +kernel
theorem d_Mod_lengthOf_14 : decode b_Mod_lengthOf 14 = .ok (.iload_n 2, 1) := by decide +kernel
theorem d_Mod_lengthOf_15 : decode b_Mod_lengthOf 15 = .ok (.iadd, 1) := by decide +kernel
theorem d_Mod_lengthOf_16 : decode b_Mod_lengthOf 16 = .ok (.caload, 1) := by decide +kernel
theorem d_Mod_lengthOf_17 : decode b_Mod_lengthOf 17 = .ok (.ifCond .eq 9, 3) := by decide +kernel
theorem d_Mod_lengthOf_20 : decode b_Mod_lengthOf 20 = .ok (.iinc 2 1, 3) := by decide +kernel
theorem d_Mod_lengthOf_23 : decode b_Mod_lengthOf 23 = .ok (.goto (-21), 3) := by decide +kernel
theorem d_Mod_lengthOf_26 : decode b_Mod_lengthOf 26 = .ok (.iload_n 2, 1) := by decide +kernel
theorem d_Mod_lengthOf_27 : decode b_Mod_lengthOf 27 = .ok (.ireturn, 1) := by decide +kernel
abbrev y_Mod_alike : MethodName := ⟨"FusedEngineModel", "alike", "(II)I"⟩
abbrev b_Mod_alike : ByteArray := prog_6_method_16_code
theorem d_Mod_alike_0 : decode b_Mod_alike 0 = .ok (.iconst 0, 1) := by decide +kernel
theorem d_Mod_alike_1 : decode b_Mod_alike 1 = .ok (.istore_n 3, 1) := by decide +kernel
theorem d_Mod_alike_2 : decode b_Mod_alike 2 = .ok (.iload_n 3, 1) := by decide +kernel
theorem d_Mod_alike_3 : decode b_Mod_alike 3 = .ok (.iconst 4, 1) := by decide +kernel
theorem d_Mod_alike_4 : decode b_Mod_alike 4 = .ok (.if_icmp .ge 54, 3) := by decide +kernel
theorem d_Mod_alike_7 : decode b_Mod_alike 7 = .ok (.iload_n 2, 1) := by decide +kernel
theorem d_Mod_alike_8 : decode b_Mod_alike 8 = .ok (.iload_n 3, 1) := by decide +kernel
theorem d_Mod_alike_9 : decode b_Mod_alike 9 = .ok (.iadd, 1) := by decide +kernel
theorem d_Mod_alike_10 : decode b_Mod_alike 10 = .ok (.aload_n 0, 1) := by decide +kernel
theorem d_Mod_alike_11 : decode b_Mod_alike 11 = .ok (.getfield 79, 3) := by decide +kernel
theorem d_Mod_alike_14 : decode b_Mod_alike 14 = .ok (.if_icmp .ge 44, 3) := by decide +kernel
theorem d_Mod_alike_17 : decode b_Mod_alike 17 = .ok (.aload_n 0, 1) := by decide +kernel
theorem d_Mod_alike_18 : decode b_Mod_alike 18 = .ok (.getfield 7, 3) := by decide +kernel
theorem d_Mod_alike_21 : decode b_Mod_alike 21 = .ok (.iload_n 2, 1) := by decide +kernel
theorem d_Mod_alike_22 : decode b_Mod_alike 22 = .ok (.iload_n 3, 1) := by decide +kernel
theorem d_Mod_alike_23 : decode b_Mod_alike 23 = .ok (.iadd, 1) := by decide +kernel
theorem d_Mod_alike_24 : decode b_Mod_alike 24 = .ok (.caload, 1) := by decide +kernel
theorem d_Mod_alike_25 : decode b_Mod_alike 25 = .ok (.aload_n 0, 1) := by decide +kernel
theorem d_Mod_alike_26 : decode b_Mod_alike 26 = .ok (.getfield 20, 3) := by decide +kernel
theorem d_Mod_alike_29 : decode b_Mod_alike 29 = .ok (.iconst 4, 1) := by decide +kernel
theorem d_Mod_alike_30 : decode b_Mod_alike 30 = .ok (.iload_n 1, 1) := by decide +kernel
theorem d_Mod_alike_31 : decode b_Mod_alike 31 = .ok (.imul, 1) := by decide +kernel
theorem d_Mod_alike_32 : decode b_Mod_alike 32 = .ok (.iload_n 3, 1) := by decide +kernel
theorem d_Mod_alike_33 : decode b_Mod_alike 33 = .ok (.iadd, 1) := by decide +kernel
theorem d_Mod_alike_34 : decode b_Mod_alike 34 = .ok (.caload, 1) := by decide +kernel
theorem d_Mod_alike_35 : decode b_Mod_alike 35 = .ok (.if_icmp .ne 23, 3) := by decide +kernel
theorem d_Mod_alike_38 : decode b_Mod_alike 38 = .ok (.iload_n 3, 1) := by decide +kernel
theorem d_Mod_alike_39 : decode b_Mod_alike 39 = .ok (.ifCond .eq 13, 3) := by decide +kernel
theorem d_Mod_alike_42 : decode b_Mod_alike 42 = .ok (.aload_n 0, 1) := by decide +kernel
theorem d_Mod_alike_43 : decode b_Mod_alike 43 = .ok (.iload_n 2, 1) := by decide +kernel
theorem d_Mod_alike_44 : decode b_Mod_alike 44 = .ok (.iload_n 3, 1) := by decide +kernel
theorem d_Mod_alike_45 : decode b_Mod_alike 45 = .ok (.iadd, 1) := by decide +kernel
theorem d_Mod_alike_46 : decode b_Mod_alike 46 = .ok (.invokevirtual 89, 3) := by decide +kernel
theorem d_Mod_alike_49 : decode b_Mod_alike 49 = .ok (.ifCond .ne 9, 3) := by decide +kernel
theorem d_Mod_alike_52 : decode b_Mod_alike 52 = .ok (.iinc 3 1, 3) := by decide +kernel
theorem d_Mod_alike_55 : decode b_Mod_alike 55 = .ok (.goto (-53), 3) := by decide +kernel
theorem d_Mod_alike_58 : decode b_Mod_alike 58 = .ok (.iload_n 3, 1) := by decide +kernel
theorem d_Mod_alike_59 : decode b_Mod_alike 59 = .ok (.ireturn, 1) := by decide +kernel
abbrev y_Mod_rowAt : MethodName := ⟨"FusedEngineModel", "rowAt", "(I)I"⟩
abbrev b_Mod_rowAt : ByteArray := prog_6_method_17_code
theorem d_Mod_rowAt_0 : decode b_Mod_rowAt 0 = .ok (.iconst (-1), 1) := by decide +kernel
theorem d_Mod_rowAt_1 : decode b_Mod_rowAt 1 = .ok (.istore_n 2, 1) := by decide +kernel
theorem d_Mod_rowAt_2 : decode b_Mod_rowAt 2 = .ok (.bipush 19, 2) := by decide +kernel
theorem d_Mod_rowAt_4 : decode b_Mod_rowAt 4 = .ok (.istore_n 3, 1) := by decide +kernel
theorem d_Mod_rowAt_5 : decode b_Mod_rowAt 5 = .ok (.iload_n 3, 1) := by decide +kernel
theorem d_Mod_rowAt_6 : decode b_Mod_rowAt 6 = .ok (.ifCond .lt 55, 3) := by decide +kernel
theorem d_Mod_rowAt_9 : decode b_Mod_rowAt 9 = .ok (.aload_n 0, 1) := by decide +kernel
theorem d_Mod_rowAt_10 : decode b_Mod_rowAt 10 = .ok (.iload_n 3, 1) := by decide +kernel
theorem d_Mod_rowAt_11 : decode b_Mod_rowAt 11 = .ok (.iload_n 1, 1) := by decide +kernel
theorem d_Mod_rowAt_12 : decode b_Mod_rowAt 12 = .ok (.invokevirtual 92, 3) := by decide +kernel
theorem d_Mod_rowAt_15 : decode b_Mod_rowAt 15 = .ok (.aload_n 0, 1) := by decide +kernel
theorem d_Mod_rowAt_16 : decode b_Mod_rowAt 16 = .ok (.iload_n 3, 1) := by decide +kernel
theorem d_Mod_rowAt_17 : decode b_Mod_rowAt 17 = .ok (.invokevirtual 96, 3) := by decide +kernel
theorem d_Mod_rowAt_20 : decode b_Mod_rowAt 20 = .ok (.if_icmp .ne 7, 3) := by decide +kernel
theorem d_Mod_rowAt_23 : decode b_Mod_rowAt 23 = .ok (.iconst 1, 1) := by decide +kernel
theorem d_Mod_rowAt_24 : decode b_Mod_rowAt 24 = .ok (.goto 4, 3) := by decide +kernel
theorem d_Mod_rowAt_27 : decode b_Mod_rowAt 27 = .ok (.iconst 0, 1) := by decide +kernel
theorem d_Mod_rowAt_28 : decode b_Mod_rowAt 28 = .ok (.istore 4, 2) := by decide +kernel
theorem d_Mod_rowAt_30 : decode b_Mod_rowAt 30 = .ok (.iload 4, 2) := by decide +kernel
theorem d_Mod_rowAt_32 : decode b_Mod_rowAt 32 = .ok (.ifCond .eq 23, 3) := by decide +kernel
theorem d_Mod_rowAt_35 : decode b_Mod_rowAt 35 = .ok (.iload_n 2, 1) := by decide +kernel
theorem d_Mod_rowAt_36 : decode b_Mod_rowAt 36 = .ok (.iconst (-1), 1) := by decide +kernel
theorem d_Mod_rowAt_37 : decode b_Mod_rowAt 37 = .ok (.if_icmp .eq 16, 3) := by decide +kernel
theorem d_Mod_rowAt_40 : decode b_Mod_rowAt 40 = .ok (.aload_n 0, 1) := by decide +kernel
theorem d_Mod_rowAt_41 : decode b_Mod_rowAt 41 = .ok (.iload_n 3, 1) := by decide +kernel
theorem d_Mod_rowAt_42 : decode b_Mod_rowAt 42 = .ok (.invokevirtual 96, 3) := by decide +kernel
theorem d_Mod_rowAt_45 : decode b_Mod_rowAt 45 = .ok (.aload_n 0, 1) := by decide +kernel
theorem d_Mod_rowAt_46 : decode b_Mod_rowAt 46 = .ok (.iload_n 2, 1) := by decide +kernel
theorem d_Mod_rowAt_47 : decode b_Mod_rowAt 47 = .ok (.invokevirtual 96, 3) := by decide +kernel
theorem d_Mod_rowAt_50 : decode b_Mod_rowAt 50 = .ok (.if_icmp .lt 5, 3) := by decide +kernel
theorem d_Mod_rowAt_53 : decode b_Mod_rowAt 53 = .ok (.iload_n 3, 1) := by decide +kernel
theorem d_Mod_rowAt_54 : decode b_Mod_rowAt 54 = .ok (.istore_n 2, 1) := by decide +kernel
theorem d_Mod_rowAt_55 : decode b_Mod_rowAt 55 = .ok (.iinc 3 (-1), 3) := by decide +kernel
theorem d_Mod_rowAt_58 : decode b_Mod_rowAt 58 = .ok (.goto (-53), 3) := by decide +kernel
theorem d_Mod_rowAt_61 : decode b_Mod_rowAt 61 = .ok (.iload_n 2, 1) := by decide +kernel
theorem d_Mod_rowAt_62 : decode b_Mod_rowAt 62 = .ok (.ireturn, 1) := by decide +kernel
abbrev y_Mod_fuse : MethodName := ⟨"FusedEngineModel", "fuse", "()I"⟩
abbrev b_Mod_fuse : ByteArray := prog_6_method_18_code
theorem d_Mod_fuse_0 : decode b_Mod_fuse 0 = .ok (.aload_n 0, 1) := by decide +kernel
theorem d_Mod_fuse_1 : decode b_Mod_fuse 1 = .ok (.iconst 0, 1) := by decide +kernel
theorem d_Mod_fuse_2 : decode b_Mod_fuse 2 = .ok (.putfield 53, 3) := by decide +kernel
theorem d_Mod_fuse_5 : decode b_Mod_fuse 5 = .ok (.iconst 0, 1) := by decide +kernel
theorem d_Mod_fuse_6 : decode b_Mod_fuse 6 = .ok (.istore_n 1, 1) := by decide +kernel
theorem d_Mod_fuse_7 : decode b_Mod_fuse 7 = .ok (.iconst 0, 1) := by decide +kernel
theorem d_Mod_fuse_8 : decode b_Mod_fuse 8 = .ok (.istore_n 2, 1) := by decide +kernel
theorem d_Mod_fuse_9 : decode b_Mod_fuse 9 = .ok (.iconst 0, 1) := by decide +kernel
theorem d_Mod_fuse_10 : decode b_Mod_fuse 10 = .ok (.istore_n 3, 1) := by decide +kernel
theorem d_Mod_fuse_11 : decode b_Mod_fuse 11 = .ok (.iload_n 3, 1) := by decide +kernel
theorem d_Mod_fuse_12 : decode b_Mod_fuse 12 = .ok (.aload_n 0, 1) := by decide +kernel
theorem d_Mod_fuse_13 : decode b_Mod_fuse 13 = .ok (.getfield 79, 3) := by decide +kernel
theorem d_Mod_fuse_16 : decode b_Mod_fuse 16 = .ok (.if_icmp .ge 74, 3) := by decide +kernel
theorem d_Mod_fuse_19 : decode b_Mod_fuse 19 = .ok (.iload_n 2, 1) := by decide +kernel
theorem d_Mod_fuse_20 : decode b_Mod_fuse 20 = .ok (.ifCond .le 8, 3) := by decide +kernel
theorem d_Mod_fuse_23 : decode b_Mod_fuse 23 = .ok (.bipush (-2), 2) := by decide +kernel
theorem d_Mod_fuse_25 : decode b_Mod_fuse 25 = .ok (.goto 8, 3) := by decide +kernel
theorem d_Mod_fuse_28 : decode b_Mod_fuse 28 = .ok (.aload_n 0, 1) := by decide +kernel
theorem d_Mod_fuse_29 : decode b_Mod_fuse 29 = .ok (.iload_n 3, 1) := by decide +kernel
theorem d_Mod_fuse_30 : decode b_Mod_fuse 30 = .ok (.invokevirtual 100, 3) := by decide +kernel
theorem d_Mod_fuse_33 : decode b_Mod_fuse 33 = .ok (.istore 4, 2) := by decide +kernel
theorem d_Mod_fuse_35 : decode b_Mod_fuse 35 = .ok (.aload_n 0, 1) := by decide +kernel
theorem d_Mod_fuse_36 : decode b_Mod_fuse 36 = .ok (.getfield 17, 3) := by decide +kernel
theorem d_Mod_fuse_39 : decode b_Mod_fuse 39 = .ok (.iload_n 3, 1) := by decide +kernel
theorem d_Mod_fuse_40 : decode b_Mod_fuse 40 = .ok (.iload 4, 2) := by decide +kernel
theorem d_Mod_fuse_42 : decode b_Mod_fuse 42 = .ok (.iastore, 1) := by decide +kernel
theorem d_Mod_fuse_43 : decode b_Mod_fuse 43 = .ok (.iload_n 2, 1) := by decide +kernel
theorem d_Mod_fuse_44 : decode b_Mod_fuse 44 = .ok (.ifCond .le 7, 3) := by decide +kernel
theorem d_Mod_fuse_47 : decode b_Mod_fuse 47 = .ok (.iload_n 1, 1) := by decide +kernel
theorem d_Mod_fuse_48 : decode b_Mod_fuse 48 = .ok (.goto 6, 3) := by decide +kernel
theorem d_Mod_fuse_51 : decode b_Mod_fuse 51 = .ok (.iload_n 1, 1) := by decide +kernel
theorem d_Mod_fuse_52 : decode b_Mod_fuse 52 = .ok (.iconst 1, 1) := by decide +kernel
theorem d_Mod_fuse_53 : decode b_Mod_fuse 53 = .ok (.iadd, 1) := by decide +kernel
theorem d_Mod_fuse_54 : decode b_Mod_fuse 54 = .ok (.istore_n 1, 1) := by decide +kernel
theorem d_Mod_fuse_55 : decode b_Mod_fuse 55 = .ok (.iload_n 2, 1) := by decide +kernel
theorem d_Mod_fuse_56 : decode b_Mod_fuse 56 = .ok (.ifCond .le 9, 3) := by decide +kernel
theorem d_Mod_fuse_59 : decode b_Mod_fuse 59 = .ok (.iload_n 2, 1) := by decide +kernel
theorem d_Mod_fuse_60 : decode b_Mod_fuse 60 = .ok (.iconst 1, 1) := by decide +kernel
theorem d_Mod_fuse_61 : decode b_Mod_fuse 61 = .ok (.isub, 1) := by decide +kernel
theorem d_Mod_fuse_62 : decode b_Mod_fuse 62 = .ok (.goto 21, 3) := by decide +kernel
theorem d_Mod_fuse_65 : decode b_Mod_fuse 65 = .ok (.iload 4, 2) := by decide +kernel
theorem d_Mod_fuse_67 : decode b_Mod_fuse 67 = .ok (.iconst (-1), 1) := by decide +kernel
theorem d_Mod_fuse_68 : decode b_Mod_fuse 68 = .ok (.if_icmp .ne 7, 3) := by decide +kernel
theorem d_Mod_fuse_71 : decode b_Mod_fuse 71 = .ok (.iconst 0, 1) := by decide +kernel
theorem d_Mod_fuse_72 : decode b_Mod_fuse 72 = .ok (.goto 11, 3) := by decide +kernel
theorem d_Mod_fuse_75 : decode b_Mod_fuse 75 = .ok (.aload_n 0, 1) := by decide +kernel
theorem d_Mod_fuse_76 : decode b_Mod_fuse 76 = .ok (.iload 4, 2) := by decide +kernel
theorem d_Mod_fuse_78 : decode b_Mod_fuse 78 = .ok (.invokevirtual 96, 3) := by decide +kernel
theorem d_Mod_fuse_81 : decode b_Mod_fuse 81 = .ok (.iconst 1, 1) := by decide +kernel
theorem d_Mod_fuse_82 : decode b_Mod_fuse 82 = .ok (.isub, 1) := by decide +kernel
theorem d_Mod_fuse_83 : decode b_Mod_fuse 83 = .ok (.istore_n 2, 1) := by decide +kernel
theorem d_Mod_fuse_84 : decode b_Mod_fuse 84 = .ok (.iinc 3 1, 3) := by decide +kernel
theorem d_Mod_fuse_87 : decode b_Mod_fuse 87 = .ok (.goto (-76), 3) := by decide +kernel
theorem d_Mod_fuse_90 : decode b_Mod_fuse 90 = .ok (.aload_n 0, 1) := by decide +kernel
theorem d_Mod_fuse_91 : decode b_Mod_fuse 91 = .ok (.iconst 1, 1) := by decide +kernel
theorem d_Mod_fuse_92 : decode b_Mod_fuse 92 = .ok (.putfield 68, 3) := by decide +kernel
theorem d_Mod_fuse_95 : decode b_Mod_fuse 95 = .ok (.aload_n 0, 1) := by decide +kernel
theorem d_Mod_fuse_96 : decode b_Mod_fuse 96 = .ok (.invokevirtual 72, 3) := by decide +kernel
theorem d_Mod_fuse_99 : decode b_Mod_fuse 99 = .ok (.iload_n 1, 1) := by decide +kernel
theorem d_Mod_fuse_100 : decode b_Mod_fuse 100 = .ok (.ireturn, 1) := by decide +kernel
abbrev y_Mod_look : MethodName := ⟨"FusedEngineModel", "look", "(II)I"⟩
abbrev b_Mod_look : ByteArray := prog_6_method_19_code
theorem d_Mod_look_0 : decode b_Mod_look 0 = .ok (.iload_n 1, 1) := by decide +kernel
theorem d_Mod_look_1 : decode b_Mod_look 1 = .ok (.iconst 0, 1) := by decide +kernel
theorem d_Mod_look_2 : decode b_Mod_look 2 = .ok (.aload_n 0, 1) := by decide +kernel
theorem d_Mod_look_3 : decode b_Mod_look 3 = .ok (.getfield 79, 3) := by decide +kernel
theorem d_Mod_look_6 : decode b_Mod_look 6 = .ok (.iconst 1, 1) := by decide +kernel
theorem d_Mod_look_7 : decode b_Mod_look 7 = .ok (.isub, 1) := by decide +kernel
theorem d_Mod_look_8 : decode b_Mod_look 8 = .ok (.invokestatic 64, 3) := by decide +kernel
theorem d_Mod_look_11 : decode b_Mod_look 11 = .ok (.ifCond .ne 24, 3) := by decide +kernel
theorem d_Mod_look_14 : decode b_Mod_look 14 = .ok (.iload_n 2, 1) := by decide +kernel
theorem d_Mod_look_15 : decode b_Mod_look 15 = .ok (.iconst 0, 1) := by decide +kernel
theorem d_Mod_look_16 : decode b_Mod_look 16 = .ok (.iconst 3, 1) := by decide +kernel
theorem d_Mod_look_17 : decode b_Mod_look 17 = .ok (.invokestatic 64, 3) := by decide +kernel
theorem d_Mod_look_20 : decode b_Mod_look 20 = .ok (.ifCond .ne 15, 3) := by decide +kernel
theorem d_Mod_look_23 : decode b_Mod_look 23 = .ok (.iload_n 2, 1) := by decide +kernel
theorem d_Mod_look_24 : decode b_Mod_look 24 = .ok (.iconst 2, 1) := by decide +kernel
theorem d_Mod_look_25 : decode b_Mod_look 25 = .ok (.if_icmp .ne 16, 3) := by decide +kernel
theorem d_Mod_look_28 : decode b_Mod_look 28 = .ok (.aload_n 0, 1) := by decide +kernel
theorem d_Mod_look_29 : decode b_Mod_look 29 = .ok (.getfield 68, 3) := by decide +kernel
theorem d_Mod_look_32 : decode b_Mod_look 32 = .ok (.ifCond .ne 9, 3) := by decide +kernel
theorem d_Mod_look_35 : decode b_Mod_look 35 = .ok (.aload_n 0, 1) := by decide +kernel
theorem d_Mod_look_36 : decode b_Mod_look 36 = .ok (.iconst 1, 1) := by decide +kernel
theorem d_Mod_look_37 : decode b_Mod_look 37 = .ok (.invokevirtual 103, 3) := by decide +kernel
theorem d_Mod_look_40 : decode b_Mod_look 40 = .ok (.ireturn, 1) := by decide +kernel
theorem d_Mod_look_41 : decode b_Mod_look 41 = .ok (.aload_n 0, 1) := by decide +kernel
theorem d_Mod_look_42 : decode b_Mod_look 42 = .ok (.iconst 0, 1) := by decide +kernel
theorem d_Mod_look_43 : decode b_Mod_look 43 = .ok (.putfield 53, 3) := by decide +kernel
theorem d_Mod_look_46 : decode b_Mod_look 46 = .ok (.iload_n 2, 1) := by decide +kernel
theorem d_Mod_look_47 : decode b_Mod_look 47 = .ok (.ifCond .ne 12, 3) := by decide +kernel
theorem d_Mod_look_50 : decode b_Mod_look 50 = .ok (.aload_n 0, 1) := by decide +kernel
theorem d_Mod_look_51 : decode b_Mod_look 51 = .ok (.getfield 7, 3) := by decide +kernel
theorem d_Mod_look_54 : decode b_Mod_look 54 = .ok (.iload_n 1, 1) := by decide +kernel
theorem d_Mod_look_55 : decode b_Mod_look 55 = .ok (.caload, 1) := by decide +kernel
theorem d_Mod_look_56 : decode b_Mod_look 56 = .ok (.goto 44, 3) := by decide +kernel
theorem d_Mod_look_59 : decode b_Mod_look 59 = .ok (.iload_n 2, 1) := by decide +kernel
theorem d_Mod_look_60 : decode b_Mod_look 60 = .ok (.iconst 1, 1) := by decide +kernel
theorem d_Mod_look_61 : decode b_Mod_look 61 = .ok (.if_icmp .ne 12, 3) := by decide +kernel
theorem d_Mod_look_64 : decode b_Mod_look 64 = .ok (.aload_n 0, 1) := by decide +kernel
theorem d_Mod_look_65 : decode b_Mod_look 65 = .ok (.getfield 13, 3) := by decide +kernel
theorem d_Mod_look_68 : decode b_Mod_look 68 = .ok (.iload_n 1, 1) := by decide +kernel
theorem d_Mod_look_69 : decode b_Mod_look 69 = .ok (.iaload, 1) := by decide +kernel
theorem d_Mod_look_70 : decode b_Mod_look 70 = .ok (.goto 30, 3) := by decide +kernel
theorem d_Mod_look_73 : decode b_Mod_look 73 = .ok (.iload_n 2, 1) := by decide +kernel
theorem d_Mod_look_74 : decode b_Mod_look 74 = .ok (.iconst 2, 1) := by decide +kernel
theorem d_Mod_look_75 : decode b_Mod_look 75 = .ok (.if_icmp .ne 12, 3) := by decide +kernel
theorem d_Mod_look_78 : decode b_Mod_look 78 = .ok (.aload_n 0, 1) := by decide +kernel
theorem d_Mod_look_79 : decode b_Mod_look 79 = .ok (.getfield 17, 3) := by decide +kernel
theorem d_Mod_look_82 : decode b_Mod_look 82 = .ok (.iload_n 1, 1) := by decide +kernel
theorem d_Mod_look_83 : decode b_Mod_look 83 = .ok (.iaload, 1) := by decide +kernel
theorem d_Mod_look_84 : decode b_Mod_look 84 = .ok (.goto 16, 3) := by decide +kernel
theorem d_Mod_look_87 : decode b_Mod_look 87 = .ok (.aload_n 0, 1) := by decide +kernel
theorem d_Mod_look_88 : decode b_Mod_look 88 = .ok (.iload_n 1, 1) := by decide +kernel
theorem d_Mod_look_89 : decode b_Mod_look 89 = .ok (.invokevirtual 89, 3) := by decide +kernel
theorem d_Mod_look_92 : decode b_Mod_look 92 = .ok (.ifCond .eq 7, 3) := by decide +kernel
theorem d_Mod_look_95 : decode b_Mod_look 95 = .ok (.iconst 1, 1) := by decide +kernel
theorem d_Mod_look_96 : decode b_Mod_look 96 = .ok (.goto 4, 3) := by decide +kernel
theorem d_Mod_look_99 : decode b_Mod_look 99 = .ok (.iconst 0, 1) := by decide +kernel
theorem d_Mod_look_100 : decode b_Mod_look 100 = .ok (.ireturn, 1) := by decide +kernel
abbrev y_Mod_takes : MethodName := ⟨"FusedEngineModel", "takes", "(I)I"⟩
abbrev b_Mod_takes : ByteArray := prog_6_method_20_code
theorem d_Mod_takes_0 : decode b_Mod_takes 0 = .ok (.iload_n 1, 1) := by decide +kernel
theorem d_Mod_takes_1 : decode b_Mod_takes 1 = .ok (.invokestatic 57, 3) := by decide +kernel
theorem d_Mod_takes_4 : decode b_Mod_takes 4 = .ok (.ifCond .ne 9, 3) := by decide +kernel
theorem d_Mod_takes_7 : decode b_Mod_takes 7 = .ok (.iload_n 1, 1) := by decide +kernel
theorem d_Mod_takes_8 : decode b_Mod_takes 8 = .ok (.bipush 88, 2) := by decide +kernel
theorem d_Mod_takes_10 : decode b_Mod_takes 10 = .ok (.if_icmp .ne 7, 3) := by decide +kernel
theorem d_Mod_takes_13 : decode b_Mod_takes 13 = .ok (.iconst 2, 1) := by decide +kernel
theorem d_Mod_takes_14 : decode b_Mod_takes 14 = .ok (.goto 38, 3) := by decide +kernel
theorem d_Mod_takes_17 : decode b_Mod_takes 17 = .ok (.iload_n 1, 1) := by decide +kernel
theorem d_Mod_takes_18 : decode b_Mod_takes 18 = .ok (.bipush 83, 2) := by decide +kernel
theorem d_Mod_takes_20 : decode b_Mod_takes 20 = .ok (.if_icmp .eq 27, 3) := by decide +kernel
theorem d_Mod_takes_23 : decode b_Mod_takes 23 = .ok (.iload_n 1, 1) := by decide +kernel
theorem d_Mod_takes_24 : decode b_Mod_takes 24 = .ok (.bipush 68, 2) := by decide +kernel
theorem d_Mod_takes_26 : decode b_Mod_takes 26 = .ok (.if_icmp .eq 21, 3) := by decide +kernel
theorem d_Mod_takes_29 : decode b_Mod_takes 29 = .ok (.iload_n 1, 1) := by decide +kernel
theorem d_Mod_takes_30 : decode b_Mod_takes 30 = .ok (.bipush 79, 2) := by decide +kernel
theorem d_Mod_takes_32 : decode b_Mod_takes 32 = .ok (.if_icmp .eq 15, 3) := by decide +kernel
theorem d_Mod_takes_35 : decode b_Mod_takes 35 = .ok (.iload_n 1, 1) := by decide +kernel
theorem d_Mod_takes_36 : decode b_Mod_takes 36 = .ok (.bipush 86, 2) := by decide +kernel
theorem d_Mod_takes_38 : decode b_Mod_takes 38 = .ok (.if_icmp .eq 9, 3) := by decide +kernel
theorem d_Mod_takes_41 : decode b_Mod_takes 41 = .ok (.iload_n 1, 1) := by decide +kernel
theorem d_Mod_takes_42 : decode b_Mod_takes 42 = .ok (.bipush 90, 2) := by decide +kernel
theorem d_Mod_takes_44 : decode b_Mod_takes 44 = .ok (.if_icmp .ne 7, 3) := by decide +kernel
theorem d_Mod_takes_47 : decode b_Mod_takes 47 = .ok (.iconst 1, 1) := by decide +kernel
theorem d_Mod_takes_48 : decode b_Mod_takes 48 = .ok (.goto 4, 3) := by decide +kernel
theorem d_Mod_takes_51 : decode b_Mod_takes 51 = .ok (.iconst 0, 1) := by decide +kernel
theorem d_Mod_takes_52 : decode b_Mod_takes 52 = .ok (.ireturn, 1) := by decide +kernel
abbrev y_Mod_trap : MethodName := ⟨"FusedEngineModel", "trap", "(II)I"⟩
abbrev b_Mod_trap : ByteArray := prog_6_method_21_code
theorem d_Mod_trap_0 : decode b_Mod_trap 0 = .ok (.aload_n 0, 1) := by decide +kernel
theorem d_Mod_trap_1 : decode b_Mod_trap 1 = .ok (.getfield 26, 3) := by decide +kernel
theorem d_Mod_trap_4 : decode b_Mod_trap 4 = .ok (.iload_n 1, 1) := by decide +kernel
theorem d_Mod_trap_5 : decode b_Mod_trap 5 = .ok (.iaload, 1) := by decide +kernel
theorem d_Mod_trap_6 : decode b_Mod_trap 6 = .ok (.aload_n 0, 1) := by decide +kernel
theorem d_Mod_trap_7 : decode b_Mod_trap 7 = .ok (.iload_n 2, 1) := by decide +kernel
theorem d_Mod_trap_8 : decode b_Mod_trap 8 = .ok (.invokevirtual 106, 3) := by decide +kernel
theorem d_Mod_trap_11 : decode b_Mod_trap 11 = .ok (.if_icmp .lt 18, 3) := by decide +kernel
theorem d_Mod_trap_14 : decode b_Mod_trap 14 = .ok (.iload_n 2, 1) := by decide +kernel
theorem d_Mod_trap_15 : decode b_Mod_trap 15 = .ok (.bipush 82, 2) := by decide +kernel
theorem d_Mod_trap_17 : decode b_Mod_trap 17 = .ok (.if_icmp .ne 14, 3) := by decide +kernel
theorem d_Mod_trap_20 : decode b_Mod_trap 20 = .ok (.aload_n 0, 1) := by decide +kernel
theorem d_Mod_trap_21 : decode b_Mod_trap 21 = .ok (.getfield 29, 3) := by decide +kernel
theorem d_Mod_trap_24 : decode b_Mod_trap 24 = .ok (.iload_n 1, 1) := by decide +kernel
theorem d_Mod_trap_25 : decode b_Mod_trap 25 = .ok (.iaload, 1) := by decide +kernel
theorem d_Mod_trap_26 : decode b_Mod_trap 26 = .ok (.ifCond .ne 5, 3) := by decide +kernel
theorem d_Mod_trap_29 : decode b_Mod_trap 29 = .ok (.iconst 1, 1) := by decide +kernel
theorem d_Mod_trap_30 : decode b_Mod_trap 30 = .ok (.ireturn, 1) := by decide +kernel
theorem d_Mod_trap_31 : decode b_Mod_trap 31 = .ok (.iload_n 2, 1) := by decide +kernel
theorem d_Mod_trap_32 : decode b_Mod_trap 32 = .ok (.bipush 80, 2) := by decide +kernel
theorem d_Mod_trap_34 : decode b_Mod_trap 34 = .ok (.if_icmp .eq 15, 3) := by decide +kernel
theorem d_Mod_trap_37 : decode b_Mod_trap 37 = .ok (.iload_n 2, 1) := by decide +kernel
theorem d_Mod_trap_38 : decode b_Mod_trap 38 = .ok (.bipush 76, 2) := by decide +kernel
theorem d_Mod_trap_40 : decode b_Mod_trap 40 = .ok (.if_icmp .eq 9, 3) := by decide +kernel
theorem d_Mod_trap_43 : decode b_Mod_trap 43 = .ok (.iload_n 2, 1) := by decide +kernel
theorem d_Mod_trap_44 : decode b_Mod_trap 44 = .ok (.bipush 68, 2) := by decide +kernel
theorem d_Mod_trap_46 : decode b_Mod_trap 46 = .ok (.if_icmp .ne 7, 3) := by decide +kernel
theorem d_Mod_trap_49 : decode b_Mod_trap 49 = .ok (.iconst 1, 1) := by decide +kernel
theorem d_Mod_trap_50 : decode b_Mod_trap 50 = .ok (.goto 4, 3) := by decide +kernel
theorem d_Mod_trap_53 : decode b_Mod_trap 53 = .ok (.iconst 0, 1) := by decide +kernel
theorem d_Mod_trap_54 : decode b_Mod_trap 54 = .ok (.istore_n 3, 1) := by decide +kernel
theorem d_Mod_trap_55 : decode b_Mod_trap 55 = .ok (.iload_n 3, 1) := by decide +kernel
theorem d_Mod_trap_56 : decode b_Mod_trap 56 = .ok (.ifCond .eq 14, 3) := by decide +kernel
theorem d_Mod_trap_59 : decode b_Mod_trap 59 = .ok (.aload_n 0, 1) := by decide +kernel
theorem d_Mod_trap_60 : decode b_Mod_trap 60 = .ok (.getfield 26, 3) := by decide +kernel
theorem d_Mod_trap_63 : decode b_Mod_trap 63 = .ok (.iload_n 1, 1) := by decide +kernel
theorem d_Mod_trap_64 : decode b_Mod_trap 64 = .ok (.iaload, 1) := by decide +kernel
theorem d_Mod_trap_65 : decode b_Mod_trap 65 = .ok (.bipush 40, 2) := by decide +kernel
theorem d_Mod_trap_67 : decode b_Mod_trap 67 = .ok (.if_icmp .eq 20, 3) := by decide +kernel
theorem d_Mod_trap_70 : decode b_Mod_trap 70 = .ok (.iload_n 2, 1) := by decide +kernel
theorem d_Mod_trap_71 : decode b_Mod_trap 71 = .ok (.bipush 67, 2) := by decide +kernel
theorem d_Mod_trap_73 : decode b_Mod_trap 73 = .ok (.if_icmp .ne 16, 3) := by decide +kernel
theorem d_Mod_trap_76 : decode b_Mod_trap 76 = .ok (.aload_n 0, 1) := by decide +kernel
theorem d_Mod_trap_77 : decode b_Mod_trap 77 = .ok (.getfield 29, 3) := by decide +kernel
theorem d_Mod_trap_80 : decode b_Mod_trap 80 = .ok (.iload_n 1, 1) := by decide +kernel
theorem d_Mod_trap_81 : decode b_Mod_trap 81 = .ok (.iaload, 1) := by decide +kernel
theorem d_Mod_trap_82 : decode b_Mod_trap 82 = .ok (.bipush 10, 2) := by decide +kernel
theorem d_Mod_trap_84 : decode b_Mod_trap 84 = .ok (.if_icmp .ne 5, 3) := by decide +kernel
theorem d_Mod_trap_87 : decode b_Mod_trap 87 = .ok (.iconst 2, 1) := by decide +kernel
theorem d_Mod_trap_88 : decode b_Mod_trap 88 = .ok (.ireturn, 1) := by decide +kernel
theorem d_Mod_trap_89 : decode b_Mod_trap 89 = .ok (.iload_n 2, 1) := by decide +kernel
theorem d_Mod_trap_90 : decode b_Mod_trap 90 = .ok (.bipush 47, 2) := by decide +kernel
theorem d_Mod_trap_92 : decode b_Mod_trap 92 = .ok (.if_icmp .ne 28, 3) := by decide +kernel
theorem d_Mod_trap_95 : decode b_Mod_trap 95 = .ok (.aload_n 0, 1) := by decide +kernel
theorem d_Mod_trap_96 : decode b_Mod_trap 96 = .ok (.getfield 41, 3) := by decide +kernel
theorem d_Mod_trap_99 : decode b_Mod_trap 99 = .ok (.bipush 40, 2) := by decide +kernel
theorem d_Mod_trap_101 : decode b_Mod_trap 101 = .ok (.iload_n 1, 1) := by decide +kernel
theorem d_Mod_trap_102 : decode b_Mod_trap 102 = .ok (.imul, 1) := by decide +kernel
theorem d_Mod_trap_103 : decode b_Mod_trap 103 = .ok (.aload_n 0, 1) := by decide +kernel
theorem d_Mod_trap_104 : decode b_Mod_trap 104 = .ok (.getfield 26, 3) := by decide +kernel
theorem d_Mod_trap_107 : decode b_Mod_trap 107 = .ok (.iload_n 1, 1) := by decide +kernel
theorem d_Mod_trap_108 : decode b_Mod_trap 108 = .ok (.iaload, 1) := by decide +kernel
theorem d_Mod_trap_109 : decode b_Mod_trap 109 = .ok (.iadd, 1) := by decide +kernel
theorem d_Mod_trap_110 : decode b_Mod_trap 110 = .ok (.iconst 1, 1) := by decide +kernel
theorem d_Mod_trap_111 : decode b_Mod_trap 111 = .ok (.isub, 1) := by decide +kernel
theorem d_Mod_trap_112 : decode b_Mod_trap 112 = .ok (.iaload, 1) := by decide +kernel
theorem d_Mod_trap_113 : decode b_Mod_trap 113 = .ok (.ifCond .ne 7, 3) := by decide +kernel
theorem d_Mod_trap_116 : decode b_Mod_trap 116 = .ok (.iconst 3, 1) := by decide +kernel
theorem d_Mod_trap_117 : decode b_Mod_trap 117 = .ok (.goto 4, 3) := by decide +kernel
theorem d_Mod_trap_120 : decode b_Mod_trap 120 = .ok (.iconst 0, 1) := by decide +kernel
theorem d_Mod_trap_121 : decode b_Mod_trap 121 = .ok (.ireturn, 1) := by decide +kernel
abbrev y_Mod_push : MethodName := ⟨"FusedEngineModel", "push", "(II)V"⟩
abbrev b_Mod_push : ByteArray := prog_6_method_22_code
theorem d_Mod_push_0 : decode b_Mod_push 0 = .ok (.aload_n 0, 1) := by decide +kernel
theorem d_Mod_push_1 : decode b_Mod_push 1 = .ok (.getfield 41, 3) := by decide +kernel
theorem d_Mod_push_4 : decode b_Mod_push 4 = .ok (.bipush 40, 2) := by decide +kernel
theorem d_Mod_push_6 : decode b_Mod_push 6 = .ok (.iload_n 1, 1) := by decide +kernel
theorem d_Mod_push_7 : decode b_Mod_push 7 = .ok (.imul, 1) := by decide +kernel
theorem d_Mod_push_8 : decode b_Mod_push 8 = .ok (.aload_n 0, 1) := by decide +kernel
theorem d_Mod_push_9 : decode b_Mod_push 9 = .ok (.getfield 26, 3) := by decide +kernel
theorem d_Mod_push_12 : decode b_Mod_push 12 = .ok (.iload_n 1, 1) := by decide +kernel
theorem d_Mod_push_13 : decode b_Mod_push 13 = .ok (.iaload, 1) := by decide +kernel
theorem d_Mod_push_14 : decode b_Mod_push 14 = .ok (.iadd, 1) := by decide +kernel
theorem d_Mod_push_15 : decode b_Mod_push 15 = .ok (.iload_n 2, 1) := by decide +kernel
theorem d_Mod_push_16 : decode b_Mod_push 16 = .ok (.iastore, 1) := by decide +kernel
theorem d_Mod_push_17 : decode b_Mod_push 17 = .ok (.aload_n 0, 1) := by decide +kernel
theorem d_Mod_push_18 : decode b_Mod_push 18 = .ok (.getfield 26, 3) := by decide +kernel
theorem d_Mod_push_21 : decode b_Mod_push 21 = .ok (.iload_n 1, 1) := by decide +kernel
theorem d_Mod_push_22 : decode b_Mod_push 22 = .ok (.dup2, 1) := by decide +kernel
theorem d_Mod_push_23 : decode b_Mod_push 23 = .ok (.iaload, 1) := by decide +kernel
theorem d_Mod_push_24 : decode b_Mod_push 24 = .ok (.iconst 1, 1) := by decide +kernel
theorem d_Mod_push_25 : decode b_Mod_push 25 = .ok (.iadd, 1) := by decide +kernel
theorem d_Mod_push_26 : decode b_Mod_push 26 = .ok (.iastore, 1) := by decide +kernel
theorem d_Mod_push_27 : decode b_Mod_push 27 = .ok (.return_, 1) := by decide +kernel
abbrev y_Mod_pop : MethodName := ⟨"FusedEngineModel", "pop", "(I)I"⟩
abbrev b_Mod_pop : ByteArray := prog_6_method_23_code
theorem d_Mod_pop_0 : decode b_Mod_pop 0 = .ok (.aload_n 0, 1) := by decide +kernel
theorem d_Mod_pop_1 : decode b_Mod_pop 1 = .ok (.getfield 26, 3) := by decide +kernel
theorem d_Mod_pop_4 : decode b_Mod_pop 4 = .ok (.iload_n 1, 1) := by decide +kernel
theorem d_Mod_pop_5 : decode b_Mod_pop 5 = .ok (.dup2, 1) := by decide +kernel
theorem d_Mod_pop_6 : decode b_Mod_pop 6 = .ok (.iaload, 1) := by decide +kernel
theorem d_Mod_pop_7 : decode b_Mod_pop 7 = .ok (.iconst 1, 1) := by decide +kernel
theorem d_Mod_pop_8 : decode b_Mod_pop 8 = .ok (.isub, 1) := by decide +kernel
theorem d_Mod_pop_9 : decode b_Mod_pop 9 = .ok (.iastore, 1) := by decide +kernel
theorem d_Mod_pop_10 : decode b_Mod_pop 10 = .ok (.aload_n 0, 1) := by decide +kernel
theorem d_Mod_pop_11 : decode b_Mod_pop 11 = .ok (.getfield 41, 3) := by decide +kernel
theorem d_Mod_pop_14 : decode b_Mod_pop 14 = .ok (.bipush 40, 2) := by decide +kernel
theorem d_Mod_pop_16 : decode b_Mod_pop 16 = .ok (.iload_n 1, 1) := by decide +kernel
theorem d_Mod_pop_17 : decode b_Mod_pop 17 = .ok (.imul, 1) := by decide +kernel
theorem d_Mod_pop_18 : decode b_Mod_pop 18 = .ok (.aload_n 0, 1) := by decide +kernel
theorem d_Mod_pop_19 : decode b_Mod_pop 19 = .ok (.getfield 26, 3) := by decide +kernel
theorem d_Mod_pop_22 : decode b_Mod_pop 22 = .ok (.iload_n 1, 1) := by decide +kernel
theorem d_Mod_pop_23 : decode b_Mod_pop 23 = .ok (.iaload, 1) := by decide +kernel
theorem d_Mod_pop_24 : decode b_Mod_pop 24 = .ok (.iadd, 1) := by decide +kernel
theorem d_Mod_pop_25 : decode b_Mod_pop 25 = .ok (.iaload, 1) := by decide +kernel
theorem d_Mod_pop_26 : decode b_Mod_pop 26 = .ok (.ireturn, 1) := by decide +kernel
abbrev y_Mod_reckon : MethodName := ⟨"FusedEngineModel", "reckon", "(III)I"⟩
abbrev b_Mod_reckon : ByteArray := prog_6_method_24_code
theorem d_Mod_reckon_0 : decode b_Mod_reckon 0 = .ok (.iload_n 0, 1) := by decide +kernel
theorem d_Mod_reckon_1 : decode b_Mod_reckon 1 = .ok (.lookupswitch 78 #[(42, 59), (43, 51), (45, 55), (47, 63), (60, 67)], 51) := by decide +kernel
theorem d_Mod_reckon_52 : decode b_Mod_reckon 52 = .ok (.iload_n 1, 1) := by decide +kernel
theorem d_Mod_reckon_53 : decode b_Mod_reckon 53 = .ok (.iload_n 2, 1) := by decide +kernel
theorem d_Mod_reckon_54 : decode b_Mod_reckon 54 = .ok (.iadd, 1) := by decide +kernel
theorem d_Mod_reckon_55 : decode b_Mod_reckon 55 = .ok (.ireturn, 1) := by decide +kernel
theorem d_Mod_reckon_56 : decode b_Mod_reckon 56 = .ok (.iload_n 1, 1) := by decide +kernel
theorem d_Mod_reckon_57 : decode b_Mod_reckon 57 = .ok (.iload_n 2, 1) := by decide +kernel
theorem d_Mod_reckon_58 : decode b_Mod_reckon 58 = .ok (.isub, 1) := by decide +kernel
theorem d_Mod_reckon_59 : decode b_Mod_reckon 59 = .ok (.ireturn, 1) := by decide +kernel
theorem d_Mod_reckon_60 : decode b_Mod_reckon 60 = .ok (.iload_n 1, 1) := by decide +kernel
theorem d_Mod_reckon_61 : decode b_Mod_reckon 61 = .ok (.iload_n 2, 1) := by decide +kernel
theorem d_Mod_reckon_62 : decode b_Mod_reckon 62 = .ok (.imul, 1) := by decide +kernel
theorem d_Mod_reckon_63 : decode b_Mod_reckon 63 = .ok (.ireturn, 1) := by decide +kernel
theorem d_Mod_reckon_64 : decode b_Mod_reckon 64 = .ok (.iload_n 1, 1) := by decide +kernel
theorem d_Mod_reckon_65 : decode b_Mod_reckon 65 = .ok (.iload_n 2, 1) := by decide +kernel
theorem d_Mod_reckon_66 : decode b_Mod_reckon 66 = .ok (.idiv, 1) := by decide +kernel
theorem d_Mod_reckon_67 : decode b_Mod_reckon 67 = .ok (.ireturn, 1) := by decide +kernel
theorem d_Mod_reckon_68 : decode b_Mod_reckon 68 = .ok (.iload_n 1, 1) := by decide +kernel
theorem d_Mod_reckon_69 : decode b_Mod_reckon 69 = .ok (.iload_n 2, 1) := by decide +kernel
theorem d_Mod_reckon_70 : decode b_Mod_reckon 70 = .ok (.if_icmp .ge 7, 3) := by decide +kernel
theorem d_Mod_reckon_73 : decode b_Mod_reckon 73 = .ok (.iconst 1, 1) := by decide +kernel
theorem d_Mod_reckon_74 : decode b_Mod_reckon 74 = .ok (.goto 4, 3) := by decide +kernel
theorem d_Mod_reckon_77 : decode b_Mod_reckon 77 = .ok (.iconst 0, 1) := by decide +kernel
theorem d_Mod_reckon_78 : decode b_Mod_reckon 78 = .ok (.ireturn, 1) := by decide +kernel
theorem d_Mod_reckon_79 : decode b_Mod_reckon 79 = .ok (.iload_n 1, 1) := by decide +kernel
theorem d_Mod_reckon_80 : decode b_Mod_reckon 80 = .ok (.iload_n 2, 1) := by decide +kernel
theorem d_Mod_reckon_81 : decode b_Mod_reckon 81 = .ok (.if_icmp .ne 7, 3) := by decide +kernel
theorem d_Mod_reckon_84 : decode b_Mod_reckon 84 = .ok (.iconst 1, 1) := by decide +kernel
theorem d_Mod_reckon_85 : decode b_Mod_reckon 85 = .ok (.goto 4, 3) := by decide +kernel
theorem d_Mod_reckon_88 : decode b_Mod_reckon 88 = .ok (.iconst 0, 1) := by decide +kernel
theorem d_Mod_reckon_89 : decode b_Mod_reckon 89 = .ok (.ireturn, 1) := by decide +kernel
abbrev y_Mod_say : MethodName := ⟨"FusedEngineModel", "say", "(II)V"⟩
abbrev b_Mod_say : ByteArray := prog_6_method_25_code
theorem d_Mod_say_0 : decode b_Mod_say 0 = .ok (.aload_n 0, 1) := by decide +kernel
theorem d_Mod_say_1 : decode b_Mod_say 1 = .ok (.getfield 32, 3) := by decide +kernel
theorem d_Mod_say_4 : decode b_Mod_say 4 = .ok (.iload_n 1, 1) := by decide +kernel
theorem d_Mod_say_5 : decode b_Mod_say 5 = .ok (.iaload, 1) := by decide +kernel
theorem d_Mod_say_6 : decode b_Mod_say 6 = .ok (.bipush 60, 2) := by decide +kernel
theorem d_Mod_say_8 : decode b_Mod_say 8 = .ok (.if_icmp .ge 20, 3) := by decide +kernel
theorem d_Mod_say_11 : decode b_Mod_say 11 = .ok (.aload_n 0, 1) := by decide +kernel
theorem d_Mod_say_12 : decode b_Mod_say 12 = .ok (.getfield 50, 3) := by decide +kernel
theorem d_Mod_say_15 : decode b_Mod_say 15 = .ok (.bipush 60, 2) := by decide +kernel
theorem d_Mod_say_17 : decode b_Mod_say 17 = .ok (.iload_n 1, 1) := by decide +kernel
theorem d_Mod_say_18 : decode b_Mod_say 18 = .ok (.imul, 1) := by decide +kernel
theorem d_Mod_say_19 : decode b_Mod_say 19 = .ok (.aload_n 0, 1) := by decide +kernel
theorem d_Mod_say_20 : decode b_Mod_say 20 = .ok (.getfield 32, 3) := by decide +kernel
theorem d_Mod_say_23 : decode b_Mod_say 23 = .ok (.iload_n 1, 1) := by decide +kernel
theorem d_Mod_say_24 : decode b_Mod_say 24 = .ok (.iaload, 1) := by decide +kernel
theorem d_Mod_say_25 : decode b_Mod_say 25 = .ok (.iadd, 1) := by decide +kernel
theorem d_Mod_say_26 : decode b_Mod_say 26 = .ok (.iload_n 2, 1) := by decide +kernel
theorem d_Mod_say_27 : decode b_Mod_say 27 = .ok (.iastore, 1) := by decide +kernel
theorem d_Mod_say_28 : decode b_Mod_say 28 = .ok (.aload_n 0, 1) := by decide +kernel
theorem d_Mod_say_29 : decode b_Mod_say 29 = .ok (.getfield 32, 3) := by decide +kernel
theorem d_Mod_say_32 : decode b_Mod_say 32 = .ok (.iload_n 1, 1) := by decide +kernel
theorem d_Mod_say_33 : decode b_Mod_say 33 = .ok (.dup2, 1) := by decide +kernel
theorem d_Mod_say_34 : decode b_Mod_say 34 = .ok (.iaload, 1) := by decide +kernel
theorem d_Mod_say_35 : decode b_Mod_say 35 = .ok (.iconst 1, 1) := by decide +kernel
theorem d_Mod_say_36 : decode b_Mod_say 36 = .ok (.iadd, 1) := by decide +kernel
theorem d_Mod_say_37 : decode b_Mod_say 37 = .ok (.iastore, 1) := by decide +kernel
theorem d_Mod_say_38 : decode b_Mod_say 38 = .ok (.return_, 1) := by decide +kernel
abbrev y_Mod_next : MethodName := ⟨"FusedEngineModel", "next", "(III)I"⟩
abbrev b_Mod_next : ByteArray := prog_6_method_26_code
theorem d_Mod_next_0 : decode b_Mod_next 0 = .ok (.aload_n 0, 1) := by decide +kernel
theorem d_Mod_next_1 : decode b_Mod_next 1 = .ok (.getfield 23, 3) := by decide +kernel
theorem d_Mod_next_4 : decode b_Mod_next 4 = .ok (.iload_n 1, 1) := by decide +kernel
theorem d_Mod_next_5 : decode b_Mod_next 5 = .ok (.iaload, 1) := by decide +kernel
theorem d_Mod_next_6 : decode b_Mod_next 6 = .ok (.iconst 1, 1) := by decide +kernel
theorem d_Mod_next_7 : decode b_Mod_next 7 = .ok (.iadd, 1) := by decide +kernel
theorem d_Mod_next_8 : decode b_Mod_next 8 = .ok (.istore 4, 2) := by decide +kernel
theorem d_Mod_next_10 : decode b_Mod_next 10 = .ok (.iload_n 2, 1) := by decide +kernel
theorem d_Mod_next_11 : decode b_Mod_next 11 = .ok (.bipush 67, 2) := by decide +kernel
theorem d_Mod_next_13 : decode b_Mod_next 13 = .ok (.if_icmp .ne 31, 3) := by decide +kernel
theorem d_Mod_next_16 : decode b_Mod_next 16 = .ok (.aload_n 0, 1) := by decide +kernel
theorem d_Mod_next_17 : decode b_Mod_next 17 = .ok (.getfield 47, 3) := by decide +kernel
theorem d_Mod_next_20 : decode b_Mod_next 20 = .ok (.bipush 10, 2) := by decide +kernel
theorem d_Mod_next_22 : decode b_Mod_next 22 = .ok (.iload_n 1, 1) := by decide +kernel
theorem d_Mod_next_23 : decode b_Mod_next 23 = .ok (.imul, 1) := by decide +kernel
theorem d_Mod_next_24 : decode b_Mod_next 24 = .ok (.aload_n 0, 1) := by decide +kernel
theorem d_Mod_next_25 : decode b_Mod_next 25 = .ok (.getfield 29, 3) := by decide +kernel
theorem d_Mod_next_28 : decode b_Mod_next 28 = .ok (.iload_n 1, 1) := by decide +kernel
theorem d_Mod_next_29 : decode b_Mod_next 29 = .ok (.iaload, 1) := by decide +kernel
theorem d_Mod_next_30 : decode b_Mod_next 30 = .ok (.iadd, 1) := by decide +kernel
theorem d_Mod_next_31 : decode b_Mod_next 31 = .ok (.iload 4, 2) := by decide +kernel
theorem d_Mod_next_33 : decode b_Mod_next 33 = .ok (.iastore, 1) := by decide +kernel
theorem d_Mod_next_34 : decode b_Mod_next 34 = .ok (.aload_n 0, 1) := by decide +kernel
theorem d_Mod_next_35 : decode b_Mod_next 35 = .ok (.getfield 29, 3) := by decide +kernel
theorem d_Mod_next_38 : decode b_Mod_next 38 = .ok (.iload_n 1, 1) := by decide +kernel
theorem d_Mod_next_39 : decode b_Mod_next 39 = .ok (.dup2, 1) := by decide +kernel
theorem d_Mod_next_40 : decode b_Mod_next 40 = .ok (.iaload, 1) := by decide +kernel
theorem d_Mod_next_41 : decode b_Mod_next 41 = .ok (.iconst 1, 1) := by decide +kernel
theorem d_Mod_next_42 : decode b_Mod_next 42 = .ok (.iadd, 1) := by decide +kernel
theorem d_Mod_next_43 : decode b_Mod_next 43 = .ok (.iastore, 1) := by decide +kernel
theorem d_Mod_next_44 : decode b_Mod_next 44 = .ok (.iload_n 2, 1) := by decide +kernel
theorem d_Mod_next_45 : decode b_Mod_next 45 = .ok (.bipush 82, 2) := by decide +kernel
theorem d_Mod_next_47 : decode b_Mod_next 47 = .ok (.if_icmp .ne 30, 3) := by decide +kernel
theorem d_Mod_next_50 : decode b_Mod_next 50 = .ok (.aload_n 0, 1) := by decide +kernel
theorem d_Mod_next_51 : decode b_Mod_next 51 = .ok (.getfield 29, 3) := by decide +kernel
theorem d_Mod_next_54 : decode b_Mod_next 54 = .ok (.iload_n 1, 1) := by decide +kernel
theorem d_Mod_next_55 : decode b_Mod_next 55 = .ok (.dup2, 1) := by decide +kernel
theorem d_Mod_next_56 : decode b_Mod_next 56 = .ok (.iaload, 1) := by decide +kernel
theorem d_Mod_next_57 : decode b_Mod_next 57 = .ok (.iconst 1, 1) := by decide +kernel
theorem d_Mod_next_58 : decode b_Mod_next 58 = .ok (.isub, 1) := by decide +kernel
theorem d_Mod_next_59 : decode b_Mod_next 59 = .ok (.iastore, 1) := by decide +kernel
theorem d_Mod_next_60 : decode b_Mod_next 60 = .ok (.aload_n 0, 1) := by decide +kernel
theorem d_Mod_next_61 : decode b_Mod_next 61 = .ok (.getfield 47, 3) := by decide +kernel
theorem d_Mod_next_64 : decode b_Mod_next 64 = .ok (.bipush 10, 2) := by decide +kernel
theorem d_Mod_next_66 : decode b_Mod_next 66 = .ok (.iload_n 1, 1) := by decide +kernel
theorem d_Mod_next_67 : decode b_Mod_next 67 = .ok (.imul, 1) := by decide +kernel
theorem d_Mod_next_68 : decode b_Mod_next 68 = .ok (.aload_n 0, 1) := by decide +kernel
theorem d_Mod_next_69 : decode b_Mod_next 69 = .ok (.getfield 29, 3) := by decide +kernel
theorem d_Mod_next_72 : decode b_Mod_next 72 = .ok (.iload_n 1, 1) := by decide +kernel
theorem d_Mod_next_73 : decode b_Mod_next 73 = .ok (.iaload, 1) := by decide +kernel
theorem d_Mod_next_74 : decode b_Mod_next 74 = .ok (.iadd, 1) := by decide +kernel
theorem d_Mod_next_75 : decode b_Mod_next 75 = .ok (.iaload, 1) := by decide +kernel
theorem d_Mod_next_76 : decode b_Mod_next 76 = .ok (.ireturn, 1) := by decide +kernel
theorem d_Mod_next_77 : decode b_Mod_next 77 = .ok (.iload_n 2, 1) := by decide +kernel
theorem d_Mod_next_78 : decode b_Mod_next 78 = .ok (.bipush 72, 2) := by decide +kernel
theorem d_Mod_next_80 : decode b_Mod_next 80 = .ok (.if_icmp .ne 10, 3) := by decide +kernel
theorem d_Mod_next_83 : decode b_Mod_next 83 = .ok (.aload_n 0, 1) := by decide +kernel
theorem d_Mod_next_84 : decode b_Mod_next 84 = .ok (.getfield 35, 3) := by decide +kernel
theorem d_Mod_next_87 : decode b_Mod_next 87 = .ok (.iload_n 1, 1) := by decide +kernel
theorem d_Mod_next_88 : decode b_Mod_next 88 = .ok (.iconst 5, 1) := by decide +kernel
theorem d_Mod_next_89 : decode b_Mod_next 89 = .ok (.iastore, 1) := by decide +kernel
theorem d_Mod_next_90 : decode b_Mod_next 90 = .ok (.iload_n 2, 1) := by decide +kernel
theorem d_Mod_next_91 : decode b_Mod_next 91 = .ok (.bipush 90, 2) := by decide +kernel
theorem d_Mod_next_93 : decode b_Mod_next 93 = .ok (.if_icmp .ne 18, 3) := by decide +kernel
theorem d_Mod_next_96 : decode b_Mod_next 96 = .ok (.aload_n 0, 1) := by decide +kernel
theorem d_Mod_next_97 : decode b_Mod_next 97 = .ok (.iload_n 1, 1) := by decide +kernel
theorem d_Mod_next_98 : decode b_Mod_next 98 = .ok (.invokevirtual 109, 3) := by decide +kernel
theorem d_Mod_next_101 : decode b_Mod_next 101 = .ok (.ifCond .ne 7, 3) := by decide +kernel
theorem d_Mod_next_104 : decode b_Mod_next 104 = .ok (.iload_n 3, 1) := by decide +kernel
theorem d_Mod_next_105 : decode b_Mod_next 105 = .ok (.goto 5, 3) := by decide +kernel
theorem d_Mod_next_108 : decode b_Mod_next 108 = .ok (.iload 4, 2) := by decide +kernel
theorem d_Mod_next_110 : decode b_Mod_next 110 = .ok (.ireturn, 1) := by decide +kernel
theorem d_Mod_next_111 : decode b_Mod_next 111 = .ok (.iload_n 2, 1) := by decide +kernel
theorem d_Mod_next_112 : decode b_Mod_next 112 = .ok (.bipush 74, 2) := by decide +kernel
theorem d_Mod_next_114 : decode b_Mod_next 114 = .ok (.if_icmp .eq 9, 3) := by decide +kernel
theorem d_Mod_next_117 : decode b_Mod_next 117 = .ok (.iload_n 2, 1) := by decide +kernel
theorem d_Mod_next_118 : decode b_Mod_next 118 = .ok (.bipush 67, 2) := by decide +kernel
theorem d_Mod_next_120 : decode b_Mod_next 120 = .ok (.if_icmp .ne 7, 3) := by decide +kernel
theorem d_Mod_next_123 : decode b_Mod_next 123 = .ok (.iload_n 3, 1) := by decide +kernel
theorem d_Mod_next_124 : decode b_Mod_next 124 = .ok (.goto 20, 3) := by decide +kernel
theorem d_Mod_next_127 : decode b_Mod_next 127 = .ok (.iload_n 2, 1) := by decide +kernel
theorem d_Mod_next_128 : decode b_Mod_next 128 = .ok (.bipush 72, 2) := by decide +kernel
theorem d_Mod_next_130 : decode b_Mod_next 130 = .ok (.if_icmp .ne 12, 3) := by decide +kernel
theorem d_Mod_next_133 : decode b_Mod_next 133 = .ok (.aload_n 0, 1) := by decide +kernel
theorem d_Mod_next_134 : decode b_Mod_next 134 = .ok (.getfield 23, 3) := by decide +kernel
theorem d_Mod_next_137 : decode b_Mod_next 137 = .ok (.iload_n 1, 1) := by decide +kernel
theorem d_Mod_next_138 : decode b_Mod_next 138 = .ok (.iaload, 1) := by decide +kernel
theorem d_Mod_next_139 : decode b_Mod_next 139 = .ok (.goto 5, 3) := by decide +kernel
theorem d_Mod_next_142 : decode b_Mod_next 142 = .ok (.iload 4, 2) := by decide +kernel
theorem d_Mod_next_144 : decode b_Mod_next 144 = .ok (.ireturn, 1) := by decide +kernel
abbrev y_Mod_work : MethodName := ⟨"FusedEngineModel", "work", "(III)V"⟩
abbrev b_Mod_work : ByteArray := prog_6_method_27_code
theorem d_Mod_work_0 : decode b_Mod_work 0 = .ok (.aload_n 0, 1) := by decide +kernel
theorem d_Mod_work_1 : decode b_Mod_work 1 = .ok (.iload_n 2, 1) := by decide +kernel
theorem d_Mod_work_2 : decode b_Mod_work 2 = .ok (.invokevirtual 106, 3) := by decide +kernel
theorem d_Mod_work_5 : decode b_Mod_work 5 = .ok (.ifCond .le 17, 3) := by decide +kernel
theorem d_Mod_work_8 : decode b_Mod_work 8 = .ok (.iload_n 2, 1) := by decide +kernel
theorem d_Mod_work_9 : decode b_Mod_work 9 = .ok (.bipush 90, 2) := by decide +kernel
theorem d_Mod_work_11 : decode b_Mod_work 11 = .ok (.if_icmp .eq 11, 3) := by decide +kernel
theorem d_Mod_work_14 : decode b_Mod_work 14 = .ok (.aload_n 0, 1) := by decide +kernel
theorem d_Mod_work_15 : decode b_Mod_work 15 = .ok (.iload_n 1, 1) := by decide +kernel
theorem d_Mod_work_16 : decode b_Mod_work 16 = .ok (.invokevirtual 109, 3) := by decide +kernel
theorem d_Mod_work_19 : decode b_Mod_work 19 = .ok (.goto 4, 3) := by decide +kernel
theorem d_Mod_work_22 : decode b_Mod_work 22 = .ok (.iconst 0, 1) := by decide +kernel
theorem d_Mod_work_23 : decode b_Mod_work 23 = .ok (.istore 4, 2) := by decide +kernel
theorem d_Mod_work_25 : decode b_Mod_work 25 = .ok (.aload_n 0, 1) := by decide +kernel
theorem d_Mod_work_26 : decode b_Mod_work 26 = .ok (.iload_n 2, 1) := by decide +kernel
theorem d_Mod_work_27 : decode b_Mod_work 27 = .ok (.invokevirtual 106, 3) := by decide +kernel
theorem d_Mod_work_30 : decode b_Mod_work 30 = .ok (.iconst 2, 1) := by decide +kernel
theorem d_Mod_work_31 : decode b_Mod_work 31 = .ok (.if_icmp .ne 11, 3) := by decide +kernel
theorem d_Mod_work_34 : decode b_Mod_work 34 = .ok (.aload_n 0, 1) := by decide +kernel
theorem d_Mod_work_35 : decode b_Mod_work 35 = .ok (.iload_n 1, 1) := by decide +kernel
theorem d_Mod_work_36 : decode b_Mod_work 36 = .ok (.invokevirtual 109, 3) := by decide +kernel
theorem d_Mod_work_39 : decode b_Mod_work 39 = .ok (.goto 4, 3) := by decide +kernel
theorem d_Mod_work_42 : decode b_Mod_work 42 = .ok (.iconst 0, 1) := by decide +kernel
theorem d_Mod_work_43 : decode b_Mod_work 43 = .ok (.istore 5, 2) := by decide +kernel
theorem d_Mod_work_45 : decode b_Mod_work 45 = .ok (.iload_n 2, 1) := by decide +kernel
theorem d_Mod_work_46 : decode b_Mod_work 46 = .ok (.invokestatic 57, 3) := by decide +kernel
theorem d_Mod_work_49 : decode b_Mod_work 49 = .ok (.ifCond .eq 16, 3) := by decide +kernel
theorem d_Mod_work_52 : decode b_Mod_work 52 = .ok (.aload_n 0, 1) := by decide +kernel
theorem d_Mod_work_53 : decode b_Mod_work 53 = .ok (.iload_n 1, 1) := by decide +kernel
theorem d_Mod_work_54 : decode b_Mod_work 54 = .ok (.iload_n 2, 1) := by decide +kernel
theorem d_Mod_work_55 : decode b_Mod_work 55 = .ok (.iload 5, 2) := by decide +kernel
theorem d_Mod_work_57 : decode b_Mod_work 57 = .ok (.iload 4, 2) := by decide +kernel
theorem d_Mod_work_59 : decode b_Mod_work 59 = .ok (.invokestatic 112, 3) := by decide +kernel
theorem d_Mod_work_62 : decode b_Mod_work 62 = .ok (.invokevirtual 116, 3) := by decide +kernel
theorem d_Mod_work_65 : decode b_Mod_work 65 = .ok (.iload_n 2, 1) := by decide +kernel
theorem d_Mod_work_66 : decode b_Mod_work 66 = .ok (.bipush 80, 2) := by decide +kernel
theorem d_Mod_work_68 : decode b_Mod_work 68 = .ok (.if_icmp .ne 9, 3) := by decide +kernel
theorem d_Mod_work_71 : decode b_Mod_work 71 = .ok (.aload_n 0, 1) := by decide +kernel
theorem d_Mod_work_72 : decode b_Mod_work 72 = .ok (.iload_n 1, 1) := by decide +kernel
theorem d_Mod_work_73 : decode b_Mod_work 73 = .ok (.iload_n 3, 1) := by decide +kernel
theorem d_Mod_work_74 : decode b_Mod_work 74 = .ok (.invokevirtual 116, 3) := by decide +kernel
theorem d_Mod_work_77 : decode b_Mod_work 77 = .ok (.iload_n 2, 1) := by decide +kernel
theorem d_Mod_work_78 : decode b_Mod_work 78 = .ok (.bipush 76, 2) := by decide +kernel
theorem d_Mod_work_80 : decode b_Mod_work 80 = .ok (.if_icmp .ne 19, 3) := by decide +kernel
theorem d_Mod_work_83 : decode b_Mod_work 83 = .ok (.aload_n 0, 1) := by decide +kernel
theorem d_Mod_work_84 : decode b_Mod_work 84 = .ok (.iload_n 1, 1) := by decide +kernel
theorem d_Mod_work_85 : decode b_Mod_work 85 = .ok (.aload_n 0, 1) := by decide +kernel
theorem d_Mod_work_86 : decode b_Mod_work 86 = .ok (.getfield 44, 3) := by decide +kernel
theorem d_Mod_work_89 : decode b_Mod_work 89 = .ok (.bipush 8, 2) := by decide +kernel
theorem d_Mod_work_91 : decode b_Mod_work 91 = .ok (.iload_n 1, 1) := by decide +kernel
theorem d_Mod_work_92 : decode b_Mod_work 92 = .ok (.imul, 1) := by decide +kernel
theorem d_Mod_work_93 : decode b_Mod_work 93 = .ok (.iload_n 3, 1) := by decide +kernel
theorem d_Mod_work_94 : decode b_Mod_work 94 = .ok (.iadd, 1) := by decide +kernel
theorem d_Mod_work_95 : decode b_Mod_work 95 = .ok (.iaload, 1) := by decide +kernel
theorem d_Mod_work_96 : decode b_Mod_work 96 = .ok (.invokevirtual 116, 3) := by decide +kernel
theorem d_Mod_work_99 : decode b_Mod_work 99 = .ok (.iload_n 2, 1) := by decide +kernel
theorem d_Mod_work_100 : decode b_Mod_work 100 = .ok (.bipush 83, 2) := by decide +kernel
theorem d_Mod_work_102 : decode b_Mod_work 102 = .ok (.if_icmp .ne 16, 3) := by decide +kernel
theorem d_Mod_work_105 : decode b_Mod_work 105 = .ok (.aload_n 0, 1) := by decide +kernel
theorem d_Mod_work_106 : decode b_Mod_work 106 = .ok (.getfield 44, 3) := by decide +kernel
theorem d_Mod_work_109 : decode b_Mod_work 109 = .ok (.bipush 8, 2) := by decide +kernel
theorem d_Mod_work_111 : decode b_Mod_work 111 = .ok (.iload_n 1, 1) := by decide +kernel
theorem d_Mod_work_112 : decode b_Mod_work 112 = .ok (.imul, 1) := by decide +kernel
theorem d_Mod_work_113 : decode b_Mod_work 113 = .ok (.iload_n 3, 1) := by decide +kernel
theorem d_Mod_work_114 : decode b_Mod_work 114 = .ok (.iadd, 1) := by decide +kernel
theorem d_Mod_work_115 : decode b_Mod_work 115 = .ok (.iload 4, 2) := by decide +kernel
theorem d_Mod_work_117 : decode b_Mod_work 117 = .ok (.iastore, 1) := by decide +kernel
theorem d_Mod_work_118 : decode b_Mod_work 118 = .ok (.iload_n 2, 1) := by decide +kernel
theorem d_Mod_work_119 : decode b_Mod_work 119 = .ok (.bipush 79, 2) := by decide +kernel
theorem d_Mod_work_121 : decode b_Mod_work 121 = .ok (.if_icmp .ne 10, 3) := by decide +kernel
theorem d_Mod_work_124 : decode b_Mod_work 124 = .ok (.aload_n 0, 1) := by decide +kernel
theorem d_Mod_work_125 : decode b_Mod_work 125 = .ok (.iload_n 1, 1) := by decide +kernel
theorem d_Mod_work_126 : decode b_Mod_work 126 = .ok (.iload 4, 2) := by decide +kernel
theorem d_Mod_work_128 : decode b_Mod_work 128 = .ok (.invokevirtual 120, 3) := by decide +kernel
theorem d_Mod_work_131 : decode b_Mod_work 131 = .ok (.iload_n 2, 1) := by decide +kernel
theorem d_Mod_work_132 : decode b_Mod_work 132 = .ok (.bipush 68, 2) := by decide +kernel
theorem d_Mod_work_134 : decode b_Mod_work 134 = .ok (.if_icmp .eq 9, 3) := by decide +kernel
theorem d_Mod_work_137 : decode b_Mod_work 137 = .ok (.iload_n 2, 1) := by decide +kernel
theorem d_Mod_work_138 : decode b_Mod_work 138 = .ok (.bipush 88, 2) := by decide +kernel
theorem d_Mod_work_140 : decode b_Mod_work 140 = .ok (.if_icmp .ne 10, 3) := by decide +kernel
theorem d_Mod_work_143 : decode b_Mod_work 143 = .ok (.aload_n 0, 1) := by decide +kernel
theorem d_Mod_work_144 : decode b_Mod_work 144 = .ok (.iload_n 1, 1) := by decide +kernel
theorem d_Mod_work_145 : decode b_Mod_work 145 = .ok (.iload 4, 2) := by decide +kernel
theorem d_Mod_work_147 : decode b_Mod_work 147 = .ok (.invokevirtual 116, 3) := by decide +kernel
theorem d_Mod_work_150 : decode b_Mod_work 150 = .ok (.iload_n 2, 1) := by decide +kernel
theorem d_Mod_work_151 : decode b_Mod_work 151 = .ok (.bipush 68, 2) := by decide +kernel
theorem d_Mod_work_153 : decode b_Mod_work 153 = .ok (.if_icmp .ne 10, 3) := by decide +kernel
theorem d_Mod_work_156 : decode b_Mod_work 156 = .ok (.aload_n 0, 1) := by decide +kernel
theorem d_Mod_work_157 : decode b_Mod_work 157 = .ok (.iload_n 1, 1) := by decide +kernel
theorem d_Mod_work_158 : decode b_Mod_work 158 = .ok (.iload 4, 2) := by decide +kernel
theorem d_Mod_work_160 : decode b_Mod_work 160 = .ok (.invokevirtual 116, 3) := by decide +kernel
theorem d_Mod_work_163 : decode b_Mod_work 163 = .ok (.iload_n 2, 1) := by decide +kernel
theorem d_Mod_work_164 : decode b_Mod_work 164 = .ok (.bipush 88, 2) := by decide +kernel
theorem d_Mod_work_166 : decode b_Mod_work 166 = .ok (.if_icmp .ne 10, 3) := by decide +kernel
theorem d_Mod_work_169 : decode b_Mod_work 169 = .ok (.aload_n 0, 1) := by decide +kernel
theorem d_Mod_work_170 : decode b_Mod_work 170 = .ok (.iload_n 1, 1) := by decide +kernel
theorem d_Mod_work_171 : decode b_Mod_work 171 = .ok (.iload 5, 2) := by decide +kernel
theorem d_Mod_work_173 : decode b_Mod_work 173 = .ok (.invokevirtual 116, 3) := by decide +kernel
theorem d_Mod_work_176 : decode b_Mod_work 176 = .ok (.return_, 1) := by decide +kernel
abbrev y_Mod_act : MethodName := ⟨"FusedEngineModel", "act", "(I)Z"⟩
abbrev b_Mod_act : ByteArray := prog_6_method_28_code
theorem d_Mod_act_0 : decode b_Mod_act 0 = .ok (.aload_n 0, 1) := by decide +kernel
theorem d_Mod_act_1 : decode b_Mod_act 1 = .ok (.getfield 7, 3) := by decide +kernel
theorem d_Mod_act_4 : decode b_Mod_act 4 = .ok (.aload_n 0, 1) := by decide +kernel
theorem d_Mod_act_5 : decode b_Mod_act 5 = .ok (.getfield 23, 3) := by decide +kernel
theorem d_Mod_act_8 : decode b_Mod_act 8 = .ok (.iload_n 1, 1) := by decide +kernel
theorem d_Mod_act_9 : decode b_Mod_act 9 = .ok (.iaload, 1) := by decide +kernel
theorem d_Mod_act_10 : decode b_Mod_act 10 = .ok (.caload, 1) := by decide +kernel
theorem d_Mod_act_11 : decode b_Mod_act 11 = .ok (.istore_n 2, 1) := by decide +kernel
theorem d_Mod_act_12 : decode b_Mod_act 12 = .ok (.aload_n 0, 1) := by decide +kernel
theorem d_Mod_act_13 : decode b_Mod_act 13 = .ok (.getfield 13, 3) := by decide +kernel
theorem d_Mod_act_16 : decode b_Mod_act 16 = .ok (.aload_n 0, 1) := by decide +kernel
theorem d_Mod_act_17 : decode b_Mod_act 17 = .ok (.getfield 23, 3) := by decide +kernel
theorem d_Mod_act_20 : decode b_Mod_act 20 = .ok (.iload_n 1, 1) := by decide +kernel
theorem d_Mod_act_21 : decode b_Mod_act 21 = .ok (.iaload, 1) := by decide +kernel
theorem d_Mod_act_22 : decode b_Mod_act 22 = .ok (.iaload, 1) := by decide +kernel
theorem d_Mod_act_23 : decode b_Mod_act 23 = .ok (.istore_n 3, 1) := by decide +kernel
theorem d_Mod_act_24 : decode b_Mod_act 24 = .ok (.aload_n 0, 1) := by decide +kernel
theorem d_Mod_act_25 : decode b_Mod_act 25 = .ok (.iload_n 1, 1) := by decide +kernel
theorem d_Mod_act_26 : decode b_Mod_act 26 = .ok (.iload_n 2, 1) := by decide +kernel
theorem d_Mod_act_27 : decode b_Mod_act 27 = .ok (.invokevirtual 123, 3) := by decide +kernel
theorem d_Mod_act_30 : decode b_Mod_act 30 = .ok (.istore 4, 2) := by decide +kernel
theorem d_Mod_act_32 : decode b_Mod_act 32 = .ok (.iload 4, 2) := by decide +kernel
theorem d_Mod_act_34 : decode b_Mod_act 34 = .ok (.ifCond .le 13, 3) := by decide +kernel
theorem d_Mod_act_37 : decode b_Mod_act 37 = .ok (.aload_n 0, 1) := by decide +kernel
theorem d_Mod_act_38 : decode b_Mod_act 38 = .ok (.getfield 35, 3) := by decide +kernel
theorem d_Mod_act_41 : decode b_Mod_act 41 = .ok (.iload_n 1, 1) := by decide +kernel
theorem d_Mod_act_42 : decode b_Mod_act 42 = .ok (.iload 4, 2) := by decide +kernel
theorem d_Mod_act_44 : decode b_Mod_act 44 = .ok (.iastore, 1) := by decide +kernel
theorem d_Mod_act_45 : decode b_Mod_act 45 = .ok (.iconst 0, 1) := by decide +kernel
theorem d_Mod_act_46 : decode b_Mod_act 46 = .ok (.ireturn, 1) := by decide +kernel
theorem d_Mod_act_47 : decode b_Mod_act 47 = .ok (.aload_n 0, 1) := by decide +kernel
theorem d_Mod_act_48 : decode b_Mod_act 48 = .ok (.iload_n 1, 1) := by decide +kernel
theorem d_Mod_act_49 : decode b_Mod_act 49 = .ok (.iload_n 2, 1) := by decide +kernel
theorem d_Mod_act_50 : decode b_Mod_act 50 = .ok (.iload_n 3, 1) := by decide +kernel
theorem d_Mod_act_51 : decode b_Mod_act 51 = .ok (.invokevirtual 126, 3) := by decide +kernel
theorem d_Mod_act_54 : decode b_Mod_act 54 = .ok (.aload_n 0, 1) := by decide +kernel
theorem d_Mod_act_55 : decode b_Mod_act 55 = .ok (.getfield 23, 3) := by decide +kernel
theorem d_Mod_act_58 : decode b_Mod_act 58 = .ok (.iload_n 1, 1) := by decide +kernel
theorem d_Mod_act_59 : decode b_Mod_act 59 = .ok (.aload_n 0, 1) := by decide +kernel
theorem d_Mod_act_60 : decode b_Mod_act 60 = .ok (.iload_n 1, 1) := by decide +kernel
theorem d_Mod_act_61 : decode b_Mod_act 61 = .ok (.iload_n 2, 1) := by decide +kernel
theorem d_Mod_act_62 : decode b_Mod_act 62 = .ok (.iload_n 3, 1) := by decide +kernel
theorem d_Mod_act_63 : decode b_Mod_act 63 = .ok (.invokevirtual 129, 3) := by decide +kernel
theorem d_Mod_act_66 : decode b_Mod_act 66 = .ok (.iastore, 1) := by decide +kernel
theorem d_Mod_act_67 : decode b_Mod_act 67 = .ok (.aload_n 0, 1) := by decide +kernel
theorem d_Mod_act_68 : decode b_Mod_act 68 = .ok (.getfield 38, 3) := by decide +kernel
theorem d_Mod_act_71 : decode b_Mod_act 71 = .ok (.iload_n 1, 1) := by decide +kernel
theorem d_Mod_act_72 : decode b_Mod_act 72 = .ok (.dup2, 1) := by decide +kernel
theorem d_Mod_act_73 : decode b_Mod_act 73 = .ok (.iaload, 1) := by decide +kernel
theorem d_Mod_act_74 : decode b_Mod_act 74 = .ok (.iconst 1, 1) := by decide +kernel
theorem d_Mod_act_75 : decode b_Mod_act 75 = .ok (.iadd, 1) := by decide +kernel
theorem d_Mod_act_76 : decode b_Mod_act 76 = .ok (.iastore, 1) := by decide +kernel
theorem d_Mod_act_77 : decode b_Mod_act 77 = .ok (.iconst 1, 1) := by decide +kernel
theorem d_Mod_act_78 : decode b_Mod_act 78 = .ok (.ireturn, 1) := by decide +kernel
abbrev y_Mod_run : MethodName := ⟨"FusedEngineModel", "run", "(ZI)I"⟩
abbrev b_Mod_run : ByteArray := prog_6_method_29_code
theorem d_Mod_run_0 : decode b_Mod_run 0 = .ok (.aload_n 0, 1) := by decide +kernel
theorem d_Mod_run_1 : decode b_Mod_run 1 = .ok (.iload_n 1, 1) := by decide +kernel
theorem d_Mod_run_2 : decode b_Mod_run 2 = .ok (.ifCond .eq 14, 3) := by decide +kernel
theorem d_Mod_run_5 : decode b_Mod_run 5 = .ok (.aload_n 0, 1) := by decide +kernel
theorem d_Mod_run_6 : decode b_Mod_run 6 = .ok (.getfield 68, 3) := by decide +kernel
theorem d_Mod_run_9 : decode b_Mod_run 9 = .ok (.ifCond .ne 7, 3) := by decide +kernel
theorem d_Mod_run_12 : decode b_Mod_run 12 = .ok (.iconst 1, 1) := by decide +kernel
theorem d_Mod_run_13 : decode b_Mod_run 13 = .ok (.goto 4, 3) := by decide +kernel
theorem d_Mod_run_16 : decode b_Mod_run 16 = .ok (.iconst 0, 1) := by decide +kernel
theorem d_Mod_run_17 : decode b_Mod_run 17 = .ok (.putfield 53, 3) := by decide +kernel
theorem d_Mod_run_20 : decode b_Mod_run 20 = .ok (.aload_n 0, 1) := by decide +kernel
theorem d_Mod_run_21 : decode b_Mod_run 21 = .ok (.getfield 53, 3) := by decide +kernel
theorem d_Mod_run_24 : decode b_Mod_run 24 = .ok (.ifCond .le 5, 3) := by decide +kernel
theorem d_Mod_run_27 : decode b_Mod_run 27 = .ok (.iconst 0, 1) := by decide +kernel
theorem d_Mod_run_28 : decode b_Mod_run 28 = .ok (.ireturn, 1) := by decide +kernel
theorem d_Mod_run_29 : decode b_Mod_run 29 = .ok (.iload_n 1, 1) := by decide +kernel
theorem d_Mod_run_30 : decode b_Mod_run 30 = .ok (.ifCond .eq 7, 3) := by decide +kernel
theorem d_Mod_run_33 : decode b_Mod_run 33 = .ok (.iconst 1, 1) := by decide +kernel
theorem d_Mod_run_34 : decode b_Mod_run 34 = .ok (.goto 4, 3) := by decide +kernel
theorem d_Mod_run_37 : decode b_Mod_run 37 = .ok (.iconst 0, 1) := by decide +kernel
theorem d_Mod_run_38 : decode b_Mod_run 38 = .ok (.istore_n 3, 1) := by decide +kernel
theorem d_Mod_run_39 : decode b_Mod_run 39 = .ok (.iconst 0, 1) := by decide +kernel
theorem d_Mod_run_40 : decode b_Mod_run 40 = .ok (.istore 4, 2) := by decide +kernel
theorem d_Mod_run_42 : decode b_Mod_run 42 = .ok (.iload 4, 2) := by decide +kernel
theorem d_Mod_run_44 : decode b_Mod_run 44 = .ok (.iload_n 2, 1) := by decide +kernel
theorem d_Mod_run_45 : decode b_Mod_run 45 = .ok (.if_icmp .ge 112, 3) := by decide +kernel
theorem d_Mod_run_48 : decode b_Mod_run 48 = .ok (.iload 4, 2) := by decide +kernel
theorem d_Mod_run_50 : decode b_Mod_run 50 = .ok (.sipush 3000, 3) := by decide +kernel
theorem d_Mod_run_53 : decode b_Mod_run 53 = .ok (.if_icmp .ge 104, 3) := by decide +kernel
theorem d_Mod_run_56 : decode b_Mod_run 56 = .ok (.aload_n 0, 1) := by decide +kernel
theorem d_Mod_run_57 : decode b_Mod_run 57 = .ok (.getfield 35, 3) := by decide +kernel
theorem d_Mod_run_60 : decode b_Mod_run 60 = .ok (.iload_n 3, 1) := by decide +kernel
theorem d_Mod_run_61 : decode b_Mod_run 61 = .ok (.iaload, 1) := by decide +kernel
theorem d_Mod_run_62 : decode b_Mod_run 62 = .ok (.ifCond .ne 95, 3) := by decide +kernel
theorem d_Mod_run_65 : decode b_Mod_run 65 = .ok (.aload_n 0, 1) := by decide +kernel
theorem d_Mod_run_66 : decode b_Mod_run 66 = .ok (.getfield 23, 3) := by decide +kernel
theorem d_Mod_run_69 : decode b_Mod_run 69 = .ok (.iload_n 3, 1) := by decide +kernel
theorem d_Mod_run_70 : decode b_Mod_run 70 = .ok (.iaload, 1) := by decide +kernel
theorem d_Mod_run_71 : decode b_Mod_run 71 = .ok (.iconst 0, 1) := by decide +kernel
theorem d_Mod_run_72 : decode b_Mod_run 72 = .ok (.aload_n 0, 1) := by decide +kernel
theorem d_Mod_run_73 : decode b_Mod_run 73 = .ok (.getfield 79, 3) := by decide +kernel
theorem d_Mod_run_76 : decode b_Mod_run 76 = .ok (.iconst 1, 1) := by decide +kernel
theorem d_Mod_run_77 : decode b_Mod_run 77 = .ok (.isub, 1) := by decide +kernel
theorem d_Mod_run_78 : decode b_Mod_run 78 = .ok (.invokestatic 64, 3) := by decide +kernel
theorem d_Mod_run_81 : decode b_Mod_run 81 = .ok (.ifCond .eq 13, 3) := by decide +kernel
theorem d_Mod_run_84 : decode b_Mod_run 84 = .ok (.aload_n 0, 1) := by decide +kernel
theorem d_Mod_run_85 : decode b_Mod_run 85 = .ok (.getfield 35, 3) := by decide +kernel
theorem d_Mod_run_88 : decode b_Mod_run 88 = .ok (.iload_n 3, 1) := by decide +kernel
theorem d_Mod_run_89 : decode b_Mod_run 89 = .ok (.iconst 4, 1) := by decide +kernel
theorem d_Mod_run_90 : decode b_Mod_run 90 = .ok (.iastore, 1) := by decide +kernel
theorem d_Mod_run_91 : decode b_Mod_run 91 = .ok (.goto (-49), 3) := by decide +kernel
theorem d_Mod_run_94 : decode b_Mod_run 94 = .ok (.iload_n 1, 1) := by decide +kernel
theorem d_Mod_run_95 : decode b_Mod_run 95 = .ok (.ifCond .eq 17, 3) := by decide +kernel
theorem d_Mod_run_98 : decode b_Mod_run 98 = .ok (.aload_n 0, 1) := by decide +kernel
theorem d_Mod_run_99 : decode b_Mod_run 99 = .ok (.getfield 17, 3) := by decide +kernel
theorem d_Mod_run_102 : decode b_Mod_run 102 = .ok (.aload_n 0, 1) := by decide +kernel
theorem d_Mod_run_103 : decode b_Mod_run 103 = .ok (.getfield 23, 3) := by decide +kernel
theorem d_Mod_run_106 : decode b_Mod_run 106 = .ok (.iload_n 3, 1) := by decide +kernel
theorem d_Mod_run_107 : decode b_Mod_run 107 = .ok (.iaload, 1) := by decide +kernel
theorem d_Mod_run_108 : decode b_Mod_run 108 = .ok (.iaload, 1) := by decide +kernel
theorem d_Mod_run_109 : decode b_Mod_run 109 = .ok (.goto 4, 3) := by decide +kernel
theorem d_Mod_run_112 : decode b_Mod_run 112 = .ok (.iconst (-1), 1) := by decide +kernel
theorem d_Mod_run_113 : decode b_Mod_run 113 = .ok (.istore 5, 2) := by decide +kernel
theorem d_Mod_run_115 : decode b_Mod_run 115 = .ok (.iload 5, 2) := by decide +kernel
theorem d_Mod_run_117 : decode b_Mod_run 117 = .ok (.ifCond .ge 7, 3) := by decide +kernel
theorem d_Mod_run_120 : decode b_Mod_run 120 = .ok (.iconst 1, 1) := by decide +kernel
theorem d_Mod_run_121 : decode b_Mod_run 121 = .ok (.goto 9, 3) := by decide +kernel
theorem d_Mod_run_124 : decode b_Mod_run 124 = .ok (.aload_n 0, 1) := by decide +kernel
theorem d_Mod_run_125 : decode b_Mod_run 125 = .ok (.iload 5, 2) := by decide +kernel
theorem d_Mod_run_127 : decode b_Mod_run 127 = .ok (.invokevirtual 96, 3) := by decide +kernel
theorem d_Mod_run_130 : decode b_Mod_run 130 = .ok (.istore 6, 2) := by decide +kernel
theorem d_Mod_run_132 : decode b_Mod_run 132 = .ok (.iload 6, 2) := by decide +kernel
theorem d_Mod_run_134 : decode b_Mod_run 134 = .ok (.ifCond .le 17, 3) := by decide +kernel
theorem d_Mod_run_137 : decode b_Mod_run 137 = .ok (.aload_n 0, 1) := by decide +kernel
theorem d_Mod_run_138 : decode b_Mod_run 138 = .ok (.iload_n 3, 1) := by decide +kernel
theorem d_Mod_run_139 : decode b_Mod_run 139 = .ok (.invokevirtual 132, 3) := by decide +kernel
theorem d_Mod_run_142 : decode b_Mod_run 142 = .ok (.ifCond .eq 9, 3) := by decide +kernel
theorem d_Mod_run_145 : decode b_Mod_run 145 = .ok (.iinc 6 (-1), 3) := by decide +kernel
theorem d_Mod_run_148 : decode b_Mod_run 148 = .ok (.goto (-16), 3) := by decide +kernel
theorem d_Mod_run_151 : decode b_Mod_run 151 = .ok (.iinc 4 1, 3) := by decide +kernel
theorem d_Mod_run_154 : decode b_Mod_run 154 = .ok (.goto (-112), 3) := by decide +kernel
theorem d_Mod_run_157 : decode b_Mod_run 157 = .ok (.iload 4, 2) := by decide +kernel
theorem d_Mod_run_159 : decode b_Mod_run 159 = .ok (.ireturn, 1) := by decide +kernel
abbrev y_Mod_restart : MethodName := ⟨"FusedEngineModel", "restart", "()V"⟩
abbrev b_Mod_restart : ByteArray := prog_6_method_30_code
theorem d_Mod_restart_0 : decode b_Mod_restart 0 = .ok (.aload_n 0, 1) := by decide +kernel
theorem d_Mod_restart_1 : decode b_Mod_restart 1 = .ok (.iconst 0, 1) := by decide +kernel
theorem d_Mod_restart_2 : decode b_Mod_restart 2 = .ok (.putfield 53, 3) := by decide +kernel
theorem d_Mod_restart_5 : decode b_Mod_restart 5 = .ok (.aload_n 0, 1) := by decide +kernel
theorem d_Mod_restart_6 : decode b_Mod_restart 6 = .ok (.invokevirtual 72, 3) := by decide +kernel
theorem d_Mod_restart_9 : decode b_Mod_restart 9 = .ok (.return_, 1) := by decide +kernel
abbrev y_Mod_about : MethodName := ⟨"FusedEngineModel", "about", "(ZI)I"⟩
abbrev b_Mod_about : ByteArray := prog_6_method_31_code
theorem d_Mod_about_0 : decode b_Mod_about 0 = .ok (.aload_n 0, 1) := by decide +kernel
theorem d_Mod_about_1 : decode b_Mod_about 1 = .ok (.iconst 0, 1) := by decide +kernel
theorem d_Mod_about_2 : decode b_Mod_about 2 = .ok (.putfield 53, 3) := by decide +kernel
theorem d_Mod_about_5 : decode b_Mod_about 5 = .ok (.iload_n 1, 1) := by decide +kernel
theorem d_Mod_about_6 : decode b_Mod_about 6 = .ok (.ifCond .eq 7, 3) := by decide +kernel
theorem d_Mod_about_9 : decode b_Mod_about 9 = .ok (.iconst 1, 1) := by decide +kernel
theorem d_Mod_about_10 : decode b_Mod_about 10 = .ok (.goto 4, 3) := by decide +kernel
theorem d_Mod_about_13 : decode b_Mod_about 13 = .ok (.iconst 0, 1) := by decide +kernel
theorem d_Mod_about_14 : decode b_Mod_about 14 = .ok (.istore_n 3, 1) := by decide +kernel
theorem d_Mod_about_15 : decode b_Mod_about 15 = .ok (.iload_n 2, 1) := by decide +kernel
theorem d_Mod_about_16 : decode b_Mod_about 16 = .ok (.tableswitch 82 0 5 #[40, 47, 54, 61, 68, 75], 40) := by decide +kernel
theorem d_Mod_about_56 : decode b_Mod_about 56 = .ok (.aload_n 0, 1) := by decide +kernel
theorem d_Mod_about_57 : decode b_Mod_about 57 = .ok (.getfield 23, 3) := by decide +kernel
theorem d_Mod_about_60 : decode b_Mod_about 60 = .ok (.iload_n 3, 1) := by decide +kernel
theorem d_Mod_about_61 : decode b_Mod_about 61 = .ok (.iaload, 1) := by decide +kernel
theorem d_Mod_about_62 : decode b_Mod_about 62 = .ok (.ireturn, 1) := by decide +kernel
theorem d_Mod_about_63 : decode b_Mod_about 63 = .ok (.aload_n 0, 1) := by decide +kernel
theorem d_Mod_about_64 : decode b_Mod_about 64 = .ok (.getfield 26, 3) := by decide +kernel
theorem d_Mod_about_67 : decode b_Mod_about 67 = .ok (.iload_n 3, 1) := by decide +kernel
theorem d_Mod_about_68 : decode b_Mod_about 68 = .ok (.iaload, 1) := by decide +kernel
theorem d_Mod_about_69 : decode b_Mod_about 69 = .ok (.ireturn, 1) := by decide +kernel
theorem d_Mod_about_70 : decode b_Mod_about 70 = .ok (.aload_n 0, 1) := by decide +kernel
theorem d_Mod_about_71 : decode b_Mod_about 71 = .ok (.getfield 29, 3) := by decide +kernel
theorem d_Mod_about_74 : decode b_Mod_about 74 = .ok (.iload_n 3, 1) := by decide +kernel
theorem d_Mod_about_75 : decode b_Mod_about 75 = .ok (.iaload, 1) := by decide +kernel
theorem d_Mod_about_76 : decode b_Mod_about 76 = .ok (.ireturn, 1) := by decide +kernel
theorem d_Mod_about_77 : decode b_Mod_about 77 = .ok (.aload_n 0, 1) := by decide +kernel
theorem d_Mod_about_78 : decode b_Mod_about 78 = .ok (.getfield 32, 3) := by decide +kernel
theorem d_Mod_about_81 : decode b_Mod_about 81 = .ok (.iload_n 3, 1) := by decide +kernel
theorem d_Mod_about_82 : decode b_Mod_about 82 = .ok (.iaload, 1) := by decide +kernel
theorem d_Mod_about_83 : decode b_Mod_about 83 = .ok (.ireturn, 1) := by decide +kernel
theorem d_Mod_about_84 : decode b_Mod_about 84 = .ok (.aload_n 0, 1) := by decide +kernel
theorem d_Mod_about_85 : decode b_Mod_about 85 = .ok (.getfield 35, 3) := by decide +kernel
theorem d_Mod_about_88 : decode b_Mod_about 88 = .ok (.iload_n 3, 1) := by decide +kernel
theorem d_Mod_about_89 : decode b_Mod_about 89 = .ok (.iaload, 1) := by decide +kernel
theorem d_Mod_about_90 : decode b_Mod_about 90 = .ok (.ireturn, 1) := by decide +kernel
theorem d_Mod_about_91 : decode b_Mod_about 91 = .ok (.aload_n 0, 1) := by decide +kernel
theorem d_Mod_about_92 : decode b_Mod_about 92 = .ok (.getfield 38, 3) := by decide +kernel
theorem d_Mod_about_95 : decode b_Mod_about 95 = .ok (.iload_n 3, 1) := by decide +kernel
theorem d_Mod_about_96 : decode b_Mod_about 96 = .ok (.iaload, 1) := by decide +kernel
theorem d_Mod_about_97 : decode b_Mod_about 97 = .ok (.ireturn, 1) := by decide +kernel
theorem d_Mod_about_98 : decode b_Mod_about 98 = .ok (.iconst (-1), 1) := by decide +kernel
theorem d_Mod_about_99 : decode b_Mod_about 99 = .ok (.ireturn, 1) := by decide +kernel
abbrev y_Mod_stack : MethodName := ⟨"FusedEngineModel", "stack", "(ZI)I"⟩
abbrev b_Mod_stack : ByteArray := prog_6_method_32_code
theorem d_Mod_stack_0 : decode b_Mod_stack 0 = .ok (.iload_n 1, 1) := by decide +kernel
theorem d_Mod_stack_1 : decode b_Mod_stack 1 = .ok (.ifCond .eq 7, 3) := by decide +kernel
theorem d_Mod_stack_4 : decode b_Mod_stack 4 = .ok (.iconst 1, 1) := by decide +kernel
theorem d_Mod_stack_5 : decode b_Mod_stack 5 = .ok (.goto 4, 3) := by decide +kernel
theorem d_Mod_stack_8 : decode b_Mod_stack 8 = .ok (.iconst 0, 1) := by decide +kernel
theorem d_Mod_stack_9 : decode b_Mod_stack 9 = .ok (.istore_n 3, 1) := by decide +kernel
theorem d_Mod_stack_10 : decode b_Mod_stack 10 = .ok (.iload_n 2, 1) := by decide +kernel
theorem d_Mod_stack_11 : decode b_Mod_stack 11 = .ok (.iconst 0, 1) := by decide +kernel
theorem d_Mod_stack_12 : decode b_Mod_stack 12 = .ok (.aload_n 0, 1) := by decide +kernel
theorem d_Mod_stack_13 : decode b_Mod_stack 13 = .ok (.getfield 26, 3) := by decide +kernel
theorem d_Mod_stack_16 : decode b_Mod_stack 16 = .ok (.iload_n 3, 1) := by decide +kernel
theorem d_Mod_stack_17 : decode b_Mod_stack 17 = .ok (.iaload, 1) := by decide +kernel
theorem d_Mod_stack_18 : decode b_Mod_stack 18 = .ok (.iconst 1, 1) := by decide +kernel
theorem d_Mod_stack_19 : decode b_Mod_stack 19 = .ok (.isub, 1) := by decide +kernel
theorem d_Mod_stack_20 : decode b_Mod_stack 20 = .ok (.invokestatic 64, 3) := by decide +kernel
theorem d_Mod_stack_23 : decode b_Mod_stack 23 = .ok (.ifCond .eq 9, 3) := by decide +kernel
theorem d_Mod_stack_26 : decode b_Mod_stack 26 = .ok (.aload_n 0, 1) := by decide +kernel
theorem d_Mod_stack_27 : decode b_Mod_stack 27 = .ok (.iconst 1, 1) := by decide +kernel
theorem d_Mod_stack_28 : decode b_Mod_stack 28 = .ok (.invokevirtual 103, 3) := by decide +kernel
theorem d_Mod_stack_31 : decode b_Mod_stack 31 = .ok (.ireturn, 1) := by decide +kernel
theorem d_Mod_stack_32 : decode b_Mod_stack 32 = .ok (.aload_n 0, 1) := by decide +kernel
theorem d_Mod_stack_33 : decode b_Mod_stack 33 = .ok (.iconst 0, 1) := by decide +kernel
theorem d_Mod_stack_34 : decode b_Mod_stack 34 = .ok (.putfield 53, 3) := by decide +kernel
theorem d_Mod_stack_37 : decode b_Mod_stack 37 = .ok (.aload_n 0, 1) := by decide +kernel
theorem d_Mod_stack_38 : decode b_Mod_stack 38 = .ok (.getfield 41, 3) := by decide +kernel
theorem d_Mod_stack_41 : decode b_Mod_stack 41 = .ok (.bipush 40, 2) := by decide +kernel
theorem d_Mod_stack_43 : decode b_Mod_stack 43 = .ok (.iload_n 3, 1) := by decide +kernel
theorem d_Mod_stack_44 : decode b_Mod_stack 44 = .ok (.imul, 1) := by decide +kernel
theorem d_Mod_stack_45 : decode b_Mod_stack 45 = .ok (.iload_n 2, 1) := by decide +kernel
theorem d_Mod_stack_46 : decode b_Mod_stack 46 = .ok (.iadd, 1) := by decide +kernel
theorem d_Mod_stack_47 : decode b_Mod_stack 47 = .ok (.iaload, 1) := by decide +kernel
theorem d_Mod_stack_48 : decode b_Mod_stack 48 = .ok (.ireturn, 1) := by decide +kernel
abbrev y_Mod_local : MethodName := ⟨"FusedEngineModel", "local", "(ZI)I"⟩
abbrev b_Mod_local : ByteArray := prog_6_method_33_code
theorem d_Mod_local_0 : decode b_Mod_local 0 = .ok (.iload_n 2, 1) := by decide +kernel
theorem d_Mod_local_1 : decode b_Mod_local 1 = .ok (.iconst 0, 1) := by decide +kernel
theorem d_Mod_local_2 : decode b_Mod_local 2 = .ok (.bipush 7, 2) := by decide +kernel
theorem d_Mod_local_4 : decode b_Mod_local 4 = .ok (.invokestatic 64, 3) := by decide +kernel
theorem d_Mod_local_7 : decode b_Mod_local 7 = .ok (.ifCond .eq 9, 3) := by decide +kernel
theorem d_Mod_local_10 : decode b_Mod_local 10 = .ok (.aload_n 0, 1) := by decide +kernel
theorem d_Mod_local_11 : decode b_Mod_local 11 = .ok (.iconst 1, 1) := by decide +kernel
theorem d_Mod_local_12 : decode b_Mod_local 12 = .ok (.invokevirtual 103, 3) := by decide +kernel
theorem d_Mod_local_15 : decode b_Mod_local 15 = .ok (.ireturn, 1) := by decide +kernel
theorem d_Mod_local_16 : decode b_Mod_local 16 = .ok (.aload_n 0, 1) := by decide +kernel
theorem d_Mod_local_17 : decode b_Mod_local 17 = .ok (.iconst 0, 1) := by decide +kernel
theorem d_Mod_local_18 : decode b_Mod_local 18 = .ok (.putfield 53, 3) := by decide +kernel
theorem d_Mod_local_21 : decode b_Mod_local 21 = .ok (.aload_n 0, 1) := by decide +kernel
theorem d_Mod_local_22 : decode b_Mod_local 22 = .ok (.getfield 44, 3) := by decide +kernel
theorem d_Mod_local_25 : decode b_Mod_local 25 = .ok (.bipush 8, 2) := by decide +kernel
theorem d_Mod_local_27 : decode b_Mod_local 27 = .ok (.iload_n 1, 1) := by decide +kernel
theorem d_Mod_local_28 : decode b_Mod_local 28 = .ok (.ifCond .eq 7, 3) := by decide +kernel
theorem d_Mod_local_31 : decode b_Mod_local 31 = .ok (.iconst 1, 1) := by decide +kernel
theorem d_Mod_local_32 : decode b_Mod_local 32 = .ok (.goto 4, 3) := by decide +kernel
theorem d_Mod_local_35 : decode b_Mod_local 35 = .ok (.iconst 0, 1) := by decide +kernel
theorem d_Mod_local_36 : decode b_Mod_local 36 = .ok (.imul, 1) := by decide +kernel
theorem d_Mod_local_37 : decode b_Mod_local 37 = .ok (.iload_n 2, 1) := by decide +kernel
theorem d_Mod_local_38 : decode b_Mod_local 38 = .ok (.iadd, 1) := by decide +kernel
theorem d_Mod_local_39 : decode b_Mod_local 39 = .ok (.iaload, 1) := by decide +kernel
theorem d_Mod_local_40 : decode b_Mod_local 40 = .ok (.ireturn, 1) := by decide +kernel
abbrev y_Mod_out : MethodName := ⟨"FusedEngineModel", "out", "(ZI)I"⟩
abbrev b_Mod_out : ByteArray := prog_6_method_34_code
theorem d_Mod_out_0 : decode b_Mod_out 0 = .ok (.iload_n 1, 1) := by decide +kernel
theorem d_Mod_out_1 : decode b_Mod_out 1 = .ok (.ifCond .eq 7, 3) := by decide +kernel
theorem d_Mod_out_4 : decode b_Mod_out 4 = .ok (.iconst 1, 1) := by decide +kernel
theorem d_Mod_out_5 : decode b_Mod_out 5 = .ok (.goto 4, 3) := by decide +kernel
theorem d_Mod_out_8 : decode b_Mod_out 8 = .ok (.iconst 0, 1) := by decide +kernel
theorem d_Mod_out_9 : decode b_Mod_out 9 = .ok (.istore_n 3, 1) := by decide +kernel
theorem d_Mod_out_10 : decode b_Mod_out 10 = .ok (.iload_n 2, 1) := by decide +kernel
theorem d_Mod_out_11 : decode b_Mod_out 11 = .ok (.iconst 0, 1) := by decide +kernel
theorem d_Mod_out_12 : decode b_Mod_out 12 = .ok (.aload_n 0, 1) := by decide +kernel
theorem d_Mod_out_13 : decode b_Mod_out 13 = .ok (.getfield 32, 3) := by decide +kernel
theorem d_Mod_out_16 : decode b_Mod_out 16 = .ok (.iload_n 3, 1) := by decide +kernel
theorem d_Mod_out_17 : decode b_Mod_out 17 = .ok (.iaload, 1) := by decide +kernel
theorem d_Mod_out_18 : decode b_Mod_out 18 = .ok (.iconst 1, 1) := by decide +kernel
theorem d_Mod_out_19 : decode b_Mod_out 19 = .ok (.isub, 1) := by decide +kernel
theorem d_Mod_out_20 : decode b_Mod_out 20 = .ok (.invokestatic 64, 3) := by decide +kernel
theorem d_Mod_out_23 : decode b_Mod_out 23 = .ok (.ifCond .ne 9, 3) := by decide +kernel
theorem d_Mod_out_26 : decode b_Mod_out 26 = .ok (.iload_n 2, 1) := by decide +kernel
theorem d_Mod_out_27 : decode b_Mod_out 27 = .ok (.bipush 59, 2) := by decide +kernel
theorem d_Mod_out_29 : decode b_Mod_out 29 = .ok (.if_icmp .le 9, 3) := by decide +kernel
theorem d_Mod_out_32 : decode b_Mod_out 32 = .ok (.aload_n 0, 1) := by decide +kernel
theorem d_Mod_out_33 : decode b_Mod_out 33 = .ok (.iconst 1, 1) := by decide +kernel
theorem d_Mod_out_34 : decode b_Mod_out 34 = .ok (.invokevirtual 103, 3) := by decide +kernel
theorem d_Mod_out_37 : decode b_Mod_out 37 = .ok (.ireturn, 1) := by decide +kernel
theorem d_Mod_out_38 : decode b_Mod_out 38 = .ok (.aload_n 0, 1) := by decide +kernel
theorem d_Mod_out_39 : decode b_Mod_out 39 = .ok (.iconst 0, 1) := by decide +kernel
theorem d_Mod_out_40 : decode b_Mod_out 40 = .ok (.putfield 53, 3) := by decide +kernel
theorem d_Mod_out_43 : decode b_Mod_out 43 = .ok (.aload_n 0, 1) := by decide +kernel
theorem d_Mod_out_44 : decode b_Mod_out 44 = .ok (.getfield 50, 3) := by decide +kernel
theorem d_Mod_out_47 : decode b_Mod_out 47 = .ok (.bipush 60, 2) := by decide +kernel
theorem d_Mod_out_49 : decode b_Mod_out 49 = .ok (.iload_n 3, 1) := by decide +kernel
theorem d_Mod_out_50 : decode b_Mod_out 50 = .ok (.imul, 1) := by decide +kernel
theorem d_Mod_out_51 : decode b_Mod_out 51 = .ok (.iload_n 2, 1) := by decide +kernel
theorem d_Mod_out_52 : decode b_Mod_out 52 = .ok (.iadd, 1) := by decide +kernel
theorem d_Mod_out_53 : decode b_Mod_out 53 = .ok (.iaload, 1) := by decide +kernel
theorem d_Mod_out_54 : decode b_Mod_out 54 = .ok (.ireturn, 1) := by decide +kernel
end
section
/-! CALL SITES: the words of each call (the callee's code, its class, the link) -/
theorem kw_Eng_26 : kWd ⟨"FusedEngine$Program", "allows", "(II)Z"⟩ prog_3_method_2_code 3 (some FieldType.boolean) "FusedEngine" 26 2 := ⟨tw1_183, tw1_2, ⟨by decide, by decide⟩, by decide +kernel, tw1_181⟩
theorem kw_Eng_46 : kWd ⟨"FusedEngine$Program", "append", "(II)I"⟩ prog_3_method_4_code 4 (some FieldType.int) "FusedEngine" 46 2 := ⟨tw2_80, tw1_2, ⟨by decide, by decide⟩, by decide +kernel, tw2_77⟩
theorem kw_Eng_50 : kWd ⟨"FusedEngine", "beginBoth", "()V"⟩ prog_1_method_14_code 1 none "FusedEngine" 50 0 := ⟨tw1_123, tw1_1, ⟨by decide, by decide⟩, by decide +kernel, tw1_120⟩
theorem kw_Eng_53 : kWd ⟨"FusedEngine$Program", "has", "(I)Z"⟩ prog_3_method_3_code 2 (some FieldType.boolean) "FusedEngine" 53 1 := ⟨tw2_96, tw1_2, ⟨by decide, by decide⟩, by decide +kernel, tw2_105⟩
theorem kw_Eng_62 : kWd ⟨"FusedEngine$Program", "replace", "(III)V"⟩ prog_3_method_5_code 4 none "FusedEngine" 62 3 := ⟨tw2_84, tw1_2, ⟨by decide, by decide⟩, by decide +kernel, tw2_122⟩
theorem kw_Eng_66 : kWd ⟨"FusedEngine$Program", "removeAll", "()V"⟩ prog_3_method_6_code 1 none "FusedEngine" 66 0 := ⟨tw1_119, tw1_2, ⟨by decide, by decide⟩, by decide +kernel, tw1_116⟩
theorem kw_Eng_69 : kWd ⟨"FusedEngine$Program", "fuseRows", "()I"⟩ prog_3_method_10_code 5 (some FieldType.int) "FusedEngine" 69 0 := ⟨tw1_138, tw1_2, ⟨by decide, by decide⟩, by decide +kernel, tw1_135⟩
theorem kw_Eng_81 : kWd ⟨"FusedEngine$Program", "factOf", "(II)I"⟩ prog_3_method_7_code 3 (some FieldType.int) "FusedEngine" 81 2 := ⟨tw2_135, tw1_2, ⟨by decide, by decide⟩, by decide +kernel, tw2_132⟩
theorem kw_Eng_84 : kWd ⟨"FusedEngine", "machineOf", "(Z)LFusedEngine$Machine;"⟩ prog_1_method_13_code 2 (some (FieldType.object "FusedEngine$Machine")) "FusedEngine" 84 1 := ⟨tw1_167, tw1_1, ⟨by decide, by decide⟩, by decide +kernel, tw1_164⟩
theorem kw_Eng_88 : kWd ⟨"FusedEngine$Machine", "goOn", "(LFusedEngine$Program;ZI)I"⟩ prog_2_method_5_code 6 (some FieldType.int) "FusedEngine" 88 3 := ⟨tw2_146, tw1_3, ⟨by decide, by decide⟩, by decide +kernel, tw2_143⟩
theorem kw_Eng_92 : kWd ⟨"FusedEngine$Machine", "factOf", "(I)I"⟩ prog_2_method_4_code 2 (some FieldType.int) "FusedEngine" 92 1 := ⟨tw1_171, tw1_3, ⟨by decide, by decide⟩, by decide +kernel, tw1_168⟩
theorem kw_Eng_109 : kWd ⟨"FusedEngine$Machine", "keptOutputs", "()I"⟩ prog_2_method_3_code 1 (some FieldType.int) "FusedEngine" 109 0 := ⟨tw2_218, tw1_3, ⟨by decide, by decide⟩, by decide +kernel, tw2_215⟩
theorem kw_Eng_117 : kWd ⟨"FusedEngine$Machine", "begin", "()V"⟩ prog_2_method_2_code 1 none "FusedEngine" 117 0 := ⟨tw1_127, tw1_3, ⟨by decide, by decide⟩, by decide +kernel, tw1_124⟩
theorem kw_Mac_24 : kWd ⟨"java/util/Arrays", "fill", "([II)V"⟩ prog_16_method_103_code 4 none "FusedEngine$Machine" 24 2 := ⟨tw1_130, tw1_14, ⟨by decide, by decide⟩, by decide +kernel, tw1_128⟩
theorem kw_Mac_49 : kWd ⟨"java/lang/Math", "min", "(II)I"⟩ prog_10_method_69_code 2 (some FieldType.int) "FusedEngine$Machine" 49 2 := ⟨tw2_149, tw1_17, ⟨by decide, by decide⟩, by decide +kernel, tw2_147⟩
theorem kw_Mac_55 : kWd ⟨"FusedEngine$Program", "has", "(I)Z"⟩ prog_3_method_3_code 2 (some FieldType.boolean) "FusedEngine$Machine" 55 1 := ⟨tw2_96, tw1_2, ⟨by decide, by decide⟩, by decide +kernel, tw2_150⟩
theorem kw_Mac_64 : kWd ⟨"FusedEngine$Machine", "doRow", "(LFusedEngine$Program;I)V"⟩ prog_2_method_6_code 6 none "FusedEngine$Machine" 64 2 := ⟨tw2_154, tw1_3, ⟨by decide, by decide⟩, by decide +kernel, tw2_151⟩
theorem kw_Mac_71 : kWd ⟨"FusedEngine$Machine", "trapOf", "(I)I"⟩ prog_2_method_7_code 2 (some FieldType.int) "FusedEngine$Machine" 71 1 := ⟨tw2_158, tw1_3, ⟨by decide, by decide⟩, by decide +kernel, tw2_155⟩
theorem kw_Mac_78 : kWd ⟨"FusedEngine$Machine", "act", "(II)V"⟩ prog_2_method_10_code 4 none "FusedEngine$Machine" 78 2 := ⟨tw2_168, tw1_3, ⟨by decide, by decide⟩, by decide +kernel, tw2_165⟩
theorem kw_Mac_82 : kWd ⟨"FusedEngine$Machine", "neededValues", "(I)I"⟩ prog_2_method_8_code 1 (some FieldType.int) "FusedEngine$Machine" 82 1 := ⟨tw2_161, tw1_3, ⟨by decide, by decide⟩, by decide +kernel, tw2_159⟩
theorem kw_Mac_85 : kWd ⟨"FusedEngine$Machine", "putsOneMore", "(I)Z"⟩ prog_2_method_9_code 1 (some FieldType.boolean) "FusedEngine$Machine" 85 1 := ⟨tw2_164, tw1_3, ⟨by decide, by decide⟩, by decide +kernel, tw2_162⟩
theorem kw_Mac_88 : kWd ⟨"FusedEngine$Machine", "push", "(I)V"⟩ prog_2_method_11_code 2 none "FusedEngine$Machine" 88 1 := ⟨tw2_172, tw1_3, ⟨by decide, by decide⟩, by decide +kernel, tw2_169⟩
theorem kw_Mac_92 : kWd ⟨"FusedEngine$Machine", "pop", "()I"⟩ prog_2_method_12_code 1 (some FieldType.int) "FusedEngine$Machine" 92 0 := ⟨tw2_176, tw1_3, ⟨by decide, by decide⟩, by decide +kernel, tw2_173⟩
theorem kw_Mac_96 : kWd ⟨"FusedEngine$Machine", "exchange", "()V"⟩ prog_2_method_13_code 2 none "FusedEngine$Machine" 96 0 := ⟨tw2_180, tw1_3, ⟨by decide, by decide⟩, by decide +kernel, tw2_177⟩
theorem kw_Mac_99 : kWd ⟨"FusedEngine$Machine", "putOut", "(I)V"⟩ prog_2_method_14_code 2 none "FusedEngine$Machine" 99 1 := ⟨tw2_184, tw1_3, ⟨by decide, by decide⟩, by decide +kernel, tw2_181⟩
theorem kw_Mac_102 : kWd ⟨"FusedEngine$Machine", "combine", "(I)V"⟩ prog_2_method_15_code 4 none "FusedEngine$Machine" 102 1 := ⟨tw2_188, tw1_3, ⟨by decide, by decide⟩, by decide +kernel, tw2_185⟩
theorem kw_Mac_105 : kWd ⟨"FusedEngine$Machine", "resultOf", "(III)I"⟩ prog_2_method_16_code 3 (some FieldType.int) "FusedEngine$Machine" 105 3 := ⟨tw2_191, tw1_3, ⟨by decide, by decide⟩, by decide +kernel, tw2_189⟩
theorem kw_Prg_32 : kWd ⟨"java/lang/String", "length", "()I"⟩ prog_12_method_54_code 1 (some FieldType.int) "FusedEngine$Program" 32 0 := ⟨tw1_188, tw1_5, ⟨by decide, by decide⟩, by decide +kernel, tw1_185⟩
theorem kw_Prg_38 : kWd ⟨"java/lang/String", "charAt", "(I)C"⟩ prog_12_method_56_code 2 (some FieldType.char) "FusedEngine$Program" 38 1 := ⟨tw1_198, tw1_5, ⟨by decide, by decide⟩, by decide +kernel, tw1_195⟩
theorem kw_Prg_46 : kWd ⟨"FusedEngine$Program", "replace", "(III)V"⟩ prog_3_method_5_code 4 none "FusedEngine$Program" 46 3 := ⟨tw2_84, tw1_2, ⟨by decide, by decide⟩, by decide +kernel, tw2_81⟩
theorem kw_Prg_54 : kWd ⟨"FusedEngine$Program", "findTargets", "()V"⟩ prog_3_method_8_code 3 none "FusedEngine$Program" 54 0 := ⟨tw2_88, tw1_2, ⟨by decide, by decide⟩, by decide +kernel, tw2_85⟩
theorem kw_Prg_57 : kWd ⟨"FusedEngine$Program", "markTarget", "(I)V"⟩ prog_3_method_9_code 2 none "FusedEngine$Program" 57 1 := ⟨tw2_92, tw1_2, ⟨by decide, by decide⟩, by decide +kernel, tw2_89⟩
theorem kw_Prg_61 : kWd ⟨"FusedEngine$Program", "has", "(I)Z"⟩ prog_3_method_3_code 2 (some FieldType.boolean) "FusedEngine$Program" 61 1 := ⟨tw2_96, tw1_2, ⟨by decide, by decide⟩, by decide +kernel, tw2_93⟩
theorem kw_Prg_65 : kWd ⟨"FusedEngine$Program", "longestRowAt", "(I)I"⟩ prog_3_method_11_code 6 (some FieldType.int) "FusedEngine$Program" 65 1 := ⟨tw1_142, tw1_2, ⟨by decide, by decide⟩, by decide +kernel, tw1_139⟩
theorem kw_Prg_69 : kWd ⟨"FusedEngine$Rows", "lengthOf", "(I)I"⟩ prog_4_method_3_code 2 (some FieldType.int) "FusedEngine$Program" 69 1 := ⟨tw1_150, tw1_16, ⟨by decide, by decide⟩, by decide +kernel, tw1_148⟩
theorem kw_Prg_74 : kWd ⟨"FusedEngine$Rows", "letterOf", "(II)I"⟩ prog_4_method_2_code 2 (some FieldType.int) "FusedEngine$Program" 74 2 := ⟨tw1_145, tw1_16, ⟨by decide, by decide⟩, by decide +kernel, tw1_143⟩
theorem kw_Prg_78 : kWd ⟨"FusedEngine$Program", "isRowAt", "(III)Z"⟩ prog_3_method_12_code 5 (some FieldType.boolean) "FusedEngine$Program" 78 3 := ⟨tw1_155, tw1_2, ⟨by decide, by decide⟩, by decide +kernel, tw1_152⟩
theorem kw_Row_13 : kWd ⟨"FusedEngine$Rows", "letterOf", "(II)I"⟩ prog_4_method_2_code 2 (some FieldType.int) "FusedEngine$Rows" 13 2 := ⟨tw1_145, tw1_16, ⟨by decide, by decide⟩, by decide +kernel, tw1_151⟩
theorem kw_Mod_57 : kWd ⟨"FusedEngineModel", "isPlain", "(I)Z"⟩ prog_6_method_5_code 1 (some FieldType.boolean) "FusedEngineModel" 57 1 := ⟨tw3_55, tw1_4, ⟨by decide, by decide⟩, by decide +kernel, tw3_53⟩
theorem kw_Mod_61 : kWd ⟨"FusedEngineModel", "isLetter", "(I)Z"⟩ prog_6_method_6_code 1 (some FieldType.boolean) "FusedEngineModel" 61 1 := ⟨tw3_52, tw1_4, ⟨by decide, by decide⟩, by decide +kernel, tw3_50⟩
theorem kw_Mod_64 : kWd ⟨"FusedEngineModel", "outside", "(III)Z"⟩ prog_6_method_4_code 3 (some FieldType.boolean) "FusedEngineModel" 64 3 := ⟨tw3_58, tw1_4, ⟨by decide, by decide⟩, by decide +kernel, tw3_56⟩
theorem kw_Mod_72 : kWd ⟨"FusedEngineModel", "begin", "()V"⟩ prog_6_method_9_code 2 none "FusedEngineModel" 72 0 := ⟨tw3_66, tw1_4, ⟨by decide, by decide⟩, by decide +kernel, tw3_63⟩
theorem kw_Mod_75 : kWd ⟨"FusedEngineModel", "fits", "(II)Z"⟩ prog_6_method_8_code 2 (some FieldType.boolean) "FusedEngineModel" 75 2 := ⟨tw3_49, tw1_4, ⟨by decide, by decide⟩, by decide +kernel, tw3_47⟩
theorem kw_Mod_82 : kWd ⟨"FusedEngineModel", "set", "(III)V"⟩ prog_6_method_10_code 4 none "FusedEngineModel" 82 3 := ⟨tw3_62, tw1_4, ⟨by decide, by decide⟩, by decide +kernel, tw3_59⟩
theorem kw_Mod_86 : kWd ⟨"FusedEngineModel", "leads", "(I)Z"⟩ prog_6_method_7_code 1 (some FieldType.boolean) "FusedEngineModel" 86 1 := ⟨tw3_93, tw1_4, ⟨by decide, by decide⟩, by decide +kernel, tw3_91⟩
theorem kw_Mod_89 : kWd ⟨"FusedEngineModel", "target", "(I)Z"⟩ prog_6_method_14_code 4 (some FieldType.boolean) "FusedEngineModel" 89 1 := ⟨tw3_90, tw1_4, ⟨by decide, by decide⟩, by decide +kernel, tw3_87⟩
theorem kw_Mod_92 : kWd ⟨"FusedEngineModel", "alike", "(II)I"⟩ prog_6_method_16_code 4 (some FieldType.int) "FusedEngineModel" 92 2 := ⟨tw3_86, tw1_4, ⟨by decide, by decide⟩, by decide +kernel, tw3_83⟩
theorem kw_Mod_96 : kWd ⟨"FusedEngineModel", "lengthOf", "(I)I"⟩ prog_6_method_15_code 3 (some FieldType.int) "FusedEngineModel" 96 1 := ⟨tw3_97, tw1_4, ⟨by decide, by decide⟩, by decide +kernel, tw3_94⟩
theorem kw_Mod_100 : kWd ⟨"FusedEngineModel", "rowAt", "(I)I"⟩ prog_6_method_17_code 5 (some FieldType.int) "FusedEngineModel" 100 1 := ⟨tw3_82, tw1_4, ⟨by decide, by decide⟩, by decide +kernel, tw3_79⟩
theorem kw_Mod_103 : kWd ⟨"FusedEngineModel", "refuse", "(I)I"⟩ prog_6_method_3_code 2 (some FieldType.int) "FusedEngineModel" 103 1 := ⟨tw3_105, tw1_4, ⟨by decide, by decide⟩, by decide +kernel, tw3_102⟩
theorem kw_Mod_106 : kWd ⟨"FusedEngineModel", "takes", "(I)I"⟩ prog_6_method_20_code 2 (some FieldType.int) "FusedEngineModel" 106 1 := ⟨tw3_121, tw1_4, ⟨by decide, by decide⟩, by decide +kernel, tw3_118⟩
theorem kw_Mod_109 : kWd ⟨"FusedEngineModel", "pop", "(I)I"⟩ prog_6_method_23_code 2 (some FieldType.int) "FusedEngineModel" 109 1 := ⟨tw3_129, tw1_4, ⟨by decide, by decide⟩, by decide +kernel, tw3_126⟩
theorem kw_Mod_112 : kWd ⟨"FusedEngineModel", "reckon", "(III)I"⟩ prog_6_method_24_code 3 (some FieldType.int) "FusedEngineModel" 112 3 := ⟨tw3_132, tw1_4, ⟨by decide, by decide⟩, by decide +kernel, tw3_130⟩
theorem kw_Mod_116 : kWd ⟨"FusedEngineModel", "push", "(II)V"⟩ prog_6_method_22_code 3 none "FusedEngineModel" 116 2 := ⟨tw3_136, tw1_4, ⟨by decide, by decide⟩, by decide +kernel, tw3_133⟩
theorem kw_Mod_120 : kWd ⟨"FusedEngineModel", "say", "(II)V"⟩ prog_6_method_25_code 3 none "FusedEngineModel" 120 2 := ⟨tw3_140, tw1_4, ⟨by decide, by decide⟩, by decide +kernel, tw3_137⟩
theorem kw_Mod_123 : kWd ⟨"FusedEngineModel", "trap", "(II)I"⟩ prog_6_method_21_code 4 (some FieldType.int) "FusedEngineModel" 123 2 := ⟨tw3_117, tw1_4, ⟨by decide, by decide⟩, by decide +kernel, tw3_114⟩
theorem kw_Mod_126 : kWd ⟨"FusedEngineModel", "work", "(III)V"⟩ prog_6_method_27_code 6 none "FusedEngineModel" 126 3 := ⟨tw3_125, tw1_4, ⟨by decide, by decide⟩, by decide +kernel, tw3_122⟩
theorem kw_Mod_129 : kWd ⟨"FusedEngineModel", "next", "(III)I"⟩ prog_6_method_26_code 5 (some FieldType.int) "FusedEngineModel" 129 3 := ⟨tw3_144, tw1_4, ⟨by decide, by decide⟩, by decide +kernel, tw3_141⟩
theorem kw_Mod_132 : kWd ⟨"FusedEngineModel", "act", "(I)Z"⟩ prog_6_method_28_code 5 (some FieldType.boolean) "FusedEngineModel" 132 1 := ⟨tw3_113, tw1_4, ⟨by decide, by decide⟩, by decide +kernel, tw3_110⟩
theorem kw_Law_7 : kWd ⟨"FusedEngine", "add", "(II)I"⟩ prog_1_method_2_code 4 (some FieldType.int) "FusedEngineLaw" 7 2 := ⟨tw1_180, tw1_1, ⟨by decide, by decide⟩, by decide +kernel, tw1_177⟩
theorem kw_Law_17 : kWd ⟨"FusedEngine", "change", "(III)V"⟩ prog_1_method_3_code 4 none "FusedEngineLaw" 17 3 := ⟨tw2_104, tw1_1, ⟨by decide, by decide⟩, by decide +kernel, tw2_101⟩
theorem kw_Law_23 : kWd ⟨"FusedEngine", "look", "(II)I"⟩ prog_1_method_6_code 3 (some FieldType.int) "FusedEngineLaw" 23 2 := ⟨tw2_129, tw1_1, ⟨by decide, by decide⟩, by decide +kernel, tw2_126⟩
theorem kw_Law_26 : kWd ⟨"FusedEngine", "run", "(ZI)I"⟩ prog_1_method_7_code 3 (some FieldType.int) "FusedEngineLaw" 26 2 := ⟨tw2_142, tw1_1, ⟨by decide, by decide⟩, by decide +kernel, tw2_139⟩
theorem kw_Law_30 : kWd ⟨"FusedEngine", "stack", "(ZI)I"⟩ prog_1_method_10_code 4 (some FieldType.int) "FusedEngineLaw" 30 2 := ⟨tw2_198, tw1_1, ⟨by decide, by decide⟩, by decide +kernel, tw2_195⟩
theorem kw_Law_33 : kWd ⟨"FusedEngine", "local", "(ZI)I"⟩ prog_1_method_11_code 3 (some FieldType.int) "FusedEngineLaw" 33 2 := ⟨tw2_206, tw1_1, ⟨by decide, by decide⟩, by decide +kernel, tw2_203⟩
theorem kw_Law_36 : kWd ⟨"FusedEngine", "out", "(ZI)I"⟩ prog_1_method_12_code 4 (some FieldType.int) "FusedEngineLaw" 36 2 := ⟨tw2_214, tw1_1, ⟨by decide, by decide⟩, by decide +kernel, tw2_211⟩
theorem kw_Law_39 : kWd ⟨"FusedEngine", "<init>", "()V"⟩ prog_1_method_1_code 1 none "FusedEngineLaw" 39 0 := ⟨tw1_22, tw1_1, ⟨by decide, by decide⟩, by decide +kernel, tw1_20⟩
theorem kw_Law_42 : kWd ⟨"FusedEngineModel", "<init>", "()V"⟩ prog_6_method_1_code 1 none "FusedEngineLaw" 42 0 := ⟨tw2_224, tw1_4, ⟨by decide, by decide⟩, by decide +kernel, tw2_222⟩
theorem kw_Law_48 : kWd ⟨"FusedEngineModel", "add", "(II)I"⟩ prog_6_method_11_code 3 (some FieldType.int) "FusedEngineLaw" 48 2 := ⟨tw3_46, tw1_4, ⟨by decide, by decide⟩, by decide +kernel, tw3_43⟩
theorem kw_Law_49 : kWd ⟨"FusedEngineModel", "thrown", "()I"⟩ prog_6_method_2_code 1 (some FieldType.int) "FusedEngineLaw" 49 0 := ⟨tw3_42, tw1_4, ⟨by decide, by decide⟩, by decide +kernel, tw3_39⟩
theorem kw_Law_56 : kWd ⟨"FusedEngineModel", "change", "(III)V"⟩ prog_6_method_12_code 4 none "FusedEngineLaw" 56 3 := ⟨tw3_70, tw1_4, ⟨by decide, by decide⟩, by decide +kernel, tw3_67⟩
theorem kw_Law_57 : kWd ⟨"FusedEngine", "clear", "()V"⟩ prog_1_method_4_code 1 none "FusedEngineLaw" 57 0 := ⟨tw1_115, tw1_1, ⟨by decide, by decide⟩, by decide +kernel, tw1_112⟩
theorem kw_Law_60 : kWd ⟨"FusedEngineModel", "clear", "()V"⟩ prog_6_method_13_code 1 none "FusedEngineLaw" 60 0 := ⟨tw3_74, tw1_4, ⟨by decide, by decide⟩, by decide +kernel, tw3_71⟩
theorem kw_Law_61 : kWd ⟨"FusedEngine", "fuse", "()I"⟩ prog_1_method_5_code 2 (some FieldType.int) "FusedEngineLaw" 61 0 := ⟨tw1_134, tw1_1, ⟨by decide, by decide⟩, by decide +kernel, tw1_131⟩
theorem kw_Law_64 : kWd ⟨"FusedEngineModel", "fuse", "()I"⟩ prog_6_method_18_code 5 (some FieldType.int) "FusedEngineLaw" 64 0 := ⟨tw3_78, tw1_4, ⟨by decide, by decide⟩, by decide +kernel, tw3_75⟩
theorem kw_Law_67 : kWd ⟨"FusedEngineModel", "look", "(II)I"⟩ prog_6_method_19_code 3 (some FieldType.int) "FusedEngineLaw" 67 2 := ⟨tw3_101, tw1_4, ⟨by decide, by decide⟩, by decide +kernel, tw3_98⟩
theorem kw_Law_71 : kWd ⟨"FusedEngineModel", "run", "(ZI)I"⟩ prog_6_method_29_code 7 (some FieldType.int) "FusedEngineLaw" 71 2 := ⟨tw3_109, tw1_4, ⟨by decide, by decide⟩, by decide +kernel, tw3_106⟩
theorem kw_Law_72 : kWd ⟨"FusedEngine", "restart", "()V"⟩ prog_1_method_8_code 1 none "FusedEngineLaw" 72 0 := ⟨tw1_159, tw1_1, ⟨by decide, by decide⟩, by decide +kernel, tw1_156⟩
theorem kw_Law_75 : kWd ⟨"FusedEngineModel", "restart", "()V"⟩ prog_6_method_30_code 1 none "FusedEngineLaw" 75 0 := ⟨tw3_148, tw1_4, ⟨by decide, by decide⟩, by decide +kernel, tw3_145⟩
theorem kw_Law_76 : kWd ⟨"FusedEngine", "about", "(ZI)I"⟩ prog_1_method_9_code 3 (some FieldType.int) "FusedEngineLaw" 76 2 := ⟨tw1_163, tw1_1, ⟨by decide, by decide⟩, by decide +kernel, tw1_160⟩
theorem kw_Law_79 : kWd ⟨"FusedEngineModel", "about", "(ZI)I"⟩ prog_6_method_31_code 4 (some FieldType.int) "FusedEngineLaw" 79 2 := ⟨tw3_152, tw1_4, ⟨by decide, by decide⟩, by decide +kernel, tw3_149⟩
theorem kw_Law_82 : kWd ⟨"FusedEngineModel", "stack", "(ZI)I"⟩ prog_6_method_32_code 4 (some FieldType.int) "FusedEngineLaw" 82 2 := ⟨tw3_156, tw1_4, ⟨by decide, by decide⟩, by decide +kernel, tw3_153⟩
theorem kw_Law_85 : kWd ⟨"FusedEngineModel", "local", "(ZI)I"⟩ prog_6_method_33_code 3 (some FieldType.int) "FusedEngineLaw" 85 2 := ⟨tw3_160, tw1_4, ⟨by decide, by decide⟩, by decide +kernel, tw3_157⟩
theorem kw_Law_88 : kWd ⟨"FusedEngineModel", "out", "(ZI)I"⟩ prog_6_method_34_code 4 (some FieldType.int) "FusedEngineLaw" 88 2 := ⟨tw3_164, tw1_4, ⟨by decide, by decide⟩, by decide +kernel, tw3_161⟩
end
section
/-! BASE, second: loops; static calls that turn cells -/
section KW
variable {p : Program} {l : Launch} {e : Env} {R : Room} {s : State} {m : MethodId} {args : Array Value} {below : List Frame} {meth : Method} {c : Code} {H H0 : Heap} {locs : List Loc} {cells slots : Nat} {Q : State → Prop} {cc : ByteArray} {pc : Nat} {ls : Array Slot} {rest st : List Value} {own : String} {nL : Nat} {A0 : Nat → Prop}
/-- a loop: a measure f that falls, a state x, at its head pc -/
theorem k_while {σ : Type} (I : Nat → σ → Heap → List Loc → Array Slot → Prop)
    (step : ∀ (f : Nat) (x : σ) (H : Heap) (locs : List Loc) (ls : Array Slot), I f x H locs ls → (∀ (f' : Nat) (x' : σ) (H' : Heap) (locs' : List Loc) (ls' : Array Slot), f' < f → I f' x' H' locs' ls' → W p l e R s m args below meth c H' locs' cells slots Q (F0 m pc ls' st)) → W p l e R s m args below meth c H locs cells slots Q (F0 m pc ls st))
    (f : Nat) (x : σ) (h : I f x H locs ls) : W p l e R s m args below meth c H locs cells slots Q (F0 m pc ls st) := by
  have key : ∀ (n f : Nat), f < n → ∀ (x : σ) (H : Heap) (locs : List Loc) (ls : Array Slot), I f x H locs ls → W p l e R s m args below meth c H locs cells slots Q (F0 m pc ls st) := by
    intro n
    induction n with
    | zero => intro f hf; exact absurd hf (Nat.not_lt_zero f)
    | succ n ih => intro f hf x H locs ls hI; exact step f x H locs ls hI (fun f' x' H' locs' ls' hlt hI' => ih f' (by omega) x' H' locs' ls' hI')
  exact key (f + 1) f (Nat.lt_succ_self f) x H locs ls h
/-- invokestatic of a void method that turns the cells w (of ws: at isC; the rest of ws, at isR, is wr) into w1 -/
theorem km_Sv (F : CallFix p m c cc nL s args lw_ok own) {y : MethodName} {b : ByteArray} {n : Nat} {fr lo index k : Nat} {As : List Value} {X : State → Prop} {D : va_G} {ws w wr w1 : va_W} (hM : kMv l y b n fr lo As H X D w w1) (hm : kXm X) (hX : X s) (hw : kWd y b n none own index k) (hst : Cond.static y ∈ lw_ok)
    (hP : va_P D classes ws H) (hD : va_D A0 ws) (hS : va_S A0 H0 H locs) (hA : ∀ q, H0.size ≤ q → A0 q)
    (isC isR : List Nat) (hC : isC.map (fun i => ws[i]?) = w.map some) (hRr : isR.map (fun i => ws[i]?) = wr.map some) (hn : va_nd isR = true) (hdis : ∀ i ∈ isR, i ∉ isC)
    (hd : decode cc pc = .ok (.invokestatic index, 3)) (hR : (fr + 1 ≤ R.frames ∧ 8 + (n + 11) + lo ≤ R.locals) ∧ cells ≤ R.cells ∧ slots ≤ R.slots) (hk : As.length = k) (hz : ls.size = nL) (hs : st = As.reverse ++ rest) (hr : (rest.map fun v => v.category).sum ≤ 8)
    (kk : ∀ (H1 : Heap) (locs1 : List Loc), va_P D classes (wr ++ w1) H1 → va_D A0 (wr ++ w1) → va_S A0 H0 H1 locs1 → W p l e R s m args below meth c H1 locs1 cells slots Q (F0 m (pc + 3) ls rest)) : W p l e R s m args below meth c H locs cells slots Q (F0 m pc ls st) := by
  subst hs
  have hF := va_free (wc := w) hD hS hA isC hC
  refine va_callv (va_runS F hM ⟨k_B F.2.2.2.2 hw hR.1, F.2.2.2.2 _ hst⟩ ⟨k_blind hm, fun U hU hW => ⟨rfl, hU, hm _ _ hW hX⟩⟩ rfl hk hz rfl (lv_room hr) hd hR.2) hS (fun q _ h => hF q h) hF (fun u t H1 locs1 ht hvm hp hB hz1 hk1 hS1 => ?_)
  obtain ⟨hP1, hD1⟩ := hB
  rw [ht] at hP1
  obtain ⟨hP2, hD2⟩ := va_join hP hD isC isR hC hRr hn hdis hk1 hF hP1 hD1
  exact kk H1 locs1 hP2 hD2 hS1
end KW
/-- Arrays.fill, and the least of two -/
def fillF (f : Nat → Int32) (v : Int32) : Nat → Nat → Int32
  | 0 => f
  | i + 1 => upd (fillF f v i) i v
def sMin (x y : Int32) : Int32 := if y < x then y else x
/-- row 1 of a machine is filled with zeros -/
def sZero (M : vSt) : vSt := fun i => if i = 1 then fillF (M 1) 0 8 else M i
def sBegin (M : vSt) : vSt := u2 (u2 (u2 (u2 (u2 (u2 (sZero M) 4 0 0) 4 1 0) 4 2 0) 4 3 0) 4 4 0) 4 5 0
/-- what 'about' tells -/
def sFact (M : vSt) (w : Int32) : Int32 := if w = 0 then M 4 3 else if w = 1 then M 4 0 else if w = 2 then M 4 1 else if w = 3 then M 4 2 else if w = 4 then M 4 4 else if w = 5 then M 4 5 else -1
/-- one letter; a row of letters; the steps of a run -/
def sStep (G M : vSt) : vSt := if sTrap M (G 0 (M 4 3).toNatClampNeg) = 0 then sAct (u2 M 4 5 (M 4 5 + 1)) (G 0 (M 4 3).toNatClampNeg) (G 1 (M 4 3).toNatClampNeg) else u2 M 4 4 (sTrap M (G 0 (M 4 3).toNatClampNeg))
def sRow (G : vSt) : Nat → vSt → vSt
  | 0, M => M
  | j + 1, M => if M 4 4 = 0 then sRow G j (sStep G M) else M
def sHas (G : vSt) (q : Int32) : Int32 := if 0 ≤ q ∧ q < G 5 0 then 1 else 0
/-- what a row of letters needs: its places lie in the program, its letters are letters -/
def rowOk (G : vSt) : Nat → vSt → Prop
  | 0, _ => True
  | j + 1, M => M 4 4 = 0 → vp_in (M 4 3) 80 ∧ okC (G 0 (M 4 3).toNatClampNeg) ∧ (G 0 (M 4 3).toNatClampNeg = 76 ∨ G 0 (M 4 3).toNatClampNeg = 83 → vp_in (G 1 (M 4 3).toNatClampNeg) 8) ∧ mOk M ∧ rowOk G j (sStep G M)
theorem mOk_done {M : vSt} (h : mOk M) (v : Int32) : mOk (u2 M 4 5 v) := h
theorem sTrap_done {M : vSt} {c : Int32} (v : Int32) (h : sTrap M c = 0) : sTrap (u2 M 4 5 v) c = 0 := h
/-- how many letters a step takes, the steps of a run, a run's machine and its answer -/
def sLen (G : vSt) (z q : Int32) : Nat := if z = 0 then 1 else (G 4 q.toNatClampNeg).toNatClampNeg
def sGoL (G : vSt) (z : Int32) : Nat → vSt → vSt × Nat
  | 0, M => (M, 0)
  | f + 1, M => if M 4 4 = 0 then (if sHas G (M 4 3) = 0 then (M, 0) else ((sGoL G z f (sRow G (sLen G z (M 4 3)) M)).1, (sGoL G z f (sRow G (sLen G z (M 4 3)) M)).2 + 1)) else (M, 0)
def sMost (n : Int32) : Nat := (sMin n 3000).toNatClampNeg
def sRunR (G M : vSt) (z n : Int32) : Int32 := nI (sGoL G z (sMost n) M).2
def sRunM (G M : vSt) (z n : Int32) : vSt := if sMin n 3000 ≤ nI (sGoL G z (sMost n) M).2 then (sGoL G z (sMost n) M).1 else if (sGoL G z (sMost n) M).1 4 4 = 0 then u2 (sGoL G z (sMost n) M).1 4 4 4 else (sGoL G z (sMost n) M).1
/-- what a run needs of its steps -/
def runOk (G : vSt) (z : Int32) : Nat → vSt → Prop
  | 0, _ => True
  | f + 1, M => M 4 4 = 0 → ¬ sHas G (M 4 3) = 0 → vp_in (M 4 3) 80 ∧ (¬ z = 0 → ∃ j : Nat, j ≤ 4 ∧ G 4 (M 4 3).toNatClampNeg = nI j) ∧ rowOk G (sLen G z (M 4 3)) M ∧ runOk G z f (sRow G (sLen G z (M 4 3)) M)
theorem sMost_le (n : Int32) : sMost n ≤ 3000 := by
  have h : (sMin n 3000).toInt ≤ 3000 := by
    unfold sMin
    by_cases h : (3000 : Int32) < n
    · rw [if_pos h]; decide
    · rw [if_neg h]
      have := mt Int32.lt_iff_toInt_lt.mpr h
      have e : (3000 : Int32).toInt = 3000 := by decide
      omega
  show (sMin n 3000).toInt.toNat ≤ 3000
  omega
theorem sMost_iff (n : Int32) {i : Nat} (hi : i ≤ 3000) : sMin n 3000 ≤ nI i ↔ sMost n ≤ i := by
  rw [Int32.le_iff_toInt_le, nI_toInt (by omega)]
  show _ ↔ (sMin n 3000).toInt.toNat ≤ i
  omega
end
section
set_option maxRecDepth 100000 in
set_option maxHeartbeats 4000000 in
theorem c_Mac_push (l : Launch) (Dg : va_G) (a : Nat → Nat) (k : Nat → ClassId) (M : vSt) (v : Int32) (H : Heap) (hP : va_P Dg classes (wM a k M) H) (hD : va_D (fun _ => True) (wM a k M)) (h0 : vp_in (M 4 0) 40) : kMv l y_Mac_push b_Mac_push 2 0 0 [.ref (a 0), .int v] H (va_K Dg classes (kTy k)) Dg (wM a k M) (wM a k (sPush M v)) := by
  refine k_of (by decide) (Nat.le_of_ble_eq_true rfl) ?_
  intro p e s m below meth cd ls F hlocks hret hname hh hX hl
  subst hh
  obtain ⟨hx, hb, hml, hown, hT⟩ := id F
  have hK : va_K Dg classes (kTy k) s := hX
  have hA : ∀ q : Nat, s.heap.size ≤ q → va_A (wM a k M) s.heap.size q := fun q h => Or.inr h
  have hD := hD.self (sz := s.heap.size)
  have hS : va_S (va_A (wM a k M) s.heap.size) s.heap s.heap [] := va_S.rf
  have hl : lv_has ls 2 [(0, .ref (a 0)), (1, .int v)] := hl
  refine lv_aload_n hx hb d_Mac_push_0 rfl (lv_at hl 0 rfl) ?_
  refine va_get (D := Dg) (ci := 1) (v := .ref (a 1)) (C := R_Mac) (T := F_Mac) (N := 10) hx hb hT in_Mac hown hK hP 0 rfl rfl 0 (by decide) (hT _ tw1_67) (fun _ h9 => h9) rfl d_Mac_push_1 ?_
  refine lv_aload_n hx hb d_Mac_push_4 rfl (lv_at hl 0 rfl) ?_
  refine va_get (D := Dg) (ci := 1) (v := .int (M 4 0)) (C := R_Mac) (T := F_Mac) (N := 10) hx hb hT in_Mac hown hK hP 0 rfl rfl 4 (by decide) (hT _ tw1_74) (fun _ h9 => h9) rfl d_Mac_push_5 ?_
  refine lv_iload_n hx hb d_Mac_push_8 rfl (lv_at hl 1 rfl) ?_
  refine va_iast hx hb hK hP hD hS 1 0 rfl rfl h0 d_Mac_push_9 (fun H locs hP hD hS => ?_)
  have hP : va_P Dg classes (wM a k (u2 M 0 (M 4 0).toNatClampNeg v)) H := hP
  have hD : va_D (va_A (wM a k M) s.heap.size) (wM a k (u2 M 0 (M 4 0).toNatClampNeg v)) := hD
  obtain ⟨Ms1, hMs1⟩ : ∃ z, z = (u2 M 0 (M 4 0).toNatClampNeg v) := ⟨_, rfl⟩
  rw [← hMs1] at hP hD
  refine lv_aload_n hx hb d_Mac_push_10 rfl (lv_at hl 0 rfl) ?_
  refine lv_dup hx hb d_Mac_push_11 rfl ?_
  refine va_get (D := Dg) (ci := 1) (v := .int (M 4 0)) (C := R_Mac) (T := F_Mac) (N := 10) hx hb hT in_Mac hown hK hP 0 rfl rfl 4 (by decide) (hT _ tw1_74) (fun _ h9 => h9) (by rw [hMs1]; rfl) d_Mac_push_12 ?_
  refine lv_iconst (v := 1) hx hb d_Mac_push_15 (by decide) ?_
  refine lv_iadd hx hb d_Mac_push_16 ?_
  refine va_put (D := Dg) (ci := 1) (v := .int ((M 4 0) + 1)) (ty := .int) (C := R_Mac) (T := F_Mac) (N := 10) hx hb hT in_Mac t_Mac t_Mac_ok n_Mac hown hK hP hD hS 0 rfl rfl 4 (by decide) (hT _ tw1_74) (fun _ h9 => h9) rfl (by decide +kernel) rfl rfl (Nat.le_of_ble_eq_true rfl) d_Mac_push_17 (fun H locs hP hD hS => ?_)
  have hP : va_P Dg classes (wM a k (u2 Ms1 4 0 ((M 4 0) + 1))) H := hP
  have hD : va_D (va_A (wM a k M) s.heap.size) (wM a k (u2 Ms1 4 0 ((M 4 0) + 1))) := hD
  obtain ⟨Ms2, hMs2⟩ : ∃ z, z = (u2 Ms1 4 0 ((M 4 0) + 1)) := ⟨_, rfl⟩
  rw [← hMs2] at hP hD
  exact km_v F hlocks hret hP hD hS d_Mac_push_20 (by subst hMs2 hMs1; rfl)

set_option maxRecDepth 100000 in
set_option maxHeartbeats 4000000 in
theorem c_Mac_pop (l : Launch) (Dg : va_G) (a : Nat → Nat) (k : Nat → ClassId) (M : vSt) (H : Heap) (hP : va_P Dg classes (wM a k M) H) (hD : va_D (fun _ => True) (wM a k M)) (h0 : vp_in (M 4 0 - 1) 40) : kMi l y_Mac_pop b_Mac_pop 1 (some FieldType.int) 0 0 [.ref (a 0)] H (va_K Dg classes (kTy k)) Dg (wM a k M) (wM a k (sPop M)) (sTop M) := by
  refine k_of (by decide) (Nat.le_of_ble_eq_true rfl) ?_
  intro p e s m below meth cd ls F hlocks hret hname hh hX hl
  subst hh
  obtain ⟨hx, hb, hml, hown, hT⟩ := id F
  have hK : va_K Dg classes (kTy k) s := hX
  have hA : ∀ q : Nat, s.heap.size ≤ q → va_A (wM a k M) s.heap.size q := fun q h => Or.inr h
  have hD := hD.self (sz := s.heap.size)
  have hS : va_S (va_A (wM a k M) s.heap.size) s.heap s.heap [] := va_S.rf
  have hl : lv_has ls 1 [(0, .ref (a 0))] := hl
  refine lv_aload_n hx hb d_Mac_pop_0 rfl (lv_at hl 0 rfl) ?_
  refine lv_dup hx hb d_Mac_pop_1 rfl ?_
  refine va_get (D := Dg) (ci := 1) (v := .int (M 4 0)) (C := R_Mac) (T := F_Mac) (N := 10) hx hb hT in_Mac hown hK hP 0 rfl rfl 4 (by decide) (hT _ tw1_74) (fun _ h9 => h9) rfl d_Mac_pop_2 ?_
  refine lv_iconst (v := 1) hx hb d_Mac_pop_5 (by decide) ?_
  refine lv_isub hx hb d_Mac_pop_6 ?_
  refine va_put (D := Dg) (ci := 1) (v := .int ((M 4 0) - 1)) (ty := .int) (C := R_Mac) (T := F_Mac) (N := 10) hx hb hT in_Mac t_Mac t_Mac_ok n_Mac hown hK hP hD hS 0 rfl rfl 4 (by decide) (hT _ tw1_74) (fun _ h9 => h9) rfl (by decide +kernel) rfl rfl (Nat.le_of_ble_eq_true rfl) d_Mac_pop_7 (fun H locs hP hD hS => ?_)
  have hP : va_P Dg classes (wM a k (u2 M 4 0 ((M 4 0) - 1))) H := hP
  have hD : va_D (va_A (wM a k M) s.heap.size) (wM a k (u2 M 4 0 ((M 4 0) - 1))) := hD
  obtain ⟨Ms1, hMs1⟩ : ∃ z, z = (u2 M 4 0 ((M 4 0) - 1)) := ⟨_, rfl⟩
  rw [← hMs1] at hP hD
  refine lv_aload_n hx hb d_Mac_pop_10 rfl (lv_at hl 0 rfl) ?_
  refine va_get (D := Dg) (ci := 1) (v := .ref (a 1)) (C := R_Mac) (T := F_Mac) (N := 10) hx hb hT in_Mac hown hK hP 0 rfl rfl 0 (by decide) (hT _ tw1_67) (fun _ h9 => h9) rfl d_Mac_pop_11 ?_
  refine lv_aload_n hx hb d_Mac_pop_14 rfl (lv_at hl 0 rfl) ?_
  refine va_get (D := Dg) (ci := 1) (v := .int ((M 4 0) - 1)) (C := R_Mac) (T := F_Mac) (N := 10) hx hb hT in_Mac hown hK hP 0 rfl rfl 4 (by decide) (hT _ tw1_74) (fun _ h9 => h9) (by rw [hMs1]; rfl) d_Mac_pop_15 ?_
  refine va_iald (f := (M 0)) hx hb hK hP 1 0 (by rw [hMs1]; rfl) rfl h0 d_Mac_pop_18 ?_
  exact km_i F hlocks hret hP hD hS d_Mac_pop_19 rfl (by subst hMs1; rfl)

set_option maxRecDepth 100000 in
set_option maxHeartbeats 4000000 in
theorem c_Mac_exchange (l : Launch) (Dg : va_G) (a : Nat → Nat) (k : Nat → ClassId) (M : vSt) (H : Heap) (hP : va_P Dg classes (wM a k M) H) (hD : va_D (fun _ => True) (wM a k M)) (h1 : vp_in (M 4 0 - 1) 40) (h2 : vp_in (M 4 0 - 2) 40) : kMv l y_Mac_exchange b_Mac_exchange 2 0 0 [.ref (a 0)] H (va_K Dg classes (kTy k)) Dg (wM a k M) (wM a k (sExch M)) := by
  refine k_of (by decide) (Nat.le_of_ble_eq_true rfl) ?_
  intro p e s m below meth cd ls F hlocks hret hname hh hX hl
  subst hh
  obtain ⟨hx, hb, hml, hown, hT⟩ := id F
  have hK : va_K Dg classes (kTy k) s := hX
  have hA : ∀ q : Nat, s.heap.size ≤ q → va_A (wM a k M) s.heap.size q := fun q h => Or.inr h
  have hD := hD.self (sz := s.heap.size)
  have hS : va_S (va_A (wM a k M) s.heap.size) s.heap s.heap [] := va_S.rf
  have hl : lv_has ls 2 [(0, .ref (a 0))] := hl
  refine lv_aload_n hx hb d_Mac_exchange_0 rfl (lv_at hl 0 rfl) ?_
  refine va_get (D := Dg) (ci := 1) (v := .ref (a 1)) (C := R_Mac) (T := F_Mac) (N := 10) hx hb hT in_Mac hown hK hP 0 rfl rfl 0 (by decide) (hT _ tw1_67) (fun _ h9 => h9) rfl d_Mac_exchange_1 ?_
  refine lv_aload_n hx hb d_Mac_exchange_4 rfl (lv_at hl 0 rfl) ?_
  refine va_get (D := Dg) (ci := 1) (v := .int (M 4 0)) (C := R_Mac) (T := F_Mac) (N := 10) hx hb hT in_Mac hown hK hP 0 rfl rfl 4 (by decide) (hT _ tw1_74) (fun _ h9 => h9) rfl d_Mac_exchange_5 ?_
  refine lv_iconst (v := 1) hx hb d_Mac_exchange_8 (by decide) ?_
  refine lv_isub hx hb d_Mac_exchange_9 ?_
  refine lv_topi (fun i9 e9 => ?_)
  refine va_iald (f := (M 0)) hx hb hK hP 1 0 rfl rfl (e9 ▸ h1) d_Mac_exchange_10 ?_
  refine lv_topi (fun i10 e10 => ?_)
  refine lv_istore_n hx hb d_Mac_exchange_11 rfl hl (by decide) rfl (fun ls hl => ?_)
  have hl : lv_has ls 2 [(1, .int i10), (0, .ref (a 0))] := hl
  refine lv_aload_n hx hb d_Mac_exchange_12 rfl (lv_at hl 1 rfl) ?_
  refine va_get (D := Dg) (ci := 1) (v := .ref (a 1)) (C := R_Mac) (T := F_Mac) (N := 10) hx hb hT in_Mac hown hK hP 0 rfl rfl 0 (by decide) (hT _ tw1_67) (fun _ h9 => h9) rfl d_Mac_exchange_13 ?_
  refine lv_aload_n hx hb d_Mac_exchange_16 rfl (lv_at hl 1 rfl) ?_
  refine va_get (D := Dg) (ci := 1) (v := .int (M 4 0)) (C := R_Mac) (T := F_Mac) (N := 10) hx hb hT in_Mac hown hK hP 0 rfl rfl 4 (by decide) (hT _ tw1_74) (fun _ h9 => h9) rfl d_Mac_exchange_17 ?_
  refine lv_iconst (v := 1) hx hb d_Mac_exchange_20 (by decide) ?_
  refine lv_isub hx hb d_Mac_exchange_21 ?_
  refine lv_topi (fun i21 e21 => ?_)
  refine lv_aload_n hx hb d_Mac_exchange_22 rfl (lv_at hl 1 rfl) ?_
  refine va_get (D := Dg) (ci := 1) (v := .ref (a 1)) (C := R_Mac) (T := F_Mac) (N := 10) hx hb hT in_Mac hown hK hP 0 rfl rfl 0 (by decide) (hT _ tw1_67) (fun _ h9 => h9) rfl d_Mac_exchange_23 ?_
  refine lv_aload_n hx hb d_Mac_exchange_26 rfl (lv_at hl 1 rfl) ?_
  refine va_get (D := Dg) (ci := 1) (v := .int (M 4 0)) (C := R_Mac) (T := F_Mac) (N := 10) hx hb hT in_Mac hown hK hP 0 rfl rfl 4 (by decide) (hT _ tw1_74) (fun _ h9 => h9) rfl d_Mac_exchange_27 ?_
  refine lv_iconst (v := 2) hx hb d_Mac_exchange_30 (by decide) ?_
  refine lv_isub hx hb d_Mac_exchange_31 ?_
  refine lv_topi (fun i31 e31 => ?_)
  refine va_iald (f := (M 0)) hx hb hK hP 1 0 rfl rfl (e31 ▸ h2) d_Mac_exchange_32 ?_
  refine lv_topi (fun i32 e32 => ?_)
  refine va_iast hx hb hK hP hD hS 1 0 rfl rfl (e21 ▸ h1) d_Mac_exchange_33 (fun H locs hP hD hS => ?_)
  have hP : va_P Dg classes (wM a k (u2 M 0 i21.toNatClampNeg i32)) H := hP
  have hD : va_D (va_A (wM a k M) s.heap.size) (wM a k (u2 M 0 i21.toNatClampNeg i32)) := hD
  obtain ⟨Ms1, hMs1⟩ : ∃ z, z = (u2 M 0 i21.toNatClampNeg i32) := ⟨_, rfl⟩
  rw [← hMs1] at hP hD
  refine lv_aload_n hx hb d_Mac_exchange_34 rfl (lv_at hl 1 rfl) ?_
  refine va_get (D := Dg) (ci := 1) (v := .ref (a 1)) (C := R_Mac) (T := F_Mac) (N := 10) hx hb hT in_Mac hown hK hP 0 rfl rfl 0 (by decide) (hT _ tw1_67) (fun _ h9 => h9) rfl d_Mac_exchange_35 ?_
  refine lv_aload_n hx hb d_Mac_exchange_38 rfl (lv_at hl 1 rfl) ?_
  refine va_get (D := Dg) (ci := 1) (v := .int (M 4 0)) (C := R_Mac) (T := F_Mac) (N := 10) hx hb hT in_Mac hown hK hP 0 rfl rfl 4 (by decide) (hT _ tw1_74) (fun _ h9 => h9) (by rw [hMs1]; rfl) d_Mac_exchange_39 ?_
  refine lv_iconst (v := 2) hx hb d_Mac_exchange_42 (by decide) ?_
  refine lv_isub hx hb d_Mac_exchange_43 ?_
  refine lv_topi (fun i43 e43 => ?_)
  refine lv_iload_n hx hb d_Mac_exchange_44 rfl (lv_at hl 0 rfl) ?_
  refine va_iast hx hb hK hP hD hS 1 0 rfl rfl (e43 ▸ h2) d_Mac_exchange_45 (fun H locs hP hD hS => ?_)
  have hP : va_P Dg classes (wM a k (u2 Ms1 0 i43.toNatClampNeg i10)) H := hP
  have hD : va_D (va_A (wM a k M) s.heap.size) (wM a k (u2 Ms1 0 i43.toNatClampNeg i10)) := hD
  obtain ⟨Ms2, hMs2⟩ : ∃ z, z = (u2 Ms1 0 i43.toNatClampNeg i10) := ⟨_, rfl⟩
  rw [← hMs2] at hP hD
  exact km_v F hlocks hret hP hD hS d_Mac_exchange_46 (by subst hMs2 hMs1 e43 e32 e31 e21 e10 e9; rfl)

set_option maxRecDepth 100000 in
set_option maxHeartbeats 4000000 in
theorem c_Mac_putOut (l : Launch) (Dg : va_G) (a : Nat → Nat) (k : Nat → ClassId) (M : vSt) (v : Int32) (H : Heap) (hP : va_P Dg classes (wM a k M) H) (hD : va_D (fun _ => True) (wM a k M)) (h0 : ¬ 60 ≤ M 4 2 → vp_in (M 4 2) 60) : kMv l y_Mac_putOut b_Mac_putOut 2 0 0 [.ref (a 0), .int v] H (va_K Dg classes (kTy k)) Dg (wM a k M) (wM a k (sOut M v)) := by
  refine k_of (by decide) (Nat.le_of_ble_eq_true rfl) ?_
  intro p e s m below meth cd ls F hlocks hret hname hh hX hl
  subst hh
  obtain ⟨hx, hb, hml, hown, hT⟩ := id F
  have hK : va_K Dg classes (kTy k) s := hX
  have hA : ∀ q : Nat, s.heap.size ≤ q → va_A (wM a k M) s.heap.size q := fun q h => Or.inr h
  have hD := hD.self (sz := s.heap.size)
  have hS : va_S (va_A (wM a k M) s.heap.size) s.heap s.heap [] := va_S.rf
  have hl : lv_has ls 2 [(0, .ref (a 0)), (1, .int v)] := hl
  refine lv_aload_n hx hb d_Mac_putOut_0 rfl (lv_at hl 0 rfl) ?_
  refine va_get (D := Dg) (ci := 1) (v := .int (M 4 2)) (C := R_Mac) (T := F_Mac) (N := 10) hx hb hT in_Mac hown hK hP 0 rfl rfl 6 (by decide) (hT _ tw1_77) (fun _ h9 => h9) rfl d_Mac_putOut_1 ?_
  refine lv_bipush (v := 60) hx hb d_Mac_putOut_4 (by decide) ?_
  refine lv_icmp_ge (tgt := 19) hx hb d_Mac_putOut_6 (by decide) (fun h6 => ?_) (fun h6 => ?_)
  · refine lv_aload_n hx hb d_Mac_putOut_19 rfl (lv_at hl 0 rfl) ?_
    refine lv_dup hx hb d_Mac_putOut_20 rfl ?_
    refine va_get (D := Dg) (ci := 1) (v := .int (M 4 2)) (C := R_Mac) (T := F_Mac) (N := 10) hx hb hT in_Mac hown hK hP 0 rfl rfl 6 (by decide) (hT _ tw1_77) (fun _ h9 => h9) rfl d_Mac_putOut_21 ?_
    refine lv_iconst (v := 1) hx hb d_Mac_putOut_24 (by decide) ?_
    refine lv_iadd hx hb d_Mac_putOut_25 ?_
    refine va_put (D := Dg) (ci := 1) (v := .int ((M 4 2) + 1)) (ty := .int) (C := R_Mac) (T := F_Mac) (N := 10) hx hb hT in_Mac t_Mac t_Mac_ok n_Mac hown hK hP hD hS 0 rfl rfl 6 (by decide) (hT _ tw1_77) (fun _ h9 => h9) rfl (by decide +kernel) rfl rfl (Nat.le_of_ble_eq_true rfl) d_Mac_putOut_26 (fun H locs hP hD hS => ?_)
    have hP : va_P Dg classes (wM a k (u2 M 4 2 ((M 4 2) + 1))) H := hP
    have hD : va_D (va_A (wM a k M) s.heap.size) (wM a k (u2 M 4 2 ((M 4 2) + 1))) := hD
    obtain ⟨Ms1, hMs1⟩ : ∃ z, z = (u2 M 4 2 ((M 4 2) + 1)) := ⟨_, rfl⟩
    rw [← hMs1] at hP hD
    exact km_v F hlocks hret hP hD hS d_Mac_putOut_29 (by subst hMs1; unfold sOut; rw [if_pos h6])
  · refine lv_aload_n hx hb d_Mac_putOut_9 rfl (lv_at hl 0 rfl) ?_
    refine va_get (D := Dg) (ci := 1) (v := .ref (a 3)) (C := R_Mac) (T := F_Mac) (N := 10) hx hb hT in_Mac hown hK hP 0 rfl rfl 2 (by decide) (hT _ tw1_71) (fun _ h9 => h9) rfl d_Mac_putOut_10 ?_
    refine lv_aload_n hx hb d_Mac_putOut_13 rfl (lv_at hl 0 rfl) ?_
    refine va_get (D := Dg) (ci := 1) (v := .int (M 4 2)) (C := R_Mac) (T := F_Mac) (N := 10) hx hb hT in_Mac hown hK hP 0 rfl rfl 6 (by decide) (hT _ tw1_77) (fun _ h9 => h9) rfl d_Mac_putOut_14 ?_
    refine lv_iload_n hx hb d_Mac_putOut_17 rfl (lv_at hl 1 rfl) ?_
    refine va_iast hx hb hK hP hD hS 3 0 rfl rfl (h0 h6) d_Mac_putOut_18 (fun H locs hP hD hS => ?_)
    have hP : va_P Dg classes (wM a k (u2 M 2 (M 4 2).toNatClampNeg v)) H := hP
    have hD : va_D (va_A (wM a k M) s.heap.size) (wM a k (u2 M 2 (M 4 2).toNatClampNeg v)) := hD
    obtain ⟨Ms2, hMs2⟩ : ∃ z, z = (u2 M 2 (M 4 2).toNatClampNeg v) := ⟨_, rfl⟩
    rw [← hMs2] at hP hD
    refine lv_aload_n hx hb d_Mac_putOut_19 rfl (lv_at hl 0 rfl) ?_
    refine lv_dup hx hb d_Mac_putOut_20 rfl ?_
    refine va_get (D := Dg) (ci := 1) (v := .int (M 4 2)) (C := R_Mac) (T := F_Mac) (N := 10) hx hb hT in_Mac hown hK hP 0 rfl rfl 6 (by decide) (hT _ tw1_77) (fun _ h9 => h9) (by rw [hMs2]; rfl) d_Mac_putOut_21 ?_
    refine lv_iconst (v := 1) hx hb d_Mac_putOut_24 (by decide) ?_
    refine lv_iadd hx hb d_Mac_putOut_25 ?_
    refine va_put (D := Dg) (ci := 1) (v := .int ((M 4 2) + 1)) (ty := .int) (C := R_Mac) (T := F_Mac) (N := 10) hx hb hT in_Mac t_Mac t_Mac_ok n_Mac hown hK hP hD hS 0 rfl rfl 6 (by decide) (hT _ tw1_77) (fun _ h9 => h9) rfl (by decide +kernel) rfl rfl (Nat.le_of_ble_eq_true rfl) d_Mac_putOut_26 (fun H locs hP hD hS => ?_)
    have hP : va_P Dg classes (wM a k (u2 Ms2 4 2 ((M 4 2) + 1))) H := hP
    have hD : va_D (va_A (wM a k M) s.heap.size) (wM a k (u2 Ms2 4 2 ((M 4 2) + 1))) := hD
    obtain ⟨Ms3, hMs3⟩ : ∃ z, z = (u2 Ms2 4 2 ((M 4 2) + 1)) := ⟨_, rfl⟩
    rw [← hMs3] at hP hD
    exact km_v F hlocks hret hP hD hS d_Mac_putOut_29 (by subst hMs3 hMs2; unfold sOut; rw [if_neg h6])

set_option maxRecDepth 100000 in
set_option maxHeartbeats 4000000 in
theorem c_Mac_resultOf (l : Launch) (Dg : va_G) (k : Nat → ClassId) (c x y : Int32) (H : Heap) (hc : c = 43 ∨ c = 45 ∨ c = 42 ∨ c = 47 ∨ c = 60 ∨ c = 61) (hz : c = 47 → ¬ y = 0) : kPu l y_Mac_resultOf b_Mac_resultOf 3 (some FieldType.int) 0 0 [.int c, .int x, .int y] H (va_K Dg classes (kTy k)) (sRes c x y) := by
  refine k_of (by decide) (Nat.le_of_ble_eq_true rfl) ?_
  intro p e s m below meth cd ls F hlocks hret hname hh hX hl
  subst hh
  obtain ⟨hx, hb, hml, hown, hT⟩ := id F
  have hK : va_K Dg classes (kTy k) s := hX
  have hS : va_S (fun _ => False) s.heap s.heap [] := va_S.rf
  have hl : lv_has ls 3 [(0, .int c), (1, .int x), (2, .int y)] := hl
  rcases hc with rfl | rfl | rfl | rfl | rfl | rfl
  · refine lv_iload_n hx hb d_Mac_resultOf_0 rfl (lv_at hl 0 rfl) ?_
    refine lv_lookup (x := 43) (off := 51) (tgt := 52) hx hb d_Mac_resultOf_1 (by decide) (by decide) (by decide) ?_
    refine lv_iload_n hx hb d_Mac_resultOf_52 rfl (lv_at hl 1 rfl) ?_
    refine lv_iload_n hx hb d_Mac_resultOf_53 rfl (lv_at hl 2 rfl) ?_
    refine lv_iadd hx hb d_Mac_resultOf_54 ?_
    exact kp_i F hlocks hret hS d_Mac_resultOf_55 (by unfold sRes; rw [if_pos rfl])
  · refine lv_iload_n hx hb d_Mac_resultOf_0 rfl (lv_at hl 0 rfl) ?_
    refine lv_lookup (x := 45) (off := 55) (tgt := 56) hx hb d_Mac_resultOf_1 (by decide) (by decide) (by decide) ?_
    refine lv_iload_n hx hb d_Mac_resultOf_56 rfl (lv_at hl 1 rfl) ?_
    refine lv_iload_n hx hb d_Mac_resultOf_57 rfl (lv_at hl 2 rfl) ?_
    refine lv_isub hx hb d_Mac_resultOf_58 ?_
    exact kp_i F hlocks hret hS d_Mac_resultOf_59 (by unfold sRes; rw [if_neg (by decide), if_pos rfl])
  · refine lv_iload_n hx hb d_Mac_resultOf_0 rfl (lv_at hl 0 rfl) ?_
    refine lv_lookup (x := 42) (off := 59) (tgt := 60) hx hb d_Mac_resultOf_1 (by decide) (by decide) (by decide) ?_
    refine lv_iload_n hx hb d_Mac_resultOf_60 rfl (lv_at hl 1 rfl) ?_
    refine lv_iload_n hx hb d_Mac_resultOf_61 rfl (lv_at hl 2 rfl) ?_
    refine lv_imul hx hb d_Mac_resultOf_62 ?_
    exact kp_i F hlocks hret hS d_Mac_resultOf_63 (by unfold sRes; rw [if_neg (by decide), if_neg (by decide), if_pos rfl])
  · refine lv_iload_n hx hb d_Mac_resultOf_0 rfl (lv_at hl 0 rfl) ?_
    refine lv_lookup (x := 47) (off := 63) (tgt := 64) hx hb d_Mac_resultOf_1 (by decide) (by decide) (by decide) ?_
    refine lv_iload_n hx hb d_Mac_resultOf_64 rfl (lv_at hl 1 rfl) ?_
    refine lv_iload_n hx hb d_Mac_resultOf_65 rfl (lv_at hl 2 rfl) ?_
    refine lv_idiv hx hb d_Mac_resultOf_66 (hz rfl) ?_
    exact kp_i F hlocks hret hS d_Mac_resultOf_67 (by unfold sRes; rw [if_neg (by decide), if_neg (by decide), if_neg (by decide), if_pos rfl])
  · refine lv_iload_n hx hb d_Mac_resultOf_0 rfl (lv_at hl 0 rfl) ?_
    refine lv_lookup (x := 60) (off := 67) (tgt := 68) hx hb d_Mac_resultOf_1 (by decide) (by decide) (by decide) ?_
    refine lv_iload_n hx hb d_Mac_resultOf_68 rfl (lv_at hl 1 rfl) ?_
    refine lv_iload_n hx hb d_Mac_resultOf_69 rfl (lv_at hl 2 rfl) ?_
    refine lv_icmp_ge (tgt := 77) hx hb d_Mac_resultOf_70 (by decide) (fun h70 => ?_) (fun h70 => ?_)
    · refine lv_iconst (v := 0) hx hb d_Mac_resultOf_77 (by decide) ?_
      exact kp_i F hlocks hret hS d_Mac_resultOf_78 (by unfold sRes; rw [if_neg (by decide), if_neg (by decide), if_neg (by decide), if_neg (by decide), if_pos rfl, if_pos h70])
    · refine lv_iconst (v := 1) hx hb d_Mac_resultOf_73 (by decide) ?_
      refine lv_goto (tgt := 78) hx hb d_Mac_resultOf_74 (by decide) ?_
      exact kp_i F hlocks hret hS d_Mac_resultOf_78 (by unfold sRes; rw [if_neg (by decide), if_neg (by decide), if_neg (by decide), if_neg (by decide), if_pos rfl, if_neg h70])
  · refine lv_iload_n hx hb d_Mac_resultOf_0 rfl (lv_at hl 0 rfl) ?_
    refine lv_lookup (x := 61) (off := 78) (tgt := 79) hx hb d_Mac_resultOf_1 (by decide) (by decide) (by decide) ?_
    refine lv_iload_n hx hb d_Mac_resultOf_79 rfl (lv_at hl 1 rfl) ?_
    refine lv_iload_n hx hb d_Mac_resultOf_80 rfl (lv_at hl 2 rfl) ?_
    refine lv_icmp_ne (tgt := 88) hx hb d_Mac_resultOf_81 (by decide) (fun h81 => ?_) (fun h81 => ?_)
    · refine lv_iconst (v := 0) hx hb d_Mac_resultOf_88 (by decide) ?_
      exact kp_i F hlocks hret hS d_Mac_resultOf_89 (by unfold sRes; rw [if_neg (by decide), if_neg (by decide), if_neg (by decide), if_neg (by decide), if_neg (by decide), if_neg h81])
    · refine lv_iconst (v := 1) hx hb d_Mac_resultOf_84 (by decide) ?_
      refine lv_goto (tgt := 89) hx hb d_Mac_resultOf_85 (by decide) ?_
      exact kp_i F hlocks hret hS d_Mac_resultOf_89 (by unfold sRes; rw [if_neg (by decide), if_neg (by decide), if_neg (by decide), if_neg (by decide), if_neg (by decide), if_pos h81])

set_option maxRecDepth 100000 in
set_option maxHeartbeats 4000000 in
theorem c_Mac_combine (l : Launch) (Dg : va_G) (a : Nat → Nat) (k : Nat → ClassId) (M : vSt) (c : Int32) (H : Heap) (hP : va_P Dg classes (wM a k M) H) (hD : va_D (fun _ => True) (wM a k M)) (hc : c = 43 ∨ c = 45 ∨ c = 42 ∨ c = 47 ∨ c = 60 ∨ c = 61) (h1 : vp_in (M 4 0 - 1) 40) (h2 : vp_in (M 4 0 - 1 - 1) 40) (hz : c = 47 → ¬ sTop M = 0) : kMv l y_Mac_combine b_Mac_combine 4 1 22 [.ref (a 0), .int c] H (va_K Dg classes (kTy k)) Dg (wM a k M) (wM a k (sComb M c)) := by
  refine k_of (by decide) (Nat.le_of_ble_eq_true rfl) ?_
  intro p e s m below meth cd ls F hlocks hret hname hh hX hl
  subst hh
  obtain ⟨hx, hb, hml, hown, hT⟩ := id F
  have hK : va_K Dg classes (kTy k) s := hX
  have hA : ∀ q : Nat, s.heap.size ≤ q → va_A (wM a k M) s.heap.size q := fun q h => Or.inr h
  have hD := hD.self (sz := s.heap.size)
  have hS : va_S (va_A (wM a k M) s.heap.size) s.heap s.heap [] := va_S.rf
  have hl : lv_has ls 4 [(0, .ref (a 0)), (1, .int c)] := hl
  refine lv_aload_n hx hb d_Mac_combine_0 rfl (lv_at hl 0 rfl) ?_
  refine km_Vi (wr := []) F (c_Mac_pop l Dg a k M  _ hP (hD.weaken (fun _ _ _ _ => trivial)) h1) kx_K hK kw_Mac_92 tw2_175 ts_11 (va_recv (ci := 1) (q0 := 0) hK hP rfl rfl) hP hD hS hA [0, 1, 2, 3, 4] [] rfl rfl (by decide) (by decide) d_Mac_combine_1 ⟨⟨by decide, by decide⟩, Nat.le_refl _, Nat.le_refl _⟩ rfl hl.1 rfl (Nat.le_of_ble_eq_true rfl) (fun H locs hP hD hS => ?_)
  have hP : va_P Dg classes (wM a k (sPop M)) H := hP
  have hD : va_D (va_A (wM a k M) s.heap.size) (wM a k (sPop M)) := hD
  obtain ⟨Ms1, hMs1⟩ : ∃ z, z = (sPop M) := ⟨_, rfl⟩
  rw [← hMs1] at hP hD
  refine lv_istore_n hx hb d_Mac_combine_4 rfl hl (by decide) rfl (fun ls hl => ?_)
  have hl : lv_has ls 4 [(2, .int (sTop M)), (0, .ref (a 0)), (1, .int c)] := hl
  refine lv_aload_n hx hb d_Mac_combine_5 rfl (lv_at hl 1 rfl) ?_
  refine km_Vi (wr := []) F (c_Mac_pop l Dg a k Ms1  _ hP (hD.weaken (fun _ _ _ _ => trivial)) (by rw [hMs1]; exact h2)) kx_K hK kw_Mac_92 tw2_175 ts_11 (va_recv (ci := 1) (q0 := 0) hK hP rfl rfl) hP hD hS hA [0, 1, 2, 3, 4] [] rfl rfl (by decide) (by decide) d_Mac_combine_6 ⟨⟨by decide, by decide⟩, Nat.le_refl _, Nat.le_refl _⟩ rfl hl.1 rfl (Nat.le_of_ble_eq_true rfl) (fun H locs hP hD hS => ?_)
  have hP : va_P Dg classes (wM a k (sPop Ms1)) H := hP
  have hD : va_D (va_A (wM a k M) s.heap.size) (wM a k (sPop Ms1)) := hD
  obtain ⟨Ms2, hMs2⟩ : ∃ z, z = (sPop Ms1) := ⟨_, rfl⟩
  rw [← hMs2] at hP hD
  refine lv_istore_n hx hb d_Mac_combine_9 rfl hl (by decide) rfl (fun ls hl => ?_)
  have hl : lv_has ls 4 [(3, .int (sTop Ms1)), (2, .int (sTop M)), (0, .ref (a 0)), (1, .int c)] := hl
  refine lv_aload_n hx hb d_Mac_combine_10 rfl (lv_at hl 2 rfl) ?_
  refine lv_iload_n hx hb d_Mac_combine_11 rfl (lv_at hl 3 rfl) ?_
  refine lv_iload_n hx hb d_Mac_combine_12 rfl (lv_at hl 0 rfl) ?_
  refine lv_iload_n hx hb d_Mac_combine_13 rfl (lv_at hl 1 rfl) ?_
  refine kp_S F (c_Mac_resultOf l Dg k c (sTop Ms1) (sTop M) _ hc hz) kx_K hK kw_Mac_105 tw2_190 hS d_Mac_combine_14 ⟨⟨by decide, by decide⟩, Nat.le_refl _, Nat.le_refl _⟩ rfl hl.1 rfl (Nat.le_of_ble_eq_true rfl) (fun locs hS => ?_)
  refine km_Vv (wr := []) F (c_Mac_push l Dg a k Ms2 (sRes c (sTop Ms1) (sTop M)) _ hP (hD.weaken (fun _ _ _ _ => trivial)) (by rw [hMs2, hMs1]; exact h2)) kx_K hK kw_Mac_88 tw2_171 ts_10 (va_recv (ci := 1) (q0 := 0) hK hP rfl rfl) hP hD hS hA [0, 1, 2, 3, 4] [] rfl rfl (by decide) (by decide) d_Mac_combine_17 ⟨⟨by decide, by decide⟩, Nat.le_refl _, Nat.le_refl _⟩ rfl hl.1 rfl (Nat.le_of_ble_eq_true rfl) (fun H locs hP hD hS => ?_)
  have hP : va_P Dg classes (wM a k (sPush Ms2 (sRes c (sTop Ms1) (sTop M)))) H := hP
  have hD : va_D (va_A (wM a k M) s.heap.size) (wM a k (sPush Ms2 (sRes c (sTop Ms1) (sTop M)))) := hD
  obtain ⟨Ms3, hMs3⟩ : ∃ z, z = (sPush Ms2 (sRes c (sTop Ms1) (sTop M))) := ⟨_, rfl⟩
  rw [← hMs3] at hP hD
  exact km_v F hlocks hret hP hD hS d_Mac_combine_20 (by subst hMs3 hMs2 hMs1; rfl)

set_option maxRecDepth 100000 in
set_option maxHeartbeats 4000000 in
theorem c_Mac_neededValues (l : Launch) (Dg : va_G) (k : Nat → ClassId) (c : Int32) (H : Heap) (hc : okC c) : kPu l y_Mac_neededValues b_Mac_neededValues 1 (some FieldType.int) 0 0 [.int c] H (va_K Dg classes (kTy k)) (sNeed c) := by
  refine k_of (by decide) (Nat.le_of_ble_eq_true rfl) ?_
  intro p e s m below meth cd ls F hlocks hret hname hh hX hl
  subst hh
  obtain ⟨hx, hb, hml, hown, hT⟩ := id F
  have hK : va_K Dg classes (kTy k) s := hX
  have hS : va_S (fun _ => False) s.heap s.heap [] := va_S.rf
  have hl : lv_has ls 1 [(0, .int c)] := hl
  rcases hc with rfl | rfl | rfl | rfl | rfl | rfl | rfl | rfl | rfl | rfl | rfl | rfl | rfl | rfl | rfl | rfl | rfl | rfl
  · refine lv_iload_n hx hb d_Mac_neededValues_0 rfl (lv_at hl 0 rfl) ?_
    refine lv_tableIn (x := 80) (off := 215) (tgt := 216) hx hb d_Mac_neededValues_1 (by decide) (by decide) rfl (by decide) ?_
    refine lv_iconst (v := 0) hx hb d_Mac_neededValues_216 (by decide) ?_
    exact kp_i F hlocks hret hS d_Mac_neededValues_217 (by decide)
  · refine lv_iload_n hx hb d_Mac_neededValues_0 rfl (lv_at hl 0 rfl) ?_
    refine lv_tableIn (x := 76) (off := 215) (tgt := 216) hx hb d_Mac_neededValues_1 (by decide) (by decide) rfl (by decide) ?_
    refine lv_iconst (v := 0) hx hb d_Mac_neededValues_216 (by decide) ?_
    exact kp_i F hlocks hret hS d_Mac_neededValues_217 (by decide)
  · refine lv_iload_n hx hb d_Mac_neededValues_0 rfl (lv_at hl 0 rfl) ?_
    refine lv_tableIn (x := 83) (off := 213) (tgt := 214) hx hb d_Mac_neededValues_1 (by decide) (by decide) rfl (by decide) ?_
    refine lv_iconst (v := 1) hx hb d_Mac_neededValues_214 (by decide) ?_
    exact kp_i F hlocks hret hS d_Mac_neededValues_215 (by decide)
  · refine lv_iload_n hx hb d_Mac_neededValues_0 rfl (lv_at hl 0 rfl) ?_
    refine lv_tableIn (x := 43) (off := 211) (tgt := 212) hx hb d_Mac_neededValues_1 (by decide) (by decide) rfl (by decide) ?_
    refine lv_iconst (v := 2) hx hb d_Mac_neededValues_212 (by decide) ?_
    exact kp_i F hlocks hret hS d_Mac_neededValues_213 (by decide)
  · refine lv_iload_n hx hb d_Mac_neededValues_0 rfl (lv_at hl 0 rfl) ?_
    refine lv_tableIn (x := 45) (off := 211) (tgt := 212) hx hb d_Mac_neededValues_1 (by decide) (by decide) rfl (by decide) ?_
    refine lv_iconst (v := 2) hx hb d_Mac_neededValues_212 (by decide) ?_
    exact kp_i F hlocks hret hS d_Mac_neededValues_213 (by decide)
  · refine lv_iload_n hx hb d_Mac_neededValues_0 rfl (lv_at hl 0 rfl) ?_
    refine lv_tableIn (x := 42) (off := 211) (tgt := 212) hx hb d_Mac_neededValues_1 (by decide) (by decide) rfl (by decide) ?_
    refine lv_iconst (v := 2) hx hb d_Mac_neededValues_212 (by decide) ?_
    exact kp_i F hlocks hret hS d_Mac_neededValues_213 (by decide)
  · refine lv_iload_n hx hb d_Mac_neededValues_0 rfl (lv_at hl 0 rfl) ?_
    refine lv_tableIn (x := 47) (off := 211) (tgt := 212) hx hb d_Mac_neededValues_1 (by decide) (by decide) rfl (by decide) ?_
    refine lv_iconst (v := 2) hx hb d_Mac_neededValues_212 (by decide) ?_
    exact kp_i F hlocks hret hS d_Mac_neededValues_213 (by decide)
  · refine lv_iload_n hx hb d_Mac_neededValues_0 rfl (lv_at hl 0 rfl) ?_
    refine lv_tableIn (x := 60) (off := 211) (tgt := 212) hx hb d_Mac_neededValues_1 (by decide) (by decide) rfl (by decide) ?_
    refine lv_iconst (v := 2) hx hb d_Mac_neededValues_212 (by decide) ?_
    exact kp_i F hlocks hret hS d_Mac_neededValues_213 (by decide)
  · refine lv_iload_n hx hb d_Mac_neededValues_0 rfl (lv_at hl 0 rfl) ?_
    refine lv_tableIn (x := 61) (off := 211) (tgt := 212) hx hb d_Mac_neededValues_1 (by decide) (by decide) rfl (by decide) ?_
    refine lv_iconst (v := 2) hx hb d_Mac_neededValues_212 (by decide) ?_
    exact kp_i F hlocks hret hS d_Mac_neededValues_213 (by decide)
  · refine lv_iload_n hx hb d_Mac_neededValues_0 rfl (lv_at hl 0 rfl) ?_
    refine lv_tableIn (x := 68) (off := 213) (tgt := 214) hx hb d_Mac_neededValues_1 (by decide) (by decide) rfl (by decide) ?_
    refine lv_iconst (v := 1) hx hb d_Mac_neededValues_214 (by decide) ?_
    exact kp_i F hlocks hret hS d_Mac_neededValues_215 (by decide)
  · refine lv_iload_n hx hb d_Mac_neededValues_0 rfl (lv_at hl 0 rfl) ?_
    refine lv_tableIn (x := 88) (off := 211) (tgt := 212) hx hb d_Mac_neededValues_1 (by decide) (by decide) rfl (by decide) ?_
    refine lv_iconst (v := 2) hx hb d_Mac_neededValues_212 (by decide) ?_
    exact kp_i F hlocks hret hS d_Mac_neededValues_213 (by decide)
  · refine lv_iload_n hx hb d_Mac_neededValues_0 rfl (lv_at hl 0 rfl) ?_
    refine lv_tableIn (x := 79) (off := 213) (tgt := 214) hx hb d_Mac_neededValues_1 (by decide) (by decide) rfl (by decide) ?_
    refine lv_iconst (v := 1) hx hb d_Mac_neededValues_214 (by decide) ?_
    exact kp_i F hlocks hret hS d_Mac_neededValues_215 (by decide)
  · refine lv_iload_n hx hb d_Mac_neededValues_0 rfl (lv_at hl 0 rfl) ?_
    refine lv_tableIn (x := 86) (off := 213) (tgt := 214) hx hb d_Mac_neededValues_1 (by decide) (by decide) rfl (by decide) ?_
    refine lv_iconst (v := 1) hx hb d_Mac_neededValues_214 (by decide) ?_
    exact kp_i F hlocks hret hS d_Mac_neededValues_215 (by decide)
  · refine lv_iload_n hx hb d_Mac_neededValues_0 rfl (lv_at hl 0 rfl) ?_
    refine lv_tableIn (x := 74) (off := 215) (tgt := 216) hx hb d_Mac_neededValues_1 (by decide) (by decide) rfl (by decide) ?_
    refine lv_iconst (v := 0) hx hb d_Mac_neededValues_216 (by decide) ?_
    exact kp_i F hlocks hret hS d_Mac_neededValues_217 (by decide)
  · refine lv_iload_n hx hb d_Mac_neededValues_0 rfl (lv_at hl 0 rfl) ?_
    refine lv_tableIn (x := 90) (off := 213) (tgt := 214) hx hb d_Mac_neededValues_1 (by decide) (by decide) rfl (by decide) ?_
    refine lv_iconst (v := 1) hx hb d_Mac_neededValues_214 (by decide) ?_
    exact kp_i F hlocks hret hS d_Mac_neededValues_215 (by decide)
  · refine lv_iload_n hx hb d_Mac_neededValues_0 rfl (lv_at hl 0 rfl) ?_
    refine lv_tableIn (x := 67) (off := 215) (tgt := 216) hx hb d_Mac_neededValues_1 (by decide) (by decide) rfl (by decide) ?_
    refine lv_iconst (v := 0) hx hb d_Mac_neededValues_216 (by decide) ?_
    exact kp_i F hlocks hret hS d_Mac_neededValues_217 (by decide)
  · refine lv_iload_n hx hb d_Mac_neededValues_0 rfl (lv_at hl 0 rfl) ?_
    refine lv_tableIn (x := 82) (off := 215) (tgt := 216) hx hb d_Mac_neededValues_1 (by decide) (by decide) rfl (by decide) ?_
    refine lv_iconst (v := 0) hx hb d_Mac_neededValues_216 (by decide) ?_
    exact kp_i F hlocks hret hS d_Mac_neededValues_217 (by decide)
  · refine lv_iload_n hx hb d_Mac_neededValues_0 rfl (lv_at hl 0 rfl) ?_
    refine lv_tableIn (x := 72) (off := 215) (tgt := 216) hx hb d_Mac_neededValues_1 (by decide) (by decide) rfl (by decide) ?_
    refine lv_iconst (v := 0) hx hb d_Mac_neededValues_216 (by decide) ?_
    exact kp_i F hlocks hret hS d_Mac_neededValues_217 (by decide)

set_option maxRecDepth 100000 in
set_option maxHeartbeats 4000000 in
theorem c_Mac_putsOneMore (l : Launch) (Dg : va_G) (k : Nat → ClassId) (c : Int32) (H : Heap) : kPu l y_Mac_putsOneMore b_Mac_putsOneMore 1 (some FieldType.boolean) 0 0 [.int c] H (va_K Dg classes (kTy k)) (sPuts c) := by
  refine k_of (by decide) (Nat.le_of_ble_eq_true rfl) ?_
  intro p e s m below meth cd ls F hlocks hret hname hh hX hl
  subst hh
  obtain ⟨hx, hb, hml, hown, hT⟩ := id F
  have hK : va_K Dg classes (kTy k) s := hX
  have hS : va_S (fun _ => False) s.heap s.heap [] := va_S.rf
  have hl : lv_has ls 1 [(0, .int c)] := hl
  refine lv_iload_n hx hb d_Mac_putsOneMore_0 rfl (lv_at hl 0 rfl) ?_
  refine lv_bipush (v := 80) hx hb d_Mac_putsOneMore_1 (by decide) ?_
  refine lv_icmp_eq (tgt := 18) hx hb d_Mac_putsOneMore_3 (by decide) (fun h3 => ?_) (fun h3 => ?_)
  · refine lv_iconst (v := 1) hx hb d_Mac_putsOneMore_18 (by decide) ?_
    refine lv_goto (tgt := 23) hx hb d_Mac_putsOneMore_19 (by decide) ?_
    exact kp_z F hlocks hret hS d_Mac_putsOneMore_23 rfl (by unfold sPuts; rw [if_pos (Or.inl h3)])
  · refine lv_iload_n hx hb d_Mac_putsOneMore_6 rfl (lv_at hl 0 rfl) ?_
    refine lv_bipush (v := 76) hx hb d_Mac_putsOneMore_7 (by decide) ?_
    refine lv_icmp_eq (tgt := 18) hx hb d_Mac_putsOneMore_9 (by decide) (fun h9 => ?_) (fun h9 => ?_)
    · refine lv_iconst (v := 1) hx hb d_Mac_putsOneMore_18 (by decide) ?_
      refine lv_goto (tgt := 23) hx hb d_Mac_putsOneMore_19 (by decide) ?_
      exact kp_z F hlocks hret hS d_Mac_putsOneMore_23 rfl (by unfold sPuts; rw [if_pos (Or.inr (Or.inl h9))])
    · refine lv_iload_n hx hb d_Mac_putsOneMore_12 rfl (lv_at hl 0 rfl) ?_
      refine lv_bipush (v := 68) hx hb d_Mac_putsOneMore_13 (by decide) ?_
      refine lv_icmp_ne (tgt := 22) hx hb d_Mac_putsOneMore_15 (by decide) (fun h15 => ?_) (fun h15 => ?_)
      · refine lv_iconst (v := 0) hx hb d_Mac_putsOneMore_22 (by decide) ?_
        exact kp_z F hlocks hret hS d_Mac_putsOneMore_23 rfl (by unfold sPuts; rw [if_neg (fun z => z.elim h3 (fun z => z.elim h9 h15))])
      · refine lv_iconst (v := 1) hx hb d_Mac_putsOneMore_18 (by decide) ?_
        refine lv_goto (tgt := 23) hx hb d_Mac_putsOneMore_19 (by decide) ?_
        exact kp_z F hlocks hret hS d_Mac_putsOneMore_23 rfl (by unfold sPuts; rw [if_pos (Or.inr (Or.inr h15))])

theorem tr_div {M : vSt} {c : Int32} (hm : mOk M) (hc : c = 47) (hn : ¬ M 4 0 < sNeed c) : vp_in (M 4 0 - 1) 40 := by
  obtain ⟨h, r, o, e0, e1, e2, b0, b1, b2⟩ := hm
  rw [hc, e0] at hn
  have := tr_n (d := 2) (by decide) hn
  exact in_1 e0 (by omega) b0 (by decide)

set_option maxRecDepth 100000 in
set_option maxHeartbeats 4000000 in
theorem c_Mac_trapOf (l : Launch) (Dg : va_G) (a : Nat → Nat) (k : Nat → ClassId) (M : vSt) (c : Int32) (H : Heap) (hP : va_P Dg classes (wM a k M) H) (hc : okC c) (hm : mOk M) : kPu l y_Mac_trapOf b_Mac_trapOf 2 (some FieldType.int) 1 20 [.ref (a 0), .int c] H (va_K Dg classes (kTy k)) (sTrap M c) := by
  refine k_of (by decide) (Nat.le_of_ble_eq_true rfl) ?_
  intro p e s m below meth cd ls F hlocks hret hname hh hX hl
  subst hh
  obtain ⟨hx, hb, hml, hown, hT⟩ := id F
  have hK : va_K Dg classes (kTy k) s := hX
  have hS : va_S (fun _ => False) s.heap s.heap [] := va_S.rf
  have hl : lv_has ls 2 [(0, .ref (a 0)), (1, .int c)] := hl
  refine lv_aload_n hx hb d_Mac_trapOf_0 rfl (lv_at hl 0 rfl) ?_
  refine va_get (D := Dg) (ci := 1) (v := .int (M 4 0)) (C := R_Mac) (T := F_Mac) (N := 10) hx hb hT in_Mac hown hK hP 0 rfl rfl 4 (by decide) (hT _ tw1_74) (fun _ h9 => h9) rfl d_Mac_trapOf_1 ?_
  refine lv_iload_n hx hb d_Mac_trapOf_4 rfl (lv_at hl 1 rfl) ?_
  refine kp_S F (c_Mac_neededValues l Dg k c _ hc) kx_K hK kw_Mac_82 tw2_160 hS d_Mac_trapOf_5 ⟨⟨by decide, by decide⟩, Nat.le_refl _, Nat.le_refl _⟩ rfl hl.1 rfl (Nat.le_of_ble_eq_true rfl) (fun locs hS => ?_)
  refine lv_icmp_lt (tgt := 24) hx hb d_Mac_trapOf_8 (by decide) (fun h8 => ?_) (fun h8 => ?_)
  · refine lv_iconst (v := 1) hx hb d_Mac_trapOf_24 (by decide) ?_
    exact kp_i F hlocks hret hS d_Mac_trapOf_25 (by unfold sTrap; rw [if_pos h8])
  · refine lv_iload_n hx hb d_Mac_trapOf_11 rfl (lv_at hl 1 rfl) ?_
    refine lv_bipush (v := 82) hx hb d_Mac_trapOf_12 (by decide) ?_
    refine lv_icmp_ne (tgt := 26) hx hb d_Mac_trapOf_14 (by decide) (fun h14 => ?_) (fun h14 => ?_)
    · refine lv_iload_n hx hb d_Mac_trapOf_26 rfl (lv_at hl 1 rfl) ?_
      refine kp_S F (c_Mac_putsOneMore l Dg k c _) kx_K hK kw_Mac_85 tw2_163 hS d_Mac_trapOf_27 ⟨⟨by decide, by decide⟩, Nat.le_refl _, Nat.le_refl _⟩ rfl hl.1 rfl (Nat.le_of_ble_eq_true rfl) (fun locs hS => ?_)
      refine lv_if_eq (tgt := 42) hx hb d_Mac_trapOf_30 (by decide) (fun h30 => ?_) (fun h30 => ?_)
      · refine lv_iload_n hx hb d_Mac_trapOf_42 rfl (lv_at hl 1 rfl) ?_
        refine lv_bipush (v := 67) hx hb d_Mac_trapOf_43 (by decide) ?_
        refine lv_icmp_ne (tgt := 59) hx hb d_Mac_trapOf_45 (by decide) (fun h45 => ?_) (fun h45 => ?_)
        · refine lv_iload_n hx hb d_Mac_trapOf_59 rfl (lv_at hl 1 rfl) ?_
          refine lv_bipush (v := 47) hx hb d_Mac_trapOf_60 (by decide) ?_
          refine lv_icmp_ne (tgt := 81) hx hb d_Mac_trapOf_62 (by decide) (fun h62 => ?_) (fun h62 => ?_)
          · refine lv_iconst (v := 0) hx hb d_Mac_trapOf_81 (by decide) ?_
            exact kp_i F hlocks hret hS d_Mac_trapOf_82 (by unfold sTrap; rw [if_neg h8, if_neg (fun z => h14 z.1), if_neg (fun z => z.1 h30), if_neg (fun z => h45 z.1), if_neg (fun z => h62 z.1)])
          · refine lv_aload_n hx hb d_Mac_trapOf_65 rfl (lv_at hl 0 rfl) ?_
            refine va_get (D := Dg) (ci := 1) (v := .ref (a 1)) (C := R_Mac) (T := F_Mac) (N := 10) hx hb hT in_Mac hown hK hP 0 rfl rfl 0 (by decide) (hT _ tw1_67) (fun _ h9 => h9) rfl d_Mac_trapOf_66 ?_
            refine lv_aload_n hx hb d_Mac_trapOf_69 rfl (lv_at hl 0 rfl) ?_
            refine va_get (D := Dg) (ci := 1) (v := .int (M 4 0)) (C := R_Mac) (T := F_Mac) (N := 10) hx hb hT in_Mac hown hK hP 0 rfl rfl 4 (by decide) (hT _ tw1_74) (fun _ h9 => h9) rfl d_Mac_trapOf_70 ?_
            refine lv_iconst (v := 1) hx hb d_Mac_trapOf_73 (by decide) ?_
            refine lv_isub hx hb d_Mac_trapOf_74 ?_
            refine va_iald (f := (M 0)) hx hb hK hP 1 0 rfl rfl (tr_div hm h62 h8) d_Mac_trapOf_75 ?_
            refine lv_if_ne (tgt := 81) hx hb d_Mac_trapOf_76 (by decide) (fun h76 => ?_) (fun h76 => ?_)
            · refine lv_iconst (v := 0) hx hb d_Mac_trapOf_81 (by decide) ?_
              exact kp_i F hlocks hret hS d_Mac_trapOf_82 (by unfold sTrap; rw [if_neg h8, if_neg (fun z => h14 z.1), if_neg (fun z => z.1 h30), if_neg (fun z => h45 z.1), if_neg (fun z => h76 z.2)])
            · refine lv_iconst (v := 3) hx hb d_Mac_trapOf_79 (by decide) ?_
              exact kp_i F hlocks hret hS d_Mac_trapOf_80 (by unfold sTrap; rw [if_neg h8, if_neg (fun z => h14 z.1), if_neg (fun z => z.1 h30), if_neg (fun z => h45 z.1), if_pos ⟨h62, h76⟩])
        · refine lv_aload_n hx hb d_Mac_trapOf_48 rfl (lv_at hl 0 rfl) ?_
          refine va_get (D := Dg) (ci := 1) (v := .int (M 4 1)) (C := R_Mac) (T := F_Mac) (N := 10) hx hb hT in_Mac hown hK hP 0 rfl rfl 5 (by decide) (hT _ tw1_76) (fun _ h9 => h9) rfl d_Mac_trapOf_49 ?_
          refine lv_bipush (v := 10) hx hb d_Mac_trapOf_52 (by decide) ?_
          refine lv_icmp_ne (tgt := 59) hx hb d_Mac_trapOf_54 (by decide) (fun h54 => ?_) (fun h54 => ?_)
          · refine lv_iload_n hx hb d_Mac_trapOf_59 rfl (lv_at hl 1 rfl) ?_
            refine lv_bipush (v := 47) hx hb d_Mac_trapOf_60 (by decide) ?_
            refine lv_icmp_ne (tgt := 81) hx hb d_Mac_trapOf_62 (by decide) (fun h62 => ?_) (fun h62 => ?_)
            · refine lv_iconst (v := 0) hx hb d_Mac_trapOf_81 (by decide) ?_
              exact kp_i F hlocks hret hS d_Mac_trapOf_82 (by unfold sTrap; rw [if_neg h8, if_neg (fun z => h14 z.1), if_neg (fun z => z.1 h30), if_neg (fun z => h54 z.2), if_neg (fun z => h62 z.1)])
            · refine lv_aload_n hx hb d_Mac_trapOf_65 rfl (lv_at hl 0 rfl) ?_
              refine va_get (D := Dg) (ci := 1) (v := .ref (a 1)) (C := R_Mac) (T := F_Mac) (N := 10) hx hb hT in_Mac hown hK hP 0 rfl rfl 0 (by decide) (hT _ tw1_67) (fun _ h9 => h9) rfl d_Mac_trapOf_66 ?_
              refine lv_aload_n hx hb d_Mac_trapOf_69 rfl (lv_at hl 0 rfl) ?_
              refine va_get (D := Dg) (ci := 1) (v := .int (M 4 0)) (C := R_Mac) (T := F_Mac) (N := 10) hx hb hT in_Mac hown hK hP 0 rfl rfl 4 (by decide) (hT _ tw1_74) (fun _ h9 => h9) rfl d_Mac_trapOf_70 ?_
              refine lv_iconst (v := 1) hx hb d_Mac_trapOf_73 (by decide) ?_
              refine lv_isub hx hb d_Mac_trapOf_74 ?_
              refine va_iald (f := (M 0)) hx hb hK hP 1 0 rfl rfl (tr_div hm h62 h8) d_Mac_trapOf_75 ?_
              refine lv_if_ne (tgt := 81) hx hb d_Mac_trapOf_76 (by decide) (fun h76 => ?_) (fun h76 => ?_)
              · refine lv_iconst (v := 0) hx hb d_Mac_trapOf_81 (by decide) ?_
                exact kp_i F hlocks hret hS d_Mac_trapOf_82 (by unfold sTrap; rw [if_neg h8, if_neg (fun z => h14 z.1), if_neg (fun z => z.1 h30), if_neg (fun z => h54 z.2), if_neg (fun z => h76 z.2)])
              · refine lv_iconst (v := 3) hx hb d_Mac_trapOf_79 (by decide) ?_
                exact kp_i F hlocks hret hS d_Mac_trapOf_80 (by unfold sTrap; rw [if_neg h8, if_neg (fun z => h14 z.1), if_neg (fun z => z.1 h30), if_neg (fun z => h54 z.2), if_pos ⟨h62, h76⟩])
          · refine lv_iconst (v := 2) hx hb d_Mac_trapOf_57 (by decide) ?_
            exact kp_i F hlocks hret hS d_Mac_trapOf_58 (by unfold sTrap; rw [if_neg h8, if_neg (fun z => h14 z.1), if_neg (fun z => z.1 h30), if_pos ⟨h45, h54⟩])
      · refine lv_aload_n hx hb d_Mac_trapOf_33 rfl (lv_at hl 0 rfl) ?_
        refine va_get (D := Dg) (ci := 1) (v := .int (M 4 0)) (C := R_Mac) (T := F_Mac) (N := 10) hx hb hT in_Mac hown hK hP 0 rfl rfl 4 (by decide) (hT _ tw1_74) (fun _ h9 => h9) rfl d_Mac_trapOf_34 ?_
        refine lv_bipush (v := 40) hx hb d_Mac_trapOf_37 (by decide) ?_
        refine lv_icmp_eq (tgt := 57) hx hb d_Mac_trapOf_39 (by decide) (fun h39 => ?_) (fun h39 => ?_)
        · refine lv_iconst (v := 2) hx hb d_Mac_trapOf_57 (by decide) ?_
          exact kp_i F hlocks hret hS d_Mac_trapOf_58 (by unfold sTrap; rw [if_neg h8, if_neg (fun z => h14 z.1), if_pos ⟨h30, h39⟩])
        · refine lv_iload_n hx hb d_Mac_trapOf_42 rfl (lv_at hl 1 rfl) ?_
          refine lv_bipush (v := 67) hx hb d_Mac_trapOf_43 (by decide) ?_
          refine lv_icmp_ne (tgt := 59) hx hb d_Mac_trapOf_45 (by decide) (fun h45 => ?_) (fun h45 => ?_)
          · refine lv_iload_n hx hb d_Mac_trapOf_59 rfl (lv_at hl 1 rfl) ?_
            refine lv_bipush (v := 47) hx hb d_Mac_trapOf_60 (by decide) ?_
            refine lv_icmp_ne (tgt := 81) hx hb d_Mac_trapOf_62 (by decide) (fun h62 => ?_) (fun h62 => ?_)
            · refine lv_iconst (v := 0) hx hb d_Mac_trapOf_81 (by decide) ?_
              exact kp_i F hlocks hret hS d_Mac_trapOf_82 (by unfold sTrap; rw [if_neg h8, if_neg (fun z => h14 z.1), if_neg (fun z => h39 z.2), if_neg (fun z => h45 z.1), if_neg (fun z => h62 z.1)])
            · refine lv_aload_n hx hb d_Mac_trapOf_65 rfl (lv_at hl 0 rfl) ?_
              refine va_get (D := Dg) (ci := 1) (v := .ref (a 1)) (C := R_Mac) (T := F_Mac) (N := 10) hx hb hT in_Mac hown hK hP 0 rfl rfl 0 (by decide) (hT _ tw1_67) (fun _ h9 => h9) rfl d_Mac_trapOf_66 ?_
              refine lv_aload_n hx hb d_Mac_trapOf_69 rfl (lv_at hl 0 rfl) ?_
              refine va_get (D := Dg) (ci := 1) (v := .int (M 4 0)) (C := R_Mac) (T := F_Mac) (N := 10) hx hb hT in_Mac hown hK hP 0 rfl rfl 4 (by decide) (hT _ tw1_74) (fun _ h9 => h9) rfl d_Mac_trapOf_70 ?_
              refine lv_iconst (v := 1) hx hb d_Mac_trapOf_73 (by decide) ?_
              refine lv_isub hx hb d_Mac_trapOf_74 ?_
              refine va_iald (f := (M 0)) hx hb hK hP 1 0 rfl rfl (tr_div hm h62 h8) d_Mac_trapOf_75 ?_
              refine lv_if_ne (tgt := 81) hx hb d_Mac_trapOf_76 (by decide) (fun h76 => ?_) (fun h76 => ?_)
              · refine lv_iconst (v := 0) hx hb d_Mac_trapOf_81 (by decide) ?_
                exact kp_i F hlocks hret hS d_Mac_trapOf_82 (by unfold sTrap; rw [if_neg h8, if_neg (fun z => h14 z.1), if_neg (fun z => h39 z.2), if_neg (fun z => h45 z.1), if_neg (fun z => h76 z.2)])
              · refine lv_iconst (v := 3) hx hb d_Mac_trapOf_79 (by decide) ?_
                exact kp_i F hlocks hret hS d_Mac_trapOf_80 (by unfold sTrap; rw [if_neg h8, if_neg (fun z => h14 z.1), if_neg (fun z => h39 z.2), if_neg (fun z => h45 z.1), if_pos ⟨h62, h76⟩])
          · refine lv_aload_n hx hb d_Mac_trapOf_48 rfl (lv_at hl 0 rfl) ?_
            refine va_get (D := Dg) (ci := 1) (v := .int (M 4 1)) (C := R_Mac) (T := F_Mac) (N := 10) hx hb hT in_Mac hown hK hP 0 rfl rfl 5 (by decide) (hT _ tw1_76) (fun _ h9 => h9) rfl d_Mac_trapOf_49 ?_
            refine lv_bipush (v := 10) hx hb d_Mac_trapOf_52 (by decide) ?_
            refine lv_icmp_ne (tgt := 59) hx hb d_Mac_trapOf_54 (by decide) (fun h54 => ?_) (fun h54 => ?_)
            · refine lv_iload_n hx hb d_Mac_trapOf_59 rfl (lv_at hl 1 rfl) ?_
              refine lv_bipush (v := 47) hx hb d_Mac_trapOf_60 (by decide) ?_
              refine lv_icmp_ne (tgt := 81) hx hb d_Mac_trapOf_62 (by decide) (fun h62 => ?_) (fun h62 => ?_)
              · refine lv_iconst (v := 0) hx hb d_Mac_trapOf_81 (by decide) ?_
                exact kp_i F hlocks hret hS d_Mac_trapOf_82 (by unfold sTrap; rw [if_neg h8, if_neg (fun z => h14 z.1), if_neg (fun z => h39 z.2), if_neg (fun z => h54 z.2), if_neg (fun z => h62 z.1)])
              · refine lv_aload_n hx hb d_Mac_trapOf_65 rfl (lv_at hl 0 rfl) ?_
                refine va_get (D := Dg) (ci := 1) (v := .ref (a 1)) (C := R_Mac) (T := F_Mac) (N := 10) hx hb hT in_Mac hown hK hP 0 rfl rfl 0 (by decide) (hT _ tw1_67) (fun _ h9 => h9) rfl d_Mac_trapOf_66 ?_
                refine lv_aload_n hx hb d_Mac_trapOf_69 rfl (lv_at hl 0 rfl) ?_
                refine va_get (D := Dg) (ci := 1) (v := .int (M 4 0)) (C := R_Mac) (T := F_Mac) (N := 10) hx hb hT in_Mac hown hK hP 0 rfl rfl 4 (by decide) (hT _ tw1_74) (fun _ h9 => h9) rfl d_Mac_trapOf_70 ?_
                refine lv_iconst (v := 1) hx hb d_Mac_trapOf_73 (by decide) ?_
                refine lv_isub hx hb d_Mac_trapOf_74 ?_
                refine va_iald (f := (M 0)) hx hb hK hP 1 0 rfl rfl (tr_div hm h62 h8) d_Mac_trapOf_75 ?_
                refine lv_if_ne (tgt := 81) hx hb d_Mac_trapOf_76 (by decide) (fun h76 => ?_) (fun h76 => ?_)
                · refine lv_iconst (v := 0) hx hb d_Mac_trapOf_81 (by decide) ?_
                  exact kp_i F hlocks hret hS d_Mac_trapOf_82 (by unfold sTrap; rw [if_neg h8, if_neg (fun z => h14 z.1), if_neg (fun z => h39 z.2), if_neg (fun z => h54 z.2), if_neg (fun z => h76 z.2)])
                · refine lv_iconst (v := 3) hx hb d_Mac_trapOf_79 (by decide) ?_
                  exact kp_i F hlocks hret hS d_Mac_trapOf_80 (by unfold sTrap; rw [if_neg h8, if_neg (fun z => h14 z.1), if_neg (fun z => h39 z.2), if_neg (fun z => h54 z.2), if_pos ⟨h62, h76⟩])
            · refine lv_iconst (v := 2) hx hb d_Mac_trapOf_57 (by decide) ?_
              exact kp_i F hlocks hret hS d_Mac_trapOf_58 (by unfold sTrap; rw [if_neg h8, if_neg (fun z => h14 z.1), if_neg (fun z => h39 z.2), if_pos ⟨h45, h54⟩])
    · refine lv_aload_n hx hb d_Mac_trapOf_17 rfl (lv_at hl 0 rfl) ?_
      refine va_get (D := Dg) (ci := 1) (v := .int (M 4 1)) (C := R_Mac) (T := F_Mac) (N := 10) hx hb hT in_Mac hown hK hP 0 rfl rfl 5 (by decide) (hT _ tw1_76) (fun _ h9 => h9) rfl d_Mac_trapOf_18 ?_
      refine lv_if_ne (tgt := 26) hx hb d_Mac_trapOf_21 (by decide) (fun h21 => ?_) (fun h21 => ?_)
      · refine lv_iload_n hx hb d_Mac_trapOf_26 rfl (lv_at hl 1 rfl) ?_
        refine kp_S F (c_Mac_putsOneMore l Dg k c _) kx_K hK kw_Mac_85 tw2_163 hS d_Mac_trapOf_27 ⟨⟨by decide, by decide⟩, Nat.le_refl _, Nat.le_refl _⟩ rfl hl.1 rfl (Nat.le_of_ble_eq_true rfl) (fun locs hS => ?_)
        refine lv_if_eq (tgt := 42) hx hb d_Mac_trapOf_30 (by decide) (fun h30 => ?_) (fun h30 => ?_)
        · refine lv_iload_n hx hb d_Mac_trapOf_42 rfl (lv_at hl 1 rfl) ?_
          refine lv_bipush (v := 67) hx hb d_Mac_trapOf_43 (by decide) ?_
          refine lv_icmp_ne (tgt := 59) hx hb d_Mac_trapOf_45 (by decide) (fun h45 => ?_) (fun h45 => ?_)
          · refine lv_iload_n hx hb d_Mac_trapOf_59 rfl (lv_at hl 1 rfl) ?_
            refine lv_bipush (v := 47) hx hb d_Mac_trapOf_60 (by decide) ?_
            refine lv_icmp_ne (tgt := 81) hx hb d_Mac_trapOf_62 (by decide) (fun h62 => ?_) (fun h62 => ?_)
            · refine lv_iconst (v := 0) hx hb d_Mac_trapOf_81 (by decide) ?_
              exact kp_i F hlocks hret hS d_Mac_trapOf_82 (by unfold sTrap; rw [if_neg h8, if_neg (fun z => h21 z.2), if_neg (fun z => z.1 h30), if_neg (fun z => h45 z.1), if_neg (fun z => h62 z.1)])
            · refine lv_aload_n hx hb d_Mac_trapOf_65 rfl (lv_at hl 0 rfl) ?_
              refine va_get (D := Dg) (ci := 1) (v := .ref (a 1)) (C := R_Mac) (T := F_Mac) (N := 10) hx hb hT in_Mac hown hK hP 0 rfl rfl 0 (by decide) (hT _ tw1_67) (fun _ h9 => h9) rfl d_Mac_trapOf_66 ?_
              refine lv_aload_n hx hb d_Mac_trapOf_69 rfl (lv_at hl 0 rfl) ?_
              refine va_get (D := Dg) (ci := 1) (v := .int (M 4 0)) (C := R_Mac) (T := F_Mac) (N := 10) hx hb hT in_Mac hown hK hP 0 rfl rfl 4 (by decide) (hT _ tw1_74) (fun _ h9 => h9) rfl d_Mac_trapOf_70 ?_
              refine lv_iconst (v := 1) hx hb d_Mac_trapOf_73 (by decide) ?_
              refine lv_isub hx hb d_Mac_trapOf_74 ?_
              refine va_iald (f := (M 0)) hx hb hK hP 1 0 rfl rfl (tr_div hm h62 h8) d_Mac_trapOf_75 ?_
              refine lv_if_ne (tgt := 81) hx hb d_Mac_trapOf_76 (by decide) (fun h76 => ?_) (fun h76 => ?_)
              · refine lv_iconst (v := 0) hx hb d_Mac_trapOf_81 (by decide) ?_
                exact kp_i F hlocks hret hS d_Mac_trapOf_82 (by unfold sTrap; rw [if_neg h8, if_neg (fun z => h21 z.2), if_neg (fun z => z.1 h30), if_neg (fun z => h45 z.1), if_neg (fun z => h76 z.2)])
              · refine lv_iconst (v := 3) hx hb d_Mac_trapOf_79 (by decide) ?_
                exact kp_i F hlocks hret hS d_Mac_trapOf_80 (by unfold sTrap; rw [if_neg h8, if_neg (fun z => h21 z.2), if_neg (fun z => z.1 h30), if_neg (fun z => h45 z.1), if_pos ⟨h62, h76⟩])
          · refine lv_aload_n hx hb d_Mac_trapOf_48 rfl (lv_at hl 0 rfl) ?_
            refine va_get (D := Dg) (ci := 1) (v := .int (M 4 1)) (C := R_Mac) (T := F_Mac) (N := 10) hx hb hT in_Mac hown hK hP 0 rfl rfl 5 (by decide) (hT _ tw1_76) (fun _ h9 => h9) rfl d_Mac_trapOf_49 ?_
            refine lv_bipush (v := 10) hx hb d_Mac_trapOf_52 (by decide) ?_
            refine lv_icmp_ne (tgt := 59) hx hb d_Mac_trapOf_54 (by decide) (fun h54 => ?_) (fun h54 => ?_)
            · refine lv_iload_n hx hb d_Mac_trapOf_59 rfl (lv_at hl 1 rfl) ?_
              refine lv_bipush (v := 47) hx hb d_Mac_trapOf_60 (by decide) ?_
              refine lv_icmp_ne (tgt := 81) hx hb d_Mac_trapOf_62 (by decide) (fun h62 => ?_) (fun h62 => ?_)
              · refine lv_iconst (v := 0) hx hb d_Mac_trapOf_81 (by decide) ?_
                exact kp_i F hlocks hret hS d_Mac_trapOf_82 (by unfold sTrap; rw [if_neg h8, if_neg (fun z => h21 z.2), if_neg (fun z => z.1 h30), if_neg (fun z => h54 z.2), if_neg (fun z => h62 z.1)])
              · refine lv_aload_n hx hb d_Mac_trapOf_65 rfl (lv_at hl 0 rfl) ?_
                refine va_get (D := Dg) (ci := 1) (v := .ref (a 1)) (C := R_Mac) (T := F_Mac) (N := 10) hx hb hT in_Mac hown hK hP 0 rfl rfl 0 (by decide) (hT _ tw1_67) (fun _ h9 => h9) rfl d_Mac_trapOf_66 ?_
                refine lv_aload_n hx hb d_Mac_trapOf_69 rfl (lv_at hl 0 rfl) ?_
                refine va_get (D := Dg) (ci := 1) (v := .int (M 4 0)) (C := R_Mac) (T := F_Mac) (N := 10) hx hb hT in_Mac hown hK hP 0 rfl rfl 4 (by decide) (hT _ tw1_74) (fun _ h9 => h9) rfl d_Mac_trapOf_70 ?_
                refine lv_iconst (v := 1) hx hb d_Mac_trapOf_73 (by decide) ?_
                refine lv_isub hx hb d_Mac_trapOf_74 ?_
                refine va_iald (f := (M 0)) hx hb hK hP 1 0 rfl rfl (tr_div hm h62 h8) d_Mac_trapOf_75 ?_
                refine lv_if_ne (tgt := 81) hx hb d_Mac_trapOf_76 (by decide) (fun h76 => ?_) (fun h76 => ?_)
                · refine lv_iconst (v := 0) hx hb d_Mac_trapOf_81 (by decide) ?_
                  exact kp_i F hlocks hret hS d_Mac_trapOf_82 (by unfold sTrap; rw [if_neg h8, if_neg (fun z => h21 z.2), if_neg (fun z => z.1 h30), if_neg (fun z => h54 z.2), if_neg (fun z => h76 z.2)])
                · refine lv_iconst (v := 3) hx hb d_Mac_trapOf_79 (by decide) ?_
                  exact kp_i F hlocks hret hS d_Mac_trapOf_80 (by unfold sTrap; rw [if_neg h8, if_neg (fun z => h21 z.2), if_neg (fun z => z.1 h30), if_neg (fun z => h54 z.2), if_pos ⟨h62, h76⟩])
            · refine lv_iconst (v := 2) hx hb d_Mac_trapOf_57 (by decide) ?_
              exact kp_i F hlocks hret hS d_Mac_trapOf_58 (by unfold sTrap; rw [if_neg h8, if_neg (fun z => h21 z.2), if_neg (fun z => z.1 h30), if_pos ⟨h45, h54⟩])
        · refine lv_aload_n hx hb d_Mac_trapOf_33 rfl (lv_at hl 0 rfl) ?_
          refine va_get (D := Dg) (ci := 1) (v := .int (M 4 0)) (C := R_Mac) (T := F_Mac) (N := 10) hx hb hT in_Mac hown hK hP 0 rfl rfl 4 (by decide) (hT _ tw1_74) (fun _ h9 => h9) rfl d_Mac_trapOf_34 ?_
          refine lv_bipush (v := 40) hx hb d_Mac_trapOf_37 (by decide) ?_
          refine lv_icmp_eq (tgt := 57) hx hb d_Mac_trapOf_39 (by decide) (fun h39 => ?_) (fun h39 => ?_)
          · refine lv_iconst (v := 2) hx hb d_Mac_trapOf_57 (by decide) ?_
            exact kp_i F hlocks hret hS d_Mac_trapOf_58 (by unfold sTrap; rw [if_neg h8, if_neg (fun z => h21 z.2), if_pos ⟨h30, h39⟩])
          · refine lv_iload_n hx hb d_Mac_trapOf_42 rfl (lv_at hl 1 rfl) ?_
            refine lv_bipush (v := 67) hx hb d_Mac_trapOf_43 (by decide) ?_
            refine lv_icmp_ne (tgt := 59) hx hb d_Mac_trapOf_45 (by decide) (fun h45 => ?_) (fun h45 => ?_)
            · refine lv_iload_n hx hb d_Mac_trapOf_59 rfl (lv_at hl 1 rfl) ?_
              refine lv_bipush (v := 47) hx hb d_Mac_trapOf_60 (by decide) ?_
              refine lv_icmp_ne (tgt := 81) hx hb d_Mac_trapOf_62 (by decide) (fun h62 => ?_) (fun h62 => ?_)
              · refine lv_iconst (v := 0) hx hb d_Mac_trapOf_81 (by decide) ?_
                exact kp_i F hlocks hret hS d_Mac_trapOf_82 (by unfold sTrap; rw [if_neg h8, if_neg (fun z => h21 z.2), if_neg (fun z => h39 z.2), if_neg (fun z => h45 z.1), if_neg (fun z => h62 z.1)])
              · refine lv_aload_n hx hb d_Mac_trapOf_65 rfl (lv_at hl 0 rfl) ?_
                refine va_get (D := Dg) (ci := 1) (v := .ref (a 1)) (C := R_Mac) (T := F_Mac) (N := 10) hx hb hT in_Mac hown hK hP 0 rfl rfl 0 (by decide) (hT _ tw1_67) (fun _ h9 => h9) rfl d_Mac_trapOf_66 ?_
                refine lv_aload_n hx hb d_Mac_trapOf_69 rfl (lv_at hl 0 rfl) ?_
                refine va_get (D := Dg) (ci := 1) (v := .int (M 4 0)) (C := R_Mac) (T := F_Mac) (N := 10) hx hb hT in_Mac hown hK hP 0 rfl rfl 4 (by decide) (hT _ tw1_74) (fun _ h9 => h9) rfl d_Mac_trapOf_70 ?_
                refine lv_iconst (v := 1) hx hb d_Mac_trapOf_73 (by decide) ?_
                refine lv_isub hx hb d_Mac_trapOf_74 ?_
                refine va_iald (f := (M 0)) hx hb hK hP 1 0 rfl rfl (tr_div hm h62 h8) d_Mac_trapOf_75 ?_
                refine lv_if_ne (tgt := 81) hx hb d_Mac_trapOf_76 (by decide) (fun h76 => ?_) (fun h76 => ?_)
                · refine lv_iconst (v := 0) hx hb d_Mac_trapOf_81 (by decide) ?_
                  exact kp_i F hlocks hret hS d_Mac_trapOf_82 (by unfold sTrap; rw [if_neg h8, if_neg (fun z => h21 z.2), if_neg (fun z => h39 z.2), if_neg (fun z => h45 z.1), if_neg (fun z => h76 z.2)])
                · refine lv_iconst (v := 3) hx hb d_Mac_trapOf_79 (by decide) ?_
                  exact kp_i F hlocks hret hS d_Mac_trapOf_80 (by unfold sTrap; rw [if_neg h8, if_neg (fun z => h21 z.2), if_neg (fun z => h39 z.2), if_neg (fun z => h45 z.1), if_pos ⟨h62, h76⟩])
            · refine lv_aload_n hx hb d_Mac_trapOf_48 rfl (lv_at hl 0 rfl) ?_
              refine va_get (D := Dg) (ci := 1) (v := .int (M 4 1)) (C := R_Mac) (T := F_Mac) (N := 10) hx hb hT in_Mac hown hK hP 0 rfl rfl 5 (by decide) (hT _ tw1_76) (fun _ h9 => h9) rfl d_Mac_trapOf_49 ?_
              refine lv_bipush (v := 10) hx hb d_Mac_trapOf_52 (by decide) ?_
              refine lv_icmp_ne (tgt := 59) hx hb d_Mac_trapOf_54 (by decide) (fun h54 => ?_) (fun h54 => ?_)
              · refine lv_iload_n hx hb d_Mac_trapOf_59 rfl (lv_at hl 1 rfl) ?_
                refine lv_bipush (v := 47) hx hb d_Mac_trapOf_60 (by decide) ?_
                refine lv_icmp_ne (tgt := 81) hx hb d_Mac_trapOf_62 (by decide) (fun h62 => ?_) (fun h62 => ?_)
                · refine lv_iconst (v := 0) hx hb d_Mac_trapOf_81 (by decide) ?_
                  exact kp_i F hlocks hret hS d_Mac_trapOf_82 (by unfold sTrap; rw [if_neg h8, if_neg (fun z => h21 z.2), if_neg (fun z => h39 z.2), if_neg (fun z => h54 z.2), if_neg (fun z => h62 z.1)])
                · refine lv_aload_n hx hb d_Mac_trapOf_65 rfl (lv_at hl 0 rfl) ?_
                  refine va_get (D := Dg) (ci := 1) (v := .ref (a 1)) (C := R_Mac) (T := F_Mac) (N := 10) hx hb hT in_Mac hown hK hP 0 rfl rfl 0 (by decide) (hT _ tw1_67) (fun _ h9 => h9) rfl d_Mac_trapOf_66 ?_
                  refine lv_aload_n hx hb d_Mac_trapOf_69 rfl (lv_at hl 0 rfl) ?_
                  refine va_get (D := Dg) (ci := 1) (v := .int (M 4 0)) (C := R_Mac) (T := F_Mac) (N := 10) hx hb hT in_Mac hown hK hP 0 rfl rfl 4 (by decide) (hT _ tw1_74) (fun _ h9 => h9) rfl d_Mac_trapOf_70 ?_
                  refine lv_iconst (v := 1) hx hb d_Mac_trapOf_73 (by decide) ?_
                  refine lv_isub hx hb d_Mac_trapOf_74 ?_
                  refine va_iald (f := (M 0)) hx hb hK hP 1 0 rfl rfl (tr_div hm h62 h8) d_Mac_trapOf_75 ?_
                  refine lv_if_ne (tgt := 81) hx hb d_Mac_trapOf_76 (by decide) (fun h76 => ?_) (fun h76 => ?_)
                  · refine lv_iconst (v := 0) hx hb d_Mac_trapOf_81 (by decide) ?_
                    exact kp_i F hlocks hret hS d_Mac_trapOf_82 (by unfold sTrap; rw [if_neg h8, if_neg (fun z => h21 z.2), if_neg (fun z => h39 z.2), if_neg (fun z => h54 z.2), if_neg (fun z => h76 z.2)])
                  · refine lv_iconst (v := 3) hx hb d_Mac_trapOf_79 (by decide) ?_
                    exact kp_i F hlocks hret hS d_Mac_trapOf_80 (by unfold sTrap; rw [if_neg h8, if_neg (fun z => h21 z.2), if_neg (fun z => h39 z.2), if_neg (fun z => h54 z.2), if_pos ⟨h62, h76⟩])
              · refine lv_iconst (v := 2) hx hb d_Mac_trapOf_57 (by decide) ?_
                exact kp_i F hlocks hret hS d_Mac_trapOf_58 (by unfold sTrap; rw [if_neg h8, if_neg (fun z => h21 z.2), if_neg (fun z => h39 z.2), if_pos ⟨h45, h54⟩])
      · refine lv_iconst (v := 1) hx hb d_Mac_trapOf_24 (by decide) ?_
        exact kp_i F hlocks hret hS d_Mac_trapOf_25 (by unfold sTrap; rw [if_neg h8, if_pos ⟨h14, h21⟩])

set_option maxRecDepth 100000 in
set_option maxHeartbeats 4000000 in
theorem c_Mac_act (l : Launch) (Dg : va_G) (a : Nat → Nat) (k : Nat → ClassId) (M : vSt) (c n : Int32) (H : Heap) (hP : va_P Dg classes (wM a k M) H) (hD : va_D (fun _ => True) (wM a k M)) (hc : okC c) (hm : mOk M) (ht : sTrap M c = 0) (hn : c = 76 ∨ c = 83 → vp_in n 8) : kMv l y_Mac_act b_Mac_act 4 2 45 [.ref (a 0), .int c, .int n] H (va_K Dg classes (kTy k)) Dg (wM a k M) (wM a k (sAct M c n)) := by
  refine k_of (by decide) (Nat.le_of_ble_eq_true rfl) ?_
  intro p e s m below meth cd ls F hlocks hret hname hh hX hl
  subst hh
  obtain ⟨hx, hb, hml, hown, hT⟩ := id F
  have hK : va_K Dg classes (kTy k) s := hX
  have hA : ∀ q : Nat, s.heap.size ≤ q → va_A (wM a k M) s.heap.size q := fun q h => Or.inr h
  have hD := hD.self (sz := s.heap.size)
  have hS : va_S (va_A (wM a k M) s.heap.size) s.heap s.heap [] := va_S.rf
  have hl : lv_has ls 4 [(0, .ref (a 0)), (1, .int c), (2, .int n)] := hl
  rcases hc with rfl | rfl | rfl | rfl | rfl | rfl | rfl | rfl | rfl | rfl | rfl | rfl | rfl | rfl | rfl | rfl | rfl | rfl
  · obtain ⟨h, r, o, e0, e1, e2, b0, b1, b2, c1, c2, c3, c4, c5⟩ := tr_all hm ht
    have h40 : h < 40 := by rcases Nat.lt_or_ge h 40 with q | q; exact q; exact absurd ⟨by decide, by omega⟩ c3
    refine lv_aload_n hx hb d_Mac_act_0 rfl (lv_at hl 0 rfl) ?_
    refine va_get (D := Dg) (ci := 1) (v := .int (M 4 3)) (C := R_Mac) (T := F_Mac) (N := 10) hx hb hT in_Mac hown hK hP 0 rfl rfl 7 (by decide) (hT _ tw1_78) (fun _ h9 => h9) rfl d_Mac_act_1 ?_
    refine lv_iconst (v := 1) hx hb d_Mac_act_4 (by decide) ?_
    refine lv_iadd hx hb d_Mac_act_5 ?_
    refine lv_istore_n hx hb d_Mac_act_6 rfl hl (by decide) rfl (fun ls hl => ?_)
    have hl : lv_has ls 4 [(3, .int ((M 4 3) + 1)), (0, .ref (a 0)), (1, .int 80), (2, .int n)] := hl
    refine lv_iload_n hx hb d_Mac_act_7 rfl (lv_at hl 2 rfl) ?_
    refine lv_tableIn (x := 80) (off := 112) (tgt := 120) hx hb d_Mac_act_8 (by decide) (by decide) rfl (by decide) ?_
    refine lv_aload_n hx hb d_Mac_act_120 rfl (lv_at hl 1 rfl) ?_
    refine lv_iload_n hx hb d_Mac_act_121 rfl (lv_at hl 3 rfl) ?_
    refine km_Vv (wr := []) F (c_Mac_push l Dg a k M n _ hP (hD.weaken (fun _ _ _ _ => trivial)) (in_0 e0 h40 (by decide))) kx_K hK kw_Mac_88 tw2_171 ts_10 (va_recv (ci := 1) (q0 := 0) hK hP rfl rfl) hP hD hS hA [0, 1, 2, 3, 4] [] rfl rfl (by decide) (by decide) d_Mac_act_122 ⟨⟨by decide, by decide⟩, Nat.le_refl _, Nat.le_refl _⟩ rfl hl.1 rfl (Nat.le_of_ble_eq_true rfl) (fun H locs hP hD hS => ?_)
    have hP : va_P Dg classes (wM a k (sPush M n)) H := hP
    have hD : va_D (va_A (wM a k M) s.heap.size) (wM a k (sPush M n)) := hD
    obtain ⟨Ms1, hMs1⟩ : ∃ z, z = (sPush M n) := ⟨_, rfl⟩
    rw [← hMs1] at hP hD
    refine lv_goto (tgt := 285) hx hb d_Mac_act_125 (by decide) ?_
    refine lv_aload_n hx hb d_Mac_act_285 rfl (lv_at hl 1 rfl) ?_
    refine lv_iload_n hx hb d_Mac_act_286 rfl (lv_at hl 0 rfl) ?_
    refine va_put (D := Dg) (ci := 1) (v := .int ((M 4 3) + 1)) (ty := .int) (C := R_Mac) (T := F_Mac) (N := 10) hx hb hT in_Mac t_Mac t_Mac_ok n_Mac hown hK hP hD hS 0 rfl rfl 7 (by decide) (hT _ tw1_78) (fun _ h9 => h9) rfl (by decide +kernel) rfl rfl (Nat.le_of_ble_eq_true rfl) d_Mac_act_287 (fun H locs hP hD hS => ?_)
    have hP : va_P Dg classes (wM a k (u2 Ms1 4 3 ((M 4 3) + 1))) H := hP
    have hD : va_D (va_A (wM a k M) s.heap.size) (wM a k (u2 Ms1 4 3 ((M 4 3) + 1))) := hD
    obtain ⟨Ms2, hMs2⟩ : ∃ z, z = (u2 Ms1 4 3 ((M 4 3) + 1)) := ⟨_, rfl⟩
    rw [← hMs2] at hP hD
    exact km_v F hlocks hret hP hD hS d_Mac_act_290 (by subst hMs2 hMs1; rfl)
  · obtain ⟨h, r, o, e0, e1, e2, b0, b1, b2, c1, c2, c3, c4, c5⟩ := tr_all hm ht
    have h40 : h < 40 := by rcases Nat.lt_or_ge h 40 with q | q; exact q; exact absurd ⟨by decide, by omega⟩ c3
    refine lv_aload_n hx hb d_Mac_act_0 rfl (lv_at hl 0 rfl) ?_
    refine va_get (D := Dg) (ci := 1) (v := .int (M 4 3)) (C := R_Mac) (T := F_Mac) (N := 10) hx hb hT in_Mac hown hK hP 0 rfl rfl 7 (by decide) (hT _ tw1_78) (fun _ h9 => h9) rfl d_Mac_act_1 ?_
    refine lv_iconst (v := 1) hx hb d_Mac_act_4 (by decide) ?_
    refine lv_iadd hx hb d_Mac_act_5 ?_
    refine lv_istore_n hx hb d_Mac_act_6 rfl hl (by decide) rfl (fun ls hl => ?_)
    have hl : lv_has ls 4 [(3, .int ((M 4 3) + 1)), (0, .ref (a 0)), (1, .int 76), (2, .int n)] := hl
    refine lv_iload_n hx hb d_Mac_act_7 rfl (lv_at hl 2 rfl) ?_
    refine lv_tableIn (x := 76) (off := 120) (tgt := 128) hx hb d_Mac_act_8 (by decide) (by decide) rfl (by decide) ?_
    refine lv_aload_n hx hb d_Mac_act_128 rfl (lv_at hl 1 rfl) ?_
    refine lv_aload_n hx hb d_Mac_act_129 rfl (lv_at hl 1 rfl) ?_
    refine va_get (D := Dg) (ci := 1) (v := .ref (a 2)) (C := R_Mac) (T := F_Mac) (N := 10) hx hb hT in_Mac hown hK hP 0 rfl rfl 1 (by decide) (hT _ tw1_69) (fun _ h9 => h9) rfl d_Mac_act_130 ?_
    refine lv_iload_n hx hb d_Mac_act_133 rfl (lv_at hl 3 rfl) ?_
    refine va_iald (f := (M 1)) hx hb hK hP 2 0 rfl rfl (hn (Or.inl rfl)) d_Mac_act_134 ?_
    refine km_Vv (wr := []) F (c_Mac_push l Dg a k M ((M 1) n.toNatClampNeg) _ hP (hD.weaken (fun _ _ _ _ => trivial)) (in_0 e0 h40 (by decide))) kx_K hK kw_Mac_88 tw2_171 ts_10 (va_recv (ci := 1) (q0 := 0) hK hP rfl rfl) hP hD hS hA [0, 1, 2, 3, 4] [] rfl rfl (by decide) (by decide) d_Mac_act_135 ⟨⟨by decide, by decide⟩, Nat.le_refl _, Nat.le_refl _⟩ rfl hl.1 rfl (Nat.le_of_ble_eq_true rfl) (fun H locs hP hD hS => ?_)
    have hP : va_P Dg classes (wM a k (sPush M ((M 1) n.toNatClampNeg))) H := hP
    have hD : va_D (va_A (wM a k M) s.heap.size) (wM a k (sPush M ((M 1) n.toNatClampNeg))) := hD
    obtain ⟨Ms3, hMs3⟩ : ∃ z, z = (sPush M ((M 1) n.toNatClampNeg)) := ⟨_, rfl⟩
    rw [← hMs3] at hP hD
    refine lv_goto (tgt := 285) hx hb d_Mac_act_138 (by decide) ?_
    refine lv_aload_n hx hb d_Mac_act_285 rfl (lv_at hl 1 rfl) ?_
    refine lv_iload_n hx hb d_Mac_act_286 rfl (lv_at hl 0 rfl) ?_
    refine va_put (D := Dg) (ci := 1) (v := .int ((M 4 3) + 1)) (ty := .int) (C := R_Mac) (T := F_Mac) (N := 10) hx hb hT in_Mac t_Mac t_Mac_ok n_Mac hown hK hP hD hS 0 rfl rfl 7 (by decide) (hT _ tw1_78) (fun _ h9 => h9) rfl (by decide +kernel) rfl rfl (Nat.le_of_ble_eq_true rfl) d_Mac_act_287 (fun H locs hP hD hS => ?_)
    have hP : va_P Dg classes (wM a k (u2 Ms3 4 3 ((M 4 3) + 1))) H := hP
    have hD : va_D (va_A (wM a k M) s.heap.size) (wM a k (u2 Ms3 4 3 ((M 4 3) + 1))) := hD
    obtain ⟨Ms4, hMs4⟩ : ∃ z, z = (u2 Ms3 4 3 ((M 4 3) + 1)) := ⟨_, rfl⟩
    rw [← hMs4] at hP hD
    exact km_v F hlocks hret hP hD hS d_Mac_act_290 (by subst hMs4 hMs3; rfl)
  · obtain ⟨h, r, o, e0, e1, e2, b0, b1, b2, c1, c2, c3, c4, c5⟩ := tr_all hm ht
    have hd := tr_n (d := 1) (by decide) c1
    refine lv_aload_n hx hb d_Mac_act_0 rfl (lv_at hl 0 rfl) ?_
    refine va_get (D := Dg) (ci := 1) (v := .int (M 4 3)) (C := R_Mac) (T := F_Mac) (N := 10) hx hb hT in_Mac hown hK hP 0 rfl rfl 7 (by decide) (hT _ tw1_78) (fun _ h9 => h9) rfl d_Mac_act_1 ?_
    refine lv_iconst (v := 1) hx hb d_Mac_act_4 (by decide) ?_
    refine lv_iadd hx hb d_Mac_act_5 ?_
    refine lv_istore_n hx hb d_Mac_act_6 rfl hl (by decide) rfl (fun ls hl => ?_)
    have hl : lv_has ls 4 [(3, .int ((M 4 3) + 1)), (0, .ref (a 0)), (1, .int 83), (2, .int n)] := hl
    refine lv_iload_n hx hb d_Mac_act_7 rfl (lv_at hl 2 rfl) ?_
    refine lv_tableIn (x := 83) (off := 133) (tgt := 141) hx hb d_Mac_act_8 (by decide) (by decide) rfl (by decide) ?_
    refine lv_aload_n hx hb d_Mac_act_141 rfl (lv_at hl 1 rfl) ?_
    refine va_get (D := Dg) (ci := 1) (v := .ref (a 2)) (C := R_Mac) (T := F_Mac) (N := 10) hx hb hT in_Mac hown hK hP 0 rfl rfl 1 (by decide) (hT _ tw1_69) (fun _ h9 => h9) rfl d_Mac_act_142 ?_
    refine lv_iload_n hx hb d_Mac_act_145 rfl (lv_at hl 3 rfl) ?_
    refine lv_aload_n hx hb d_Mac_act_146 rfl (lv_at hl 1 rfl) ?_
    refine km_Vi (wr := []) F (c_Mac_pop l Dg a k M  _ hP (hD.weaken (fun _ _ _ _ => trivial)) (in_1 e0 hd b0 (by decide))) kx_K hK kw_Mac_92 tw2_175 ts_11 (va_recv (ci := 1) (q0 := 0) hK hP rfl rfl) hP hD hS hA [0, 1, 2, 3, 4] [] rfl rfl (by decide) (by decide) d_Mac_act_147 ⟨⟨by decide, by decide⟩, Nat.le_refl _, Nat.le_refl _⟩ rfl hl.1 rfl (Nat.le_of_ble_eq_true rfl) (fun H locs hP hD hS => ?_)
    have hP : va_P Dg classes (wM a k (sPop M)) H := hP
    have hD : va_D (va_A (wM a k M) s.heap.size) (wM a k (sPop M)) := hD
    obtain ⟨Ms5, hMs5⟩ : ∃ z, z = (sPop M) := ⟨_, rfl⟩
    rw [← hMs5] at hP hD
    refine va_iast hx hb hK hP hD hS 2 0 rfl rfl (hn (Or.inr rfl)) d_Mac_act_150 (fun H locs hP hD hS => ?_)
    have hP : va_P Dg classes (wM a k (u2 Ms5 1 n.toNatClampNeg (sTop M))) H := hP
    have hD : va_D (va_A (wM a k M) s.heap.size) (wM a k (u2 Ms5 1 n.toNatClampNeg (sTop M))) := hD
    obtain ⟨Ms6, hMs6⟩ : ∃ z, z = (u2 Ms5 1 n.toNatClampNeg (sTop M)) := ⟨_, rfl⟩
    rw [← hMs6] at hP hD
    refine lv_goto (tgt := 285) hx hb d_Mac_act_151 (by decide) ?_
    refine lv_aload_n hx hb d_Mac_act_285 rfl (lv_at hl 1 rfl) ?_
    refine lv_iload_n hx hb d_Mac_act_286 rfl (lv_at hl 0 rfl) ?_
    refine va_put (D := Dg) (ci := 1) (v := .int ((M 4 3) + 1)) (ty := .int) (C := R_Mac) (T := F_Mac) (N := 10) hx hb hT in_Mac t_Mac t_Mac_ok n_Mac hown hK hP hD hS 0 rfl rfl 7 (by decide) (hT _ tw1_78) (fun _ h9 => h9) rfl (by decide +kernel) rfl rfl (Nat.le_of_ble_eq_true rfl) d_Mac_act_287 (fun H locs hP hD hS => ?_)
    have hP : va_P Dg classes (wM a k (u2 Ms6 4 3 ((M 4 3) + 1))) H := hP
    have hD : va_D (va_A (wM a k M) s.heap.size) (wM a k (u2 Ms6 4 3 ((M 4 3) + 1))) := hD
    obtain ⟨Ms7, hMs7⟩ : ∃ z, z = (u2 Ms6 4 3 ((M 4 3) + 1)) := ⟨_, rfl⟩
    rw [← hMs7] at hP hD
    exact km_v F hlocks hret hP hD hS d_Mac_act_290 (by subst hMs7 hMs6 hMs5; rfl)
  · obtain ⟨h, r, o, e0, e1, e2, b0, b1, b2, c1, c2, c3, c4, c5⟩ := tr_all hm ht
    have hd := tr_n (d := 2) (by decide) c1
    have c5q : (43 : Int32) = 47 → ¬ sTop M = 0 := fun z w => c5 ⟨z, w⟩
    refine lv_aload_n hx hb d_Mac_act_0 rfl (lv_at hl 0 rfl) ?_
    refine va_get (D := Dg) (ci := 1) (v := .int (M 4 3)) (C := R_Mac) (T := F_Mac) (N := 10) hx hb hT in_Mac hown hK hP 0 rfl rfl 7 (by decide) (hT _ tw1_78) (fun _ h9 => h9) rfl d_Mac_act_1 ?_
    refine lv_iconst (v := 1) hx hb d_Mac_act_4 (by decide) ?_
    refine lv_iadd hx hb d_Mac_act_5 ?_
    refine lv_istore_n hx hb d_Mac_act_6 rfl hl (by decide) rfl (fun ls hl => ?_)
    have hl : lv_has ls 4 [(3, .int ((M 4 3) + 1)), (0, .ref (a 0)), (1, .int 43), (2, .int n)] := hl
    refine lv_iload_n hx hb d_Mac_act_7 rfl (lv_at hl 2 rfl) ?_
    refine lv_tableOut (x := 43) (tgt := 280) hx hb d_Mac_act_8 (by decide) (by decide) ?_
    refine lv_aload_n hx hb d_Mac_act_280 rfl (lv_at hl 1 rfl) ?_
    refine lv_iload_n hx hb d_Mac_act_281 rfl (lv_at hl 2 rfl) ?_
    refine km_Vv (wr := []) F (c_Mac_combine l Dg a k M 43 _ hP (hD.weaken (fun _ _ _ _ => trivial)) (by decide) (in_1 e0 (by omega) b0 (by decide)) (in_11 e0 hd b0 (by decide)) (fun z => c5q z)) kx_K hK kw_Mac_102 tw2_187 ts_14 (va_recv (ci := 1) (q0 := 0) hK hP rfl rfl) hP hD hS hA [0, 1, 2, 3, 4] [] rfl rfl (by decide) (by decide) d_Mac_act_282 ⟨⟨by decide, by decide⟩, Nat.le_refl _, Nat.le_refl _⟩ rfl hl.1 rfl (Nat.le_of_ble_eq_true rfl) (fun H locs hP hD hS => ?_)
    have hP : va_P Dg classes (wM a k (sComb M 43)) H := hP
    have hD : va_D (va_A (wM a k M) s.heap.size) (wM a k (sComb M 43)) := hD
    obtain ⟨Ms8, hMs8⟩ : ∃ z, z = (sComb M 43) := ⟨_, rfl⟩
    rw [← hMs8] at hP hD
    refine lv_aload_n hx hb d_Mac_act_285 rfl (lv_at hl 1 rfl) ?_
    refine lv_iload_n hx hb d_Mac_act_286 rfl (lv_at hl 0 rfl) ?_
    refine va_put (D := Dg) (ci := 1) (v := .int ((M 4 3) + 1)) (ty := .int) (C := R_Mac) (T := F_Mac) (N := 10) hx hb hT in_Mac t_Mac t_Mac_ok n_Mac hown hK hP hD hS 0 rfl rfl 7 (by decide) (hT _ tw1_78) (fun _ h9 => h9) rfl (by decide +kernel) rfl rfl (Nat.le_of_ble_eq_true rfl) d_Mac_act_287 (fun H locs hP hD hS => ?_)
    have hP : va_P Dg classes (wM a k (u2 Ms8 4 3 ((M 4 3) + 1))) H := hP
    have hD : va_D (va_A (wM a k M) s.heap.size) (wM a k (u2 Ms8 4 3 ((M 4 3) + 1))) := hD
    obtain ⟨Ms9, hMs9⟩ : ∃ z, z = (u2 Ms8 4 3 ((M 4 3) + 1)) := ⟨_, rfl⟩
    rw [← hMs9] at hP hD
    exact km_v F hlocks hret hP hD hS d_Mac_act_290 (by subst hMs9 hMs8; rfl)
  · obtain ⟨h, r, o, e0, e1, e2, b0, b1, b2, c1, c2, c3, c4, c5⟩ := tr_all hm ht
    have hd := tr_n (d := 2) (by decide) c1
    have c5q : (45 : Int32) = 47 → ¬ sTop M = 0 := fun z w => c5 ⟨z, w⟩
    refine lv_aload_n hx hb d_Mac_act_0 rfl (lv_at hl 0 rfl) ?_
    refine va_get (D := Dg) (ci := 1) (v := .int (M 4 3)) (C := R_Mac) (T := F_Mac) (N := 10) hx hb hT in_Mac hown hK hP 0 rfl rfl 7 (by decide) (hT _ tw1_78) (fun _ h9 => h9) rfl d_Mac_act_1 ?_
    refine lv_iconst (v := 1) hx hb d_Mac_act_4 (by decide) ?_
    refine lv_iadd hx hb d_Mac_act_5 ?_
    refine lv_istore_n hx hb d_Mac_act_6 rfl hl (by decide) rfl (fun ls hl => ?_)
    have hl : lv_has ls 4 [(3, .int ((M 4 3) + 1)), (0, .ref (a 0)), (1, .int 45), (2, .int n)] := hl
    refine lv_iload_n hx hb d_Mac_act_7 rfl (lv_at hl 2 rfl) ?_
    refine lv_tableOut (x := 45) (tgt := 280) hx hb d_Mac_act_8 (by decide) (by decide) ?_
    refine lv_aload_n hx hb d_Mac_act_280 rfl (lv_at hl 1 rfl) ?_
    refine lv_iload_n hx hb d_Mac_act_281 rfl (lv_at hl 2 rfl) ?_
    refine km_Vv (wr := []) F (c_Mac_combine l Dg a k M 45 _ hP (hD.weaken (fun _ _ _ _ => trivial)) (by decide) (in_1 e0 (by omega) b0 (by decide)) (in_11 e0 hd b0 (by decide)) (fun z => c5q z)) kx_K hK kw_Mac_102 tw2_187 ts_14 (va_recv (ci := 1) (q0 := 0) hK hP rfl rfl) hP hD hS hA [0, 1, 2, 3, 4] [] rfl rfl (by decide) (by decide) d_Mac_act_282 ⟨⟨by decide, by decide⟩, Nat.le_refl _, Nat.le_refl _⟩ rfl hl.1 rfl (Nat.le_of_ble_eq_true rfl) (fun H locs hP hD hS => ?_)
    have hP : va_P Dg classes (wM a k (sComb M 45)) H := hP
    have hD : va_D (va_A (wM a k M) s.heap.size) (wM a k (sComb M 45)) := hD
    obtain ⟨Ms10, hMs10⟩ : ∃ z, z = (sComb M 45) := ⟨_, rfl⟩
    rw [← hMs10] at hP hD
    refine lv_aload_n hx hb d_Mac_act_285 rfl (lv_at hl 1 rfl) ?_
    refine lv_iload_n hx hb d_Mac_act_286 rfl (lv_at hl 0 rfl) ?_
    refine va_put (D := Dg) (ci := 1) (v := .int ((M 4 3) + 1)) (ty := .int) (C := R_Mac) (T := F_Mac) (N := 10) hx hb hT in_Mac t_Mac t_Mac_ok n_Mac hown hK hP hD hS 0 rfl rfl 7 (by decide) (hT _ tw1_78) (fun _ h9 => h9) rfl (by decide +kernel) rfl rfl (Nat.le_of_ble_eq_true rfl) d_Mac_act_287 (fun H locs hP hD hS => ?_)
    have hP : va_P Dg classes (wM a k (u2 Ms10 4 3 ((M 4 3) + 1))) H := hP
    have hD : va_D (va_A (wM a k M) s.heap.size) (wM a k (u2 Ms10 4 3 ((M 4 3) + 1))) := hD
    obtain ⟨Ms11, hMs11⟩ : ∃ z, z = (u2 Ms10 4 3 ((M 4 3) + 1)) := ⟨_, rfl⟩
    rw [← hMs11] at hP hD
    exact km_v F hlocks hret hP hD hS d_Mac_act_290 (by subst hMs11 hMs10; rfl)
  · obtain ⟨h, r, o, e0, e1, e2, b0, b1, b2, c1, c2, c3, c4, c5⟩ := tr_all hm ht
    have hd := tr_n (d := 2) (by decide) c1
    have c5q : (42 : Int32) = 47 → ¬ sTop M = 0 := fun z w => c5 ⟨z, w⟩
    refine lv_aload_n hx hb d_Mac_act_0 rfl (lv_at hl 0 rfl) ?_
    refine va_get (D := Dg) (ci := 1) (v := .int (M 4 3)) (C := R_Mac) (T := F_Mac) (N := 10) hx hb hT in_Mac hown hK hP 0 rfl rfl 7 (by decide) (hT _ tw1_78) (fun _ h9 => h9) rfl d_Mac_act_1 ?_
    refine lv_iconst (v := 1) hx hb d_Mac_act_4 (by decide) ?_
    refine lv_iadd hx hb d_Mac_act_5 ?_
    refine lv_istore_n hx hb d_Mac_act_6 rfl hl (by decide) rfl (fun ls hl => ?_)
    have hl : lv_has ls 4 [(3, .int ((M 4 3) + 1)), (0, .ref (a 0)), (1, .int 42), (2, .int n)] := hl
    refine lv_iload_n hx hb d_Mac_act_7 rfl (lv_at hl 2 rfl) ?_
    refine lv_tableOut (x := 42) (tgt := 280) hx hb d_Mac_act_8 (by decide) (by decide) ?_
    refine lv_aload_n hx hb d_Mac_act_280 rfl (lv_at hl 1 rfl) ?_
    refine lv_iload_n hx hb d_Mac_act_281 rfl (lv_at hl 2 rfl) ?_
    refine km_Vv (wr := []) F (c_Mac_combine l Dg a k M 42 _ hP (hD.weaken (fun _ _ _ _ => trivial)) (by decide) (in_1 e0 (by omega) b0 (by decide)) (in_11 e0 hd b0 (by decide)) (fun z => c5q z)) kx_K hK kw_Mac_102 tw2_187 ts_14 (va_recv (ci := 1) (q0 := 0) hK hP rfl rfl) hP hD hS hA [0, 1, 2, 3, 4] [] rfl rfl (by decide) (by decide) d_Mac_act_282 ⟨⟨by decide, by decide⟩, Nat.le_refl _, Nat.le_refl _⟩ rfl hl.1 rfl (Nat.le_of_ble_eq_true rfl) (fun H locs hP hD hS => ?_)
    have hP : va_P Dg classes (wM a k (sComb M 42)) H := hP
    have hD : va_D (va_A (wM a k M) s.heap.size) (wM a k (sComb M 42)) := hD
    obtain ⟨Ms12, hMs12⟩ : ∃ z, z = (sComb M 42) := ⟨_, rfl⟩
    rw [← hMs12] at hP hD
    refine lv_aload_n hx hb d_Mac_act_285 rfl (lv_at hl 1 rfl) ?_
    refine lv_iload_n hx hb d_Mac_act_286 rfl (lv_at hl 0 rfl) ?_
    refine va_put (D := Dg) (ci := 1) (v := .int ((M 4 3) + 1)) (ty := .int) (C := R_Mac) (T := F_Mac) (N := 10) hx hb hT in_Mac t_Mac t_Mac_ok n_Mac hown hK hP hD hS 0 rfl rfl 7 (by decide) (hT _ tw1_78) (fun _ h9 => h9) rfl (by decide +kernel) rfl rfl (Nat.le_of_ble_eq_true rfl) d_Mac_act_287 (fun H locs hP hD hS => ?_)
    have hP : va_P Dg classes (wM a k (u2 Ms12 4 3 ((M 4 3) + 1))) H := hP
    have hD : va_D (va_A (wM a k M) s.heap.size) (wM a k (u2 Ms12 4 3 ((M 4 3) + 1))) := hD
    obtain ⟨Ms13, hMs13⟩ : ∃ z, z = (u2 Ms12 4 3 ((M 4 3) + 1)) := ⟨_, rfl⟩
    rw [← hMs13] at hP hD
    exact km_v F hlocks hret hP hD hS d_Mac_act_290 (by subst hMs13 hMs12; rfl)
  · obtain ⟨h, r, o, e0, e1, e2, b0, b1, b2, c1, c2, c3, c4, c5⟩ := tr_all hm ht
    have hd := tr_n (d := 2) (by decide) c1
    have c5q : (47 : Int32) = 47 → ¬ sTop M = 0 := fun z w => c5 ⟨z, w⟩
    refine lv_aload_n hx hb d_Mac_act_0 rfl (lv_at hl 0 rfl) ?_
    refine va_get (D := Dg) (ci := 1) (v := .int (M 4 3)) (C := R_Mac) (T := F_Mac) (N := 10) hx hb hT in_Mac hown hK hP 0 rfl rfl 7 (by decide) (hT _ tw1_78) (fun _ h9 => h9) rfl d_Mac_act_1 ?_
    refine lv_iconst (v := 1) hx hb d_Mac_act_4 (by decide) ?_
    refine lv_iadd hx hb d_Mac_act_5 ?_
    refine lv_istore_n hx hb d_Mac_act_6 rfl hl (by decide) rfl (fun ls hl => ?_)
    have hl : lv_has ls 4 [(3, .int ((M 4 3) + 1)), (0, .ref (a 0)), (1, .int 47), (2, .int n)] := hl
    refine lv_iload_n hx hb d_Mac_act_7 rfl (lv_at hl 2 rfl) ?_
    refine lv_tableOut (x := 47) (tgt := 280) hx hb d_Mac_act_8 (by decide) (by decide) ?_
    refine lv_aload_n hx hb d_Mac_act_280 rfl (lv_at hl 1 rfl) ?_
    refine lv_iload_n hx hb d_Mac_act_281 rfl (lv_at hl 2 rfl) ?_
    refine km_Vv (wr := []) F (c_Mac_combine l Dg a k M 47 _ hP (hD.weaken (fun _ _ _ _ => trivial)) (by decide) (in_1 e0 (by omega) b0 (by decide)) (in_11 e0 hd b0 (by decide)) (fun z => c5q z)) kx_K hK kw_Mac_102 tw2_187 ts_14 (va_recv (ci := 1) (q0 := 0) hK hP rfl rfl) hP hD hS hA [0, 1, 2, 3, 4] [] rfl rfl (by decide) (by decide) d_Mac_act_282 ⟨⟨by decide, by decide⟩, Nat.le_refl _, Nat.le_refl _⟩ rfl hl.1 rfl (Nat.le_of_ble_eq_true rfl) (fun H locs hP hD hS => ?_)
    have hP : va_P Dg classes (wM a k (sComb M 47)) H := hP
    have hD : va_D (va_A (wM a k M) s.heap.size) (wM a k (sComb M 47)) := hD
    obtain ⟨Ms14, hMs14⟩ : ∃ z, z = (sComb M 47) := ⟨_, rfl⟩
    rw [← hMs14] at hP hD
    refine lv_aload_n hx hb d_Mac_act_285 rfl (lv_at hl 1 rfl) ?_
    refine lv_iload_n hx hb d_Mac_act_286 rfl (lv_at hl 0 rfl) ?_
    refine va_put (D := Dg) (ci := 1) (v := .int ((M 4 3) + 1)) (ty := .int) (C := R_Mac) (T := F_Mac) (N := 10) hx hb hT in_Mac t_Mac t_Mac_ok n_Mac hown hK hP hD hS 0 rfl rfl 7 (by decide) (hT _ tw1_78) (fun _ h9 => h9) rfl (by decide +kernel) rfl rfl (Nat.le_of_ble_eq_true rfl) d_Mac_act_287 (fun H locs hP hD hS => ?_)
    have hP : va_P Dg classes (wM a k (u2 Ms14 4 3 ((M 4 3) + 1))) H := hP
    have hD : va_D (va_A (wM a k M) s.heap.size) (wM a k (u2 Ms14 4 3 ((M 4 3) + 1))) := hD
    obtain ⟨Ms15, hMs15⟩ : ∃ z, z = (u2 Ms14 4 3 ((M 4 3) + 1)) := ⟨_, rfl⟩
    rw [← hMs15] at hP hD
    exact km_v F hlocks hret hP hD hS d_Mac_act_290 (by subst hMs15 hMs14; rfl)
  · obtain ⟨h, r, o, e0, e1, e2, b0, b1, b2, c1, c2, c3, c4, c5⟩ := tr_all hm ht
    have hd := tr_n (d := 2) (by decide) c1
    have c5q : (60 : Int32) = 47 → ¬ sTop M = 0 := fun z w => c5 ⟨z, w⟩
    refine lv_aload_n hx hb d_Mac_act_0 rfl (lv_at hl 0 rfl) ?_
    refine va_get (D := Dg) (ci := 1) (v := .int (M 4 3)) (C := R_Mac) (T := F_Mac) (N := 10) hx hb hT in_Mac hown hK hP 0 rfl rfl 7 (by decide) (hT _ tw1_78) (fun _ h9 => h9) rfl d_Mac_act_1 ?_
    refine lv_iconst (v := 1) hx hb d_Mac_act_4 (by decide) ?_
    refine lv_iadd hx hb d_Mac_act_5 ?_
    refine lv_istore_n hx hb d_Mac_act_6 rfl hl (by decide) rfl (fun ls hl => ?_)
    have hl : lv_has ls 4 [(3, .int ((M 4 3) + 1)), (0, .ref (a 0)), (1, .int 60), (2, .int n)] := hl
    refine lv_iload_n hx hb d_Mac_act_7 rfl (lv_at hl 2 rfl) ?_
    refine lv_tableOut (x := 60) (tgt := 280) hx hb d_Mac_act_8 (by decide) (by decide) ?_
    refine lv_aload_n hx hb d_Mac_act_280 rfl (lv_at hl 1 rfl) ?_
    refine lv_iload_n hx hb d_Mac_act_281 rfl (lv_at hl 2 rfl) ?_
    refine km_Vv (wr := []) F (c_Mac_combine l Dg a k M 60 _ hP (hD.weaken (fun _ _ _ _ => trivial)) (by decide) (in_1 e0 (by omega) b0 (by decide)) (in_11 e0 hd b0 (by decide)) (fun z => c5q z)) kx_K hK kw_Mac_102 tw2_187 ts_14 (va_recv (ci := 1) (q0 := 0) hK hP rfl rfl) hP hD hS hA [0, 1, 2, 3, 4] [] rfl rfl (by decide) (by decide) d_Mac_act_282 ⟨⟨by decide, by decide⟩, Nat.le_refl _, Nat.le_refl _⟩ rfl hl.1 rfl (Nat.le_of_ble_eq_true rfl) (fun H locs hP hD hS => ?_)
    have hP : va_P Dg classes (wM a k (sComb M 60)) H := hP
    have hD : va_D (va_A (wM a k M) s.heap.size) (wM a k (sComb M 60)) := hD
    obtain ⟨Ms16, hMs16⟩ : ∃ z, z = (sComb M 60) := ⟨_, rfl⟩
    rw [← hMs16] at hP hD
    refine lv_aload_n hx hb d_Mac_act_285 rfl (lv_at hl 1 rfl) ?_
    refine lv_iload_n hx hb d_Mac_act_286 rfl (lv_at hl 0 rfl) ?_
    refine va_put (D := Dg) (ci := 1) (v := .int ((M 4 3) + 1)) (ty := .int) (C := R_Mac) (T := F_Mac) (N := 10) hx hb hT in_Mac t_Mac t_Mac_ok n_Mac hown hK hP hD hS 0 rfl rfl 7 (by decide) (hT _ tw1_78) (fun _ h9 => h9) rfl (by decide +kernel) rfl rfl (Nat.le_of_ble_eq_true rfl) d_Mac_act_287 (fun H locs hP hD hS => ?_)
    have hP : va_P Dg classes (wM a k (u2 Ms16 4 3 ((M 4 3) + 1))) H := hP
    have hD : va_D (va_A (wM a k M) s.heap.size) (wM a k (u2 Ms16 4 3 ((M 4 3) + 1))) := hD
    obtain ⟨Ms17, hMs17⟩ : ∃ z, z = (u2 Ms16 4 3 ((M 4 3) + 1)) := ⟨_, rfl⟩
    rw [← hMs17] at hP hD
    exact km_v F hlocks hret hP hD hS d_Mac_act_290 (by subst hMs17 hMs16; rfl)
  · obtain ⟨h, r, o, e0, e1, e2, b0, b1, b2, c1, c2, c3, c4, c5⟩ := tr_all hm ht
    have hd := tr_n (d := 2) (by decide) c1
    have c5q : (61 : Int32) = 47 → ¬ sTop M = 0 := fun z w => c5 ⟨z, w⟩
    refine lv_aload_n hx hb d_Mac_act_0 rfl (lv_at hl 0 rfl) ?_
    refine va_get (D := Dg) (ci := 1) (v := .int (M 4 3)) (C := R_Mac) (T := F_Mac) (N := 10) hx hb hT in_Mac hown hK hP 0 rfl rfl 7 (by decide) (hT _ tw1_78) (fun _ h9 => h9) rfl d_Mac_act_1 ?_
    refine lv_iconst (v := 1) hx hb d_Mac_act_4 (by decide) ?_
    refine lv_iadd hx hb d_Mac_act_5 ?_
    refine lv_istore_n hx hb d_Mac_act_6 rfl hl (by decide) rfl (fun ls hl => ?_)
    have hl : lv_has ls 4 [(3, .int ((M 4 3) + 1)), (0, .ref (a 0)), (1, .int 61), (2, .int n)] := hl
    refine lv_iload_n hx hb d_Mac_act_7 rfl (lv_at hl 2 rfl) ?_
    refine lv_tableOut (x := 61) (tgt := 280) hx hb d_Mac_act_8 (by decide) (by decide) ?_
    refine lv_aload_n hx hb d_Mac_act_280 rfl (lv_at hl 1 rfl) ?_
    refine lv_iload_n hx hb d_Mac_act_281 rfl (lv_at hl 2 rfl) ?_
    refine km_Vv (wr := []) F (c_Mac_combine l Dg a k M 61 _ hP (hD.weaken (fun _ _ _ _ => trivial)) (by decide) (in_1 e0 (by omega) b0 (by decide)) (in_11 e0 hd b0 (by decide)) (fun z => c5q z)) kx_K hK kw_Mac_102 tw2_187 ts_14 (va_recv (ci := 1) (q0 := 0) hK hP rfl rfl) hP hD hS hA [0, 1, 2, 3, 4] [] rfl rfl (by decide) (by decide) d_Mac_act_282 ⟨⟨by decide, by decide⟩, Nat.le_refl _, Nat.le_refl _⟩ rfl hl.1 rfl (Nat.le_of_ble_eq_true rfl) (fun H locs hP hD hS => ?_)
    have hP : va_P Dg classes (wM a k (sComb M 61)) H := hP
    have hD : va_D (va_A (wM a k M) s.heap.size) (wM a k (sComb M 61)) := hD
    obtain ⟨Ms18, hMs18⟩ : ∃ z, z = (sComb M 61) := ⟨_, rfl⟩
    rw [← hMs18] at hP hD
    refine lv_aload_n hx hb d_Mac_act_285 rfl (lv_at hl 1 rfl) ?_
    refine lv_iload_n hx hb d_Mac_act_286 rfl (lv_at hl 0 rfl) ?_
    refine va_put (D := Dg) (ci := 1) (v := .int ((M 4 3) + 1)) (ty := .int) (C := R_Mac) (T := F_Mac) (N := 10) hx hb hT in_Mac t_Mac t_Mac_ok n_Mac hown hK hP hD hS 0 rfl rfl 7 (by decide) (hT _ tw1_78) (fun _ h9 => h9) rfl (by decide +kernel) rfl rfl (Nat.le_of_ble_eq_true rfl) d_Mac_act_287 (fun H locs hP hD hS => ?_)
    have hP : va_P Dg classes (wM a k (u2 Ms18 4 3 ((M 4 3) + 1))) H := hP
    have hD : va_D (va_A (wM a k M) s.heap.size) (wM a k (u2 Ms18 4 3 ((M 4 3) + 1))) := hD
    obtain ⟨Ms19, hMs19⟩ : ∃ z, z = (u2 Ms18 4 3 ((M 4 3) + 1)) := ⟨_, rfl⟩
    rw [← hMs19] at hP hD
    exact km_v F hlocks hret hP hD hS d_Mac_act_290 (by subst hMs19 hMs18; rfl)
  · obtain ⟨h, r, o, e0, e1, e2, b0, b1, b2, c1, c2, c3, c4, c5⟩ := tr_all hm ht
    have hd := tr_n (d := 1) (by decide) c1
    have h40 : h < 40 := by rcases Nat.lt_or_ge h 40 with q | q; exact q; exact absurd ⟨by decide, by omega⟩ c3
    refine lv_aload_n hx hb d_Mac_act_0 rfl (lv_at hl 0 rfl) ?_
    refine va_get (D := Dg) (ci := 1) (v := .int (M 4 3)) (C := R_Mac) (T := F_Mac) (N := 10) hx hb hT in_Mac hown hK hP 0 rfl rfl 7 (by decide) (hT _ tw1_78) (fun _ h9 => h9) rfl d_Mac_act_1 ?_
    refine lv_iconst (v := 1) hx hb d_Mac_act_4 (by decide) ?_
    refine lv_iadd hx hb d_Mac_act_5 ?_
    refine lv_istore_n hx hb d_Mac_act_6 rfl hl (by decide) rfl (fun ls hl => ?_)
    have hl : lv_has ls 4 [(3, .int ((M 4 3) + 1)), (0, .ref (a 0)), (1, .int 68), (2, .int n)] := hl
    refine lv_iload_n hx hb d_Mac_act_7 rfl (lv_at hl 2 rfl) ?_
    refine lv_tableIn (x := 68) (off := 146) (tgt := 154) hx hb d_Mac_act_8 (by decide) (by decide) rfl (by decide) ?_
    refine lv_aload_n hx hb d_Mac_act_154 rfl (lv_at hl 1 rfl) ?_
    refine lv_aload_n hx hb d_Mac_act_155 rfl (lv_at hl 1 rfl) ?_
    refine va_get (D := Dg) (ci := 1) (v := .ref (a 1)) (C := R_Mac) (T := F_Mac) (N := 10) hx hb hT in_Mac hown hK hP 0 rfl rfl 0 (by decide) (hT _ tw1_67) (fun _ h9 => h9) rfl d_Mac_act_156 ?_
    refine lv_aload_n hx hb d_Mac_act_159 rfl (lv_at hl 1 rfl) ?_
    refine va_get (D := Dg) (ci := 1) (v := .int (M 4 0)) (C := R_Mac) (T := F_Mac) (N := 10) hx hb hT in_Mac hown hK hP 0 rfl rfl 4 (by decide) (hT _ tw1_74) (fun _ h9 => h9) rfl d_Mac_act_160 ?_
    refine lv_iconst (v := 1) hx hb d_Mac_act_163 (by decide) ?_
    refine lv_isub hx hb d_Mac_act_164 ?_
    refine va_iald (f := (M 0)) hx hb hK hP 1 0 rfl rfl (in_1 e0 hd b0 (by decide)) d_Mac_act_165 ?_
    refine km_Vv (wr := []) F (c_Mac_push l Dg a k M ((M 0) ((M 4 0) - 1).toNatClampNeg) _ hP (hD.weaken (fun _ _ _ _ => trivial)) (in_0 e0 h40 (by decide))) kx_K hK kw_Mac_88 tw2_171 ts_10 (va_recv (ci := 1) (q0 := 0) hK hP rfl rfl) hP hD hS hA [0, 1, 2, 3, 4] [] rfl rfl (by decide) (by decide) d_Mac_act_166 ⟨⟨by decide, by decide⟩, Nat.le_refl _, Nat.le_refl _⟩ rfl hl.1 rfl (Nat.le_of_ble_eq_true rfl) (fun H locs hP hD hS => ?_)
    have hP : va_P Dg classes (wM a k (sPush M ((M 0) ((M 4 0) - 1).toNatClampNeg))) H := hP
    have hD : va_D (va_A (wM a k M) s.heap.size) (wM a k (sPush M ((M 0) ((M 4 0) - 1).toNatClampNeg))) := hD
    obtain ⟨Ms20, hMs20⟩ : ∃ z, z = (sPush M ((M 0) ((M 4 0) - 1).toNatClampNeg)) := ⟨_, rfl⟩
    rw [← hMs20] at hP hD
    refine lv_goto (tgt := 285) hx hb d_Mac_act_169 (by decide) ?_
    refine lv_aload_n hx hb d_Mac_act_285 rfl (lv_at hl 1 rfl) ?_
    refine lv_iload_n hx hb d_Mac_act_286 rfl (lv_at hl 0 rfl) ?_
    refine va_put (D := Dg) (ci := 1) (v := .int ((M 4 3) + 1)) (ty := .int) (C := R_Mac) (T := F_Mac) (N := 10) hx hb hT in_Mac t_Mac t_Mac_ok n_Mac hown hK hP hD hS 0 rfl rfl 7 (by decide) (hT _ tw1_78) (fun _ h9 => h9) rfl (by decide +kernel) rfl rfl (Nat.le_of_ble_eq_true rfl) d_Mac_act_287 (fun H locs hP hD hS => ?_)
    have hP : va_P Dg classes (wM a k (u2 Ms20 4 3 ((M 4 3) + 1))) H := hP
    have hD : va_D (va_A (wM a k M) s.heap.size) (wM a k (u2 Ms20 4 3 ((M 4 3) + 1))) := hD
    obtain ⟨Ms21, hMs21⟩ : ∃ z, z = (u2 Ms20 4 3 ((M 4 3) + 1)) := ⟨_, rfl⟩
    rw [← hMs21] at hP hD
    exact km_v F hlocks hret hP hD hS d_Mac_act_290 (by subst hMs21 hMs20; rfl)
  · obtain ⟨h, r, o, e0, e1, e2, b0, b1, b2, c1, c2, c3, c4, c5⟩ := tr_all hm ht
    have hd := tr_n (d := 2) (by decide) c1
    refine lv_aload_n hx hb d_Mac_act_0 rfl (lv_at hl 0 rfl) ?_
    refine va_get (D := Dg) (ci := 1) (v := .int (M 4 3)) (C := R_Mac) (T := F_Mac) (N := 10) hx hb hT in_Mac hown hK hP 0 rfl rfl 7 (by decide) (hT _ tw1_78) (fun _ h9 => h9) rfl d_Mac_act_1 ?_
    refine lv_iconst (v := 1) hx hb d_Mac_act_4 (by decide) ?_
    refine lv_iadd hx hb d_Mac_act_5 ?_
    refine lv_istore_n hx hb d_Mac_act_6 rfl hl (by decide) rfl (fun ls hl => ?_)
    have hl : lv_has ls 4 [(3, .int ((M 4 3) + 1)), (0, .ref (a 0)), (1, .int 88), (2, .int n)] := hl
    refine lv_iload_n hx hb d_Mac_act_7 rfl (lv_at hl 2 rfl) ?_
    refine lv_tableIn (x := 88) (off := 164) (tgt := 172) hx hb d_Mac_act_8 (by decide) (by decide) rfl (by decide) ?_
    refine lv_aload_n hx hb d_Mac_act_172 rfl (lv_at hl 1 rfl) ?_
    refine km_Vv (wr := []) F (c_Mac_exchange l Dg a k M  _ hP (hD.weaken (fun _ _ _ _ => trivial)) (in_1 e0 (by omega) b0 (by decide)) (in_2 e0 hd b0 (by decide))) kx_K hK kw_Mac_96 tw2_179 ts_12 (va_recv (ci := 1) (q0 := 0) hK hP rfl rfl) hP hD hS hA [0, 1, 2, 3, 4] [] rfl rfl (by decide) (by decide) d_Mac_act_173 ⟨⟨by decide, by decide⟩, Nat.le_refl _, Nat.le_refl _⟩ rfl hl.1 rfl (Nat.le_of_ble_eq_true rfl) (fun H locs hP hD hS => ?_)
    have hP : va_P Dg classes (wM a k (sExch M)) H := hP
    have hD : va_D (va_A (wM a k M) s.heap.size) (wM a k (sExch M)) := hD
    obtain ⟨Ms22, hMs22⟩ : ∃ z, z = (sExch M) := ⟨_, rfl⟩
    rw [← hMs22] at hP hD
    refine lv_goto (tgt := 285) hx hb d_Mac_act_176 (by decide) ?_
    refine lv_aload_n hx hb d_Mac_act_285 rfl (lv_at hl 1 rfl) ?_
    refine lv_iload_n hx hb d_Mac_act_286 rfl (lv_at hl 0 rfl) ?_
    refine va_put (D := Dg) (ci := 1) (v := .int ((M 4 3) + 1)) (ty := .int) (C := R_Mac) (T := F_Mac) (N := 10) hx hb hT in_Mac t_Mac t_Mac_ok n_Mac hown hK hP hD hS 0 rfl rfl 7 (by decide) (hT _ tw1_78) (fun _ h9 => h9) rfl (by decide +kernel) rfl rfl (Nat.le_of_ble_eq_true rfl) d_Mac_act_287 (fun H locs hP hD hS => ?_)
    have hP : va_P Dg classes (wM a k (u2 Ms22 4 3 ((M 4 3) + 1))) H := hP
    have hD : va_D (va_A (wM a k M) s.heap.size) (wM a k (u2 Ms22 4 3 ((M 4 3) + 1))) := hD
    obtain ⟨Ms23, hMs23⟩ : ∃ z, z = (u2 Ms22 4 3 ((M 4 3) + 1)) := ⟨_, rfl⟩
    rw [← hMs23] at hP hD
    exact km_v F hlocks hret hP hD hS d_Mac_act_290 (by subst hMs23 hMs22; rfl)
  · obtain ⟨h, r, o, e0, e1, e2, b0, b1, b2, c1, c2, c3, c4, c5⟩ := tr_all hm ht
    have hd := tr_n (d := 1) (by decide) c1
    refine lv_aload_n hx hb d_Mac_act_0 rfl (lv_at hl 0 rfl) ?_
    refine va_get (D := Dg) (ci := 1) (v := .int (M 4 3)) (C := R_Mac) (T := F_Mac) (N := 10) hx hb hT in_Mac hown hK hP 0 rfl rfl 7 (by decide) (hT _ tw1_78) (fun _ h9 => h9) rfl d_Mac_act_1 ?_
    refine lv_iconst (v := 1) hx hb d_Mac_act_4 (by decide) ?_
    refine lv_iadd hx hb d_Mac_act_5 ?_
    refine lv_istore_n hx hb d_Mac_act_6 rfl hl (by decide) rfl (fun ls hl => ?_)
    have hl : lv_has ls 4 [(3, .int ((M 4 3) + 1)), (0, .ref (a 0)), (1, .int 79), (2, .int n)] := hl
    refine lv_iload_n hx hb d_Mac_act_7 rfl (lv_at hl 2 rfl) ?_
    refine lv_tableIn (x := 79) (off := 171) (tgt := 179) hx hb d_Mac_act_8 (by decide) (by decide) rfl (by decide) ?_
    refine lv_aload_n hx hb d_Mac_act_179 rfl (lv_at hl 1 rfl) ?_
    refine lv_aload_n hx hb d_Mac_act_180 rfl (lv_at hl 1 rfl) ?_
    refine km_Vi (wr := []) F (c_Mac_pop l Dg a k M  _ hP (hD.weaken (fun _ _ _ _ => trivial)) (in_1 e0 hd b0 (by decide))) kx_K hK kw_Mac_92 tw2_175 ts_11 (va_recv (ci := 1) (q0 := 0) hK hP rfl rfl) hP hD hS hA [0, 1, 2, 3, 4] [] rfl rfl (by decide) (by decide) d_Mac_act_181 ⟨⟨by decide, by decide⟩, Nat.le_refl _, Nat.le_refl _⟩ rfl hl.1 rfl (Nat.le_of_ble_eq_true rfl) (fun H locs hP hD hS => ?_)
    have hP : va_P Dg classes (wM a k (sPop M)) H := hP
    have hD : va_D (va_A (wM a k M) s.heap.size) (wM a k (sPop M)) := hD
    obtain ⟨Ms24, hMs24⟩ : ∃ z, z = (sPop M) := ⟨_, rfl⟩
    rw [← hMs24] at hP hD
    refine km_Vv (wr := []) F (c_Mac_putOut l Dg a k Ms24 (sTop M) _ hP (hD.weaken (fun _ _ _ _ => trivial)) (by rw [hMs24]; exact (fun z => in_0 e2 (by rcases Nat.lt_or_ge o 60 with q | q; exact q; exact absurd (show (60 : Int32) ≤ M 4 2 by rw [e2]; exact nI_le (a := 60) q (by omega)) z) (by decide)))) kx_K hK kw_Mac_99 tw2_183 ts_13 (va_recv (ci := 1) (q0 := 0) hK hP rfl rfl) hP hD hS hA [0, 1, 2, 3, 4] [] rfl rfl (by decide) (by decide) d_Mac_act_184 ⟨⟨by decide, by decide⟩, Nat.le_refl _, Nat.le_refl _⟩ rfl hl.1 rfl (Nat.le_of_ble_eq_true rfl) (fun H locs hP hD hS => ?_)
    have hP : va_P Dg classes (wM a k (sOut Ms24 (sTop M))) H := hP
    have hD : va_D (va_A (wM a k M) s.heap.size) (wM a k (sOut Ms24 (sTop M))) := hD
    obtain ⟨Ms25, hMs25⟩ : ∃ z, z = (sOut Ms24 (sTop M)) := ⟨_, rfl⟩
    rw [← hMs25] at hP hD
    refine lv_goto (tgt := 285) hx hb d_Mac_act_187 (by decide) ?_
    refine lv_aload_n hx hb d_Mac_act_285 rfl (lv_at hl 1 rfl) ?_
    refine lv_iload_n hx hb d_Mac_act_286 rfl (lv_at hl 0 rfl) ?_
    refine va_put (D := Dg) (ci := 1) (v := .int ((M 4 3) + 1)) (ty := .int) (C := R_Mac) (T := F_Mac) (N := 10) hx hb hT in_Mac t_Mac t_Mac_ok n_Mac hown hK hP hD hS 0 rfl rfl 7 (by decide) (hT _ tw1_78) (fun _ h9 => h9) rfl (by decide +kernel) rfl rfl (Nat.le_of_ble_eq_true rfl) d_Mac_act_287 (fun H locs hP hD hS => ?_)
    have hP : va_P Dg classes (wM a k (u2 Ms25 4 3 ((M 4 3) + 1))) H := hP
    have hD : va_D (va_A (wM a k M) s.heap.size) (wM a k (u2 Ms25 4 3 ((M 4 3) + 1))) := hD
    obtain ⟨Ms26, hMs26⟩ : ∃ z, z = (u2 Ms25 4 3 ((M 4 3) + 1)) := ⟨_, rfl⟩
    rw [← hMs26] at hP hD
    exact km_v F hlocks hret hP hD hS d_Mac_act_290 (by subst hMs26 hMs25 hMs24; rfl)
  · obtain ⟨h, r, o, e0, e1, e2, b0, b1, b2, c1, c2, c3, c4, c5⟩ := tr_all hm ht
    have hd := tr_n (d := 1) (by decide) c1
    refine lv_aload_n hx hb d_Mac_act_0 rfl (lv_at hl 0 rfl) ?_
    refine va_get (D := Dg) (ci := 1) (v := .int (M 4 3)) (C := R_Mac) (T := F_Mac) (N := 10) hx hb hT in_Mac hown hK hP 0 rfl rfl 7 (by decide) (hT _ tw1_78) (fun _ h9 => h9) rfl d_Mac_act_1 ?_
    refine lv_iconst (v := 1) hx hb d_Mac_act_4 (by decide) ?_
    refine lv_iadd hx hb d_Mac_act_5 ?_
    refine lv_istore_n hx hb d_Mac_act_6 rfl hl (by decide) rfl (fun ls hl => ?_)
    have hl : lv_has ls 4 [(3, .int ((M 4 3) + 1)), (0, .ref (a 0)), (1, .int 86), (2, .int n)] := hl
    refine lv_iload_n hx hb d_Mac_act_7 rfl (lv_at hl 2 rfl) ?_
    refine lv_tableIn (x := 86) (off := 182) (tgt := 190) hx hb d_Mac_act_8 (by decide) (by decide) rfl (by decide) ?_
    refine lv_aload_n hx hb d_Mac_act_190 rfl (lv_at hl 1 rfl) ?_
    refine km_Vi (wr := []) F (c_Mac_pop l Dg a k M  _ hP (hD.weaken (fun _ _ _ _ => trivial)) (in_1 e0 hd b0 (by decide))) kx_K hK kw_Mac_92 tw2_175 ts_11 (va_recv (ci := 1) (q0 := 0) hK hP rfl rfl) hP hD hS hA [0, 1, 2, 3, 4] [] rfl rfl (by decide) (by decide) d_Mac_act_191 ⟨⟨by decide, by decide⟩, Nat.le_refl _, Nat.le_refl _⟩ rfl hl.1 rfl (Nat.le_of_ble_eq_true rfl) (fun H locs hP hD hS => ?_)
    have hP : va_P Dg classes (wM a k (sPop M)) H := hP
    have hD : va_D (va_A (wM a k M) s.heap.size) (wM a k (sPop M)) := hD
    obtain ⟨Ms27, hMs27⟩ : ∃ z, z = (sPop M) := ⟨_, rfl⟩
    rw [← hMs27] at hP hD
    refine lv_pop hx hb d_Mac_act_194 rfl ?_
    refine lv_goto (tgt := 285) hx hb d_Mac_act_195 (by decide) ?_
    refine lv_aload_n hx hb d_Mac_act_285 rfl (lv_at hl 1 rfl) ?_
    refine lv_iload_n hx hb d_Mac_act_286 rfl (lv_at hl 0 rfl) ?_
    refine va_put (D := Dg) (ci := 1) (v := .int ((M 4 3) + 1)) (ty := .int) (C := R_Mac) (T := F_Mac) (N := 10) hx hb hT in_Mac t_Mac t_Mac_ok n_Mac hown hK hP hD hS 0 rfl rfl 7 (by decide) (hT _ tw1_78) (fun _ h9 => h9) rfl (by decide +kernel) rfl rfl (Nat.le_of_ble_eq_true rfl) d_Mac_act_287 (fun H locs hP hD hS => ?_)
    have hP : va_P Dg classes (wM a k (u2 Ms27 4 3 ((M 4 3) + 1))) H := hP
    have hD : va_D (va_A (wM a k M) s.heap.size) (wM a k (u2 Ms27 4 3 ((M 4 3) + 1))) := hD
    obtain ⟨Ms28, hMs28⟩ : ∃ z, z = (u2 Ms27 4 3 ((M 4 3) + 1)) := ⟨_, rfl⟩
    rw [← hMs28] at hP hD
    exact km_v F hlocks hret hP hD hS d_Mac_act_290 (by subst hMs28 hMs27; rfl)
  · obtain ⟨h, r, o, e0, e1, e2, b0, b1, b2, c1, c2, c3, c4, c5⟩ := tr_all hm ht
    refine lv_aload_n hx hb d_Mac_act_0 rfl (lv_at hl 0 rfl) ?_
    refine va_get (D := Dg) (ci := 1) (v := .int (M 4 3)) (C := R_Mac) (T := F_Mac) (N := 10) hx hb hT in_Mac hown hK hP 0 rfl rfl 7 (by decide) (hT _ tw1_78) (fun _ h9 => h9) rfl d_Mac_act_1 ?_
    refine lv_iconst (v := 1) hx hb d_Mac_act_4 (by decide) ?_
    refine lv_iadd hx hb d_Mac_act_5 ?_
    refine lv_istore_n hx hb d_Mac_act_6 rfl hl (by decide) rfl (fun ls hl => ?_)
    have hl : lv_has ls 4 [(3, .int ((M 4 3) + 1)), (0, .ref (a 0)), (1, .int 74), (2, .int n)] := hl
    refine lv_iload_n hx hb d_Mac_act_7 rfl (lv_at hl 2 rfl) ?_
    refine lv_tableIn (x := 74) (off := 190) (tgt := 198) hx hb d_Mac_act_8 (by decide) (by decide) rfl (by decide) ?_
    refine lv_iload_n hx hb d_Mac_act_198 rfl (lv_at hl 3 rfl) ?_
    refine lv_istore_n hx hb d_Mac_act_199 rfl hl (by decide) rfl (fun ls hl => ?_)
    have hl : lv_has ls 4 [(3, .int n), (0, .ref (a 0)), (1, .int 74), (2, .int n)] := hl
    refine lv_goto (tgt := 285) hx hb d_Mac_act_200 (by decide) ?_
    refine lv_aload_n hx hb d_Mac_act_285 rfl (lv_at hl 1 rfl) ?_
    refine lv_iload_n hx hb d_Mac_act_286 rfl (lv_at hl 0 rfl) ?_
    refine va_put (D := Dg) (ci := 1) (v := .int n) (ty := .int) (C := R_Mac) (T := F_Mac) (N := 10) hx hb hT in_Mac t_Mac t_Mac_ok n_Mac hown hK hP hD hS 0 rfl rfl 7 (by decide) (hT _ tw1_78) (fun _ h9 => h9) rfl (by decide +kernel) rfl rfl (Nat.le_of_ble_eq_true rfl) d_Mac_act_287 (fun H locs hP hD hS => ?_)
    have hP : va_P Dg classes (wM a k (u2 M 4 3 n)) H := hP
    have hD : va_D (va_A (wM a k M) s.heap.size) (wM a k (u2 M 4 3 n)) := hD
    obtain ⟨Ms29, hMs29⟩ : ∃ z, z = (u2 M 4 3 n) := ⟨_, rfl⟩
    rw [← hMs29] at hP hD
    exact km_v F hlocks hret hP hD hS d_Mac_act_290 (by subst hMs29; rfl)
  · obtain ⟨h, r, o, e0, e1, e2, b0, b1, b2, c1, c2, c3, c4, c5⟩ := tr_all hm ht
    have hd := tr_n (d := 1) (by decide) c1
    refine lv_aload_n hx hb d_Mac_act_0 rfl (lv_at hl 0 rfl) ?_
    refine va_get (D := Dg) (ci := 1) (v := .int (M 4 3)) (C := R_Mac) (T := F_Mac) (N := 10) hx hb hT in_Mac hown hK hP 0 rfl rfl 7 (by decide) (hT _ tw1_78) (fun _ h9 => h9) rfl d_Mac_act_1 ?_
    refine lv_iconst (v := 1) hx hb d_Mac_act_4 (by decide) ?_
    refine lv_iadd hx hb d_Mac_act_5 ?_
    refine lv_istore_n hx hb d_Mac_act_6 rfl hl (by decide) rfl (fun ls hl => ?_)
    have hl : lv_has ls 4 [(3, .int ((M 4 3) + 1)), (0, .ref (a 0)), (1, .int 90), (2, .int n)] := hl
    refine lv_iload_n hx hb d_Mac_act_7 rfl (lv_at hl 2 rfl) ?_
    refine lv_tableIn (x := 90) (off := 195) (tgt := 203) hx hb d_Mac_act_8 (by decide) (by decide) rfl (by decide) ?_
    refine lv_aload_n hx hb d_Mac_act_203 rfl (lv_at hl 1 rfl) ?_
    refine km_Vi (wr := []) F (c_Mac_pop l Dg a k M  _ hP (hD.weaken (fun _ _ _ _ => trivial)) (in_1 e0 hd b0 (by decide))) kx_K hK kw_Mac_92 tw2_175 ts_11 (va_recv (ci := 1) (q0 := 0) hK hP rfl rfl) hP hD hS hA [0, 1, 2, 3, 4] [] rfl rfl (by decide) (by decide) d_Mac_act_204 ⟨⟨by decide, by decide⟩, Nat.le_refl _, Nat.le_refl _⟩ rfl hl.1 rfl (Nat.le_of_ble_eq_true rfl) (fun H locs hP hD hS => ?_)
    have hP : va_P Dg classes (wM a k (sPop M)) H := hP
    have hD : va_D (va_A (wM a k M) s.heap.size) (wM a k (sPop M)) := hD
    obtain ⟨Ms30, hMs30⟩ : ∃ z, z = (sPop M) := ⟨_, rfl⟩
    rw [← hMs30] at hP hD
    refine lv_if_ne (tgt := 214) hx hb d_Mac_act_207 (by decide) (fun h207 => ?_) (fun h207 => ?_)
    · refine lv_iload_n hx hb d_Mac_act_214 rfl (lv_at hl 0 rfl) ?_
      refine lv_istore_n hx hb d_Mac_act_215 rfl hl (by decide) rfl (fun ls hl => ?_)
      have hl : lv_has ls 4 [(3, .int ((M 4 3) + 1)), (0, .ref (a 0)), (1, .int 90), (2, .int n)] := hl
      refine lv_goto (tgt := 285) hx hb d_Mac_act_216 (by decide) ?_
      refine lv_aload_n hx hb d_Mac_act_285 rfl (lv_at hl 1 rfl) ?_
      refine lv_iload_n hx hb d_Mac_act_286 rfl (lv_at hl 0 rfl) ?_
      refine va_put (D := Dg) (ci := 1) (v := .int ((M 4 3) + 1)) (ty := .int) (C := R_Mac) (T := F_Mac) (N := 10) hx hb hT in_Mac t_Mac t_Mac_ok n_Mac hown hK hP hD hS 0 rfl rfl 7 (by decide) (hT _ tw1_78) (fun _ h9 => h9) rfl (by decide +kernel) rfl rfl (Nat.le_of_ble_eq_true rfl) d_Mac_act_287 (fun H locs hP hD hS => ?_)
      have hP : va_P Dg classes (wM a k (u2 Ms30 4 3 ((M 4 3) + 1))) H := hP
      have hD : va_D (va_A (wM a k M) s.heap.size) (wM a k (u2 Ms30 4 3 ((M 4 3) + 1))) := hD
      obtain ⟨Ms31, hMs31⟩ : ∃ z, z = (u2 Ms30 4 3 ((M 4 3) + 1)) := ⟨_, rfl⟩
      rw [← hMs31] at hP hD
      exact km_v F hlocks hret hP hD hS d_Mac_act_290 (by subst hMs31 hMs30; refine congrArg (wM a k) ?_; show _ = u2 (sPop M) 4 3 (if sTop M = 0 then n else M 4 3 + 1); rw [if_neg h207])
    · refine lv_iload_n hx hb d_Mac_act_210 rfl (lv_at hl 3 rfl) ?_
      refine lv_goto (tgt := 215) hx hb d_Mac_act_211 (by decide) ?_
      refine lv_istore_n hx hb d_Mac_act_215 rfl hl (by decide) rfl (fun ls hl => ?_)
      have hl : lv_has ls 4 [(3, .int n), (0, .ref (a 0)), (1, .int 90), (2, .int n)] := hl
      refine lv_goto (tgt := 285) hx hb d_Mac_act_216 (by decide) ?_
      refine lv_aload_n hx hb d_Mac_act_285 rfl (lv_at hl 1 rfl) ?_
      refine lv_iload_n hx hb d_Mac_act_286 rfl (lv_at hl 0 rfl) ?_
      refine va_put (D := Dg) (ci := 1) (v := .int n) (ty := .int) (C := R_Mac) (T := F_Mac) (N := 10) hx hb hT in_Mac t_Mac t_Mac_ok n_Mac hown hK hP hD hS 0 rfl rfl 7 (by decide) (hT _ tw1_78) (fun _ h9 => h9) rfl (by decide +kernel) rfl rfl (Nat.le_of_ble_eq_true rfl) d_Mac_act_287 (fun H locs hP hD hS => ?_)
      have hP : va_P Dg classes (wM a k (u2 Ms30 4 3 n)) H := hP
      have hD : va_D (va_A (wM a k M) s.heap.size) (wM a k (u2 Ms30 4 3 n)) := hD
      obtain ⟨Ms32, hMs32⟩ : ∃ z, z = (u2 Ms30 4 3 n) := ⟨_, rfl⟩
      rw [← hMs32] at hP hD
      exact km_v F hlocks hret hP hD hS d_Mac_act_290 (by subst hMs32 hMs30; refine congrArg (wM a k) ?_; show _ = u2 (sPop M) 4 3 (if sTop M = 0 then n else M 4 3 + 1); rw [if_pos h207])
  · obtain ⟨h, r, o, e0, e1, e2, b0, b1, b2, c1, c2, c3, c4, c5⟩ := tr_all hm ht
    have h10 : r < 10 := by rcases Nat.lt_or_ge r 10 with q | q; exact q; exact absurd ⟨rfl, by omega⟩ c4
    refine lv_aload_n hx hb d_Mac_act_0 rfl (lv_at hl 0 rfl) ?_
    refine va_get (D := Dg) (ci := 1) (v := .int (M 4 3)) (C := R_Mac) (T := F_Mac) (N := 10) hx hb hT in_Mac hown hK hP 0 rfl rfl 7 (by decide) (hT _ tw1_78) (fun _ h9 => h9) rfl d_Mac_act_1 ?_
    refine lv_iconst (v := 1) hx hb d_Mac_act_4 (by decide) ?_
    refine lv_iadd hx hb d_Mac_act_5 ?_
    refine lv_istore_n hx hb d_Mac_act_6 rfl hl (by decide) rfl (fun ls hl => ?_)
    have hl : lv_has ls 4 [(3, .int ((M 4 3) + 1)), (0, .ref (a 0)), (1, .int 67), (2, .int n)] := hl
    refine lv_iload_n hx hb d_Mac_act_7 rfl (lv_at hl 2 rfl) ?_
    refine lv_tableIn (x := 67) (off := 211) (tgt := 219) hx hb d_Mac_act_8 (by decide) (by decide) rfl (by decide) ?_
    refine lv_aload_n hx hb d_Mac_act_219 rfl (lv_at hl 1 rfl) ?_
    refine va_get (D := Dg) (ci := 1) (v := .ref (a 4)) (C := R_Mac) (T := F_Mac) (N := 10) hx hb hT in_Mac hown hK hP 0 rfl rfl 3 (by decide) (hT _ tw1_73) (fun _ h9 => h9) rfl d_Mac_act_220 ?_
    refine lv_aload_n hx hb d_Mac_act_223 rfl (lv_at hl 1 rfl) ?_
    refine va_get (D := Dg) (ci := 1) (v := .int (M 4 1)) (C := R_Mac) (T := F_Mac) (N := 10) hx hb hT in_Mac hown hK hP 0 rfl rfl 5 (by decide) (hT _ tw1_76) (fun _ h9 => h9) rfl d_Mac_act_224 ?_
    refine lv_iload_n hx hb d_Mac_act_227 rfl (lv_at hl 0 rfl) ?_
    refine va_iast hx hb hK hP hD hS 4 0 rfl rfl (in_0 e1 h10 (by decide)) d_Mac_act_228 (fun H locs hP hD hS => ?_)
    have hP : va_P Dg classes (wM a k (u2 M 3 (M 4 1).toNatClampNeg ((M 4 3) + 1))) H := hP
    have hD : va_D (va_A (wM a k M) s.heap.size) (wM a k (u2 M 3 (M 4 1).toNatClampNeg ((M 4 3) + 1))) := hD
    obtain ⟨Ms33, hMs33⟩ : ∃ z, z = (u2 M 3 (M 4 1).toNatClampNeg ((M 4 3) + 1)) := ⟨_, rfl⟩
    rw [← hMs33] at hP hD
    refine lv_aload_n hx hb d_Mac_act_229 rfl (lv_at hl 1 rfl) ?_
    refine lv_dup hx hb d_Mac_act_230 rfl ?_
    refine va_get (D := Dg) (ci := 1) (v := .int (M 4 1)) (C := R_Mac) (T := F_Mac) (N := 10) hx hb hT in_Mac hown hK hP 0 rfl rfl 5 (by decide) (hT _ tw1_76) (fun _ h9 => h9) (by rw [hMs33]; rfl) d_Mac_act_231 ?_
    refine lv_iconst (v := 1) hx hb d_Mac_act_234 (by decide) ?_
    refine lv_iadd hx hb d_Mac_act_235 ?_
    refine va_put (D := Dg) (ci := 1) (v := .int ((M 4 1) + 1)) (ty := .int) (C := R_Mac) (T := F_Mac) (N := 10) hx hb hT in_Mac t_Mac t_Mac_ok n_Mac hown hK hP hD hS 0 rfl rfl 5 (by decide) (hT _ tw1_76) (fun _ h9 => h9) rfl (by decide +kernel) rfl rfl (Nat.le_of_ble_eq_true rfl) d_Mac_act_236 (fun H locs hP hD hS => ?_)
    have hP : va_P Dg classes (wM a k (u2 Ms33 4 1 ((M 4 1) + 1))) H := hP
    have hD : va_D (va_A (wM a k M) s.heap.size) (wM a k (u2 Ms33 4 1 ((M 4 1) + 1))) := hD
    obtain ⟨Ms34, hMs34⟩ : ∃ z, z = (u2 Ms33 4 1 ((M 4 1) + 1)) := ⟨_, rfl⟩
    rw [← hMs34] at hP hD
    refine lv_iload_n hx hb d_Mac_act_239 rfl (lv_at hl 3 rfl) ?_
    refine lv_istore_n hx hb d_Mac_act_240 rfl hl (by decide) rfl (fun ls hl => ?_)
    have hl : lv_has ls 4 [(3, .int n), (0, .ref (a 0)), (1, .int 67), (2, .int n)] := hl
    refine lv_goto (tgt := 285) hx hb d_Mac_act_241 (by decide) ?_
    refine lv_aload_n hx hb d_Mac_act_285 rfl (lv_at hl 1 rfl) ?_
    refine lv_iload_n hx hb d_Mac_act_286 rfl (lv_at hl 0 rfl) ?_
    refine va_put (D := Dg) (ci := 1) (v := .int n) (ty := .int) (C := R_Mac) (T := F_Mac) (N := 10) hx hb hT in_Mac t_Mac t_Mac_ok n_Mac hown hK hP hD hS 0 rfl rfl 7 (by decide) (hT _ tw1_78) (fun _ h9 => h9) rfl (by decide +kernel) rfl rfl (Nat.le_of_ble_eq_true rfl) d_Mac_act_287 (fun H locs hP hD hS => ?_)
    have hP : va_P Dg classes (wM a k (u2 Ms34 4 3 n)) H := hP
    have hD : va_D (va_A (wM a k M) s.heap.size) (wM a k (u2 Ms34 4 3 n)) := hD
    obtain ⟨Ms35, hMs35⟩ : ∃ z, z = (u2 Ms34 4 3 n) := ⟨_, rfl⟩
    rw [← hMs35] at hP hD
    exact km_v F hlocks hret hP hD hS d_Mac_act_290 (by subst hMs35 hMs34 hMs33; rfl)
  · obtain ⟨h, r, o, e0, e1, e2, b0, b1, b2, c1, c2, c3, c4, c5⟩ := tr_all hm ht
    have h10 : 1 ≤ r := by rcases Nat.lt_or_ge 0 r with q | q; exact q; exact absurd ⟨rfl, by omega⟩ c2
    refine lv_aload_n hx hb d_Mac_act_0 rfl (lv_at hl 0 rfl) ?_
    refine va_get (D := Dg) (ci := 1) (v := .int (M 4 3)) (C := R_Mac) (T := F_Mac) (N := 10) hx hb hT in_Mac hown hK hP 0 rfl rfl 7 (by decide) (hT _ tw1_78) (fun _ h9 => h9) rfl d_Mac_act_1 ?_
    refine lv_iconst (v := 1) hx hb d_Mac_act_4 (by decide) ?_
    refine lv_iadd hx hb d_Mac_act_5 ?_
    refine lv_istore_n hx hb d_Mac_act_6 rfl hl (by decide) rfl (fun ls hl => ?_)
    have hl : lv_has ls 4 [(3, .int ((M 4 3) + 1)), (0, .ref (a 0)), (1, .int 82), (2, .int n)] := hl
    refine lv_iload_n hx hb d_Mac_act_7 rfl (lv_at hl 2 rfl) ?_
    refine lv_tableIn (x := 82) (off := 236) (tgt := 244) hx hb d_Mac_act_8 (by decide) (by decide) rfl (by decide) ?_
    refine lv_aload_n hx hb d_Mac_act_244 rfl (lv_at hl 1 rfl) ?_
    refine lv_dup hx hb d_Mac_act_245 rfl ?_
    refine va_get (D := Dg) (ci := 1) (v := .int (M 4 1)) (C := R_Mac) (T := F_Mac) (N := 10) hx hb hT in_Mac hown hK hP 0 rfl rfl 5 (by decide) (hT _ tw1_76) (fun _ h9 => h9) rfl d_Mac_act_246 ?_
    refine lv_iconst (v := 1) hx hb d_Mac_act_249 (by decide) ?_
    refine lv_isub hx hb d_Mac_act_250 ?_
    refine va_put (D := Dg) (ci := 1) (v := .int ((M 4 1) - 1)) (ty := .int) (C := R_Mac) (T := F_Mac) (N := 10) hx hb hT in_Mac t_Mac t_Mac_ok n_Mac hown hK hP hD hS 0 rfl rfl 5 (by decide) (hT _ tw1_76) (fun _ h9 => h9) rfl (by decide +kernel) rfl rfl (Nat.le_of_ble_eq_true rfl) d_Mac_act_251 (fun H locs hP hD hS => ?_)
    have hP : va_P Dg classes (wM a k (u2 M 4 1 ((M 4 1) - 1))) H := hP
    have hD : va_D (va_A (wM a k M) s.heap.size) (wM a k (u2 M 4 1 ((M 4 1) - 1))) := hD
    obtain ⟨Ms36, hMs36⟩ : ∃ z, z = (u2 M 4 1 ((M 4 1) - 1)) := ⟨_, rfl⟩
    rw [← hMs36] at hP hD
    refine lv_aload_n hx hb d_Mac_act_254 rfl (lv_at hl 1 rfl) ?_
    refine va_get (D := Dg) (ci := 1) (v := .ref (a 4)) (C := R_Mac) (T := F_Mac) (N := 10) hx hb hT in_Mac hown hK hP 0 rfl rfl 3 (by decide) (hT _ tw1_73) (fun _ h9 => h9) rfl d_Mac_act_255 ?_
    refine lv_aload_n hx hb d_Mac_act_258 rfl (lv_at hl 1 rfl) ?_
    refine va_get (D := Dg) (ci := 1) (v := .int ((M 4 1) - 1)) (C := R_Mac) (T := F_Mac) (N := 10) hx hb hT in_Mac hown hK hP 0 rfl rfl 5 (by decide) (hT _ tw1_76) (fun _ h9 => h9) (by rw [hMs36]; rfl) d_Mac_act_259 ?_
    refine va_iald (f := (M 3)) hx hb hK hP 4 0 (by rw [hMs36]; rfl) rfl (in_1 e1 h10 b1 (by decide)) d_Mac_act_262 ?_
    refine lv_istore_n hx hb d_Mac_act_263 rfl hl (by decide) rfl (fun ls hl => ?_)
    have hl : lv_has ls 4 [(3, .int ((M 3) ((M 4 1) - 1).toNatClampNeg)), (0, .ref (a 0)), (1, .int 82), (2, .int n)] := hl
    refine lv_goto (tgt := 285) hx hb d_Mac_act_264 (by decide) ?_
    refine lv_aload_n hx hb d_Mac_act_285 rfl (lv_at hl 1 rfl) ?_
    refine lv_iload_n hx hb d_Mac_act_286 rfl (lv_at hl 0 rfl) ?_
    refine va_put (D := Dg) (ci := 1) (v := .int ((M 3) ((M 4 1) - 1).toNatClampNeg)) (ty := .int) (C := R_Mac) (T := F_Mac) (N := 10) hx hb hT in_Mac t_Mac t_Mac_ok n_Mac hown hK hP hD hS 0 rfl rfl 7 (by decide) (hT _ tw1_78) (fun _ h9 => h9) rfl (by decide +kernel) rfl rfl (Nat.le_of_ble_eq_true rfl) d_Mac_act_287 (fun H locs hP hD hS => ?_)
    have hP : va_P Dg classes (wM a k (u2 Ms36 4 3 ((M 3) ((M 4 1) - 1).toNatClampNeg))) H := hP
    have hD : va_D (va_A (wM a k M) s.heap.size) (wM a k (u2 Ms36 4 3 ((M 3) ((M 4 1) - 1).toNatClampNeg))) := hD
    obtain ⟨Ms37, hMs37⟩ : ∃ z, z = (u2 Ms36 4 3 ((M 3) ((M 4 1) - 1).toNatClampNeg)) := ⟨_, rfl⟩
    rw [← hMs37] at hP hD
    exact km_v F hlocks hret hP hD hS d_Mac_act_290 (by subst hMs37 hMs36; rfl)
  · obtain ⟨h, r, o, e0, e1, e2, b0, b1, b2, c1, c2, c3, c4, c5⟩ := tr_all hm ht
    refine lv_aload_n hx hb d_Mac_act_0 rfl (lv_at hl 0 rfl) ?_
    refine va_get (D := Dg) (ci := 1) (v := .int (M 4 3)) (C := R_Mac) (T := F_Mac) (N := 10) hx hb hT in_Mac hown hK hP 0 rfl rfl 7 (by decide) (hT _ tw1_78) (fun _ h9 => h9) rfl d_Mac_act_1 ?_
    refine lv_iconst (v := 1) hx hb d_Mac_act_4 (by decide) ?_
    refine lv_iadd hx hb d_Mac_act_5 ?_
    refine lv_istore_n hx hb d_Mac_act_6 rfl hl (by decide) rfl (fun ls hl => ?_)
    have hl : lv_has ls 4 [(3, .int ((M 4 3) + 1)), (0, .ref (a 0)), (1, .int 72), (2, .int n)] := hl
    refine lv_iload_n hx hb d_Mac_act_7 rfl (lv_at hl 2 rfl) ?_
    refine lv_tableIn (x := 72) (off := 259) (tgt := 267) hx hb d_Mac_act_8 (by decide) (by decide) rfl (by decide) ?_
    refine lv_aload_n hx hb d_Mac_act_267 rfl (lv_at hl 1 rfl) ?_
    refine lv_iconst (v := 5) hx hb d_Mac_act_268 (by decide) ?_
    refine va_put (D := Dg) (ci := 1) (v := .int 5) (ty := .int) (C := R_Mac) (T := F_Mac) (N := 10) hx hb hT in_Mac t_Mac t_Mac_ok n_Mac hown hK hP hD hS 0 rfl rfl 8 (by decide) (hT _ tw1_79) (fun _ h9 => h9) rfl (by decide +kernel) rfl rfl (Nat.le_of_ble_eq_true rfl) d_Mac_act_269 (fun H locs hP hD hS => ?_)
    have hP : va_P Dg classes (wM a k (u2 M 4 4 5)) H := hP
    have hD : va_D (va_A (wM a k M) s.heap.size) (wM a k (u2 M 4 4 5)) := hD
    obtain ⟨Ms38, hMs38⟩ : ∃ z, z = (u2 M 4 4 5) := ⟨_, rfl⟩
    rw [← hMs38] at hP hD
    refine lv_aload_n hx hb d_Mac_act_272 rfl (lv_at hl 1 rfl) ?_
    refine va_get (D := Dg) (ci := 1) (v := .int (M 4 3)) (C := R_Mac) (T := F_Mac) (N := 10) hx hb hT in_Mac hown hK hP 0 rfl rfl 7 (by decide) (hT _ tw1_78) (fun _ h9 => h9) (by rw [hMs38]; rfl) d_Mac_act_273 ?_
    refine lv_istore_n hx hb d_Mac_act_276 rfl hl (by decide) rfl (fun ls hl => ?_)
    have hl : lv_has ls 4 [(3, .int (M 4 3)), (0, .ref (a 0)), (1, .int 72), (2, .int n)] := hl
    refine lv_goto (tgt := 285) hx hb d_Mac_act_277 (by decide) ?_
    refine lv_aload_n hx hb d_Mac_act_285 rfl (lv_at hl 1 rfl) ?_
    refine lv_iload_n hx hb d_Mac_act_286 rfl (lv_at hl 0 rfl) ?_
    refine va_put (D := Dg) (ci := 1) (v := .int (M 4 3)) (ty := .int) (C := R_Mac) (T := F_Mac) (N := 10) hx hb hT in_Mac t_Mac t_Mac_ok n_Mac hown hK hP hD hS 0 rfl rfl 7 (by decide) (hT _ tw1_78) (fun _ h9 => h9) rfl (by decide +kernel) rfl rfl (Nat.le_of_ble_eq_true rfl) d_Mac_act_287 (fun H locs hP hD hS => ?_)
    have hP : va_P Dg classes (wM a k (u2 Ms38 4 3 (M 4 3))) H := hP
    have hD : va_D (va_A (wM a k M) s.heap.size) (wM a k (u2 Ms38 4 3 (M 4 3))) := hD
    obtain ⟨Ms39, hMs39⟩ : ∃ z, z = (u2 Ms38 4 3 (M 4 3)) := ⟨_, rfl⟩
    rw [← hMs39] at hP hD
    exact km_v F hlocks hret hP hD hS d_Mac_act_290 (by subst hMs39 hMs38; rfl)
end
section
/-- Arrays.fill(int[], int) -/
theorem c_Arr_fill (l : Launch) (Dg : va_G) (k : Nat → ClassId) (q n : Nat) (f : Nat → Int32) (v : Int32) (H : Heap) (hn : n < 2 ^ 31) (hP : va_P Dg classes [(q, .inl (k 0, n, .inl f))] H) (hD : va_D (fun _ => True) [(q, .inl (k 0, n, .inl f))]) : kMv l y_Arr_fill b_Arr_fill 4 0 0 [.ref q, .int v] H (va_K Dg classes (kTy k)) Dg [(q, .inl (k 0, n, .inl f))] [(q, .inl (k 0, n, .inl (fillF f v n)))] := by
  refine k_of (by decide) (Nat.le_of_ble_eq_true rfl) ?_
  intro p e s m below meth cd ls F hlocks hret hname hh hK hl
  subst hh
  obtain ⟨hx, hb, hml, hown, hT⟩ := id F
  have hD := hD.self (sz := s.heap.size)
  have hS : va_S (va_A [(q, .inl (k 0, n, .inl f))] s.heap.size) s.heap s.heap [] := va_S.rf
  have hl : lv_has ls 4 [(0, .ref q), (1, .int v)] := hl
  refine lv_iconst (v := 0) hx hb d_Arr_fill_0 (by decide) ?_
  refine lv_istore_n hx hb d_Arr_fill_1 rfl hl (by decide) rfl (fun ls hl => ?_)
  have hl : lv_has ls 4 [(2, .int 0), (0, .ref q), (1, .int v)] := hl
  refine lv_aload_n hx hb d_Arr_fill_2 rfl (lv_at hl 1 rfl) ?_
  refine va_alen (v := nI n) hx hb hK hP 0 0 rfl (ty := .int) rfl rfl d_Arr_fill_3 ?_
  refine lv_istore_n hx hb d_Arr_fill_4 rfl hl (by decide) rfl (fun ls hl => ?_)
  have hl : lv_has ls 4 [(3, .int (nI n)), (2, .int (nI 0)), (0, .ref q), (1, .int v)] := hl
  refine k_while (σ := Nat) (fun j i H locs ls => i + j = n ∧ lv_has ls 4 [(3, .int (nI n)), (2, .int (nI i)), (0, .ref q), (1, .int v)] ∧ va_P Dg classes [(q, .inl (k 0, n, .inl (fillF f v i)))] H ∧ va_D (va_A [(q, .inl (k 0, n, .inl f))] s.heap.size) [(q, .inl (k 0, n, .inl (fillF f v i)))] ∧ va_S (va_A [(q, .inl (k 0, n, .inl f))] s.heap.size) s.heap H locs) ?_ n 0 ⟨by omega, hl, hP, hD, hS⟩
  rintro j i H locs ls ⟨hij, hl, hP, hD, hS⟩ ih
  refine lv_iload_n hx hb d_Arr_fill_5 rfl (lv_at hl 1 rfl) ?_
  refine lv_iload_n hx hb d_Arr_fill_6 rfl (lv_at hl 0 rfl) ?_
  refine lv_icmp_ge (tgt := 20) hx hb d_Arr_fill_7 (by decide) (fun h7 => ?_) (fun h7 => ?_)
  · have hi : n ≤ i := (nI_leI hn (by omega)).mp h7
    have hi : i = n := by omega
    subst hi
    exact km_v F hlocks hret hP hD hS d_Arr_fill_20 rfl
  · have hi : i < n := by
      rcases Nat.lt_or_ge i n with z | z
      · exact z
      · exact absurd (nI_le z (by omega)) h7
    refine lv_aload_n hx hb d_Arr_fill_10 rfl (lv_at hl 2 rfl) ?_
    refine lv_iload_n hx hb d_Arr_fill_11 rfl (lv_at hl 1 rfl) ?_
    refine lv_iload_n hx hb d_Arr_fill_12 rfl (lv_at hl 3 rfl) ?_
    refine va_iast hx hb hK hP hD hS 0 0 rfl rfl (vp_in_nI hi hn) d_Arr_fill_13 (fun H locs hP hD hS => ?_)
    rw [nI_clamp (by omega)] at hP hD
    refine lv_iinc (k := 1) (v := nI (i + 1)) hx hb d_Arr_fill_14 hl rfl (nI_succ _).symm (by decide) rfl (fun ls hl => ?_)
    refine lv_goto (tgt := 5) hx hb d_Arr_fill_17 (by decide) ?_
    exact ih (j - 1) (i + 1) H locs ls (by omega) ⟨by omega, lv_sub hl [1, 0, 2, 3] rfl, hP, hD, hS⟩

set_option maxRecDepth 100000 in
set_option maxHeartbeats 4000000 in
theorem c_Mac_keptOutputs (l : Launch) (Dg : va_G) (a : Nat → Nat) (k : Nat → ClassId) (M : vSt) (H : Heap) (hP : va_P Dg classes (wM a k M) H) : kPu l y_Mac_keptOutputs b_Mac_keptOutputs 1 (some FieldType.int) 1 34 [.ref (a 0)] H (va_K Dg classes (kTy k)) (sMin (M 4 2) 60) := by
  refine k_of (by decide) (Nat.le_of_ble_eq_true rfl) ?_
  intro p e s m below meth cd ls F hlocks hret hname hh hX hl
  subst hh
  obtain ⟨hx, hb, hml, hown, hT⟩ := id F
  have hK : va_K Dg classes (kTy k) s := hX
  have hS : va_S (fun _ => False) s.heap s.heap [] := va_S.rf
  have hl : lv_has ls 1 [(0, .ref (a 0))] := hl
  refine lv_aload_n hx hb d_Mac_keptOutputs_0 rfl (lv_at hl 0 rfl) ?_
  refine va_get (D := Dg) (ci := 1) (v := .int (M 4 2)) (C := R_Mac) (T := F_Mac) (N := 10) hx hb hT in_Mac hown hK hP 0 rfl rfl 6 (by decide) (hT _ tw1_77) (fun _ h9 => h9) rfl d_Mac_keptOutputs_1 ?_
  refine lv_bipush (v := 60) hx hb d_Mac_keptOutputs_4 (by decide) ?_
  refine va_mmin hx hb (hml.trans hl.1.symm) hown (hT _ tw2_147) (hT _ tw2_148) (hT _ tw1_17) (hT _ tw2_149) (Nat.le_of_ble_eq_true rfl) (Nat.le_of_ble_eq_true rfl) (Nat.le_refl _) (Nat.le_refl _) d_Mac_keptOutputs_6 ?_
  change W _ _ _ _ _ _ _ _ _ _ _ _ _ _ _ (F0 m 9 ls (.int (sMin (M 4 2) 60) :: []))
  exact kp_i F hlocks hret hS d_Mac_keptOutputs_9 rfl

theorem sw_5 (w : Int32) : w = 0 ∨ w = 1 ∨ w = 2 ∨ w = 3 ∨ w = 4 ∨ w = 5 ∨ (w.toInt < 0 ∨ 5 < w.toInt) := by
  have key : ∀ z : Int32, w.toInt = z.toInt → w = z := fun z h => Int32.toInt_inj.mp h
  by_cases h : w.toInt < 0 ∨ 5 < w.toInt
  · simp [h]
  · have h1 : w.toInt = 0 ∨ w.toInt = 1 ∨ w.toInt = 2 ∨ w.toInt = 3 ∨ w.toInt = 4 ∨ w.toInt = 5 := by omega
    rcases h1 with q | q | q | q | q | q
    · exact Or.inl (key 0 q)
    · exact Or.inr (Or.inl (key 1 q))
    · exact Or.inr (Or.inr (Or.inl (key 2 q)))
    · exact Or.inr (Or.inr (Or.inr (Or.inl (key 3 q))))
    · exact Or.inr (Or.inr (Or.inr (Or.inr (Or.inl (key 4 q)))))
    · exact Or.inr (Or.inr (Or.inr (Or.inr (Or.inr (Or.inl (key 5 q))))))
theorem ne_of_out {w : Int32} {lo hi : Int} (h : w.toInt < lo ∨ hi < w.toInt) (z : Int32) (h1 : lo ≤ z.toInt) (h2 : z.toInt ≤ hi) : ¬ w = z := fun q => by subst q; omega

set_option maxRecDepth 100000 in
set_option maxHeartbeats 4000000 in
theorem c_Mac_factOf (l : Launch) (Dg : va_G) (a : Nat → Nat) (k : Nat → ClassId) (M : vSt) (w : Int32) (H : Heap) (hP : va_P Dg classes (wM a k M) H) : kPu l y_Mac_factOf b_Mac_factOf 2 (some FieldType.int) 0 0 [.ref (a 0), .int w] H (va_K Dg classes (kTy k)) (sFact M w) := by
  refine k_of (by decide) (Nat.le_of_ble_eq_true rfl) ?_
  intro p e s m below meth cd ls F hlocks hret hname hh hX hl
  subst hh
  obtain ⟨hx, hb, hml, hown, hT⟩ := id F
  have hK : va_K Dg classes (kTy k) s := hX
  have hS : va_S (fun _ => False) s.heap s.heap [] := va_S.rf
  have hl : lv_has ls 2 [(0, .ref (a 0)), (1, .int w)] := hl
  rcases sw_5 w with rfl | rfl | rfl | rfl | rfl | rfl | hsw
  · refine lv_iload_n hx hb d_Mac_factOf_0 rfl (lv_at hl 1 rfl) ?_
    refine lv_tableIn (x := 0) (off := 39) (tgt := 40) hx hb d_Mac_factOf_1 (by decide) (by decide) rfl (by decide) ?_
    refine lv_aload_n hx hb d_Mac_factOf_40 rfl (lv_at hl 0 rfl) ?_
    refine va_get (D := Dg) (ci := 1) (v := .int (M 4 3)) (C := R_Mac) (T := F_Mac) (N := 10) hx hb hT in_Mac hown hK hP 0 rfl rfl 7 (by decide) (hT _ tw1_78) (fun _ h9 => h9) rfl d_Mac_factOf_41 ?_
    exact kp_i F hlocks hret hS d_Mac_factOf_44 rfl
  · refine lv_iload_n hx hb d_Mac_factOf_0 rfl (lv_at hl 1 rfl) ?_
    refine lv_tableIn (x := 1) (off := 44) (tgt := 45) hx hb d_Mac_factOf_1 (by decide) (by decide) rfl (by decide) ?_
    refine lv_aload_n hx hb d_Mac_factOf_45 rfl (lv_at hl 0 rfl) ?_
    refine va_get (D := Dg) (ci := 1) (v := .int (M 4 0)) (C := R_Mac) (T := F_Mac) (N := 10) hx hb hT in_Mac hown hK hP 0 rfl rfl 4 (by decide) (hT _ tw1_74) (fun _ h9 => h9) rfl d_Mac_factOf_46 ?_
    exact kp_i F hlocks hret hS d_Mac_factOf_49 rfl
  · refine lv_iload_n hx hb d_Mac_factOf_0 rfl (lv_at hl 1 rfl) ?_
    refine lv_tableIn (x := 2) (off := 49) (tgt := 50) hx hb d_Mac_factOf_1 (by decide) (by decide) rfl (by decide) ?_
    refine lv_aload_n hx hb d_Mac_factOf_50 rfl (lv_at hl 0 rfl) ?_
    refine va_get (D := Dg) (ci := 1) (v := .int (M 4 1)) (C := R_Mac) (T := F_Mac) (N := 10) hx hb hT in_Mac hown hK hP 0 rfl rfl 5 (by decide) (hT _ tw1_76) (fun _ h9 => h9) rfl d_Mac_factOf_51 ?_
    exact kp_i F hlocks hret hS d_Mac_factOf_54 rfl
  · refine lv_iload_n hx hb d_Mac_factOf_0 rfl (lv_at hl 1 rfl) ?_
    refine lv_tableIn (x := 3) (off := 54) (tgt := 55) hx hb d_Mac_factOf_1 (by decide) (by decide) rfl (by decide) ?_
    refine lv_aload_n hx hb d_Mac_factOf_55 rfl (lv_at hl 0 rfl) ?_
    refine va_get (D := Dg) (ci := 1) (v := .int (M 4 2)) (C := R_Mac) (T := F_Mac) (N := 10) hx hb hT in_Mac hown hK hP 0 rfl rfl 6 (by decide) (hT _ tw1_77) (fun _ h9 => h9) rfl d_Mac_factOf_56 ?_
    exact kp_i F hlocks hret hS d_Mac_factOf_59 rfl
  · refine lv_iload_n hx hb d_Mac_factOf_0 rfl (lv_at hl 1 rfl) ?_
    refine lv_tableIn (x := 4) (off := 59) (tgt := 60) hx hb d_Mac_factOf_1 (by decide) (by decide) rfl (by decide) ?_
    refine lv_aload_n hx hb d_Mac_factOf_60 rfl (lv_at hl 0 rfl) ?_
    refine va_get (D := Dg) (ci := 1) (v := .int (M 4 4)) (C := R_Mac) (T := F_Mac) (N := 10) hx hb hT in_Mac hown hK hP 0 rfl rfl 8 (by decide) (hT _ tw1_79) (fun _ h9 => h9) rfl d_Mac_factOf_61 ?_
    exact kp_i F hlocks hret hS d_Mac_factOf_64 rfl
  · refine lv_iload_n hx hb d_Mac_factOf_0 rfl (lv_at hl 1 rfl) ?_
    refine lv_tableIn (x := 5) (off := 64) (tgt := 65) hx hb d_Mac_factOf_1 (by decide) (by decide) rfl (by decide) ?_
    refine lv_aload_n hx hb d_Mac_factOf_65 rfl (lv_at hl 0 rfl) ?_
    refine va_get (D := Dg) (ci := 1) (v := .int (M 4 5)) (C := R_Mac) (T := F_Mac) (N := 10) hx hb hT in_Mac hown hK hP 0 rfl rfl 9 (by decide) (hT _ tw1_80) (fun _ h9 => h9) rfl d_Mac_factOf_66 ?_
    exact kp_i F hlocks hret hS d_Mac_factOf_69 rfl
  · refine lv_iload_n hx hb d_Mac_factOf_0 rfl (lv_at hl 1 rfl) ?_
    refine lv_tableOut (tgt := 70) hx hb d_Mac_factOf_1 hsw (by decide) ?_
    refine lv_iconst (v := (-1)) hx hb d_Mac_factOf_70 (by decide) ?_
    exact kp_i F hlocks hret hS d_Mac_factOf_71 (by unfold sFact; rw [if_neg (ne_of_out hsw 0 (by decide) (by decide)), if_neg (ne_of_out hsw 1 (by decide) (by decide)), if_neg (ne_of_out hsw 2 (by decide) (by decide)), if_neg (ne_of_out hsw 3 (by decide) (by decide)), if_neg (ne_of_out hsw 4 (by decide) (by decide)), if_neg (ne_of_out hsw 5 (by decide) (by decide))])

set_option maxRecDepth 100000 in
set_option maxHeartbeats 4000000 in
theorem c_Mac_begin (l : Launch) (Dg : va_G) (a : Nat → Nat) (k : Nat → ClassId) (M : vSt) (H : Heap) (hP : va_P Dg classes (wM a k M) H) (hD : va_D (fun _ => True) (wM a k M)) : kMv l y_Mac_begin b_Mac_begin 1 1 23 [.ref (a 0)] H (va_K Dg classes (kTy k)) Dg (wM a k M) (wM a k (sBegin M)) := by
  refine k_of (by decide) (Nat.le_of_ble_eq_true rfl) ?_
  intro p e s m below meth cd ls F hlocks hret hname hh hX hl
  subst hh
  obtain ⟨hx, hb, hml, hown, hT⟩ := id F
  have hK : va_K Dg classes (kTy k) s := hX
  have hA : ∀ q : Nat, s.heap.size ≤ q → va_A (wM a k M) s.heap.size q := fun q h => Or.inr h
  have hD := hD.self (sz := s.heap.size)
  have hS : va_S (va_A (wM a k M) s.heap.size) s.heap s.heap [] := va_S.rf
  have hl : lv_has ls 1 [(0, .ref (a 0))] := hl
  refine lv_aload_n hx hb d_Mac_begin_0 rfl (lv_at hl 0 rfl) ?_
  refine va_get (D := Dg) (ci := 1) (v := .ref (a 2)) (C := R_Mac) (T := F_Mac) (N := 10) hx hb hT in_Mac hown hK hP 0 rfl rfl 1 (by decide) (hT _ tw1_69) (fun _ h9 => h9) rfl d_Mac_begin_1 ?_
  refine lv_iconst (v := 0) hx hb d_Mac_begin_4 (by decide) ?_
  refine km_Sv (wr := [(a 0, .inr (1, [.ref (a 1), .ref (a 2), .ref (a 3), .ref (a 4), .int (M 4 0), .int (M 4 1), .int (M 4 2), .int (M 4 3), .int (M 4 4), .int (M 4 5)])), (a 1, .inl (k 0, 40, .inl (M 0))), (a 3, .inl (k 0, 60, .inl (M 2))), (a 4, .inl (k 0, 10, .inl (M 3)))]) F (c_Arr_fill l Dg k (a 2) 8 (M 1) 0 _ (by decide) (hP.sub (ws' := [(a 2, .inl (k 0, 8, .inl (M 1)))]) [2] rfl) ((hD.sub (ws' := [(a 2, .inl (k 0, 8, .inl (M 1)))]) [2] (by decide) rfl).weaken (fun _ _ _ _ => trivial))) kx_K hK kw_Mac_24 tw1_129 hP hD hS hA [2] [0, 1, 3, 4] rfl rfl (by decide) (by decide) d_Mac_begin_5 ⟨⟨by decide, by decide⟩, Nat.le_refl _, Nat.le_refl _⟩ rfl hl.1 rfl (Nat.le_of_ble_eq_true rfl) (fun H locs hP hD hS => ?_)
  have hP := hP.sub (ws' := wM a k (sZero M)) [0, 1, 4, 2, 3] rfl
  have hD := hD.sub (ws' := wM a k (sZero M)) [0, 1, 4, 2, 3] (by decide) rfl
  have hP : va_P Dg classes (wM a k (sZero M)) H := hP
  have hD : va_D (va_A (wM a k M) s.heap.size) (wM a k (sZero M)) := hD
  obtain ⟨Ms1, hMs1⟩ : ∃ z, z = (sZero M) := ⟨_, rfl⟩
  rw [← hMs1] at hP hD
  refine lv_aload_n hx hb d_Mac_begin_8 rfl (lv_at hl 0 rfl) ?_
  refine lv_iconst (v := 0) hx hb d_Mac_begin_9 (by decide) ?_
  refine va_put (D := Dg) (ci := 1) (v := .int 0) (ty := .int) (C := R_Mac) (T := F_Mac) (N := 10) hx hb hT in_Mac t_Mac t_Mac_ok n_Mac hown hK hP hD hS 0 rfl rfl 4 (by decide) (hT _ tw1_74) (fun _ h9 => h9) rfl (by decide +kernel) rfl rfl (Nat.le_of_ble_eq_true rfl) d_Mac_begin_10 (fun H locs hP hD hS => ?_)
  have hP : va_P Dg classes (wM a k (u2 Ms1 4 0 0)) H := hP
  have hD : va_D (va_A (wM a k M) s.heap.size) (wM a k (u2 Ms1 4 0 0)) := hD
  obtain ⟨Ms2, hMs2⟩ : ∃ z, z = (u2 Ms1 4 0 0) := ⟨_, rfl⟩
  rw [← hMs2] at hP hD
  refine lv_aload_n hx hb d_Mac_begin_13 rfl (lv_at hl 0 rfl) ?_
  refine lv_iconst (v := 0) hx hb d_Mac_begin_14 (by decide) ?_
  refine va_put (D := Dg) (ci := 1) (v := .int 0) (ty := .int) (C := R_Mac) (T := F_Mac) (N := 10) hx hb hT in_Mac t_Mac t_Mac_ok n_Mac hown hK hP hD hS 0 rfl rfl 5 (by decide) (hT _ tw1_76) (fun _ h9 => h9) rfl (by decide +kernel) rfl rfl (Nat.le_of_ble_eq_true rfl) d_Mac_begin_15 (fun H locs hP hD hS => ?_)
  have hP : va_P Dg classes (wM a k (u2 Ms2 4 1 0)) H := hP
  have hD : va_D (va_A (wM a k M) s.heap.size) (wM a k (u2 Ms2 4 1 0)) := hD
  obtain ⟨Ms3, hMs3⟩ : ∃ z, z = (u2 Ms2 4 1 0) := ⟨_, rfl⟩
  rw [← hMs3] at hP hD
  refine lv_aload_n hx hb d_Mac_begin_18 rfl (lv_at hl 0 rfl) ?_
  refine lv_iconst (v := 0) hx hb d_Mac_begin_19 (by decide) ?_
  refine va_put (D := Dg) (ci := 1) (v := .int 0) (ty := .int) (C := R_Mac) (T := F_Mac) (N := 10) hx hb hT in_Mac t_Mac t_Mac_ok n_Mac hown hK hP hD hS 0 rfl rfl 6 (by decide) (hT _ tw1_77) (fun _ h9 => h9) rfl (by decide +kernel) rfl rfl (Nat.le_of_ble_eq_true rfl) d_Mac_begin_20 (fun H locs hP hD hS => ?_)
  have hP : va_P Dg classes (wM a k (u2 Ms3 4 2 0)) H := hP
  have hD : va_D (va_A (wM a k M) s.heap.size) (wM a k (u2 Ms3 4 2 0)) := hD
  obtain ⟨Ms4, hMs4⟩ : ∃ z, z = (u2 Ms3 4 2 0) := ⟨_, rfl⟩
  rw [← hMs4] at hP hD
  refine lv_aload_n hx hb d_Mac_begin_23 rfl (lv_at hl 0 rfl) ?_
  refine lv_iconst (v := 0) hx hb d_Mac_begin_24 (by decide) ?_
  refine va_put (D := Dg) (ci := 1) (v := .int 0) (ty := .int) (C := R_Mac) (T := F_Mac) (N := 10) hx hb hT in_Mac t_Mac t_Mac_ok n_Mac hown hK hP hD hS 0 rfl rfl 7 (by decide) (hT _ tw1_78) (fun _ h9 => h9) rfl (by decide +kernel) rfl rfl (Nat.le_of_ble_eq_true rfl) d_Mac_begin_25 (fun H locs hP hD hS => ?_)
  have hP : va_P Dg classes (wM a k (u2 Ms4 4 3 0)) H := hP
  have hD : va_D (va_A (wM a k M) s.heap.size) (wM a k (u2 Ms4 4 3 0)) := hD
  obtain ⟨Ms5, hMs5⟩ : ∃ z, z = (u2 Ms4 4 3 0) := ⟨_, rfl⟩
  rw [← hMs5] at hP hD
  refine lv_aload_n hx hb d_Mac_begin_28 rfl (lv_at hl 0 rfl) ?_
  refine lv_iconst (v := 0) hx hb d_Mac_begin_29 (by decide) ?_
  refine va_put (D := Dg) (ci := 1) (v := .int 0) (ty := .int) (C := R_Mac) (T := F_Mac) (N := 10) hx hb hT in_Mac t_Mac t_Mac_ok n_Mac hown hK hP hD hS 0 rfl rfl 8 (by decide) (hT _ tw1_79) (fun _ h9 => h9) rfl (by decide +kernel) rfl rfl (Nat.le_of_ble_eq_true rfl) d_Mac_begin_30 (fun H locs hP hD hS => ?_)
  have hP : va_P Dg classes (wM a k (u2 Ms5 4 4 0)) H := hP
  have hD : va_D (va_A (wM a k M) s.heap.size) (wM a k (u2 Ms5 4 4 0)) := hD
  obtain ⟨Ms6, hMs6⟩ : ∃ z, z = (u2 Ms5 4 4 0) := ⟨_, rfl⟩
  rw [← hMs6] at hP hD
  refine lv_aload_n hx hb d_Mac_begin_33 rfl (lv_at hl 0 rfl) ?_
  refine lv_iconst (v := 0) hx hb d_Mac_begin_34 (by decide) ?_
  refine va_put (D := Dg) (ci := 1) (v := .int 0) (ty := .int) (C := R_Mac) (T := F_Mac) (N := 10) hx hb hT in_Mac t_Mac t_Mac_ok n_Mac hown hK hP hD hS 0 rfl rfl 9 (by decide) (hT _ tw1_80) (fun _ h9 => h9) rfl (by decide +kernel) rfl rfl (Nat.le_of_ble_eq_true rfl) d_Mac_begin_35 (fun H locs hP hD hS => ?_)
  have hP : va_P Dg classes (wM a k (u2 Ms6 4 5 0)) H := hP
  have hD : va_D (va_A (wM a k M) s.heap.size) (wM a k (u2 Ms6 4 5 0)) := hD
  obtain ⟨Ms7, hMs7⟩ : ∃ z, z = (u2 Ms6 4 5 0) := ⟨_, rfl⟩
  rw [← hMs7] at hP hD
  exact km_v F hlocks hret hP hD hS d_Mac_begin_38 (by subst hMs7 hMs6 hMs5 hMs4 hMs3 hMs2 hMs1; rfl)
end
section
set_option maxRecDepth 100000 in
set_option maxHeartbeats 4000000 in
theorem c_Prg_has (l : Launch) (Dg : va_G) (b : Nat → Nat) (k : Nat → ClassId) (G : vSt) (q : Int32) (H : Heap) (hP : va_P Dg classes (wP b k G) H) : kPu l y_Prg_has b_Prg_has 2 (some FieldType.boolean) 0 0 [.ref (b 0), .int q] H (va_K Dg classes (kTy k)) (sHas G q) := by
  refine k_of (by decide) (Nat.le_of_ble_eq_true rfl) ?_
  intro p e s m below meth cd ls F hlocks hret hname hh hX hl
  subst hh
  obtain ⟨hx, hb, hml, hown, hT⟩ := id F
  have hK : va_K Dg classes (kTy k) s := hX
  have hS : va_S (fun _ => False) s.heap s.heap [] := va_S.rf
  have hl : lv_has ls 2 [(0, .ref (b 0)), (1, .int q)] := hl
  refine lv_iload_n hx hb d_Prg_has_0 rfl (lv_at hl 1 rfl) ?_
  refine lv_if_lt (tgt := 16) hx hb d_Prg_has_1 (by decide) (fun h1 => ?_) (fun h1 => ?_)
  · refine lv_iconst (v := 0) hx hb d_Prg_has_16 (by decide) ?_
    exact kp_z F hlocks hret hS d_Prg_has_17 rfl (by unfold sHas; rw [if_neg (fun z => Int32.not_lt.mpr z.1 h1)])
  · refine lv_iload_n hx hb d_Prg_has_4 rfl (lv_at hl 1 rfl) ?_
    refine lv_aload_n hx hb d_Prg_has_5 rfl (lv_at hl 0 rfl) ?_
    refine va_get (D := Dg) (ci := 2) (v := .int (G 5 0)) (C := R_Prg) (T := F_Prg) (N := 7) hx hb hT in_Prg hown hK hP 0 rfl rfl 5 (by decide) (hT _ tw1_41) (fun _ h9 => h9) rfl d_Prg_has_6 ?_
    refine lv_icmp_ge (tgt := 16) hx hb d_Prg_has_9 (by decide) (fun h9 => ?_) (fun h9 => ?_)
    · refine lv_iconst (v := 0) hx hb d_Prg_has_16 (by decide) ?_
      exact kp_z F hlocks hret hS d_Prg_has_17 rfl (by unfold sHas; rw [if_neg (fun z => Int32.not_lt.mpr h9 z.2)])
    · refine lv_iconst (v := 1) hx hb d_Prg_has_12 (by decide) ?_
      refine lv_goto (tgt := 17) hx hb d_Prg_has_13 (by decide) ?_
      exact kp_z F hlocks hret hS d_Prg_has_17 rfl (by unfold sHas; rw [if_pos ⟨Int32.not_lt.mp h1, Int32.not_le.mp h9⟩])

set_option maxRecDepth 100000 in
set_option maxHeartbeats 4000000 in
theorem c_Mac_doRow (l : Launch) (Dg : va_G) (a b : Nat → Nat) (k : Nat → ClassId) (M G : vSt) (j : Nat) (H : Heap) (hP : va_P Dg classes ((wM a k M) ++ (wP b k G)) H) (hD : va_D (fun _ => True) ((wM a k M) ++ (wP b k G))) (hj4 : j ≤ 4) (hro : rowOk G j M) : kMv l y_Mac_doRow b_Mac_doRow 6 3 68 [.ref (a 0), .ref (b 0), .int (nI j)] H (va_K Dg classes (kTy k)) Dg ((wM a k M) ++ (wP b k G)) (wM a k (sRow G j M) ++ wP b k G) := by
  refine k_of (by decide) (Nat.le_of_ble_eq_true rfl) ?_
  intro p e s m below meth cd ls F hlocks hret hname hh hX hl
  subst hh
  obtain ⟨hx, hb, hml, hown, hT⟩ := id F
  have hK : va_K Dg classes (kTy k) s := hX
  have hA : ∀ q : Nat, s.heap.size ≤ q → va_A ((wM a k M) ++ (wP b k G)) s.heap.size q := fun q h => Or.inr h
  have hD := hD.self (sz := s.heap.size)
  have hS : va_S (va_A ((wM a k M) ++ (wP b k G)) s.heap.size) s.heap s.heap [] := va_S.rf
  have hl : lv_has ls 6 [(0, .ref (a 0)), (1, .ref (b 0)), (2, .int (nI j))] := hl
  refine lv_iconst (v := 0) hx hb d_Mac_doRow_0 (by decide) ?_
  refine lv_istore_n hx hb d_Mac_doRow_1 rfl hl (by decide) rfl (fun ls hl => ?_)
  have hl : lv_has ls 6 [(3, .int 0), (0, .ref (a 0)), (1, .ref (b 0)), (2, .int (nI j))] := hl
  refine k_while (σ := Nat × vSt) (fun f x H locs ls => x.1 + f = j ∧ rowOk G f x.2 ∧ sRow G f x.2 = sRow G j M ∧ lv_has ls 6 [(3, .int (nI x.1)), (0, .ref (a 0)), (1, .ref (b 0)), (2, .int (nI j))] ∧ va_P Dg classes (wM a k x.2 ++ wP b k G) H ∧ va_D (va_A (wM a k M ++ wP b k G) s.heap.size) (wM a k x.2 ++ wP b k G) ∧ va_S (va_A (wM a k M ++ wP b k G) s.heap.size) s.heap H locs) ?_ j (0, M) ⟨by show 0 + j = j; omega, hro, rfl, (lv_sub hl [0, 1, 2, 3] rfl), hP, hD, hS⟩
  rintro f ⟨i, Mi⟩ H locs ls ⟨hif, hro5, hsr5, hl, hP, hD, hS⟩ ih
  have hl : lv_has ls 6 [(3, .int (nI i)), (0, .ref (a 0)), (1, .ref (b 0)), (2, .int (nI j))] := hl
  have hP : va_P Dg classes ((wM a k Mi) ++ (wP b k G)) H := hP
  have hD : va_D (va_A ((wM a k M) ++ (wP b k G)) s.heap.size) ((wM a k Mi) ++ (wP b k G)) := hD
  have hif : i + f = j := hif
  have hro5 : rowOk G f Mi := hro5
  have hsr5 : sRow G f Mi = sRow G j M := hsr5
  refine lv_iload_n hx hb d_Mac_doRow_2 rfl (lv_at hl 0 rfl) ?_
  refine lv_iload_n hx hb d_Mac_doRow_3 rfl (lv_at hl 3 rfl) ?_
  refine lv_icmp_ge (tgt := 78) hx hb d_Mac_doRow_4 (by decide) (fun h4 => ?_) (fun h4 => ?_)
  · refine km_v F hlocks hret hP hD hS d_Mac_doRow_78 ?_
    have hj : i = j := by have := (nI_leI (by omega) (by omega)).mp h4; omega
    obtain rfl : f = 0 := by omega
    exact congrArg (fun z => wM a k z ++ wP b k G) hsr5
  · refine lv_aload_n hx hb d_Mac_doRow_7 rfl (lv_at hl 1 rfl) ?_
    refine va_get (D := Dg) (ci := 1) (v := .int (Mi 4 4)) (C := R_Mac) (T := F_Mac) (N := 10) hx hb hT in_Mac hown hK hP 0 rfl rfl 8 (by decide) (hT _ tw1_79) (fun _ h9 => h9) rfl d_Mac_doRow_8 ?_
    refine lv_if_ne (tgt := 78) hx hb d_Mac_doRow_11 (by decide) (fun h11 => ?_) (fun h11 => ?_)
    · refine km_v F hlocks hret hP hD hS d_Mac_doRow_78 ?_
      rw [← hsr5]
      cases f with
      | zero => rfl
      | succ g => exact congrArg (fun z => wM a k z ++ wP b k G) (show Mi = (if Mi 4 4 = 0 then sRow G g (sStep G Mi) else Mi) by rw [if_neg h11])
    · have hf : i < j := by rcases Nat.lt_or_ge i j with z | z; exact z; exact absurd (nI_le z (by omega)) h4
      obtain ⟨f, rfl⟩ : ∃ g, f = g + 1 := ⟨f - 1, by omega⟩
      obtain ⟨hpl, hlt, hnm, hmo, hro5⟩ := hro5 h11
      have hsr5 : sRow G f (sStep G Mi) = sRow G j M := by rw [← hsr5]; show _ = (if Mi 4 4 = 0 then sRow G f (sStep G Mi) else Mi); rw [if_pos h11]
      refine lv_aload_n hx hb d_Mac_doRow_14 rfl (lv_at hl 2 rfl) ?_
      refine va_get (D := Dg) (ci := 2) (v := .ref (b 1)) (C := R_Prg) (T := F_Prg) (N := 7) hx hb hT in_Prg hown hK hP 5 rfl rfl 0 (by decide) (hT _ tw1_33) (fun _ h9 => h9) rfl d_Mac_doRow_15 ?_
      refine lv_aload_n hx hb d_Mac_doRow_18 rfl (lv_at hl 1 rfl) ?_
      refine va_get (D := Dg) (ci := 1) (v := .int (Mi 4 3)) (C := R_Mac) (T := F_Mac) (N := 10) hx hb hT in_Mac hown hK hP 0 rfl rfl 7 (by decide) (hT _ tw1_78) (fun _ h9 => h9) rfl d_Mac_doRow_19 ?_
      refine va_iald (f := (G 0)) hx hb hK hP 6 0 rfl rfl hpl d_Mac_doRow_22 ?_
      refine lv_istore hx hb d_Mac_doRow_23 hl (by decide) rfl (fun ls hl => ?_)
      have hl : lv_has ls 6 [(4, .int ((G 0) (Mi 4 3).toNatClampNeg)), (3, .int (nI i)), (0, .ref (a 0)), (1, .ref (b 0)), (2, .int (nI j))] := hl
      refine lv_aload_n hx hb d_Mac_doRow_25 rfl (lv_at hl 2 rfl) ?_
      refine lv_iload hx hb d_Mac_doRow_26 (lv_at hl 0 rfl) ?_
      refine kp_V F (c_Mac_trapOf l Dg a k Mi ((G 0) (Mi 4 3).toNatClampNeg) _ (hP.sub (ws' := (wM a k Mi)) [0, 1, 2, 3, 4] rfl) hlt hmo) kx_K hK kw_Mac_71 tw2_157 ts_8 (va_recv (ci := 1) (q0 := 0) hK hP rfl rfl) hS d_Mac_doRow_28 ⟨⟨by decide, by decide⟩, Nat.le_refl _, Nat.le_refl _⟩ rfl hl.1 rfl (Nat.le_of_ble_eq_true rfl) (fun locs hS => ?_)
      refine lv_istore hx hb d_Mac_doRow_31 hl (by decide) rfl (fun ls hl => ?_)
      have hl : lv_has ls 6 [(5, .int (sTrap Mi ((G 0) (Mi 4 3).toNatClampNeg))), (4, .int ((G 0) (Mi 4 3).toNatClampNeg)), (3, .int (nI i)), (0, .ref (a 0)), (1, .ref (b 0)), (2, .int (nI j))] := hl
      refine lv_iload hx hb d_Mac_doRow_33 (lv_at hl 0 rfl) ?_
      refine lv_if_ne (tgt := 66) hx hb d_Mac_doRow_35 (by decide) (fun h35 => ?_) (fun h35 => ?_)
      · refine lv_aload_n hx hb d_Mac_doRow_66 rfl (lv_at hl 3 rfl) ?_
        refine lv_iload hx hb d_Mac_doRow_67 (lv_at hl 0 rfl) ?_
        refine va_put (D := Dg) (ci := 1) (v := .int (sTrap Mi ((G 0) (Mi 4 3).toNatClampNeg))) (ty := .int) (C := R_Mac) (T := F_Mac) (N := 10) hx hb hT in_Mac t_Mac t_Mac_ok n_Mac hown hK hP hD hS 0 rfl rfl 8 (by decide) (hT _ tw1_79) (fun _ h9 => h9) rfl (by decide +kernel) rfl rfl (Nat.le_of_ble_eq_true rfl) d_Mac_doRow_69 (fun H locs hP hD hS => ?_)
        have hP : va_P Dg classes ((wM a k (u2 Mi 4 4 (sTrap Mi ((G 0) (Mi 4 3).toNatClampNeg)))) ++ (wP b k G)) H := hP
        have hD : va_D (va_A ((wM a k M) ++ (wP b k G)) s.heap.size) ((wM a k (u2 Mi 4 4 (sTrap Mi ((G 0) (Mi 4 3).toNatClampNeg)))) ++ (wP b k G)) := hD
        obtain ⟨Ms1, hMs1⟩ : ∃ z, z = (u2 Mi 4 4 (sTrap Mi ((G 0) (Mi 4 3).toNatClampNeg))) := ⟨_, rfl⟩
        rw [← hMs1] at hP hD
        refine lv_iinc (k := 2) (v := (nI (i + 1))) hx hb d_Mac_doRow_72 hl rfl (nI_succ _).symm (by decide) rfl (fun ls hl => ?_)
        have hl : lv_has ls 6 [(3, .int (nI (i + 1))), (5, .int (sTrap Mi ((G 0) (Mi 4 3).toNatClampNeg))), (4, .int ((G 0) (Mi 4 3).toNatClampNeg)), (0, .ref (a 0)), (1, .ref (b 0)), (2, .int (nI j))] := hl
        refine lv_goto (tgt := 2) hx hb d_Mac_doRow_75 (by decide) ?_
        exact ih f (i + 1, Ms1) H locs ls (by omega) ⟨by show i + 1 + f = j; omega, by show rowOk G f Ms1; rw [show Ms1 = sStep G Mi from (by rw [hMs1]; unfold sStep; rw [if_neg h35])]; exact hro5, by show sRow G f Ms1 = _; rw [show Ms1 = sStep G Mi from (by rw [hMs1]; unfold sStep; rw [if_neg h35])]; exact hsr5, (lv_sub hl [0, 3, 4, 5] rfl), hP.sub (ws' := (wM a k Ms1 ++ wP b k G)) [0, 1, 2, 3, 4, 5, 6, 7, 8, 9, 10] rfl, hD.sub (ws' := (wM a k Ms1 ++ wP b k G)) [0, 1, 2, 3, 4, 5, 6, 7, 8, 9, 10] (by decide) rfl, hS⟩
      · refine lv_aload_n hx hb d_Mac_doRow_38 rfl (lv_at hl 3 rfl) ?_
        refine lv_dup hx hb d_Mac_doRow_39 rfl ?_
        refine va_get (D := Dg) (ci := 1) (v := .int (Mi 4 5)) (C := R_Mac) (T := F_Mac) (N := 10) hx hb hT in_Mac hown hK hP 0 rfl rfl 9 (by decide) (hT _ tw1_80) (fun _ h9 => h9) rfl d_Mac_doRow_40 ?_
        refine lv_iconst (v := 1) hx hb d_Mac_doRow_43 (by decide) ?_
        refine lv_iadd hx hb d_Mac_doRow_44 ?_
        refine va_put (D := Dg) (ci := 1) (v := .int ((Mi 4 5) + 1)) (ty := .int) (C := R_Mac) (T := F_Mac) (N := 10) hx hb hT in_Mac t_Mac t_Mac_ok n_Mac hown hK hP hD hS 0 rfl rfl 9 (by decide) (hT _ tw1_80) (fun _ h9 => h9) rfl (by decide +kernel) rfl rfl (Nat.le_of_ble_eq_true rfl) d_Mac_doRow_45 (fun H locs hP hD hS => ?_)
        have hP : va_P Dg classes ((wM a k (u2 Mi 4 5 ((Mi 4 5) + 1))) ++ (wP b k G)) H := hP
        have hD : va_D (va_A ((wM a k M) ++ (wP b k G)) s.heap.size) ((wM a k (u2 Mi 4 5 ((Mi 4 5) + 1))) ++ (wP b k G)) := hD
        obtain ⟨Ms2, hMs2⟩ : ∃ z, z = (u2 Mi 4 5 ((Mi 4 5) + 1)) := ⟨_, rfl⟩
        rw [← hMs2] at hP hD
        refine lv_aload_n hx hb d_Mac_doRow_48 rfl (lv_at hl 3 rfl) ?_
        refine lv_iload hx hb d_Mac_doRow_49 (lv_at hl 1 rfl) ?_
        refine lv_aload_n hx hb d_Mac_doRow_51 rfl (lv_at hl 4 rfl) ?_
        refine va_get (D := Dg) (ci := 2) (v := .ref (b 2)) (C := R_Prg) (T := F_Prg) (N := 7) hx hb hT in_Prg hown hK hP 5 rfl rfl 1 (by decide) (hT _ tw1_35) (fun _ h9 => h9) rfl d_Mac_doRow_52 ?_
        refine lv_aload_n hx hb d_Mac_doRow_55 rfl (lv_at hl 3 rfl) ?_
        refine va_get (D := Dg) (ci := 1) (v := .int (Mi 4 3)) (C := R_Mac) (T := F_Mac) (N := 10) hx hb hT in_Mac hown hK hP 0 rfl rfl 7 (by decide) (hT _ tw1_78) (fun _ h9 => h9) (by rw [hMs2]; rfl) d_Mac_doRow_56 ?_
        refine va_iald (f := (G 1)) hx hb hK hP 7 0 rfl rfl hpl d_Mac_doRow_59 ?_
        refine km_Vv (wr := (wP b k G)) F (c_Mac_act l Dg a k Ms2 ((G 0) (Mi 4 3).toNatClampNeg) ((G 1) (Mi 4 3).toNatClampNeg) _ (hP.sub (ws' := (wM a k Ms2)) [0, 1, 2, 3, 4] rfl) ((hD.sub (ws' := (wM a k Ms2)) [0, 1, 2, 3, 4] (by decide) rfl).weaken (fun _ _ _ _ => trivial)) hlt (by rw [hMs2]; exact mOk_done hmo _) (by rw [hMs2]; exact sTrap_done _ h35) hnm) kx_K hK kw_Mac_78 tw2_167 ts_9 (va_recv (ci := 1) (q0 := 0) hK hP rfl rfl) hP hD hS hA [0, 1, 2, 3, 4] [5, 6, 7, 8, 9, 10] rfl rfl (by decide) (by decide) d_Mac_doRow_60 ⟨⟨by decide, by decide⟩, Nat.le_refl _, Nat.le_refl _⟩ rfl hl.1 rfl (Nat.le_of_ble_eq_true rfl) (fun H locs hP hD hS => ?_)
        have hP : va_P Dg classes ((wP b k G) ++ (wM a k (sAct Ms2 ((G 0) (Mi 4 3).toNatClampNeg) ((G 1) (Mi 4 3).toNatClampNeg)))) H := hP
        have hD : va_D (va_A ((wM a k M) ++ (wP b k G)) s.heap.size) ((wP b k G) ++ (wM a k (sAct Ms2 ((G 0) (Mi 4 3).toNatClampNeg) ((G 1) (Mi 4 3).toNatClampNeg)))) := hD
        obtain ⟨Ms3, hMs3⟩ : ∃ z, z = (sAct Ms2 ((G 0) (Mi 4 3).toNatClampNeg) ((G 1) (Mi 4 3).toNatClampNeg)) := ⟨_, rfl⟩
        rw [← hMs3] at hP hD
        refine lv_goto (tgt := 72) hx hb d_Mac_doRow_63 (by decide) ?_
        refine lv_iinc (k := 2) (v := (nI (i + 1))) hx hb d_Mac_doRow_72 hl rfl (nI_succ _).symm (by decide) rfl (fun ls hl => ?_)
        have hl : lv_has ls 6 [(3, .int (nI (i + 1))), (5, .int (sTrap Mi ((G 0) (Mi 4 3).toNatClampNeg))), (4, .int ((G 0) (Mi 4 3).toNatClampNeg)), (0, .ref (a 0)), (1, .ref (b 0)), (2, .int (nI j))] := hl
        refine lv_goto (tgt := 2) hx hb d_Mac_doRow_75 (by decide) ?_
        exact ih f (i + 1, Ms3) H locs ls (by omega) ⟨by show i + 1 + f = j; omega, by show rowOk G f Ms3; rw [show Ms3 = sStep G Mi from (by rw [hMs3, hMs2]; unfold sStep; rw [if_pos h35])]; exact hro5, by show sRow G f Ms3 = _; rw [show Ms3 = sStep G Mi from (by rw [hMs3, hMs2]; unfold sStep; rw [if_pos h35])]; exact hsr5, (lv_sub hl [0, 3, 4, 5] rfl), hP.sub (ws' := (wM a k Ms3 ++ wP b k G)) [6, 7, 8, 9, 10, 0, 1, 2, 3, 4, 5] rfl, hD.sub (ws' := (wM a k Ms3 ++ wP b k G)) [6, 7, 8, 9, 10, 0, 1, 2, 3, 4, 5] (by decide) rfl, hS⟩

set_option maxRecDepth 100000 in
set_option maxHeartbeats 4000000 in
theorem c_Mac_goOn (l : Launch) (Dg : va_G) (a b : Nat → Nat) (k : Nat → ClassId) (M G : vSt) (z n : Int32) (H : Heap) (hP : va_P Dg classes ((wM a k M) ++ (wP b k G)) H) (hD : va_D (fun _ => True) ((wM a k M) ++ (wP b k G))) (hro : runOk G z (sMost n) M) : kMi l y_Mac_goOn b_Mac_goOn 6 (some FieldType.int) 4 93 [.ref (a 0), .ref (b 0), .int z, .int n] H (va_K Dg classes (kTy k)) Dg ((wM a k M) ++ (wP b k G)) (wM a k (sRunM G M z n) ++ wP b k G) (sRunR G M z n) := by
  refine k_of (by decide) (Nat.le_of_ble_eq_true rfl) ?_
  intro p e s m below meth cd ls F hlocks hret hname hh hX hl
  subst hh
  obtain ⟨hx, hb, hml, hown, hT⟩ := id F
  have hK : va_K Dg classes (kTy k) s := hX
  have hA : ∀ q : Nat, s.heap.size ≤ q → va_A ((wM a k M) ++ (wP b k G)) s.heap.size q := fun q h => Or.inr h
  have hD := hD.self (sz := s.heap.size)
  have hS : va_S (va_A ((wM a k M) ++ (wP b k G)) s.heap.size) s.heap s.heap [] := va_S.rf
  have hl : lv_has ls 6 [(0, .ref (a 0)), (1, .ref (b 0)), (2, .int z), (3, .int n)] := hl
  have h3000 := sMost_le n
  refine lv_iload_n hx hb d_Mac_goOn_0 rfl (lv_at hl 3 rfl) ?_
  refine lv_sipush (v := 3000) hx hb d_Mac_goOn_1 (by decide) ?_
  refine va_mmin hx hb (hml.trans hl.1.symm) hown (hT _ tw2_147) (hT _ tw2_148) (hT _ tw1_17) (hT _ tw2_149) (Nat.le_of_ble_eq_true rfl) (Nat.le_of_ble_eq_true rfl) (Nat.le_refl _) (Nat.le_refl _) d_Mac_goOn_4 ?_
  change W _ _ _ _ _ _ _ _ _ _ _ _ _ _ _ (F0 m 7 ls (.int (sMin n 3000) :: []))
  refine lv_istore hx hb d_Mac_goOn_7 hl (by decide) rfl (fun ls hl => ?_)
  have hl : lv_has ls 6 [(4, .int (sMin n 3000)), (0, .ref (a 0)), (1, .ref (b 0)), (2, .int z), (3, .int n)] := hl
  refine lv_iconst (v := 0) hx hb d_Mac_goOn_9 (by decide) ?_
  refine lv_istore hx hb d_Mac_goOn_10 hl (by decide) rfl (fun ls hl => ?_)
  have hl : lv_has ls 6 [(5, .int 0), (4, .int (sMin n 3000)), (0, .ref (a 0)), (1, .ref (b 0)), (2, .int z), (3, .int n)] := hl
  refine k_while (σ := Nat × vSt) (fun f x H locs ls => x.1 + f = sMost n ∧ runOk G z f x.2 ∧ sGoL G z (sMost n) M = ((sGoL G z f x.2).1, (sGoL G z f x.2).2 + x.1) ∧ lv_has ls 6 [(5, .int (nI x.1)), (4, .int (sMin n 3000)), (0, .ref (a 0)), (1, .ref (b 0)), (2, .int z), (3, .int n)] ∧ va_P Dg classes (wM a k x.2 ++ wP b k G) H ∧ va_D (va_A (wM a k M ++ wP b k G) s.heap.size) (wM a k x.2 ++ wP b k G) ∧ va_S (va_A (wM a k M ++ wP b k G) s.heap.size) s.heap H locs) ?_ (sMost n) (0, M) ⟨by show 0 + sMost n = sMost n; omega, hro, rfl, (lv_sub hl [0, 1, 2, 3, 4, 5] rfl), hP, hD, hS⟩
  rintro f ⟨i, Mi⟩ H locs ls ⟨hif, hro5, hsr5, hl, hP, hD, hS⟩ ih
  have hl : lv_has ls 6 [(5, .int (nI i)), (4, .int (sMin n 3000)), (0, .ref (a 0)), (1, .ref (b 0)), (2, .int z), (3, .int n)] := hl
  have hP : va_P Dg classes ((wM a k Mi) ++ (wP b k G)) H := hP
  have hD : va_D (va_A ((wM a k M) ++ (wP b k G)) s.heap.size) ((wM a k Mi) ++ (wP b k G)) := hD
  have hif : i + f = sMost n := hif
  have hro5 : runOk G z f Mi := hro5
  have hsr5 : sGoL G z (sMost n) M = ((sGoL G z f Mi).1, (sGoL G z f Mi).2 + i) := hsr5
  refine lv_iload hx hb d_Mac_goOn_12 (lv_at hl 0 rfl) ?_
  refine lv_iload hx hb d_Mac_goOn_14 (lv_at hl 1 rfl) ?_
  refine lv_icmp_ge (tgt := 65) hx hb d_Mac_goOn_16 (by decide) (fun h16 => ?_) (fun h16 => ?_)
  · obtain rfl : f = 0 := by have := (sMost_iff n (by omega)).mp h16; omega
    have hg : sGoL G z (sMost n) M = (Mi, i) := by rw [hsr5]; show (Mi, 0 + i) = (Mi, i); rw [Nat.zero_add]
    refine lv_iload hx hb d_Mac_goOn_65 (lv_at hl 0 rfl) ?_
    refine lv_iload hx hb d_Mac_goOn_67 (lv_at hl 1 rfl) ?_
    refine lv_icmp_ge (tgt := 84) hx hb d_Mac_goOn_69 (by decide) (fun h69 => ?_) (fun h69 => ?_)
    · refine lv_iload hx hb d_Mac_goOn_84 (lv_at hl 0 rfl) ?_
      exact km_i F hlocks hret hP hD hS d_Mac_goOn_86 (by unfold sRunR; rw [hg]) (by unfold sRunM; rw [hg]; show _ = wM a k (if sMin n 3000 ≤ nI i then Mi else if Mi 4 4 = 0 then u2 Mi 4 4 4 else Mi) ++ wP b k G; rw [if_pos h69])
    · refine lv_aload_n hx hb d_Mac_goOn_72 rfl (lv_at hl 2 rfl) ?_
      refine va_get (D := Dg) (ci := 1) (v := .int (Mi 4 4)) (C := R_Mac) (T := F_Mac) (N := 10) hx hb hT in_Mac hown hK hP 0 rfl rfl 8 (by decide) (hT _ tw1_79) (fun _ h9 => h9) rfl d_Mac_goOn_73 ?_
      refine lv_if_ne (tgt := 84) hx hb d_Mac_goOn_76 (by decide) (fun h76 => ?_) (fun h76 => ?_)
      · refine lv_iload hx hb d_Mac_goOn_84 (lv_at hl 0 rfl) ?_
        exact km_i F hlocks hret hP hD hS d_Mac_goOn_86 (by unfold sRunR; rw [hg]) (by unfold sRunM; rw [hg]; show _ = wM a k (if sMin n 3000 ≤ nI i then Mi else if Mi 4 4 = 0 then u2 Mi 4 4 4 else Mi) ++ wP b k G; rw [if_neg h69, if_neg h76])
      · refine lv_aload_n hx hb d_Mac_goOn_79 rfl (lv_at hl 2 rfl) ?_
        refine lv_iconst (v := 4) hx hb d_Mac_goOn_80 (by decide) ?_
        refine va_put (D := Dg) (ci := 1) (v := .int 4) (ty := .int) (C := R_Mac) (T := F_Mac) (N := 10) hx hb hT in_Mac t_Mac t_Mac_ok n_Mac hown hK hP hD hS 0 rfl rfl 8 (by decide) (hT _ tw1_79) (fun _ h9 => h9) rfl (by decide +kernel) rfl rfl (Nat.le_of_ble_eq_true rfl) d_Mac_goOn_81 (fun H locs hP hD hS => ?_)
        have hP : va_P Dg classes ((wM a k (u2 Mi 4 4 4)) ++ (wP b k G)) H := hP
        have hD : va_D (va_A ((wM a k M) ++ (wP b k G)) s.heap.size) ((wM a k (u2 Mi 4 4 4)) ++ (wP b k G)) := hD
        obtain ⟨Ms1, hMs1⟩ : ∃ z, z = (u2 Mi 4 4 4) := ⟨_, rfl⟩
        rw [← hMs1] at hP hD
        refine lv_iload hx hb d_Mac_goOn_84 (lv_at hl 0 rfl) ?_
        exact km_i F hlocks hret hP hD hS d_Mac_goOn_86 (by unfold sRunR; rw [hg]) (by unfold sRunM; rw [hg]; show _ = wM a k (if sMin n 3000 ≤ nI i then Mi else if Mi 4 4 = 0 then u2 Mi 4 4 4 else Mi) ++ wP b k G; rw [if_neg h69, if_pos h76, hMs1])
  · refine lv_aload_n hx hb d_Mac_goOn_19 rfl (lv_at hl 2 rfl) ?_
    refine va_get (D := Dg) (ci := 1) (v := .int (Mi 4 4)) (C := R_Mac) (T := F_Mac) (N := 10) hx hb hT in_Mac hown hK hP 0 rfl rfl 8 (by decide) (hT _ tw1_79) (fun _ h9 => h9) rfl d_Mac_goOn_20 ?_
    refine lv_if_ne (tgt := 65) hx hb d_Mac_goOn_23 (by decide) (fun h23 => ?_) (fun h23 => ?_)
    · have hg : sGoL G z (sMost n) M = (Mi, i) := by
        rw [hsr5]
        cases f with
        | zero => show (Mi, 0 + i) = (Mi, i); rw [Nat.zero_add]
        | succ g =>
          have e9 : sGoL G z (g + 1) Mi = (if Mi 4 4 = 0 then (if sHas G (Mi 4 3) = 0 then (Mi, 0) else ((sGoL G z g (sRow G (sLen G z (Mi 4 3)) Mi)).1, (sGoL G z g (sRow G (sLen G z (Mi 4 3)) Mi)).2 + 1)) else (Mi, 0)) := rfl
          rw [e9, if_neg h23]; show (Mi, 0 + i) = (Mi, i); rw [Nat.zero_add]
      refine lv_iload hx hb d_Mac_goOn_65 (lv_at hl 0 rfl) ?_
      refine lv_iload hx hb d_Mac_goOn_67 (lv_at hl 1 rfl) ?_
      refine lv_icmp_ge (tgt := 84) hx hb d_Mac_goOn_69 (by decide) (fun h69 => ?_) (fun h69 => ?_)
      · refine lv_iload hx hb d_Mac_goOn_84 (lv_at hl 0 rfl) ?_
        exact km_i F hlocks hret hP hD hS d_Mac_goOn_86 (by unfold sRunR; rw [hg]) (by unfold sRunM; rw [hg]; show _ = wM a k (if sMin n 3000 ≤ nI i then Mi else if Mi 4 4 = 0 then u2 Mi 4 4 4 else Mi) ++ wP b k G; rw [if_pos h69])
      · refine lv_aload_n hx hb d_Mac_goOn_72 rfl (lv_at hl 2 rfl) ?_
        refine va_get (D := Dg) (ci := 1) (v := .int (Mi 4 4)) (C := R_Mac) (T := F_Mac) (N := 10) hx hb hT in_Mac hown hK hP 0 rfl rfl 8 (by decide) (hT _ tw1_79) (fun _ h9 => h9) rfl d_Mac_goOn_73 ?_
        refine lv_if_ne (tgt := 84) hx hb d_Mac_goOn_76 (by decide) (fun h76 => ?_) (fun h76 => ?_)
        · refine lv_iload hx hb d_Mac_goOn_84 (lv_at hl 0 rfl) ?_
          exact km_i F hlocks hret hP hD hS d_Mac_goOn_86 (by unfold sRunR; rw [hg]) (by unfold sRunM; rw [hg]; show _ = wM a k (if sMin n 3000 ≤ nI i then Mi else if Mi 4 4 = 0 then u2 Mi 4 4 4 else Mi) ++ wP b k G; rw [if_neg h69, if_neg h76])
        · refine lv_aload_n hx hb d_Mac_goOn_79 rfl (lv_at hl 2 rfl) ?_
          refine lv_iconst (v := 4) hx hb d_Mac_goOn_80 (by decide) ?_
          refine va_put (D := Dg) (ci := 1) (v := .int 4) (ty := .int) (C := R_Mac) (T := F_Mac) (N := 10) hx hb hT in_Mac t_Mac t_Mac_ok n_Mac hown hK hP hD hS 0 rfl rfl 8 (by decide) (hT _ tw1_79) (fun _ h9 => h9) rfl (by decide +kernel) rfl rfl (Nat.le_of_ble_eq_true rfl) d_Mac_goOn_81 (fun H locs hP hD hS => ?_)
          have hP : va_P Dg classes ((wM a k (u2 Mi 4 4 4)) ++ (wP b k G)) H := hP
          have hD : va_D (va_A ((wM a k M) ++ (wP b k G)) s.heap.size) ((wM a k (u2 Mi 4 4 4)) ++ (wP b k G)) := hD
          obtain ⟨Ms2, hMs2⟩ : ∃ z, z = (u2 Mi 4 4 4) := ⟨_, rfl⟩
          rw [← hMs2] at hP hD
          refine lv_iload hx hb d_Mac_goOn_84 (lv_at hl 0 rfl) ?_
          exact km_i F hlocks hret hP hD hS d_Mac_goOn_86 (by unfold sRunR; rw [hg]) (by unfold sRunM; rw [hg]; show _ = wM a k (if sMin n 3000 ≤ nI i then Mi else if Mi 4 4 = 0 then u2 Mi 4 4 4 else Mi) ++ wP b k G; rw [if_neg h69, if_pos h76, hMs2])
    · refine lv_aload_n hx hb d_Mac_goOn_26 rfl (lv_at hl 3 rfl) ?_
      refine lv_aload_n hx hb d_Mac_goOn_27 rfl (lv_at hl 2 rfl) ?_
      refine va_get (D := Dg) (ci := 1) (v := .int (Mi 4 3)) (C := R_Mac) (T := F_Mac) (N := 10) hx hb hT in_Mac hown hK hP 0 rfl rfl 7 (by decide) (hT _ tw1_78) (fun _ h9 => h9) rfl d_Mac_goOn_28 ?_
      refine kp_V F (c_Prg_has l Dg b k G (Mi 4 3) _ (hP.sub (ws' := (wP b k G)) [5, 6, 7, 8, 9, 10] rfl) ) kx_K hK kw_Mac_55 tw2_94 tw2_95 (va_recv (ci := 2) (q0 := 5) hK hP rfl rfl) hS d_Mac_goOn_31 ⟨⟨by decide, by decide⟩, Nat.le_refl _, Nat.le_refl _⟩ rfl hl.1 rfl (Nat.le_of_ble_eq_true rfl) (fun locs hS => ?_)
      refine lv_if_eq (tgt := 65) hx hb d_Mac_goOn_34 (by decide) (fun h34 => ?_) (fun h34 => ?_)
      · have hg : sGoL G z (sMost n) M = (Mi, i) := by
          rw [hsr5]
          cases f with
          | zero => show (Mi, 0 + i) = (Mi, i); rw [Nat.zero_add]
          | succ g =>
            have e9 : sGoL G z (g + 1) Mi = (if Mi 4 4 = 0 then (if sHas G (Mi 4 3) = 0 then (Mi, 0) else ((sGoL G z g (sRow G (sLen G z (Mi 4 3)) Mi)).1, (sGoL G z g (sRow G (sLen G z (Mi 4 3)) Mi)).2 + 1)) else (Mi, 0)) := rfl
            rw [e9, if_pos h23, if_pos h34]; show (Mi, 0 + i) = (Mi, i); rw [Nat.zero_add]
        refine lv_iload hx hb d_Mac_goOn_65 (lv_at hl 0 rfl) ?_
        refine lv_iload hx hb d_Mac_goOn_67 (lv_at hl 1 rfl) ?_
        refine lv_icmp_ge (tgt := 84) hx hb d_Mac_goOn_69 (by decide) (fun h69 => ?_) (fun h69 => ?_)
        · refine lv_iload hx hb d_Mac_goOn_84 (lv_at hl 0 rfl) ?_
          exact km_i F hlocks hret hP hD hS d_Mac_goOn_86 (by unfold sRunR; rw [hg]) (by unfold sRunM; rw [hg]; show _ = wM a k (if sMin n 3000 ≤ nI i then Mi else if Mi 4 4 = 0 then u2 Mi 4 4 4 else Mi) ++ wP b k G; rw [if_pos h69])
        · refine lv_aload_n hx hb d_Mac_goOn_72 rfl (lv_at hl 2 rfl) ?_
          refine va_get (D := Dg) (ci := 1) (v := .int (Mi 4 4)) (C := R_Mac) (T := F_Mac) (N := 10) hx hb hT in_Mac hown hK hP 0 rfl rfl 8 (by decide) (hT _ tw1_79) (fun _ h9 => h9) rfl d_Mac_goOn_73 ?_
          refine lv_if_ne (tgt := 84) hx hb d_Mac_goOn_76 (by decide) (fun h76 => ?_) (fun h76 => ?_)
          · refine lv_iload hx hb d_Mac_goOn_84 (lv_at hl 0 rfl) ?_
            exact km_i F hlocks hret hP hD hS d_Mac_goOn_86 (by unfold sRunR; rw [hg]) (by unfold sRunM; rw [hg]; show _ = wM a k (if sMin n 3000 ≤ nI i then Mi else if Mi 4 4 = 0 then u2 Mi 4 4 4 else Mi) ++ wP b k G; rw [if_neg h69, if_neg h76])
          · refine lv_aload_n hx hb d_Mac_goOn_79 rfl (lv_at hl 2 rfl) ?_
            refine lv_iconst (v := 4) hx hb d_Mac_goOn_80 (by decide) ?_
            refine va_put (D := Dg) (ci := 1) (v := .int 4) (ty := .int) (C := R_Mac) (T := F_Mac) (N := 10) hx hb hT in_Mac t_Mac t_Mac_ok n_Mac hown hK hP hD hS 0 rfl rfl 8 (by decide) (hT _ tw1_79) (fun _ h9 => h9) rfl (by decide +kernel) rfl rfl (Nat.le_of_ble_eq_true rfl) d_Mac_goOn_81 (fun H locs hP hD hS => ?_)
            have hP : va_P Dg classes ((wM a k (u2 Mi 4 4 4)) ++ (wP b k G)) H := hP
            have hD : va_D (va_A ((wM a k M) ++ (wP b k G)) s.heap.size) ((wM a k (u2 Mi 4 4 4)) ++ (wP b k G)) := hD
            obtain ⟨Ms3, hMs3⟩ : ∃ z, z = (u2 Mi 4 4 4) := ⟨_, rfl⟩
            rw [← hMs3] at hP hD
            refine lv_iload hx hb d_Mac_goOn_84 (lv_at hl 0 rfl) ?_
            exact km_i F hlocks hret hP hD hS d_Mac_goOn_86 (by unfold sRunR; rw [hg]) (by unfold sRunM; rw [hg]; show _ = wM a k (if sMin n 3000 ≤ nI i then Mi else if Mi 4 4 = 0 then u2 Mi 4 4 4 else Mi) ++ wP b k G; rw [if_neg h69, if_pos h76, hMs3])
      · have hf : i < sMost n := by rcases Nat.lt_or_ge i (sMost n) with y | y; exact y; exact absurd ((sMost_iff n (by omega)).mpr y) h16
        obtain ⟨f, rfl⟩ : ∃ g, f = g + 1 := ⟨f - 1, by omega⟩
        obtain ⟨hpl, hjj, hrow, hro7⟩ := hro5 h23 h34
        have hsr7 : sGoL G z (sMost n) M = ((sGoL G z f (sRow G (sLen G z (Mi 4 3)) Mi)).1, (sGoL G z f (sRow G (sLen G z (Mi 4 3)) Mi)).2 + (i + 1)) := by
          rw [hsr5]
          have e9 : sGoL G z (f + 1) Mi = (if Mi 4 4 = 0 then (if sHas G (Mi 4 3) = 0 then (Mi, 0) else ((sGoL G z f (sRow G (sLen G z (Mi 4 3)) Mi)).1, (sGoL G z f (sRow G (sLen G z (Mi 4 3)) Mi)).2 + 1)) else (Mi, 0)) := rfl
          rw [e9, if_pos h23, if_neg h34]
          show (_, _ + 1 + i) = (_, _ + (i + 1))
          rw [Nat.add_assoc, Nat.add_comm 1 i]
        refine lv_aload_n hx hb d_Mac_goOn_37 rfl (lv_at hl 2 rfl) ?_
        refine lv_aload_n hx hb d_Mac_goOn_38 rfl (lv_at hl 3 rfl) ?_
        refine lv_iload_n hx hb d_Mac_goOn_39 rfl (lv_at hl 4 rfl) ?_
        refine lv_if_eq (tgt := 55) hx hb d_Mac_goOn_40 (by decide) (fun h40 => ?_) (fun h40 => ?_)
        · refine lv_iconst (v := 1) hx hb d_Mac_goOn_55 (by decide) ?_
          have ej : sLen G z (Mi 4 3) = 1 := by unfold sLen; rw [if_pos h40]
          rw [ej] at hrow hro7 hsr7
          have hj4 : 1 ≤ 4 := by decide
          change W _ _ _ _ _ _ _ _ _ _ _ _ _ _ _ (F0 m 56 ls [.int (nI 1), .ref (b 0), .ref (a 0)])
          refine km_Vv (wr := []) F (c_Mac_doRow l Dg a b k Mi G 1 _ hP (hD.weaken (fun _ _ _ _ => trivial)) hj4 hrow) kx_K hK kw_Mac_64 tw2_153 ts_7 (va_recv (ci := 1) (q0 := 0) hK hP rfl rfl) hP hD hS hA [0, 1, 2, 3, 4, 5, 6, 7, 8, 9, 10] [] rfl rfl (by decide) (by decide) d_Mac_goOn_56 ⟨⟨by decide, by decide⟩, Nat.le_refl _, Nat.le_refl _⟩ rfl hl.1 rfl (Nat.le_of_ble_eq_true rfl) (fun H locs hP hD hS => ?_)
          have hP : va_P Dg classes ((wM a k (sRow G 1 Mi)) ++ (wP b k G)) H := hP
          have hD : va_D (va_A ((wM a k M) ++ (wP b k G)) s.heap.size) ((wM a k (sRow G 1 Mi)) ++ (wP b k G)) := hD
          obtain ⟨Ms4, hMs4⟩ : ∃ z, z = (sRow G 1 Mi) := ⟨_, rfl⟩
          rw [← hMs4] at hP hD
          refine lv_iinc (k := 0) (v := (nI (i + 1))) hx hb d_Mac_goOn_59 hl rfl (nI_succ _).symm (by decide) rfl (fun ls hl => ?_)
          have hl : lv_has ls 6 [(5, .int (nI (i + 1))), (4, .int (sMin n 3000)), (0, .ref (a 0)), (1, .ref (b 0)), (2, .int z), (3, .int n)] := hl
          refine lv_goto (tgt := 12) hx hb d_Mac_goOn_62 (by decide) ?_
          exact ih f (i + 1, Ms4) H locs ls (by omega) ⟨by show i + 1 + f = sMost n; omega, by show runOk G z f Ms4; rw [hMs4]; exact hro7, by show _ = ((sGoL G z f Ms4).1, (sGoL G z f Ms4).2 + (i + 1)); rw [hMs4]; exact hsr7, (lv_sub hl [0, 1, 2, 3, 4, 5] rfl), hP.sub (ws' := (wM a k Ms4 ++ wP b k G)) [0, 1, 2, 3, 4, 5, 6, 7, 8, 9, 10] rfl, hD.sub (ws' := (wM a k Ms4 ++ wP b k G)) [0, 1, 2, 3, 4, 5, 6, 7, 8, 9, 10] (by decide) rfl, hS⟩
        · refine lv_aload_n hx hb d_Mac_goOn_43 rfl (lv_at hl 3 rfl) ?_
          refine va_get (D := Dg) (ci := 2) (v := .ref (b 5)) (C := R_Prg) (T := F_Prg) (N := 7) hx hb hT in_Prg hown hK hP 5 rfl rfl 4 (by decide) (hT _ tw1_39) (fun _ h9 => h9) rfl d_Mac_goOn_44 ?_
          refine lv_aload_n hx hb d_Mac_goOn_47 rfl (lv_at hl 2 rfl) ?_
          refine va_get (D := Dg) (ci := 1) (v := .int (Mi 4 3)) (C := R_Mac) (T := F_Mac) (N := 10) hx hb hT in_Mac hown hK hP 0 rfl rfl 7 (by decide) (hT _ tw1_78) (fun _ h9 => h9) rfl d_Mac_goOn_48 ?_
          refine va_iald (f := (G 4)) hx hb hK hP 10 0 rfl rfl hpl d_Mac_goOn_51 ?_
          refine lv_goto (tgt := 56) hx hb d_Mac_goOn_52 (by decide) ?_
          obtain ⟨j, hj4, ejj⟩ := hjj h40
          have ej : sLen G z (Mi 4 3) = j := by unfold sLen; rw [if_neg h40, ejj, nI_clamp (by omega)]
          rw [ej] at hrow hro7 hsr7
          rw [ejj]
          refine km_Vv (wr := []) F (c_Mac_doRow l Dg a b k Mi G j _ hP (hD.weaken (fun _ _ _ _ => trivial)) hj4 hrow) kx_K hK kw_Mac_64 tw2_153 ts_7 (va_recv (ci := 1) (q0 := 0) hK hP rfl rfl) hP hD hS hA [0, 1, 2, 3, 4, 5, 6, 7, 8, 9, 10] [] rfl rfl (by decide) (by decide) d_Mac_goOn_56 ⟨⟨by decide, by decide⟩, Nat.le_refl _, Nat.le_refl _⟩ rfl hl.1 rfl (Nat.le_of_ble_eq_true rfl) (fun H locs hP hD hS => ?_)
          have hP : va_P Dg classes ((wM a k (sRow G j Mi)) ++ (wP b k G)) H := hP
          have hD : va_D (va_A ((wM a k M) ++ (wP b k G)) s.heap.size) ((wM a k (sRow G j Mi)) ++ (wP b k G)) := hD
          obtain ⟨Ms5, hMs5⟩ : ∃ z, z = (sRow G j Mi) := ⟨_, rfl⟩
          rw [← hMs5] at hP hD
          refine lv_iinc (k := 0) (v := (nI (i + 1))) hx hb d_Mac_goOn_59 hl rfl (nI_succ _).symm (by decide) rfl (fun ls hl => ?_)
          have hl : lv_has ls 6 [(5, .int (nI (i + 1))), (4, .int (sMin n 3000)), (0, .ref (a 0)), (1, .ref (b 0)), (2, .int z), (3, .int n)] := hl
          refine lv_goto (tgt := 12) hx hb d_Mac_goOn_62 (by decide) ?_
          exact ih f (i + 1, Ms5) H locs ls (by omega) ⟨by show i + 1 + f = sMost n; omega, by show runOk G z f Ms5; rw [hMs5]; exact hro7, by show _ = ((sGoL G z f Ms5).1, (sGoL G z f Ms5).2 + (i + 1)); rw [hMs5]; exact hsr7, (lv_sub hl [0, 1, 2, 3, 4, 5] rfl), hP.sub (ws' := (wM a k Ms5 ++ wP b k G)) [0, 1, 2, 3, 4, 5, 6, 7, 8, 9, 10] rfl, hD.sub (ws' := (wM a k Ms5 ++ wP b k G)) [0, 1, 2, 3, 4, 5, 6, 7, 8, 9, 10] (by decide) rfl, hS⟩
end
section
/-! PROGRAM: its methods as functions -/
def pOk (G : vSt) : Prop := ∃ z : Nat, z ≤ 80 ∧ G 5 0 = nI z
theorem has_in {G : vSt} {q : Int32} (h : pOk G) (hq : ¬ sHas G q = 0) : vp_in q 80 := by
  obtain ⟨z, hz, e⟩ := h
  unfold sHas at hq
  by_cases c : 0 ≤ q ∧ q < G 5 0
  · rw [e] at c
    have h1 := Int32.le_iff_toInt_le.mp c.1
    have h2 := Int32.lt_iff_toInt_lt.mp c.2
    rw [nI_toInt (by omega)] at h2
    have e0 : (0 : Int32).toInt = 0 := by decide
    rw [vp_in_iff]
    omega
  · rw [if_neg c] at hq; exact absurd rfl hq
def sNone (G : vSt) : vSt := u2 (u2 G 5 0 0) 5 1 0
def sMark (G : vSt) (q : Int32) : vSt := if sHas G q = 0 then G else u2 G 2 q.toNatClampNeg 1
def sClr (G : vSt) : Nat → vSt
  | 0 => G
  | i + 1 => u2 (sClr G i) 2 (nI i).toNatClampNeg 0
def sMk1 (G : vSt) (i : Nat) : vSt :=
  if G 0 (nI i).toNatClampNeg = 67 then sMark (sMark G (G 1 (nI i).toNatClampNeg)) (nI i + 1)
  else if G 0 (nI i).toNatClampNeg = 74 ∨ G 0 (nI i).toNatClampNeg = 90 then sMark G (G 1 (nI i).toNatClampNeg) else G
def sMk (G : vSt) : Nat → vSt
  | 0 => G
  | i + 1 => sMk1 (sMk G i) i
def sTgts (G : vSt) : vSt := sMk (sClr G (G 5 0).toNatClampNeg) (G 5 0).toNatClampNeg
theorem sMark_5 (G : vSt) (q : Int32) : (sMark G q) 5 = G 5 := by
  unfold sMark
  by_cases h : sHas G q = 0
  · rw [if_pos h]
  · rw [if_neg h]; rfl
theorem sClr_5 (G : vSt) : ∀ i, (sClr G i) 5 = G 5 := by
  intro i
  induction i with
  | zero => rfl
  | succ i ih => rw [← ih]; rfl
theorem sMk1_5 (G : vSt) (i : Nat) : (sMk1 G i) 5 = G 5 := by
  unfold sMk1
  split
  · rw [sMark_5, sMark_5]
  · split
    · rw [sMark_5]
    · rfl
theorem sMk_5 (G : vSt) : ∀ i, (sMk G i) 5 = G 5 := by
  intro i
  induction i with
  | zero => rfl
  | succ i ih => rw [← ih]; exact sMk1_5 _ i
def sRepl (G : vSt) (q c n : Int32) : vSt := sTgts (u2 (u2 (u2 G 0 q.toNatClampNeg c) 1 q.toNatClampNeg n) 5 1 0)
def sApp (G : vSt) (c n : Int32) : vSt := sRepl (u2 G 5 0 (G 5 0 + 1)) (G 5 0) c n
def sPFact (G : vSt) (q w : Int32) : Int32 := if w = 0 then G 0 q.toNatClampNeg else if w = 1 then G 1 q.toNatClampNeg else if w = 2 then G 3 q.toNatClampNeg else if G 2 q.toNatClampNeg = 0 then 0 else 1
theorem sw_2 (w : Int32) : w = 0 ∨ w = 1 ∨ w = 2 ∨ (w.toInt < 0 ∨ 2 < w.toInt) := by
  have key : ∀ z : Int32, w.toInt = z.toInt → w = z := fun z h => Int32.toInt_inj.mp h
  by_cases h : w.toInt < 0 ∨ 2 < w.toInt
  · simp [h]
  · have h1 : w.toInt = 0 ∨ w.toInt = 1 ∨ w.toInt = 2 := by omega
    rcases h1 with q | q | q
    · exact Or.inl (key 0 q)
    · exact Or.inr (Or.inl (key 1 q))
    · exact Or.inr (Or.inr (Or.inl (key 2 q)))
/-- the rows' letters, filled up with blanks, and their lengths -/
def rlL : List Int32 := [76, 76, 32, 32, 76, 80, 32, 32, 80, 43, 32, 32, 80, 45, 32, 32, 76, 43, 32, 32, 68, 88, 32, 32, 68, 42, 32, 32, 60, 90, 32, 32, 61, 90, 32, 32, 83, 76, 32, 32, 80, 83, 32, 32, 76, 76, 43, 32, 76, 80, 43, 32, 76, 80, 60, 90, 76, 80, 43, 83, 76, 76, 76, 32, 80, 61, 90, 32, 76, 45, 32, 32, 86, 76, 32, 32, 68, 79, 32, 32]
def rl (j : Nat) : Int32 := rlL.getD j 0
def rnL : List Nat := [2, 2, 2, 2, 2, 2, 2, 2, 2, 2, 2, 3, 3, 4, 4, 3, 3, 2, 2, 2]
def rn (r : Nat) : Nat := rnL.getD r 0
theorem rn_le : ∀ r, r < 20 → 2 ≤ rn r ∧ rn r ≤ 4 := by decide
theorem rn_in : ∀ r, r < 20 → ∀ i, i < rn r → ¬ rl (4 * r + i) = 32 := by decide
theorem rn_out : ∀ r, r < 20 → rn r < 4 → rl (4 * r + rn r) = 32 := by decide
/-- the static array of the rows' letters, at the cell tL -/
def rlX (A : Nat → Prop) (tL : Nat) (H : Heap) (U : State) : Prop := va_Z "FusedEngine$Rows" "LETTERS" "[C" (.ref tL) A U H ∧ va_T .char tL 80 (fun j => .int (rl j)) A U H
theorem rlX_m {A : Nat → Prop} {tL : Nat} {H : Heap} : kXm (rlX A tL H) := fun _ _ hv h => ⟨h.1.moved hv.alike, h.2.moved hv.alike⟩
theorem rlX.kept {A : Nat → Prop} {tL : Nat} {H H1 : Heap} {U : State} (h : rlX A tL H U) (hq : ∀ a : Nat, a < H.size → ¬ A a → H1[a]? = H[a]?) : rlX A tL H1 U := ⟨h.1.kept hq, h.2.kept hq⟩
theorem rlX.narrow {A B : Nat → Prop} {tL : Nat} {H : Heap} {U : State} (h : rlX A tL H U) (hAB : ∀ q, B q → A q) : rlX B tL H U := ⟨h.1.narrow hAB, h.2.narrow hAB⟩
abbrev rX (D : va_G) (k : Nat → ClassId) (tL : Nat) (H : Heap) (U : State) : Prop := va_K D classes (kTy k) U ∧ rlX (fun _ => False) tL H U
theorem rX_m {D : va_G} {k : Nat → ClassId} {tL : Nat} {H : Heap} : kXm (rX D k tL H) := kx_and kx_K rlX_m
/-- does row r lie at place q? from letter i on, n letters to go -/
def mtF (G : vSt) (q r : Nat) : Nat → Nat → Int32
  | 0, _ => 1
  | n + 1, i => if G 0 (nI q + nI i).toNatClampNeg = rl (4 * r + i) then (if i = 0 then mtF G q r n (i + 1) else if G 2 (nI q + nI i).toNatClampNeg = 0 then mtF G q r n (i + 1) else 0) else 0
def sMt (G : vSt) (q r : Nat) : Int32 := if nI q + nI (rn r) ≤ G 5 0 then mtF G q r (rn r) 0 else 0
/-- the longest row at place q: n rows to go, from row r on, with the best so far -/
def lgF (G : vSt) (q : Nat) : Nat → Nat → Int32 → Int32 → Int32
  | 0, _, best, _ => best
  | n + 1, r, best, bl => if rl (4 * r) = G 0 (nI q).toNatClampNeg then (if nI (rn r) ≤ bl then lgF G q n (r + 1) best bl else if sMt G q r = 0 then lgF G q n (r + 1) best bl else lgF G q n (r + 1) (nI r) (nI (rn r))) else lgF G q n (r + 1) best bl
def sLong (G : vSt) (q : Nat) : Int32 := lgF G q 20 0 (-1) 0
theorem lgF_or (G : vSt) (q : Nat) : ∀ n r best bl, r + n ≤ 20 → (best = -1 ∨ ∃ j, j < 20 ∧ best = nI j) → lgF G q n r best bl = -1 ∨ ∃ j, j < 20 ∧ lgF G q n r best bl = nI j := by
  intro n
  induction n with
  | zero => intro r best bl _ h; exact h
  | succ n ih =>
    intro r best bl hr h
    unfold lgF
    split
    · split
      · exact ih _ _ _ (by omega) h
      · split
        · exact ih _ _ _ (by omega) h
        · exact ih _ _ _ (by omega) (Or.inr ⟨r, by omega, rfl⟩)
    · exact ih _ _ _ (by omega) h
theorem sLong_or (G : vSt) (q : Nat) : sLong G q = -1 ∨ ∃ j, j < 20 ∧ sLong G q = nI j := lgF_or G q 20 0 (-1) 0 (by decide) (Or.inl rfl)
/-- fusing: state, count and 'within' behind the first i places -/
def sFl (x : Int32) : Int32 := if x = -1 then 1 else nI (rn x.toNatClampNeg)
def sFu1 (x : vSt × Int32 × Int32) (i : Nat) : vSt × Int32 × Int32 :=
  if x.2.2 ≤ 0 then (u2 (u2 x.1 3 (nI i).toNatClampNeg (sLong x.1 i)) 4 (nI i).toNatClampNeg (sFl (sLong x.1 i)), x.2.1 + 1, (u2 (u2 x.1 3 (nI i).toNatClampNeg (sLong x.1 i)) 4 (nI i).toNatClampNeg (sFl (sLong x.1 i))) 4 (nI i).toNatClampNeg - 1)
  else (u2 (u2 x.1 3 (nI i).toNatClampNeg (-2)) 4 (nI i).toNatClampNeg 1, x.2.1, x.2.2 + (-1))
def sFuS (G : vSt) : Nat → vSt × Int32 × Int32
  | 0 => (G, 0, 0)
  | i + 1 => sFu1 (sFuS G i) i
def sFuM (G : vSt) : vSt := u2 (sFuS G (G 5 0).toNatClampNeg).1 5 1 1
def sFuR (G : vSt) : Int32 := (sFuS G (G 5 0).toNatClampNeg).2.1
theorem sFuS_5 (G : vSt) : ∀ i, (sFuS G i).1 5 = G 5 := by
  intro i
  induction i with
  | zero => rfl
  | succ i ih =>
    rw [← ih]
    show (sFu1 (sFuS G i) i).1 5 = _
    unfold sFu1
    split <;> rfl
end
section
set_option maxRecDepth 100000 in
set_option maxHeartbeats 4000000 in
theorem c_Prg_removeAll (l : Launch) (Dg : va_G) (b : Nat → Nat) (k : Nat → ClassId) (G : vSt) (H : Heap) (hP : va_P Dg classes (wP b k G) H) (hD : va_D (fun _ => True) (wP b k G)) : kMv l y_Prg_removeAll b_Prg_removeAll 1 0 0 [.ref (b 0)] H (va_K Dg classes (kTy k)) Dg (wP b k G) (wP b k (sNone G)) := by
  refine k_of (by decide) (Nat.le_of_ble_eq_true rfl) ?_
  intro p e s m below meth cd ls F hlocks hret hname hh hX hl
  subst hh
  obtain ⟨hx, hb, hml, hown, hT⟩ := id F
  have hK : va_K Dg classes (kTy k) s := hX
  have hA : ∀ q : Nat, s.heap.size ≤ q → va_A (wP b k G) s.heap.size q := fun q h => Or.inr h
  have hD := hD.self (sz := s.heap.size)
  have hS : va_S (va_A (wP b k G) s.heap.size) s.heap s.heap [] := va_S.rf
  have hl : lv_has ls 1 [(0, .ref (b 0))] := hl
  refine lv_aload_n hx hb d_Prg_removeAll_0 rfl (lv_at hl 0 rfl) ?_
  refine lv_iconst (v := 0) hx hb d_Prg_removeAll_1 (by decide) ?_
  refine va_put (D := Dg) (ci := 2) (v := .int 0) (ty := .int) (C := R_Prg) (T := F_Prg) (N := 7) hx hb hT in_Prg t_Prg t_Prg_ok n_Prg hown hK hP hD hS 0 rfl rfl 5 (by decide) (hT _ tw1_41) (fun _ h9 => h9) rfl (by decide +kernel) rfl rfl (Nat.le_of_ble_eq_true rfl) d_Prg_removeAll_2 (fun H locs hP hD hS => ?_)
  have hP : va_P Dg classes (wP b k (u2 G 5 0 0)) H := hP
  have hD : va_D (va_A (wP b k G) s.heap.size) (wP b k (u2 G 5 0 0)) := hD
  obtain ⟨Gs1, hGs1⟩ : ∃ z, z = (u2 G 5 0 0) := ⟨_, rfl⟩
  rw [← hGs1] at hP hD
  refine lv_aload_n hx hb d_Prg_removeAll_5 rfl (lv_at hl 0 rfl) ?_
  refine lv_iconst (v := 0) hx hb d_Prg_removeAll_6 (by decide) ?_
  refine va_put (D := Dg) (ci := 2) (v := .int 0) (ty := .boolean) (C := R_Prg) (T := F_Prg) (N := 7) hx hb hT in_Prg t_Prg t_Prg_ok n_Prg hown hK hP hD hS 0 rfl rfl 6 (by decide) (hT _ tw1_42) (fun _ h9 => h9) rfl (by decide +kernel) rfl rfl (Nat.le_of_ble_eq_true rfl) d_Prg_removeAll_7 (fun H locs hP hD hS => ?_)
  have hP : va_P Dg classes (wP b k (u2 Gs1 5 1 0)) H := hP
  have hD : va_D (va_A (wP b k G) s.heap.size) (wP b k (u2 Gs1 5 1 0)) := hD
  obtain ⟨Gs2, hGs2⟩ : ∃ z, z = (u2 Gs1 5 1 0) := ⟨_, rfl⟩
  rw [← hGs2] at hP hD
  exact km_v F hlocks hret hP hD hS d_Prg_removeAll_10 (by subst hGs2 hGs1; rfl)

set_option maxRecDepth 100000 in
set_option maxHeartbeats 4000000 in
theorem c_Prg_markTarget (l : Launch) (Dg : va_G) (b : Nat → Nat) (k : Nat → ClassId) (G : vSt) (q : Int32) (H : Heap) (hP : va_P Dg classes (wP b k G) H) (hD : va_D (fun _ => True) (wP b k G)) (hp : pOk G) : kMv l y_Prg_markTarget b_Prg_markTarget 2 1 21 [.ref (b 0), .int q] H (va_K Dg classes (kTy k)) Dg (wP b k G) (wP b k (sMark G q)) := by
  refine k_of (by decide) (Nat.le_of_ble_eq_true rfl) ?_
  intro p e s m below meth cd ls F hlocks hret hname hh hX hl
  subst hh
  obtain ⟨hx, hb, hml, hown, hT⟩ := id F
  have hK : va_K Dg classes (kTy k) s := hX
  have hA : ∀ q : Nat, s.heap.size ≤ q → va_A (wP b k G) s.heap.size q := fun q h => Or.inr h
  have hD := hD.self (sz := s.heap.size)
  have hS : va_S (va_A (wP b k G) s.heap.size) s.heap s.heap [] := va_S.rf
  have hl : lv_has ls 2 [(0, .ref (b 0)), (1, .int q)] := hl
  refine lv_aload_n hx hb d_Prg_markTarget_0 rfl (lv_at hl 0 rfl) ?_
  refine lv_iload_n hx hb d_Prg_markTarget_1 rfl (lv_at hl 1 rfl) ?_
  refine kp_V F (c_Prg_has l Dg b k G q _ hP ) kx_K hK kw_Prg_61 tw2_94 tw2_95 (va_recv (ci := 2) (q0 := 0) hK hP rfl rfl) hS d_Prg_markTarget_2 ⟨⟨by decide, by decide⟩, Nat.le_refl _, Nat.le_refl _⟩ rfl hl.1 rfl (Nat.le_of_ble_eq_true rfl) (fun locs hS => ?_)
  refine lv_if_eq (tgt := 15) hx hb d_Prg_markTarget_5 (by decide) (fun h5 => ?_) (fun h5 => ?_)
  · exact km_v F hlocks hret hP hD hS d_Prg_markTarget_15 (by unfold sMark; rw [if_pos h5])
  · refine lv_aload_n hx hb d_Prg_markTarget_8 rfl (lv_at hl 0 rfl) ?_
    refine va_get (D := Dg) (ci := 2) (v := .ref (b 3)) (C := R_Prg) (T := F_Prg) (N := 7) hx hb hT in_Prg hown hK hP 0 rfl rfl 2 (by decide) (hT _ tw1_36) (fun _ h9 => h9) rfl d_Prg_markTarget_9 ?_
    refine lv_iload_n hx hb d_Prg_markTarget_12 rfl (lv_at hl 1 rfl) ?_
    refine lv_iconst (v := 1) hx hb d_Prg_markTarget_13 (by decide) ?_
    refine va_zast hx hb hK hP hD hS 3 1 rfl rfl (has_in hp h5) d_Prg_markTarget_14 (fun H locs hP hD hS => ?_)
    have hP : va_P Dg classes (wP b k (u2 G 2 q.toNatClampNeg 1)) H := hP
    have hD : va_D (va_A (wP b k G) s.heap.size) (wP b k (u2 G 2 q.toNatClampNeg 1)) := hD
    obtain ⟨Gs1, hGs1⟩ : ∃ z, z = (u2 G 2 q.toNatClampNeg 1) := ⟨_, rfl⟩
    rw [← hGs1] at hP hD
    exact km_v F hlocks hret hP hD hS d_Prg_markTarget_15 (by subst hGs1; unfold sMark; rw [if_neg h5])

set_option maxRecDepth 100000 in
set_option maxHeartbeats 4000000 in
theorem c_Prg_findTargets (l : Launch) (Dg : va_G) (b : Nat → Nat) (k : Nat → ClassId) (G : vSt) (H : Heap) (hP : va_P Dg classes (wP b k G) H) (hD : va_D (fun _ => True) (wP b k G)) (hp : pOk G) : kMv l y_Prg_findTargets b_Prg_findTargets 3 2 42 [.ref (b 0)] H (va_K Dg classes (kTy k)) Dg (wP b k G) (wP b k (sTgts G)) := by
  refine k_of (by decide) (Nat.le_of_ble_eq_true rfl) ?_
  intro p e s m below meth cd ls F hlocks hret hname hh hX hl
  subst hh
  obtain ⟨hx, hb, hml, hown, hT⟩ := id F
  have hK : va_K Dg classes (kTy k) s := hX
  have hA : ∀ q : Nat, s.heap.size ≤ q → va_A (wP b k G) s.heap.size q := fun q h => Or.inr h
  have hD := hD.self (sz := s.heap.size)
  have hS : va_S (va_A (wP b k G) s.heap.size) s.heap s.heap [] := va_S.rf
  have hl : lv_has ls 3 [(0, .ref (b 0))] := hl
  obtain ⟨z, hz80, ez⟩ := hp
  have etg : sTgts G = sMk (sClr G z) z := by unfold sTgts; rw [ez, nI_clamp (by omega)]
  refine lv_iconst (v := 0) hx hb d_Prg_findTargets_0 (by decide) ?_
  refine lv_istore_n hx hb d_Prg_findTargets_1 rfl hl (by decide) rfl (fun ls hl => ?_)
  have hl : lv_has ls 3 [(1, .int 0), (0, .ref (b 0))] := hl
  refine k_while (σ := Nat × vSt) (fun f x H locs ls => x.1 + f = z ∧ x.2 = sClr G x.1 ∧ lv_has ls 3 [(1, .int (nI x.1)), (0, .ref (b 0))] ∧ va_P Dg classes (wP b k x.2) H ∧ va_D (va_A (wP b k G) s.heap.size) (wP b k x.2) ∧ va_S (va_A (wP b k G) s.heap.size) s.heap H locs) ?_ z (0, G) ⟨by show 0 + z = z; omega, rfl, (lv_sub hl [0, 1] rfl), hP, hD, hS⟩
  rintro f ⟨i, Gi⟩ H locs ls ⟨hif, hGi, hl, hP, hD, hS⟩ ih
  have hl : lv_has ls 3 [(1, .int (nI i)), (0, .ref (b 0))] := hl
  have hP : va_P Dg classes (wP b k Gi) H := hP
  have hD : va_D (va_A (wP b k G) s.heap.size) (wP b k Gi) := hD
  have hif : i + f = z := hif
  have hGi : Gi = sClr G i := hGi
  have hsz : Gi 5 0 = nI z := by rw [hGi, sClr_5]; exact ez
  refine lv_iload_n hx hb d_Prg_findTargets_2 rfl (lv_at hl 0 rfl) ?_
  refine lv_aload_n hx hb d_Prg_findTargets_3 rfl (lv_at hl 1 rfl) ?_
  refine va_get (D := Dg) (ci := 2) (v := .int (Gi 5 0)) (C := R_Prg) (T := F_Prg) (N := 7) hx hb hT in_Prg hown hK hP 0 rfl rfl 5 (by decide) (hT _ tw1_41) (fun _ h9 => h9) rfl d_Prg_findTargets_4 ?_
  refine lv_icmp_ge (tgt := 23) hx hb d_Prg_findTargets_7 (by decide) (fun h7 => ?_) (fun h7 => ?_)
  · have hiz : i = z := by have := (nI_leI (by omega) (by omega)).mp (hsz ▸ h7); omega
    rw [hiz] at hGi
    refine lv_iconst (v := 0) hx hb d_Prg_findTargets_23 (by decide) ?_
    refine lv_istore_n hx hb d_Prg_findTargets_24 rfl hl (by decide) rfl (fun ls hl => ?_)
    have hl : lv_has ls 3 [(1, .int 0), (0, .ref (b 0))] := hl
    refine k_while (σ := Nat × vSt) (fun f x H locs ls => x.1 + f = z ∧ x.2 = sMk (sClr G z) x.1 ∧ lv_has ls 3 [(1, .int (nI x.1)), (0, .ref (b 0))] ∧ va_P Dg classes (wP b k x.2) H ∧ va_D (va_A (wP b k G) s.heap.size) (wP b k x.2) ∧ va_S (va_A (wP b k G) s.heap.size) s.heap H locs) ?_ z (0, Gi) ⟨by show 0 + z = z; omega, hGi, (lv_sub hl [0, 1] rfl), hP, hD, hS⟩
    rintro f ⟨i, Gi⟩ H locs ls ⟨hif, hGi, hl, hP, hD, hS⟩ ih
    have hl : lv_has ls 3 [(1, .int (nI i)), (0, .ref (b 0))] := hl
    have hP : va_P Dg classes (wP b k Gi) H := hP
    have hD : va_D (va_A (wP b k G) s.heap.size) (wP b k Gi) := hD
    have hif : i + f = z := hif
    have hGi : Gi = sMk (sClr G z) i := hGi
    have hsz : Gi 5 0 = nI z := by rw [hGi, sMk_5, sClr_5]; exact ez
    refine lv_iload_n hx hb d_Prg_findTargets_25 rfl (lv_at hl 0 rfl) ?_
    refine lv_aload_n hx hb d_Prg_findTargets_26 rfl (lv_at hl 1 rfl) ?_
    refine va_get (D := Dg) (ci := 2) (v := .int (Gi 5 0)) (C := R_Prg) (T := F_Prg) (N := 7) hx hb hT in_Prg hown hK hP 0 rfl rfl 5 (by decide) (hT _ tw1_41) (fun _ h9 => h9) rfl d_Prg_findTargets_27 ?_
    refine lv_icmp_ge (tgt := 87) hx hb d_Prg_findTargets_30 (by decide) (fun h30 => ?_) (fun h30 => ?_)
    · exact km_v F hlocks hret hP hD hS d_Prg_findTargets_87 (by rw [etg, hGi, show i = z by have := (nI_leI (by omega) (by omega)).mp (hsz ▸ h30); omega])
    · have hi : i < z := by rcases Nat.lt_or_ge i z with y | y; exact y; exact absurd (by rw [hsz]; exact nI_le y (by omega)) h30
      obtain ⟨f, rfl⟩ : ∃ g, f = g + 1 := ⟨f - 1, by omega⟩
      refine lv_aload_n hx hb d_Prg_findTargets_33 rfl (lv_at hl 1 rfl) ?_
      refine va_get (D := Dg) (ci := 2) (v := .ref (b 1)) (C := R_Prg) (T := F_Prg) (N := 7) hx hb hT in_Prg hown hK hP 0 rfl rfl 0 (by decide) (hT _ tw1_32) (fun _ h9 => h9) rfl d_Prg_findTargets_34 ?_
      refine lv_iload_n hx hb d_Prg_findTargets_37 rfl (lv_at hl 0 rfl) ?_
      refine va_iald (f := (Gi 0)) hx hb hK hP 1 0 rfl rfl (vp_in_nI (by omega) (by decide)) d_Prg_findTargets_38 ?_
      refine lv_istore_n hx hb d_Prg_findTargets_39 rfl hl (by decide) rfl (fun ls hl => ?_)
      have hl : lv_has ls 3 [(2, .int ((Gi 0) (nI i).toNatClampNeg)), (1, .int (nI i)), (0, .ref (b 0))] := hl
      refine lv_iload_n hx hb d_Prg_findTargets_40 rfl (lv_at hl 0 rfl) ?_
      refine lv_bipush (v := 74) hx hb d_Prg_findTargets_41 (by decide) ?_
      refine lv_icmp_eq (tgt := 58) hx hb d_Prg_findTargets_43 (by decide) (fun h43 => ?_) (fun h43 => ?_)
      · refine lv_aload_n hx hb d_Prg_findTargets_58 rfl (lv_at hl 2 rfl) ?_
        refine lv_aload_n hx hb d_Prg_findTargets_59 rfl (lv_at hl 2 rfl) ?_
        refine va_get (D := Dg) (ci := 2) (v := .ref (b 2)) (C := R_Prg) (T := F_Prg) (N := 7) hx hb hT in_Prg hown hK hP 0 rfl rfl 1 (by decide) (hT _ tw1_34) (fun _ h9 => h9) rfl d_Prg_findTargets_60 ?_
        refine lv_iload_n hx hb d_Prg_findTargets_63 rfl (lv_at hl 1 rfl) ?_
        refine va_iald (f := (Gi 1)) hx hb hK hP 2 0 rfl rfl (vp_in_nI (by omega) (by decide)) d_Prg_findTargets_64 ?_
        refine km_Vv (wr := []) F (c_Prg_markTarget l Dg b k Gi ((Gi 1) (nI i).toNatClampNeg) _ hP (hD.weaken (fun _ _ _ _ => trivial)) ⟨z, hz80, hsz⟩) kx_K hK kw_Prg_57 tw2_91 ts_6 (va_recv (ci := 2) (q0 := 0) hK hP rfl rfl) hP hD hS hA [0, 1, 2, 3, 4, 5] [] rfl rfl (by decide) (by decide) d_Prg_findTargets_65 ⟨⟨by decide, by decide⟩, Nat.le_refl _, Nat.le_refl _⟩ rfl hl.1 rfl (Nat.le_of_ble_eq_true rfl) (fun H locs hP hD hS => ?_)
        have hP : va_P Dg classes (wP b k (sMark Gi ((Gi 1) (nI i).toNatClampNeg))) H := hP
        have hD : va_D (va_A (wP b k G) s.heap.size) (wP b k (sMark Gi ((Gi 1) (nI i).toNatClampNeg))) := hD
        obtain ⟨Gs1, hGs1⟩ : ∃ z, z = (sMark Gi ((Gi 1) (nI i).toNatClampNeg)) := ⟨_, rfl⟩
        rw [← hGs1] at hP hD
        refine lv_iload_n hx hb d_Prg_findTargets_68 rfl (lv_at hl 0 rfl) ?_
        refine lv_bipush (v := 67) hx hb d_Prg_findTargets_69 (by decide) ?_
        refine lv_icmp_ne (tgt := 81) hx hb d_Prg_findTargets_71 (by decide) (fun _ => ?_) (fun h9 => absurd h9 (by rw [h43]; decide))
        refine lv_iinc (k := 1) (v := (nI (i + 1))) hx hb d_Prg_findTargets_81 hl rfl (nI_succ _).symm (by decide) rfl (fun ls hl => ?_)
        have hl : lv_has ls 3 [(1, .int (nI (i + 1))), (2, .int ((Gi 0) (nI i).toNatClampNeg)), (0, .ref (b 0))] := hl
        refine lv_goto (tgt := 25) hx hb d_Prg_findTargets_84 (by decide) ?_
        exact ih f (i + 1, Gs1) H locs ls (by omega) ⟨by show i + 1 + f = z; omega, by show Gs1 = sMk1 (sMk (sClr G z) i) i; rw [← hGi]; unfold sMk1; rw [if_neg (by rw [h43]; decide), if_pos (Or.inl h43), hGs1], (lv_sub hl [0, 2] rfl), hP, hD, hS⟩
      · refine lv_iload_n hx hb d_Prg_findTargets_46 rfl (lv_at hl 0 rfl) ?_
        refine lv_bipush (v := 90) hx hb d_Prg_findTargets_47 (by decide) ?_
        refine lv_icmp_eq (tgt := 58) hx hb d_Prg_findTargets_49 (by decide) (fun h49 => ?_) (fun h49 => ?_)
        · refine lv_aload_n hx hb d_Prg_findTargets_58 rfl (lv_at hl 2 rfl) ?_
          refine lv_aload_n hx hb d_Prg_findTargets_59 rfl (lv_at hl 2 rfl) ?_
          refine va_get (D := Dg) (ci := 2) (v := .ref (b 2)) (C := R_Prg) (T := F_Prg) (N := 7) hx hb hT in_Prg hown hK hP 0 rfl rfl 1 (by decide) (hT _ tw1_34) (fun _ h9 => h9) rfl d_Prg_findTargets_60 ?_
          refine lv_iload_n hx hb d_Prg_findTargets_63 rfl (lv_at hl 1 rfl) ?_
          refine va_iald (f := (Gi 1)) hx hb hK hP 2 0 rfl rfl (vp_in_nI (by omega) (by decide)) d_Prg_findTargets_64 ?_
          refine km_Vv (wr := []) F (c_Prg_markTarget l Dg b k Gi ((Gi 1) (nI i).toNatClampNeg) _ hP (hD.weaken (fun _ _ _ _ => trivial)) ⟨z, hz80, hsz⟩) kx_K hK kw_Prg_57 tw2_91 ts_6 (va_recv (ci := 2) (q0 := 0) hK hP rfl rfl) hP hD hS hA [0, 1, 2, 3, 4, 5] [] rfl rfl (by decide) (by decide) d_Prg_findTargets_65 ⟨⟨by decide, by decide⟩, Nat.le_refl _, Nat.le_refl _⟩ rfl hl.1 rfl (Nat.le_of_ble_eq_true rfl) (fun H locs hP hD hS => ?_)
          have hP : va_P Dg classes (wP b k (sMark Gi ((Gi 1) (nI i).toNatClampNeg))) H := hP
          have hD : va_D (va_A (wP b k G) s.heap.size) (wP b k (sMark Gi ((Gi 1) (nI i).toNatClampNeg))) := hD
          obtain ⟨Gs2, hGs2⟩ : ∃ z, z = (sMark Gi ((Gi 1) (nI i).toNatClampNeg)) := ⟨_, rfl⟩
          rw [← hGs2] at hP hD
          refine lv_iload_n hx hb d_Prg_findTargets_68 rfl (lv_at hl 0 rfl) ?_
          refine lv_bipush (v := 67) hx hb d_Prg_findTargets_69 (by decide) ?_
          refine lv_icmp_ne (tgt := 81) hx hb d_Prg_findTargets_71 (by decide) (fun _ => ?_) (fun h9 => absurd h9 (by rw [h49]; decide))
          refine lv_iinc (k := 1) (v := (nI (i + 1))) hx hb d_Prg_findTargets_81 hl rfl (nI_succ _).symm (by decide) rfl (fun ls hl => ?_)
          have hl : lv_has ls 3 [(1, .int (nI (i + 1))), (2, .int ((Gi 0) (nI i).toNatClampNeg)), (0, .ref (b 0))] := hl
          refine lv_goto (tgt := 25) hx hb d_Prg_findTargets_84 (by decide) ?_
          exact ih f (i + 1, Gs2) H locs ls (by omega) ⟨by show i + 1 + f = z; omega, by show Gs2 = sMk1 (sMk (sClr G z) i) i; rw [← hGi]; unfold sMk1; rw [if_neg (by rw [h49]; decide), if_pos (Or.inr h49), hGs2], (lv_sub hl [0, 2] rfl), hP, hD, hS⟩
        · refine lv_iload_n hx hb d_Prg_findTargets_52 rfl (lv_at hl 0 rfl) ?_
          refine lv_bipush (v := 67) hx hb d_Prg_findTargets_53 (by decide) ?_
          refine lv_icmp_ne (tgt := 68) hx hb d_Prg_findTargets_55 (by decide) (fun h55 => ?_) (fun h55 => ?_)
          · refine lv_iload_n hx hb d_Prg_findTargets_68 rfl (lv_at hl 0 rfl) ?_
            refine lv_bipush (v := 67) hx hb d_Prg_findTargets_69 (by decide) ?_
            refine lv_icmp_ne (tgt := 81) hx hb d_Prg_findTargets_71 (by decide) (fun _ => ?_) (fun h9 => absurd h9 h55)
            refine lv_iinc (k := 1) (v := (nI (i + 1))) hx hb d_Prg_findTargets_81 hl rfl (nI_succ _).symm (by decide) rfl (fun ls hl => ?_)
            have hl : lv_has ls 3 [(1, .int (nI (i + 1))), (2, .int ((Gi 0) (nI i).toNatClampNeg)), (0, .ref (b 0))] := hl
            refine lv_goto (tgt := 25) hx hb d_Prg_findTargets_84 (by decide) ?_
            exact ih f (i + 1, Gi) H locs ls (by omega) ⟨by show i + 1 + f = z; omega, by show Gi = sMk1 (sMk (sClr G z) i) i; rw [← hGi]; unfold sMk1; rw [if_neg h55, if_neg (fun y => y.elim h43 h49)], (lv_sub hl [0, 2] rfl), hP, hD, hS⟩
          · refine lv_aload_n hx hb d_Prg_findTargets_58 rfl (lv_at hl 2 rfl) ?_
            refine lv_aload_n hx hb d_Prg_findTargets_59 rfl (lv_at hl 2 rfl) ?_
            refine va_get (D := Dg) (ci := 2) (v := .ref (b 2)) (C := R_Prg) (T := F_Prg) (N := 7) hx hb hT in_Prg hown hK hP 0 rfl rfl 1 (by decide) (hT _ tw1_34) (fun _ h9 => h9) rfl d_Prg_findTargets_60 ?_
            refine lv_iload_n hx hb d_Prg_findTargets_63 rfl (lv_at hl 1 rfl) ?_
            refine va_iald (f := (Gi 1)) hx hb hK hP 2 0 rfl rfl (vp_in_nI (by omega) (by decide)) d_Prg_findTargets_64 ?_
            refine km_Vv (wr := []) F (c_Prg_markTarget l Dg b k Gi ((Gi 1) (nI i).toNatClampNeg) _ hP (hD.weaken (fun _ _ _ _ => trivial)) ⟨z, hz80, hsz⟩) kx_K hK kw_Prg_57 tw2_91 ts_6 (va_recv (ci := 2) (q0 := 0) hK hP rfl rfl) hP hD hS hA [0, 1, 2, 3, 4, 5] [] rfl rfl (by decide) (by decide) d_Prg_findTargets_65 ⟨⟨by decide, by decide⟩, Nat.le_refl _, Nat.le_refl _⟩ rfl hl.1 rfl (Nat.le_of_ble_eq_true rfl) (fun H locs hP hD hS => ?_)
            have hP : va_P Dg classes (wP b k (sMark Gi ((Gi 1) (nI i).toNatClampNeg))) H := hP
            have hD : va_D (va_A (wP b k G) s.heap.size) (wP b k (sMark Gi ((Gi 1) (nI i).toNatClampNeg))) := hD
            obtain ⟨Gs3, hGs3⟩ : ∃ z, z = (sMark Gi ((Gi 1) (nI i).toNatClampNeg)) := ⟨_, rfl⟩
            rw [← hGs3] at hP hD
            refine lv_iload_n hx hb d_Prg_findTargets_68 rfl (lv_at hl 0 rfl) ?_
            refine lv_bipush (v := 67) hx hb d_Prg_findTargets_69 (by decide) ?_
            refine lv_icmp_ne (tgt := 81) hx hb d_Prg_findTargets_71 (by decide) (fun h9 => absurd h55 h9) (fun _ => ?_)
            refine lv_aload_n hx hb d_Prg_findTargets_74 rfl (lv_at hl 2 rfl) ?_
            refine lv_iload_n hx hb d_Prg_findTargets_75 rfl (lv_at hl 1 rfl) ?_
            refine lv_iconst (v := 1) hx hb d_Prg_findTargets_76 (by decide) ?_
            refine lv_iadd hx hb d_Prg_findTargets_77 ?_
            refine km_Vv (wr := []) F (c_Prg_markTarget l Dg b k Gs3 ((nI i) + 1) _ hP (hD.weaken (fun _ _ _ _ => trivial)) ⟨z, hz80, by rw [hGs3, sMark_5]; exact hsz⟩) kx_K hK kw_Prg_57 tw2_91 ts_6 (va_recv (ci := 2) (q0 := 0) hK hP rfl rfl) hP hD hS hA [0, 1, 2, 3, 4, 5] [] rfl rfl (by decide) (by decide) d_Prg_findTargets_78 ⟨⟨by decide, by decide⟩, Nat.le_refl _, Nat.le_refl _⟩ rfl hl.1 rfl (Nat.le_of_ble_eq_true rfl) (fun H locs hP hD hS => ?_)
            have hP : va_P Dg classes (wP b k (sMark Gs3 ((nI i) + 1))) H := hP
            have hD : va_D (va_A (wP b k G) s.heap.size) (wP b k (sMark Gs3 ((nI i) + 1))) := hD
            obtain ⟨Gs4, hGs4⟩ : ∃ z, z = (sMark Gs3 ((nI i) + 1)) := ⟨_, rfl⟩
            rw [← hGs4] at hP hD
            refine lv_iinc (k := 1) (v := (nI (i + 1))) hx hb d_Prg_findTargets_81 hl rfl (nI_succ _).symm (by decide) rfl (fun ls hl => ?_)
            have hl : lv_has ls 3 [(1, .int (nI (i + 1))), (2, .int ((Gi 0) (nI i).toNatClampNeg)), (0, .ref (b 0))] := hl
            refine lv_goto (tgt := 25) hx hb d_Prg_findTargets_84 (by decide) ?_
            exact ih f (i + 1, Gs4) H locs ls (by omega) ⟨by show i + 1 + f = z; omega, by show Gs4 = sMk1 (sMk (sClr G z) i) i; rw [← hGi]; unfold sMk1; rw [if_pos h55, hGs4, hGs3], (lv_sub hl [0, 2] rfl), hP, hD, hS⟩
  · have hi : i < z := by rcases Nat.lt_or_ge i z with y | y; exact y; exact absurd (by rw [hsz]; exact nI_le y (by omega)) h7
    obtain ⟨f, rfl⟩ : ∃ g, f = g + 1 := ⟨f - 1, by omega⟩
    refine lv_aload_n hx hb d_Prg_findTargets_10 rfl (lv_at hl 1 rfl) ?_
    refine va_get (D := Dg) (ci := 2) (v := .ref (b 3)) (C := R_Prg) (T := F_Prg) (N := 7) hx hb hT in_Prg hown hK hP 0 rfl rfl 2 (by decide) (hT _ tw1_36) (fun _ h9 => h9) rfl d_Prg_findTargets_11 ?_
    refine lv_iload_n hx hb d_Prg_findTargets_14 rfl (lv_at hl 0 rfl) ?_
    refine lv_iconst (v := 0) hx hb d_Prg_findTargets_15 (by decide) ?_
    refine va_zast hx hb hK hP hD hS 3 1 rfl rfl (vp_in_nI (by omega) (by decide)) d_Prg_findTargets_16 (fun H locs hP hD hS => ?_)
    have hP : va_P Dg classes (wP b k (u2 Gi 2 (nI i).toNatClampNeg 0)) H := hP
    have hD : va_D (va_A (wP b k G) s.heap.size) (wP b k (u2 Gi 2 (nI i).toNatClampNeg 0)) := hD
    obtain ⟨Gs5, hGs5⟩ : ∃ z, z = (u2 Gi 2 (nI i).toNatClampNeg 0) := ⟨_, rfl⟩
    rw [← hGs5] at hP hD
    refine lv_iinc (k := 0) (v := (nI (i + 1))) hx hb d_Prg_findTargets_17 hl rfl (nI_succ _).symm (by decide) rfl (fun ls hl => ?_)
    have hl : lv_has ls 3 [(1, .int (nI (i + 1))), (0, .ref (b 0))] := hl
    refine lv_goto (tgt := 2) hx hb d_Prg_findTargets_20 (by decide) ?_
    exact ih f (i + 1, Gs5) H locs ls (by omega) ⟨by show i + 1 + f = z; omega, by show Gs5 = sClr G (i + 1); rw [hGs5, hGi]; rfl, (lv_sub hl [0, 1] rfl), hP, hD, hS⟩

set_option maxRecDepth 100000 in
set_option maxHeartbeats 4000000 in
theorem c_Prg_replace (l : Launch) (Dg : va_G) (b : Nat → Nat) (k : Nat → ClassId) (G : vSt) (q c n : Int32) (H : Heap) (hP : va_P Dg classes (wP b k G) H) (hD : va_D (fun _ => True) (wP b k G)) (hp : pOk G) (hq : vp_in q 80) : kMv l y_Prg_replace b_Prg_replace 4 3 64 [.ref (b 0), .int q, .int c, .int n] H (va_K Dg classes (kTy k)) Dg (wP b k G) (wP b k (sRepl G q c n)) := by
  refine k_of (by decide) (Nat.le_of_ble_eq_true rfl) ?_
  intro p e s m below meth cd ls F hlocks hret hname hh hX hl
  subst hh
  obtain ⟨hx, hb, hml, hown, hT⟩ := id F
  have hK : va_K Dg classes (kTy k) s := hX
  have hA : ∀ q : Nat, s.heap.size ≤ q → va_A (wP b k G) s.heap.size q := fun q h => Or.inr h
  have hD := hD.self (sz := s.heap.size)
  have hS : va_S (va_A (wP b k G) s.heap.size) s.heap s.heap [] := va_S.rf
  have hl : lv_has ls 4 [(0, .ref (b 0)), (1, .int q), (2, .int c), (3, .int n)] := hl
  refine lv_aload_n hx hb d_Prg_replace_0 rfl (lv_at hl 0 rfl) ?_
  refine va_get (D := Dg) (ci := 2) (v := .ref (b 1)) (C := R_Prg) (T := F_Prg) (N := 7) hx hb hT in_Prg hown hK hP 0 rfl rfl 0 (by decide) (hT _ tw1_32) (fun _ h9 => h9) rfl d_Prg_replace_1 ?_
  refine lv_iload_n hx hb d_Prg_replace_4 rfl (lv_at hl 1 rfl) ?_
  refine lv_iload_n hx hb d_Prg_replace_5 rfl (lv_at hl 2 rfl) ?_
  refine va_iast hx hb hK hP hD hS 1 0 rfl rfl hq d_Prg_replace_6 (fun H locs hP hD hS => ?_)
  have hP : va_P Dg classes (wP b k (u2 G 0 q.toNatClampNeg c)) H := hP
  have hD : va_D (va_A (wP b k G) s.heap.size) (wP b k (u2 G 0 q.toNatClampNeg c)) := hD
  obtain ⟨Gs1, hGs1⟩ : ∃ z, z = (u2 G 0 q.toNatClampNeg c) := ⟨_, rfl⟩
  rw [← hGs1] at hP hD
  refine lv_aload_n hx hb d_Prg_replace_7 rfl (lv_at hl 0 rfl) ?_
  refine va_get (D := Dg) (ci := 2) (v := .ref (b 2)) (C := R_Prg) (T := F_Prg) (N := 7) hx hb hT in_Prg hown hK hP 0 rfl rfl 1 (by decide) (hT _ tw1_34) (fun _ h9 => h9) rfl d_Prg_replace_8 ?_
  refine lv_iload_n hx hb d_Prg_replace_11 rfl (lv_at hl 1 rfl) ?_
  refine lv_iload_n hx hb d_Prg_replace_12 rfl (lv_at hl 3 rfl) ?_
  refine va_iast hx hb hK hP hD hS 2 0 rfl rfl hq d_Prg_replace_13 (fun H locs hP hD hS => ?_)
  have hP : va_P Dg classes (wP b k (u2 Gs1 1 q.toNatClampNeg n)) H := hP
  have hD : va_D (va_A (wP b k G) s.heap.size) (wP b k (u2 Gs1 1 q.toNatClampNeg n)) := hD
  obtain ⟨Gs2, hGs2⟩ : ∃ z, z = (u2 Gs1 1 q.toNatClampNeg n) := ⟨_, rfl⟩
  rw [← hGs2] at hP hD
  refine lv_aload_n hx hb d_Prg_replace_14 rfl (lv_at hl 0 rfl) ?_
  refine lv_iconst (v := 0) hx hb d_Prg_replace_15 (by decide) ?_
  refine va_put (D := Dg) (ci := 2) (v := .int 0) (ty := .boolean) (C := R_Prg) (T := F_Prg) (N := 7) hx hb hT in_Prg t_Prg t_Prg_ok n_Prg hown hK hP hD hS 0 rfl rfl 6 (by decide) (hT _ tw1_42) (fun _ h9 => h9) rfl (by decide +kernel) rfl rfl (Nat.le_of_ble_eq_true rfl) d_Prg_replace_16 (fun H locs hP hD hS => ?_)
  have hP : va_P Dg classes (wP b k (u2 Gs2 5 1 0)) H := hP
  have hD : va_D (va_A (wP b k G) s.heap.size) (wP b k (u2 Gs2 5 1 0)) := hD
  obtain ⟨Gs3, hGs3⟩ : ∃ z, z = (u2 Gs2 5 1 0) := ⟨_, rfl⟩
  rw [← hGs3] at hP hD
  refine lv_aload_n hx hb d_Prg_replace_19 rfl (lv_at hl 0 rfl) ?_
  refine km_Vv (wr := []) F (c_Prg_findTargets l Dg b k Gs3  _ hP (hD.weaken (fun _ _ _ _ => trivial)) (by rw [hGs3, hGs2, hGs1]; exact hp)) kx_K hK kw_Prg_54 tw2_87 ts_5 (va_recv (ci := 2) (q0 := 0) hK hP rfl rfl) hP hD hS hA [0, 1, 2, 3, 4, 5] [] rfl rfl (by decide) (by decide) d_Prg_replace_20 ⟨⟨by decide, by decide⟩, Nat.le_refl _, Nat.le_refl _⟩ rfl hl.1 rfl (Nat.le_of_ble_eq_true rfl) (fun H locs hP hD hS => ?_)
  have hP : va_P Dg classes (wP b k (sTgts Gs3)) H := hP
  have hD : va_D (va_A (wP b k G) s.heap.size) (wP b k (sTgts Gs3)) := hD
  obtain ⟨Gs4, hGs4⟩ : ∃ z, z = (sTgts Gs3) := ⟨_, rfl⟩
  rw [← hGs4] at hP hD
  exact km_v F hlocks hret hP hD hS d_Prg_replace_23 (by subst hGs4 hGs3 hGs2 hGs1; rfl)

set_option maxRecDepth 100000 in
set_option maxHeartbeats 4000000 in
theorem c_Prg_append (l : Launch) (Dg : va_G) (b : Nat → Nat) (k : Nat → ClassId) (G : vSt) (c n : Int32) (H : Heap) (hP : va_P Dg classes (wP b k G) H) (hD : va_D (fun _ => True) (wP b k G)) (hp : ∃ z : Nat, z < 80 ∧ G 5 0 = nI z) : kMi l y_Prg_append b_Prg_append 4 (some FieldType.int) 4 87 [.ref (b 0), .int c, .int n] H (va_K Dg classes (kTy k)) Dg (wP b k G) (wP b k (sApp G c n)) ((G 5 0)) := by
  refine k_of (by decide) (Nat.le_of_ble_eq_true rfl) ?_
  intro p e s m below meth cd ls F hlocks hret hname hh hX hl
  subst hh
  obtain ⟨hx, hb, hml, hown, hT⟩ := id F
  have hK : va_K Dg classes (kTy k) s := hX
  have hA : ∀ q : Nat, s.heap.size ≤ q → va_A (wP b k G) s.heap.size q := fun q h => Or.inr h
  have hD := hD.self (sz := s.heap.size)
  have hS : va_S (va_A (wP b k G) s.heap.size) s.heap s.heap [] := va_S.rf
  have hl : lv_has ls 4 [(0, .ref (b 0)), (1, .int c), (2, .int n)] := hl
  obtain ⟨z, hz80, ez⟩ := hp
  refine lv_aload_n hx hb d_Prg_append_0 rfl (lv_at hl 0 rfl) ?_
  refine va_get (D := Dg) (ci := 2) (v := .int (G 5 0)) (C := R_Prg) (T := F_Prg) (N := 7) hx hb hT in_Prg hown hK hP 0 rfl rfl 5 (by decide) (hT _ tw1_41) (fun _ h9 => h9) rfl d_Prg_append_1 ?_
  refine lv_istore_n hx hb d_Prg_append_4 rfl hl (by decide) rfl (fun ls hl => ?_)
  have hl : lv_has ls 4 [(3, .int (G 5 0)), (0, .ref (b 0)), (1, .int c), (2, .int n)] := hl
  refine lv_aload_n hx hb d_Prg_append_5 rfl (lv_at hl 1 rfl) ?_
  refine lv_dup hx hb d_Prg_append_6 rfl ?_
  refine va_get (D := Dg) (ci := 2) (v := .int (G 5 0)) (C := R_Prg) (T := F_Prg) (N := 7) hx hb hT in_Prg hown hK hP 0 rfl rfl 5 (by decide) (hT _ tw1_41) (fun _ h9 => h9) rfl d_Prg_append_7 ?_
  refine lv_iconst (v := 1) hx hb d_Prg_append_10 (by decide) ?_
  refine lv_iadd hx hb d_Prg_append_11 ?_
  refine va_put (D := Dg) (ci := 2) (v := .int ((G 5 0) + 1)) (ty := .int) (C := R_Prg) (T := F_Prg) (N := 7) hx hb hT in_Prg t_Prg t_Prg_ok n_Prg hown hK hP hD hS 0 rfl rfl 5 (by decide) (hT _ tw1_41) (fun _ h9 => h9) rfl (by decide +kernel) rfl rfl (Nat.le_of_ble_eq_true rfl) d_Prg_append_12 (fun H locs hP hD hS => ?_)
  have hP : va_P Dg classes (wP b k (u2 G 5 0 ((G 5 0) + 1))) H := hP
  have hD : va_D (va_A (wP b k G) s.heap.size) (wP b k (u2 G 5 0 ((G 5 0) + 1))) := hD
  obtain ⟨Gs1, hGs1⟩ : ∃ z, z = (u2 G 5 0 ((G 5 0) + 1)) := ⟨_, rfl⟩
  rw [← hGs1] at hP hD
  refine lv_aload_n hx hb d_Prg_append_15 rfl (lv_at hl 1 rfl) ?_
  refine lv_iload_n hx hb d_Prg_append_16 rfl (lv_at hl 0 rfl) ?_
  refine lv_iload_n hx hb d_Prg_append_17 rfl (lv_at hl 2 rfl) ?_
  refine lv_iload_n hx hb d_Prg_append_18 rfl (lv_at hl 3 rfl) ?_
  refine km_Vv (wr := []) F (c_Prg_replace l Dg b k Gs1 (G 5 0) c n _ hP (hD.weaken (fun _ _ _ _ => trivial)) ⟨z + 1, by omega, by rw [hGs1]; show G 5 0 + 1 = _; rw [ez]; exact (nI_succ z).symm⟩ (by rw [ez]; exact vp_in_nI hz80 (by decide))) kx_K hK kw_Prg_46 tw2_82 tw2_83 (va_recv (ci := 2) (q0 := 0) hK hP rfl rfl) hP hD hS hA [0, 1, 2, 3, 4, 5] [] rfl rfl (by decide) (by decide) d_Prg_append_19 ⟨⟨by decide, by decide⟩, Nat.le_refl _, Nat.le_refl _⟩ rfl hl.1 rfl (Nat.le_of_ble_eq_true rfl) (fun H locs hP hD hS => ?_)
  have hP : va_P Dg classes (wP b k (sRepl Gs1 (G 5 0) c n)) H := hP
  have hD : va_D (va_A (wP b k G) s.heap.size) (wP b k (sRepl Gs1 (G 5 0) c n)) := hD
  obtain ⟨Gs2, hGs2⟩ : ∃ z, z = (sRepl Gs1 (G 5 0) c n) := ⟨_, rfl⟩
  rw [← hGs2] at hP hD
  refine lv_iload_n hx hb d_Prg_append_22 rfl (lv_at hl 0 rfl) ?_
  exact km_i F hlocks hret hP hD hS d_Prg_append_23 rfl (by subst hGs2 hGs1; rfl)

set_option maxRecDepth 100000 in
set_option maxHeartbeats 4000000 in
theorem c_Prg_factOf (l : Launch) (Dg : va_G) (b : Nat → Nat) (k : Nat → ClassId) (G : vSt) (q w : Int32) (H : Heap) (hP : va_P Dg classes (wP b k G) H) (hq : vp_in q 80) : kPu l y_Prg_factOf b_Prg_factOf 3 (some FieldType.int) 0 0 [.ref (b 0), .int q, .int w] H (va_K Dg classes (kTy k)) (sPFact G q w) := by
  refine k_of (by decide) (Nat.le_of_ble_eq_true rfl) ?_
  intro p e s m below meth cd ls F hlocks hret hname hh hX hl
  subst hh
  obtain ⟨hx, hb, hml, hown, hT⟩ := id F
  have hK : va_K Dg classes (kTy k) s := hX
  have hS : va_S (fun _ => False) s.heap s.heap [] := va_S.rf
  have hl : lv_has ls 3 [(0, .ref (b 0)), (1, .int q), (2, .int w)] := hl
  rcases sw_2 w with rfl | rfl | rfl | hsw
  · refine lv_iload_n hx hb d_Prg_factOf_0 rfl (lv_at hl 2 rfl) ?_
    refine lv_tableIn (x := 0) (off := 27) (tgt := 28) hx hb d_Prg_factOf_1 (by decide) (by decide) rfl (by decide) ?_
    refine lv_aload_n hx hb d_Prg_factOf_28 rfl (lv_at hl 0 rfl) ?_
    refine va_get (D := Dg) (ci := 2) (v := .ref (b 1)) (C := R_Prg) (T := F_Prg) (N := 7) hx hb hT in_Prg hown hK hP 0 rfl rfl 0 (by decide) (hT _ tw1_32) (fun _ h9 => h9) rfl d_Prg_factOf_29 ?_
    refine lv_iload_n hx hb d_Prg_factOf_32 rfl (lv_at hl 1 rfl) ?_
    refine va_iald (f := (G 0)) hx hb hK hP 1 0 rfl rfl hq d_Prg_factOf_33 ?_
    exact kp_i F hlocks hret hS d_Prg_factOf_34 rfl
  · refine lv_iload_n hx hb d_Prg_factOf_0 rfl (lv_at hl 2 rfl) ?_
    refine lv_tableIn (x := 1) (off := 34) (tgt := 35) hx hb d_Prg_factOf_1 (by decide) (by decide) rfl (by decide) ?_
    refine lv_aload_n hx hb d_Prg_factOf_35 rfl (lv_at hl 0 rfl) ?_
    refine va_get (D := Dg) (ci := 2) (v := .ref (b 2)) (C := R_Prg) (T := F_Prg) (N := 7) hx hb hT in_Prg hown hK hP 0 rfl rfl 1 (by decide) (hT _ tw1_34) (fun _ h9 => h9) rfl d_Prg_factOf_36 ?_
    refine lv_iload_n hx hb d_Prg_factOf_39 rfl (lv_at hl 1 rfl) ?_
    refine va_iald (f := (G 1)) hx hb hK hP 2 0 rfl rfl hq d_Prg_factOf_40 ?_
    exact kp_i F hlocks hret hS d_Prg_factOf_41 rfl
  · refine lv_iload_n hx hb d_Prg_factOf_0 rfl (lv_at hl 2 rfl) ?_
    refine lv_tableIn (x := 2) (off := 41) (tgt := 42) hx hb d_Prg_factOf_1 (by decide) (by decide) rfl (by decide) ?_
    refine lv_aload_n hx hb d_Prg_factOf_42 rfl (lv_at hl 0 rfl) ?_
    refine va_get (D := Dg) (ci := 2) (v := .ref (b 4)) (C := R_Prg) (T := F_Prg) (N := 7) hx hb hT in_Prg hown hK hP 0 rfl rfl 3 (by decide) (hT _ tw1_37) (fun _ h9 => h9) rfl d_Prg_factOf_43 ?_
    refine lv_iload_n hx hb d_Prg_factOf_46 rfl (lv_at hl 1 rfl) ?_
    refine va_iald (f := (G 3)) hx hb hK hP 4 0 rfl rfl hq d_Prg_factOf_47 ?_
    exact kp_i F hlocks hret hS d_Prg_factOf_48 rfl
  · refine lv_iload_n hx hb d_Prg_factOf_0 rfl (lv_at hl 2 rfl) ?_
    refine lv_tableOut (tgt := 49) hx hb d_Prg_factOf_1 hsw (by decide) ?_
    refine lv_aload_n hx hb d_Prg_factOf_49 rfl (lv_at hl 0 rfl) ?_
    refine va_get (D := Dg) (ci := 2) (v := .ref (b 3)) (C := R_Prg) (T := F_Prg) (N := 7) hx hb hT in_Prg hown hK hP 0 rfl rfl 2 (by decide) (hT _ tw1_36) (fun _ h9 => h9) rfl d_Prg_factOf_50 ?_
    refine lv_iload_n hx hb d_Prg_factOf_53 rfl (lv_at hl 1 rfl) ?_
    refine va_zald (f := (G 2)) hx hb hK hP 3 1 rfl rfl hq d_Prg_factOf_54 ?_
    refine lv_if_eq (tgt := 62) hx hb d_Prg_factOf_55 (by decide) (fun h55 => ?_) (fun h55 => ?_)
    · refine lv_iconst (v := 0) hx hb d_Prg_factOf_62 (by decide) ?_
      exact kp_i F hlocks hret hS d_Prg_factOf_63 (by unfold sPFact; rw [if_neg (ne_of_out hsw 0 (by decide) (by decide)), if_neg (ne_of_out hsw 1 (by decide) (by decide)), if_neg (ne_of_out hsw 2 (by decide) (by decide)), if_pos h55])
    · refine lv_iconst (v := 1) hx hb d_Prg_factOf_58 (by decide) ?_
      refine lv_goto (tgt := 63) hx hb d_Prg_factOf_59 (by decide) ?_
      exact kp_i F hlocks hret hS d_Prg_factOf_63 (by unfold sPFact; rw [if_neg (ne_of_out hsw 0 (by decide) (by decide)), if_neg (ne_of_out hsw 1 (by decide) (by decide)), if_neg (ne_of_out hsw 2 (by decide) (by decide)), if_neg h55])
end
section
theorem c_Row_letterOf (l : Launch) (Dg : va_G) (k : Nat → ClassId) (tL r i : Nat) (H : Heap) (hr : r < 20) (hi : i < 4) : kPu l y_Row_letterOf b_Row_letterOf 2 (some FieldType.int) 0 0 [.int (nI r), .int (nI i)] H (rX Dg k tL H) (rl (4 * r + i)) := by
  refine k_of (by decide) (Nat.le_of_ble_eq_true rfl) ?_
  intro p e s m below meth cd ls F hlocks hret hname hh hX hl
  subst hh
  obtain ⟨hx, hb, hml, hown, hT⟩ := id F
  have hS : va_S (fun _ => False) s.heap s.heap [] := va_S.rf
  have hl : lv_has ls 2 [(0, .int (nI r)), (1, .int (nI i))] := hl
  refine va_gets hx hb hX.2.1 hS hown (hT _ tw1_146) (fun _ h9 => h9) d_Row_letterOf_0 ?_
  refine lv_iload_n hx hb d_Row_letterOf_3 rfl (lv_at hl 0 rfl) ?_
  refine lv_iconst (v := 4) hx hb d_Row_letterOf_4 (by decide) ?_
  refine lv_imul hx hb d_Row_letterOf_5 ?_
  refine lv_iload_n hx hb d_Row_letterOf_6 rfl (lv_at hl 1 rfl) ?_
  refine lv_iadd hx hb d_Row_letterOf_7 ?_
  have e9 : nI r * 4 + nI i = nI (4 * r + i) := by rw [show (4 : Int32) = nI 4 from rfl, pk_mul, nI_add, Nat.mul_comm]
  rw [e9]
  refine va_tc (v := .int (rl (4 * r + i))) hx hb hX.2.2 hS (vp_in_nI (by omega) (by decide)) (by rw [nI_clamp (by omega)]) d_Row_letterOf_8 ?_
  exact kp_i F hlocks hret hS d_Row_letterOf_9 rfl

theorem c_Row_lengthOf (l : Launch) (Dg : va_G) (k : Nat → ClassId) (tL : Nat) (x : Int32) (H : Heap) (hx0 : ∃ r, r < 20 ∧ x = nI r) : kPu l y_Row_lengthOf b_Row_lengthOf 2 (some FieldType.int) 1 21 [.int x] H (rX Dg k tL H) (nI (rn x.toNatClampNeg)) := by
  obtain ⟨r, hr, rfl⟩ := hx0
  rw [nI_clamp (by omega)]
  refine k_of (by decide) (Nat.le_of_ble_eq_true rfl) ?_
  intro p e s m below meth cd ls F hlocks hret hname hh hX hl
  subst hh
  obtain ⟨hx, hb, hml, hown, hT⟩ := id F
  have hS : va_S (fun _ => False) s.heap s.heap [] := va_S.rf
  have hl : lv_has ls 2 [(0, .int (nI r))] := hl
  have h4 := rn_le r hr
  refine lv_iconst (v := 0) hx hb d_Row_lengthOf_0 (by decide) ?_
  refine lv_istore_n hx hb d_Row_lengthOf_1 rfl hl (by decide) rfl (fun ls hl => ?_)
  have hl : lv_has ls 2 [(1, .int (nI 0)), (0, .int (nI r))] := hl
  refine k_while (σ := Nat) (fun f i H locs ls => i + f = rn r ∧ H = s.heap ∧ lv_has ls 2 [(1, .int (nI i)), (0, .int (nI r))] ∧ va_S (fun _ => False) s.heap H locs) ?_ (rn r) 0 ⟨by omega, rfl, hl, hS⟩
  rintro f i H locs ls ⟨hif, rfl, hl, hS⟩ ih
  refine lv_iload_n hx hb d_Row_lengthOf_2 rfl (lv_at hl 0 rfl) ?_
  refine lv_iconst (v := 4) hx hb d_Row_lengthOf_3 (by decide) ?_
  refine lv_icmp_ge (tgt := 23) hx hb d_Row_lengthOf_4 (by decide) (fun h4' => ?_) (fun h4' => ?_)
  · have := (nI_leI (a := 4) (b := i) (by omega) (by omega)).mp h4'
    refine lv_iload_n hx hb d_Row_lengthOf_23 rfl (lv_at hl 0 rfl) ?_
    exact kp_i F hlocks hret hS d_Row_lengthOf_24 (by rw [show i = rn r by omega])
  · have hi4 : i < 4 := by
      rcases Nat.lt_or_ge i 4 with z | z
      · exact z
      · exact absurd (nI_le (a := 4) z (by omega)) h4'
    refine lv_iload_n hx hb d_Row_lengthOf_7 rfl (lv_at hl 1 rfl) ?_
    refine lv_iload_n hx hb d_Row_lengthOf_8 rfl (lv_at hl 0 rfl) ?_
    refine kp_S F (c_Row_letterOf l Dg k tL r i _ hr hi4) rX_m hX kw_Row_13 tw1_144 hS d_Row_lengthOf_9 ⟨⟨by decide, by decide⟩, Nat.le_refl _, Nat.le_refl _⟩ rfl hl.1 rfl (Nat.le_of_ble_eq_true rfl) (fun locs hS => ?_)
    refine lv_bipush (v := 32) hx hb d_Row_lengthOf_12 (by decide) ?_
    refine lv_icmp_eq (tgt := 23) hx hb d_Row_lengthOf_14 (by decide) (fun h14 => ?_) (fun h14 => ?_)
    · refine lv_iload_n hx hb d_Row_lengthOf_23 rfl (lv_at hl 0 rfl) ?_
      have hz : i = rn r := by
        rcases Nat.lt_or_ge i (rn r) with z | z
        · exact absurd h14 (rn_in r hr i z)
        · omega
      exact kp_i F hlocks hret hS d_Row_lengthOf_24 (by rw [hz])
    · have hz : i < rn r := by
        rcases Nat.lt_or_ge i (rn r) with z | z
        · exact z
        · have : i = rn r := by omega
          rw [this] at h14 hi4
          exact absurd (rn_out r hr hi4) h14
      refine lv_iinc (k := 0) (v := nI (i + 1)) hx hb d_Row_lengthOf_17 hl rfl (nI_succ _).symm (by decide) rfl (fun ls hl => ?_)
      refine lv_goto (tgt := 2) hx hb d_Row_lengthOf_20 (by decide) ?_
      exact ih (f - 1) (i + 1) _ locs ls (by omega) ⟨by omega, rfl, hl, hS⟩

set_option maxRecDepth 100000 in
set_option maxHeartbeats 4000000 in
theorem c_Prg_isRowAt (l : Launch) (Dg : va_G) (b : Nat → Nat) (k : Nat → ClassId) (G : vSt) (tL : Nat) (q r : Nat) (H : Heap) (hP : va_P Dg classes (wP b k G) H) (hp : pOk G) (hq : q < 80) (hr : r < 20) : kPu l y_Prg_isRowAt b_Prg_isRowAt 5 (some FieldType.boolean) 1 21 [.ref (b 0), .int (nI q), .int (nI r), .int (nI (rn r))] H (rX Dg k tL H) (sMt G q r) := by
  refine k_of (by decide) (Nat.le_of_ble_eq_true rfl) ?_
  intro p e s m below meth cd ls F hlocks hret hname hh hX hl
  subst hh
  obtain ⟨hx, hb, hml, hown, hT⟩ := id F
  have hK : va_K Dg classes (kTy k) s := hX.1
  have hS : va_S (fun _ => False) s.heap s.heap [] := va_S.rf
  have hl : lv_has ls 5 [(0, .ref (b 0)), (1, .int (nI q)), (2, .int (nI r)), (3, .int (nI (rn r)))] := hl
  obtain ⟨z, hz80, ez⟩ := hp
  have h4 := rn_le r hr
  refine lv_iload_n hx hb d_Prg_isRowAt_0 rfl (lv_at hl 1 rfl) ?_
  refine lv_iload_n hx hb d_Prg_isRowAt_1 rfl (lv_at hl 3 rfl) ?_
  refine lv_iadd hx hb d_Prg_isRowAt_2 ?_
  refine lv_aload_n hx hb d_Prg_isRowAt_3 rfl (lv_at hl 0 rfl) ?_
  refine va_get (D := Dg) (ci := 2) (v := .int (G 5 0)) (C := R_Prg) (T := F_Prg) (N := 7) hx hb hT in_Prg hown hK hP 0 rfl rfl 5 (by decide) (hT _ tw1_41) (fun _ h9 => h9) rfl d_Prg_isRowAt_4 ?_
  refine lv_icmp_le (tgt := 12) hx hb d_Prg_isRowAt_7 (by decide) (fun h7 => ?_) (fun h7 => ?_)
  · have hqr : q + rn r ≤ 80 := by rw [ez, nI_add] at h7; have := (nI_leI (by omega) (by omega)).mp h7; omega
    refine lv_iconst (v := 0) hx hb d_Prg_isRowAt_12 (by decide) ?_
    refine lv_istore hx hb d_Prg_isRowAt_13 hl (by decide) rfl (fun ls hl => ?_)
    have hl : lv_has ls 5 [(4, .int 0), (0, .ref (b 0)), (1, .int (nI q)), (2, .int (nI r)), (3, .int (nI (rn r)))] := hl
    refine k_while (σ := Nat) (fun f x H locs ls => x + f = rn r ∧ mtF G q r f x = mtF G q r (rn r) 0 ∧ H = s.heap ∧ lv_has ls 5 [(4, .int (nI x)), (0, .ref (b 0)), (1, .int (nI q)), (2, .int (nI r)), (3, .int (nI (rn r)))] ∧ va_S (fun _ => False) s.heap H locs) ?_ (rn r) 0 ⟨by omega, rfl, rfl, (lv_sub hl [0, 1, 2, 3, 4] rfl), hS⟩
    rintro f i H locs ls ⟨hif, hmt, rfl, hl, hS⟩ ih
    have hl : lv_has ls 5 [(4, .int (nI i)), (0, .ref (b 0)), (1, .int (nI q)), (2, .int (nI r)), (3, .int (nI (rn r)))] := hl
    refine lv_iload hx hb d_Prg_isRowAt_15 (lv_at hl 0 rfl) ?_
    refine lv_iload_n hx hb d_Prg_isRowAt_17 rfl (lv_at hl 4 rfl) ?_
    refine lv_icmp_ge (tgt := 66) hx hb d_Prg_isRowAt_18 (by decide) (fun h18 => ?_) (fun h18 => ?_)
    · refine lv_iconst (v := 1) hx hb d_Prg_isRowAt_66 (by decide) ?_
      exact kp_z F hlocks hret hS d_Prg_isRowAt_67 rfl (by unfold sMt; rw [if_pos h7, ← hmt, show f = 0 by have := (nI_leI (by omega) (by omega)).mp h18; omega]; rfl)
    · have hi : i < rn r := by rcases Nat.lt_or_ge i (rn r) with y | y; exact y; exact absurd (nI_le y (by omega)) h18
      obtain ⟨f, rfl⟩ : ∃ g, f = g + 1 := ⟨f - 1, by omega⟩
      have hin : vp_in (nI q + nI i) 80 := by rw [nI_add]; exact vp_in_nI (by omega) (by decide)
      have emt : mtF G q r (f + 1) i = (if G 0 (nI q + nI i).toNatClampNeg = rl (4 * r + i) then (if i = 0 then mtF G q r f (i + 1) else if G 2 (nI q + nI i).toNatClampNeg = 0 then mtF G q r f (i + 1) else 0) else 0) := rfl
      refine lv_aload_n hx hb d_Prg_isRowAt_21 rfl (lv_at hl 1 rfl) ?_
      refine va_get (D := Dg) (ci := 2) (v := .ref (b 1)) (C := R_Prg) (T := F_Prg) (N := 7) hx hb hT in_Prg hown hK hP 0 rfl rfl 0 (by decide) (hT _ tw1_32) (fun _ h9 => h9) rfl d_Prg_isRowAt_22 ?_
      refine lv_iload_n hx hb d_Prg_isRowAt_25 rfl (lv_at hl 2 rfl) ?_
      refine lv_iload hx hb d_Prg_isRowAt_26 (lv_at hl 0 rfl) ?_
      refine lv_iadd hx hb d_Prg_isRowAt_28 ?_
      refine va_iald (f := (G 0)) hx hb hK hP 1 0 rfl rfl hin d_Prg_isRowAt_29 ?_
      refine lv_iload_n hx hb d_Prg_isRowAt_30 rfl (lv_at hl 3 rfl) ?_
      refine lv_iload hx hb d_Prg_isRowAt_31 (lv_at hl 0 rfl) ?_
      refine kp_S F (c_Row_letterOf l Dg k tL r i _ hr (by omega)) rX_m hX kw_Prg_74 tw1_144 hS d_Prg_isRowAt_33 ⟨⟨by decide, by decide⟩, Nat.le_refl _, Nat.le_refl _⟩ rfl hl.1 rfl (Nat.le_of_ble_eq_true rfl) (fun locs hS => ?_)
      refine lv_icmp_eq (tgt := 41) hx hb d_Prg_isRowAt_36 (by decide) (fun h36 => ?_) (fun h36 => ?_)
      · refine lv_iload hx hb d_Prg_isRowAt_41 (lv_at hl 0 rfl) ?_
        refine lv_if_le (tgt := 60) hx hb d_Prg_isRowAt_43 (by decide) (fun h43 => ?_) (fun h43 => ?_)
        · refine lv_iinc (k := 0) (v := (nI (i + 1))) hx hb d_Prg_isRowAt_60 hl rfl (nI_succ _).symm (by decide) rfl (fun ls hl => ?_)
          have hl : lv_has ls 5 [(4, .int (nI (i + 1))), (0, .ref (b 0)), (1, .int (nI q)), (2, .int (nI r)), (3, .int (nI (rn r)))] := hl
          refine lv_goto (tgt := 15) hx hb d_Prg_isRowAt_63 (by decide) ?_
          exact ih f (i + 1) _ locs ls (by omega) ⟨by omega, by rw [← hmt, emt, if_pos h36, if_pos (show i = 0 by have := (nI_leI (b := 0) (by omega) (by decide)).mp h43; omega)], rfl, (lv_sub hl [0, 1, 2, 3, 4] rfl), hS⟩
        · refine lv_aload_n hx hb d_Prg_isRowAt_46 rfl (lv_at hl 1 rfl) ?_
          refine va_get (D := Dg) (ci := 2) (v := .ref (b 3)) (C := R_Prg) (T := F_Prg) (N := 7) hx hb hT in_Prg hown hK hP 0 rfl rfl 2 (by decide) (hT _ tw1_36) (fun _ h9 => h9) rfl d_Prg_isRowAt_47 ?_
          refine lv_iload_n hx hb d_Prg_isRowAt_50 rfl (lv_at hl 2 rfl) ?_
          refine lv_iload hx hb d_Prg_isRowAt_51 (lv_at hl 0 rfl) ?_
          refine lv_iadd hx hb d_Prg_isRowAt_53 ?_
          refine va_zald (f := (G 2)) hx hb hK hP 3 1 rfl rfl hin d_Prg_isRowAt_54 ?_
          refine lv_if_eq (tgt := 60) hx hb d_Prg_isRowAt_55 (by decide) (fun h55 => ?_) (fun h55 => ?_)
          · refine lv_iinc (k := 0) (v := (nI (i + 1))) hx hb d_Prg_isRowAt_60 hl rfl (nI_succ _).symm (by decide) rfl (fun ls hl => ?_)
            have hl : lv_has ls 5 [(4, .int (nI (i + 1))), (0, .ref (b 0)), (1, .int (nI q)), (2, .int (nI r)), (3, .int (nI (rn r)))] := hl
            refine lv_goto (tgt := 15) hx hb d_Prg_isRowAt_63 (by decide) ?_
            exact ih f (i + 1) _ locs ls (by omega) ⟨by omega, by rw [← hmt, emt, if_pos h36, if_neg (fun y => h43 (by rw [y]; decide)), if_pos h55], rfl, (lv_sub hl [0, 1, 2, 3, 4] rfl), hS⟩
          · refine lv_iconst (v := 0) hx hb d_Prg_isRowAt_58 (by decide) ?_
            exact kp_z F hlocks hret hS d_Prg_isRowAt_59 rfl (by unfold sMt; rw [if_pos h7, ← hmt, emt, if_pos h36, if_neg (fun y => h43 (by rw [y]; decide)), if_neg h55])
      · refine lv_iconst (v := 0) hx hb d_Prg_isRowAt_39 (by decide) ?_
        exact kp_z F hlocks hret hS d_Prg_isRowAt_40 rfl (by unfold sMt; rw [if_pos h7, ← hmt, emt, if_neg h36])
  · refine lv_iconst (v := 0) hx hb d_Prg_isRowAt_10 (by decide) ?_
    exact kp_z F hlocks hret hS d_Prg_isRowAt_11 rfl (by unfold sMt; rw [if_neg h7])

set_option maxRecDepth 100000 in
set_option maxHeartbeats 4000000 in
theorem c_Prg_longestRowAt (l : Launch) (Dg : va_G) (b : Nat → Nat) (k : Nat → ClassId) (G : vSt) (tL : Nat) (q : Nat) (H : Heap) (hP : va_P Dg classes (wP b k G) H) (hp : pOk G) (hq : q < 80) : kPu l y_Prg_longestRowAt b_Prg_longestRowAt 6 (some FieldType.int) 2 45 [.ref (b 0), .int (nI q)] H (rX Dg k tL H) (sLong G q) := by
  refine k_of (by decide) (Nat.le_of_ble_eq_true rfl) ?_
  intro p e s m below meth cd ls F hlocks hret hname hh hX hl
  subst hh
  obtain ⟨hx, hb, hml, hown, hT⟩ := id F
  have hK : va_K Dg classes (kTy k) s := hX.1
  have hS : va_S (fun _ => False) s.heap s.heap [] := va_S.rf
  have hl : lv_has ls 6 [(0, .ref (b 0)), (1, .int (nI q))] := hl
  refine lv_iconst (v := (-1)) hx hb d_Prg_longestRowAt_0 (by decide) ?_
  refine lv_istore_n hx hb d_Prg_longestRowAt_1 rfl hl (by decide) rfl (fun ls hl => ?_)
  have hl : lv_has ls 6 [(2, .int (-1)), (0, .ref (b 0)), (1, .int (nI q))] := hl
  refine lv_iconst (v := 0) hx hb d_Prg_longestRowAt_2 (by decide) ?_
  refine lv_istore_n hx hb d_Prg_longestRowAt_3 rfl hl (by decide) rfl (fun ls hl => ?_)
  have hl : lv_has ls 6 [(3, .int 0), (2, .int (-1)), (0, .ref (b 0)), (1, .int (nI q))] := hl
  refine lv_iconst (v := 0) hx hb d_Prg_longestRowAt_4 (by decide) ?_
  refine lv_istore hx hb d_Prg_longestRowAt_5 hl (by decide) rfl (fun ls hl => ?_)
  have hl : lv_has ls 6 [(4, .int 0), (3, .int 0), (2, .int (-1)), (0, .ref (b 0)), (1, .int (nI q))] := hl
  refine k_while (σ := Nat × Int32 × Int32) (fun f x H locs ls => x.1 + f = 20 ∧ lgF G q f x.1 x.2.1 x.2.2 = sLong G q ∧ H = s.heap ∧ lv_has ls 6 [(4, .int (nI x.1)), (3, .int x.2.2), (2, .int x.2.1), (0, .ref (b 0)), (1, .int (nI q))] ∧ va_S (fun _ => False) s.heap H locs) ?_ 20 (0, -1, 0) ⟨rfl, rfl, rfl, (lv_sub hl [0, 1, 2, 3, 4] rfl), hS⟩
  rintro f ⟨r, best, bl⟩ H locs ls ⟨hif, hlg, rfl, hl, hS⟩ ih
  have hl : lv_has ls 6 [(4, .int (nI r)), (3, .int bl), (2, .int best), (0, .ref (b 0)), (1, .int (nI q))] := hl
  have hif : r + f = 20 := hif
  have hlg : lgF G q f r best bl = sLong G q := hlg
  refine lv_iload hx hb d_Prg_longestRowAt_7 (lv_at hl 0 rfl) ?_
  refine lv_bipush (v := 20) hx hb d_Prg_longestRowAt_9 (by decide) ?_
  refine lv_icmp_ge (tgt := 66) hx hb d_Prg_longestRowAt_11 (by decide) (fun h11 => ?_) (fun h11 => ?_)
  · refine lv_iload_n hx hb d_Prg_longestRowAt_66 rfl (lv_at hl 2 rfl) ?_
    exact kp_i F hlocks hret hS d_Prg_longestRowAt_67 (by rw [← hlg, show f = 0 by have := (nI_leI (a := 20) (by decide) (by omega)).mp h11; omega]; rfl)
  · have hr : r < 20 := by rcases Nat.lt_or_ge r 20 with y | y; exact y; exact absurd (nI_le (a := 20) y (by omega)) h11
    obtain ⟨f, rfl⟩ : ∃ g, f = g + 1 := ⟨f - 1, by omega⟩
    have elg : lgF G q (f + 1) r best bl = (if rl (4 * r + 0) = G 0 (nI q).toNatClampNeg then (if nI (rn r) ≤ bl then lgF G q f (r + 1) best bl else if sMt G q r = 0 then lgF G q f (r + 1) best bl else lgF G q f (r + 1) (nI r) (nI (rn r))) else lgF G q f (r + 1) best bl) := rfl
    refine lv_iload hx hb d_Prg_longestRowAt_14 (lv_at hl 0 rfl) ?_
    refine lv_iconst (v := 0) hx hb d_Prg_longestRowAt_16 (by decide) ?_
    refine kp_S F (c_Row_letterOf l Dg k tL r 0 _ hr (by decide)) rX_m hX kw_Prg_74 tw1_144 hS d_Prg_longestRowAt_17 ⟨⟨by decide, by decide⟩, Nat.le_refl _, Nat.le_refl _⟩ rfl hl.1 rfl (Nat.le_of_ble_eq_true rfl) (fun locs hS => ?_)
    refine lv_aload_n hx hb d_Prg_longestRowAt_20 rfl (lv_at hl 3 rfl) ?_
    refine va_get (D := Dg) (ci := 2) (v := .ref (b 1)) (C := R_Prg) (T := F_Prg) (N := 7) hx hb hT in_Prg hown hK hP 0 rfl rfl 0 (by decide) (hT _ tw1_32) (fun _ h9 => h9) rfl d_Prg_longestRowAt_21 ?_
    refine lv_iload_n hx hb d_Prg_longestRowAt_24 rfl (lv_at hl 4 rfl) ?_
    refine va_iald (f := (G 0)) hx hb hK hP 1 0 rfl rfl (vp_in_nI hq (by decide)) d_Prg_longestRowAt_25 ?_
    refine lv_icmp_ne (tgt := 60) hx hb d_Prg_longestRowAt_26 (by decide) (fun h26 => ?_) (fun h26 => ?_)
    · refine lv_iinc (k := 0) (v := (nI (r + 1))) hx hb d_Prg_longestRowAt_60 hl rfl (nI_succ _).symm (by decide) rfl (fun ls hl => ?_)
      have hl : lv_has ls 6 [(4, .int (nI (r + 1))), (3, .int bl), (2, .int best), (0, .ref (b 0)), (1, .int (nI q))] := hl
      refine lv_goto (tgt := 7) hx hb d_Prg_longestRowAt_63 (by decide) ?_
      exact ih f (r + 1, best, bl) _ locs ls (by omega) ⟨by show r + 1 + f = 20; omega, by show lgF G q f (r + 1) best bl = _; rw [← hlg, elg, if_neg h26], rfl, (lv_sub hl [0, 1, 2, 3, 4] rfl), hS⟩
    · refine lv_iload hx hb d_Prg_longestRowAt_29 (lv_at hl 0 rfl) ?_
      refine kp_S F (c_Row_lengthOf l Dg k tL (nI r) _ ⟨r, hr, rfl⟩) rX_m hX kw_Prg_69 tw1_149 hS d_Prg_longestRowAt_31 ⟨⟨by decide, by decide⟩, Nat.le_refl _, Nat.le_refl _⟩ rfl hl.1 rfl (Nat.le_of_ble_eq_true rfl) (fun locs hS => ?_)
      rw [nI_clamp (show r < 2 ^ 31 by omega)]
      refine lv_istore hx hb d_Prg_longestRowAt_34 hl (by decide) rfl (fun ls hl => ?_)
      have hl : lv_has ls 6 [(5, .int (nI (rn r))), (4, .int (nI r)), (3, .int bl), (2, .int best), (0, .ref (b 0)), (1, .int (nI q))] := hl
      refine lv_iload hx hb d_Prg_longestRowAt_36 (lv_at hl 0 rfl) ?_
      refine lv_iload_n hx hb d_Prg_longestRowAt_38 rfl (lv_at hl 2 rfl) ?_
      refine lv_icmp_le (tgt := 60) hx hb d_Prg_longestRowAt_39 (by decide) (fun h39 => ?_) (fun h39 => ?_)
      · refine lv_iinc (k := 1) (v := (nI (r + 1))) hx hb d_Prg_longestRowAt_60 hl rfl (nI_succ _).symm (by decide) rfl (fun ls hl => ?_)
        have hl : lv_has ls 6 [(4, .int (nI (r + 1))), (5, .int (nI (rn r))), (3, .int bl), (2, .int best), (0, .ref (b 0)), (1, .int (nI q))] := hl
        refine lv_goto (tgt := 7) hx hb d_Prg_longestRowAt_63 (by decide) ?_
        exact ih f (r + 1, best, bl) _ locs ls (by omega) ⟨by show r + 1 + f = 20; omega, by show lgF G q f (r + 1) best bl = _; rw [← hlg, elg, if_pos h26, if_pos h39], rfl, (lv_sub hl [0, 2, 3, 4, 5] rfl), hS⟩
      · refine lv_aload_n hx hb d_Prg_longestRowAt_42 rfl (lv_at hl 4 rfl) ?_
        refine lv_iload_n hx hb d_Prg_longestRowAt_43 rfl (lv_at hl 5 rfl) ?_
        refine lv_iload hx hb d_Prg_longestRowAt_44 (lv_at hl 1 rfl) ?_
        refine lv_iload hx hb d_Prg_longestRowAt_46 (lv_at hl 0 rfl) ?_
        refine kp_V F (c_Prg_isRowAt l Dg b k G tL q r _ hP hp hq hr) rX_m hX kw_Prg_78 tw1_154 ts_2 (va_recv (ci := 2) (q0 := 0) hK hP rfl rfl) hS d_Prg_longestRowAt_48 ⟨⟨by decide, by decide⟩, Nat.le_refl _, Nat.le_refl _⟩ rfl hl.1 rfl (Nat.le_of_ble_eq_true rfl) (fun locs hS => ?_)
        refine lv_if_eq (tgt := 60) hx hb d_Prg_longestRowAt_51 (by decide) (fun h51 => ?_) (fun h51 => ?_)
        · refine lv_iinc (k := 1) (v := (nI (r + 1))) hx hb d_Prg_longestRowAt_60 hl rfl (nI_succ _).symm (by decide) rfl (fun ls hl => ?_)
          have hl : lv_has ls 6 [(4, .int (nI (r + 1))), (5, .int (nI (rn r))), (3, .int bl), (2, .int best), (0, .ref (b 0)), (1, .int (nI q))] := hl
          refine lv_goto (tgt := 7) hx hb d_Prg_longestRowAt_63 (by decide) ?_
          exact ih f (r + 1, best, bl) _ locs ls (by omega) ⟨by show r + 1 + f = 20; omega, by show lgF G q f (r + 1) best bl = _; rw [← hlg, elg, if_pos h26, if_neg h39, if_pos h51], rfl, (lv_sub hl [0, 2, 3, 4, 5] rfl), hS⟩
        · refine lv_iload hx hb d_Prg_longestRowAt_54 (lv_at hl 1 rfl) ?_
          refine lv_istore_n hx hb d_Prg_longestRowAt_56 rfl hl (by decide) rfl (fun ls hl => ?_)
          have hl : lv_has ls 6 [(2, .int (nI r)), (5, .int (nI (rn r))), (4, .int (nI r)), (3, .int bl), (0, .ref (b 0)), (1, .int (nI q))] := hl
          refine lv_iload hx hb d_Prg_longestRowAt_57 (lv_at hl 1 rfl) ?_
          refine lv_istore_n hx hb d_Prg_longestRowAt_59 rfl hl (by decide) rfl (fun ls hl => ?_)
          have hl : lv_has ls 6 [(3, .int (nI (rn r))), (2, .int (nI r)), (5, .int (nI (rn r))), (4, .int (nI r)), (0, .ref (b 0)), (1, .int (nI q))] := hl
          refine lv_iinc (k := 3) (v := (nI (r + 1))) hx hb d_Prg_longestRowAt_60 hl rfl (nI_succ _).symm (by decide) rfl (fun ls hl => ?_)
          have hl : lv_has ls 6 [(4, .int (nI (r + 1))), (3, .int (nI (rn r))), (2, .int (nI r)), (5, .int (nI (rn r))), (0, .ref (b 0)), (1, .int (nI q))] := hl
          refine lv_goto (tgt := 7) hx hb d_Prg_longestRowAt_63 (by decide) ?_
          exact ih f (r + 1, (nI r), (nI (rn r))) _ locs ls (by omega) ⟨by show r + 1 + f = 20; omega, by show lgF G q f (r + 1) (nI r) (nI (rn r)) = _; rw [← hlg, elg, if_pos h26, if_neg h39, if_neg h51], rfl, (lv_sub hl [0, 1, 2, 4, 5] rfl), hS⟩

set_option maxRecDepth 100000 in
set_option maxHeartbeats 4000000 in
theorem c_Prg_fuseRows (l : Launch) (Dg : va_G) (b : Nat → Nat) (k : Nat → ClassId) (G : vSt) (tL : Nat) (H : Heap) (hP : va_P Dg classes (wP b k G) H) (hD : va_D (fun _ => True) (wP b k G)) (hp : pOk G) : kMi l y_Prg_fuseRows b_Prg_fuseRows 5 (some FieldType.int) 3 70 [.ref (b 0)] H (fun U => va_K Dg classes (kTy k) U ∧ rlX (va_A (wP b k G) H.size) tL H U) Dg (wP b k G) (wP b k (sFuM G)) (sFuR G) := by
  refine k_of (by decide) (Nat.le_of_ble_eq_true rfl) ?_
  intro p e s m below meth cd ls F hlocks hret hname hh hX hl
  subst hh
  obtain ⟨hx, hb, hml, hown, hT⟩ := id F
  have hK : va_K Dg classes (kTy k) s := hX.1
  have hA : ∀ q : Nat, s.heap.size ≤ q → va_A (wP b k G) s.heap.size q := fun q h => Or.inr h
  have hD := hD.self (sz := s.heap.size)
  have hS : va_S (va_A (wP b k G) s.heap.size) s.heap s.heap [] := va_S.rf
  have hl : lv_has ls 5 [(0, .ref (b 0))] := hl
  obtain ⟨z, hz80, ez⟩ := hp
  have efu : (sFuS G (G 5 0).toNatClampNeg) = sFuS G z := by rw [ez, nI_clamp (by omega)]
  refine lv_iconst (v := 0) hx hb d_Prg_fuseRows_0 (by decide) ?_
  refine lv_istore_n hx hb d_Prg_fuseRows_1 rfl hl (by decide) rfl (fun ls hl => ?_)
  have hl : lv_has ls 5 [(1, .int 0), (0, .ref (b 0))] := hl
  refine lv_iconst (v := 0) hx hb d_Prg_fuseRows_2 (by decide) ?_
  refine lv_istore_n hx hb d_Prg_fuseRows_3 rfl hl (by decide) rfl (fun ls hl => ?_)
  have hl : lv_has ls 5 [(2, .int 0), (1, .int 0), (0, .ref (b 0))] := hl
  refine lv_iconst (v := 0) hx hb d_Prg_fuseRows_4 (by decide) ?_
  refine lv_istore_n hx hb d_Prg_fuseRows_5 rfl hl (by decide) rfl (fun ls hl => ?_)
  have hl : lv_has ls 5 [(3, .int 0), (2, .int 0), (1, .int 0), (0, .ref (b 0))] := hl
  refine k_while (σ := Nat × vSt × Int32 × Int32) (fun f x H locs ls => x.1 + f = z ∧ x.2 = sFuS G x.1 ∧ lv_has ls 5 [(3, .int (nI x.1)), (2, .int x.2.2.2), (1, .int x.2.2.1), (0, .ref (b 0))] ∧ va_P Dg classes (wP b k x.2.1) H ∧ va_D (va_A (wP b k G) s.heap.size) (wP b k x.2.1) ∧ va_S (va_A (wP b k G) s.heap.size) s.heap H locs) ?_ z (0, G, 0, 0) ⟨by show 0 + z = z; omega, rfl, (lv_sub hl [0, 1, 2, 3] rfl), hP, hD, hS⟩
  rintro f ⟨i, Gi, cn, wi⟩ H locs ls ⟨hif, hGi, hl, hP, hD, hS⟩ ih
  have hl : lv_has ls 5 [(3, .int (nI i)), (2, .int wi), (1, .int cn), (0, .ref (b 0))] := hl
  have hP : va_P Dg classes (wP b k Gi) H := hP
  have hD : va_D (va_A (wP b k G) s.heap.size) (wP b k Gi) := hD
  have hif : i + f = z := hif
  have hGi : (Gi, cn, wi) = sFuS G i := hGi
  have hG1 : Gi = (sFuS G i).1 := congrArg Prod.fst hGi
  have hsz : Gi 5 0 = nI z := by rw [hG1, sFuS_5]; exact ez
  refine lv_iload_n hx hb d_Prg_fuseRows_6 rfl (lv_at hl 0 rfl) ?_
  refine lv_aload_n hx hb d_Prg_fuseRows_7 rfl (lv_at hl 3 rfl) ?_
  refine va_get (D := Dg) (ci := 2) (v := .int (Gi 5 0)) (C := R_Prg) (T := F_Prg) (N := 7) hx hb hT in_Prg hown hK hP 0 rfl rfl 5 (by decide) (hT _ tw1_41) (fun _ h9 => h9) rfl d_Prg_fuseRows_8 ?_
  refine lv_icmp_ge (tgt := 93) hx hb d_Prg_fuseRows_11 (by decide) (fun h11 => ?_) (fun h11 => ?_)
  · have hiz : i = z := by have := (nI_leI (by omega) (by omega)).mp (hsz ▸ h11); omega
    refine lv_aload_n hx hb d_Prg_fuseRows_93 rfl (lv_at hl 3 rfl) ?_
    refine lv_iconst (v := 1) hx hb d_Prg_fuseRows_94 (by decide) ?_
    refine va_put (D := Dg) (ci := 2) (v := .int 1) (ty := .boolean) (C := R_Prg) (T := F_Prg) (N := 7) hx hb hT in_Prg t_Prg t_Prg_ok n_Prg hown hK hP hD hS 0 rfl rfl 6 (by decide) (hT _ tw1_42) (fun _ h9 => h9) rfl (by decide +kernel) rfl rfl (Nat.le_of_ble_eq_true rfl) d_Prg_fuseRows_95 (fun H locs hP hD hS => ?_)
    have hP : va_P Dg classes (wP b k (u2 Gi 5 1 1)) H := hP
    have hD : va_D (va_A (wP b k G) s.heap.size) (wP b k (u2 Gi 5 1 1)) := hD
    obtain ⟨Gs1, hGs1⟩ : ∃ z, z = (u2 Gi 5 1 1) := ⟨_, rfl⟩
    rw [← hGs1] at hP hD
    refine lv_iload_n hx hb d_Prg_fuseRows_98 rfl (lv_at hl 2 rfl) ?_
    exact km_i F hlocks hret hP hD hS d_Prg_fuseRows_99 (by unfold sFuR; rw [efu, ← hiz, ← hGi]) (by subst hGs1; unfold sFuM; rw [efu, ← hiz, ← hGi])
  · have hi : i < z := by rcases Nat.lt_or_ge i z with y | y; exact y; exact absurd (by rw [hsz]; exact nI_le y (by omega)) h11
    obtain ⟨f, rfl⟩ : ∃ g, f = g + 1 := ⟨f - 1, by omega⟩
    have hin : vp_in (nI i) 80 := vp_in_nI (by omega) (by decide)
    refine lv_iload_n hx hb d_Prg_fuseRows_14 rfl (lv_at hl 1 rfl) ?_
    refine lv_if_le (tgt := 39) hx hb d_Prg_fuseRows_15 (by decide) (fun h15 => ?_) (fun h15 => ?_)
    · refine lv_aload_n hx hb d_Prg_fuseRows_39 rfl (lv_at hl 3 rfl) ?_
      refine lv_iload_n hx hb d_Prg_fuseRows_40 rfl (lv_at hl 0 rfl) ?_
      refine kp_V F (c_Prg_longestRowAt l Dg b k Gi tL i _ hP ⟨z, hz80, hsz⟩ (by omega)) rX_m ⟨hK, (hX.2.kept hS.2.1).narrow (fun _ h => h.elim)⟩ kw_Prg_65 tw1_141 ts_1 (va_recv (ci := 2) (q0 := 0) hK hP rfl rfl) hS d_Prg_fuseRows_41 ⟨⟨by decide, by decide⟩, Nat.le_refl _, Nat.le_refl _⟩ rfl hl.1 rfl (Nat.le_of_ble_eq_true rfl) (fun locs hS => ?_)
      refine lv_istore hx hb d_Prg_fuseRows_44 hl (by decide) rfl (fun ls hl => ?_)
      have hl : lv_has ls 5 [(4, .int (sLong Gi i)), (3, .int (nI i)), (2, .int wi), (1, .int cn), (0, .ref (b 0))] := hl
      refine lv_aload_n hx hb d_Prg_fuseRows_46 rfl (lv_at hl 4 rfl) ?_
      refine va_get (D := Dg) (ci := 2) (v := .ref (b 4)) (C := R_Prg) (T := F_Prg) (N := 7) hx hb hT in_Prg hown hK hP 0 rfl rfl 3 (by decide) (hT _ tw1_37) (fun _ h9 => h9) rfl d_Prg_fuseRows_47 ?_
      refine lv_iload_n hx hb d_Prg_fuseRows_50 rfl (lv_at hl 1 rfl) ?_
      refine lv_iload hx hb d_Prg_fuseRows_51 (lv_at hl 0 rfl) ?_
      refine va_iast hx hb hK hP hD hS 4 0 rfl rfl hin d_Prg_fuseRows_53 (fun H locs hP hD hS => ?_)
      have hP : va_P Dg classes (wP b k (u2 Gi 3 (nI i).toNatClampNeg (sLong Gi i))) H := hP
      have hD : va_D (va_A (wP b k G) s.heap.size) (wP b k (u2 Gi 3 (nI i).toNatClampNeg (sLong Gi i))) := hD
      obtain ⟨Gs2, hGs2⟩ : ∃ z, z = (u2 Gi 3 (nI i).toNatClampNeg (sLong Gi i)) := ⟨_, rfl⟩
      rw [← hGs2] at hP hD
      refine lv_aload_n hx hb d_Prg_fuseRows_54 rfl (lv_at hl 4 rfl) ?_
      refine va_get (D := Dg) (ci := 2) (v := .ref (b 5)) (C := R_Prg) (T := F_Prg) (N := 7) hx hb hT in_Prg hown hK hP 0 rfl rfl 4 (by decide) (hT _ tw1_38) (fun _ h9 => h9) rfl d_Prg_fuseRows_55 ?_
      refine lv_iload_n hx hb d_Prg_fuseRows_58 rfl (lv_at hl 1 rfl) ?_
      refine lv_iload hx hb d_Prg_fuseRows_59 (lv_at hl 0 rfl) ?_
      refine lv_iconst (v := (-1)) hx hb d_Prg_fuseRows_61 (by decide) ?_
      refine lv_icmp_ne (tgt := 69) hx hb d_Prg_fuseRows_62 (by decide) (fun h62 => ?_) (fun h62 => ?_)
      · refine lv_iload hx hb d_Prg_fuseRows_69 (lv_at hl 0 rfl) ?_
        refine kp_S F (c_Row_lengthOf l Dg k tL (sLong Gi i) _ ((sLong_or Gi i).resolve_left h62)) rX_m ⟨hK, (hX.2.kept hS.2.1).narrow (fun _ h => h.elim)⟩ kw_Prg_69 tw1_149 hS d_Prg_fuseRows_71 ⟨⟨by decide, by decide⟩, Nat.le_refl _, Nat.le_refl _⟩ rfl hl.1 rfl (Nat.le_of_ble_eq_true rfl) (fun locs hS => ?_)
        refine va_iast hx hb hK hP hD hS 5 0 rfl rfl hin d_Prg_fuseRows_74 (fun H locs hP hD hS => ?_)
        have hP : va_P Dg classes (wP b k (u2 Gs2 4 (nI i).toNatClampNeg (nI (rn (sLong Gi i).toNatClampNeg)))) H := hP
        have hD : va_D (va_A (wP b k G) s.heap.size) (wP b k (u2 Gs2 4 (nI i).toNatClampNeg (nI (rn (sLong Gi i).toNatClampNeg)))) := hD
        obtain ⟨Gs3, hGs3⟩ : ∃ z, z = (u2 Gs2 4 (nI i).toNatClampNeg (nI (rn (sLong Gi i).toNatClampNeg))) := ⟨_, rfl⟩
        rw [← hGs3] at hP hD
        refine lv_aload_n hx hb d_Prg_fuseRows_75 rfl (lv_at hl 4 rfl) ?_
        refine va_get (D := Dg) (ci := 2) (v := .ref (b 5)) (C := R_Prg) (T := F_Prg) (N := 7) hx hb hT in_Prg hown hK hP 0 rfl rfl 4 (by decide) (hT _ tw1_38) (fun _ h9 => h9) rfl d_Prg_fuseRows_76 ?_
        refine lv_iload_n hx hb d_Prg_fuseRows_79 rfl (lv_at hl 1 rfl) ?_
        refine va_iald (f := (Gs3 4)) hx hb hK hP 5 0 rfl rfl hin d_Prg_fuseRows_80 ?_
        refine lv_iconst (v := 1) hx hb d_Prg_fuseRows_81 (by decide) ?_
        refine lv_isub hx hb d_Prg_fuseRows_82 ?_
        refine lv_istore_n hx hb d_Prg_fuseRows_83 rfl hl (by decide) rfl (fun ls hl => ?_)
        have hl : lv_has ls 5 [(2, .int (((Gs3 4) (nI i).toNatClampNeg) - 1)), (4, .int (sLong Gi i)), (3, .int (nI i)), (1, .int cn), (0, .ref (b 0))] := hl
        refine lv_iinc (k := 3) (v := (cn + 1)) hx hb d_Prg_fuseRows_84 hl rfl rfl (by decide) rfl (fun ls hl => ?_)
        have hl : lv_has ls 5 [(1, .int (cn + 1)), (2, .int (((Gs3 4) (nI i).toNatClampNeg) - 1)), (4, .int (sLong Gi i)), (3, .int (nI i)), (0, .ref (b 0))] := hl
        refine lv_iinc (k := 3) (v := (nI (i + 1))) hx hb d_Prg_fuseRows_87 hl rfl (nI_succ _).symm (by decide) rfl (fun ls hl => ?_)
        have hl : lv_has ls 5 [(3, .int (nI (i + 1))), (1, .int (cn + 1)), (2, .int (((Gs3 4) (nI i).toNatClampNeg) - 1)), (4, .int (sLong Gi i)), (0, .ref (b 0))] := hl
        refine lv_goto (tgt := 6) hx hb d_Prg_fuseRows_90 (by decide) ?_
        exact ih f (i + 1, Gs3, (cn + 1), (((Gs3 4) (nI i).toNatClampNeg) - 1)) H locs ls (by omega) ⟨by show i + 1 + f = z; omega, by show (Gs3, (cn + 1), (((Gs3 4) (nI i).toNatClampNeg) - 1)) = sFu1 (sFuS G i) i; rw [← hGi]; clear hP hD; subst hGs3 hGs2; unfold sFu1; rw [if_pos h15]; unfold sFl; rw [if_neg h62], (lv_sub hl [0, 2, 1, 4] rfl), hP, hD, hS⟩
      · refine lv_iconst (v := 1) hx hb d_Prg_fuseRows_65 (by decide) ?_
        refine lv_goto (tgt := 74) hx hb d_Prg_fuseRows_66 (by decide) ?_
        refine va_iast hx hb hK hP hD hS 5 0 rfl rfl hin d_Prg_fuseRows_74 (fun H locs hP hD hS => ?_)
        have hP : va_P Dg classes (wP b k (u2 Gs2 4 (nI i).toNatClampNeg 1)) H := hP
        have hD : va_D (va_A (wP b k G) s.heap.size) (wP b k (u2 Gs2 4 (nI i).toNatClampNeg 1)) := hD
        obtain ⟨Gs4, hGs4⟩ : ∃ z, z = (u2 Gs2 4 (nI i).toNatClampNeg 1) := ⟨_, rfl⟩
        rw [← hGs4] at hP hD
        refine lv_aload_n hx hb d_Prg_fuseRows_75 rfl (lv_at hl 4 rfl) ?_
        refine va_get (D := Dg) (ci := 2) (v := .ref (b 5)) (C := R_Prg) (T := F_Prg) (N := 7) hx hb hT in_Prg hown hK hP 0 rfl rfl 4 (by decide) (hT _ tw1_38) (fun _ h9 => h9) rfl d_Prg_fuseRows_76 ?_
        refine lv_iload_n hx hb d_Prg_fuseRows_79 rfl (lv_at hl 1 rfl) ?_
        refine va_iald (f := (Gs4 4)) hx hb hK hP 5 0 rfl rfl hin d_Prg_fuseRows_80 ?_
        refine lv_iconst (v := 1) hx hb d_Prg_fuseRows_81 (by decide) ?_
        refine lv_isub hx hb d_Prg_fuseRows_82 ?_
        refine lv_istore_n hx hb d_Prg_fuseRows_83 rfl hl (by decide) rfl (fun ls hl => ?_)
        have hl : lv_has ls 5 [(2, .int (((Gs4 4) (nI i).toNatClampNeg) - 1)), (4, .int (sLong Gi i)), (3, .int (nI i)), (1, .int cn), (0, .ref (b 0))] := hl
        refine lv_iinc (k := 3) (v := (cn + 1)) hx hb d_Prg_fuseRows_84 hl rfl rfl (by decide) rfl (fun ls hl => ?_)
        have hl : lv_has ls 5 [(1, .int (cn + 1)), (2, .int (((Gs4 4) (nI i).toNatClampNeg) - 1)), (4, .int (sLong Gi i)), (3, .int (nI i)), (0, .ref (b 0))] := hl
        refine lv_iinc (k := 3) (v := (nI (i + 1))) hx hb d_Prg_fuseRows_87 hl rfl (nI_succ _).symm (by decide) rfl (fun ls hl => ?_)
        have hl : lv_has ls 5 [(3, .int (nI (i + 1))), (1, .int (cn + 1)), (2, .int (((Gs4 4) (nI i).toNatClampNeg) - 1)), (4, .int (sLong Gi i)), (0, .ref (b 0))] := hl
        refine lv_goto (tgt := 6) hx hb d_Prg_fuseRows_90 (by decide) ?_
        exact ih f (i + 1, Gs4, (cn + 1), (((Gs4 4) (nI i).toNatClampNeg) - 1)) H locs ls (by omega) ⟨by show i + 1 + f = z; omega, by show (Gs4, (cn + 1), (((Gs4 4) (nI i).toNatClampNeg) - 1)) = sFu1 (sFuS G i) i; rw [← hGi]; clear hP hD; subst hGs4 hGs2; unfold sFu1; rw [if_pos h15]; unfold sFl; rw [if_pos h62], (lv_sub hl [0, 2, 1, 4] rfl), hP, hD, hS⟩
    · refine lv_aload_n hx hb d_Prg_fuseRows_18 rfl (lv_at hl 3 rfl) ?_
      refine va_get (D := Dg) (ci := 2) (v := .ref (b 4)) (C := R_Prg) (T := F_Prg) (N := 7) hx hb hT in_Prg hown hK hP 0 rfl rfl 3 (by decide) (hT _ tw1_37) (fun _ h9 => h9) rfl d_Prg_fuseRows_19 ?_
      refine lv_iload_n hx hb d_Prg_fuseRows_22 rfl (lv_at hl 0 rfl) ?_
      refine lv_bipush (v := (-2)) hx hb d_Prg_fuseRows_23 (by decide) ?_
      refine va_iast hx hb hK hP hD hS 4 0 rfl rfl hin d_Prg_fuseRows_25 (fun H locs hP hD hS => ?_)
      have hP : va_P Dg classes (wP b k (u2 Gi 3 (nI i).toNatClampNeg (-2))) H := hP
      have hD : va_D (va_A (wP b k G) s.heap.size) (wP b k (u2 Gi 3 (nI i).toNatClampNeg (-2))) := hD
      obtain ⟨Gs5, hGs5⟩ : ∃ z, z = (u2 Gi 3 (nI i).toNatClampNeg (-2)) := ⟨_, rfl⟩
      rw [← hGs5] at hP hD
      refine lv_aload_n hx hb d_Prg_fuseRows_26 rfl (lv_at hl 3 rfl) ?_
      refine va_get (D := Dg) (ci := 2) (v := .ref (b 5)) (C := R_Prg) (T := F_Prg) (N := 7) hx hb hT in_Prg hown hK hP 0 rfl rfl 4 (by decide) (hT _ tw1_38) (fun _ h9 => h9) rfl d_Prg_fuseRows_27 ?_
      refine lv_iload_n hx hb d_Prg_fuseRows_30 rfl (lv_at hl 0 rfl) ?_
      refine lv_iconst (v := 1) hx hb d_Prg_fuseRows_31 (by decide) ?_
      refine va_iast hx hb hK hP hD hS 5 0 rfl rfl hin d_Prg_fuseRows_32 (fun H locs hP hD hS => ?_)
      have hP : va_P Dg classes (wP b k (u2 Gs5 4 (nI i).toNatClampNeg 1)) H := hP
      have hD : va_D (va_A (wP b k G) s.heap.size) (wP b k (u2 Gs5 4 (nI i).toNatClampNeg 1)) := hD
      obtain ⟨Gs6, hGs6⟩ : ∃ z, z = (u2 Gs5 4 (nI i).toNatClampNeg 1) := ⟨_, rfl⟩
      rw [← hGs6] at hP hD
      refine lv_iinc (k := 1) (v := (wi + (-1))) hx hb d_Prg_fuseRows_33 hl rfl (by rfl) (by decide) rfl (fun ls hl => ?_)
      have hl : lv_has ls 5 [(2, .int (wi + (-1))), (3, .int (nI i)), (1, .int cn), (0, .ref (b 0))] := hl
      refine lv_goto (tgt := 87) hx hb d_Prg_fuseRows_36 (by decide) ?_
      refine lv_iinc (k := 1) (v := (nI (i + 1))) hx hb d_Prg_fuseRows_87 hl rfl (nI_succ _).symm (by decide) rfl (fun ls hl => ?_)
      have hl : lv_has ls 5 [(3, .int (nI (i + 1))), (2, .int (wi + (-1))), (1, .int cn), (0, .ref (b 0))] := hl
      refine lv_goto (tgt := 6) hx hb d_Prg_fuseRows_90 (by decide) ?_
      exact ih f (i + 1, Gs6, cn, (wi + (-1))) H locs ls (by omega) ⟨by show i + 1 + f = z; omega, by show (Gs6, cn, (wi + (-1))) = sFu1 (sFuS G i) i; rw [← hGi]; clear hP hD; subst hGs6 hGs5; unfold sFu1; rw [if_neg h15], (lv_sub hl [0, 1, 2, 3] rfl), hP, hD, hS⟩
end
section
/-! STRINGS: the String constant of the letters, and the methods of java.lang.String that are called on it -/
abbrev y_Str_length : MethodName := ⟨"java/lang/String", "length", "()I"⟩
abbrev b_Str_length : ByteArray := prog_12_method_54_code
theorem d_Str_length_0 : decode b_Str_length 0 = .ok (.aload_n 0, 1) := by decide +kernel
theorem d_Str_length_1 : decode b_Str_length 1 = .ok (.getfield 9, 3) := by decide +kernel
theorem d_Str_length_4 : decode b_Str_length 4 = .ok (.arraylength, 1) := by decide +kernel
theorem d_Str_length_5 : decode b_Str_length 5 = .ok (.aload_n 0, 1) := by decide +kernel
theorem d_Str_length_6 : decode b_Str_length 6 = .ok (.invokevirtual 335, 3) := by decide +kernel
theorem d_Str_length_9 : decode b_Str_length 9 = .ok (.ishr, 1) := by decide +kernel
theorem d_Str_length_10 : decode b_Str_length 10 = .ok (.ireturn, 1) := by decide +kernel
abbrev y_Str_charAt : MethodName := ⟨"java/lang/String", "charAt", "(I)C"⟩
abbrev b_Str_charAt : ByteArray := prog_12_method_56_code
theorem d_Str_charAt_0 : decode b_Str_charAt 0 = .ok (.aload_n 0, 1) := by decide +kernel
theorem d_Str_charAt_1 : decode b_Str_charAt 1 = .ok (.invokevirtual 492, 3) := by decide +kernel
theorem d_Str_charAt_4 : decode b_Str_charAt 4 = .ok (.ifCond .eq 12, 3) := by decide +kernel
theorem d_Str_charAt_7 : decode b_Str_charAt 7 = .ok (.aload_n 0, 1) := by decide +kernel
theorem d_Str_charAt_8 : decode b_Str_charAt 8 = .ok (.getfield 9, 3) := by decide +kernel
theorem d_Str_charAt_11 : decode b_Str_charAt 11 = .ok (.iload_n 1, 1) := by decide +kernel
theorem d_Str_charAt_12 : decode b_Str_charAt 12 = .ok (.invokestatic 495, 3) := by decide +kernel
theorem d_Str_charAt_15 : decode b_Str_charAt 15 = .ok (.ireturn, 1) := by decide +kernel
theorem d_Str_charAt_16 : decode b_Str_charAt 16 = .ok (.aload_n 0, 1) := by decide +kernel
theorem d_Str_charAt_17 : decode b_Str_charAt 17 = .ok (.getfield 9, 3) := by decide +kernel
theorem d_Str_charAt_20 : decode b_Str_charAt 20 = .ok (.iload_n 1, 1) := by decide +kernel
theorem d_Str_charAt_21 : decode b_Str_charAt 21 = .ok (.invokestatic 498, 3) := by decide +kernel
theorem d_Str_charAt_24 : decode b_Str_charAt 24 = .ok (.ireturn, 1) := by decide +kernel
abbrev y_Str_coder : MethodName := ⟨"java/lang/String", "coder", "()B"⟩
abbrev b_Str_coder : ByteArray := prog_12_method_152_code
theorem d_Str_coder_0 : decode b_Str_coder 0 = .ok (.getstatic 38, 3) := by decide +kernel
theorem d_Str_coder_3 : decode b_Str_coder 3 = .ok (.ifCond .eq 10, 3) := by decide +kernel
theorem d_Str_coder_6 : decode b_Str_coder 6 = .ok (.aload_n 0, 1) := by decide +kernel
theorem d_Str_coder_7 : decode b_Str_coder 7 = .ok (.getfield 15, 3) := by decide +kernel
theorem d_Str_coder_10 : decode b_Str_coder 10 = .ok (.goto 4, 3) := by decide +kernel
theorem d_Str_coder_13 : decode b_Str_coder 13 = .ok (.iconst 1, 1) := by decide +kernel
theorem d_Str_coder_14 : decode b_Str_coder 14 = .ok (.ireturn, 1) := by decide +kernel
theorem kw_StrJ_coder_335 : kWd ⟨"java/lang/String", "coder", "()B"⟩ prog_12_method_152_code 1 (some FieldType.byte) "java/lang/String" 335 0 := ⟨tw1_192, tw1_5, ⟨by decide, by decide⟩, by decide +kernel, tw1_189⟩
abbrev y_Str_isLatin1 : MethodName := ⟨"java/lang/String", "isLatin1", "()Z"⟩
abbrev b_Str_isLatin1 : ByteArray := prog_12_method_154_code
theorem d_Str_isLatin1_0 : decode b_Str_isLatin1 0 = .ok (.getstatic 38, 3) := by decide +kernel
theorem d_Str_isLatin1_3 : decode b_Str_isLatin1 3 = .ok (.ifCond .eq 14, 3) := by decide +kernel
theorem d_Str_isLatin1_6 : decode b_Str_isLatin1 6 = .ok (.aload_n 0, 1) := by decide +kernel
theorem d_Str_isLatin1_7 : decode b_Str_isLatin1 7 = .ok (.getfield 15, 3) := by decide +kernel
theorem d_Str_isLatin1_10 : decode b_Str_isLatin1 10 = .ok (.ifCond .ne 7, 3) := by decide +kernel
theorem d_Str_isLatin1_13 : decode b_Str_isLatin1 13 = .ok (.iconst 1, 1) := by decide +kernel
theorem d_Str_isLatin1_14 : decode b_Str_isLatin1 14 = .ok (.goto 4, 3) := by decide +kernel
theorem d_Str_isLatin1_17 : decode b_Str_isLatin1 17 = .ok (.iconst 0, 1) := by decide +kernel
theorem d_Str_isLatin1_18 : decode b_Str_isLatin1 18 = .ok (.ireturn, 1) := by decide +kernel
theorem kw_StrJ_isLatin1_492 : kWd ⟨"java/lang/String", "isLatin1", "()Z"⟩ prog_12_method_154_code 1 (some FieldType.boolean) "java/lang/String" 492 0 := ⟨tw1_202, tw1_5, ⟨by decide, by decide⟩, by decide +kernel, tw1_199⟩
abbrev y_Str_checkIndex : MethodName := ⟨"java/lang/String", "checkIndex", "(II)V"⟩
abbrev b_Str_checkIndex : ByteArray := prog_12_method_155_code
theorem d_Str_checkIndex_0 : decode b_Str_checkIndex 0 = .ok (.iload_n 0, 1) := by decide +kernel
theorem d_Str_checkIndex_1 : decode b_Str_checkIndex 1 = .ok (.iload_n 1, 1) := by decide +kernel
theorem d_Str_checkIndex_2 : decode b_Str_checkIndex 2 = .ok (.getstatic 1053, 3) := by decide +kernel
theorem d_Str_checkIndex_5 : decode b_Str_checkIndex 5 = .ok (.invokestatic 1059, 3) := by decide +kernel
theorem d_Str_checkIndex_8 : decode b_Str_checkIndex 8 = .ok (.pop, 1) := by decide +kernel
theorem d_Str_checkIndex_9 : decode b_Str_checkIndex 9 = .ok (.return_, 1) := by decide +kernel
theorem kw_StrJ_checkIndex_9 : kWd ⟨"java/lang/String", "checkIndex", "(II)V"⟩ prog_12_method_155_code 2 none "java/lang/StringLatin1" 9 2 := ⟨tw1_208, tw1_5, ⟨by decide, by decide⟩, by decide +kernel, tw1_206⟩
theorem kw_StrJ_checkIndex_414 : kWd ⟨"java/lang/String", "checkIndex", "(II)V"⟩ prog_12_method_155_code 2 none "java/lang/StringUTF16" 414 2 := ⟨tw1_208, tw1_5, ⟨by decide, by decide⟩, by decide +kernel, tw1_223⟩
abbrev y_Lat_charAt : MethodName := ⟨"java/lang/StringLatin1", "charAt", "([BI)C"⟩
abbrev b_Lat_charAt : ByteArray := prog_13_method_2_code
theorem d_Lat_charAt_0 : decode b_Lat_charAt 0 = .ok (.iload_n 1, 1) := by decide +kernel
theorem d_Lat_charAt_1 : decode b_Lat_charAt 1 = .ok (.aload_n 0, 1) := by decide +kernel
theorem d_Lat_charAt_2 : decode b_Lat_charAt 2 = .ok (.arraylength, 1) := by decide +kernel
theorem d_Lat_charAt_3 : decode b_Lat_charAt 3 = .ok (.invokestatic 9, 3) := by decide +kernel
theorem d_Lat_charAt_6 : decode b_Lat_charAt 6 = .ok (.aload_n 0, 1) := by decide +kernel
theorem d_Lat_charAt_7 : decode b_Lat_charAt 7 = .ok (.iload_n 1, 1) := by decide +kernel
theorem d_Lat_charAt_8 : decode b_Lat_charAt 8 = .ok (.baload, 1) := by decide +kernel
theorem d_Lat_charAt_9 : decode b_Lat_charAt 9 = .ok (.sipush 255, 3) := by decide +kernel
theorem d_Lat_charAt_12 : decode b_Lat_charAt 12 = .ok (.iand, 1) := by decide +kernel
theorem d_Lat_charAt_13 : decode b_Lat_charAt 13 = .ok (.i2c, 1) := by decide +kernel
theorem d_Lat_charAt_14 : decode b_Lat_charAt 14 = .ok (.ireturn, 1) := by decide +kernel
theorem kw_LatJ_charAt_495 : kWd ⟨"java/lang/StringLatin1", "charAt", "([BI)C"⟩ prog_13_method_2_code 2 (some FieldType.char) "java/lang/String" 495 2 := ⟨tw1_205, tw1_6, ⟨by decide, by decide⟩, by decide +kernel, tw1_203⟩
abbrev y_Pre_checkIndex : MethodName := ⟨"jdk/internal/util/Preconditions", "checkIndex", "(IILjava/util/function/BiFunction;)I"⟩
abbrev b_Pre_checkIndex : ByteArray := prog_18_method_11_code
theorem d_Pre_checkIndex_0 : decode b_Pre_checkIndex 0 = .ok (.iload_n 0, 1) := by decide +kernel
theorem d_Pre_checkIndex_1 : decode b_Pre_checkIndex 1 = .ok (.ifCond .lt 8, 3) := by decide +kernel
theorem d_Pre_checkIndex_4 : decode b_Pre_checkIndex 4 = .ok (.iload_n 0, 1) := by decide +kernel
theorem d_Pre_checkIndex_5 : decode b_Pre_checkIndex 5 = .ok (.iload_n 1, 1) := by decide +kernel
theorem d_Pre_checkIndex_6 : decode b_Pre_checkIndex 6 = .ok (.if_icmp .lt 10, 3) := by decide +kernel
theorem d_Pre_checkIndex_9 : decode b_Pre_checkIndex 9 = .ok (.aload_n 2, 1) := by decide +kernel
theorem d_Pre_checkIndex_10 : decode b_Pre_checkIndex 10 = .ok (.iload_n 0, 1) := by decide +kernel
theorem d_Pre_checkIndex_11 : decode b_Pre_checkIndex 11 = .ok (.iload_n 1, 1) := by decide +kernel
theorem d_Pre_checkIndex_12 : decode b_Pre_checkIndex 12 = .ok (.invokestatic 95, 3) := by decide +kernel
theorem d_Pre_checkIndex_15 : decode b_Pre_checkIndex 15 = .ok (.athrow, 1) := by decide +kernel
theorem d_Pre_checkIndex_16 : decode b_Pre_checkIndex 16 = .ok (.iload_n 0, 1) := by decide +kernel
theorem d_Pre_checkIndex_17 : decode b_Pre_checkIndex 17 = .ok (.ireturn, 1) := by decide +kernel
theorem kw_PreJ_checkIndex_1059 : kWd ⟨"jdk/internal/util/Preconditions", "checkIndex", "(IILjava/util/function/BiFunction;)I"⟩ prog_18_method_11_code 3 (some FieldType.int) "java/lang/String" 1059 3 := ⟨tw1_213, tw1_7, ⟨by decide, by decide⟩, by decide +kernel, tw1_211⟩
def ltL : List Int32 := [80, 76, 83, 43, 45, 42, 47, 60, 61, 68, 88, 79, 86, 74, 90, 67, 82, 72]
def lt (j : Nat) : Int32 := ltL.getD j 0
theorem lt_c : ∀ j, j < 18 → ((lt j &&& 255).toUInt32 % 65536).toInt32 = lt j ∧ narrow .char (.int (lt j)) = .int (lt j) := by decide
/-- the String at q, its bytes at vB, and the two statics that its methods read -/
def strX (A : Nat → Prop) (q vB : Nat) (H : Heap) (U : State) : Prop := va_O "java/lang/String" q A U H ∧ va_OF "java/lang/String" "coder" "B" (.int 0) q A U H ∧ va_OF "java/lang/String" "value" "[B" (.ref vB) q A U H ∧ va_T .byte vB 18 (fun j => .int (lt j)) A U H ∧ va_Z "java/lang/String" "COMPACT_STRINGS" "Z" (.int 1) A U H ∧ va_Zq "jdk/internal/util/Preconditions" "SIOOBE_FORMATTER" "Ljava/util/function/BiFunction;" A U H
theorem strX_m {A : Nat → Prop} {q vB : Nat} {H : Heap} : kXm (strX A q vB H) := fun _ _ hv h => ⟨h.1.moved hv.alike, h.2.1.moved hv.alike, h.2.2.1.moved hv.alike, h.2.2.2.1.moved hv.alike, h.2.2.2.2.1.moved hv.alike, va_Zq.moved hv.alike h.2.2.2.2.2⟩
theorem strX.kept {A : Nat → Prop} {q vB : Nat} {H H1 : Heap} {U : State} (h : strX A q vB H U) (hq : ∀ a : Nat, a < H.size → ¬ A a → H1[a]? = H[a]?) : strX A q vB H1 U := ⟨h.1.kept hq, h.2.1.kept hq, h.2.2.1.kept hq, h.2.2.2.1.kept hq, h.2.2.2.2.1.kept hq, va_Zq.kept h.2.2.2.2.2 hq⟩
theorem strX.narrow {A B : Nat → Prop} {q vB : Nat} {H : Heap} {U : State} (h : strX A q vB H U) (hAB : ∀ z, B z → A z) : strX B q vB H U := ⟨h.1.narrow hAB, h.2.1.narrow hAB, h.2.2.1.narrow hAB, h.2.2.2.1.narrow hAB, h.2.2.2.2.1.narrow hAB, va_Zq.narrow h.2.2.2.2.2 hAB⟩
abbrev sX (q vB : Nat) (H : Heap) (U : State) : Prop := strX (fun _ => False) q vB H U
/-- a void method that changes nothing -/
def kPv (l : Launch) (y : MethodName) (b : ByteArray) (n : Nat) (fr lo : Nat) (As : List Value) (H : Heap) (X : State → Prop) : Prop :=
  Met l y (kWs y b n none) (kRm fr lo) (kPc As H X) (va_Qv (fun _ : Unit => True) (fun _ t => t.heap = H) (fun _ => False)) 0 0 (fun _ => False)
section KS
variable {p : Program} {l : Launch} {e : Env} {R : Room} {s : State} {m : MethodId} {args : Array Value} {below : List Frame} {meth : Method} {c : Code} {H H0 : Heap} {locs : List Loc} {cells slots : Nat} {Q : State → Prop} {cc : ByteArray} {pc : Nat} {ls : Array Slot} {rest st : List Value} {own : String} {nL : Nat} {A0 : Nat → Prop}
theorem kp_Sv (F : CallFix p m c cc nL s args lw_ok own) {y : MethodName} {b : ByteArray} {n : Nat} {fr lo index k : Nat} {As : List Value} {X : State → Prop} (hM : kPv l y b n fr lo As H X) (hm : kXm X) (hX : X s) (hw : kWd y b n none own index k) (hst : Cond.static y ∈ lw_ok) (hS : va_S A0 H0 H locs)
    (hd : decode cc pc = .ok (.invokestatic index, 3)) (hR : (fr + 1 ≤ R.frames ∧ 8 + (n + 11) + lo ≤ R.locals) ∧ cells ≤ R.cells ∧ slots ≤ R.slots) (hk : As.length = k) (hz : ls.size = nL) (hs : st = As.reverse ++ rest) (hr : (rest.map fun v => v.category).sum ≤ 8)
    (kk : ∀ locs1 : List Loc, va_S A0 H0 H locs1 → W p l e R s m args below meth c H locs1 cells slots Q (F0 m (pc + 3) ls rest)) : W p l e R s m args below meth c H locs cells slots Q (F0 m pc ls st) := by
  subst hs
  refine va_callv (va_runS F hM ⟨k_B F.2.2.2.2 hw hR.1, F.2.2.2.2 _ hst⟩ ⟨k_blind hm, fun U hU hW => ⟨rfl, hU, hm _ _ hW hX⟩⟩ rfl hk hz rfl (lv_room hr) hd hR.2) hS (fun q _ h => h.elim) (fun q h => h.elim) (fun u t H1 locs1 ht hvm hp hB hz1 hk1 hS1 => ?_)
  have e1 : H1 = H := by rw [← ht]; exact hB
  subst e1
  exact kk locs1 hS1
theorem kp_v (F : CallFix p m c cc nL s args lw_ok own) (hlocks : meth.locks = false) (hr : meth.sig.returnType = none) (hS : va_S (fun _ => False) s.heap s.heap locs) (hd : decode cc pc = .ok (.return_, 1)) :
    W p l e R s m args below meth c s.heap locs 0 0 (MQ below (va_Qv (fun _ : Unit => True) (fun _ t => t.heap = s.heap) (fun _ => False)) args s 0 0 (fun _ => False)) (F0 m pc ls []) :=
  W.vret F.1 F.2.1 hr (fun t ht hW => ⟨⟨(), rfl, trivial, ht⟩, hS.F ht⟩) hS.2.2 hd hlocks
end KS

theorem c_Str_coder (l : Launch) (q vB : Nat) (H : Heap) : kPu l y_Str_coder b_Str_coder 1 (some FieldType.byte) 0 0 [.ref q] H (sX q vB H) 0 := by
  refine k_of (by decide) (Nat.le_of_ble_eq_true rfl) ?_
  intro p e s m below meth cd ls F hlocks hret hname hh hX hl
  subst hh
  obtain ⟨hx, hb, hml, hown, hT⟩ := id F
  have hS : va_S (fun _ => False) s.heap s.heap [] := va_S.rf
  have hl : lv_has ls 1 [(0, .ref q)] := hl
  refine va_gets hx hb hX.2.2.2.2.1 hS hown (hT _ tw1_193) (fun _ h9 => h9) d_Str_coder_0 ?_
  refine lv_if_eq (tgt := 13) hx hb d_Str_coder_3 (by decide) (fun h9 => absurd h9 (by decide)) (fun _ => ?_)
  refine lv_aload_n hx hb d_Str_coder_6 rfl (lv_at hl 0 rfl) ?_
  refine vk_getf hx hb hX.2.1 hS hown (hT _ tw3_168) (fun _ h9 => h9) d_Str_coder_7 ?_
  refine lv_goto (tgt := 14) hx hb d_Str_coder_10 (by decide) ?_
  exact kp_z F hlocks hret hS d_Str_coder_14 rfl rfl
theorem c_Str_isLatin1 (l : Launch) (q vB : Nat) (H : Heap) : kPu l y_Str_isLatin1 b_Str_isLatin1 1 (some FieldType.boolean) 0 0 [.ref q] H (sX q vB H) 1 := by
  refine k_of (by decide) (Nat.le_of_ble_eq_true rfl) ?_
  intro p e s m below meth cd ls F hlocks hret hname hh hX hl
  subst hh
  obtain ⟨hx, hb, hml, hown, hT⟩ := id F
  have hS : va_S (fun _ => False) s.heap s.heap [] := va_S.rf
  have hl : lv_has ls 1 [(0, .ref q)] := hl
  refine va_gets hx hb hX.2.2.2.2.1 hS hown (hT _ tw1_193) (fun _ h9 => h9) d_Str_isLatin1_0 ?_
  refine lv_if_eq (tgt := 17) hx hb d_Str_isLatin1_3 (by decide) (fun h9 => absurd h9 (by decide)) (fun _ => ?_)
  refine lv_aload_n hx hb d_Str_isLatin1_6 rfl (lv_at hl 0 rfl) ?_
  refine vk_getf hx hb hX.2.1 hS hown (hT _ tw3_168) (fun _ h9 => h9) d_Str_isLatin1_7 ?_
  refine lv_if_ne (tgt := 17) hx hb d_Str_isLatin1_10 (by decide) (fun h9 => absurd rfl h9) (fun _ => ?_)
  refine lv_iconst (v := 1) hx hb d_Str_isLatin1_13 (by decide) ?_
  refine lv_goto (tgt := 18) hx hb d_Str_isLatin1_14 (by decide) ?_
  exact kp_z F hlocks hret hS d_Str_isLatin1_18 rfl rfl
theorem c_Str_length (l : Launch) (q vB : Nat) (H : Heap) : kPu l y_Str_length b_Str_length 1 (some FieldType.int) 1 20 [.ref q] H (sX q vB H) (nI 18) := by
  refine k_of (by decide) (Nat.le_of_ble_eq_true rfl) ?_
  intro p e s m below meth cd ls F hlocks hret hname hh hX hl
  subst hh
  obtain ⟨hx, hb, hml, hown, hT⟩ := id F
  have hS : va_S (fun _ => False) s.heap s.heap [] := va_S.rf
  have hl : lv_has ls 1 [(0, .ref q)] := hl
  refine lv_aload_n hx hb d_Str_length_0 rfl (lv_at hl 0 rfl) ?_
  refine vk_getf hx hb hX.2.2.1 hS hown (hT _ tw3_167) (fun _ h9 => h9) d_Str_length_1 ?_
  refine va_tlen (v := nI 18) hx hb hX.2.2.2.1 hS rfl d_Str_length_4 ?_
  refine lv_aload_n hx hb d_Str_length_5 rfl (lv_at hl 0 rfl) ?_
  refine kp_V F (c_Str_coder l q vB _) strX_m hX kw_StrJ_coder_335 tw1_190 tw1_191 (let ⟨c9, h1, h2, h3, _⟩ := hX.1; ⟨c9, h1, h2, h3⟩) hS d_Str_length_6 ⟨⟨by decide, by decide⟩, Nat.le_refl _, Nat.le_refl _⟩ rfl hl.1 rfl (Nat.le_of_ble_eq_true rfl) (fun locs hS => ?_)
  refine lv_ishr hx hb d_Str_length_9 ?_
  exact kp_i F hlocks hret hS d_Str_length_10 (by decide)
theorem c_Pre_checkIndex (l : Launch) (i n : Nat) (r : Option Nat) (H : Heap) (X : State → Prop) (hi : i < n) (hn : n < 2 ^ 31) : kPu l y_Pre_checkIndex b_Pre_checkIndex 3 (some FieldType.int) 0 0 [.int (nI i), .int (nI n), va_rf r] H X (nI i) := by
  have hlen : (lg_sl [.int (nI i), .int (nI n), va_rf r]).length ≤ 3 := by cases r <;> exact Nat.le_of_ble_eq_true rfl
  refine k_of (by decide) hlen ?_
  intro p e s m below meth cd ls F hlocks hret hname hh hX hl
  subst hh
  obtain ⟨hx, hb, hml, hown, hT⟩ := id F
  have hS : va_S (fun _ => False) s.heap s.heap [] := va_S.rf
  have hl : lv_has ls 3 [(0, .int (nI i)), (1, .int (nI n)), (2, va_rf r)] := hl
  refine lv_iload_n hx hb d_Pre_checkIndex_0 rfl (lv_at hl 0 rfl) ?_
  refine lv_if_lt (tgt := 9) hx hb d_Pre_checkIndex_1 (by decide) (fun h9 => absurd h9 (nI_pos (by omega))) (fun _ => ?_)
  refine lv_iload_n hx hb d_Pre_checkIndex_4 rfl (lv_at hl 0 rfl) ?_
  refine lv_iload_n hx hb d_Pre_checkIndex_5 rfl (lv_at hl 1 rfl) ?_
  refine lv_icmp_lt (tgt := 16) hx hb d_Pre_checkIndex_6 (by decide) (fun _ => ?_) (fun h9 => absurd (nI_lt hi hn) h9)
  refine lv_iload_n hx hb d_Pre_checkIndex_16 rfl (lv_at hl 0 rfl) ?_
  exact kp_i F hlocks hret hS d_Pre_checkIndex_17 rfl
theorem c_Str_checkIndex (l : Launch) (q vB i n : Nat) (H : Heap) (hi : i < n) (hn : n < 2 ^ 31) : kPv l y_Str_checkIndex b_Str_checkIndex 2 1 22 [.int (nI i), .int (nI n)] H (sX q vB H) := by
  refine k_of (by decide) (Nat.le_of_ble_eq_true rfl) ?_
  intro p e s m below meth cd ls F hlocks hret hname hh hX hl
  subst hh
  obtain ⟨hx, hb, hml, hown, hT⟩ := id F
  have hS : va_S (fun _ => False) s.heap s.heap [] := va_S.rf
  have hl : lv_has ls 2 [(0, .int (nI i)), (1, .int (nI n))] := hl
  have hZ : ∃ r : Option Nat, va_Z "jdk/internal/util/Preconditions" "SIOOBE_FORMATTER" "Ljava/util/function/BiFunction;" (va_rf r) (fun _ => False) s s.heap := by
    rcases hX.2.2.2.2.2 with h | ⟨t, h⟩
    · exact ⟨none, h⟩
    · exact ⟨some t, h⟩
  obtain ⟨r, hZ⟩ := hZ
  refine lv_iload_n hx hb d_Str_checkIndex_0 rfl (lv_at hl 0 rfl) ?_
  refine lv_iload_n hx hb d_Str_checkIndex_1 rfl (lv_at hl 1 rfl) ?_
  refine va_gets hx hb hZ hS hown (hT _ tw1_209) (fun _ h9 => h9) d_Str_checkIndex_2 ?_
  refine kp_S F (c_Pre_checkIndex l i n r _ (fun _ => True) hi hn) (fun _ _ _ _ => trivial) trivial kw_PreJ_checkIndex_1059 tw1_212 hS d_Str_checkIndex_5 ⟨⟨by decide, by decide⟩, Nat.le_refl _, Nat.le_refl _⟩ rfl hl.1 rfl (Nat.le_of_ble_eq_true rfl) (fun locs hS => ?_)
  refine lv_pop hx hb d_Str_checkIndex_8 rfl ?_
  exact kp_v F hlocks hret hS d_Str_checkIndex_9
theorem c_Lat_charAt (l : Launch) (q vB i : Nat) (H : Heap) (hi : i < 18) : kPu l y_Lat_charAt b_Lat_charAt 2 (some FieldType.char) 2 43 [.ref vB, .int (nI i)] H (sX q vB H) (lt i) := by
  refine k_of (by decide) (Nat.le_of_ble_eq_true rfl) ?_
  intro p e s m below meth cd ls F hlocks hret hname hh hX hl
  subst hh
  obtain ⟨hx, hb, hml, hown, hT⟩ := id F
  have hS : va_S (fun _ => False) s.heap s.heap [] := va_S.rf
  have hl : lv_has ls 2 [(0, .ref vB), (1, .int (nI i))] := hl
  refine lv_iload_n hx hb d_Lat_charAt_0 rfl (lv_at hl 1 rfl) ?_
  refine lv_aload_n hx hb d_Lat_charAt_1 rfl (lv_at hl 0 rfl) ?_
  refine va_tlen (v := nI 18) hx hb hX.2.2.2.1 hS rfl d_Lat_charAt_2 ?_
  refine kp_Sv F (c_Str_checkIndex l q vB i 18 _ hi (by decide)) strX_m hX kw_StrJ_checkIndex_9 tw1_207 hS d_Lat_charAt_3 ⟨⟨by decide, by decide⟩, Nat.le_refl _, Nat.le_refl _⟩ rfl hl.1 rfl (Nat.le_of_ble_eq_true rfl) (fun locs hS => ?_)
  refine lv_aload_n hx hb d_Lat_charAt_6 rfl (lv_at hl 0 rfl) ?_
  refine lv_iload_n hx hb d_Lat_charAt_7 rfl (lv_at hl 1 rfl) ?_
  refine va_tb (v := .int (lt i)) hx hb hX.2.2.2.1 hS (vp_in_nI hi (by decide)) (by rw [nI_clamp (by omega)]) d_Lat_charAt_8 ?_
  refine lv_sipush (v := 255) hx hb d_Lat_charAt_9 (by decide) ?_
  refine lv_iand hx hb d_Lat_charAt_12 ?_
  refine lv_i2c hx hb d_Lat_charAt_13 (lt_c i hi).1 ?_
  exact kp_z F hlocks hret hS d_Lat_charAt_14 (lt_c i hi).2 rfl
theorem c_Str_charAt (l : Launch) (q vB i : Nat) (H : Heap) (hi : i < 18) : kPu l y_Str_charAt b_Str_charAt 2 (some FieldType.char) 3 64 [.ref q, .int (nI i)] H (sX q vB H) (lt i) := by
  refine k_of (by decide) (Nat.le_of_ble_eq_true rfl) ?_
  intro p e s m below meth cd ls F hlocks hret hname hh hX hl
  subst hh
  obtain ⟨hx, hb, hml, hown, hT⟩ := id F
  have hS : va_S (fun _ => False) s.heap s.heap [] := va_S.rf
  have hl : lv_has ls 2 [(0, .ref q), (1, .int (nI i))] := hl
  refine lv_aload_n hx hb d_Str_charAt_0 rfl (lv_at hl 0 rfl) ?_
  refine kp_V F (c_Str_isLatin1 l q vB _) strX_m hX kw_StrJ_isLatin1_492 tw1_200 tw1_201 (let ⟨c9, h1, h2, h3, _⟩ := hX.1; ⟨c9, h1, h2, h3⟩) hS d_Str_charAt_1 ⟨⟨by decide, by decide⟩, Nat.le_refl _, Nat.le_refl _⟩ rfl hl.1 rfl (Nat.le_of_ble_eq_true rfl) (fun locs hS => ?_)
  refine lv_if_eq (tgt := 16) hx hb d_Str_charAt_4 (by decide) (fun h9 => absurd h9 (by decide)) (fun _ => ?_)
  refine lv_aload_n hx hb d_Str_charAt_7 rfl (lv_at hl 0 rfl) ?_
  refine vk_getf hx hb hX.2.2.1 hS hown (hT _ tw3_167) (fun _ h9 => h9) d_Str_charAt_8 ?_
  refine lv_iload_n hx hb d_Str_charAt_11 rfl (lv_at hl 1 rfl) ?_
  refine kp_S F (c_Lat_charAt l q vB i _ hi) strX_m hX kw_LatJ_charAt_495 tw1_204 hS d_Str_charAt_12 ⟨⟨by decide, by decide⟩, Nat.le_refl _, Nat.le_refl _⟩ rfl hl.1 rfl (Nat.le_of_ble_eq_true rfl) (fun locs hS => ?_)
  exact kp_z F hlocks hret hS d_Str_charAt_15 (lt_c i hi).2 rfl
end
section
/-! Program.allows -/
abbrev aX (q vB : Nat) (H : Heap) (U : State) : Prop := vk_R "FusedEngine$Program" 30 "PLS+-*/<=DXOVJZCRH" q U ∧ sX q vB H U
theorem aX_m {q vB : Nat} {H : Heap} : kXm (aX q vB H) := kx_and (fun _ _ hv h => vk_R.warm hv h) strX_m
def sIn8 (n : Int32) : Int32 := if n < 0 then 0 else if 8 ≤ n then 0 else 1
def alF (c : Int32) : Nat → Nat → Int32
  | 0, _ => 0
  | f + 1, i => if lt i = c then 1 else alF c f (i + 1)
def sAllow (c n : Int32) : Int32 := if c = 76 ∨ c = 83 then sIn8 n else alF c 18 0
set_option maxRecDepth 100000 in
set_option maxHeartbeats 4000000 in
theorem c_Prg_allows (l : Launch) (q vB : Nat) (c n : Int32) (H : Heap) : kPu l y_Prg_allows b_Prg_allows 3 (some FieldType.boolean) 4 85 [.int c, .int n] H (aX q vB H) (sAllow c n) := by
  refine k_of (by decide) (Nat.le_of_ble_eq_true rfl) ?_
  intro p e s m below meth cd ls F hlocks hret hname hh hX hl
  subst hh
  obtain ⟨hx, hb, hml, hown, hT⟩ := id F
  have hS : va_S (fun _ => False) s.heap s.heap [] := va_S.rf
  have hl : lv_has ls 3 [(0, .int c), (1, .int n)] := hl
  have tail : (c = 76 ∨ c = 83) → W p l e (kRm 4 85) s m #[Value.int c, Value.int n] below meth cd s.heap [] 0 0 (MQ below (kQp s.heap (sAllow c n)) #[Value.int c, Value.int n] s 0 0 (fun _ => False)) (F0 m 12 ls []) := by
    intro hc
    refine lv_iload_n hx hb d_Prg_allows_12 rfl (lv_at hl 1 rfl) ?_
    refine lv_if_lt (tgt := 26) hx hb d_Prg_allows_13 (by decide) (fun h13 => ?_) (fun h13 => ?_)
    · refine lv_iconst (v := 0) hx hb d_Prg_allows_26 (by decide) ?_
      exact kp_z F hlocks hret hS d_Prg_allows_27 rfl (by unfold sAllow sIn8; rw [if_pos hc, if_pos h13])
    · refine lv_iload_n hx hb d_Prg_allows_16 rfl (lv_at hl 1 rfl) ?_
      refine lv_bipush (v := 8) hx hb d_Prg_allows_17 (by decide) ?_
      refine lv_icmp_ge (tgt := 26) hx hb d_Prg_allows_19 (by decide) (fun h19 => ?_) (fun h19 => ?_)
      · refine lv_iconst (v := 0) hx hb d_Prg_allows_26 (by decide) ?_
        exact kp_z F hlocks hret hS d_Prg_allows_27 rfl (by unfold sAllow sIn8; rw [if_pos hc, if_neg h13, if_pos h19])
      · refine lv_iconst (v := 1) hx hb d_Prg_allows_22 (by decide) ?_
        refine lv_goto (tgt := 27) hx hb d_Prg_allows_23 (by decide) ?_
        exact kp_z F hlocks hret hS d_Prg_allows_27 rfl (by unfold sAllow sIn8; rw [if_pos hc, if_neg h13, if_neg h19])
  refine lv_iload_n hx hb d_Prg_allows_0 rfl (lv_at hl 0 rfl) ?_
  refine lv_bipush (v := 76) hx hb d_Prg_allows_1 (by decide) ?_
  refine lv_icmp_eq (tgt := 12) hx hb d_Prg_allows_3 (by decide) (fun h3 => tail (Or.inl h3)) (fun h3 => ?_)
  refine lv_iload_n hx hb d_Prg_allows_6 rfl (lv_at hl 0 rfl) ?_
  refine lv_bipush (v := 83) hx hb d_Prg_allows_7 (by decide) ?_
  refine lv_icmp_ne (tgt := 28) hx hb d_Prg_allows_9 (by decide) (fun h9 => ?_) (fun h9 => tail (Or.inr h9))
  have hc : ¬ (c = 76 ∨ c = 83) := fun z => z.elim h3 h9
  refine lv_iconst (v := 0) hx hb d_Prg_allows_28 (by decide) ?_
  refine lv_istore_n hx hb d_Prg_allows_29 rfl hl (by decide) rfl (fun ls hl => ?_)
  have hl : lv_has ls 3 [(2, .int (nI 0)), (0, .int c), (1, .int n)] := hl
  have recv : ∃ cell : Cell, s.heap[q]? = some cell ∧ cell.vm.isStatics = false ∧ s.vm.findClass "java/lang/String" = some cell.cls := (let ⟨c9, h1, h2, h3, _⟩ := hX.2.1; ⟨c9, h1, h2, h3⟩)
  refine k_while (σ := Nat) (fun f i H locs ls => i + f = 18 ∧ alF c f i = alF c 18 0 ∧ H = s.heap ∧ lv_has ls 3 [(2, .int (nI i)), (0, .int c), (1, .int n)] ∧ va_S (fun _ => False) s.heap H locs) ?_ 18 0 ⟨rfl, rfl, rfl, hl, hS⟩
  rintro f i H locs ls ⟨hif, hal, rfl, hl, hS⟩ ih
  refine lv_iload_n hx hb d_Prg_allows_30 rfl (lv_at hl 0 rfl) ?_
  refine va_ldcS hx hb hown hX.1 d_Prg_allows_31 ?_
  refine kp_V F (c_Str_length l q vB _) strX_m hX.2 kw_Prg_32 tw1_186 tw1_187 recv hS d_Prg_allows_33 ⟨⟨by decide, by decide⟩, Nat.le_refl _, Nat.le_refl _⟩ rfl hl.1 rfl (Nat.le_of_ble_eq_true rfl) (fun locs hS => ?_)
  refine lv_icmp_ge (tgt := 57) hx hb d_Prg_allows_36 (by decide) (fun h36 => ?_) (fun h36 => ?_)
  · have hf : f = 0 := by have := (nI_leI (by decide) (by omega)).mp h36; omega
    refine lv_iconst (v := 0) hx hb d_Prg_allows_57 (by decide) ?_
    exact kp_z F hlocks hret hS d_Prg_allows_58 rfl (by unfold sAllow; rw [if_neg hc, ← hal, hf]; rfl)
  · have hi : i < 18 := by
      rcases Nat.lt_or_ge i 18 with z | z
      · exact z
      · exact absurd (nI_le z (by omega)) h36
    obtain ⟨f, rfl⟩ : ∃ g, f = g + 1 := ⟨f - 1, by omega⟩
    have eal : alF c (f + 1) i = (if lt i = c then 1 else alF c f (i + 1)) := rfl
    refine va_ldcS hx hb hown hX.1 d_Prg_allows_39 ?_
    refine lv_iload_n hx hb d_Prg_allows_41 rfl (lv_at hl 0 rfl) ?_
    refine kp_V F (c_Str_charAt l q vB i _ hi) strX_m hX.2 kw_Prg_38 tw1_196 tw1_197 recv hS d_Prg_allows_42 ⟨⟨by decide, by decide⟩, Nat.le_refl _, Nat.le_refl _⟩ rfl hl.1 rfl (Nat.le_of_ble_eq_true rfl) (fun locs hS => ?_)
    refine lv_iload_n hx hb d_Prg_allows_45 rfl (lv_at hl 1 rfl) ?_
    refine lv_icmp_ne (tgt := 51) hx hb d_Prg_allows_46 (by decide) (fun h46 => ?_) (fun h46 => ?_)
    · refine lv_iinc (k := 0) (v := nI (i + 1)) hx hb d_Prg_allows_51 hl rfl (nI_succ _).symm (by decide) rfl (fun ls hl => ?_)
      refine lv_goto (tgt := 30) hx hb d_Prg_allows_54 (by decide) ?_
      exact ih f (i + 1) _ locs ls (by omega) ⟨by omega, by rw [← hal, eal, if_neg h46], rfl, hl, hS⟩
    · refine lv_iconst (v := 1) hx hb d_Prg_allows_49 (by decide) ?_
      exact kp_z F hlocks hret hS d_Prg_allows_50 rfl (by unfold sAllow; rw [if_neg hc, ← hal, eal, if_pos h46])
end
section
/-! ENGINE: a method that answers a reference; what the engine's methods need of the tables and of the heap -/
def kPr (l : Launch) (y : MethodName) (b : ByteArray) (n : Nat) (ret : Option FieldType) (fr lo : Nat) (As : List Value) (H : Heap) (X : State → Prop) (o : Nat) : Prop :=
  Met l y (kWs y b n ret) (kRm fr lo) (kPc As H X) (va_Qr (fun _ : Unit => True) (fun _ a t => a = o ∧ t.heap = H) (fun _ => False)) 0 0 (fun _ => False)
section KR
variable {p : Program} {l : Launch} {e : Env} {R : Room} {s : State} {m : MethodId} {args : Array Value} {below : List Frame} {meth : Method} {c : Code} {H H0 : Heap} {locs : List Loc} {cells slots : Nat} {Q : State → Prop} {cc : ByteArray} {pc : Nat} {ls : Array Slot} {rest st : List Value} {own : String} {nL : Nat} {A0 : Nat → Prop}
theorem kp_Vr (F : CallFix p m c cc nL s args lw_ok own) {y : MethodName} {b : ByteArray} {n : Nat} {ret : Option FieldType} {fr lo index k : Nat} {C : String} {o r : Nat} {As : List Value} {X : State → Prop} (hM : kPr l y b n ret fr lo (.ref o :: As) H X r) (hm : kXm X) (hX : X s) (hw : kWd y b n ret own index k) (hin : Cond.instanceMethod y ∈ lw_ok) (hse : Cond.selects C y y ∈ lw_ok)
    (ho : ∃ cell : Cell, H[o]? = some cell ∧ cell.vm.isStatics = false ∧ s.vm.findClass C = some cell.cls) (hS : va_S A0 H0 H locs)
    (hd : decode cc pc = .ok (.invokevirtual index, 3)) (hR : (fr + 1 ≤ R.frames ∧ 8 + (n + 11) + lo ≤ R.locals) ∧ cells ≤ R.cells ∧ slots ≤ R.slots) (hk : As.length = k) (hz : ls.size = nL) (hs : st = As.reverse ++ .ref o :: rest) (hr : (rest.map fun v => v.category).sum ≤ 8)
    (kk : ∀ locs1 : List Loc, va_S A0 H0 H locs1 → W p l e R s m args below meth c H locs1 cells slots Q (F0 m (pc + 3) ls (.ref r :: rest))) : W p l e R s m args below meth c H locs cells slots Q (F0 m pc ls st) := by
  subst hs
  refine va_callr (va_runV F hM ⟨k_B F.2.2.2.2 hw hR.1, F.2.2.2.2 _ hin, F.2.2.2.2 _ hse⟩ ⟨k_blind hm, ho, fun U hU hW => ⟨rfl, hU, hm _ _ hW hX⟩⟩ rfl hk hz rfl (lv_room hr) hd hR.2) hS (fun q _ h => h.elim) (fun q h => h.elim) (fun u a t H1 locs1 ht hvm hp hB hz1 hk1 hS1 => ?_)
  obtain ⟨e0, hB⟩ := hB
  have e1 : H1 = H := by rw [← ht]; exact hB
  subst e0
  subst e1
  exact kk locs1 hS1
theorem kp_a {o : Nat} {n : String} (F : CallFix p m c cc nL s args lw_ok own) (hlocks : meth.locks = false) (hr : meth.sig.returnType = some (.object n)) (hS : va_S (fun _ => False) s.heap s.heap locs) (hd : decode cc pc = .ok (.areturn, 1)) :
    W p l e R s m args below meth c s.heap locs 0 0 (MQ below (va_Qr (fun _ : Unit => True) (fun _ a t => a = o ∧ t.heap = s.heap) (fun _ => False)) args s 0 0 (fun _ => False)) (F0 m pc ls [.ref o]) :=
  W.aret F.1 F.2.1 hr (Or.inl ⟨n, rfl⟩) (Or.inr ⟨o, rfl⟩) (fun t ht hW => ⟨⟨(), o, rfl, trivial, rfl, ht⟩, hS.F ht⟩) hS.2.2 hd hlocks
end KR
/-- the messages of the exceptions -/
def msX (U : State) : Prop := (∃ z, vk_R "FusedEngine" 32 "no such instruction" z U) ∧ (∃ z, vk_R "FusedEngine" 43 "the program is full" z U) ∧ (∃ z, vk_R "FusedEngine" 59 "no such place" z U) ∧ (∃ z, vk_R "FusedEngine" 73 "nothing to be looked at by this number" z U) ∧ (∃ z, vk_R "FusedEngine" 79 "the program is not fused" z U) ∧ (∃ z, vk_R "FusedEngine" 98 "no such value on the stack" z U) ∧ (∃ z, vk_R "FusedEngine" 104 "no such local" z U) ∧ (∃ z, vk_R "FusedEngine" 112 "no such value put out, or not kept" z U)
theorem msX_m : kXm msX := by
  rintro u U hv ⟨⟨z1, h1⟩, ⟨z2, h2⟩, ⟨z3, h3⟩, ⟨z4, h4⟩, ⟨z5, h5⟩, ⟨z6, h6⟩, ⟨z7, h7⟩, ⟨z8, h8⟩⟩
  exact ⟨⟨z1, h1.warm hv⟩, ⟨z2, h2.warm hv⟩, ⟨z3, h3.warm hv⟩, ⟨z4, h4.warm hv⟩, ⟨z5, h5.warm hv⟩, ⟨z6, h6.warm hv⟩, ⟨z7, h7.warm hv⟩, ⟨z8, h8.warm hv⟩⟩
/-- for a method that may throw, and for one that may not -/
abbrev tX (D : va_G) (k : Nat → ClassId) (B : Nat) (H : Heap) (U : State) : Prop := va_K D classes (kTy k) U ∧ tz B H U ∧ msX U
theorem tX_m {D : va_G} {k : Nat → ClassId} {B : Nat} {H : Heap} : kXm (tX D k B H) := kx_and kx_K (kx_and tz_m msX_m)
abbrev taX (D : va_G) (k : Nat → ClassId) (q vB B : Nat) (H : Heap) (U : State) : Prop := va_K D classes (kTy k) U ∧ (tz B H U ∧ msX U) ∧ aX q vB H U
theorem taX_m {D : va_G} {k : Nat → ClassId} {q vB B : Nat} {H : Heap} : kXm (taX D k q vB B H) := kx_and kx_K (kx_and (kx_and tz_m msX_m) aX_m)
abbrev kaX (D : va_G) (k : Nat → ClassId) (q vB : Nat) (H : Heap) (U : State) : Prop := va_K D classes (kTy k) U ∧ aX q vB H U
theorem kaX_m {D : va_G} {k : Nat → ClassId} {q vB : Nat} {H : Heap} : kXm (kaX D k q vB H) := kx_and kx_K aX_m
abbrev w4 (a b u v : Nat → Nat) (k : Nat → ClassId) (G M N : vSt) : va_W := wE a b u v ++ wP b k G ++ wM u k M ++ wM v k N
end
section
set_option maxRecDepth 100000 in
set_option maxHeartbeats 4000000 in
theorem c_Eng_machineOf (l : Launch) (Dg : va_G) (a b u v : Nat → Nat) (k : Nat → ClassId) (G M N : vSt) (z : Int32) (H : Heap) (hP : va_P Dg classes ((wE a b u v) ++ (wP b k G) ++ (wM u k M) ++ (wM v k N)) H) : kPr l y_Eng_machineOf b_Eng_machineOf 2 (some (FieldType.object "FusedEngine$Machine")) 0 0 [.ref (a 0), .int z] H (va_K Dg classes (kTy k)) (if z = 0 then u 0 else v 0) := by
  refine k_of (by decide) (Nat.le_of_ble_eq_true rfl) ?_
  intro p e s m below meth cd ls F hlocks hret hname hh hX hl
  subst hh
  obtain ⟨hx, hb, hml, hown, hT⟩ := id F
  have hK : va_K Dg classes (kTy k) s := hX
  have hS : va_S (fun _ => False) s.heap s.heap [] := va_S.rf
  have hl : lv_has ls 2 [(0, .ref (a 0)), (1, .int z)] := hl
  refine lv_iload_n hx hb d_Eng_machineOf_0 rfl (lv_at hl 1 rfl) ?_
  refine lv_if_eq (tgt := 11) hx hb d_Eng_machineOf_1 (by decide) (fun h1 => ?_) (fun h1 => ?_)
  · refine lv_aload_n hx hb d_Eng_machineOf_11 rfl (lv_at hl 0 rfl) ?_
    refine va_get (D := Dg) (ci := 0) (v := .ref (u 0)) (C := R_Eng) (T := F_Eng) (N := 3) hx hb hT in_Eng hown hK hP 0 rfl rfl 1 (by decide) (hT _ tw1_103) (fun _ h9 => h9) rfl d_Eng_machineOf_12 ?_
    rw [if_pos h1]
    exact kp_a F hlocks hret hS d_Eng_machineOf_15
  · refine lv_aload_n hx hb d_Eng_machineOf_4 rfl (lv_at hl 0 rfl) ?_
    refine va_get (D := Dg) (ci := 0) (v := .ref (v 0)) (C := R_Eng) (T := F_Eng) (N := 3) hx hb hT in_Eng hown hK hP 0 rfl rfl 2 (by decide) (hT _ tw1_104) (fun _ h9 => h9) rfl d_Eng_machineOf_5 ?_
    refine lv_goto (tgt := 15) hx hb d_Eng_machineOf_8 (by decide) ?_
    rw [if_neg h1]
    exact kp_a F hlocks hret hS d_Eng_machineOf_15

set_option maxRecDepth 100000 in
set_option maxHeartbeats 4000000 in
theorem c_Eng_beginBoth (l : Launch) (Dg : va_G) (a b u v : Nat → Nat) (k : Nat → ClassId) (G M N : vSt) (H : Heap) (hP : va_P Dg classes ((wE a b u v) ++ (wP b k G) ++ (wM u k M) ++ (wM v k N)) H) (hD : va_D (fun _ => True) ((wE a b u v) ++ (wP b k G) ++ (wM u k M) ++ (wM v k N))) : kMv l y_Eng_beginBoth b_Eng_beginBoth 1 2 43 [.ref (a 0)] H (va_K Dg classes (kTy k)) Dg ((wE a b u v) ++ (wP b k G) ++ (wM u k M) ++ (wM v k N)) (wE a b u v ++ wP b k G ++ wM u k (sBegin M) ++ wM v k (sBegin N)) := by
  refine k_of (by decide) (Nat.le_of_ble_eq_true rfl) ?_
  intro p e s m below meth cd ls F hlocks hret hname hh hX hl
  subst hh
  obtain ⟨hx, hb, hml, hown, hT⟩ := id F
  have hK : va_K Dg classes (kTy k) s := hX
  have hA : ∀ q : Nat, s.heap.size ≤ q → va_A ((wE a b u v) ++ (wP b k G) ++ (wM u k M) ++ (wM v k N)) s.heap.size q := fun q h => Or.inr h
  have hD := hD.self (sz := s.heap.size)
  have hS : va_S (va_A ((wE a b u v) ++ (wP b k G) ++ (wM u k M) ++ (wM v k N)) s.heap.size) s.heap s.heap [] := va_S.rf
  have hl : lv_has ls 1 [(0, .ref (a 0))] := hl
  refine lv_aload_n hx hb d_Eng_beginBoth_0 rfl (lv_at hl 0 rfl) ?_
  refine va_get (D := Dg) (ci := 0) (v := .ref (u 0)) (C := R_Eng) (T := F_Eng) (N := 3) hx hb hT in_Eng hown hK hP 0 rfl rfl 1 (by decide) (hT _ tw1_103) (fun _ h9 => h9) rfl d_Eng_beginBoth_1 ?_
  refine km_Vv (wr := ((wE a b u v) ++ (wP b k G) ++ (wM v k N))) F (c_Mac_begin l Dg u k M _ (hP.sub (ws' := (wM u k M)) [7, 8, 9, 10, 11] rfl) ((hD.sub (ws' := (wM u k M)) [7, 8, 9, 10, 11] (by decide) rfl).weaken (fun _ _ _ _ => trivial))) kx_K hK kw_Eng_117 tw1_125 tw1_126 (va_recv (ci := 1) (q0 := 7) hK hP rfl rfl) hP hD hS hA [7, 8, 9, 10, 11] [0, 1, 2, 3, 4, 5, 6, 12, 13, 14, 15, 16] rfl rfl (by decide) (by decide) d_Eng_beginBoth_4 ⟨⟨by decide, by decide⟩, Nat.le_refl _, Nat.le_refl _⟩ rfl hl.1 rfl (Nat.le_of_ble_eq_true rfl) (fun H locs hP hD hS => ?_)
  have hP : va_P Dg classes ((wE a b u v) ++ (wP b k G) ++ (wM v k N) ++ (wM u k (sBegin M))) H := hP
  have hD : va_D (va_A ((wE a b u v) ++ (wP b k G) ++ (wM u k M) ++ (wM v k N)) s.heap.size) ((wE a b u v) ++ (wP b k G) ++ (wM v k N) ++ (wM u k (sBegin M))) := hD
  obtain ⟨Ms1, hMs1⟩ : ∃ z9, z9 = (sBegin M) := ⟨_, rfl⟩
  rw [← hMs1] at hP hD
  refine lv_aload_n hx hb d_Eng_beginBoth_7 rfl (lv_at hl 0 rfl) ?_
  refine va_get (D := Dg) (ci := 0) (v := .ref (v 0)) (C := R_Eng) (T := F_Eng) (N := 3) hx hb hT in_Eng hown hK hP 0 rfl rfl 2 (by decide) (hT _ tw1_104) (fun _ h9 => h9) rfl d_Eng_beginBoth_8 ?_
  refine km_Vv (wr := ((wE a b u v) ++ (wP b k G) ++ (wM u k Ms1))) F (c_Mac_begin l Dg v k N _ (hP.sub (ws' := (wM v k N)) [7, 8, 9, 10, 11] rfl) ((hD.sub (ws' := (wM v k N)) [7, 8, 9, 10, 11] (by decide) rfl).weaken (fun _ _ _ _ => trivial))) kx_K hK kw_Eng_117 tw1_125 tw1_126 (va_recv (ci := 1) (q0 := 7) hK hP rfl rfl) hP hD hS hA [7, 8, 9, 10, 11] [0, 1, 2, 3, 4, 5, 6, 12, 13, 14, 15, 16] rfl rfl (by decide) (by decide) d_Eng_beginBoth_11 ⟨⟨by decide, by decide⟩, Nat.le_refl _, Nat.le_refl _⟩ rfl hl.1 rfl (Nat.le_of_ble_eq_true rfl) (fun H locs hP hD hS => ?_)
  have hP : va_P Dg classes ((wE a b u v) ++ (wP b k G) ++ (wM u k Ms1) ++ (wM v k (sBegin N))) H := hP
  have hD : va_D (va_A ((wE a b u v) ++ (wP b k G) ++ (wM u k M) ++ (wM v k N)) s.heap.size) ((wE a b u v) ++ (wP b k G) ++ (wM u k Ms1) ++ (wM v k (sBegin N))) := hD
  obtain ⟨Ns2, hNs2⟩ : ∃ z9, z9 = (sBegin N) := ⟨_, rfl⟩
  rw [← hNs2] at hP hD
  exact km_v F hlocks hret hP hD hS d_Eng_beginBoth_14 (by subst hMs1 hNs2; rfl)

set_option maxRecDepth 100000 in
set_option maxHeartbeats 4000000 in
theorem c_Eng_restart (l : Launch) (Dg : va_G) (a b u v : Nat → Nat) (k : Nat → ClassId) (G M N : vSt) (H : Heap) (hP : va_P Dg classes ((wE a b u v) ++ (wP b k G) ++ (wM u k M) ++ (wM v k N)) H) (hD : va_D (fun _ => True) ((wE a b u v) ++ (wP b k G) ++ (wM u k M) ++ (wM v k N))) : kMv l y_Eng_restart b_Eng_restart 1 3 63 [.ref (a 0)] H (va_K Dg classes (kTy k)) Dg ((wE a b u v) ++ (wP b k G) ++ (wM u k M) ++ (wM v k N)) (wE a b u v ++ wP b k G ++ wM u k (sBegin M) ++ wM v k (sBegin N)) := by
  refine k_of (by decide) (Nat.le_of_ble_eq_true rfl) ?_
  intro p e s m below meth cd ls F hlocks hret hname hh hX hl
  subst hh
  obtain ⟨hx, hb, hml, hown, hT⟩ := id F
  have hK : va_K Dg classes (kTy k) s := hX
  have hA : ∀ q : Nat, s.heap.size ≤ q → va_A ((wE a b u v) ++ (wP b k G) ++ (wM u k M) ++ (wM v k N)) s.heap.size q := fun q h => Or.inr h
  have hD := hD.self (sz := s.heap.size)
  have hS : va_S (va_A ((wE a b u v) ++ (wP b k G) ++ (wM u k M) ++ (wM v k N)) s.heap.size) s.heap s.heap [] := va_S.rf
  have hl : lv_has ls 1 [(0, .ref (a 0))] := hl
  refine lv_aload_n hx hb d_Eng_restart_0 rfl (lv_at hl 0 rfl) ?_
  refine km_Vv (wr := []) F (c_Eng_beginBoth l Dg a b u v k G M N _ hP (hD.weaken (fun _ _ _ _ => trivial))) kx_K hK kw_Eng_50 tw1_122 ts_0 (va_recv (ci := 0) (q0 := 0) hK hP rfl rfl) hP hD hS hA [0, 1, 2, 3, 4, 5, 6, 7, 8, 9, 10, 11, 12, 13, 14, 15, 16] [] rfl rfl (by decide) (by decide) d_Eng_restart_1 ⟨⟨by decide, by decide⟩, Nat.le_refl _, Nat.le_refl _⟩ rfl hl.1 rfl (Nat.le_of_ble_eq_true rfl) (fun H locs hP hD hS => ?_)
  have hP : va_P Dg classes ((wE a b u v) ++ (wP b k G) ++ (wM u k (sBegin M)) ++ (wM v k (sBegin N))) H := hP
  have hD : va_D (va_A ((wE a b u v) ++ (wP b k G) ++ (wM u k M) ++ (wM v k N)) s.heap.size) ((wE a b u v) ++ (wP b k G) ++ (wM u k (sBegin M)) ++ (wM v k (sBegin N))) := hD
  obtain ⟨Ms1, hMs1⟩ : ∃ z9, z9 = (sBegin M) := ⟨_, rfl⟩
  rw [← hMs1] at hP hD
  obtain ⟨Ns2, hNs2⟩ : ∃ z9, z9 = (sBegin N) := ⟨_, rfl⟩
  rw [← hNs2] at hP hD
  exact km_v F hlocks hret hP hD hS d_Eng_restart_4 (by subst hMs1 hNs2; rfl)

set_option maxRecDepth 100000 in
set_option maxHeartbeats 4000000 in
theorem c_Eng_clear (l : Launch) (Dg : va_G) (a b u v : Nat → Nat) (k : Nat → ClassId) (G M N : vSt) (H : Heap) (hP : va_P Dg classes ((wE a b u v) ++ (wP b k G) ++ (wM u k M) ++ (wM v k N)) H) (hD : va_D (fun _ => True) ((wE a b u v) ++ (wP b k G) ++ (wM u k M) ++ (wM v k N))) : kMv l y_Eng_clear b_Eng_clear 1 3 63 [.ref (a 0)] H (va_K Dg classes (kTy k)) Dg ((wE a b u v) ++ (wP b k G) ++ (wM u k M) ++ (wM v k N)) (wE a b u v ++ wP b k (sNone G) ++ wM u k (sBegin M) ++ wM v k (sBegin N)) := by
  refine k_of (by decide) (Nat.le_of_ble_eq_true rfl) ?_
  intro p e s m below meth cd ls F hlocks hret hname hh hX hl
  subst hh
  obtain ⟨hx, hb, hml, hown, hT⟩ := id F
  have hK : va_K Dg classes (kTy k) s := hX
  have hA : ∀ q : Nat, s.heap.size ≤ q → va_A ((wE a b u v) ++ (wP b k G) ++ (wM u k M) ++ (wM v k N)) s.heap.size q := fun q h => Or.inr h
  have hD := hD.self (sz := s.heap.size)
  have hS : va_S (va_A ((wE a b u v) ++ (wP b k G) ++ (wM u k M) ++ (wM v k N)) s.heap.size) s.heap s.heap [] := va_S.rf
  have hl : lv_has ls 1 [(0, .ref (a 0))] := hl
  refine lv_aload_n hx hb d_Eng_clear_0 rfl (lv_at hl 0 rfl) ?_
  refine va_get (D := Dg) (ci := 0) (v := .ref (b 0)) (C := R_Eng) (T := F_Eng) (N := 3) hx hb hT in_Eng hown hK hP 0 rfl rfl 0 (by decide) (hT _ tw1_102) (fun _ h9 => h9) rfl d_Eng_clear_1 ?_
  refine km_Vv (wr := ((wE a b u v) ++ (wM u k M) ++ (wM v k N))) F (c_Prg_removeAll l Dg b k G  _ (hP.sub (ws' := (wP b k G)) [1, 2, 3, 4, 5, 6] rfl) ((hD.sub (ws' := (wP b k G)) [1, 2, 3, 4, 5, 6] (by decide) rfl).weaken (fun _ _ _ _ => trivial)) ) kx_K hK kw_Eng_66 tw1_117 tw1_118 (va_recv (ci := 2) (q0 := 1) hK hP rfl rfl) hP hD hS hA [1, 2, 3, 4, 5, 6] [0, 7, 8, 9, 10, 11, 12, 13, 14, 15, 16] rfl rfl (by decide) (by decide) d_Eng_clear_4 ⟨⟨by decide, by decide⟩, Nat.le_refl _, Nat.le_refl _⟩ rfl hl.1 rfl (Nat.le_of_ble_eq_true rfl) (fun H locs hP hD hS => ?_)
  have hP : va_P Dg classes ((wE a b u v) ++ (wM u k M) ++ (wM v k N) ++ (wP b k (sNone G))) H := hP
  have hD : va_D (va_A ((wE a b u v) ++ (wP b k G) ++ (wM u k M) ++ (wM v k N)) s.heap.size) ((wE a b u v) ++ (wM u k M) ++ (wM v k N) ++ (wP b k (sNone G))) := hD
  obtain ⟨Gs1, hGs1⟩ : ∃ z9, z9 = (sNone G) := ⟨_, rfl⟩
  rw [← hGs1] at hP hD
  refine lv_aload_n hx hb d_Eng_clear_7 rfl (lv_at hl 0 rfl) ?_
  refine km_Vv (wr := []) F (c_Eng_beginBoth l Dg a b u v k Gs1 M N _ (hP.sub (ws' := ((wE a b u v) ++ (wP b k Gs1) ++ (wM u k M) ++ (wM v k N))) [0, 11, 12, 13, 14, 15, 16, 1, 2, 3, 4, 5, 6, 7, 8, 9, 10] rfl) ((hD.sub (ws' := ((wE a b u v) ++ (wP b k Gs1) ++ (wM u k M) ++ (wM v k N))) [0, 11, 12, 13, 14, 15, 16, 1, 2, 3, 4, 5, 6, 7, 8, 9, 10] (by decide) rfl).weaken (fun _ _ _ _ => trivial))) kx_K hK kw_Eng_50 tw1_122 ts_0 (va_recv (ci := 0) (q0 := 0) hK hP rfl rfl) hP hD hS hA [0, 11, 12, 13, 14, 15, 16, 1, 2, 3, 4, 5, 6, 7, 8, 9, 10] [] rfl rfl (by decide) (by decide) d_Eng_clear_8 ⟨⟨by decide, by decide⟩, Nat.le_refl _, Nat.le_refl _⟩ rfl hl.1 rfl (Nat.le_of_ble_eq_true rfl) (fun H locs hP hD hS => ?_)
  have hP : va_P Dg classes ((wE a b u v) ++ (wP b k Gs1) ++ (wM u k (sBegin M)) ++ (wM v k (sBegin N))) H := hP
  have hD : va_D (va_A ((wE a b u v) ++ (wP b k G) ++ (wM u k M) ++ (wM v k N)) s.heap.size) ((wE a b u v) ++ (wP b k Gs1) ++ (wM u k (sBegin M)) ++ (wM v k (sBegin N))) := hD
  obtain ⟨Ms2, hMs2⟩ : ∃ z9, z9 = (sBegin M) := ⟨_, rfl⟩
  rw [← hMs2] at hP hD
  obtain ⟨Ns3, hNs3⟩ : ∃ z9, z9 = (sBegin N) := ⟨_, rfl⟩
  rw [← hNs3] at hP hD
  exact km_v F hlocks hret hP hD hS d_Eng_clear_11 (by subst hGs1 hMs2 hNs3; rfl)

set_option maxRecDepth 100000 in
set_option maxHeartbeats 4000000 in
theorem c_Eng_fuse (l : Launch) (Dg : va_G) (a b u v : Nat → Nat) (k : Nat → ClassId) (G M N : vSt) (tL : Nat) (H : Heap) (hP : va_P Dg classes ((wE a b u v) ++ (wP b k G) ++ (wM u k M) ++ (wM v k N)) H) (hD : va_D (fun _ => True) ((wE a b u v) ++ (wP b k G) ++ (wM u k M) ++ (wM v k N))) (hp : pOk G) : kMi l y_Eng_fuse b_Eng_fuse 2 (some FieldType.int) 4 94 [.ref (a 0)] H (fun U => va_K Dg classes (kTy k) U ∧ rlX (va_A (wE a b u v ++ wP b k G ++ wM u k M ++ wM v k N) H.size) tL H U) Dg ((wE a b u v) ++ (wP b k G) ++ (wM u k M) ++ (wM v k N)) (wE a b u v ++ wP b k (sFuM G) ++ wM u k (sBegin M) ++ wM v k (sBegin N)) (sFuR G) := by
  refine k_of (by decide) (Nat.le_of_ble_eq_true rfl) ?_
  intro p e s m below meth cd ls F hlocks hret hname hh hX hl
  subst hh
  obtain ⟨hx, hb, hml, hown, hT⟩ := id F
  have hK : va_K Dg classes (kTy k) s := hX.1
  have hA : ∀ q : Nat, s.heap.size ≤ q → va_A ((wE a b u v) ++ (wP b k G) ++ (wM u k M) ++ (wM v k N)) s.heap.size q := fun q h => Or.inr h
  have hD := hD.self (sz := s.heap.size)
  have hS : va_S (va_A ((wE a b u v) ++ (wP b k G) ++ (wM u k M) ++ (wM v k N)) s.heap.size) s.heap s.heap [] := va_S.rf
  have hl : lv_has ls 2 [(0, .ref (a 0))] := hl
  refine lv_aload_n hx hb d_Eng_fuse_0 rfl (lv_at hl 0 rfl) ?_
  refine va_get (D := Dg) (ci := 0) (v := .ref (b 0)) (C := R_Eng) (T := F_Eng) (N := 3) hx hb hT in_Eng hown hK hP 0 rfl rfl 0 (by decide) (hT _ tw1_102) (fun _ h9 => h9) rfl d_Eng_fuse_1 ?_
  refine km_Vi (wr := ((wE a b u v) ++ (wM u k M) ++ (wM v k N))) F (c_Prg_fuseRows l Dg b k G tL _ (hP.sub (ws' := (wP b k G)) [1, 2, 3, 4, 5, 6] rfl) ((hD.sub (ws' := (wP b k G)) [1, 2, 3, 4, 5, 6] (by decide) rfl).weaken (fun _ _ _ _ => trivial)) hp) (kx_and kx_K rlX_m) ⟨hK, hX.2.narrow (va_free (wc := wP b k G) hD hS hA [1, 2, 3, 4, 5, 6] rfl)⟩ kw_Eng_69 tw1_136 tw1_137 (va_recv (ci := 2) (q0 := 1) hK hP rfl rfl) hP hD hS hA [1, 2, 3, 4, 5, 6] [0, 7, 8, 9, 10, 11, 12, 13, 14, 15, 16] rfl rfl (by decide) (by decide) d_Eng_fuse_4 ⟨⟨by decide, by decide⟩, Nat.le_refl _, Nat.le_refl _⟩ rfl hl.1 rfl (Nat.le_of_ble_eq_true rfl) (fun H locs hP hD hS => ?_)
  have hP : va_P Dg classes ((wE a b u v) ++ (wM u k M) ++ (wM v k N) ++ (wP b k (sFuM G))) H := hP
  have hD : va_D (va_A ((wE a b u v) ++ (wP b k G) ++ (wM u k M) ++ (wM v k N)) s.heap.size) ((wE a b u v) ++ (wM u k M) ++ (wM v k N) ++ (wP b k (sFuM G))) := hD
  obtain ⟨Gs1, hGs1⟩ : ∃ z9, z9 = (sFuM G) := ⟨_, rfl⟩
  rw [← hGs1] at hP hD
  refine lv_istore_n hx hb d_Eng_fuse_7 rfl hl (by decide) rfl (fun ls hl => ?_)
  have hl : lv_has ls 2 [(1, .int (sFuR G)), (0, .ref (a 0))] := hl
  refine lv_aload_n hx hb d_Eng_fuse_8 rfl (lv_at hl 1 rfl) ?_
  refine km_Vv (wr := []) F (c_Eng_beginBoth l Dg a b u v k Gs1 M N _ (hP.sub (ws' := ((wE a b u v) ++ (wP b k Gs1) ++ (wM u k M) ++ (wM v k N))) [0, 11, 12, 13, 14, 15, 16, 1, 2, 3, 4, 5, 6, 7, 8, 9, 10] rfl) ((hD.sub (ws' := ((wE a b u v) ++ (wP b k Gs1) ++ (wM u k M) ++ (wM v k N))) [0, 11, 12, 13, 14, 15, 16, 1, 2, 3, 4, 5, 6, 7, 8, 9, 10] (by decide) rfl).weaken (fun _ _ _ _ => trivial))) kx_K hK kw_Eng_50 tw1_122 ts_0 (va_recv (ci := 0) (q0 := 0) hK hP rfl rfl) hP hD hS hA [0, 11, 12, 13, 14, 15, 16, 1, 2, 3, 4, 5, 6, 7, 8, 9, 10] [] rfl rfl (by decide) (by decide) d_Eng_fuse_9 ⟨⟨by decide, by decide⟩, Nat.le_refl _, Nat.le_refl _⟩ rfl hl.1 rfl (Nat.le_of_ble_eq_true rfl) (fun H locs hP hD hS => ?_)
  have hP : va_P Dg classes ((wE a b u v) ++ (wP b k Gs1) ++ (wM u k (sBegin M)) ++ (wM v k (sBegin N))) H := hP
  have hD : va_D (va_A ((wE a b u v) ++ (wP b k G) ++ (wM u k M) ++ (wM v k N)) s.heap.size) ((wE a b u v) ++ (wP b k Gs1) ++ (wM u k (sBegin M)) ++ (wM v k (sBegin N))) := hD
  obtain ⟨Ms2, hMs2⟩ : ∃ z9, z9 = (sBegin M) := ⟨_, rfl⟩
  rw [← hMs2] at hP hD
  obtain ⟨Ns3, hNs3⟩ : ∃ z9, z9 = (sBegin N) := ⟨_, rfl⟩
  rw [← hNs3] at hP hD
  refine lv_iload_n hx hb d_Eng_fuse_12 rfl (lv_at hl 0 rfl) ?_
  exact km_i F hlocks hret hP hD hS d_Eng_fuse_13 rfl (by subst hGs1 hMs2 hNs3; rfl)

set_option maxRecDepth 100000 in
set_option maxHeartbeats 4000000 in
theorem c_Eng_add (l : Launch) (Dg : va_G) (a b u v : Nat → Nat) (k : Nat → ClassId) (G M N : vSt) (q vB : Nat) (c n : Int32) (H : Heap) (hP : va_P Dg classes ((wE a b u v) ++ (wP b k G) ++ (wM u k M) ++ (wM v k N)) H) (hD : va_D (fun _ => True) ((wE a b u v) ++ (wP b k G) ++ (wM u k M) ++ (wM v k N))) (hal : ¬ sAllow c n = 0) (hp : ∃ z : Nat, z < 80 ∧ G 5 0 = nI z) : kMi l y_Eng_add b_Eng_add 4 (some FieldType.int) 5 110 [.ref (a 0), .int c, .int n] H (kaX Dg k q vB H) Dg ((wE a b u v) ++ (wP b k G) ++ (wM u k M) ++ (wM v k N)) (wE a b u v ++ wP b k (sApp G c n) ++ wM u k (sBegin M) ++ wM v k (sBegin N)) ((G 5 0)) := by
  refine k_of (by decide) (Nat.le_of_ble_eq_true rfl) ?_
  intro p e s m below meth cd ls F hlocks hret hname hh hX hl
  subst hh
  obtain ⟨hx, hb, hml, hown, hT⟩ := id F
  have hK : va_K Dg classes (kTy k) s := hX.1
  have hA : ∀ q : Nat, s.heap.size ≤ q → va_A ((wE a b u v) ++ (wP b k G) ++ (wM u k M) ++ (wM v k N)) s.heap.size q := fun q h => Or.inr h
  have hD := hD.self (sz := s.heap.size)
  have hS : va_S (va_A ((wE a b u v) ++ (wP b k G) ++ (wM u k M) ++ (wM v k N)) s.heap.size) s.heap s.heap [] := va_S.rf
  have hl : lv_has ls 4 [(0, .ref (a 0)), (1, .int c), (2, .int n)] := hl
  refine lv_iload_n hx hb d_Eng_add_0 rfl (lv_at hl 1 rfl) ?_
  refine lv_iload_n hx hb d_Eng_add_1 rfl (lv_at hl 2 rfl) ?_
  refine kp_S F (c_Prg_allows l q vB c n _) aX_m hX.2 kw_Eng_26 tw1_182 hS d_Eng_add_2 ⟨⟨by decide, by decide⟩, Nat.le_refl _, Nat.le_refl _⟩ rfl hl.1 rfl (Nat.le_of_ble_eq_true rfl) (fun locs hS => ?_)
  refine lv_if_ne (tgt := 18) hx hb d_Eng_add_5 (by decide) (fun _ => ?_) (fun h9 => absurd h9 hal)
  refine lv_aload_n hx hb d_Eng_add_18 rfl (lv_at hl 0 rfl) ?_
  refine va_get (D := Dg) (ci := 0) (v := .ref (b 0)) (C := R_Eng) (T := F_Eng) (N := 3) hx hb hT in_Eng hown hK hP 0 rfl rfl 0 (by decide) (hT _ tw1_102) (fun _ h9 => h9) rfl d_Eng_add_19 ?_
  refine va_get (D := Dg) (ci := 2) (v := .int (G 5 0)) (C := R_Prg) (T := F_Prg) (N := 7) hx hb hT in_Prg hown hK hP 1 rfl rfl 5 (by decide) (hT _ tw1_40) (fun _ h9 => h9) rfl d_Eng_add_22 ?_
  refine lv_bipush (v := 80) hx hb d_Eng_add_25 (by decide) ?_
  refine lv_icmp_ne (tgt := 40) hx hb d_Eng_add_27 (by decide) (fun _ => ?_) (fun h9 => absurd h9 (fun z9 => by obtain ⟨z, h1, h2⟩ := hp; rw [h2] at z9; have := (nI_eq (by omega) (by decide)).mp (show nI z = nI 80 from z9); omega))
  refine lv_aload_n hx hb d_Eng_add_40 rfl (lv_at hl 0 rfl) ?_
  refine va_get (D := Dg) (ci := 0) (v := .ref (b 0)) (C := R_Eng) (T := F_Eng) (N := 3) hx hb hT in_Eng hown hK hP 0 rfl rfl 0 (by decide) (hT _ tw1_102) (fun _ h9 => h9) rfl d_Eng_add_41 ?_
  refine lv_iload_n hx hb d_Eng_add_44 rfl (lv_at hl 1 rfl) ?_
  refine lv_iload_n hx hb d_Eng_add_45 rfl (lv_at hl 2 rfl) ?_
  refine km_Vi (wr := ((wE a b u v) ++ (wM u k M) ++ (wM v k N))) F (c_Prg_append l Dg b k G c n _ (hP.sub (ws' := (wP b k G)) [1, 2, 3, 4, 5, 6] rfl) ((hD.sub (ws' := (wP b k G)) [1, 2, 3, 4, 5, 6] (by decide) rfl).weaken (fun _ _ _ _ => trivial)) hp) kx_K hK kw_Eng_46 tw2_78 tw2_79 (va_recv (ci := 2) (q0 := 1) hK hP rfl rfl) hP hD hS hA [1, 2, 3, 4, 5, 6] [0, 7, 8, 9, 10, 11, 12, 13, 14, 15, 16] rfl rfl (by decide) (by decide) d_Eng_add_46 ⟨⟨by decide, by decide⟩, Nat.le_refl _, Nat.le_refl _⟩ rfl hl.1 rfl (Nat.le_of_ble_eq_true rfl) (fun H locs hP hD hS => ?_)
  have hP : va_P Dg classes ((wE a b u v) ++ (wM u k M) ++ (wM v k N) ++ (wP b k (sApp G c n))) H := hP
  have hD : va_D (va_A ((wE a b u v) ++ (wP b k G) ++ (wM u k M) ++ (wM v k N)) s.heap.size) ((wE a b u v) ++ (wM u k M) ++ (wM v k N) ++ (wP b k (sApp G c n))) := hD
  obtain ⟨Gs1, hGs1⟩ : ∃ z9, z9 = (sApp G c n) := ⟨_, rfl⟩
  rw [← hGs1] at hP hD
  refine lv_istore_n hx hb d_Eng_add_49 rfl hl (by decide) rfl (fun ls hl => ?_)
  have hl : lv_has ls 4 [(3, .int (G 5 0)), (0, .ref (a 0)), (1, .int c), (2, .int n)] := hl
  refine lv_aload_n hx hb d_Eng_add_50 rfl (lv_at hl 1 rfl) ?_
  refine km_Vv (wr := []) F (c_Eng_beginBoth l Dg a b u v k Gs1 M N _ (hP.sub (ws' := ((wE a b u v) ++ (wP b k Gs1) ++ (wM u k M) ++ (wM v k N))) [0, 11, 12, 13, 14, 15, 16, 1, 2, 3, 4, 5, 6, 7, 8, 9, 10] rfl) ((hD.sub (ws' := ((wE a b u v) ++ (wP b k Gs1) ++ (wM u k M) ++ (wM v k N))) [0, 11, 12, 13, 14, 15, 16, 1, 2, 3, 4, 5, 6, 7, 8, 9, 10] (by decide) rfl).weaken (fun _ _ _ _ => trivial))) kx_K hK kw_Eng_50 tw1_122 ts_0 (va_recv (ci := 0) (q0 := 0) hK hP rfl rfl) hP hD hS hA [0, 11, 12, 13, 14, 15, 16, 1, 2, 3, 4, 5, 6, 7, 8, 9, 10] [] rfl rfl (by decide) (by decide) d_Eng_add_51 ⟨⟨by decide, by decide⟩, Nat.le_refl _, Nat.le_refl _⟩ rfl hl.1 rfl (Nat.le_of_ble_eq_true rfl) (fun H locs hP hD hS => ?_)
  have hP : va_P Dg classes ((wE a b u v) ++ (wP b k Gs1) ++ (wM u k (sBegin M)) ++ (wM v k (sBegin N))) H := hP
  have hD : va_D (va_A ((wE a b u v) ++ (wP b k G) ++ (wM u k M) ++ (wM v k N)) s.heap.size) ((wE a b u v) ++ (wP b k Gs1) ++ (wM u k (sBegin M)) ++ (wM v k (sBegin N))) := hD
  obtain ⟨Ms2, hMs2⟩ : ∃ z9, z9 = (sBegin M) := ⟨_, rfl⟩
  rw [← hMs2] at hP hD
  obtain ⟨Ns3, hNs3⟩ : ∃ z9, z9 = (sBegin N) := ⟨_, rfl⟩
  rw [← hNs3] at hP hD
  refine lv_iload_n hx hb d_Eng_add_54 rfl (lv_at hl 0 rfl) ?_
  exact km_i F hlocks hret hP hD hS d_Eng_add_55 rfl (by subst hGs1 hMs2 hNs3; rfl)

set_option maxRecDepth 100000 in
set_option maxHeartbeats 4000000 in
theorem c_Eng_change (l : Launch) (Dg : va_G) (a b u v : Nat → Nat) (k : Nat → ClassId) (G M N : vSt) (q vB : Nat) (pl c n : Int32) (H : Heap) (hP : va_P Dg classes ((wE a b u v) ++ (wP b k G) ++ (wM u k M) ++ (wM v k N)) H) (hD : va_D (fun _ => True) ((wE a b u v) ++ (wP b k G) ++ (wM u k M) ++ (wM v k N))) (hha : ¬ sHas G pl = 0) (hal : ¬ sAllow c n = 0) (hp : pOk G) : kMv l y_Eng_change b_Eng_change 4 5 107 [.ref (a 0), .int pl, .int c, .int n] H (kaX Dg k q vB H) Dg ((wE a b u v) ++ (wP b k G) ++ (wM u k M) ++ (wM v k N)) (wE a b u v ++ wP b k (sRepl G pl c n) ++ wM u k (sBegin M) ++ wM v k (sBegin N)) := by
  refine k_of (by decide) (Nat.le_of_ble_eq_true rfl) ?_
  intro p e s m below meth cd ls F hlocks hret hname hh hX hl
  subst hh
  obtain ⟨hx, hb, hml, hown, hT⟩ := id F
  have hK : va_K Dg classes (kTy k) s := hX.1
  have hA : ∀ q : Nat, s.heap.size ≤ q → va_A ((wE a b u v) ++ (wP b k G) ++ (wM u k M) ++ (wM v k N)) s.heap.size q := fun q h => Or.inr h
  have hD := hD.self (sz := s.heap.size)
  have hS : va_S (va_A ((wE a b u v) ++ (wP b k G) ++ (wM u k M) ++ (wM v k N)) s.heap.size) s.heap s.heap [] := va_S.rf
  have hl : lv_has ls 4 [(0, .ref (a 0)), (1, .int pl), (2, .int c), (3, .int n)] := hl
  refine lv_aload_n hx hb d_Eng_change_0 rfl (lv_at hl 0 rfl) ?_
  refine va_get (D := Dg) (ci := 0) (v := .ref (b 0)) (C := R_Eng) (T := F_Eng) (N := 3) hx hb hT in_Eng hown hK hP 0 rfl rfl 0 (by decide) (hT _ tw1_102) (fun _ h9 => h9) rfl d_Eng_change_1 ?_
  refine lv_iload_n hx hb d_Eng_change_4 rfl (lv_at hl 1 rfl) ?_
  refine kp_V F (c_Prg_has l Dg b k G pl _ (hP.sub (ws' := (wP b k G)) [1, 2, 3, 4, 5, 6] rfl) ) kx_K hK kw_Eng_53 tw2_94 tw2_95 (va_recv (ci := 2) (q0 := 1) hK hP rfl rfl) hS d_Eng_change_5 ⟨⟨by decide, by decide⟩, Nat.le_refl _, Nat.le_refl _⟩ rfl hl.1 rfl (Nat.le_of_ble_eq_true rfl) (fun locs hS => ?_)
  refine lv_if_ne (tgt := 21) hx hb d_Eng_change_8 (by decide) (fun _ => ?_) (fun h9 => absurd h9 hha)
  refine lv_iload_n hx hb d_Eng_change_21 rfl (lv_at hl 2 rfl) ?_
  refine lv_iload_n hx hb d_Eng_change_22 rfl (lv_at hl 3 rfl) ?_
  refine kp_S F (c_Prg_allows l q vB c n _) aX_m hX.2 kw_Eng_26 tw1_182 hS d_Eng_change_23 ⟨⟨by decide, by decide⟩, Nat.le_refl _, Nat.le_refl _⟩ rfl hl.1 rfl (Nat.le_of_ble_eq_true rfl) (fun locs hS => ?_)
  refine lv_if_ne (tgt := 39) hx hb d_Eng_change_26 (by decide) (fun _ => ?_) (fun h9 => absurd h9 hal)
  refine lv_aload_n hx hb d_Eng_change_39 rfl (lv_at hl 0 rfl) ?_
  refine va_get (D := Dg) (ci := 0) (v := .ref (b 0)) (C := R_Eng) (T := F_Eng) (N := 3) hx hb hT in_Eng hown hK hP 0 rfl rfl 0 (by decide) (hT _ tw1_102) (fun _ h9 => h9) rfl d_Eng_change_40 ?_
  refine lv_iload_n hx hb d_Eng_change_43 rfl (lv_at hl 1 rfl) ?_
  refine lv_iload_n hx hb d_Eng_change_44 rfl (lv_at hl 2 rfl) ?_
  refine lv_iload_n hx hb d_Eng_change_45 rfl (lv_at hl 3 rfl) ?_
  refine km_Vv (wr := ((wE a b u v) ++ (wM u k M) ++ (wM v k N))) F (c_Prg_replace l Dg b k G pl c n _ (hP.sub (ws' := (wP b k G)) [1, 2, 3, 4, 5, 6] rfl) ((hD.sub (ws' := (wP b k G)) [1, 2, 3, 4, 5, 6] (by decide) rfl).weaken (fun _ _ _ _ => trivial)) hp (has_in hp hha)) kx_K hK kw_Eng_62 tw2_82 tw2_83 (va_recv (ci := 2) (q0 := 1) hK hP rfl rfl) hP hD hS hA [1, 2, 3, 4, 5, 6] [0, 7, 8, 9, 10, 11, 12, 13, 14, 15, 16] rfl rfl (by decide) (by decide) d_Eng_change_46 ⟨⟨by decide, by decide⟩, Nat.le_refl _, Nat.le_refl _⟩ rfl hl.1 rfl (Nat.le_of_ble_eq_true rfl) (fun H locs hP hD hS => ?_)
  have hP : va_P Dg classes ((wE a b u v) ++ (wM u k M) ++ (wM v k N) ++ (wP b k (sRepl G pl c n))) H := hP
  have hD : va_D (va_A ((wE a b u v) ++ (wP b k G) ++ (wM u k M) ++ (wM v k N)) s.heap.size) ((wE a b u v) ++ (wM u k M) ++ (wM v k N) ++ (wP b k (sRepl G pl c n))) := hD
  obtain ⟨Gs1, hGs1⟩ : ∃ z9, z9 = (sRepl G pl c n) := ⟨_, rfl⟩
  rw [← hGs1] at hP hD
  refine lv_aload_n hx hb d_Eng_change_49 rfl (lv_at hl 0 rfl) ?_
  refine km_Vv (wr := []) F (c_Eng_beginBoth l Dg a b u v k Gs1 M N _ (hP.sub (ws' := ((wE a b u v) ++ (wP b k Gs1) ++ (wM u k M) ++ (wM v k N))) [0, 11, 12, 13, 14, 15, 16, 1, 2, 3, 4, 5, 6, 7, 8, 9, 10] rfl) ((hD.sub (ws' := ((wE a b u v) ++ (wP b k Gs1) ++ (wM u k M) ++ (wM v k N))) [0, 11, 12, 13, 14, 15, 16, 1, 2, 3, 4, 5, 6, 7, 8, 9, 10] (by decide) rfl).weaken (fun _ _ _ _ => trivial))) kx_K hK kw_Eng_50 tw1_122 ts_0 (va_recv (ci := 0) (q0 := 0) hK hP rfl rfl) hP hD hS hA [0, 11, 12, 13, 14, 15, 16, 1, 2, 3, 4, 5, 6, 7, 8, 9, 10] [] rfl rfl (by decide) (by decide) d_Eng_change_50 ⟨⟨by decide, by decide⟩, Nat.le_refl _, Nat.le_refl _⟩ rfl hl.1 rfl (Nat.le_of_ble_eq_true rfl) (fun H locs hP hD hS => ?_)
  have hP : va_P Dg classes ((wE a b u v) ++ (wP b k Gs1) ++ (wM u k (sBegin M)) ++ (wM v k (sBegin N))) H := hP
  have hD : va_D (va_A ((wE a b u v) ++ (wP b k G) ++ (wM u k M) ++ (wM v k N)) s.heap.size) ((wE a b u v) ++ (wP b k Gs1) ++ (wM u k (sBegin M)) ++ (wM v k (sBegin N))) := hD
  obtain ⟨Ms2, hMs2⟩ : ∃ z9, z9 = (sBegin M) := ⟨_, rfl⟩
  rw [← hMs2] at hP hD
  obtain ⟨Ns3, hNs3⟩ : ∃ z9, z9 = (sBegin N) := ⟨_, rfl⟩
  rw [← hNs3] at hP hD
  exact km_v F hlocks hret hP hD hS d_Eng_change_53 (by subst hGs1 hMs2 hNs3; rfl)

set_option maxRecDepth 100000 in
set_option maxHeartbeats 4000000 in
theorem c_Eng_about (l : Launch) (Dg : va_G) (a b u v : Nat → Nat) (k : Nat → ClassId) (G M N : vSt) (z w : Int32) (H : Heap) (hP : va_P Dg classes ((wE a b u v) ++ (wP b k G) ++ (wM u k M) ++ (wM v k N)) H) : kPu l y_Eng_about b_Eng_about 3 (some FieldType.int) 1 21 [.ref (a 0), .int z, .int w] H (va_K Dg classes (kTy k)) (sFact (if z = 0 then M else N) w) := by
  refine k_of (by decide) (Nat.le_of_ble_eq_true rfl) ?_
  intro p e s m below meth cd ls F hlocks hret hname hh hX hl
  subst hh
  obtain ⟨hx, hb, hml, hown, hT⟩ := id F
  have hK : va_K Dg classes (kTy k) s := hX
  have hS : va_S (fun _ => False) s.heap s.heap [] := va_S.rf
  have hl : lv_has ls 3 [(0, .ref (a 0)), (1, .int z), (2, .int w)] := hl
  by_cases hz : z = 0
  · refine lv_aload_n hx hb d_Eng_about_0 rfl (lv_at hl 0 rfl) ?_
    refine lv_iload_n hx hb d_Eng_about_1 rfl (lv_at hl 1 rfl) ?_
    refine kp_Vr F (c_Eng_machineOf l Dg a b u v k G M N z _ hP) kx_K hK kw_Eng_84 tw1_166 ts_3 (va_recv (ci := 0) (q0 := 0) hK hP rfl rfl) hS d_Eng_about_2 ⟨⟨by decide, by decide⟩, Nat.zero_le _, Nat.zero_le _⟩ rfl hl.1 rfl (Nat.le_of_ble_eq_true rfl) (fun locs hS => ?_)
    rw [show (if z = 0 then u 0 else v 0) = u 0 from if_pos hz]
    refine lv_iload_n hx hb d_Eng_about_5 rfl (lv_at hl 2 rfl) ?_
    refine kp_V F (c_Mac_factOf l Dg u k M w _ (hP.sub (ws' := (wM u k M)) [7, 8, 9, 10, 11] rfl) ) kx_K hK kw_Eng_92 tw1_169 tw1_170 (va_recv (ci := 1) (q0 := 7) hK hP rfl rfl) hS d_Eng_about_6 ⟨⟨by decide, by decide⟩, Nat.le_refl _, Nat.le_refl _⟩ rfl hl.1 rfl (Nat.le_of_ble_eq_true rfl) (fun locs hS => ?_)
    exact kp_i F hlocks hret hS d_Eng_about_9 (by rw [if_pos hz])
  · refine lv_aload_n hx hb d_Eng_about_0 rfl (lv_at hl 0 rfl) ?_
    refine lv_iload_n hx hb d_Eng_about_1 rfl (lv_at hl 1 rfl) ?_
    refine kp_Vr F (c_Eng_machineOf l Dg a b u v k G M N z _ hP) kx_K hK kw_Eng_84 tw1_166 ts_3 (va_recv (ci := 0) (q0 := 0) hK hP rfl rfl) hS d_Eng_about_2 ⟨⟨by decide, by decide⟩, Nat.zero_le _, Nat.zero_le _⟩ rfl hl.1 rfl (Nat.le_of_ble_eq_true rfl) (fun locs hS => ?_)
    rw [show (if z = 0 then u 0 else v 0) = v 0 from if_neg hz]
    refine lv_iload_n hx hb d_Eng_about_5 rfl (lv_at hl 2 rfl) ?_
    refine kp_V F (c_Mac_factOf l Dg v k N w _ (hP.sub (ws' := (wM v k N)) [12, 13, 14, 15, 16] rfl) ) kx_K hK kw_Eng_92 tw1_169 tw1_170 (va_recv (ci := 1) (q0 := 12) hK hP rfl rfl) hS d_Eng_about_6 ⟨⟨by decide, by decide⟩, Nat.le_refl _, Nat.le_refl _⟩ rfl hl.1 rfl (Nat.le_of_ble_eq_true rfl) (fun locs hS => ?_)
    exact kp_i F hlocks hret hS d_Eng_about_9 (by rw [if_neg hz])

set_option maxRecDepth 100000 in
set_option maxHeartbeats 4000000 in
theorem c_Eng_run (l : Launch) (Dg : va_G) (a b u v : Nat → Nat) (k : Nat → ClassId) (G M N : vSt) (z n : Int32) (H : Heap) (hP : va_P Dg classes ((wE a b u v) ++ (wP b k G) ++ (wM u k M) ++ (wM v k N)) H) (hD : va_D (fun _ => True) ((wE a b u v) ++ (wP b k G) ++ (wM u k M) ++ (wM v k N))) (hfu : z = 0 ∨ ¬ G 5 1 = 0) (hro : runOk G z (sMost n) (if z = 0 then M else N)) : kMi l y_Eng_run b_Eng_run 3 (some FieldType.int) 5 118 [.ref (a 0), .int z, .int n] H (va_K Dg classes (kTy k)) Dg ((wE a b u v) ++ (wP b k G) ++ (wM u k M) ++ (wM v k N)) (wE a b u v ++ wP b k G ++ wM u k (if z = 0 then sRunM G M z n else M) ++ wM v k (if z = 0 then N else sRunM G N z n)) (sRunR G (if z = 0 then M else N) z n) := by
  refine k_of (by decide) (Nat.le_of_ble_eq_true rfl) ?_
  intro p e s m below meth cd ls F hlocks hret hname hh hX hl
  subst hh
  obtain ⟨hx, hb, hml, hown, hT⟩ := id F
  have hK : va_K Dg classes (kTy k) s := hX
  have hA : ∀ q : Nat, s.heap.size ≤ q → va_A ((wE a b u v) ++ (wP b k G) ++ (wM u k M) ++ (wM v k N)) s.heap.size q := fun q h => Or.inr h
  have hD := hD.self (sz := s.heap.size)
  have hS : va_S (va_A ((wE a b u v) ++ (wP b k G) ++ (wM u k M) ++ (wM v k N)) s.heap.size) s.heap s.heap [] := va_S.rf
  have hl : lv_has ls 3 [(0, .ref (a 0)), (1, .int z), (2, .int n)] := hl
  by_cases hz : z = 0
  · refine lv_iload_n hx hb d_Eng_run_0 rfl (lv_at hl 1 rfl) ?_
    refine lv_if_eq (tgt := 24) hx hb d_Eng_run_1 (by decide) (fun _ => ?_) (fun h9 => absurd hz h9)
    refine lv_aload_n hx hb d_Eng_run_24 rfl (lv_at hl 0 rfl) ?_
    refine lv_iload_n hx hb d_Eng_run_25 rfl (lv_at hl 1 rfl) ?_
    refine kp_Vr F (c_Eng_machineOf l Dg a b u v k G M N z _ hP) kx_K hK kw_Eng_84 tw1_166 ts_3 (va_recv (ci := 0) (q0 := 0) hK hP rfl rfl) hS d_Eng_run_26 ⟨⟨by decide, by decide⟩, Nat.zero_le _, Nat.zero_le _⟩ rfl hl.1 rfl (Nat.le_of_ble_eq_true rfl) (fun locs hS => ?_)
    rw [show (if z = 0 then u 0 else v 0) = u 0 from if_pos hz]
    refine lv_aload_n hx hb d_Eng_run_29 rfl (lv_at hl 0 rfl) ?_
    refine va_get (D := Dg) (ci := 0) (v := .ref (b 0)) (C := R_Eng) (T := F_Eng) (N := 3) hx hb hT in_Eng hown hK hP 0 rfl rfl 0 (by decide) (hT _ tw1_102) (fun _ h9 => h9) rfl d_Eng_run_30 ?_
    refine lv_iload_n hx hb d_Eng_run_33 rfl (lv_at hl 1 rfl) ?_
    refine lv_iload_n hx hb d_Eng_run_34 rfl (lv_at hl 2 rfl) ?_
    refine km_Vi (wr := ((wE a b u v) ++ (wM v k N))) F (c_Mac_goOn l Dg u b k M G z n _ (hP.sub (ws' := ((wM u k M) ++ (wP b k G))) [7, 8, 9, 10, 11, 1, 2, 3, 4, 5, 6] rfl) ((hD.sub (ws' := ((wM u k M) ++ (wP b k G))) [7, 8, 9, 10, 11, 1, 2, 3, 4, 5, 6] (by decide) rfl).weaken (fun _ _ _ _ => trivial)) (by rw [if_pos hz] at hro; exact hro)) kx_K hK kw_Eng_88 tw2_144 tw2_145 (va_recv (ci := 1) (q0 := 7) hK hP rfl rfl) hP hD hS hA [7, 8, 9, 10, 11, 1, 2, 3, 4, 5, 6] [0, 12, 13, 14, 15, 16] rfl rfl (by decide) (by decide) d_Eng_run_35 ⟨⟨by decide, by decide⟩, Nat.le_refl _, Nat.le_refl _⟩ rfl hl.1 rfl (Nat.le_of_ble_eq_true rfl) (fun H locs hP hD hS => ?_)
    have hP : va_P Dg classes ((wE a b u v) ++ (wM v k N) ++ (wM u k (sRunM G M z n)) ++ (wP b k G)) H := hP
    have hD : va_D (va_A ((wE a b u v) ++ (wP b k G) ++ (wM u k M) ++ (wM v k N)) s.heap.size) ((wE a b u v) ++ (wM v k N) ++ (wM u k (sRunM G M z n)) ++ (wP b k G)) := hD
    obtain ⟨Ms1, hMs1⟩ : ∃ z9, z9 = (sRunM G M z n) := ⟨_, rfl⟩
    rw [← hMs1] at hP hD
    have hP := hP.sub (ws' := (wE a b u v) ++ (wP b k G) ++ (wM u k Ms1) ++ (wM v k N)) [0, 11, 12, 13, 14, 15, 16, 6, 7, 8, 9, 10, 1, 2, 3, 4, 5] rfl
    have hD := hD.sub (ws' := (wE a b u v) ++ (wP b k G) ++ (wM u k Ms1) ++ (wM v k N)) [0, 11, 12, 13, 14, 15, 16, 6, 7, 8, 9, 10, 1, 2, 3, 4, 5] (by decide) rfl
    exact km_i F hlocks hret hP hD hS d_Eng_run_38 (by rw [if_pos hz]) (by subst hMs1; rw [if_pos hz, if_pos hz])
  · refine lv_iload_n hx hb d_Eng_run_0 rfl (lv_at hl 1 rfl) ?_
    refine lv_if_eq (tgt := 24) hx hb d_Eng_run_1 (by decide) (fun h9 => absurd h9 hz) (fun _ => ?_)
    refine lv_aload_n hx hb d_Eng_run_4 rfl (lv_at hl 0 rfl) ?_
    refine va_get (D := Dg) (ci := 0) (v := .ref (b 0)) (C := R_Eng) (T := F_Eng) (N := 3) hx hb hT in_Eng hown hK hP 0 rfl rfl 0 (by decide) (hT _ tw1_102) (fun _ h9 => h9) rfl d_Eng_run_5 ?_
    refine va_get (D := Dg) (ci := 2) (v := .int (G 5 1)) (C := R_Prg) (T := F_Prg) (N := 7) hx hb hT in_Prg hown hK hP 1 rfl rfl 6 (by decide) (hT _ tw1_43) (fun _ h9 => h9) rfl d_Eng_run_8 ?_
    refine lv_if_ne (tgt := 24) hx hb d_Eng_run_11 (by decide) (fun _ => ?_) (fun h9 => absurd h9 (hfu.resolve_left hz))
    refine lv_aload_n hx hb d_Eng_run_24 rfl (lv_at hl 0 rfl) ?_
    refine lv_iload_n hx hb d_Eng_run_25 rfl (lv_at hl 1 rfl) ?_
    refine kp_Vr F (c_Eng_machineOf l Dg a b u v k G M N z _ hP) kx_K hK kw_Eng_84 tw1_166 ts_3 (va_recv (ci := 0) (q0 := 0) hK hP rfl rfl) hS d_Eng_run_26 ⟨⟨by decide, by decide⟩, Nat.zero_le _, Nat.zero_le _⟩ rfl hl.1 rfl (Nat.le_of_ble_eq_true rfl) (fun locs hS => ?_)
    rw [show (if z = 0 then u 0 else v 0) = v 0 from if_neg hz]
    refine lv_aload_n hx hb d_Eng_run_29 rfl (lv_at hl 0 rfl) ?_
    refine va_get (D := Dg) (ci := 0) (v := .ref (b 0)) (C := R_Eng) (T := F_Eng) (N := 3) hx hb hT in_Eng hown hK hP 0 rfl rfl 0 (by decide) (hT _ tw1_102) (fun _ h9 => h9) rfl d_Eng_run_30 ?_
    refine lv_iload_n hx hb d_Eng_run_33 rfl (lv_at hl 1 rfl) ?_
    refine lv_iload_n hx hb d_Eng_run_34 rfl (lv_at hl 2 rfl) ?_
    refine km_Vi (wr := ((wE a b u v) ++ (wM u k M))) F (c_Mac_goOn l Dg v b k N G z n _ (hP.sub (ws' := ((wM v k N) ++ (wP b k G))) [12, 13, 14, 15, 16, 1, 2, 3, 4, 5, 6] rfl) ((hD.sub (ws' := ((wM v k N) ++ (wP b k G))) [12, 13, 14, 15, 16, 1, 2, 3, 4, 5, 6] (by decide) rfl).weaken (fun _ _ _ _ => trivial)) (by rw [if_neg hz] at hro; exact hro)) kx_K hK kw_Eng_88 tw2_144 tw2_145 (va_recv (ci := 1) (q0 := 12) hK hP rfl rfl) hP hD hS hA [12, 13, 14, 15, 16, 1, 2, 3, 4, 5, 6] [0, 7, 8, 9, 10, 11] rfl rfl (by decide) (by decide) d_Eng_run_35 ⟨⟨by decide, by decide⟩, Nat.le_refl _, Nat.le_refl _⟩ rfl hl.1 rfl (Nat.le_of_ble_eq_true rfl) (fun H locs hP hD hS => ?_)
    have hP : va_P Dg classes ((wE a b u v) ++ (wM u k M) ++ (wM v k (sRunM G N z n)) ++ (wP b k G)) H := hP
    have hD : va_D (va_A ((wE a b u v) ++ (wP b k G) ++ (wM u k M) ++ (wM v k N)) s.heap.size) ((wE a b u v) ++ (wM u k M) ++ (wM v k (sRunM G N z n)) ++ (wP b k G)) := hD
    obtain ⟨Ns2, hNs2⟩ : ∃ z9, z9 = (sRunM G N z n) := ⟨_, rfl⟩
    rw [← hNs2] at hP hD
    have hP := hP.sub (ws' := (wE a b u v) ++ (wP b k G) ++ (wM u k M) ++ (wM v k Ns2)) [0, 11, 12, 13, 14, 15, 16, 1, 2, 3, 4, 5, 6, 7, 8, 9, 10] rfl
    have hD := hD.sub (ws' := (wE a b u v) ++ (wP b k G) ++ (wM u k M) ++ (wM v k Ns2)) [0, 11, 12, 13, 14, 15, 16, 1, 2, 3, 4, 5, 6, 7, 8, 9, 10] (by decide) rfl
    exact km_i F hlocks hret hP hD hS d_Eng_run_38 (by rw [if_neg hz]) (by subst hNs2; rw [if_neg hz, if_neg hz])

set_option maxRecDepth 100000 in
set_option maxHeartbeats 4000000 in
theorem c_Eng_look (l : Launch) (Dg : va_G) (a b u v : Nat → Nat) (k : Nat → ClassId) (G M N : vSt) (pl w : Int32) (H : Heap) (hP : va_P Dg classes ((wE a b u v) ++ (wP b k G) ++ (wM u k M) ++ (wM v k N)) H) (hha : ¬ sHas G pl = 0) (hw0 : ¬ w < 0) (hw3 : w ≤ 3) (hfu : w = 2 → ¬ G 5 1 = 0) (hp : pOk G) : kPu l y_Eng_look b_Eng_look 3 (some FieldType.int) 1 22 [.ref (a 0), .int pl, .int w] H (va_K Dg classes (kTy k)) (sPFact G pl w) := by
  refine k_of (by decide) (Nat.le_of_ble_eq_true rfl) ?_
  intro p e s m below meth cd ls F hlocks hret hname hh hX hl
  subst hh
  obtain ⟨hx, hb, hml, hown, hT⟩ := id F
  have hK : va_K Dg classes (kTy k) s := hX
  have hS : va_S (fun _ => False) s.heap s.heap [] := va_S.rf
  have hl : lv_has ls 3 [(0, .ref (a 0)), (1, .int pl), (2, .int w)] := hl
  refine lv_aload_n hx hb d_Eng_look_0 rfl (lv_at hl 0 rfl) ?_
  refine va_get (D := Dg) (ci := 0) (v := .ref (b 0)) (C := R_Eng) (T := F_Eng) (N := 3) hx hb hT in_Eng hown hK hP 0 rfl rfl 0 (by decide) (hT _ tw1_102) (fun _ h9 => h9) rfl d_Eng_look_1 ?_
  refine lv_iload_n hx hb d_Eng_look_4 rfl (lv_at hl 1 rfl) ?_
  refine kp_V F (c_Prg_has l Dg b k G pl _ (hP.sub (ws' := (wP b k G)) [1, 2, 3, 4, 5, 6] rfl) ) kx_K hK kw_Eng_53 tw2_94 tw2_95 (va_recv (ci := 2) (q0 := 1) hK hP rfl rfl) hS d_Eng_look_5 ⟨⟨by decide, by decide⟩, Nat.le_refl _, Nat.le_refl _⟩ rfl hl.1 rfl (Nat.le_of_ble_eq_true rfl) (fun locs hS => ?_)
  refine lv_if_ne (tgt := 21) hx hb d_Eng_look_8 (by decide) (fun _ => ?_) (fun h9 => absurd h9 hha)
  refine lv_iload_n hx hb d_Eng_look_21 rfl (lv_at hl 2 rfl) ?_
  refine lv_if_lt (tgt := 30) hx hb d_Eng_look_22 (by decide) (fun h9 => absurd h9 hw0) (fun _ => ?_)
  refine lv_iload_n hx hb d_Eng_look_25 rfl (lv_at hl 2 rfl) ?_
  refine lv_iconst (v := 3) hx hb d_Eng_look_26 (by decide) ?_
  refine lv_icmp_le (tgt := 40) hx hb d_Eng_look_27 (by decide) (fun _ => ?_) (fun h9 => absurd hw3 h9)
  refine lv_iload_n hx hb d_Eng_look_40 rfl (lv_at hl 2 rfl) ?_
  refine lv_iconst (v := 2) hx hb d_Eng_look_41 (by decide) ?_
  refine lv_icmp_ne (tgt := 65) hx hb d_Eng_look_42 (by decide) (fun h42 => ?_) (fun h42 => ?_)
  · refine lv_aload_n hx hb d_Eng_look_65 rfl (lv_at hl 0 rfl) ?_
    refine va_get (D := Dg) (ci := 0) (v := .ref (b 0)) (C := R_Eng) (T := F_Eng) (N := 3) hx hb hT in_Eng hown hK hP 0 rfl rfl 0 (by decide) (hT _ tw1_102) (fun _ h9 => h9) rfl d_Eng_look_66 ?_
    refine lv_iload_n hx hb d_Eng_look_69 rfl (lv_at hl 1 rfl) ?_
    refine lv_iload_n hx hb d_Eng_look_70 rfl (lv_at hl 2 rfl) ?_
    refine kp_V F (c_Prg_factOf l Dg b k G pl w _ (hP.sub (ws' := (wP b k G)) [1, 2, 3, 4, 5, 6] rfl) (has_in hp hha)) kx_K hK kw_Eng_81 tw2_133 tw2_134 (va_recv (ci := 2) (q0 := 1) hK hP rfl rfl) hS d_Eng_look_71 ⟨⟨by decide, by decide⟩, Nat.le_refl _, Nat.le_refl _⟩ rfl hl.1 rfl (Nat.le_of_ble_eq_true rfl) (fun locs hS => ?_)
    exact kp_i F hlocks hret hS d_Eng_look_74 rfl
  · refine lv_aload_n hx hb d_Eng_look_45 rfl (lv_at hl 0 rfl) ?_
    refine va_get (D := Dg) (ci := 0) (v := .ref (b 0)) (C := R_Eng) (T := F_Eng) (N := 3) hx hb hT in_Eng hown hK hP 0 rfl rfl 0 (by decide) (hT _ tw1_102) (fun _ h9 => h9) rfl d_Eng_look_46 ?_
    refine va_get (D := Dg) (ci := 2) (v := .int (G 5 1)) (C := R_Prg) (T := F_Prg) (N := 7) hx hb hT in_Prg hown hK hP 1 rfl rfl 6 (by decide) (hT _ tw1_43) (fun _ h9 => h9) rfl d_Eng_look_49 ?_
    refine lv_if_ne (tgt := 65) hx hb d_Eng_look_52 (by decide) (fun _ => ?_) (fun h9 => absurd h9 (hfu h42))
    refine lv_aload_n hx hb d_Eng_look_65 rfl (lv_at hl 0 rfl) ?_
    refine va_get (D := Dg) (ci := 0) (v := .ref (b 0)) (C := R_Eng) (T := F_Eng) (N := 3) hx hb hT in_Eng hown hK hP 0 rfl rfl 0 (by decide) (hT _ tw1_102) (fun _ h9 => h9) rfl d_Eng_look_66 ?_
    refine lv_iload_n hx hb d_Eng_look_69 rfl (lv_at hl 1 rfl) ?_
    refine lv_iload_n hx hb d_Eng_look_70 rfl (lv_at hl 2 rfl) ?_
    refine kp_V F (c_Prg_factOf l Dg b k G pl w _ (hP.sub (ws' := (wP b k G)) [1, 2, 3, 4, 5, 6] rfl) (has_in hp hha)) kx_K hK kw_Eng_81 tw2_133 tw2_134 (va_recv (ci := 2) (q0 := 1) hK hP rfl rfl) hS d_Eng_look_71 ⟨⟨by decide, by decide⟩, Nat.le_refl _, Nat.le_refl _⟩ rfl hl.1 rfl (Nat.le_of_ble_eq_true rfl) (fun locs hS => ?_)
    exact kp_i F hlocks hret hS d_Eng_look_74 rfl

set_option maxRecDepth 100000 in
set_option maxHeartbeats 4000000 in
theorem c_Eng_stack (l : Launch) (Dg : va_G) (a b u v : Nat → Nat) (k : Nat → ClassId) (G M N : vSt) (z i : Int32) (H : Heap) (hP : va_P Dg classes ((wE a b u v) ++ (wP b k G) ++ (wM u k M) ++ (wM v k N)) H) (h0 : ¬ i < 0) (h1 : i < (if z = 0 then M else N) 4 0) (hin : vp_in i 40) : kPu l y_Eng_stack b_Eng_stack 4 (some FieldType.int) 1 21 [.ref (a 0), .int z, .int i] H (va_K Dg classes (kTy k)) ((if z = 0 then M else N) 0 i.toNatClampNeg) := by
  refine k_of (by decide) (Nat.le_of_ble_eq_true rfl) ?_
  intro p e s m below meth cd ls F hlocks hret hname hh hX hl
  subst hh
  obtain ⟨hx, hb, hml, hown, hT⟩ := id F
  have hK : va_K Dg classes (kTy k) s := hX
  have hS : va_S (fun _ => False) s.heap s.heap [] := va_S.rf
  have hl : lv_has ls 4 [(0, .ref (a 0)), (1, .int z), (2, .int i)] := hl
  by_cases hz : z = 0
  · refine lv_aload_n hx hb d_Eng_stack_0 rfl (lv_at hl 0 rfl) ?_
    refine lv_iload_n hx hb d_Eng_stack_1 rfl (lv_at hl 1 rfl) ?_
    refine kp_Vr F (c_Eng_machineOf l Dg a b u v k G M N z _ hP) kx_K hK kw_Eng_84 tw1_166 ts_3 (va_recv (ci := 0) (q0 := 0) hK hP rfl rfl) hS d_Eng_stack_2 ⟨⟨by decide, by decide⟩, Nat.zero_le _, Nat.zero_le _⟩ rfl hl.1 rfl (Nat.le_of_ble_eq_true rfl) (fun locs hS => ?_)
    rw [show (if z = 0 then u 0 else v 0) = u 0 from if_pos hz]
    refine lv_astore_n hx hb d_Eng_stack_5 rfl hl (by decide) rfl (fun ls hl => ?_)
    have hl : lv_has ls 4 [(3, .ref (u 0)), (0, .ref (a 0)), (1, .int z), (2, .int i)] := hl
    refine lv_iload_n hx hb d_Eng_stack_6 rfl (lv_at hl 3 rfl) ?_
    refine lv_if_lt (tgt := 18) hx hb d_Eng_stack_7 (by decide) (fun h9 => absurd h9 h0) (fun _ => ?_)
    refine lv_iload_n hx hb d_Eng_stack_10 rfl (lv_at hl 3 rfl) ?_
    refine lv_aload_n hx hb d_Eng_stack_11 rfl (lv_at hl 0 rfl) ?_
    refine va_get (D := Dg) (ci := 1) (v := .int (M 4 0)) (C := R_Mac) (T := F_Mac) (N := 10) hx hb hT in_Mac hown hK hP 7 rfl rfl 4 (by decide) (hT _ tw1_75) (fun _ h9 => h9) rfl d_Eng_stack_12 ?_
    refine lv_icmp_lt (tgt := 28) hx hb d_Eng_stack_15 (by decide) (fun _ => ?_) (fun h9 => absurd (by rw [if_pos hz] at h1; exact h1) h9)
    refine lv_aload_n hx hb d_Eng_stack_28 rfl (lv_at hl 0 rfl) ?_
    refine va_get (D := Dg) (ci := 1) (v := .ref (u 1)) (C := R_Mac) (T := F_Mac) (N := 10) hx hb hT in_Mac hown hK hP 7 rfl rfl 0 (by decide) (hT _ tw1_68) (fun _ h9 => h9) rfl d_Eng_stack_29 ?_
    refine lv_iload_n hx hb d_Eng_stack_32 rfl (lv_at hl 3 rfl) ?_
    refine va_iald (f := (M 0)) hx hb hK hP 8 0 rfl rfl hin d_Eng_stack_33 ?_
    exact kp_i F hlocks hret hS d_Eng_stack_34 (by rw [if_pos hz])
  · refine lv_aload_n hx hb d_Eng_stack_0 rfl (lv_at hl 0 rfl) ?_
    refine lv_iload_n hx hb d_Eng_stack_1 rfl (lv_at hl 1 rfl) ?_
    refine kp_Vr F (c_Eng_machineOf l Dg a b u v k G M N z _ hP) kx_K hK kw_Eng_84 tw1_166 ts_3 (va_recv (ci := 0) (q0 := 0) hK hP rfl rfl) hS d_Eng_stack_2 ⟨⟨by decide, by decide⟩, Nat.zero_le _, Nat.zero_le _⟩ rfl hl.1 rfl (Nat.le_of_ble_eq_true rfl) (fun locs hS => ?_)
    rw [show (if z = 0 then u 0 else v 0) = v 0 from if_neg hz]
    refine lv_astore_n hx hb d_Eng_stack_5 rfl hl (by decide) rfl (fun ls hl => ?_)
    have hl : lv_has ls 4 [(3, .ref (v 0)), (0, .ref (a 0)), (1, .int z), (2, .int i)] := hl
    refine lv_iload_n hx hb d_Eng_stack_6 rfl (lv_at hl 3 rfl) ?_
    refine lv_if_lt (tgt := 18) hx hb d_Eng_stack_7 (by decide) (fun h9 => absurd h9 h0) (fun _ => ?_)
    refine lv_iload_n hx hb d_Eng_stack_10 rfl (lv_at hl 3 rfl) ?_
    refine lv_aload_n hx hb d_Eng_stack_11 rfl (lv_at hl 0 rfl) ?_
    refine va_get (D := Dg) (ci := 1) (v := .int (N 4 0)) (C := R_Mac) (T := F_Mac) (N := 10) hx hb hT in_Mac hown hK hP 12 rfl rfl 4 (by decide) (hT _ tw1_75) (fun _ h9 => h9) rfl d_Eng_stack_12 ?_
    refine lv_icmp_lt (tgt := 28) hx hb d_Eng_stack_15 (by decide) (fun _ => ?_) (fun h9 => absurd (by rw [if_neg hz] at h1; exact h1) h9)
    refine lv_aload_n hx hb d_Eng_stack_28 rfl (lv_at hl 0 rfl) ?_
    refine va_get (D := Dg) (ci := 1) (v := .ref (v 1)) (C := R_Mac) (T := F_Mac) (N := 10) hx hb hT in_Mac hown hK hP 12 rfl rfl 0 (by decide) (hT _ tw1_68) (fun _ h9 => h9) rfl d_Eng_stack_29 ?_
    refine lv_iload_n hx hb d_Eng_stack_32 rfl (lv_at hl 3 rfl) ?_
    refine va_iald (f := (N 0)) hx hb hK hP 13 0 rfl rfl hin d_Eng_stack_33 ?_
    exact kp_i F hlocks hret hS d_Eng_stack_34 (by rw [if_neg hz])

set_option maxRecDepth 100000 in
set_option maxHeartbeats 4000000 in
theorem c_Eng_local (l : Launch) (Dg : va_G) (a b u v : Nat → Nat) (k : Nat → ClassId) (G M N : vSt) (z i : Int32) (H : Heap) (hP : va_P Dg classes ((wE a b u v) ++ (wP b k G) ++ (wM u k M) ++ (wM v k N)) H) (h0 : ¬ i < 0) (h1 : i < 8) (hin : vp_in i 8) : kPu l y_Eng_local b_Eng_local 3 (some FieldType.int) 1 21 [.ref (a 0), .int z, .int i] H (va_K Dg classes (kTy k)) ((if z = 0 then M else N) 1 i.toNatClampNeg) := by
  refine k_of (by decide) (Nat.le_of_ble_eq_true rfl) ?_
  intro p e s m below meth cd ls F hlocks hret hname hh hX hl
  subst hh
  obtain ⟨hx, hb, hml, hown, hT⟩ := id F
  have hK : va_K Dg classes (kTy k) s := hX
  have hS : va_S (fun _ => False) s.heap s.heap [] := va_S.rf
  have hl : lv_has ls 3 [(0, .ref (a 0)), (1, .int z), (2, .int i)] := hl
  by_cases hz : z = 0
  · refine lv_iload_n hx hb d_Eng_local_0 rfl (lv_at hl 2 rfl) ?_
    refine lv_if_lt (tgt := 10) hx hb d_Eng_local_1 (by decide) (fun h9 => absurd h9 h0) (fun _ => ?_)
    refine lv_iload_n hx hb d_Eng_local_4 rfl (lv_at hl 2 rfl) ?_
    refine lv_bipush (v := 8) hx hb d_Eng_local_5 (by decide) ?_
    refine lv_icmp_lt (tgt := 20) hx hb d_Eng_local_7 (by decide) (fun _ => ?_) (fun h9 => absurd h1 h9)
    refine lv_aload_n hx hb d_Eng_local_20 rfl (lv_at hl 0 rfl) ?_
    refine lv_iload_n hx hb d_Eng_local_21 rfl (lv_at hl 1 rfl) ?_
    refine kp_Vr F (c_Eng_machineOf l Dg a b u v k G M N z _ hP) kx_K hK kw_Eng_84 tw1_166 ts_3 (va_recv (ci := 0) (q0 := 0) hK hP rfl rfl) hS d_Eng_local_22 ⟨⟨by decide, by decide⟩, Nat.zero_le _, Nat.zero_le _⟩ rfl hl.1 rfl (Nat.le_of_ble_eq_true rfl) (fun locs hS => ?_)
    rw [show (if z = 0 then u 0 else v 0) = u 0 from if_pos hz]
    refine va_get (D := Dg) (ci := 1) (v := .ref (u 2)) (C := R_Mac) (T := F_Mac) (N := 10) hx hb hT in_Mac hown hK hP 7 rfl rfl 1 (by decide) (hT _ tw1_70) (fun _ h9 => h9) rfl d_Eng_local_25 ?_
    refine lv_iload_n hx hb d_Eng_local_28 rfl (lv_at hl 2 rfl) ?_
    refine va_iald (f := (M 1)) hx hb hK hP 9 0 rfl rfl hin d_Eng_local_29 ?_
    exact kp_i F hlocks hret hS d_Eng_local_30 (by rw [if_pos hz])
  · refine lv_iload_n hx hb d_Eng_local_0 rfl (lv_at hl 2 rfl) ?_
    refine lv_if_lt (tgt := 10) hx hb d_Eng_local_1 (by decide) (fun h9 => absurd h9 h0) (fun _ => ?_)
    refine lv_iload_n hx hb d_Eng_local_4 rfl (lv_at hl 2 rfl) ?_
    refine lv_bipush (v := 8) hx hb d_Eng_local_5 (by decide) ?_
    refine lv_icmp_lt (tgt := 20) hx hb d_Eng_local_7 (by decide) (fun _ => ?_) (fun h9 => absurd h1 h9)
    refine lv_aload_n hx hb d_Eng_local_20 rfl (lv_at hl 0 rfl) ?_
    refine lv_iload_n hx hb d_Eng_local_21 rfl (lv_at hl 1 rfl) ?_
    refine kp_Vr F (c_Eng_machineOf l Dg a b u v k G M N z _ hP) kx_K hK kw_Eng_84 tw1_166 ts_3 (va_recv (ci := 0) (q0 := 0) hK hP rfl rfl) hS d_Eng_local_22 ⟨⟨by decide, by decide⟩, Nat.zero_le _, Nat.zero_le _⟩ rfl hl.1 rfl (Nat.le_of_ble_eq_true rfl) (fun locs hS => ?_)
    rw [show (if z = 0 then u 0 else v 0) = v 0 from if_neg hz]
    refine va_get (D := Dg) (ci := 1) (v := .ref (v 2)) (C := R_Mac) (T := F_Mac) (N := 10) hx hb hT in_Mac hown hK hP 12 rfl rfl 1 (by decide) (hT _ tw1_70) (fun _ h9 => h9) rfl d_Eng_local_25 ?_
    refine lv_iload_n hx hb d_Eng_local_28 rfl (lv_at hl 2 rfl) ?_
    refine va_iald (f := (N 1)) hx hb hK hP 14 0 rfl rfl hin d_Eng_local_29 ?_
    exact kp_i F hlocks hret hS d_Eng_local_30 (by rw [if_neg hz])

set_option maxRecDepth 100000 in
set_option maxHeartbeats 4000000 in
theorem c_Eng_out (l : Launch) (Dg : va_G) (a b u v : Nat → Nat) (k : Nat → ClassId) (G M N : vSt) (z i : Int32) (H : Heap) (hP : va_P Dg classes ((wE a b u v) ++ (wP b k G) ++ (wM u k M) ++ (wM v k N)) H) (h0 : ¬ i < 0) (h1 : i < sMin ((if z = 0 then M else N) 4 2) 60) (hin : vp_in i 60) : kPu l y_Eng_out b_Eng_out 4 (some FieldType.int) 2 54 [.ref (a 0), .int z, .int i] H (va_K Dg classes (kTy k)) ((if z = 0 then M else N) 2 i.toNatClampNeg) := by
  refine k_of (by decide) (Nat.le_of_ble_eq_true rfl) ?_
  intro p e s m below meth cd ls F hlocks hret hname hh hX hl
  subst hh
  obtain ⟨hx, hb, hml, hown, hT⟩ := id F
  have hK : va_K Dg classes (kTy k) s := hX
  have hS : va_S (fun _ => False) s.heap s.heap [] := va_S.rf
  have hl : lv_has ls 4 [(0, .ref (a 0)), (1, .int z), (2, .int i)] := hl
  by_cases hz : z = 0
  · refine lv_aload_n hx hb d_Eng_out_0 rfl (lv_at hl 0 rfl) ?_
    refine lv_iload_n hx hb d_Eng_out_1 rfl (lv_at hl 1 rfl) ?_
    refine kp_Vr F (c_Eng_machineOf l Dg a b u v k G M N z _ hP) kx_K hK kw_Eng_84 tw1_166 ts_3 (va_recv (ci := 0) (q0 := 0) hK hP rfl rfl) hS d_Eng_out_2 ⟨⟨by decide, by decide⟩, Nat.zero_le _, Nat.zero_le _⟩ rfl hl.1 rfl (Nat.le_of_ble_eq_true rfl) (fun locs hS => ?_)
    rw [show (if z = 0 then u 0 else v 0) = u 0 from if_pos hz]
    refine lv_astore_n hx hb d_Eng_out_5 rfl hl (by decide) rfl (fun ls hl => ?_)
    have hl : lv_has ls 4 [(3, .ref (u 0)), (0, .ref (a 0)), (1, .int z), (2, .int i)] := hl
    refine lv_iload_n hx hb d_Eng_out_6 rfl (lv_at hl 3 rfl) ?_
    refine lv_if_lt (tgt := 18) hx hb d_Eng_out_7 (by decide) (fun h9 => absurd h9 h0) (fun _ => ?_)
    refine lv_iload_n hx hb d_Eng_out_10 rfl (lv_at hl 3 rfl) ?_
    refine lv_aload_n hx hb d_Eng_out_11 rfl (lv_at hl 0 rfl) ?_
    refine kp_V F (c_Mac_keptOutputs l Dg u k M  _ (hP.sub (ws' := (wM u k M)) [7, 8, 9, 10, 11] rfl) ) kx_K hK kw_Eng_109 tw2_216 tw2_217 (va_recv (ci := 1) (q0 := 7) hK hP rfl rfl) hS d_Eng_out_12 ⟨⟨by decide, by decide⟩, Nat.le_refl _, Nat.le_refl _⟩ rfl hl.1 rfl (Nat.le_of_ble_eq_true rfl) (fun locs hS => ?_)
    refine lv_icmp_lt (tgt := 28) hx hb d_Eng_out_15 (by decide) (fun _ => ?_) (fun h9 => absurd (by rw [if_pos hz] at h1; exact h1) h9)
    refine lv_aload_n hx hb d_Eng_out_28 rfl (lv_at hl 0 rfl) ?_
    refine va_get (D := Dg) (ci := 1) (v := .ref (u 3)) (C := R_Mac) (T := F_Mac) (N := 10) hx hb hT in_Mac hown hK hP 7 rfl rfl 2 (by decide) (hT _ tw1_72) (fun _ h9 => h9) rfl d_Eng_out_29 ?_
    refine lv_iload_n hx hb d_Eng_out_32 rfl (lv_at hl 3 rfl) ?_
    refine va_iald (f := (M 2)) hx hb hK hP 10 0 rfl rfl hin d_Eng_out_33 ?_
    exact kp_i F hlocks hret hS d_Eng_out_34 (by rw [if_pos hz])
  · refine lv_aload_n hx hb d_Eng_out_0 rfl (lv_at hl 0 rfl) ?_
    refine lv_iload_n hx hb d_Eng_out_1 rfl (lv_at hl 1 rfl) ?_
    refine kp_Vr F (c_Eng_machineOf l Dg a b u v k G M N z _ hP) kx_K hK kw_Eng_84 tw1_166 ts_3 (va_recv (ci := 0) (q0 := 0) hK hP rfl rfl) hS d_Eng_out_2 ⟨⟨by decide, by decide⟩, Nat.zero_le _, Nat.zero_le _⟩ rfl hl.1 rfl (Nat.le_of_ble_eq_true rfl) (fun locs hS => ?_)
    rw [show (if z = 0 then u 0 else v 0) = v 0 from if_neg hz]
    refine lv_astore_n hx hb d_Eng_out_5 rfl hl (by decide) rfl (fun ls hl => ?_)
    have hl : lv_has ls 4 [(3, .ref (v 0)), (0, .ref (a 0)), (1, .int z), (2, .int i)] := hl
    refine lv_iload_n hx hb d_Eng_out_6 rfl (lv_at hl 3 rfl) ?_
    refine lv_if_lt (tgt := 18) hx hb d_Eng_out_7 (by decide) (fun h9 => absurd h9 h0) (fun _ => ?_)
    refine lv_iload_n hx hb d_Eng_out_10 rfl (lv_at hl 3 rfl) ?_
    refine lv_aload_n hx hb d_Eng_out_11 rfl (lv_at hl 0 rfl) ?_
    refine kp_V F (c_Mac_keptOutputs l Dg v k N  _ (hP.sub (ws' := (wM v k N)) [12, 13, 14, 15, 16] rfl) ) kx_K hK kw_Eng_109 tw2_216 tw2_217 (va_recv (ci := 1) (q0 := 12) hK hP rfl rfl) hS d_Eng_out_12 ⟨⟨by decide, by decide⟩, Nat.le_refl _, Nat.le_refl _⟩ rfl hl.1 rfl (Nat.le_of_ble_eq_true rfl) (fun locs hS => ?_)
    refine lv_icmp_lt (tgt := 28) hx hb d_Eng_out_15 (by decide) (fun _ => ?_) (fun h9 => absurd (by rw [if_neg hz] at h1; exact h1) h9)
    refine lv_aload_n hx hb d_Eng_out_28 rfl (lv_at hl 0 rfl) ?_
    refine va_get (D := Dg) (ci := 1) (v := .ref (v 3)) (C := R_Mac) (T := F_Mac) (N := 10) hx hb hT in_Mac hown hK hP 12 rfl rfl 2 (by decide) (hT _ tw1_72) (fun _ h9 => h9) rfl d_Eng_out_29 ?_
    refine lv_iload_n hx hb d_Eng_out_32 rfl (lv_at hl 3 rfl) ?_
    refine va_iald (f := (N 2)) hx hb hK hP 15 0 rfl rfl hin d_Eng_out_33 ?_
    exact kp_i F hlocks hret hS d_Eng_out_34 (by rw [if_neg hz])
end
section
set_option maxRecDepth 100000 in
set_option maxHeartbeats 4000000 in
theorem t_Eng_add_IA (l : Launch) (hl0 : l.stackTraces = false) (Dg : va_G) (a b u v : Nat → Nat) (k : Nat → ClassId) (G M N : vSt) (q vB B : Nat) (c n : Int32) (H : Heap) (hP : va_P Dg classes ((wE a b u v) ++ (wP b k G) ++ (wM u k M) ++ (wM v k N)) H) (hal : sAllow c n = 0) : kTh l y_Eng_add b_Eng_add 4 (some FieldType.int) 6 107 [.ref (a 0), .int c, .int n] H (taX Dg k q vB B H) xIA := by
  refine kt_of (by decide) (Nat.le_of_ble_eq_true rfl) ?_
  intro p e s m below meth cd ls F hlocks hex hh hX hl
  subst hh
  obtain ⟨hx, hb, hml, hown, hT⟩ := id F
  have hK : va_K Dg classes (kTy k) s := hX.1
  have hS : va_S (fun _ => False) s.heap s.heap [] := va_S.rf
  have hl : lv_has ls 4 [(0, .ref (a 0)), (1, .int c), (2, .int n)] := hl
  obtain ⟨-, ⟨htz, hms⟩, hax⟩ := id hX
  refine lv_iload_n hx hb d_Eng_add_0 rfl (lv_at hl 1 rfl) ?_
  refine lv_iload_n hx hb d_Eng_add_1 rfl (lv_at hl 2 rfl) ?_
  refine kp_S F (c_Prg_allows l q vB c n _) aX_m hax kw_Eng_26 tw1_182 hS d_Eng_add_2 ⟨⟨by decide, by decide⟩, Nat.zero_le _, Nat.zero_le _⟩ rfl hl.1 rfl (Nat.le_of_ble_eq_true rfl) (fun locs hS => ?_)
  refine lv_if_ne (tgt := 18) hx hb d_Eng_add_5 (by decide) (fun h9 => absurd hal h9) (fun _ => ?_)
  obtain ⟨zq, hzq⟩ := hms.1
  exact kt_throwN (cls := xIA) (Y := thY) (names := thN) F hlocks hex hl0 htz own_IA (by decide +kernel) (by decide +kernel) fit_N (by decide +kernel) (by decide +kernel) (by decide +kernel) (by decide +kernel) tw1_233 tw1_234 tw1_12 hzq hS hl.1 ⟨by decide, Nat.le_of_ble_eq_true rfl, by decide, by decide⟩ d_Eng_add_8 d_Eng_add_11 d_Eng_add_12 d_Eng_add_14 d_Eng_add_17

set_option maxRecDepth 100000 in
set_option maxHeartbeats 4000000 in
theorem t_Eng_add_IS (l : Launch) (hl0 : l.stackTraces = false) (Dg : va_G) (a b u v : Nat → Nat) (k : Nat → ClassId) (G M N : vSt) (q vB B : Nat) (c n : Int32) (H : Heap) (hP : va_P Dg classes ((wE a b u v) ++ (wP b k G) ++ (wM u k M) ++ (wM v k N)) H) (hal : ¬ sAllow c n = 0) (hsz : G 5 0 = 80) : kTh l y_Eng_add b_Eng_add 4 (some FieldType.int) 6 107 [.ref (a 0), .int c, .int n] H (taX Dg k q vB B H) xIS := by
  refine kt_of (by decide) (Nat.le_of_ble_eq_true rfl) ?_
  intro p e s m below meth cd ls F hlocks hex hh hX hl
  subst hh
  obtain ⟨hx, hb, hml, hown, hT⟩ := id F
  have hK : va_K Dg classes (kTy k) s := hX.1
  have hS : va_S (fun _ => False) s.heap s.heap [] := va_S.rf
  have hl : lv_has ls 4 [(0, .ref (a 0)), (1, .int c), (2, .int n)] := hl
  obtain ⟨-, ⟨htz, hms⟩, hax⟩ := id hX
  refine lv_iload_n hx hb d_Eng_add_0 rfl (lv_at hl 1 rfl) ?_
  refine lv_iload_n hx hb d_Eng_add_1 rfl (lv_at hl 2 rfl) ?_
  refine kp_S F (c_Prg_allows l q vB c n _) aX_m hax kw_Eng_26 tw1_182 hS d_Eng_add_2 ⟨⟨by decide, by decide⟩, Nat.zero_le _, Nat.zero_le _⟩ rfl hl.1 rfl (Nat.le_of_ble_eq_true rfl) (fun locs hS => ?_)
  refine lv_if_ne (tgt := 18) hx hb d_Eng_add_5 (by decide) (fun _ => ?_) (fun h9 => absurd h9 hal)
  refine lv_aload_n hx hb d_Eng_add_18 rfl (lv_at hl 0 rfl) ?_
  refine va_get (D := Dg) (ci := 0) (v := .ref (b 0)) (C := R_Eng) (T := F_Eng) (N := 3) hx hb hT in_Eng hown hK hP 0 rfl rfl 0 (by decide) (hT _ tw1_102) (fun _ h9 => h9) rfl d_Eng_add_19 ?_
  refine va_get (D := Dg) (ci := 2) (v := .int (G 5 0)) (C := R_Prg) (T := F_Prg) (N := 7) hx hb hT in_Prg hown hK hP 1 rfl rfl 5 (by decide) (hT _ tw1_40) (fun _ h9 => h9) rfl d_Eng_add_22 ?_
  refine lv_bipush (v := 80) hx hb d_Eng_add_25 (by decide) ?_
  refine lv_icmp_ne (tgt := 40) hx hb d_Eng_add_27 (by decide) (fun h9 => absurd hsz h9) (fun _ => ?_)
  obtain ⟨zq, hzq⟩ := hms.2.1
  exact kt_throwN (cls := xIS) (Y := thY) (names := thN) F hlocks hex hl0 htz own_IS (by decide +kernel) (by decide +kernel) fit_N (by decide +kernel) (by decide +kernel) (by decide +kernel) (by decide +kernel) tw2_61 tw2_62 tw1_13 hzq hS hl.1 ⟨by decide, Nat.le_of_ble_eq_true rfl, by decide, by decide⟩ d_Eng_add_30 d_Eng_add_33 d_Eng_add_34 d_Eng_add_36 d_Eng_add_39

set_option maxRecDepth 100000 in
set_option maxHeartbeats 4000000 in
theorem t_Eng_change_NS (l : Launch) (hl0 : l.stackTraces = false) (Dg : va_G) (a b u v : Nat → Nat) (k : Nat → ClassId) (G M N : vSt) (B : Nat) (pl c n : Int32) (H : Heap) (hP : va_P Dg classes ((wE a b u v) ++ (wP b k G) ++ (wM u k M) ++ (wM v k N)) H) (hha : sHas G pl = 0) : kTh l y_Eng_change b_Eng_change 4 none 6 100 [.ref (a 0), .int pl, .int c, .int n] H (tX Dg k B H) xNS := by
  refine kt_of (by decide) (Nat.le_of_ble_eq_true rfl) ?_
  intro p e s m below meth cd ls F hlocks hex hh hX hl
  subst hh
  obtain ⟨hx, hb, hml, hown, hT⟩ := id F
  have hK : va_K Dg classes (kTy k) s := hX.1
  have hS : va_S (fun _ => False) s.heap s.heap [] := va_S.rf
  have hl : lv_has ls 4 [(0, .ref (a 0)), (1, .int pl), (2, .int c), (3, .int n)] := hl
  obtain ⟨-, htz, hms⟩ := id hX
  refine lv_aload_n hx hb d_Eng_change_0 rfl (lv_at hl 0 rfl) ?_
  refine va_get (D := Dg) (ci := 0) (v := .ref (b 0)) (C := R_Eng) (T := F_Eng) (N := 3) hx hb hT in_Eng hown hK hP 0 rfl rfl 0 (by decide) (hT _ tw1_102) (fun _ h9 => h9) rfl d_Eng_change_1 ?_
  refine lv_iload_n hx hb d_Eng_change_4 rfl (lv_at hl 1 rfl) ?_
  refine kp_V F (c_Prg_has l Dg b k G pl _ (hP.sub (ws' := (wP b k G)) [1, 2, 3, 4, 5, 6] rfl) ) kx_K hK kw_Eng_53 tw2_94 tw2_95 (va_recv (ci := 2) (q0 := 1) hK hP rfl rfl) hS d_Eng_change_5 ⟨⟨by decide, by decide⟩, Nat.zero_le _, Nat.zero_le _⟩ rfl hl.1 rfl (Nat.le_of_ble_eq_true rfl) (fun locs hS => ?_)
  refine lv_if_ne (tgt := 21) hx hb d_Eng_change_8 (by decide) (fun h9 => absurd hha h9) (fun _ => ?_)
  obtain ⟨zq, hzq⟩ := hms.2.2.1
  exact kt_throwN (cls := xNS) (Y := thY) (names := thN) F hlocks hex hl0 htz own_NS (by decide +kernel) (by decide +kernel) fit_N (by decide +kernel) (by decide +kernel) (by decide +kernel) (by decide +kernel) tw2_106 tw2_107 tw1_15 hzq hS hl.1 ⟨by decide, Nat.le_of_ble_eq_true rfl, by decide, by decide⟩ d_Eng_change_11 d_Eng_change_14 d_Eng_change_15 d_Eng_change_17 d_Eng_change_20

set_option maxRecDepth 100000 in
set_option maxHeartbeats 4000000 in
theorem t_Eng_change_IA (l : Launch) (hl0 : l.stackTraces = false) (Dg : va_G) (a b u v : Nat → Nat) (k : Nat → ClassId) (G M N : vSt) (q vB B : Nat) (pl c n : Int32) (H : Heap) (hP : va_P Dg classes ((wE a b u v) ++ (wP b k G) ++ (wM u k M) ++ (wM v k N)) H) (hha : ¬ sHas G pl = 0) (hal : sAllow c n = 0) : kTh l y_Eng_change b_Eng_change 4 none 6 107 [.ref (a 0), .int pl, .int c, .int n] H (taX Dg k q vB B H) xIA := by
  refine kt_of (by decide) (Nat.le_of_ble_eq_true rfl) ?_
  intro p e s m below meth cd ls F hlocks hex hh hX hl
  subst hh
  obtain ⟨hx, hb, hml, hown, hT⟩ := id F
  have hK : va_K Dg classes (kTy k) s := hX.1
  have hS : va_S (fun _ => False) s.heap s.heap [] := va_S.rf
  have hl : lv_has ls 4 [(0, .ref (a 0)), (1, .int pl), (2, .int c), (3, .int n)] := hl
  obtain ⟨-, ⟨htz, hms⟩, hax⟩ := id hX
  refine lv_aload_n hx hb d_Eng_change_0 rfl (lv_at hl 0 rfl) ?_
  refine va_get (D := Dg) (ci := 0) (v := .ref (b 0)) (C := R_Eng) (T := F_Eng) (N := 3) hx hb hT in_Eng hown hK hP 0 rfl rfl 0 (by decide) (hT _ tw1_102) (fun _ h9 => h9) rfl d_Eng_change_1 ?_
  refine lv_iload_n hx hb d_Eng_change_4 rfl (lv_at hl 1 rfl) ?_
  refine kp_V F (c_Prg_has l Dg b k G pl _ (hP.sub (ws' := (wP b k G)) [1, 2, 3, 4, 5, 6] rfl) ) kx_K hK kw_Eng_53 tw2_94 tw2_95 (va_recv (ci := 2) (q0 := 1) hK hP rfl rfl) hS d_Eng_change_5 ⟨⟨by decide, by decide⟩, Nat.zero_le _, Nat.zero_le _⟩ rfl hl.1 rfl (Nat.le_of_ble_eq_true rfl) (fun locs hS => ?_)
  refine lv_if_ne (tgt := 21) hx hb d_Eng_change_8 (by decide) (fun _ => ?_) (fun h9 => absurd h9 hha)
  refine lv_iload_n hx hb d_Eng_change_21 rfl (lv_at hl 2 rfl) ?_
  refine lv_iload_n hx hb d_Eng_change_22 rfl (lv_at hl 3 rfl) ?_
  refine kp_S F (c_Prg_allows l q vB c n _) aX_m hax kw_Eng_26 tw1_182 hS d_Eng_change_23 ⟨⟨by decide, by decide⟩, Nat.zero_le _, Nat.zero_le _⟩ rfl hl.1 rfl (Nat.le_of_ble_eq_true rfl) (fun locs hS => ?_)
  refine lv_if_ne (tgt := 39) hx hb d_Eng_change_26 (by decide) (fun h9 => absurd hal h9) (fun _ => ?_)
  obtain ⟨zq, hzq⟩ := hms.1
  exact kt_throwN (cls := xIA) (Y := thY) (names := thN) F hlocks hex hl0 htz own_IA (by decide +kernel) (by decide +kernel) fit_N (by decide +kernel) (by decide +kernel) (by decide +kernel) (by decide +kernel) tw1_233 tw1_234 tw1_12 hzq hS hl.1 ⟨by decide, Nat.le_of_ble_eq_true rfl, by decide, by decide⟩ d_Eng_change_29 d_Eng_change_32 d_Eng_change_33 d_Eng_change_35 d_Eng_change_38

set_option maxRecDepth 100000 in
set_option maxHeartbeats 4000000 in
theorem t_Eng_run_IS (l : Launch) (hl0 : l.stackTraces = false) (Dg : va_G) (a b u v : Nat → Nat) (k : Nat → ClassId) (G M N : vSt) (B : Nat) (z n : Int32) (H : Heap) (hP : va_P Dg classes ((wE a b u v) ++ (wP b k G) ++ (wM u k M) ++ (wM v k N)) H) (hz : ¬ z = 0) (hfu : G 5 1 = 0) : kTh l y_Eng_run b_Eng_run 3 (some FieldType.int) 6 100 [.ref (a 0), .int z, .int n] H (tX Dg k B H) xIS := by
  refine kt_of (by decide) (Nat.le_of_ble_eq_true rfl) ?_
  intro p e s m below meth cd ls F hlocks hex hh hX hl
  subst hh
  obtain ⟨hx, hb, hml, hown, hT⟩ := id F
  have hK : va_K Dg classes (kTy k) s := hX.1
  have hS : va_S (fun _ => False) s.heap s.heap [] := va_S.rf
  have hl : lv_has ls 3 [(0, .ref (a 0)), (1, .int z), (2, .int n)] := hl
  obtain ⟨-, htz, hms⟩ := id hX
  refine lv_iload_n hx hb d_Eng_run_0 rfl (lv_at hl 1 rfl) ?_
  refine lv_if_eq (tgt := 24) hx hb d_Eng_run_1 (by decide) (fun h9 => absurd h9 hz) (fun _ => ?_)
  refine lv_aload_n hx hb d_Eng_run_4 rfl (lv_at hl 0 rfl) ?_
  refine va_get (D := Dg) (ci := 0) (v := .ref (b 0)) (C := R_Eng) (T := F_Eng) (N := 3) hx hb hT in_Eng hown hK hP 0 rfl rfl 0 (by decide) (hT _ tw1_102) (fun _ h9 => h9) rfl d_Eng_run_5 ?_
  refine va_get (D := Dg) (ci := 2) (v := .int (G 5 1)) (C := R_Prg) (T := F_Prg) (N := 7) hx hb hT in_Prg hown hK hP 1 rfl rfl 6 (by decide) (hT _ tw1_43) (fun _ h9 => h9) rfl d_Eng_run_8 ?_
  refine lv_if_ne (tgt := 24) hx hb d_Eng_run_11 (by decide) (fun h9 => absurd hfu h9) (fun _ => ?_)
  obtain ⟨zq, hzq⟩ := hms.2.2.2.2.1
  exact kt_throwN (cls := xIS) (Y := thY) (names := thN) F hlocks hex hl0 htz own_IS (by decide +kernel) (by decide +kernel) fit_N (by decide +kernel) (by decide +kernel) (by decide +kernel) (by decide +kernel) tw2_61 tw2_62 tw1_13 hzq hS hl.1 ⟨by decide, Nat.le_of_ble_eq_true rfl, by decide, by decide⟩ d_Eng_run_14 d_Eng_run_17 d_Eng_run_18 d_Eng_run_20 d_Eng_run_23

set_option maxRecDepth 100000 in
set_option maxHeartbeats 4000000 in
theorem t_Eng_look_NS1 (l : Launch) (hl0 : l.stackTraces = false) (Dg : va_G) (a b u v : Nat → Nat) (k : Nat → ClassId) (G M N : vSt) (B : Nat) (pl w : Int32) (H : Heap) (hP : va_P Dg classes ((wE a b u v) ++ (wP b k G) ++ (wM u k M) ++ (wM v k N)) H) (hha : sHas G pl = 0) : kTh l y_Eng_look b_Eng_look 3 (some FieldType.int) 6 100 [.ref (a 0), .int pl, .int w] H (tX Dg k B H) xNS := by
  refine kt_of (by decide) (Nat.le_of_ble_eq_true rfl) ?_
  intro p e s m below meth cd ls F hlocks hex hh hX hl
  subst hh
  obtain ⟨hx, hb, hml, hown, hT⟩ := id F
  have hK : va_K Dg classes (kTy k) s := hX.1
  have hS : va_S (fun _ => False) s.heap s.heap [] := va_S.rf
  have hl : lv_has ls 3 [(0, .ref (a 0)), (1, .int pl), (2, .int w)] := hl
  obtain ⟨-, htz, hms⟩ := id hX
  refine lv_aload_n hx hb d_Eng_look_0 rfl (lv_at hl 0 rfl) ?_
  refine va_get (D := Dg) (ci := 0) (v := .ref (b 0)) (C := R_Eng) (T := F_Eng) (N := 3) hx hb hT in_Eng hown hK hP 0 rfl rfl 0 (by decide) (hT _ tw1_102) (fun _ h9 => h9) rfl d_Eng_look_1 ?_
  refine lv_iload_n hx hb d_Eng_look_4 rfl (lv_at hl 1 rfl) ?_
  refine kp_V F (c_Prg_has l Dg b k G pl _ (hP.sub (ws' := (wP b k G)) [1, 2, 3, 4, 5, 6] rfl) ) kx_K hK kw_Eng_53 tw2_94 tw2_95 (va_recv (ci := 2) (q0 := 1) hK hP rfl rfl) hS d_Eng_look_5 ⟨⟨by decide, by decide⟩, Nat.zero_le _, Nat.zero_le _⟩ rfl hl.1 rfl (Nat.le_of_ble_eq_true rfl) (fun locs hS => ?_)
  refine lv_if_ne (tgt := 21) hx hb d_Eng_look_8 (by decide) (fun h9 => absurd hha h9) (fun _ => ?_)
  obtain ⟨zq, hzq⟩ := hms.2.2.1
  exact kt_throwN (cls := xNS) (Y := thY) (names := thN) F hlocks hex hl0 htz own_NS (by decide +kernel) (by decide +kernel) fit_N (by decide +kernel) (by decide +kernel) (by decide +kernel) (by decide +kernel) tw2_106 tw2_107 tw1_15 hzq hS hl.1 ⟨by decide, Nat.le_of_ble_eq_true rfl, by decide, by decide⟩ d_Eng_look_11 d_Eng_look_14 d_Eng_look_15 d_Eng_look_17 d_Eng_look_20

set_option maxRecDepth 100000 in
set_option maxHeartbeats 4000000 in
theorem t_Eng_look_NS2 (l : Launch) (hl0 : l.stackTraces = false) (Dg : va_G) (a b u v : Nat → Nat) (k : Nat → ClassId) (G M N : vSt) (B : Nat) (pl w : Int32) (H : Heap) (hP : va_P Dg classes ((wE a b u v) ++ (wP b k G) ++ (wM u k M) ++ (wM v k N)) H) (hha : ¬ sHas G pl = 0) (hw : w < 0 ∨ ¬ w ≤ 3) : kTh l y_Eng_look b_Eng_look 3 (some FieldType.int) 6 100 [.ref (a 0), .int pl, .int w] H (tX Dg k B H) xNS := by
  refine kt_of (by decide) (Nat.le_of_ble_eq_true rfl) ?_
  intro p e s m below meth cd ls F hlocks hex hh hX hl
  subst hh
  obtain ⟨hx, hb, hml, hown, hT⟩ := id F
  have hK : va_K Dg classes (kTy k) s := hX.1
  have hS : va_S (fun _ => False) s.heap s.heap [] := va_S.rf
  have hl : lv_has ls 3 [(0, .ref (a 0)), (1, .int pl), (2, .int w)] := hl
  obtain ⟨-, htz, hms⟩ := id hX
  refine lv_aload_n hx hb d_Eng_look_0 rfl (lv_at hl 0 rfl) ?_
  refine va_get (D := Dg) (ci := 0) (v := .ref (b 0)) (C := R_Eng) (T := F_Eng) (N := 3) hx hb hT in_Eng hown hK hP 0 rfl rfl 0 (by decide) (hT _ tw1_102) (fun _ h9 => h9) rfl d_Eng_look_1 ?_
  refine lv_iload_n hx hb d_Eng_look_4 rfl (lv_at hl 1 rfl) ?_
  refine kp_V F (c_Prg_has l Dg b k G pl _ (hP.sub (ws' := (wP b k G)) [1, 2, 3, 4, 5, 6] rfl) ) kx_K hK kw_Eng_53 tw2_94 tw2_95 (va_recv (ci := 2) (q0 := 1) hK hP rfl rfl) hS d_Eng_look_5 ⟨⟨by decide, by decide⟩, Nat.zero_le _, Nat.zero_le _⟩ rfl hl.1 rfl (Nat.le_of_ble_eq_true rfl) (fun locs hS => ?_)
  refine lv_if_ne (tgt := 21) hx hb d_Eng_look_8 (by decide) (fun _ => ?_) (fun h9 => absurd h9 hha)
  refine lv_iload_n hx hb d_Eng_look_21 rfl (lv_at hl 2 rfl) ?_
  refine lv_if_lt (tgt := 30) hx hb d_Eng_look_22 (by decide) (fun h22 => ?_) (fun h22 => ?_)
  · obtain ⟨zq, hzq⟩ := hms.2.2.2.1
    exact kt_throwN (cls := xNS) (Y := thY) (names := thN) F hlocks hex hl0 htz own_NS (by decide +kernel) (by decide +kernel) fit_N (by decide +kernel) (by decide +kernel) (by decide +kernel) (by decide +kernel) tw2_106 tw2_107 tw1_15 hzq hS hl.1 ⟨by decide, Nat.le_of_ble_eq_true rfl, by decide, by decide⟩ d_Eng_look_30 d_Eng_look_33 d_Eng_look_34 d_Eng_look_36 d_Eng_look_39
  · refine lv_iload_n hx hb d_Eng_look_25 rfl (lv_at hl 2 rfl) ?_
    refine lv_iconst (v := 3) hx hb d_Eng_look_26 (by decide) ?_
    refine lv_icmp_le (tgt := 40) hx hb d_Eng_look_27 (by decide) (fun h9 => absurd h9 (hw.resolve_left h22)) (fun _ => ?_)
    obtain ⟨zq, hzq⟩ := hms.2.2.2.1
    exact kt_throwN (cls := xNS) (Y := thY) (names := thN) F hlocks hex hl0 htz own_NS (by decide +kernel) (by decide +kernel) fit_N (by decide +kernel) (by decide +kernel) (by decide +kernel) (by decide +kernel) tw2_106 tw2_107 tw1_15 hzq hS hl.1 ⟨by decide, Nat.le_of_ble_eq_true rfl, by decide, by decide⟩ d_Eng_look_30 d_Eng_look_33 d_Eng_look_34 d_Eng_look_36 d_Eng_look_39

set_option maxRecDepth 100000 in
set_option maxHeartbeats 4000000 in
theorem t_Eng_look_NS3 (l : Launch) (hl0 : l.stackTraces = false) (Dg : va_G) (a b u v : Nat → Nat) (k : Nat → ClassId) (G M N : vSt) (B : Nat) (pl : Int32) (H : Heap) (hP : va_P Dg classes ((wE a b u v) ++ (wP b k G) ++ (wM u k M) ++ (wM v k N)) H) (hha : ¬ sHas G pl = 0) (hfu : G 5 1 = 0) : kTh l y_Eng_look b_Eng_look 3 (some FieldType.int) 6 100 [.ref (a 0), .int pl, .int 2] H (tX Dg k B H) xNS := by
  refine kt_of (by decide) (Nat.le_of_ble_eq_true rfl) ?_
  intro p e s m below meth cd ls F hlocks hex hh hX hl
  subst hh
  obtain ⟨hx, hb, hml, hown, hT⟩ := id F
  have hK : va_K Dg classes (kTy k) s := hX.1
  have hS : va_S (fun _ => False) s.heap s.heap [] := va_S.rf
  have hl : lv_has ls 3 [(0, .ref (a 0)), (1, .int pl), (2, .int 2)] := hl
  obtain ⟨-, htz, hms⟩ := id hX
  refine lv_aload_n hx hb d_Eng_look_0 rfl (lv_at hl 0 rfl) ?_
  refine va_get (D := Dg) (ci := 0) (v := .ref (b 0)) (C := R_Eng) (T := F_Eng) (N := 3) hx hb hT in_Eng hown hK hP 0 rfl rfl 0 (by decide) (hT _ tw1_102) (fun _ h9 => h9) rfl d_Eng_look_1 ?_
  refine lv_iload_n hx hb d_Eng_look_4 rfl (lv_at hl 1 rfl) ?_
  refine kp_V F (c_Prg_has l Dg b k G pl _ (hP.sub (ws' := (wP b k G)) [1, 2, 3, 4, 5, 6] rfl) ) kx_K hK kw_Eng_53 tw2_94 tw2_95 (va_recv (ci := 2) (q0 := 1) hK hP rfl rfl) hS d_Eng_look_5 ⟨⟨by decide, by decide⟩, Nat.zero_le _, Nat.zero_le _⟩ rfl hl.1 rfl (Nat.le_of_ble_eq_true rfl) (fun locs hS => ?_)
  refine lv_if_ne (tgt := 21) hx hb d_Eng_look_8 (by decide) (fun _ => ?_) (fun h9 => absurd h9 hha)
  refine lv_iload_n hx hb d_Eng_look_21 rfl (lv_at hl 2 rfl) ?_
  refine lv_if_lt (tgt := 30) hx hb d_Eng_look_22 (by decide) (fun h9 => absurd h9 (by decide)) (fun _ => ?_)
  refine lv_iload_n hx hb d_Eng_look_25 rfl (lv_at hl 2 rfl) ?_
  refine lv_iconst (v := 3) hx hb d_Eng_look_26 (by decide) ?_
  refine lv_icmp_le (tgt := 40) hx hb d_Eng_look_27 (by decide) (fun _ => ?_) (fun h9 => absurd (by decide) h9)
  refine lv_iload_n hx hb d_Eng_look_40 rfl (lv_at hl 2 rfl) ?_
  refine lv_iconst (v := 2) hx hb d_Eng_look_41 (by decide) ?_
  refine lv_icmp_ne (tgt := 65) hx hb d_Eng_look_42 (by decide) (fun h9 => absurd (by decide) h9) (fun _ => ?_)
  refine lv_aload_n hx hb d_Eng_look_45 rfl (lv_at hl 0 rfl) ?_
  refine va_get (D := Dg) (ci := 0) (v := .ref (b 0)) (C := R_Eng) (T := F_Eng) (N := 3) hx hb hT in_Eng hown hK hP 0 rfl rfl 0 (by decide) (hT _ tw1_102) (fun _ h9 => h9) rfl d_Eng_look_46 ?_
  refine va_get (D := Dg) (ci := 2) (v := .int (G 5 1)) (C := R_Prg) (T := F_Prg) (N := 7) hx hb hT in_Prg hown hK hP 1 rfl rfl 6 (by decide) (hT _ tw1_43) (fun _ h9 => h9) rfl d_Eng_look_49 ?_
  refine lv_if_ne (tgt := 65) hx hb d_Eng_look_52 (by decide) (fun h9 => absurd hfu h9) (fun _ => ?_)
  obtain ⟨zq, hzq⟩ := hms.2.2.2.2.1
  exact kt_throwN (cls := xNS) (Y := thY) (names := thN) F hlocks hex hl0 htz own_NS (by decide +kernel) (by decide +kernel) fit_N (by decide +kernel) (by decide +kernel) (by decide +kernel) (by decide +kernel) tw2_106 tw2_107 tw1_15 hzq hS hl.1 ⟨by decide, Nat.le_of_ble_eq_true rfl, by decide, by decide⟩ d_Eng_look_55 d_Eng_look_58 d_Eng_look_59 d_Eng_look_61 d_Eng_look_64

set_option maxRecDepth 100000 in
set_option maxHeartbeats 4000000 in
theorem t_Eng_stack_NS (l : Launch) (hl0 : l.stackTraces = false) (Dg : va_G) (a b u v : Nat → Nat) (k : Nat → ClassId) (G M N : vSt) (B : Nat) (z i : Int32) (H : Heap) (hP : va_P Dg classes ((wE a b u v) ++ (wP b k G) ++ (wM u k M) ++ (wM v k N)) H) (hno : i < 0 ∨ ¬ i < (if z = 0 then M else N) 4 0) : kTh l y_Eng_stack b_Eng_stack 4 (some FieldType.int) 6 100 [.ref (a 0), .int z, .int i] H (tX Dg k B H) xNS := by
  refine kt_of (by decide) (Nat.le_of_ble_eq_true rfl) ?_
  intro p e s m below meth cd ls F hlocks hex hh hX hl
  subst hh
  obtain ⟨hx, hb, hml, hown, hT⟩ := id F
  have hK : va_K Dg classes (kTy k) s := hX.1
  have hS : va_S (fun _ => False) s.heap s.heap [] := va_S.rf
  have hl : lv_has ls 4 [(0, .ref (a 0)), (1, .int z), (2, .int i)] := hl
  obtain ⟨-, htz, hms⟩ := id hX
  by_cases hz : z = 0
  · refine lv_aload_n hx hb d_Eng_stack_0 rfl (lv_at hl 0 rfl) ?_
    refine lv_iload_n hx hb d_Eng_stack_1 rfl (lv_at hl 1 rfl) ?_
    refine kp_Vr F (c_Eng_machineOf l Dg a b u v k G M N z _ hP) kx_K hK kw_Eng_84 tw1_166 ts_3 (va_recv (ci := 0) (q0 := 0) hK hP rfl rfl) hS d_Eng_stack_2 ⟨⟨by decide, by decide⟩, Nat.zero_le _, Nat.zero_le _⟩ rfl hl.1 rfl (Nat.le_of_ble_eq_true rfl) (fun locs hS => ?_)
    rw [show (if z = 0 then u 0 else v 0) = u 0 from if_pos hz]
    refine lv_astore_n hx hb d_Eng_stack_5 rfl hl (by decide) rfl (fun ls hl => ?_)
    have hl : lv_has ls 4 [(3, .ref (u 0)), (0, .ref (a 0)), (1, .int z), (2, .int i)] := hl
    refine lv_iload_n hx hb d_Eng_stack_6 rfl (lv_at hl 3 rfl) ?_
    refine lv_if_lt (tgt := 18) hx hb d_Eng_stack_7 (by decide) (fun h7 => ?_) (fun h7 => ?_)
    · obtain ⟨zq, hzq⟩ := hms.2.2.2.2.2.1
      exact kt_throwN (cls := xNS) (Y := thY) (names := thN) F hlocks hex hl0 htz own_NS (by decide +kernel) (by decide +kernel) fit_N (by decide +kernel) (by decide +kernel) (by decide +kernel) (by decide +kernel) tw2_106 tw2_107 tw1_15 hzq hS hl.1 ⟨by decide, Nat.le_of_ble_eq_true rfl, by decide, by decide⟩ d_Eng_stack_18 d_Eng_stack_21 d_Eng_stack_22 d_Eng_stack_24 d_Eng_stack_27
    · refine lv_iload_n hx hb d_Eng_stack_10 rfl (lv_at hl 3 rfl) ?_
      refine lv_aload_n hx hb d_Eng_stack_11 rfl (lv_at hl 0 rfl) ?_
      refine va_get (D := Dg) (ci := 1) (v := .int (M 4 0)) (C := R_Mac) (T := F_Mac) (N := 10) hx hb hT in_Mac hown hK hP 7 rfl rfl 4 (by decide) (hT _ tw1_75) (fun _ h9 => h9) rfl d_Eng_stack_12 ?_
      refine lv_icmp_lt (tgt := 28) hx hb d_Eng_stack_15 (by decide) (fun h9 => absurd h9 (by rw [if_pos hz] at hno; exact hno.resolve_left h7)) (fun _ => ?_)
      obtain ⟨zq, hzq⟩ := hms.2.2.2.2.2.1
      exact kt_throwN (cls := xNS) (Y := thY) (names := thN) F hlocks hex hl0 htz own_NS (by decide +kernel) (by decide +kernel) fit_N (by decide +kernel) (by decide +kernel) (by decide +kernel) (by decide +kernel) tw2_106 tw2_107 tw1_15 hzq hS hl.1 ⟨by decide, Nat.le_of_ble_eq_true rfl, by decide, by decide⟩ d_Eng_stack_18 d_Eng_stack_21 d_Eng_stack_22 d_Eng_stack_24 d_Eng_stack_27
  · refine lv_aload_n hx hb d_Eng_stack_0 rfl (lv_at hl 0 rfl) ?_
    refine lv_iload_n hx hb d_Eng_stack_1 rfl (lv_at hl 1 rfl) ?_
    refine kp_Vr F (c_Eng_machineOf l Dg a b u v k G M N z _ hP) kx_K hK kw_Eng_84 tw1_166 ts_3 (va_recv (ci := 0) (q0 := 0) hK hP rfl rfl) hS d_Eng_stack_2 ⟨⟨by decide, by decide⟩, Nat.zero_le _, Nat.zero_le _⟩ rfl hl.1 rfl (Nat.le_of_ble_eq_true rfl) (fun locs hS => ?_)
    rw [show (if z = 0 then u 0 else v 0) = v 0 from if_neg hz]
    refine lv_astore_n hx hb d_Eng_stack_5 rfl hl (by decide) rfl (fun ls hl => ?_)
    have hl : lv_has ls 4 [(3, .ref (v 0)), (0, .ref (a 0)), (1, .int z), (2, .int i)] := hl
    refine lv_iload_n hx hb d_Eng_stack_6 rfl (lv_at hl 3 rfl) ?_
    refine lv_if_lt (tgt := 18) hx hb d_Eng_stack_7 (by decide) (fun h7 => ?_) (fun h7 => ?_)
    · obtain ⟨zq, hzq⟩ := hms.2.2.2.2.2.1
      exact kt_throwN (cls := xNS) (Y := thY) (names := thN) F hlocks hex hl0 htz own_NS (by decide +kernel) (by decide +kernel) fit_N (by decide +kernel) (by decide +kernel) (by decide +kernel) (by decide +kernel) tw2_106 tw2_107 tw1_15 hzq hS hl.1 ⟨by decide, Nat.le_of_ble_eq_true rfl, by decide, by decide⟩ d_Eng_stack_18 d_Eng_stack_21 d_Eng_stack_22 d_Eng_stack_24 d_Eng_stack_27
    · refine lv_iload_n hx hb d_Eng_stack_10 rfl (lv_at hl 3 rfl) ?_
      refine lv_aload_n hx hb d_Eng_stack_11 rfl (lv_at hl 0 rfl) ?_
      refine va_get (D := Dg) (ci := 1) (v := .int (N 4 0)) (C := R_Mac) (T := F_Mac) (N := 10) hx hb hT in_Mac hown hK hP 12 rfl rfl 4 (by decide) (hT _ tw1_75) (fun _ h9 => h9) rfl d_Eng_stack_12 ?_
      refine lv_icmp_lt (tgt := 28) hx hb d_Eng_stack_15 (by decide) (fun h9 => absurd h9 (by rw [if_neg hz] at hno; exact hno.resolve_left h7)) (fun _ => ?_)
      obtain ⟨zq, hzq⟩ := hms.2.2.2.2.2.1
      exact kt_throwN (cls := xNS) (Y := thY) (names := thN) F hlocks hex hl0 htz own_NS (by decide +kernel) (by decide +kernel) fit_N (by decide +kernel) (by decide +kernel) (by decide +kernel) (by decide +kernel) tw2_106 tw2_107 tw1_15 hzq hS hl.1 ⟨by decide, Nat.le_of_ble_eq_true rfl, by decide, by decide⟩ d_Eng_stack_18 d_Eng_stack_21 d_Eng_stack_22 d_Eng_stack_24 d_Eng_stack_27

set_option maxRecDepth 100000 in
set_option maxHeartbeats 4000000 in
theorem t_Eng_out_NS (l : Launch) (hl0 : l.stackTraces = false) (Dg : va_G) (a b u v : Nat → Nat) (k : Nat → ClassId) (G M N : vSt) (B : Nat) (z i : Int32) (H : Heap) (hP : va_P Dg classes ((wE a b u v) ++ (wP b k G) ++ (wM u k M) ++ (wM v k N)) H) (hno : i < 0 ∨ ¬ i < sMin ((if z = 0 then M else N) 4 2) 60) : kTh l y_Eng_out b_Eng_out 4 (some FieldType.int) 6 100 [.ref (a 0), .int z, .int i] H (tX Dg k B H) xNS := by
  refine kt_of (by decide) (Nat.le_of_ble_eq_true rfl) ?_
  intro p e s m below meth cd ls F hlocks hex hh hX hl
  subst hh
  obtain ⟨hx, hb, hml, hown, hT⟩ := id F
  have hK : va_K Dg classes (kTy k) s := hX.1
  have hS : va_S (fun _ => False) s.heap s.heap [] := va_S.rf
  have hl : lv_has ls 4 [(0, .ref (a 0)), (1, .int z), (2, .int i)] := hl
  obtain ⟨-, htz, hms⟩ := id hX
  by_cases hz : z = 0
  · refine lv_aload_n hx hb d_Eng_out_0 rfl (lv_at hl 0 rfl) ?_
    refine lv_iload_n hx hb d_Eng_out_1 rfl (lv_at hl 1 rfl) ?_
    refine kp_Vr F (c_Eng_machineOf l Dg a b u v k G M N z _ hP) kx_K hK kw_Eng_84 tw1_166 ts_3 (va_recv (ci := 0) (q0 := 0) hK hP rfl rfl) hS d_Eng_out_2 ⟨⟨by decide, by decide⟩, Nat.zero_le _, Nat.zero_le _⟩ rfl hl.1 rfl (Nat.le_of_ble_eq_true rfl) (fun locs hS => ?_)
    rw [show (if z = 0 then u 0 else v 0) = u 0 from if_pos hz]
    refine lv_astore_n hx hb d_Eng_out_5 rfl hl (by decide) rfl (fun ls hl => ?_)
    have hl : lv_has ls 4 [(3, .ref (u 0)), (0, .ref (a 0)), (1, .int z), (2, .int i)] := hl
    refine lv_iload_n hx hb d_Eng_out_6 rfl (lv_at hl 3 rfl) ?_
    refine lv_if_lt (tgt := 18) hx hb d_Eng_out_7 (by decide) (fun h7 => ?_) (fun h7 => ?_)
    · obtain ⟨zq, hzq⟩ := hms.2.2.2.2.2.2.2
      exact kt_throwN (cls := xNS) (Y := thY) (names := thN) F hlocks hex hl0 htz own_NS (by decide +kernel) (by decide +kernel) fit_N (by decide +kernel) (by decide +kernel) (by decide +kernel) (by decide +kernel) tw2_106 tw2_107 tw1_15 hzq hS hl.1 ⟨by decide, Nat.le_of_ble_eq_true rfl, by decide, by decide⟩ d_Eng_out_18 d_Eng_out_21 d_Eng_out_22 d_Eng_out_24 d_Eng_out_27
    · refine lv_iload_n hx hb d_Eng_out_10 rfl (lv_at hl 3 rfl) ?_
      refine lv_aload_n hx hb d_Eng_out_11 rfl (lv_at hl 0 rfl) ?_
      refine kp_V F (c_Mac_keptOutputs l Dg u k M  _ (hP.sub (ws' := (wM u k M)) [7, 8, 9, 10, 11] rfl) ) kx_K hK kw_Eng_109 tw2_216 tw2_217 (va_recv (ci := 1) (q0 := 7) hK hP rfl rfl) hS d_Eng_out_12 ⟨⟨by decide, by decide⟩, Nat.zero_le _, Nat.zero_le _⟩ rfl hl.1 rfl (Nat.le_of_ble_eq_true rfl) (fun locs hS => ?_)
      refine lv_icmp_lt (tgt := 28) hx hb d_Eng_out_15 (by decide) (fun h9 => absurd h9 (by rw [if_pos hz] at hno; exact hno.resolve_left h7)) (fun _ => ?_)
      obtain ⟨zq, hzq⟩ := hms.2.2.2.2.2.2.2
      exact kt_throwN (cls := xNS) (Y := thY) (names := thN) F hlocks hex hl0 htz own_NS (by decide +kernel) (by decide +kernel) fit_N (by decide +kernel) (by decide +kernel) (by decide +kernel) (by decide +kernel) tw2_106 tw2_107 tw1_15 hzq hS hl.1 ⟨by decide, Nat.le_of_ble_eq_true rfl, by decide, by decide⟩ d_Eng_out_18 d_Eng_out_21 d_Eng_out_22 d_Eng_out_24 d_Eng_out_27
  · refine lv_aload_n hx hb d_Eng_out_0 rfl (lv_at hl 0 rfl) ?_
    refine lv_iload_n hx hb d_Eng_out_1 rfl (lv_at hl 1 rfl) ?_
    refine kp_Vr F (c_Eng_machineOf l Dg a b u v k G M N z _ hP) kx_K hK kw_Eng_84 tw1_166 ts_3 (va_recv (ci := 0) (q0 := 0) hK hP rfl rfl) hS d_Eng_out_2 ⟨⟨by decide, by decide⟩, Nat.zero_le _, Nat.zero_le _⟩ rfl hl.1 rfl (Nat.le_of_ble_eq_true rfl) (fun locs hS => ?_)
    rw [show (if z = 0 then u 0 else v 0) = v 0 from if_neg hz]
    refine lv_astore_n hx hb d_Eng_out_5 rfl hl (by decide) rfl (fun ls hl => ?_)
    have hl : lv_has ls 4 [(3, .ref (v 0)), (0, .ref (a 0)), (1, .int z), (2, .int i)] := hl
    refine lv_iload_n hx hb d_Eng_out_6 rfl (lv_at hl 3 rfl) ?_
    refine lv_if_lt (tgt := 18) hx hb d_Eng_out_7 (by decide) (fun h7 => ?_) (fun h7 => ?_)
    · obtain ⟨zq, hzq⟩ := hms.2.2.2.2.2.2.2
      exact kt_throwN (cls := xNS) (Y := thY) (names := thN) F hlocks hex hl0 htz own_NS (by decide +kernel) (by decide +kernel) fit_N (by decide +kernel) (by decide +kernel) (by decide +kernel) (by decide +kernel) tw2_106 tw2_107 tw1_15 hzq hS hl.1 ⟨by decide, Nat.le_of_ble_eq_true rfl, by decide, by decide⟩ d_Eng_out_18 d_Eng_out_21 d_Eng_out_22 d_Eng_out_24 d_Eng_out_27
    · refine lv_iload_n hx hb d_Eng_out_10 rfl (lv_at hl 3 rfl) ?_
      refine lv_aload_n hx hb d_Eng_out_11 rfl (lv_at hl 0 rfl) ?_
      refine kp_V F (c_Mac_keptOutputs l Dg v k N  _ (hP.sub (ws' := (wM v k N)) [12, 13, 14, 15, 16] rfl) ) kx_K hK kw_Eng_109 tw2_216 tw2_217 (va_recv (ci := 1) (q0 := 12) hK hP rfl rfl) hS d_Eng_out_12 ⟨⟨by decide, by decide⟩, Nat.zero_le _, Nat.zero_le _⟩ rfl hl.1 rfl (Nat.le_of_ble_eq_true rfl) (fun locs hS => ?_)
      refine lv_icmp_lt (tgt := 28) hx hb d_Eng_out_15 (by decide) (fun h9 => absurd h9 (by rw [if_neg hz] at hno; exact hno.resolve_left h7)) (fun _ => ?_)
      obtain ⟨zq, hzq⟩ := hms.2.2.2.2.2.2.2
      exact kt_throwN (cls := xNS) (Y := thY) (names := thN) F hlocks hex hl0 htz own_NS (by decide +kernel) (by decide +kernel) fit_N (by decide +kernel) (by decide +kernel) (by decide +kernel) (by decide +kernel) tw2_106 tw2_107 tw1_15 hzq hS hl.1 ⟨by decide, Nat.le_of_ble_eq_true rfl, by decide, by decide⟩ d_Eng_out_18 d_Eng_out_21 d_Eng_out_22 d_Eng_out_24 d_Eng_out_27

set_option maxRecDepth 100000 in
set_option maxHeartbeats 4000000 in
theorem t_Eng_local_NS (l : Launch) (hl0 : l.stackTraces = false) (Dg : va_G) (a b u v : Nat → Nat) (k : Nat → ClassId) (G M N : vSt) (B : Nat) (z i : Int32) (H : Heap) (hP : va_P Dg classes ((wE a b u v) ++ (wP b k G) ++ (wM u k M) ++ (wM v k N)) H) (hno : i < 0 ∨ ¬ i < 8) : kTh l y_Eng_local b_Eng_local 3 (some FieldType.int) 6 100 [.ref (a 0), .int z, .int i] H (tX Dg k B H) xNS := by
  refine kt_of (by decide) (Nat.le_of_ble_eq_true rfl) ?_
  intro p e s m below meth cd ls F hlocks hex hh hX hl
  subst hh
  obtain ⟨hx, hb, hml, hown, hT⟩ := id F
  have hK : va_K Dg classes (kTy k) s := hX.1
  have hS : va_S (fun _ => False) s.heap s.heap [] := va_S.rf
  have hl : lv_has ls 3 [(0, .ref (a 0)), (1, .int z), (2, .int i)] := hl
  obtain ⟨-, htz, hms⟩ := id hX
  refine lv_iload_n hx hb d_Eng_local_0 rfl (lv_at hl 2 rfl) ?_
  refine lv_if_lt (tgt := 10) hx hb d_Eng_local_1 (by decide) (fun h1 => ?_) (fun h1 => ?_)
  · obtain ⟨zq, hzq⟩ := hms.2.2.2.2.2.2.1
    exact kt_throwN (cls := xNS) (Y := thY) (names := thN) F hlocks hex hl0 htz own_NS (by decide +kernel) (by decide +kernel) fit_N (by decide +kernel) (by decide +kernel) (by decide +kernel) (by decide +kernel) tw2_106 tw2_107 tw1_15 hzq hS hl.1 ⟨by decide, Nat.le_of_ble_eq_true rfl, by decide, by decide⟩ d_Eng_local_10 d_Eng_local_13 d_Eng_local_14 d_Eng_local_16 d_Eng_local_19
  · refine lv_iload_n hx hb d_Eng_local_4 rfl (lv_at hl 2 rfl) ?_
    refine lv_bipush (v := 8) hx hb d_Eng_local_5 (by decide) ?_
    refine lv_icmp_lt (tgt := 20) hx hb d_Eng_local_7 (by decide) (fun h9 => absurd h9 (hno.resolve_left h1)) (fun _ => ?_)
    obtain ⟨zq, hzq⟩ := hms.2.2.2.2.2.2.1
    exact kt_throwN (cls := xNS) (Y := thY) (names := thN) F hlocks hex hl0 htz own_NS (by decide +kernel) (by decide +kernel) fit_N (by decide +kernel) (by decide +kernel) (by decide +kernel) (by decide +kernel) tw2_106 tw2_107 tw1_15 hzq hS hl.1 ⟨by decide, Nat.le_of_ble_eq_true rfl, by decide, by decide⟩ d_Eng_local_10 d_Eng_local_13 d_Eng_local_14 d_Eng_local_16 d_Eng_local_19
end
section
/-! MODEL: its methods as functions of its state D; m is the machine's number -/
def pOut (v lo hi : Int32) : Int32 := if v < lo then 1 else if v ≤ hi then 0 else 1
def pIsP (c : Int32) : Int32 := if c = 43 then 1 else if c = 45 then 1 else if c = 42 then 1 else if c = 47 then 1 else if c = 60 then 1 else if c = 61 then 1 else 0
def pIsL (c : Int32) : Int32 := if pIsP c = 0 then (if c = 80 then 1 else if c = 76 then 1 else if c = 83 then 1 else if c = 68 then 1 else if c = 88 then 1 else if c = 79 then 1 else if c = 86 then 1 else if c = 74 then 1 else if c = 90 then 1 else if c = 67 then 1 else if c = 82 then 1 else if c = 72 then 1 else 0) else 1
def pLead (c : Int32) : Int32 := if c = 74 then 1 else if c = 90 then 1 else if c = 67 then 1 else 0
def pFits (c n : Int32) : Int32 := if pIsL c = 0 then 0 else if c = 76 then (if pOut n 0 7 = 0 then 1 else 0) else if c = 83 then (if pOut n 0 7 = 0 then 1 else 0) else 1
abbrev tn (m : Int32) : Nat := m.toNatClampNeg
def dPush (D : vSt) (m v : Int32) : vSt := u2 (u2 D 10 (40 * m + D 5 (tn m)).toNatClampNeg v) 5 (tn m) (D 5 (tn m) + 1)
def dPop (D : vSt) (m : Int32) : vSt := u2 D 5 (tn m) (D 5 (tn m) - 1)
def dTop (D : vSt) (m : Int32) : Int32 := D 10 (40 * m + (dPop D m) 5 (tn m)).toNatClampNeg
def dSay (D : vSt) (m v : Int32) : vSt := if 60 ≤ D 7 (tn m) then u2 D 7 (tn m) (D 7 (tn m) + 1) else u2 (u2 D 13 (60 * m + D 7 (tn m)).toNatClampNeg v) 7 (tn m) (D 7 (tn m) + 1)
def dTrap (D : vSt) (m c : Int32) : Int32 := if D 5 (tn m) < sNeed c then 1 else if c = 82 ∧ D 6 (tn m) = 0 then 1 else if ¬ sPuts c = 0 ∧ D 5 (tn m) = 40 then 2 else if c = 67 ∧ D 6 (tn m) = 10 then 2 else if c = 47 ∧ D 10 (40 * m + D 5 (tn m) - 1).toNatClampNeg = 0 then 3 else 0
def dWork (D : vSt) (m c n : Int32) : vSt :=
  if c = 80 then dPush D m n
  else if c = 76 then dPush D m (D 11 (8 * m + n).toNatClampNeg)
  else if c = 83 then u2 (dPop D m) 11 (8 * m + n).toNatClampNeg (dTop D m)
  else if c = 68 then dPush (dPush (dPop D m) m (dTop D m)) m (dTop D m)
  else if c = 88 then dPush (dPush (dPop (dPop D m) m) m (dTop D m)) m (dTop (dPop D m) m)
  else if c = 79 then dSay (dPop D m) m (dTop D m)
  else if c = 86 then dPop D m
  else if c = 74 then D else if c = 90 then D else if c = 67 then D else if c = 82 then D else if c = 72 then D
  else dPush (dPop (dPop D m) m) m (sRes c (dTop (dPop D m) m) (dTop D m))
/-- where the machine goes on, and what that changes -/
def dNxM (D : vSt) (m c : Int32) : vSt :=
  if c = 67 then u2 (u2 D 12 (10 * m + D 6 (tn m)).toNatClampNeg (D 4 (tn m) + 1)) 6 (tn m) (D 6 (tn m) + 1)
  else if c = 82 then u2 D 6 (tn m) (D 6 (tn m) - 1)
  else if c = 72 then u2 D 8 (tn m) 5
  else if c = 90 then dPop D m else D
def dNxR (D : vSt) (m c n : Int32) : Int32 :=
  if c = 67 then n
  else if c = 82 then D 12 (10 * m + (u2 D 6 (tn m) (D 6 (tn m) - 1)) 6 (tn m)).toNatClampNeg
  else if c = 72 then D 4 (tn m)
  else if c = 90 then (if dTop D m = 0 then n else D 4 (tn m) + 1)
  else if c = 74 then n else D 4 (tn m) + 1
def dActM (D : vSt) (m : Int32) : vSt :=
  if dTrap D m (D 0 (D 4 (tn m)).toNatClampNeg) ≤ 0 then
    u2 (u2 (dNxM (dWork D m (D 0 (D 4 (tn m)).toNatClampNeg) (D 1 (D 4 (tn m)).toNatClampNeg)) m (D 0 (D 4 (tn m)).toNatClampNeg)) 4 (tn m) (dNxR (dWork D m (D 0 (D 4 (tn m)).toNatClampNeg) (D 1 (D 4 (tn m)).toNatClampNeg)) m (D 0 (D 4 (tn m)).toNatClampNeg) (D 1 (D 4 (tn m)).toNatClampNeg))) 9 (tn m)
      ((dNxM (dWork D m (D 0 (D 4 (tn m)).toNatClampNeg) (D 1 (D 4 (tn m)).toNatClampNeg)) m (D 0 (D 4 (tn m)).toNatClampNeg)) 9 (tn m) + 1)
  else u2 D 8 (tn m) (dTrap D m (D 0 (D 4 (tn m)).toNatClampNeg))
def dActR (D : vSt) (m : Int32) : Int32 := if dTrap D m (D 0 (D 4 (tn m)).toNatClampNeg) ≤ 0 then 1 else 0
/-- the model's numbers at machine m are in their bounds -/
def dOk (D : vSt) (m : Int32) : Prop := ∃ i h r o : Nat, i < 2 ∧ m = nI i ∧ D 5 (tn m) = nI h ∧ D 6 (tn m) = nI r ∧ D 7 (tn m) = nI o ∧ h ≤ 40 ∧ r ≤ 10 ∧ o < 2 ^ 30
/-- begin -/
def dB1 (D : vSt) : Nat → vSt
  | 0 => D
  | i + 1 => u2 (u2 (u2 (u2 (u2 (u2 (dB1 D i) 4 (tn (nI i)) 0) 5 (tn (nI i)) 0) 6 (tn (nI i)) 0) 7 (tn (nI i)) 0) 8 (tn (nI i)) 0) 9 (tn (nI i)) 0
def dB2 (D : vSt) : Nat → vSt
  | 0 => D
  | i + 1 => u2 (dB2 D i) 11 (tn (nI i)) 0
def dBeg (D : vSt) : vSt := dB2 (dB1 D 2) 16
def pCh (c : Int32) : Int32 := (c.toUInt32 % 65536).toInt32
def dSet (D : vSt) (p c n : Int32) : vSt := dBeg (u2 (u2 (u2 D 0 (tn p) (vp_nar .char (pCh c))) 1 (tn p) n) 14 2 0)
def dAddC (D : vSt) (c n : Int32) : Int32 := if pFits c n = 0 then 1 else if D 14 1 = 80 then 2 else 0
def dAddM (D : vSt) (c n : Int32) : vSt := if dAddC D c n ≤ 0 then u2 (dSet (u2 D 14 0 (dAddC D c n)) (D 14 1) c n) 14 1 ((dSet (u2 D 14 0 (dAddC D c n)) (D 14 1) c n) 14 1 + 1) else u2 D 14 0 (dAddC D c n)
def dAddR (D : vSt) (c n : Int32) : Int32 := if dAddC D c n ≤ 0 then (u2 (dSet (u2 D 14 0 (dAddC D c n)) (D 14 1) c n) 14 1 ((dSet (u2 D 14 0 (dAddC D c n)) (D 14 1) c n) 14 1 + 1)) 14 1 - 1 else 0
def dChgC (D : vSt) (p c n : Int32) : Int32 := if pOut p 0 (D 14 1 - 1) = 0 then (if pFits c n = 0 then 2 else 0) else 1
def dChg (D : vSt) (p c n : Int32) : vSt := if dChgC D p c n = 0 then dSet (u2 D 14 0 (dChgC D p c n)) p c n else u2 D 14 0 (dChgC D p c n)
def dClear (D : vSt) : vSt := dBeg (u2 (u2 (u2 D 14 0 0) 14 1 0) 14 2 0)
/-- is place p a target? with k instructions looked at -/
def dTgF (D : vSt) (p : Int32) : Nat → Int32
  | 0 => if p ≤ 0 then 0 else if D 0 (p - 1).toNatClampNeg = 67 then 1 else 0
  | i + 1 => if dTgF D p i = 0 then (if pLead (D 0 (tn (nI i))) = 0 then 0 else if D 1 (tn (nI i)) = p then 1 else 0) else 1
def dTg (D : vSt) (p : Int32) : Int32 := dTgF D p (D 14 1).toNatClampNeg
/-- the model's rows are the table -/
def rm (j : Nat) : Int32 := if rl j = 32 then 0 else rl j
def dRows (D : vSt) : Prop := ∀ j, j < 80 → D 3 j = rm j
def dSz (D : vSt) : Prop := ∃ z : Nat, z ≤ 80 ∧ D 14 1 = nI z
/-- alike: letters in common from n on, f to go -/
def alkF (D : vSt) (r q : Nat) : Nat → Nat → Nat
  | 0, n => n
  | f + 1, n => if D 14 1 ≤ nI q + nI n then n else if D 0 (nI q + nI n).toNatClampNeg = D 3 (4 * nI r + nI n).toNatClampNeg then (if n = 0 then alkF D r q f (n + 1) else if dTg D (nI q + nI n) = 0 then alkF D r q f (n + 1) else n) else n
def dAlk (D : vSt) (r q : Nat) : Nat := alkF D r q 4 0
/-- rowAt: f rows to go (row f - 1 next) -/
def dRaF (D : vSt) (q : Nat) : Nat → Int32 → Int32
  | 0, best => best
  | r + 1, best => if dAlk D r q = rn r then (if best = -1 then dRaF D q r (nI r) else if nI (rn r) < nI (rn best.toNatClampNeg) then dRaF D q r best else dRaF D q r (nI r)) else dRaF D q r best
def dRa (D : vSt) (q : Nat) : Int32 := dRaF D q 20 (-1)
theorem dRaF_or (D : vSt) (q : Nat) : ∀ n best, n ≤ 20 → (best = -1 ∨ ∃ j, j < 20 ∧ best = nI j) → dRaF D q n best = -1 ∨ ∃ j, j < 20 ∧ dRaF D q n best = nI j := by
  intro n
  induction n with
  | zero => intro best _ h; exact h
  | succ r ih =>
    intro best hr h
    unfold dRaF
    split
    · split
      · exact ih _ (by omega) (Or.inr ⟨r, by omega, rfl⟩)
      · split
        · exact ih _ (by omega) h
        · exact ih _ (by omega) (Or.inr ⟨r, by omega, rfl⟩)
    · exact ih _ (by omega) h
theorem dRa_or (D : vSt) (q : Nat) : dRa D q = -1 ∨ ∃ j, j < 20 ∧ dRa D q = nI j := dRaF_or D q 20 (-1) (by decide) (Or.inl rfl)
/-- fuse: state, count and within behind the first i places -/
def dFu1 (x : vSt × Int32 × Int32) (i : Nat) : vSt × Int32 × Int32 :=
  if x.2.2 ≤ 0 then (u2 x.1 2 (tn (nI i)) (dRa x.1 i), x.2.1 + 1, if dRa x.1 i = -1 then 0 else nI (rn (dRa x.1 i).toNatClampNeg) - 1)
  else (u2 x.1 2 (tn (nI i)) (-2), x.2.1, x.2.2 - 1)
def dFuS (D : vSt) : Nat → vSt × Int32 × Int32
  | 0 => (D, 0, 0)
  | i + 1 => dFu1 (dFuS D i) i
def dFuM (D : vSt) : vSt := dBeg (u2 (dFuS (u2 D 14 0 0) (D 14 1).toNatClampNeg).1 14 2 1)
def dFuR (D : vSt) : Int32 := (dFuS (u2 D 14 0 0) (D 14 1).toNatClampNeg).2.1
theorem dFuS_r (D : vSt) (r : Nat) (hr : r ≠ 2) : ∀ i, (dFuS D i).1 r = D r := by
  intro i
  induction i with
  | zero => rfl
  | succ i ih =>
    rw [← ih]
    show (dFu1 (dFuS D i) i).1 r = _
    unfold dFu1
    split
    · show (if r = 2 then _ else _) = _; rw [if_neg hr]
    · show (if r = 2 then _ else _) = _; rw [if_neg hr]
def dLookC (D : vSt) (p w : Int32) : Int32 := if pOut p 0 (D 14 1 - 1) = 0 then (if pOut w 0 3 = 0 then (if w = 2 then (if D 14 2 = 0 then 1 else 0) else 0) else 1) else 1
def dLookR (D : vSt) (p w : Int32) : Int32 := if dLookC D p w = 0 then (if w = 0 then D 0 (tn p) else if w = 1 then D 1 (tn p) else if w = 2 then D 2 (tn p) else if dTg (u2 D 14 0 0) p = 0 then 0 else 1) else 0
/-- a row's letters, and the steps of a run -/
def dRow (m : Int32) : Nat → vSt → vSt
  | 0, D => D
  | j + 1, D => if dActR D m = 0 then dActM D m else dRow m j (dActM D m)
def dLen (D : vSt) (z m : Int32) : Nat := if z = 0 then 1 else if 0 ≤ D 2 (D 4 (tn m)).toNatClampNeg then rn (D 2 (D 4 (tn m)).toNatClampNeg).toNatClampNeg else 1
def dGoL (z m : Int32) : Nat → vSt → vSt × Nat
  | 0, D => (D, 0)
  | f + 1, D => if D 8 (tn m) = 0 then (if pOut (D 4 (tn m)) 0 (D 14 1 - 1) = 0 then ((dGoL z m f (dRow m (dLen D z m) D)).1, (dGoL z m f (dRow m (dLen D z m) D)).2 + 1) else (u2 D 8 (tn m) 4, 0)) else (D, 0)
def dRunC (D : vSt) (z : Int32) : Int32 := if z = 0 then 0 else if D 14 2 = 0 then 1 else 0
def dMac (z : Int32) : Int32 := if z = 0 then 0 else 1
def dRunM (D : vSt) (z n : Int32) : vSt := if dRunC D z ≤ 0 then (dGoL z (dMac z) (sMost n) (u2 D 14 0 (dRunC D z))).1 else u2 D 14 0 (dRunC D z)
def dRunR (D : vSt) (z n : Int32) : Int32 := if dRunC D z ≤ 0 then nI (dGoL z (dMac z) (sMost n) (u2 D 14 0 (dRunC D z))).2 else 0
def dFact (D : vSt) (z w : Int32) : Int32 := if w = 0 then D 4 (tn (dMac z)) else if w = 1 then D 5 (tn (dMac z)) else if w = 2 then D 6 (tn (dMac z)) else if w = 3 then D 7 (tn (dMac z)) else if w = 4 then D 8 (tn (dMac z)) else if w = 5 then D 9 (tn (dMac z)) else -1
end
section
set_option maxRecDepth 100000 in
set_option maxHeartbeats 4000000 in
theorem c_Mod_thrown (l : Launch) (Dg : va_G) (a : Nat → Nat) (k : Nat → ClassId) (D : vSt) (H : Heap) (hP : va_P Dg classes (wD a k D) H) : kPu l y_Mod_thrown b_Mod_thrown 1 (some FieldType.int) 0 0 [.ref (a 0)] H (va_K Dg classes (kTy k)) (D 14 0) := by
  refine k_of (by decide) (Nat.le_of_ble_eq_true rfl) ?_
  intro p e s m below meth cd ls F hlocks hret hname hh hX hl
  subst hh
  obtain ⟨hx, hb, hml, hown, hT⟩ := id F
  have hK : va_K Dg classes (kTy k) s := hX
  have hS : va_S (fun _ => False) s.heap s.heap [] := va_S.rf
  have hl : lv_has ls 1 [(0, .ref (a 0))] := hl
  refine lv_aload_n hx hb d_Mod_thrown_0 rfl (lv_at hl 0 rfl) ?_
  refine va_get (D := Dg) (ci := 3) (v := .int (D 14 0)) (C := R_Mod) (T := F_Mod) (N := 17) hx hb hT in_Mod hown hK hP 0 rfl rfl 0 (by decide) (hT _ tw2_226) (fun _ h9 => h9) rfl d_Mod_thrown_1 ?_
  exact kp_i F hlocks hret hS d_Mod_thrown_4 rfl

set_option maxRecDepth 100000 in
set_option maxHeartbeats 4000000 in
theorem c_Mod_refuse (l : Launch) (Dg : va_G) (a : Nat → Nat) (k : Nat → ClassId) (D : vSt) (w : Int32) (H : Heap) (hP : va_P Dg classes (wD a k D) H) (hD : va_D (fun _ => True) (wD a k D)) : kMi l y_Mod_refuse b_Mod_refuse 2 (some FieldType.int) 0 0 [.ref (a 0), .int w] H (va_K Dg classes (kTy k)) Dg (wD a k D) (wD a k (u2 D 14 0 w)) (0) := by
  refine k_of (by decide) (Nat.le_of_ble_eq_true rfl) ?_
  intro p e s m below meth cd ls F hlocks hret hname hh hX hl
  subst hh
  obtain ⟨hx, hb, hml, hown, hT⟩ := id F
  have hK : va_K Dg classes (kTy k) s := hX
  have hA : ∀ q : Nat, s.heap.size ≤ q → va_A (wD a k D) s.heap.size q := fun q h => Or.inr h
  have hD := hD.self (sz := s.heap.size)
  have hS : va_S (va_A (wD a k D) s.heap.size) s.heap s.heap [] := va_S.rf
  have hl : lv_has ls 2 [(0, .ref (a 0)), (1, .int w)] := hl
  refine lv_aload_n hx hb d_Mod_refuse_0 rfl (lv_at hl 0 rfl) ?_
  refine lv_iload_n hx hb d_Mod_refuse_1 rfl (lv_at hl 1 rfl) ?_
  refine va_put (D := Dg) (ci := 3) (v := .int w) (ty := .int) (C := R_Mod) (T := F_Mod) (N := 17) hx hb hT in_Mod t_Mod t_Mod_ok n_Mod hown hK hP hD hS 0 rfl rfl 0 (by decide) (hT _ tw2_226) (fun _ h9 => h9) rfl (by decide +kernel) rfl rfl (Nat.le_of_ble_eq_true rfl) d_Mod_refuse_2 (fun H locs hP hD hS => ?_)
  have hP : va_P Dg classes (wD a k (u2 D 14 0 w)) H := hP
  have hD : va_D (va_A (wD a k D) s.heap.size) (wD a k (u2 D 14 0 w)) := hD
  obtain ⟨Ds1, hDs1⟩ : ∃ z9, z9 = (u2 D 14 0 w) := ⟨_, rfl⟩
  rw [← hDs1] at hP hD
  refine lv_iconst (v := 0) hx hb d_Mod_refuse_5 (by decide) ?_
  exact km_i F hlocks hret hP hD hS d_Mod_refuse_6 rfl (by subst hDs1; rfl)

set_option maxRecDepth 100000 in
set_option maxHeartbeats 4000000 in
theorem c_Mod_outside (l : Launch) (Dg : va_G) (k : Nat → ClassId) (x lo hi : Int32) (H : Heap) : kPu l y_Mod_outside b_Mod_outside 3 (some FieldType.boolean) 0 0 [.int x, .int lo, .int hi] H (va_K Dg classes (kTy k)) (pOut x lo hi) := by
  refine k_of (by decide) (Nat.le_of_ble_eq_true rfl) ?_
  intro p e s m below meth cd ls F hlocks hret hname hh hX hl
  subst hh
  obtain ⟨hx, hb, hml, hown, hT⟩ := id F
  have hK : va_K Dg classes (kTy k) s := hX
  have hS : va_S (fun _ => False) s.heap s.heap [] := va_S.rf
  have hl : lv_has ls 3 [(0, .int x), (1, .int lo), (2, .int hi)] := hl
  refine lv_iload_n hx hb d_Mod_outside_0 rfl (lv_at hl 0 rfl) ?_
  refine lv_iload_n hx hb d_Mod_outside_1 rfl (lv_at hl 1 rfl) ?_
  refine lv_icmp_lt (tgt := 10) hx hb d_Mod_outside_2 (by decide) (fun h2 => ?_) (fun h2 => ?_)
  · refine lv_iconst (v := 1) hx hb d_Mod_outside_10 (by decide) ?_
    refine lv_goto (tgt := 15) hx hb d_Mod_outside_11 (by decide) ?_
    exact kp_z F hlocks hret hS d_Mod_outside_15 rfl (by unfold pOut; rw [if_pos h2])
  · refine lv_iload_n hx hb d_Mod_outside_5 rfl (lv_at hl 0 rfl) ?_
    refine lv_iload_n hx hb d_Mod_outside_6 rfl (lv_at hl 2 rfl) ?_
    refine lv_icmp_le (tgt := 14) hx hb d_Mod_outside_7 (by decide) (fun h7 => ?_) (fun h7 => ?_)
    · refine lv_iconst (v := 0) hx hb d_Mod_outside_14 (by decide) ?_
      exact kp_z F hlocks hret hS d_Mod_outside_15 rfl (by unfold pOut; rw [if_neg h2, if_pos h7])
    · refine lv_iconst (v := 1) hx hb d_Mod_outside_10 (by decide) ?_
      refine lv_goto (tgt := 15) hx hb d_Mod_outside_11 (by decide) ?_
      exact kp_z F hlocks hret hS d_Mod_outside_15 rfl (by unfold pOut; rw [if_neg h2, if_neg h7])

set_option maxRecDepth 100000 in
set_option maxHeartbeats 4000000 in
theorem c_Mod_isPlain (l : Launch) (Dg : va_G) (k : Nat → ClassId) (c : Int32) (H : Heap) : kPu l y_Mod_isPlain b_Mod_isPlain 1 (some FieldType.boolean) 0 0 [.int c] H (va_K Dg classes (kTy k)) (pIsP c) := by
  refine k_of (by decide) (Nat.le_of_ble_eq_true rfl) ?_
  intro p e s m below meth cd ls F hlocks hret hname hh hX hl
  subst hh
  obtain ⟨hx, hb, hml, hown, hT⟩ := id F
  have hK : va_K Dg classes (kTy k) s := hX
  have hS : va_S (fun _ => False) s.heap s.heap [] := va_S.rf
  have hl : lv_has ls 1 [(0, .int c)] := hl
  refine lv_iload_n hx hb d_Mod_isPlain_0 rfl (lv_at hl 0 rfl) ?_
  refine lv_bipush (v := 43) hx hb d_Mod_isPlain_1 (by decide) ?_
  refine lv_icmp_eq (tgt := 36) hx hb d_Mod_isPlain_3 (by decide) (fun h3 => ?_) (fun h3 => ?_)
  · refine lv_iconst (v := 1) hx hb d_Mod_isPlain_36 (by decide) ?_
    refine lv_goto (tgt := 41) hx hb d_Mod_isPlain_37 (by decide) ?_
    exact kp_z F hlocks hret hS d_Mod_isPlain_41 rfl (by unfold pIsP; rw [if_pos h3])
  · refine lv_iload_n hx hb d_Mod_isPlain_6 rfl (lv_at hl 0 rfl) ?_
    refine lv_bipush (v := 45) hx hb d_Mod_isPlain_7 (by decide) ?_
    refine lv_icmp_eq (tgt := 36) hx hb d_Mod_isPlain_9 (by decide) (fun h9 => ?_) (fun h9 => ?_)
    · refine lv_iconst (v := 1) hx hb d_Mod_isPlain_36 (by decide) ?_
      refine lv_goto (tgt := 41) hx hb d_Mod_isPlain_37 (by decide) ?_
      exact kp_z F hlocks hret hS d_Mod_isPlain_41 rfl (by unfold pIsP; rw [if_neg h3, if_pos h9])
    · refine lv_iload_n hx hb d_Mod_isPlain_12 rfl (lv_at hl 0 rfl) ?_
      refine lv_bipush (v := 42) hx hb d_Mod_isPlain_13 (by decide) ?_
      refine lv_icmp_eq (tgt := 36) hx hb d_Mod_isPlain_15 (by decide) (fun h15 => ?_) (fun h15 => ?_)
      · refine lv_iconst (v := 1) hx hb d_Mod_isPlain_36 (by decide) ?_
        refine lv_goto (tgt := 41) hx hb d_Mod_isPlain_37 (by decide) ?_
        exact kp_z F hlocks hret hS d_Mod_isPlain_41 rfl (by unfold pIsP; rw [if_neg h3, if_neg h9, if_pos h15])
      · refine lv_iload_n hx hb d_Mod_isPlain_18 rfl (lv_at hl 0 rfl) ?_
        refine lv_bipush (v := 47) hx hb d_Mod_isPlain_19 (by decide) ?_
        refine lv_icmp_eq (tgt := 36) hx hb d_Mod_isPlain_21 (by decide) (fun h21 => ?_) (fun h21 => ?_)
        · refine lv_iconst (v := 1) hx hb d_Mod_isPlain_36 (by decide) ?_
          refine lv_goto (tgt := 41) hx hb d_Mod_isPlain_37 (by decide) ?_
          exact kp_z F hlocks hret hS d_Mod_isPlain_41 rfl (by unfold pIsP; rw [if_neg h3, if_neg h9, if_neg h15, if_pos h21])
        · refine lv_iload_n hx hb d_Mod_isPlain_24 rfl (lv_at hl 0 rfl) ?_
          refine lv_bipush (v := 60) hx hb d_Mod_isPlain_25 (by decide) ?_
          refine lv_icmp_eq (tgt := 36) hx hb d_Mod_isPlain_27 (by decide) (fun h27 => ?_) (fun h27 => ?_)
          · refine lv_iconst (v := 1) hx hb d_Mod_isPlain_36 (by decide) ?_
            refine lv_goto (tgt := 41) hx hb d_Mod_isPlain_37 (by decide) ?_
            exact kp_z F hlocks hret hS d_Mod_isPlain_41 rfl (by unfold pIsP; rw [if_neg h3, if_neg h9, if_neg h15, if_neg h21, if_pos h27])
          · refine lv_iload_n hx hb d_Mod_isPlain_30 rfl (lv_at hl 0 rfl) ?_
            refine lv_bipush (v := 61) hx hb d_Mod_isPlain_31 (by decide) ?_
            refine lv_icmp_ne (tgt := 40) hx hb d_Mod_isPlain_33 (by decide) (fun h33 => ?_) (fun h33 => ?_)
            · refine lv_iconst (v := 0) hx hb d_Mod_isPlain_40 (by decide) ?_
              exact kp_z F hlocks hret hS d_Mod_isPlain_41 rfl (by unfold pIsP; rw [if_neg h3, if_neg h9, if_neg h15, if_neg h21, if_neg h27, if_neg h33])
            · refine lv_iconst (v := 1) hx hb d_Mod_isPlain_36 (by decide) ?_
              refine lv_goto (tgt := 41) hx hb d_Mod_isPlain_37 (by decide) ?_
              exact kp_z F hlocks hret hS d_Mod_isPlain_41 rfl (by unfold pIsP; rw [if_neg h3, if_neg h9, if_neg h15, if_neg h21, if_neg h27, if_pos h33])

set_option maxRecDepth 100000 in
set_option maxHeartbeats 4000000 in
theorem c_Mod_isLetter (l : Launch) (Dg : va_G) (k : Nat → ClassId) (c : Int32) (H : Heap) : kPu l y_Mod_isLetter b_Mod_isLetter 1 (some FieldType.boolean) 1 20 [.int c] H (va_K Dg classes (kTy k)) (pIsL c) := by
  refine k_of (by decide) (Nat.le_of_ble_eq_true rfl) ?_
  intro p e s m below meth cd ls F hlocks hret hname hh hX hl
  subst hh
  obtain ⟨hx, hb, hml, hown, hT⟩ := id F
  have hK : va_K Dg classes (kTy k) s := hX
  have hS : va_S (fun _ => False) s.heap s.heap [] := va_S.rf
  have hl : lv_has ls 1 [(0, .int c)] := hl
  refine lv_iload_n hx hb d_Mod_isLetter_0 rfl (lv_at hl 0 rfl) ?_
  refine kp_S F (c_Mod_isPlain l Dg k c _ ) kx_K hK kw_Mod_57 tw3_54 hS d_Mod_isLetter_1 ⟨⟨by decide, by decide⟩, Nat.le_refl _, Nat.le_refl _⟩ rfl hl.1 rfl (Nat.le_of_ble_eq_true rfl) (fun locs hS => ?_)
  refine lv_if_ne (tgt := 79) hx hb d_Mod_isLetter_4 (by decide) (fun h4 => ?_) (fun h4 => ?_)
  · refine lv_iconst (v := 1) hx hb d_Mod_isLetter_79 (by decide) ?_
    refine lv_goto (tgt := 84) hx hb d_Mod_isLetter_80 (by decide) ?_
    exact kp_z F hlocks hret hS d_Mod_isLetter_84 rfl (by unfold pIsL; rw [if_neg h4])
  · refine lv_iload_n hx hb d_Mod_isLetter_7 rfl (lv_at hl 0 rfl) ?_
    refine lv_bipush (v := 80) hx hb d_Mod_isLetter_8 (by decide) ?_
    refine lv_icmp_eq (tgt := 79) hx hb d_Mod_isLetter_10 (by decide) (fun h10 => ?_) (fun h10 => ?_)
    · refine lv_iconst (v := 1) hx hb d_Mod_isLetter_79 (by decide) ?_
      refine lv_goto (tgt := 84) hx hb d_Mod_isLetter_80 (by decide) ?_
      exact kp_z F hlocks hret hS d_Mod_isLetter_84 rfl (by unfold pIsL; rw [if_pos h4, if_pos h10])
    · refine lv_iload_n hx hb d_Mod_isLetter_13 rfl (lv_at hl 0 rfl) ?_
      refine lv_bipush (v := 76) hx hb d_Mod_isLetter_14 (by decide) ?_
      refine lv_icmp_eq (tgt := 79) hx hb d_Mod_isLetter_16 (by decide) (fun h16 => ?_) (fun h16 => ?_)
      · refine lv_iconst (v := 1) hx hb d_Mod_isLetter_79 (by decide) ?_
        refine lv_goto (tgt := 84) hx hb d_Mod_isLetter_80 (by decide) ?_
        exact kp_z F hlocks hret hS d_Mod_isLetter_84 rfl (by unfold pIsL; rw [if_pos h4, if_neg h10, if_pos h16])
      · refine lv_iload_n hx hb d_Mod_isLetter_19 rfl (lv_at hl 0 rfl) ?_
        refine lv_bipush (v := 83) hx hb d_Mod_isLetter_20 (by decide) ?_
        refine lv_icmp_eq (tgt := 79) hx hb d_Mod_isLetter_22 (by decide) (fun h22 => ?_) (fun h22 => ?_)
        · refine lv_iconst (v := 1) hx hb d_Mod_isLetter_79 (by decide) ?_
          refine lv_goto (tgt := 84) hx hb d_Mod_isLetter_80 (by decide) ?_
          exact kp_z F hlocks hret hS d_Mod_isLetter_84 rfl (by unfold pIsL; rw [if_pos h4, if_neg h10, if_neg h16, if_pos h22])
        · refine lv_iload_n hx hb d_Mod_isLetter_25 rfl (lv_at hl 0 rfl) ?_
          refine lv_bipush (v := 68) hx hb d_Mod_isLetter_26 (by decide) ?_
          refine lv_icmp_eq (tgt := 79) hx hb d_Mod_isLetter_28 (by decide) (fun h28 => ?_) (fun h28 => ?_)
          · refine lv_iconst (v := 1) hx hb d_Mod_isLetter_79 (by decide) ?_
            refine lv_goto (tgt := 84) hx hb d_Mod_isLetter_80 (by decide) ?_
            exact kp_z F hlocks hret hS d_Mod_isLetter_84 rfl (by unfold pIsL; rw [if_pos h4, if_neg h10, if_neg h16, if_neg h22, if_pos h28])
          · refine lv_iload_n hx hb d_Mod_isLetter_31 rfl (lv_at hl 0 rfl) ?_
            refine lv_bipush (v := 88) hx hb d_Mod_isLetter_32 (by decide) ?_
            refine lv_icmp_eq (tgt := 79) hx hb d_Mod_isLetter_34 (by decide) (fun h34 => ?_) (fun h34 => ?_)
            · refine lv_iconst (v := 1) hx hb d_Mod_isLetter_79 (by decide) ?_
              refine lv_goto (tgt := 84) hx hb d_Mod_isLetter_80 (by decide) ?_
              exact kp_z F hlocks hret hS d_Mod_isLetter_84 rfl (by unfold pIsL; rw [if_pos h4, if_neg h10, if_neg h16, if_neg h22, if_neg h28, if_pos h34])
            · refine lv_iload_n hx hb d_Mod_isLetter_37 rfl (lv_at hl 0 rfl) ?_
              refine lv_bipush (v := 79) hx hb d_Mod_isLetter_38 (by decide) ?_
              refine lv_icmp_eq (tgt := 79) hx hb d_Mod_isLetter_40 (by decide) (fun h40 => ?_) (fun h40 => ?_)
              · refine lv_iconst (v := 1) hx hb d_Mod_isLetter_79 (by decide) ?_
                refine lv_goto (tgt := 84) hx hb d_Mod_isLetter_80 (by decide) ?_
                exact kp_z F hlocks hret hS d_Mod_isLetter_84 rfl (by unfold pIsL; rw [if_pos h4, if_neg h10, if_neg h16, if_neg h22, if_neg h28, if_neg h34, if_pos h40])
              · refine lv_iload_n hx hb d_Mod_isLetter_43 rfl (lv_at hl 0 rfl) ?_
                refine lv_bipush (v := 86) hx hb d_Mod_isLetter_44 (by decide) ?_
                refine lv_icmp_eq (tgt := 79) hx hb d_Mod_isLetter_46 (by decide) (fun h46 => ?_) (fun h46 => ?_)
                · refine lv_iconst (v := 1) hx hb d_Mod_isLetter_79 (by decide) ?_
                  refine lv_goto (tgt := 84) hx hb d_Mod_isLetter_80 (by decide) ?_
                  exact kp_z F hlocks hret hS d_Mod_isLetter_84 rfl (by unfold pIsL; rw [if_pos h4, if_neg h10, if_neg h16, if_neg h22, if_neg h28, if_neg h34, if_neg h40, if_pos h46])
                · refine lv_iload_n hx hb d_Mod_isLetter_49 rfl (lv_at hl 0 rfl) ?_
                  refine lv_bipush (v := 74) hx hb d_Mod_isLetter_50 (by decide) ?_
                  refine lv_icmp_eq (tgt := 79) hx hb d_Mod_isLetter_52 (by decide) (fun h52 => ?_) (fun h52 => ?_)
                  · refine lv_iconst (v := 1) hx hb d_Mod_isLetter_79 (by decide) ?_
                    refine lv_goto (tgt := 84) hx hb d_Mod_isLetter_80 (by decide) ?_
                    exact kp_z F hlocks hret hS d_Mod_isLetter_84 rfl (by unfold pIsL; rw [if_pos h4, if_neg h10, if_neg h16, if_neg h22, if_neg h28, if_neg h34, if_neg h40, if_neg h46, if_pos h52])
                  · refine lv_iload_n hx hb d_Mod_isLetter_55 rfl (lv_at hl 0 rfl) ?_
                    refine lv_bipush (v := 90) hx hb d_Mod_isLetter_56 (by decide) ?_
                    refine lv_icmp_eq (tgt := 79) hx hb d_Mod_isLetter_58 (by decide) (fun h58 => ?_) (fun h58 => ?_)
                    · refine lv_iconst (v := 1) hx hb d_Mod_isLetter_79 (by decide) ?_
                      refine lv_goto (tgt := 84) hx hb d_Mod_isLetter_80 (by decide) ?_
                      exact kp_z F hlocks hret hS d_Mod_isLetter_84 rfl (by unfold pIsL; rw [if_pos h4, if_neg h10, if_neg h16, if_neg h22, if_neg h28, if_neg h34, if_neg h40, if_neg h46, if_neg h52, if_pos h58])
                    · refine lv_iload_n hx hb d_Mod_isLetter_61 rfl (lv_at hl 0 rfl) ?_
                      refine lv_bipush (v := 67) hx hb d_Mod_isLetter_62 (by decide) ?_
                      refine lv_icmp_eq (tgt := 79) hx hb d_Mod_isLetter_64 (by decide) (fun h64 => ?_) (fun h64 => ?_)
                      · refine lv_iconst (v := 1) hx hb d_Mod_isLetter_79 (by decide) ?_
                        refine lv_goto (tgt := 84) hx hb d_Mod_isLetter_80 (by decide) ?_
                        exact kp_z F hlocks hret hS d_Mod_isLetter_84 rfl (by unfold pIsL; rw [if_pos h4, if_neg h10, if_neg h16, if_neg h22, if_neg h28, if_neg h34, if_neg h40, if_neg h46, if_neg h52, if_neg h58, if_pos h64])
                      · refine lv_iload_n hx hb d_Mod_isLetter_67 rfl (lv_at hl 0 rfl) ?_
                        refine lv_bipush (v := 82) hx hb d_Mod_isLetter_68 (by decide) ?_
                        refine lv_icmp_eq (tgt := 79) hx hb d_Mod_isLetter_70 (by decide) (fun h70 => ?_) (fun h70 => ?_)
                        · refine lv_iconst (v := 1) hx hb d_Mod_isLetter_79 (by decide) ?_
                          refine lv_goto (tgt := 84) hx hb d_Mod_isLetter_80 (by decide) ?_
                          exact kp_z F hlocks hret hS d_Mod_isLetter_84 rfl (by unfold pIsL; rw [if_pos h4, if_neg h10, if_neg h16, if_neg h22, if_neg h28, if_neg h34, if_neg h40, if_neg h46, if_neg h52, if_neg h58, if_neg h64, if_pos h70])
                        · refine lv_iload_n hx hb d_Mod_isLetter_73 rfl (lv_at hl 0 rfl) ?_
                          refine lv_bipush (v := 72) hx hb d_Mod_isLetter_74 (by decide) ?_
                          refine lv_icmp_ne (tgt := 83) hx hb d_Mod_isLetter_76 (by decide) (fun h76 => ?_) (fun h76 => ?_)
                          · refine lv_iconst (v := 0) hx hb d_Mod_isLetter_83 (by decide) ?_
                            exact kp_z F hlocks hret hS d_Mod_isLetter_84 rfl (by unfold pIsL; rw [if_pos h4, if_neg h10, if_neg h16, if_neg h22, if_neg h28, if_neg h34, if_neg h40, if_neg h46, if_neg h52, if_neg h58, if_neg h64, if_neg h70, if_neg h76])
                          · refine lv_iconst (v := 1) hx hb d_Mod_isLetter_79 (by decide) ?_
                            refine lv_goto (tgt := 84) hx hb d_Mod_isLetter_80 (by decide) ?_
                            exact kp_z F hlocks hret hS d_Mod_isLetter_84 rfl (by unfold pIsL; rw [if_pos h4, if_neg h10, if_neg h16, if_neg h22, if_neg h28, if_neg h34, if_neg h40, if_neg h46, if_neg h52, if_neg h58, if_neg h64, if_neg h70, if_pos h76])

set_option maxRecDepth 100000 in
set_option maxHeartbeats 4000000 in
theorem c_Mod_leads (l : Launch) (Dg : va_G) (k : Nat → ClassId) (c : Int32) (H : Heap) : kPu l y_Mod_leads b_Mod_leads 1 (some FieldType.boolean) 0 0 [.int c] H (va_K Dg classes (kTy k)) (pLead c) := by
  refine k_of (by decide) (Nat.le_of_ble_eq_true rfl) ?_
  intro p e s m below meth cd ls F hlocks hret hname hh hX hl
  subst hh
  obtain ⟨hx, hb, hml, hown, hT⟩ := id F
  have hK : va_K Dg classes (kTy k) s := hX
  have hS : va_S (fun _ => False) s.heap s.heap [] := va_S.rf
  have hl : lv_has ls 1 [(0, .int c)] := hl
  refine lv_iload_n hx hb d_Mod_leads_0 rfl (lv_at hl 0 rfl) ?_
  refine lv_bipush (v := 74) hx hb d_Mod_leads_1 (by decide) ?_
  refine lv_icmp_eq (tgt := 18) hx hb d_Mod_leads_3 (by decide) (fun h3 => ?_) (fun h3 => ?_)
  · refine lv_iconst (v := 1) hx hb d_Mod_leads_18 (by decide) ?_
    refine lv_goto (tgt := 23) hx hb d_Mod_leads_19 (by decide) ?_
    exact kp_z F hlocks hret hS d_Mod_leads_23 rfl (by unfold pLead; rw [if_pos h3])
  · refine lv_iload_n hx hb d_Mod_leads_6 rfl (lv_at hl 0 rfl) ?_
    refine lv_bipush (v := 90) hx hb d_Mod_leads_7 (by decide) ?_
    refine lv_icmp_eq (tgt := 18) hx hb d_Mod_leads_9 (by decide) (fun h9 => ?_) (fun h9 => ?_)
    · refine lv_iconst (v := 1) hx hb d_Mod_leads_18 (by decide) ?_
      refine lv_goto (tgt := 23) hx hb d_Mod_leads_19 (by decide) ?_
      exact kp_z F hlocks hret hS d_Mod_leads_23 rfl (by unfold pLead; rw [if_neg h3, if_pos h9])
    · refine lv_iload_n hx hb d_Mod_leads_12 rfl (lv_at hl 0 rfl) ?_
      refine lv_bipush (v := 67) hx hb d_Mod_leads_13 (by decide) ?_
      refine lv_icmp_ne (tgt := 22) hx hb d_Mod_leads_15 (by decide) (fun h15 => ?_) (fun h15 => ?_)
      · refine lv_iconst (v := 0) hx hb d_Mod_leads_22 (by decide) ?_
        exact kp_z F hlocks hret hS d_Mod_leads_23 rfl (by unfold pLead; rw [if_neg h3, if_neg h9, if_neg h15])
      · refine lv_iconst (v := 1) hx hb d_Mod_leads_18 (by decide) ?_
        refine lv_goto (tgt := 23) hx hb d_Mod_leads_19 (by decide) ?_
        exact kp_z F hlocks hret hS d_Mod_leads_23 rfl (by unfold pLead; rw [if_neg h3, if_neg h9, if_pos h15])

set_option maxRecDepth 100000 in
set_option maxHeartbeats 4000000 in
theorem c_Mod_fits (l : Launch) (Dg : va_G) (k : Nat → ClassId) (c n : Int32) (H : Heap) : kPu l y_Mod_fits b_Mod_fits 2 (some FieldType.boolean) 2 40 [.int c, .int n] H (va_K Dg classes (kTy k)) (pFits c n) := by
  refine k_of (by decide) (Nat.le_of_ble_eq_true rfl) ?_
  intro p e s m below meth cd ls F hlocks hret hname hh hX hl
  subst hh
  obtain ⟨hx, hb, hml, hown, hT⟩ := id F
  have hK : va_K Dg classes (kTy k) s := hX
  have hS : va_S (fun _ => False) s.heap s.heap [] := va_S.rf
  have hl : lv_has ls 2 [(0, .int c), (1, .int n)] := hl
  refine lv_iload_n hx hb d_Mod_fits_0 rfl (lv_at hl 0 rfl) ?_
  refine kp_S F (c_Mod_isLetter l Dg k c _ ) kx_K hK kw_Mod_61 tw3_51 hS d_Mod_fits_1 ⟨⟨by decide, by decide⟩, Nat.le_refl _, Nat.le_refl _⟩ rfl hl.1 rfl (Nat.le_of_ble_eq_true rfl) (fun locs hS => ?_)
  refine lv_if_eq (tgt := 33) hx hb d_Mod_fits_4 (by decide) (fun h4 => ?_) (fun h4 => ?_)
  · refine lv_iconst (v := 0) hx hb d_Mod_fits_33 (by decide) ?_
    exact kp_z F hlocks hret hS d_Mod_fits_34 rfl (by unfold pFits; rw [if_pos h4])
  · refine lv_iload_n hx hb d_Mod_fits_7 rfl (lv_at hl 0 rfl) ?_
    refine lv_bipush (v := 76) hx hb d_Mod_fits_8 (by decide) ?_
    refine lv_icmp_eq (tgt := 19) hx hb d_Mod_fits_10 (by decide) (fun h10 => ?_) (fun h10 => ?_)
    · refine lv_iload_n hx hb d_Mod_fits_19 rfl (lv_at hl 1 rfl) ?_
      refine lv_iconst (v := 0) hx hb d_Mod_fits_20 (by decide) ?_
      refine lv_bipush (v := 7) hx hb d_Mod_fits_21 (by decide) ?_
      refine kp_S F (c_Mod_outside l Dg k n 0 7 _ ) kx_K hK kw_Mod_64 tw3_57 hS d_Mod_fits_23 ⟨⟨by decide, by decide⟩, Nat.le_refl _, Nat.le_refl _⟩ rfl hl.1 rfl (Nat.le_of_ble_eq_true rfl) (fun locs hS => ?_)
      refine lv_if_ne (tgt := 33) hx hb d_Mod_fits_26 (by decide) (fun h26 => ?_) (fun h26 => ?_)
      · refine lv_iconst (v := 0) hx hb d_Mod_fits_33 (by decide) ?_
        exact kp_z F hlocks hret hS d_Mod_fits_34 rfl (by unfold pFits; rw [if_neg h4, if_pos h10, if_neg h26])
      · refine lv_iconst (v := 1) hx hb d_Mod_fits_29 (by decide) ?_
        refine lv_goto (tgt := 34) hx hb d_Mod_fits_30 (by decide) ?_
        exact kp_z F hlocks hret hS d_Mod_fits_34 rfl (by unfold pFits; rw [if_neg h4, if_pos h10, if_pos h26])
    · refine lv_iload_n hx hb d_Mod_fits_13 rfl (lv_at hl 0 rfl) ?_
      refine lv_bipush (v := 83) hx hb d_Mod_fits_14 (by decide) ?_
      refine lv_icmp_ne (tgt := 29) hx hb d_Mod_fits_16 (by decide) (fun h16 => ?_) (fun h16 => ?_)
      · refine lv_iconst (v := 1) hx hb d_Mod_fits_29 (by decide) ?_
        refine lv_goto (tgt := 34) hx hb d_Mod_fits_30 (by decide) ?_
        exact kp_z F hlocks hret hS d_Mod_fits_34 rfl (by unfold pFits; rw [if_neg h4, if_neg h10, if_neg h16])
      · refine lv_iload_n hx hb d_Mod_fits_19 rfl (lv_at hl 1 rfl) ?_
        refine lv_iconst (v := 0) hx hb d_Mod_fits_20 (by decide) ?_
        refine lv_bipush (v := 7) hx hb d_Mod_fits_21 (by decide) ?_
        refine kp_S F (c_Mod_outside l Dg k n 0 7 _ ) kx_K hK kw_Mod_64 tw3_57 hS d_Mod_fits_23 ⟨⟨by decide, by decide⟩, Nat.le_refl _, Nat.le_refl _⟩ rfl hl.1 rfl (Nat.le_of_ble_eq_true rfl) (fun locs hS => ?_)
        refine lv_if_ne (tgt := 33) hx hb d_Mod_fits_26 (by decide) (fun h26 => ?_) (fun h26 => ?_)
        · refine lv_iconst (v := 0) hx hb d_Mod_fits_33 (by decide) ?_
          exact kp_z F hlocks hret hS d_Mod_fits_34 rfl (by unfold pFits; rw [if_neg h4, if_neg h10, if_pos h16, if_neg h26])
        · refine lv_iconst (v := 1) hx hb d_Mod_fits_29 (by decide) ?_
          refine lv_goto (tgt := 34) hx hb d_Mod_fits_30 (by decide) ?_
          exact kp_z F hlocks hret hS d_Mod_fits_34 rfl (by unfold pFits; rw [if_neg h4, if_neg h10, if_pos h16, if_pos h26])

theorem dm_in {D : vSt} {m : Int32} (h : dOk D m) : vp_in m 2 := by
  obtain ⟨i, h, r, o, hi, em, -⟩ := h
  rw [em]; exact vp_in_nI hi (by decide)
theorem ix_40 {m x : Int32} {i h c N : Nat} (cc : Int32) (hc : cc = nI c) (em : m = nI i) (ex : x = nI h) (hlt : c * i + h < N) (hN : N < 2 ^ 31) : vp_in (cc * m + x) N := by
  rw [hc, em, ex, pk_mul, nI_add]; exact vp_in_nI hlt hN

set_option maxRecDepth 100000 in
set_option maxHeartbeats 4000000 in
theorem c_Mod_push (l : Launch) (Dg : va_G) (a : Nat → Nat) (k : Nat → ClassId) (D : vSt) (mm x : Int32) (H : Heap) (hP : va_P Dg classes (wD a k D) H) (hD : va_D (fun _ => True) (wD a k D)) (hm : vp_in mm 2) (h0 : vp_in (40 * mm + D 5 (tn mm)) 80) : kMv l y_Mod_push b_Mod_push 3 0 0 [.ref (a 0), .int mm, .int x] H (va_K Dg classes (kTy k)) Dg (wD a k D) (wD a k (dPush D mm x)) := by
  refine k_of (by decide) (Nat.le_of_ble_eq_true rfl) ?_
  intro p e s m below meth cd ls F hlocks hret hname hh hX hl
  subst hh
  obtain ⟨hx, hb, hml, hown, hT⟩ := id F
  have hK : va_K Dg classes (kTy k) s := hX
  have hA : ∀ q : Nat, s.heap.size ≤ q → va_A (wD a k D) s.heap.size q := fun q h => Or.inr h
  have hD := hD.self (sz := s.heap.size)
  have hS : va_S (va_A (wD a k D) s.heap.size) s.heap s.heap [] := va_S.rf
  have hl : lv_has ls 3 [(0, .ref (a 0)), (1, .int mm), (2, .int x)] := hl
  refine lv_aload_n hx hb d_Mod_push_0 rfl (lv_at hl 0 rfl) ?_
  refine va_get (D := Dg) (ci := 3) (v := .ref (a 11)) (C := R_Mod) (T := F_Mod) (N := 17) hx hb hT in_Mod hown hK hP 0 rfl rfl 13 (by decide) (hT _ tw2_239) (fun _ h9 => h9) rfl d_Mod_push_1 ?_
  refine lv_bipush (v := 40) hx hb d_Mod_push_4 (by decide) ?_
  refine lv_iload_n hx hb d_Mod_push_6 rfl (lv_at hl 1 rfl) ?_
  refine lv_imul hx hb d_Mod_push_7 ?_
  refine lv_aload_n hx hb d_Mod_push_8 rfl (lv_at hl 0 rfl) ?_
  refine va_get (D := Dg) (ci := 3) (v := .ref (a 6)) (C := R_Mod) (T := F_Mod) (N := 17) hx hb hT in_Mod hown hK hP 0 rfl rfl 8 (by decide) (hT _ tw2_234) (fun _ h9 => h9) rfl d_Mod_push_9 ?_
  refine lv_iload_n hx hb d_Mod_push_12 rfl (lv_at hl 1 rfl) ?_
  refine va_iald (f := (D 5)) hx hb hK hP 6 0 rfl rfl hm d_Mod_push_13 ?_
  refine lv_iadd hx hb d_Mod_push_14 ?_
  refine lv_iload_n hx hb d_Mod_push_15 rfl (lv_at hl 2 rfl) ?_
  refine va_iast hx hb hK hP hD hS 11 0 rfl rfl h0 d_Mod_push_16 (fun H locs hP hD hS => ?_)
  have hP : va_P Dg classes (wD a k (u2 D 10 ((40 * mm) + ((D 5) mm.toNatClampNeg)).toNatClampNeg x)) H := hP
  have hD : va_D (va_A (wD a k D) s.heap.size) (wD a k (u2 D 10 ((40 * mm) + ((D 5) mm.toNatClampNeg)).toNatClampNeg x)) := hD
  obtain ⟨Ds1, hDs1⟩ : ∃ z9, z9 = (u2 D 10 ((40 * mm) + ((D 5) mm.toNatClampNeg)).toNatClampNeg x) := ⟨_, rfl⟩
  rw [← hDs1] at hP hD
  refine lv_aload_n hx hb d_Mod_push_17 rfl (lv_at hl 0 rfl) ?_
  refine va_get (D := Dg) (ci := 3) (v := .ref (a 6)) (C := R_Mod) (T := F_Mod) (N := 17) hx hb hT in_Mod hown hK hP 0 rfl rfl 8 (by decide) (hT _ tw2_234) (fun _ h9 => h9) rfl d_Mod_push_18 ?_
  refine lv_iload_n hx hb d_Mod_push_21 rfl (lv_at hl 1 rfl) ?_
  refine lv_dup2_11 hx hb d_Mod_push_22 rfl rfl ?_
  refine va_iald (f := (D 5)) hx hb hK hP 6 0 (by rw [hDs1]; rfl) rfl hm d_Mod_push_23 ?_
  refine lv_iconst (v := 1) hx hb d_Mod_push_24 (by decide) ?_
  refine lv_iadd hx hb d_Mod_push_25 ?_
  refine va_iast hx hb hK hP hD hS 6 0 rfl rfl hm d_Mod_push_26 (fun H locs hP hD hS => ?_)
  have hP : va_P Dg classes (wD a k (u2 Ds1 5 mm.toNatClampNeg (((D 5) mm.toNatClampNeg) + 1))) H := hP
  have hD : va_D (va_A (wD a k D) s.heap.size) (wD a k (u2 Ds1 5 mm.toNatClampNeg (((D 5) mm.toNatClampNeg) + 1))) := hD
  obtain ⟨Ds2, hDs2⟩ : ∃ z9, z9 = (u2 Ds1 5 mm.toNatClampNeg (((D 5) mm.toNatClampNeg) + 1)) := ⟨_, rfl⟩
  rw [← hDs2] at hP hD
  exact km_v F hlocks hret hP hD hS d_Mod_push_27 (by subst hDs2 hDs1; rfl)

set_option maxRecDepth 100000 in
set_option maxHeartbeats 4000000 in
theorem c_Mod_pop (l : Launch) (Dg : va_G) (a : Nat → Nat) (k : Nat → ClassId) (D : vSt) (mm : Int32) (H : Heap) (hP : va_P Dg classes (wD a k D) H) (hD : va_D (fun _ => True) (wD a k D)) (hm : vp_in mm 2) (h0 : vp_in (40 * mm + (dPop D mm) 5 (tn mm)) 80) : kMi l y_Mod_pop b_Mod_pop 2 (some FieldType.int) 0 0 [.ref (a 0), .int mm] H (va_K Dg classes (kTy k)) Dg (wD a k D) (wD a k (dPop D mm)) (dTop D mm) := by
  refine k_of (by decide) (Nat.le_of_ble_eq_true rfl) ?_
  intro p e s m below meth cd ls F hlocks hret hname hh hX hl
  subst hh
  obtain ⟨hx, hb, hml, hown, hT⟩ := id F
  have hK : va_K Dg classes (kTy k) s := hX
  have hA : ∀ q : Nat, s.heap.size ≤ q → va_A (wD a k D) s.heap.size q := fun q h => Or.inr h
  have hD := hD.self (sz := s.heap.size)
  have hS : va_S (va_A (wD a k D) s.heap.size) s.heap s.heap [] := va_S.rf
  have hl : lv_has ls 2 [(0, .ref (a 0)), (1, .int mm)] := hl
  refine lv_aload_n hx hb d_Mod_pop_0 rfl (lv_at hl 0 rfl) ?_
  refine va_get (D := Dg) (ci := 3) (v := .ref (a 6)) (C := R_Mod) (T := F_Mod) (N := 17) hx hb hT in_Mod hown hK hP 0 rfl rfl 8 (by decide) (hT _ tw2_234) (fun _ h9 => h9) rfl d_Mod_pop_1 ?_
  refine lv_iload_n hx hb d_Mod_pop_4 rfl (lv_at hl 1 rfl) ?_
  refine lv_dup2_11 hx hb d_Mod_pop_5 rfl rfl ?_
  refine va_iald (f := (D 5)) hx hb hK hP 6 0 rfl rfl hm d_Mod_pop_6 ?_
  refine lv_iconst (v := 1) hx hb d_Mod_pop_7 (by decide) ?_
  refine lv_isub hx hb d_Mod_pop_8 ?_
  refine va_iast hx hb hK hP hD hS 6 0 rfl rfl hm d_Mod_pop_9 (fun H locs hP hD hS => ?_)
  have hP : va_P Dg classes (wD a k (u2 D 5 mm.toNatClampNeg (((D 5) mm.toNatClampNeg) - 1))) H := hP
  have hD : va_D (va_A (wD a k D) s.heap.size) (wD a k (u2 D 5 mm.toNatClampNeg (((D 5) mm.toNatClampNeg) - 1))) := hD
  obtain ⟨Ds1, hDs1⟩ : ∃ z9, z9 = (u2 D 5 mm.toNatClampNeg (((D 5) mm.toNatClampNeg) - 1)) := ⟨_, rfl⟩
  rw [← hDs1] at hP hD
  refine lv_aload_n hx hb d_Mod_pop_10 rfl (lv_at hl 0 rfl) ?_
  refine va_get (D := Dg) (ci := 3) (v := .ref (a 11)) (C := R_Mod) (T := F_Mod) (N := 17) hx hb hT in_Mod hown hK hP 0 rfl rfl 13 (by decide) (hT _ tw2_239) (fun _ h9 => h9) rfl d_Mod_pop_11 ?_
  refine lv_bipush (v := 40) hx hb d_Mod_pop_14 (by decide) ?_
  refine lv_iload_n hx hb d_Mod_pop_16 rfl (lv_at hl 1 rfl) ?_
  refine lv_imul hx hb d_Mod_pop_17 ?_
  refine lv_aload_n hx hb d_Mod_pop_18 rfl (lv_at hl 0 rfl) ?_
  refine va_get (D := Dg) (ci := 3) (v := .ref (a 6)) (C := R_Mod) (T := F_Mod) (N := 17) hx hb hT in_Mod hown hK hP 0 rfl rfl 8 (by decide) (hT _ tw2_234) (fun _ h9 => h9) rfl d_Mod_pop_19 ?_
  refine lv_iload_n hx hb d_Mod_pop_22 rfl (lv_at hl 1 rfl) ?_
  refine va_iald (f := (Ds1 5)) hx hb hK hP 6 0 rfl rfl hm d_Mod_pop_23 ?_
  refine lv_iadd hx hb d_Mod_pop_24 ?_
  refine va_iald (f := (D 10)) hx hb hK hP 11 0 (by rw [hDs1]; rfl) rfl (by rw [hDs1]; exact h0) d_Mod_pop_25 ?_
  exact km_i F hlocks hret hP hD hS d_Mod_pop_26 (by rw [hDs1]; rfl) (by subst hDs1; rfl)

set_option maxRecDepth 100000 in
set_option maxHeartbeats 4000000 in
theorem c_Mod_say (l : Launch) (Dg : va_G) (a : Nat → Nat) (k : Nat → ClassId) (D : vSt) (mm x : Int32) (H : Heap) (hP : va_P Dg classes (wD a k D) H) (hD : va_D (fun _ => True) (wD a k D)) (hm : vp_in mm 2) (h0 : ¬ 60 ≤ D 7 (tn mm) → vp_in (60 * mm + D 7 (tn mm)) 120) : kMv l y_Mod_say b_Mod_say 3 0 0 [.ref (a 0), .int mm, .int x] H (va_K Dg classes (kTy k)) Dg (wD a k D) (wD a k (dSay D mm x)) := by
  refine k_of (by decide) (Nat.le_of_ble_eq_true rfl) ?_
  intro p e s m below meth cd ls F hlocks hret hname hh hX hl
  subst hh
  obtain ⟨hx, hb, hml, hown, hT⟩ := id F
  have hK : va_K Dg classes (kTy k) s := hX
  have hA : ∀ q : Nat, s.heap.size ≤ q → va_A (wD a k D) s.heap.size q := fun q h => Or.inr h
  have hD := hD.self (sz := s.heap.size)
  have hS : va_S (va_A (wD a k D) s.heap.size) s.heap s.heap [] := va_S.rf
  have hl : lv_has ls 3 [(0, .ref (a 0)), (1, .int mm), (2, .int x)] := hl
  refine lv_aload_n hx hb d_Mod_say_0 rfl (lv_at hl 0 rfl) ?_
  refine va_get (D := Dg) (ci := 3) (v := .ref (a 8)) (C := R_Mod) (T := F_Mod) (N := 17) hx hb hT in_Mod hown hK hP 0 rfl rfl 10 (by decide) (hT _ tw2_236) (fun _ h9 => h9) rfl d_Mod_say_1 ?_
  refine lv_iload_n hx hb d_Mod_say_4 rfl (lv_at hl 1 rfl) ?_
  refine va_iald (f := (D 7)) hx hb hK hP 8 0 rfl rfl hm d_Mod_say_5 ?_
  refine lv_bipush (v := 60) hx hb d_Mod_say_6 (by decide) ?_
  refine lv_icmp_ge (tgt := 28) hx hb d_Mod_say_8 (by decide) (fun h8 => ?_) (fun h8 => ?_)
  · refine lv_aload_n hx hb d_Mod_say_28 rfl (lv_at hl 0 rfl) ?_
    refine va_get (D := Dg) (ci := 3) (v := .ref (a 8)) (C := R_Mod) (T := F_Mod) (N := 17) hx hb hT in_Mod hown hK hP 0 rfl rfl 10 (by decide) (hT _ tw2_236) (fun _ h9 => h9) rfl d_Mod_say_29 ?_
    refine lv_iload_n hx hb d_Mod_say_32 rfl (lv_at hl 1 rfl) ?_
    refine lv_dup2_11 hx hb d_Mod_say_33 rfl rfl ?_
    refine va_iald (f := (D 7)) hx hb hK hP 8 0 rfl rfl hm d_Mod_say_34 ?_
    refine lv_iconst (v := 1) hx hb d_Mod_say_35 (by decide) ?_
    refine lv_iadd hx hb d_Mod_say_36 ?_
    refine va_iast hx hb hK hP hD hS 8 0 rfl rfl hm d_Mod_say_37 (fun H locs hP hD hS => ?_)
    have hP : va_P Dg classes (wD a k (u2 D 7 mm.toNatClampNeg (((D 7) mm.toNatClampNeg) + 1))) H := hP
    have hD : va_D (va_A (wD a k D) s.heap.size) (wD a k (u2 D 7 mm.toNatClampNeg (((D 7) mm.toNatClampNeg) + 1))) := hD
    obtain ⟨Ds1, hDs1⟩ : ∃ z9, z9 = (u2 D 7 mm.toNatClampNeg (((D 7) mm.toNatClampNeg) + 1)) := ⟨_, rfl⟩
    rw [← hDs1] at hP hD
    exact km_v F hlocks hret hP hD hS d_Mod_say_38 (by subst hDs1; unfold dSay; rw [if_pos h8])
  · refine lv_aload_n hx hb d_Mod_say_11 rfl (lv_at hl 0 rfl) ?_
    refine va_get (D := Dg) (ci := 3) (v := .ref (a 14)) (C := R_Mod) (T := F_Mod) (N := 17) hx hb hT in_Mod hown hK hP 0 rfl rfl 16 (by decide) (hT _ tw3_2) (fun _ h9 => h9) rfl d_Mod_say_12 ?_
    refine lv_bipush (v := 60) hx hb d_Mod_say_15 (by decide) ?_
    refine lv_iload_n hx hb d_Mod_say_17 rfl (lv_at hl 1 rfl) ?_
    refine lv_imul hx hb d_Mod_say_18 ?_
    refine lv_aload_n hx hb d_Mod_say_19 rfl (lv_at hl 0 rfl) ?_
    refine va_get (D := Dg) (ci := 3) (v := .ref (a 8)) (C := R_Mod) (T := F_Mod) (N := 17) hx hb hT in_Mod hown hK hP 0 rfl rfl 10 (by decide) (hT _ tw2_236) (fun _ h9 => h9) rfl d_Mod_say_20 ?_
    refine lv_iload_n hx hb d_Mod_say_23 rfl (lv_at hl 1 rfl) ?_
    refine va_iald (f := (D 7)) hx hb hK hP 8 0 rfl rfl hm d_Mod_say_24 ?_
    refine lv_iadd hx hb d_Mod_say_25 ?_
    refine lv_iload_n hx hb d_Mod_say_26 rfl (lv_at hl 2 rfl) ?_
    refine va_iast hx hb hK hP hD hS 14 0 rfl rfl (h0 h8) d_Mod_say_27 (fun H locs hP hD hS => ?_)
    have hP : va_P Dg classes (wD a k (u2 D 13 ((60 * mm) + ((D 7) mm.toNatClampNeg)).toNatClampNeg x)) H := hP
    have hD : va_D (va_A (wD a k D) s.heap.size) (wD a k (u2 D 13 ((60 * mm) + ((D 7) mm.toNatClampNeg)).toNatClampNeg x)) := hD
    obtain ⟨Ds2, hDs2⟩ : ∃ z9, z9 = (u2 D 13 ((60 * mm) + ((D 7) mm.toNatClampNeg)).toNatClampNeg x) := ⟨_, rfl⟩
    rw [← hDs2] at hP hD
    refine lv_aload_n hx hb d_Mod_say_28 rfl (lv_at hl 0 rfl) ?_
    refine va_get (D := Dg) (ci := 3) (v := .ref (a 8)) (C := R_Mod) (T := F_Mod) (N := 17) hx hb hT in_Mod hown hK hP 0 rfl rfl 10 (by decide) (hT _ tw2_236) (fun _ h9 => h9) rfl d_Mod_say_29 ?_
    refine lv_iload_n hx hb d_Mod_say_32 rfl (lv_at hl 1 rfl) ?_
    refine lv_dup2_11 hx hb d_Mod_say_33 rfl rfl ?_
    refine va_iald (f := (D 7)) hx hb hK hP 8 0 (by rw [hDs2]; rfl) rfl hm d_Mod_say_34 ?_
    refine lv_iconst (v := 1) hx hb d_Mod_say_35 (by decide) ?_
    refine lv_iadd hx hb d_Mod_say_36 ?_
    refine va_iast hx hb hK hP hD hS 8 0 rfl rfl hm d_Mod_say_37 (fun H locs hP hD hS => ?_)
    have hP : va_P Dg classes (wD a k (u2 Ds2 7 mm.toNatClampNeg (((D 7) mm.toNatClampNeg) + 1))) H := hP
    have hD : va_D (va_A (wD a k D) s.heap.size) (wD a k (u2 Ds2 7 mm.toNatClampNeg (((D 7) mm.toNatClampNeg) + 1))) := hD
    obtain ⟨Ds3, hDs3⟩ : ∃ z9, z9 = (u2 Ds2 7 mm.toNatClampNeg (((D 7) mm.toNatClampNeg) + 1)) := ⟨_, rfl⟩
    rw [← hDs3] at hP hD
    exact km_v F hlocks hret hP hD hS d_Mod_say_38 (by subst hDs3 hDs2; unfold dSay; rw [if_neg h8])

set_option maxRecDepth 100000 in
set_option maxHeartbeats 4000000 in
theorem c_Mod_reckon (l : Launch) (Dg : va_G) (k : Nat → ClassId) (c x y : Int32) (H : Heap) (hc : c = 43 ∨ c = 45 ∨ c = 42 ∨ c = 47 ∨ c = 60 ∨ c = 61) (hz : c = 47 → ¬ y = 0) : kPu l y_Mod_reckon b_Mod_reckon 3 (some FieldType.int) 0 0 [.int c, .int x, .int y] H (va_K Dg classes (kTy k)) (sRes c x y) := by
  refine k_of (by decide) (Nat.le_of_ble_eq_true rfl) ?_
  intro p e s m below meth cd ls F hlocks hret hname hh hX hl
  subst hh
  obtain ⟨hx, hb, hml, hown, hT⟩ := id F
  have hK : va_K Dg classes (kTy k) s := hX
  have hS : va_S (fun _ => False) s.heap s.heap [] := va_S.rf
  have hl : lv_has ls 3 [(0, .int c), (1, .int x), (2, .int y)] := hl
  rcases hc with rfl | rfl | rfl | rfl | rfl | rfl
  · refine lv_iload_n hx hb d_Mod_reckon_0 rfl (lv_at hl 0 rfl) ?_
    refine lv_lookup (x := 43) (off := 51) (tgt := 52) hx hb d_Mod_reckon_1 (by decide) (by decide) (by decide) ?_
    refine lv_iload_n hx hb d_Mod_reckon_52 rfl (lv_at hl 1 rfl) ?_
    refine lv_iload_n hx hb d_Mod_reckon_53 rfl (lv_at hl 2 rfl) ?_
    refine lv_iadd hx hb d_Mod_reckon_54 ?_
    exact kp_i F hlocks hret hS d_Mod_reckon_55 (by unfold sRes; rw [if_pos rfl])
  · refine lv_iload_n hx hb d_Mod_reckon_0 rfl (lv_at hl 0 rfl) ?_
    refine lv_lookup (x := 45) (off := 55) (tgt := 56) hx hb d_Mod_reckon_1 (by decide) (by decide) (by decide) ?_
    refine lv_iload_n hx hb d_Mod_reckon_56 rfl (lv_at hl 1 rfl) ?_
    refine lv_iload_n hx hb d_Mod_reckon_57 rfl (lv_at hl 2 rfl) ?_
    refine lv_isub hx hb d_Mod_reckon_58 ?_
    exact kp_i F hlocks hret hS d_Mod_reckon_59 (by unfold sRes; rw [if_neg (by decide), if_pos rfl])
  · refine lv_iload_n hx hb d_Mod_reckon_0 rfl (lv_at hl 0 rfl) ?_
    refine lv_lookup (x := 42) (off := 59) (tgt := 60) hx hb d_Mod_reckon_1 (by decide) (by decide) (by decide) ?_
    refine lv_iload_n hx hb d_Mod_reckon_60 rfl (lv_at hl 1 rfl) ?_
    refine lv_iload_n hx hb d_Mod_reckon_61 rfl (lv_at hl 2 rfl) ?_
    refine lv_imul hx hb d_Mod_reckon_62 ?_
    exact kp_i F hlocks hret hS d_Mod_reckon_63 (by unfold sRes; rw [if_neg (by decide), if_neg (by decide), if_pos rfl])
  · refine lv_iload_n hx hb d_Mod_reckon_0 rfl (lv_at hl 0 rfl) ?_
    refine lv_lookup (x := 47) (off := 63) (tgt := 64) hx hb d_Mod_reckon_1 (by decide) (by decide) (by decide) ?_
    refine lv_iload_n hx hb d_Mod_reckon_64 rfl (lv_at hl 1 rfl) ?_
    refine lv_iload_n hx hb d_Mod_reckon_65 rfl (lv_at hl 2 rfl) ?_
    refine lv_idiv hx hb d_Mod_reckon_66 (hz rfl) ?_
    exact kp_i F hlocks hret hS d_Mod_reckon_67 (by unfold sRes; rw [if_neg (by decide), if_neg (by decide), if_neg (by decide), if_pos rfl])
  · refine lv_iload_n hx hb d_Mod_reckon_0 rfl (lv_at hl 0 rfl) ?_
    refine lv_lookup (x := 60) (off := 67) (tgt := 68) hx hb d_Mod_reckon_1 (by decide) (by decide) (by decide) ?_
    refine lv_iload_n hx hb d_Mod_reckon_68 rfl (lv_at hl 1 rfl) ?_
    refine lv_iload_n hx hb d_Mod_reckon_69 rfl (lv_at hl 2 rfl) ?_
    refine lv_icmp_ge (tgt := 77) hx hb d_Mod_reckon_70 (by decide) (fun h70 => ?_) (fun h70 => ?_)
    · refine lv_iconst (v := 0) hx hb d_Mod_reckon_77 (by decide) ?_
      exact kp_i F hlocks hret hS d_Mod_reckon_78 (by unfold sRes; rw [if_neg (by decide), if_neg (by decide), if_neg (by decide), if_neg (by decide), if_pos rfl, if_pos h70])
    · refine lv_iconst (v := 1) hx hb d_Mod_reckon_73 (by decide) ?_
      refine lv_goto (tgt := 78) hx hb d_Mod_reckon_74 (by decide) ?_
      exact kp_i F hlocks hret hS d_Mod_reckon_78 (by unfold sRes; rw [if_neg (by decide), if_neg (by decide), if_neg (by decide), if_neg (by decide), if_pos rfl, if_neg h70])
  · refine lv_iload_n hx hb d_Mod_reckon_0 rfl (lv_at hl 0 rfl) ?_
    refine lv_lookup (x := 61) (off := 78) (tgt := 79) hx hb d_Mod_reckon_1 (by decide) (by decide) (by decide) ?_
    refine lv_iload_n hx hb d_Mod_reckon_79 rfl (lv_at hl 1 rfl) ?_
    refine lv_iload_n hx hb d_Mod_reckon_80 rfl (lv_at hl 2 rfl) ?_
    refine lv_icmp_ne (tgt := 88) hx hb d_Mod_reckon_81 (by decide) (fun h81 => ?_) (fun h81 => ?_)
    · refine lv_iconst (v := 0) hx hb d_Mod_reckon_88 (by decide) ?_
      exact kp_i F hlocks hret hS d_Mod_reckon_89 (by unfold sRes; rw [if_neg (by decide), if_neg (by decide), if_neg (by decide), if_neg (by decide), if_neg (by decide), if_neg h81])
    · refine lv_iconst (v := 1) hx hb d_Mod_reckon_84 (by decide) ?_
      refine lv_goto (tgt := 89) hx hb d_Mod_reckon_85 (by decide) ?_
      exact kp_i F hlocks hret hS d_Mod_reckon_89 (by unfold sRes; rw [if_neg (by decide), if_neg (by decide), if_neg (by decide), if_neg (by decide), if_neg (by decide), if_pos h81])

set_option maxRecDepth 100000 in
set_option maxHeartbeats 4000000 in
theorem c_Mod_takes (l : Launch) (Dg : va_G) (a : Nat → Nat) (k : Nat → ClassId) (D : vSt) (c : Int32) (H : Heap) (hP : va_P Dg classes (wD a k D) H) (hc : okC c) : kPu l y_Mod_takes b_Mod_takes 2 (some FieldType.int) 1 20 [.ref (a 0), .int c] H (va_K Dg classes (kTy k)) (sNeed c) := by
  refine k_of (by decide) (Nat.le_of_ble_eq_true rfl) ?_
  intro p e s m below meth cd ls F hlocks hret hname hh hX hl
  subst hh
  obtain ⟨hx, hb, hml, hown, hT⟩ := id F
  have hK : va_K Dg classes (kTy k) s := hX
  have hS : va_S (fun _ => False) s.heap s.heap [] := va_S.rf
  have hl : lv_has ls 2 [(0, .ref (a 0)), (1, .int c)] := hl
  rcases hc with rfl | rfl | rfl | rfl | rfl | rfl | rfl | rfl | rfl | rfl | rfl | rfl | rfl | rfl | rfl | rfl | rfl | rfl
  · refine lv_iload_n hx hb d_Mod_takes_0 rfl (lv_at hl 1 rfl) ?_
    refine kp_S F (c_Mod_isPlain l Dg k 80 _ ) kx_K hK kw_Mod_57 tw3_54 hS d_Mod_takes_1 ⟨⟨by decide, by decide⟩, Nat.le_refl _, Nat.le_refl _⟩ rfl hl.1 rfl (Nat.le_of_ble_eq_true rfl) (fun locs hS => ?_)
    refine lv_if_ne (tgt := 13) hx hb d_Mod_takes_4 (by decide) (fun h9 => absurd (by decide) h9) (fun _ => ?_)
    refine lv_iload_n hx hb d_Mod_takes_7 rfl (lv_at hl 1 rfl) ?_
    refine lv_bipush (v := 88) hx hb d_Mod_takes_8 (by decide) ?_
    refine lv_icmp_ne (tgt := 17) hx hb d_Mod_takes_10 (by decide) (fun _ => ?_) (fun h9 => absurd h9 (by decide))
    refine lv_iload_n hx hb d_Mod_takes_17 rfl (lv_at hl 1 rfl) ?_
    refine lv_bipush (v := 83) hx hb d_Mod_takes_18 (by decide) ?_
    refine lv_icmp_eq (tgt := 47) hx hb d_Mod_takes_20 (by decide) (fun h9 => absurd h9 (by decide)) (fun _ => ?_)
    refine lv_iload_n hx hb d_Mod_takes_23 rfl (lv_at hl 1 rfl) ?_
    refine lv_bipush (v := 68) hx hb d_Mod_takes_24 (by decide) ?_
    refine lv_icmp_eq (tgt := 47) hx hb d_Mod_takes_26 (by decide) (fun h9 => absurd h9 (by decide)) (fun _ => ?_)
    refine lv_iload_n hx hb d_Mod_takes_29 rfl (lv_at hl 1 rfl) ?_
    refine lv_bipush (v := 79) hx hb d_Mod_takes_30 (by decide) ?_
    refine lv_icmp_eq (tgt := 47) hx hb d_Mod_takes_32 (by decide) (fun h9 => absurd h9 (by decide)) (fun _ => ?_)
    refine lv_iload_n hx hb d_Mod_takes_35 rfl (lv_at hl 1 rfl) ?_
    refine lv_bipush (v := 86) hx hb d_Mod_takes_36 (by decide) ?_
    refine lv_icmp_eq (tgt := 47) hx hb d_Mod_takes_38 (by decide) (fun h9 => absurd h9 (by decide)) (fun _ => ?_)
    refine lv_iload_n hx hb d_Mod_takes_41 rfl (lv_at hl 1 rfl) ?_
    refine lv_bipush (v := 90) hx hb d_Mod_takes_42 (by decide) ?_
    refine lv_icmp_ne (tgt := 51) hx hb d_Mod_takes_44 (by decide) (fun _ => ?_) (fun h9 => absurd h9 (by decide))
    refine lv_iconst (v := 0) hx hb d_Mod_takes_51 (by decide) ?_
    exact kp_i F hlocks hret hS d_Mod_takes_52 (by decide)
  · refine lv_iload_n hx hb d_Mod_takes_0 rfl (lv_at hl 1 rfl) ?_
    refine kp_S F (c_Mod_isPlain l Dg k 76 _ ) kx_K hK kw_Mod_57 tw3_54 hS d_Mod_takes_1 ⟨⟨by decide, by decide⟩, Nat.le_refl _, Nat.le_refl _⟩ rfl hl.1 rfl (Nat.le_of_ble_eq_true rfl) (fun locs hS => ?_)
    refine lv_if_ne (tgt := 13) hx hb d_Mod_takes_4 (by decide) (fun h9 => absurd (by decide) h9) (fun _ => ?_)
    refine lv_iload_n hx hb d_Mod_takes_7 rfl (lv_at hl 1 rfl) ?_
    refine lv_bipush (v := 88) hx hb d_Mod_takes_8 (by decide) ?_
    refine lv_icmp_ne (tgt := 17) hx hb d_Mod_takes_10 (by decide) (fun _ => ?_) (fun h9 => absurd h9 (by decide))
    refine lv_iload_n hx hb d_Mod_takes_17 rfl (lv_at hl 1 rfl) ?_
    refine lv_bipush (v := 83) hx hb d_Mod_takes_18 (by decide) ?_
    refine lv_icmp_eq (tgt := 47) hx hb d_Mod_takes_20 (by decide) (fun h9 => absurd h9 (by decide)) (fun _ => ?_)
    refine lv_iload_n hx hb d_Mod_takes_23 rfl (lv_at hl 1 rfl) ?_
    refine lv_bipush (v := 68) hx hb d_Mod_takes_24 (by decide) ?_
    refine lv_icmp_eq (tgt := 47) hx hb d_Mod_takes_26 (by decide) (fun h9 => absurd h9 (by decide)) (fun _ => ?_)
    refine lv_iload_n hx hb d_Mod_takes_29 rfl (lv_at hl 1 rfl) ?_
    refine lv_bipush (v := 79) hx hb d_Mod_takes_30 (by decide) ?_
    refine lv_icmp_eq (tgt := 47) hx hb d_Mod_takes_32 (by decide) (fun h9 => absurd h9 (by decide)) (fun _ => ?_)
    refine lv_iload_n hx hb d_Mod_takes_35 rfl (lv_at hl 1 rfl) ?_
    refine lv_bipush (v := 86) hx hb d_Mod_takes_36 (by decide) ?_
    refine lv_icmp_eq (tgt := 47) hx hb d_Mod_takes_38 (by decide) (fun h9 => absurd h9 (by decide)) (fun _ => ?_)
    refine lv_iload_n hx hb d_Mod_takes_41 rfl (lv_at hl 1 rfl) ?_
    refine lv_bipush (v := 90) hx hb d_Mod_takes_42 (by decide) ?_
    refine lv_icmp_ne (tgt := 51) hx hb d_Mod_takes_44 (by decide) (fun _ => ?_) (fun h9 => absurd h9 (by decide))
    refine lv_iconst (v := 0) hx hb d_Mod_takes_51 (by decide) ?_
    exact kp_i F hlocks hret hS d_Mod_takes_52 (by decide)
  · refine lv_iload_n hx hb d_Mod_takes_0 rfl (lv_at hl 1 rfl) ?_
    refine kp_S F (c_Mod_isPlain l Dg k 83 _ ) kx_K hK kw_Mod_57 tw3_54 hS d_Mod_takes_1 ⟨⟨by decide, by decide⟩, Nat.le_refl _, Nat.le_refl _⟩ rfl hl.1 rfl (Nat.le_of_ble_eq_true rfl) (fun locs hS => ?_)
    refine lv_if_ne (tgt := 13) hx hb d_Mod_takes_4 (by decide) (fun h9 => absurd (by decide) h9) (fun _ => ?_)
    refine lv_iload_n hx hb d_Mod_takes_7 rfl (lv_at hl 1 rfl) ?_
    refine lv_bipush (v := 88) hx hb d_Mod_takes_8 (by decide) ?_
    refine lv_icmp_ne (tgt := 17) hx hb d_Mod_takes_10 (by decide) (fun _ => ?_) (fun h9 => absurd h9 (by decide))
    refine lv_iload_n hx hb d_Mod_takes_17 rfl (lv_at hl 1 rfl) ?_
    refine lv_bipush (v := 83) hx hb d_Mod_takes_18 (by decide) ?_
    refine lv_icmp_eq (tgt := 47) hx hb d_Mod_takes_20 (by decide) (fun _ => ?_) (fun h9 => absurd (by decide) h9)
    refine lv_iconst (v := 1) hx hb d_Mod_takes_47 (by decide) ?_
    refine lv_goto (tgt := 52) hx hb d_Mod_takes_48 (by decide) ?_
    exact kp_i F hlocks hret hS d_Mod_takes_52 (by decide)
  · refine lv_iload_n hx hb d_Mod_takes_0 rfl (lv_at hl 1 rfl) ?_
    refine kp_S F (c_Mod_isPlain l Dg k 43 _ ) kx_K hK kw_Mod_57 tw3_54 hS d_Mod_takes_1 ⟨⟨by decide, by decide⟩, Nat.le_refl _, Nat.le_refl _⟩ rfl hl.1 rfl (Nat.le_of_ble_eq_true rfl) (fun locs hS => ?_)
    refine lv_if_ne (tgt := 13) hx hb d_Mod_takes_4 (by decide) (fun _ => ?_) (fun h9 => absurd h9 (by decide))
    refine lv_iconst (v := 2) hx hb d_Mod_takes_13 (by decide) ?_
    refine lv_goto (tgt := 52) hx hb d_Mod_takes_14 (by decide) ?_
    exact kp_i F hlocks hret hS d_Mod_takes_52 (by decide)
  · refine lv_iload_n hx hb d_Mod_takes_0 rfl (lv_at hl 1 rfl) ?_
    refine kp_S F (c_Mod_isPlain l Dg k 45 _ ) kx_K hK kw_Mod_57 tw3_54 hS d_Mod_takes_1 ⟨⟨by decide, by decide⟩, Nat.le_refl _, Nat.le_refl _⟩ rfl hl.1 rfl (Nat.le_of_ble_eq_true rfl) (fun locs hS => ?_)
    refine lv_if_ne (tgt := 13) hx hb d_Mod_takes_4 (by decide) (fun _ => ?_) (fun h9 => absurd h9 (by decide))
    refine lv_iconst (v := 2) hx hb d_Mod_takes_13 (by decide) ?_
    refine lv_goto (tgt := 52) hx hb d_Mod_takes_14 (by decide) ?_
    exact kp_i F hlocks hret hS d_Mod_takes_52 (by decide)
  · refine lv_iload_n hx hb d_Mod_takes_0 rfl (lv_at hl 1 rfl) ?_
    refine kp_S F (c_Mod_isPlain l Dg k 42 _ ) kx_K hK kw_Mod_57 tw3_54 hS d_Mod_takes_1 ⟨⟨by decide, by decide⟩, Nat.le_refl _, Nat.le_refl _⟩ rfl hl.1 rfl (Nat.le_of_ble_eq_true rfl) (fun locs hS => ?_)
    refine lv_if_ne (tgt := 13) hx hb d_Mod_takes_4 (by decide) (fun _ => ?_) (fun h9 => absurd h9 (by decide))
    refine lv_iconst (v := 2) hx hb d_Mod_takes_13 (by decide) ?_
    refine lv_goto (tgt := 52) hx hb d_Mod_takes_14 (by decide) ?_
    exact kp_i F hlocks hret hS d_Mod_takes_52 (by decide)
  · refine lv_iload_n hx hb d_Mod_takes_0 rfl (lv_at hl 1 rfl) ?_
    refine kp_S F (c_Mod_isPlain l Dg k 47 _ ) kx_K hK kw_Mod_57 tw3_54 hS d_Mod_takes_1 ⟨⟨by decide, by decide⟩, Nat.le_refl _, Nat.le_refl _⟩ rfl hl.1 rfl (Nat.le_of_ble_eq_true rfl) (fun locs hS => ?_)
    refine lv_if_ne (tgt := 13) hx hb d_Mod_takes_4 (by decide) (fun _ => ?_) (fun h9 => absurd h9 (by decide))
    refine lv_iconst (v := 2) hx hb d_Mod_takes_13 (by decide) ?_
    refine lv_goto (tgt := 52) hx hb d_Mod_takes_14 (by decide) ?_
    exact kp_i F hlocks hret hS d_Mod_takes_52 (by decide)
  · refine lv_iload_n hx hb d_Mod_takes_0 rfl (lv_at hl 1 rfl) ?_
    refine kp_S F (c_Mod_isPlain l Dg k 60 _ ) kx_K hK kw_Mod_57 tw3_54 hS d_Mod_takes_1 ⟨⟨by decide, by decide⟩, Nat.le_refl _, Nat.le_refl _⟩ rfl hl.1 rfl (Nat.le_of_ble_eq_true rfl) (fun locs hS => ?_)
    refine lv_if_ne (tgt := 13) hx hb d_Mod_takes_4 (by decide) (fun _ => ?_) (fun h9 => absurd h9 (by decide))
    refine lv_iconst (v := 2) hx hb d_Mod_takes_13 (by decide) ?_
    refine lv_goto (tgt := 52) hx hb d_Mod_takes_14 (by decide) ?_
    exact kp_i F hlocks hret hS d_Mod_takes_52 (by decide)
  · refine lv_iload_n hx hb d_Mod_takes_0 rfl (lv_at hl 1 rfl) ?_
    refine kp_S F (c_Mod_isPlain l Dg k 61 _ ) kx_K hK kw_Mod_57 tw3_54 hS d_Mod_takes_1 ⟨⟨by decide, by decide⟩, Nat.le_refl _, Nat.le_refl _⟩ rfl hl.1 rfl (Nat.le_of_ble_eq_true rfl) (fun locs hS => ?_)
    refine lv_if_ne (tgt := 13) hx hb d_Mod_takes_4 (by decide) (fun _ => ?_) (fun h9 => absurd h9 (by decide))
    refine lv_iconst (v := 2) hx hb d_Mod_takes_13 (by decide) ?_
    refine lv_goto (tgt := 52) hx hb d_Mod_takes_14 (by decide) ?_
    exact kp_i F hlocks hret hS d_Mod_takes_52 (by decide)
  · refine lv_iload_n hx hb d_Mod_takes_0 rfl (lv_at hl 1 rfl) ?_
    refine kp_S F (c_Mod_isPlain l Dg k 68 _ ) kx_K hK kw_Mod_57 tw3_54 hS d_Mod_takes_1 ⟨⟨by decide, by decide⟩, Nat.le_refl _, Nat.le_refl _⟩ rfl hl.1 rfl (Nat.le_of_ble_eq_true rfl) (fun locs hS => ?_)
    refine lv_if_ne (tgt := 13) hx hb d_Mod_takes_4 (by decide) (fun h9 => absurd (by decide) h9) (fun _ => ?_)
    refine lv_iload_n hx hb d_Mod_takes_7 rfl (lv_at hl 1 rfl) ?_
    refine lv_bipush (v := 88) hx hb d_Mod_takes_8 (by decide) ?_
    refine lv_icmp_ne (tgt := 17) hx hb d_Mod_takes_10 (by decide) (fun _ => ?_) (fun h9 => absurd h9 (by decide))
    refine lv_iload_n hx hb d_Mod_takes_17 rfl (lv_at hl 1 rfl) ?_
    refine lv_bipush (v := 83) hx hb d_Mod_takes_18 (by decide) ?_
    refine lv_icmp_eq (tgt := 47) hx hb d_Mod_takes_20 (by decide) (fun h9 => absurd h9 (by decide)) (fun _ => ?_)
    refine lv_iload_n hx hb d_Mod_takes_23 rfl (lv_at hl 1 rfl) ?_
    refine lv_bipush (v := 68) hx hb d_Mod_takes_24 (by decide) ?_
    refine lv_icmp_eq (tgt := 47) hx hb d_Mod_takes_26 (by decide) (fun _ => ?_) (fun h9 => absurd (by decide) h9)
    refine lv_iconst (v := 1) hx hb d_Mod_takes_47 (by decide) ?_
    refine lv_goto (tgt := 52) hx hb d_Mod_takes_48 (by decide) ?_
    exact kp_i F hlocks hret hS d_Mod_takes_52 (by decide)
  · refine lv_iload_n hx hb d_Mod_takes_0 rfl (lv_at hl 1 rfl) ?_
    refine kp_S F (c_Mod_isPlain l Dg k 88 _ ) kx_K hK kw_Mod_57 tw3_54 hS d_Mod_takes_1 ⟨⟨by decide, by decide⟩, Nat.le_refl _, Nat.le_refl _⟩ rfl hl.1 rfl (Nat.le_of_ble_eq_true rfl) (fun locs hS => ?_)
    refine lv_if_ne (tgt := 13) hx hb d_Mod_takes_4 (by decide) (fun h9 => absurd (by decide) h9) (fun _ => ?_)
    refine lv_iload_n hx hb d_Mod_takes_7 rfl (lv_at hl 1 rfl) ?_
    refine lv_bipush (v := 88) hx hb d_Mod_takes_8 (by decide) ?_
    refine lv_icmp_ne (tgt := 17) hx hb d_Mod_takes_10 (by decide) (fun h9 => absurd (by decide) h9) (fun _ => ?_)
    refine lv_iconst (v := 2) hx hb d_Mod_takes_13 (by decide) ?_
    refine lv_goto (tgt := 52) hx hb d_Mod_takes_14 (by decide) ?_
    exact kp_i F hlocks hret hS d_Mod_takes_52 (by decide)
  · refine lv_iload_n hx hb d_Mod_takes_0 rfl (lv_at hl 1 rfl) ?_
    refine kp_S F (c_Mod_isPlain l Dg k 79 _ ) kx_K hK kw_Mod_57 tw3_54 hS d_Mod_takes_1 ⟨⟨by decide, by decide⟩, Nat.le_refl _, Nat.le_refl _⟩ rfl hl.1 rfl (Nat.le_of_ble_eq_true rfl) (fun locs hS => ?_)
    refine lv_if_ne (tgt := 13) hx hb d_Mod_takes_4 (by decide) (fun h9 => absurd (by decide) h9) (fun _ => ?_)
    refine lv_iload_n hx hb d_Mod_takes_7 rfl (lv_at hl 1 rfl) ?_
    refine lv_bipush (v := 88) hx hb d_Mod_takes_8 (by decide) ?_
    refine lv_icmp_ne (tgt := 17) hx hb d_Mod_takes_10 (by decide) (fun _ => ?_) (fun h9 => absurd h9 (by decide))
    refine lv_iload_n hx hb d_Mod_takes_17 rfl (lv_at hl 1 rfl) ?_
    refine lv_bipush (v := 83) hx hb d_Mod_takes_18 (by decide) ?_
    refine lv_icmp_eq (tgt := 47) hx hb d_Mod_takes_20 (by decide) (fun h9 => absurd h9 (by decide)) (fun _ => ?_)
    refine lv_iload_n hx hb d_Mod_takes_23 rfl (lv_at hl 1 rfl) ?_
    refine lv_bipush (v := 68) hx hb d_Mod_takes_24 (by decide) ?_
    refine lv_icmp_eq (tgt := 47) hx hb d_Mod_takes_26 (by decide) (fun h9 => absurd h9 (by decide)) (fun _ => ?_)
    refine lv_iload_n hx hb d_Mod_takes_29 rfl (lv_at hl 1 rfl) ?_
    refine lv_bipush (v := 79) hx hb d_Mod_takes_30 (by decide) ?_
    refine lv_icmp_eq (tgt := 47) hx hb d_Mod_takes_32 (by decide) (fun _ => ?_) (fun h9 => absurd (by decide) h9)
    refine lv_iconst (v := 1) hx hb d_Mod_takes_47 (by decide) ?_
    refine lv_goto (tgt := 52) hx hb d_Mod_takes_48 (by decide) ?_
    exact kp_i F hlocks hret hS d_Mod_takes_52 (by decide)
  · refine lv_iload_n hx hb d_Mod_takes_0 rfl (lv_at hl 1 rfl) ?_
    refine kp_S F (c_Mod_isPlain l Dg k 86 _ ) kx_K hK kw_Mod_57 tw3_54 hS d_Mod_takes_1 ⟨⟨by decide, by decide⟩, Nat.le_refl _, Nat.le_refl _⟩ rfl hl.1 rfl (Nat.le_of_ble_eq_true rfl) (fun locs hS => ?_)
    refine lv_if_ne (tgt := 13) hx hb d_Mod_takes_4 (by decide) (fun h9 => absurd (by decide) h9) (fun _ => ?_)
    refine lv_iload_n hx hb d_Mod_takes_7 rfl (lv_at hl 1 rfl) ?_
    refine lv_bipush (v := 88) hx hb d_Mod_takes_8 (by decide) ?_
    refine lv_icmp_ne (tgt := 17) hx hb d_Mod_takes_10 (by decide) (fun _ => ?_) (fun h9 => absurd h9 (by decide))
    refine lv_iload_n hx hb d_Mod_takes_17 rfl (lv_at hl 1 rfl) ?_
    refine lv_bipush (v := 83) hx hb d_Mod_takes_18 (by decide) ?_
    refine lv_icmp_eq (tgt := 47) hx hb d_Mod_takes_20 (by decide) (fun h9 => absurd h9 (by decide)) (fun _ => ?_)
    refine lv_iload_n hx hb d_Mod_takes_23 rfl (lv_at hl 1 rfl) ?_
    refine lv_bipush (v := 68) hx hb d_Mod_takes_24 (by decide) ?_
    refine lv_icmp_eq (tgt := 47) hx hb d_Mod_takes_26 (by decide) (fun h9 => absurd h9 (by decide)) (fun _ => ?_)
    refine lv_iload_n hx hb d_Mod_takes_29 rfl (lv_at hl 1 rfl) ?_
    refine lv_bipush (v := 79) hx hb d_Mod_takes_30 (by decide) ?_
    refine lv_icmp_eq (tgt := 47) hx hb d_Mod_takes_32 (by decide) (fun h9 => absurd h9 (by decide)) (fun _ => ?_)
    refine lv_iload_n hx hb d_Mod_takes_35 rfl (lv_at hl 1 rfl) ?_
    refine lv_bipush (v := 86) hx hb d_Mod_takes_36 (by decide) ?_
    refine lv_icmp_eq (tgt := 47) hx hb d_Mod_takes_38 (by decide) (fun _ => ?_) (fun h9 => absurd (by decide) h9)
    refine lv_iconst (v := 1) hx hb d_Mod_takes_47 (by decide) ?_
    refine lv_goto (tgt := 52) hx hb d_Mod_takes_48 (by decide) ?_
    exact kp_i F hlocks hret hS d_Mod_takes_52 (by decide)
  · refine lv_iload_n hx hb d_Mod_takes_0 rfl (lv_at hl 1 rfl) ?_
    refine kp_S F (c_Mod_isPlain l Dg k 74 _ ) kx_K hK kw_Mod_57 tw3_54 hS d_Mod_takes_1 ⟨⟨by decide, by decide⟩, Nat.le_refl _, Nat.le_refl _⟩ rfl hl.1 rfl (Nat.le_of_ble_eq_true rfl) (fun locs hS => ?_)
    refine lv_if_ne (tgt := 13) hx hb d_Mod_takes_4 (by decide) (fun h9 => absurd (by decide) h9) (fun _ => ?_)
    refine lv_iload_n hx hb d_Mod_takes_7 rfl (lv_at hl 1 rfl) ?_
    refine lv_bipush (v := 88) hx hb d_Mod_takes_8 (by decide) ?_
    refine lv_icmp_ne (tgt := 17) hx hb d_Mod_takes_10 (by decide) (fun _ => ?_) (fun h9 => absurd h9 (by decide))
    refine lv_iload_n hx hb d_Mod_takes_17 rfl (lv_at hl 1 rfl) ?_
    refine lv_bipush (v := 83) hx hb d_Mod_takes_18 (by decide) ?_
    refine lv_icmp_eq (tgt := 47) hx hb d_Mod_takes_20 (by decide) (fun h9 => absurd h9 (by decide)) (fun _ => ?_)
    refine lv_iload_n hx hb d_Mod_takes_23 rfl (lv_at hl 1 rfl) ?_
    refine lv_bipush (v := 68) hx hb d_Mod_takes_24 (by decide) ?_
    refine lv_icmp_eq (tgt := 47) hx hb d_Mod_takes_26 (by decide) (fun h9 => absurd h9 (by decide)) (fun _ => ?_)
    refine lv_iload_n hx hb d_Mod_takes_29 rfl (lv_at hl 1 rfl) ?_
    refine lv_bipush (v := 79) hx hb d_Mod_takes_30 (by decide) ?_
    refine lv_icmp_eq (tgt := 47) hx hb d_Mod_takes_32 (by decide) (fun h9 => absurd h9 (by decide)) (fun _ => ?_)
    refine lv_iload_n hx hb d_Mod_takes_35 rfl (lv_at hl 1 rfl) ?_
    refine lv_bipush (v := 86) hx hb d_Mod_takes_36 (by decide) ?_
    refine lv_icmp_eq (tgt := 47) hx hb d_Mod_takes_38 (by decide) (fun h9 => absurd h9 (by decide)) (fun _ => ?_)
    refine lv_iload_n hx hb d_Mod_takes_41 rfl (lv_at hl 1 rfl) ?_
    refine lv_bipush (v := 90) hx hb d_Mod_takes_42 (by decide) ?_
    refine lv_icmp_ne (tgt := 51) hx hb d_Mod_takes_44 (by decide) (fun _ => ?_) (fun h9 => absurd h9 (by decide))
    refine lv_iconst (v := 0) hx hb d_Mod_takes_51 (by decide) ?_
    exact kp_i F hlocks hret hS d_Mod_takes_52 (by decide)
  · refine lv_iload_n hx hb d_Mod_takes_0 rfl (lv_at hl 1 rfl) ?_
    refine kp_S F (c_Mod_isPlain l Dg k 90 _ ) kx_K hK kw_Mod_57 tw3_54 hS d_Mod_takes_1 ⟨⟨by decide, by decide⟩, Nat.le_refl _, Nat.le_refl _⟩ rfl hl.1 rfl (Nat.le_of_ble_eq_true rfl) (fun locs hS => ?_)
    refine lv_if_ne (tgt := 13) hx hb d_Mod_takes_4 (by decide) (fun h9 => absurd (by decide) h9) (fun _ => ?_)
    refine lv_iload_n hx hb d_Mod_takes_7 rfl (lv_at hl 1 rfl) ?_
    refine lv_bipush (v := 88) hx hb d_Mod_takes_8 (by decide) ?_
    refine lv_icmp_ne (tgt := 17) hx hb d_Mod_takes_10 (by decide) (fun _ => ?_) (fun h9 => absurd h9 (by decide))
    refine lv_iload_n hx hb d_Mod_takes_17 rfl (lv_at hl 1 rfl) ?_
    refine lv_bipush (v := 83) hx hb d_Mod_takes_18 (by decide) ?_
    refine lv_icmp_eq (tgt := 47) hx hb d_Mod_takes_20 (by decide) (fun h9 => absurd h9 (by decide)) (fun _ => ?_)
    refine lv_iload_n hx hb d_Mod_takes_23 rfl (lv_at hl 1 rfl) ?_
    refine lv_bipush (v := 68) hx hb d_Mod_takes_24 (by decide) ?_
    refine lv_icmp_eq (tgt := 47) hx hb d_Mod_takes_26 (by decide) (fun h9 => absurd h9 (by decide)) (fun _ => ?_)
    refine lv_iload_n hx hb d_Mod_takes_29 rfl (lv_at hl 1 rfl) ?_
    refine lv_bipush (v := 79) hx hb d_Mod_takes_30 (by decide) ?_
    refine lv_icmp_eq (tgt := 47) hx hb d_Mod_takes_32 (by decide) (fun h9 => absurd h9 (by decide)) (fun _ => ?_)
    refine lv_iload_n hx hb d_Mod_takes_35 rfl (lv_at hl 1 rfl) ?_
    refine lv_bipush (v := 86) hx hb d_Mod_takes_36 (by decide) ?_
    refine lv_icmp_eq (tgt := 47) hx hb d_Mod_takes_38 (by decide) (fun h9 => absurd h9 (by decide)) (fun _ => ?_)
    refine lv_iload_n hx hb d_Mod_takes_41 rfl (lv_at hl 1 rfl) ?_
    refine lv_bipush (v := 90) hx hb d_Mod_takes_42 (by decide) ?_
    refine lv_icmp_ne (tgt := 51) hx hb d_Mod_takes_44 (by decide) (fun h9 => absurd (by decide) h9) (fun _ => ?_)
    refine lv_iconst (v := 1) hx hb d_Mod_takes_47 (by decide) ?_
    refine lv_goto (tgt := 52) hx hb d_Mod_takes_48 (by decide) ?_
    exact kp_i F hlocks hret hS d_Mod_takes_52 (by decide)
  · refine lv_iload_n hx hb d_Mod_takes_0 rfl (lv_at hl 1 rfl) ?_
    refine kp_S F (c_Mod_isPlain l Dg k 67 _ ) kx_K hK kw_Mod_57 tw3_54 hS d_Mod_takes_1 ⟨⟨by decide, by decide⟩, Nat.le_refl _, Nat.le_refl _⟩ rfl hl.1 rfl (Nat.le_of_ble_eq_true rfl) (fun locs hS => ?_)
    refine lv_if_ne (tgt := 13) hx hb d_Mod_takes_4 (by decide) (fun h9 => absurd (by decide) h9) (fun _ => ?_)
    refine lv_iload_n hx hb d_Mod_takes_7 rfl (lv_at hl 1 rfl) ?_
    refine lv_bipush (v := 88) hx hb d_Mod_takes_8 (by decide) ?_
    refine lv_icmp_ne (tgt := 17) hx hb d_Mod_takes_10 (by decide) (fun _ => ?_) (fun h9 => absurd h9 (by decide))
    refine lv_iload_n hx hb d_Mod_takes_17 rfl (lv_at hl 1 rfl) ?_
    refine lv_bipush (v := 83) hx hb d_Mod_takes_18 (by decide) ?_
    refine lv_icmp_eq (tgt := 47) hx hb d_Mod_takes_20 (by decide) (fun h9 => absurd h9 (by decide)) (fun _ => ?_)
    refine lv_iload_n hx hb d_Mod_takes_23 rfl (lv_at hl 1 rfl) ?_
    refine lv_bipush (v := 68) hx hb d_Mod_takes_24 (by decide) ?_
    refine lv_icmp_eq (tgt := 47) hx hb d_Mod_takes_26 (by decide) (fun h9 => absurd h9 (by decide)) (fun _ => ?_)
    refine lv_iload_n hx hb d_Mod_takes_29 rfl (lv_at hl 1 rfl) ?_
    refine lv_bipush (v := 79) hx hb d_Mod_takes_30 (by decide) ?_
    refine lv_icmp_eq (tgt := 47) hx hb d_Mod_takes_32 (by decide) (fun h9 => absurd h9 (by decide)) (fun _ => ?_)
    refine lv_iload_n hx hb d_Mod_takes_35 rfl (lv_at hl 1 rfl) ?_
    refine lv_bipush (v := 86) hx hb d_Mod_takes_36 (by decide) ?_
    refine lv_icmp_eq (tgt := 47) hx hb d_Mod_takes_38 (by decide) (fun h9 => absurd h9 (by decide)) (fun _ => ?_)
    refine lv_iload_n hx hb d_Mod_takes_41 rfl (lv_at hl 1 rfl) ?_
    refine lv_bipush (v := 90) hx hb d_Mod_takes_42 (by decide) ?_
    refine lv_icmp_ne (tgt := 51) hx hb d_Mod_takes_44 (by decide) (fun _ => ?_) (fun h9 => absurd h9 (by decide))
    refine lv_iconst (v := 0) hx hb d_Mod_takes_51 (by decide) ?_
    exact kp_i F hlocks hret hS d_Mod_takes_52 (by decide)
  · refine lv_iload_n hx hb d_Mod_takes_0 rfl (lv_at hl 1 rfl) ?_
    refine kp_S F (c_Mod_isPlain l Dg k 82 _ ) kx_K hK kw_Mod_57 tw3_54 hS d_Mod_takes_1 ⟨⟨by decide, by decide⟩, Nat.le_refl _, Nat.le_refl _⟩ rfl hl.1 rfl (Nat.le_of_ble_eq_true rfl) (fun locs hS => ?_)
    refine lv_if_ne (tgt := 13) hx hb d_Mod_takes_4 (by decide) (fun h9 => absurd (by decide) h9) (fun _ => ?_)
    refine lv_iload_n hx hb d_Mod_takes_7 rfl (lv_at hl 1 rfl) ?_
    refine lv_bipush (v := 88) hx hb d_Mod_takes_8 (by decide) ?_
    refine lv_icmp_ne (tgt := 17) hx hb d_Mod_takes_10 (by decide) (fun _ => ?_) (fun h9 => absurd h9 (by decide))
    refine lv_iload_n hx hb d_Mod_takes_17 rfl (lv_at hl 1 rfl) ?_
    refine lv_bipush (v := 83) hx hb d_Mod_takes_18 (by decide) ?_
    refine lv_icmp_eq (tgt := 47) hx hb d_Mod_takes_20 (by decide) (fun h9 => absurd h9 (by decide)) (fun _ => ?_)
    refine lv_iload_n hx hb d_Mod_takes_23 rfl (lv_at hl 1 rfl) ?_
    refine lv_bipush (v := 68) hx hb d_Mod_takes_24 (by decide) ?_
    refine lv_icmp_eq (tgt := 47) hx hb d_Mod_takes_26 (by decide) (fun h9 => absurd h9 (by decide)) (fun _ => ?_)
    refine lv_iload_n hx hb d_Mod_takes_29 rfl (lv_at hl 1 rfl) ?_
    refine lv_bipush (v := 79) hx hb d_Mod_takes_30 (by decide) ?_
    refine lv_icmp_eq (tgt := 47) hx hb d_Mod_takes_32 (by decide) (fun h9 => absurd h9 (by decide)) (fun _ => ?_)
    refine lv_iload_n hx hb d_Mod_takes_35 rfl (lv_at hl 1 rfl) ?_
    refine lv_bipush (v := 86) hx hb d_Mod_takes_36 (by decide) ?_
    refine lv_icmp_eq (tgt := 47) hx hb d_Mod_takes_38 (by decide) (fun h9 => absurd h9 (by decide)) (fun _ => ?_)
    refine lv_iload_n hx hb d_Mod_takes_41 rfl (lv_at hl 1 rfl) ?_
    refine lv_bipush (v := 90) hx hb d_Mod_takes_42 (by decide) ?_
    refine lv_icmp_ne (tgt := 51) hx hb d_Mod_takes_44 (by decide) (fun _ => ?_) (fun h9 => absurd h9 (by decide))
    refine lv_iconst (v := 0) hx hb d_Mod_takes_51 (by decide) ?_
    exact kp_i F hlocks hret hS d_Mod_takes_52 (by decide)
  · refine lv_iload_n hx hb d_Mod_takes_0 rfl (lv_at hl 1 rfl) ?_
    refine kp_S F (c_Mod_isPlain l Dg k 72 _ ) kx_K hK kw_Mod_57 tw3_54 hS d_Mod_takes_1 ⟨⟨by decide, by decide⟩, Nat.le_refl _, Nat.le_refl _⟩ rfl hl.1 rfl (Nat.le_of_ble_eq_true rfl) (fun locs hS => ?_)
    refine lv_if_ne (tgt := 13) hx hb d_Mod_takes_4 (by decide) (fun h9 => absurd (by decide) h9) (fun _ => ?_)
    refine lv_iload_n hx hb d_Mod_takes_7 rfl (lv_at hl 1 rfl) ?_
    refine lv_bipush (v := 88) hx hb d_Mod_takes_8 (by decide) ?_
    refine lv_icmp_ne (tgt := 17) hx hb d_Mod_takes_10 (by decide) (fun _ => ?_) (fun h9 => absurd h9 (by decide))
    refine lv_iload_n hx hb d_Mod_takes_17 rfl (lv_at hl 1 rfl) ?_
    refine lv_bipush (v := 83) hx hb d_Mod_takes_18 (by decide) ?_
    refine lv_icmp_eq (tgt := 47) hx hb d_Mod_takes_20 (by decide) (fun h9 => absurd h9 (by decide)) (fun _ => ?_)
    refine lv_iload_n hx hb d_Mod_takes_23 rfl (lv_at hl 1 rfl) ?_
    refine lv_bipush (v := 68) hx hb d_Mod_takes_24 (by decide) ?_
    refine lv_icmp_eq (tgt := 47) hx hb d_Mod_takes_26 (by decide) (fun h9 => absurd h9 (by decide)) (fun _ => ?_)
    refine lv_iload_n hx hb d_Mod_takes_29 rfl (lv_at hl 1 rfl) ?_
    refine lv_bipush (v := 79) hx hb d_Mod_takes_30 (by decide) ?_
    refine lv_icmp_eq (tgt := 47) hx hb d_Mod_takes_32 (by decide) (fun h9 => absurd h9 (by decide)) (fun _ => ?_)
    refine lv_iload_n hx hb d_Mod_takes_35 rfl (lv_at hl 1 rfl) ?_
    refine lv_bipush (v := 86) hx hb d_Mod_takes_36 (by decide) ?_
    refine lv_icmp_eq (tgt := 47) hx hb d_Mod_takes_38 (by decide) (fun h9 => absurd h9 (by decide)) (fun _ => ?_)
    refine lv_iload_n hx hb d_Mod_takes_41 rfl (lv_at hl 1 rfl) ?_
    refine lv_bipush (v := 90) hx hb d_Mod_takes_42 (by decide) ?_
    refine lv_icmp_ne (tgt := 51) hx hb d_Mod_takes_44 (by decide) (fun _ => ?_) (fun h9 => absurd h9 (by decide))
    refine lv_iconst (v := 0) hx hb d_Mod_takes_51 (by decide) ?_
    exact kp_i F hlocks hret hS d_Mod_takes_52 (by decide)

theorem dtr_div {D : vSt} {m c : Int32} (hm : dOk D m) (hc : c = 47) (hn : ¬ D 5 (tn m) < sNeed c) : vp_in (40 * m + D 5 (tn m) - 1) 80 := by
  obtain ⟨i, h, r, o, hi, em, e0, e1, e2, b0, b1, b2⟩ := hm
  rw [hc, e0] at hn
  have hd := tr_n (d := 2) (by decide) hn
  have e9 : 40 * m + D 5 (tn m) - 1 = nI (40 * i + h - 1) := by
    rw [e0, em, show (40 : Int32) = nI 40 from rfl, pk_mul, nI_add, show (1 : Int32) = nI 1 from rfl, pk_sub (by omega)]
  rw [e9]; exact vp_in_nI (by omega) (by decide)

set_option maxRecDepth 100000 in
set_option maxHeartbeats 4000000 in
theorem c_Mod_trap (l : Launch) (Dg : va_G) (a : Nat → Nat) (k : Nat → ClassId) (D : vSt) (mm c : Int32) (H : Heap) (hP : va_P Dg classes (wD a k D) H) (hc : okC c) (hm : dOk D mm) : kPu l y_Mod_trap b_Mod_trap 4 (some FieldType.int) 2 41 [.ref (a 0), .int mm, .int c] H (va_K Dg classes (kTy k)) (dTrap D mm c) := by
  refine k_of (by decide) (Nat.le_of_ble_eq_true rfl) ?_
  intro p e s m below meth cd ls F hlocks hret hname hh hX hl
  subst hh
  obtain ⟨hx, hb, hml, hown, hT⟩ := id F
  have hK : va_K Dg classes (kTy k) s := hX
  have hS : va_S (fun _ => False) s.heap s.heap [] := va_S.rf
  have hl : lv_has ls 4 [(0, .ref (a 0)), (1, .int mm), (2, .int c)] := hl
  refine lv_aload_n hx hb d_Mod_trap_0 rfl (lv_at hl 0 rfl) ?_
  refine va_get (D := Dg) (ci := 3) (v := .ref (a 6)) (C := R_Mod) (T := F_Mod) (N := 17) hx hb hT in_Mod hown hK hP 0 rfl rfl 8 (by decide) (hT _ tw2_234) (fun _ h9 => h9) rfl d_Mod_trap_1 ?_
  refine lv_iload_n hx hb d_Mod_trap_4 rfl (lv_at hl 1 rfl) ?_
  refine va_iald (f := (D 5)) hx hb hK hP 6 0 rfl rfl (dm_in hm) d_Mod_trap_5 ?_
  refine lv_aload_n hx hb d_Mod_trap_6 rfl (lv_at hl 0 rfl) ?_
  refine lv_iload_n hx hb d_Mod_trap_7 rfl (lv_at hl 2 rfl) ?_
  refine kp_V F (c_Mod_takes l Dg a k D c _ hP hc) kx_K hK kw_Mod_106 tw3_120 ts_24 (va_recv (ci := 3) (q0 := 0) hK hP rfl rfl) hS d_Mod_trap_8 ⟨⟨by decide, by decide⟩, Nat.le_refl _, Nat.le_refl _⟩ rfl hl.1 rfl (Nat.le_of_ble_eq_true rfl) (fun locs hS => ?_)
  refine lv_icmp_lt (tgt := 29) hx hb d_Mod_trap_11 (by decide) (fun h11 => ?_) (fun h11 => ?_)
  · refine lv_iconst (v := 1) hx hb d_Mod_trap_29 (by decide) ?_
    exact kp_i F hlocks hret hS d_Mod_trap_30 (by unfold dTrap; rw [if_pos h11])
  · refine lv_iload_n hx hb d_Mod_trap_14 rfl (lv_at hl 2 rfl) ?_
    refine lv_bipush (v := 82) hx hb d_Mod_trap_15 (by decide) ?_
    refine lv_icmp_ne (tgt := 31) hx hb d_Mod_trap_17 (by decide) (fun h17 => ?_) (fun h17 => ?_)
    · refine lv_iload_n hx hb d_Mod_trap_31 rfl (lv_at hl 2 rfl) ?_
      refine lv_bipush (v := 80) hx hb d_Mod_trap_32 (by decide) ?_
      refine lv_icmp_eq (tgt := 49) hx hb d_Mod_trap_34 (by decide) (fun h34 => ?_) (fun h34 => ?_)
      · refine lv_iconst (v := 1) hx hb d_Mod_trap_49 (by decide) ?_
        refine lv_goto (tgt := 54) hx hb d_Mod_trap_50 (by decide) ?_
        refine lv_istore_n hx hb d_Mod_trap_54 rfl hl (by decide) rfl (fun ls hl => ?_)
        have hl : lv_has ls 4 [(3, .int 1), (0, .ref (a 0)), (1, .int mm), (2, .int c)] := hl
        refine lv_iload_n hx hb d_Mod_trap_55 rfl (lv_at hl 0 rfl) ?_
        refine lv_if_eq (tgt := 70) hx hb d_Mod_trap_56 (by decide) (fun h9 => absurd h9 (by decide)) (fun _ => ?_)
        refine lv_aload_n hx hb d_Mod_trap_59 rfl (lv_at hl 1 rfl) ?_
        refine va_get (D := Dg) (ci := 3) (v := .ref (a 6)) (C := R_Mod) (T := F_Mod) (N := 17) hx hb hT in_Mod hown hK hP 0 rfl rfl 8 (by decide) (hT _ tw2_234) (fun _ h9 => h9) rfl d_Mod_trap_60 ?_
        refine lv_iload_n hx hb d_Mod_trap_63 rfl (lv_at hl 2 rfl) ?_
        refine va_iald (f := (D 5)) hx hb hK hP 6 0 rfl rfl (dm_in hm) d_Mod_trap_64 ?_
        refine lv_bipush (v := 40) hx hb d_Mod_trap_65 (by decide) ?_
        refine lv_icmp_eq (tgt := 87) hx hb d_Mod_trap_67 (by decide) (fun h67 => ?_) (fun h67 => ?_)
        · refine lv_iconst (v := 2) hx hb d_Mod_trap_87 (by decide) ?_
          exact kp_i F hlocks hret hS d_Mod_trap_88 (by unfold dTrap; rw [if_neg h11, if_neg (fun z => h17 z.1), if_pos ⟨(by rw [h34]; decide), h67⟩])
        · refine lv_iload_n hx hb d_Mod_trap_70 rfl (lv_at hl 3 rfl) ?_
          refine lv_bipush (v := 67) hx hb d_Mod_trap_71 (by decide) ?_
          refine lv_icmp_ne (tgt := 89) hx hb d_Mod_trap_73 (by decide) (fun h73 => ?_) (fun h73 => ?_)
          · refine lv_iload_n hx hb d_Mod_trap_89 rfl (lv_at hl 3 rfl) ?_
            refine lv_bipush (v := 47) hx hb d_Mod_trap_90 (by decide) ?_
            refine lv_icmp_ne (tgt := 120) hx hb d_Mod_trap_92 (by decide) (fun h92 => ?_) (fun h92 => ?_)
            · refine lv_iconst (v := 0) hx hb d_Mod_trap_120 (by decide) ?_
              exact kp_i F hlocks hret hS d_Mod_trap_121 (by unfold dTrap; rw [if_neg h11, if_neg (fun z => h17 z.1), if_neg (fun z => h67 z.2), if_neg (fun z => h73 z.1), if_neg (fun z => h92 z.1)])
            · refine lv_aload_n hx hb d_Mod_trap_95 rfl (lv_at hl 1 rfl) ?_
              refine va_get (D := Dg) (ci := 3) (v := .ref (a 11)) (C := R_Mod) (T := F_Mod) (N := 17) hx hb hT in_Mod hown hK hP 0 rfl rfl 13 (by decide) (hT _ tw2_239) (fun _ h9 => h9) rfl d_Mod_trap_96 ?_
              refine lv_bipush (v := 40) hx hb d_Mod_trap_99 (by decide) ?_
              refine lv_iload_n hx hb d_Mod_trap_101 rfl (lv_at hl 2 rfl) ?_
              refine lv_imul hx hb d_Mod_trap_102 ?_
              refine lv_aload_n hx hb d_Mod_trap_103 rfl (lv_at hl 1 rfl) ?_
              refine va_get (D := Dg) (ci := 3) (v := .ref (a 6)) (C := R_Mod) (T := F_Mod) (N := 17) hx hb hT in_Mod hown hK hP 0 rfl rfl 8 (by decide) (hT _ tw2_234) (fun _ h9 => h9) rfl d_Mod_trap_104 ?_
              refine lv_iload_n hx hb d_Mod_trap_107 rfl (lv_at hl 2 rfl) ?_
              refine va_iald (f := (D 5)) hx hb hK hP 6 0 rfl rfl (dm_in hm) d_Mod_trap_108 ?_
              refine lv_iadd hx hb d_Mod_trap_109 ?_
              refine lv_iconst (v := 1) hx hb d_Mod_trap_110 (by decide) ?_
              refine lv_isub hx hb d_Mod_trap_111 ?_
              refine va_iald (f := (D 10)) hx hb hK hP 11 0 rfl rfl (dtr_div hm h92 h11) d_Mod_trap_112 ?_
              refine lv_if_ne (tgt := 120) hx hb d_Mod_trap_113 (by decide) (fun h113 => ?_) (fun h113 => ?_)
              · refine lv_iconst (v := 0) hx hb d_Mod_trap_120 (by decide) ?_
                exact kp_i F hlocks hret hS d_Mod_trap_121 (by unfold dTrap; rw [if_neg h11, if_neg (fun z => h17 z.1), if_neg (fun z => h67 z.2), if_neg (fun z => h73 z.1), if_neg (fun z => h113 z.2)])
              · refine lv_iconst (v := 3) hx hb d_Mod_trap_116 (by decide) ?_
                refine lv_goto (tgt := 121) hx hb d_Mod_trap_117 (by decide) ?_
                exact kp_i F hlocks hret hS d_Mod_trap_121 (by unfold dTrap; rw [if_neg h11, if_neg (fun z => h17 z.1), if_neg (fun z => h67 z.2), if_neg (fun z => h73 z.1), if_pos ⟨h92, h113⟩])
          · refine lv_aload_n hx hb d_Mod_trap_76 rfl (lv_at hl 1 rfl) ?_
            refine va_get (D := Dg) (ci := 3) (v := .ref (a 7)) (C := R_Mod) (T := F_Mod) (N := 17) hx hb hT in_Mod hown hK hP 0 rfl rfl 9 (by decide) (hT _ tw2_235) (fun _ h9 => h9) rfl d_Mod_trap_77 ?_
            refine lv_iload_n hx hb d_Mod_trap_80 rfl (lv_at hl 2 rfl) ?_
            refine va_iald (f := (D 6)) hx hb hK hP 7 0 rfl rfl (dm_in hm) d_Mod_trap_81 ?_
            refine lv_bipush (v := 10) hx hb d_Mod_trap_82 (by decide) ?_
            refine lv_icmp_ne (tgt := 89) hx hb d_Mod_trap_84 (by decide) (fun h84 => ?_) (fun h84 => ?_)
            · refine lv_iload_n hx hb d_Mod_trap_89 rfl (lv_at hl 3 rfl) ?_
              refine lv_bipush (v := 47) hx hb d_Mod_trap_90 (by decide) ?_
              refine lv_icmp_ne (tgt := 120) hx hb d_Mod_trap_92 (by decide) (fun h92 => ?_) (fun h92 => ?_)
              · refine lv_iconst (v := 0) hx hb d_Mod_trap_120 (by decide) ?_
                exact kp_i F hlocks hret hS d_Mod_trap_121 (by unfold dTrap; rw [if_neg h11, if_neg (fun z => h17 z.1), if_neg (fun z => h67 z.2), if_neg (fun z => h84 z.2), if_neg (fun z => h92 z.1)])
              · refine lv_aload_n hx hb d_Mod_trap_95 rfl (lv_at hl 1 rfl) ?_
                refine va_get (D := Dg) (ci := 3) (v := .ref (a 11)) (C := R_Mod) (T := F_Mod) (N := 17) hx hb hT in_Mod hown hK hP 0 rfl rfl 13 (by decide) (hT _ tw2_239) (fun _ h9 => h9) rfl d_Mod_trap_96 ?_
                refine lv_bipush (v := 40) hx hb d_Mod_trap_99 (by decide) ?_
                refine lv_iload_n hx hb d_Mod_trap_101 rfl (lv_at hl 2 rfl) ?_
                refine lv_imul hx hb d_Mod_trap_102 ?_
                refine lv_aload_n hx hb d_Mod_trap_103 rfl (lv_at hl 1 rfl) ?_
                refine va_get (D := Dg) (ci := 3) (v := .ref (a 6)) (C := R_Mod) (T := F_Mod) (N := 17) hx hb hT in_Mod hown hK hP 0 rfl rfl 8 (by decide) (hT _ tw2_234) (fun _ h9 => h9) rfl d_Mod_trap_104 ?_
                refine lv_iload_n hx hb d_Mod_trap_107 rfl (lv_at hl 2 rfl) ?_
                refine va_iald (f := (D 5)) hx hb hK hP 6 0 rfl rfl (dm_in hm) d_Mod_trap_108 ?_
                refine lv_iadd hx hb d_Mod_trap_109 ?_
                refine lv_iconst (v := 1) hx hb d_Mod_trap_110 (by decide) ?_
                refine lv_isub hx hb d_Mod_trap_111 ?_
                refine va_iald (f := (D 10)) hx hb hK hP 11 0 rfl rfl (dtr_div hm h92 h11) d_Mod_trap_112 ?_
                refine lv_if_ne (tgt := 120) hx hb d_Mod_trap_113 (by decide) (fun h113 => ?_) (fun h113 => ?_)
                · refine lv_iconst (v := 0) hx hb d_Mod_trap_120 (by decide) ?_
                  exact kp_i F hlocks hret hS d_Mod_trap_121 (by unfold dTrap; rw [if_neg h11, if_neg (fun z => h17 z.1), if_neg (fun z => h67 z.2), if_neg (fun z => h84 z.2), if_neg (fun z => h113 z.2)])
                · refine lv_iconst (v := 3) hx hb d_Mod_trap_116 (by decide) ?_
                  refine lv_goto (tgt := 121) hx hb d_Mod_trap_117 (by decide) ?_
                  exact kp_i F hlocks hret hS d_Mod_trap_121 (by unfold dTrap; rw [if_neg h11, if_neg (fun z => h17 z.1), if_neg (fun z => h67 z.2), if_neg (fun z => h84 z.2), if_pos ⟨h92, h113⟩])
            · refine lv_iconst (v := 2) hx hb d_Mod_trap_87 (by decide) ?_
              exact kp_i F hlocks hret hS d_Mod_trap_88 (by unfold dTrap; rw [if_neg h11, if_neg (fun z => h17 z.1), if_neg (fun z => h67 z.2), if_pos ⟨h73, h84⟩])
      · refine lv_iload_n hx hb d_Mod_trap_37 rfl (lv_at hl 2 rfl) ?_
        refine lv_bipush (v := 76) hx hb d_Mod_trap_38 (by decide) ?_
        refine lv_icmp_eq (tgt := 49) hx hb d_Mod_trap_40 (by decide) (fun h40 => ?_) (fun h40 => ?_)
        · refine lv_iconst (v := 1) hx hb d_Mod_trap_49 (by decide) ?_
          refine lv_goto (tgt := 54) hx hb d_Mod_trap_50 (by decide) ?_
          refine lv_istore_n hx hb d_Mod_trap_54 rfl hl (by decide) rfl (fun ls hl => ?_)
          have hl : lv_has ls 4 [(3, .int 1), (0, .ref (a 0)), (1, .int mm), (2, .int c)] := hl
          refine lv_iload_n hx hb d_Mod_trap_55 rfl (lv_at hl 0 rfl) ?_
          refine lv_if_eq (tgt := 70) hx hb d_Mod_trap_56 (by decide) (fun h9 => absurd h9 (by decide)) (fun _ => ?_)
          refine lv_aload_n hx hb d_Mod_trap_59 rfl (lv_at hl 1 rfl) ?_
          refine va_get (D := Dg) (ci := 3) (v := .ref (a 6)) (C := R_Mod) (T := F_Mod) (N := 17) hx hb hT in_Mod hown hK hP 0 rfl rfl 8 (by decide) (hT _ tw2_234) (fun _ h9 => h9) rfl d_Mod_trap_60 ?_
          refine lv_iload_n hx hb d_Mod_trap_63 rfl (lv_at hl 2 rfl) ?_
          refine va_iald (f := (D 5)) hx hb hK hP 6 0 rfl rfl (dm_in hm) d_Mod_trap_64 ?_
          refine lv_bipush (v := 40) hx hb d_Mod_trap_65 (by decide) ?_
          refine lv_icmp_eq (tgt := 87) hx hb d_Mod_trap_67 (by decide) (fun h67 => ?_) (fun h67 => ?_)
          · refine lv_iconst (v := 2) hx hb d_Mod_trap_87 (by decide) ?_
            exact kp_i F hlocks hret hS d_Mod_trap_88 (by unfold dTrap; rw [if_neg h11, if_neg (fun z => h17 z.1), if_pos ⟨(by rw [h40]; decide), h67⟩])
          · refine lv_iload_n hx hb d_Mod_trap_70 rfl (lv_at hl 3 rfl) ?_
            refine lv_bipush (v := 67) hx hb d_Mod_trap_71 (by decide) ?_
            refine lv_icmp_ne (tgt := 89) hx hb d_Mod_trap_73 (by decide) (fun h73 => ?_) (fun h73 => ?_)
            · refine lv_iload_n hx hb d_Mod_trap_89 rfl (lv_at hl 3 rfl) ?_
              refine lv_bipush (v := 47) hx hb d_Mod_trap_90 (by decide) ?_
              refine lv_icmp_ne (tgt := 120) hx hb d_Mod_trap_92 (by decide) (fun h92 => ?_) (fun h92 => ?_)
              · refine lv_iconst (v := 0) hx hb d_Mod_trap_120 (by decide) ?_
                exact kp_i F hlocks hret hS d_Mod_trap_121 (by unfold dTrap; rw [if_neg h11, if_neg (fun z => h17 z.1), if_neg (fun z => h67 z.2), if_neg (fun z => h73 z.1), if_neg (fun z => h92 z.1)])
              · refine lv_aload_n hx hb d_Mod_trap_95 rfl (lv_at hl 1 rfl) ?_
                refine va_get (D := Dg) (ci := 3) (v := .ref (a 11)) (C := R_Mod) (T := F_Mod) (N := 17) hx hb hT in_Mod hown hK hP 0 rfl rfl 13 (by decide) (hT _ tw2_239) (fun _ h9 => h9) rfl d_Mod_trap_96 ?_
                refine lv_bipush (v := 40) hx hb d_Mod_trap_99 (by decide) ?_
                refine lv_iload_n hx hb d_Mod_trap_101 rfl (lv_at hl 2 rfl) ?_
                refine lv_imul hx hb d_Mod_trap_102 ?_
                refine lv_aload_n hx hb d_Mod_trap_103 rfl (lv_at hl 1 rfl) ?_
                refine va_get (D := Dg) (ci := 3) (v := .ref (a 6)) (C := R_Mod) (T := F_Mod) (N := 17) hx hb hT in_Mod hown hK hP 0 rfl rfl 8 (by decide) (hT _ tw2_234) (fun _ h9 => h9) rfl d_Mod_trap_104 ?_
                refine lv_iload_n hx hb d_Mod_trap_107 rfl (lv_at hl 2 rfl) ?_
                refine va_iald (f := (D 5)) hx hb hK hP 6 0 rfl rfl (dm_in hm) d_Mod_trap_108 ?_
                refine lv_iadd hx hb d_Mod_trap_109 ?_
                refine lv_iconst (v := 1) hx hb d_Mod_trap_110 (by decide) ?_
                refine lv_isub hx hb d_Mod_trap_111 ?_
                refine va_iald (f := (D 10)) hx hb hK hP 11 0 rfl rfl (dtr_div hm h92 h11) d_Mod_trap_112 ?_
                refine lv_if_ne (tgt := 120) hx hb d_Mod_trap_113 (by decide) (fun h113 => ?_) (fun h113 => ?_)
                · refine lv_iconst (v := 0) hx hb d_Mod_trap_120 (by decide) ?_
                  exact kp_i F hlocks hret hS d_Mod_trap_121 (by unfold dTrap; rw [if_neg h11, if_neg (fun z => h17 z.1), if_neg (fun z => h67 z.2), if_neg (fun z => h73 z.1), if_neg (fun z => h113 z.2)])
                · refine lv_iconst (v := 3) hx hb d_Mod_trap_116 (by decide) ?_
                  refine lv_goto (tgt := 121) hx hb d_Mod_trap_117 (by decide) ?_
                  exact kp_i F hlocks hret hS d_Mod_trap_121 (by unfold dTrap; rw [if_neg h11, if_neg (fun z => h17 z.1), if_neg (fun z => h67 z.2), if_neg (fun z => h73 z.1), if_pos ⟨h92, h113⟩])
            · refine lv_aload_n hx hb d_Mod_trap_76 rfl (lv_at hl 1 rfl) ?_
              refine va_get (D := Dg) (ci := 3) (v := .ref (a 7)) (C := R_Mod) (T := F_Mod) (N := 17) hx hb hT in_Mod hown hK hP 0 rfl rfl 9 (by decide) (hT _ tw2_235) (fun _ h9 => h9) rfl d_Mod_trap_77 ?_
              refine lv_iload_n hx hb d_Mod_trap_80 rfl (lv_at hl 2 rfl) ?_
              refine va_iald (f := (D 6)) hx hb hK hP 7 0 rfl rfl (dm_in hm) d_Mod_trap_81 ?_
              refine lv_bipush (v := 10) hx hb d_Mod_trap_82 (by decide) ?_
              refine lv_icmp_ne (tgt := 89) hx hb d_Mod_trap_84 (by decide) (fun h84 => ?_) (fun h84 => ?_)
              · refine lv_iload_n hx hb d_Mod_trap_89 rfl (lv_at hl 3 rfl) ?_
                refine lv_bipush (v := 47) hx hb d_Mod_trap_90 (by decide) ?_
                refine lv_icmp_ne (tgt := 120) hx hb d_Mod_trap_92 (by decide) (fun h92 => ?_) (fun h92 => ?_)
                · refine lv_iconst (v := 0) hx hb d_Mod_trap_120 (by decide) ?_
                  exact kp_i F hlocks hret hS d_Mod_trap_121 (by unfold dTrap; rw [if_neg h11, if_neg (fun z => h17 z.1), if_neg (fun z => h67 z.2), if_neg (fun z => h84 z.2), if_neg (fun z => h92 z.1)])
                · refine lv_aload_n hx hb d_Mod_trap_95 rfl (lv_at hl 1 rfl) ?_
                  refine va_get (D := Dg) (ci := 3) (v := .ref (a 11)) (C := R_Mod) (T := F_Mod) (N := 17) hx hb hT in_Mod hown hK hP 0 rfl rfl 13 (by decide) (hT _ tw2_239) (fun _ h9 => h9) rfl d_Mod_trap_96 ?_
                  refine lv_bipush (v := 40) hx hb d_Mod_trap_99 (by decide) ?_
                  refine lv_iload_n hx hb d_Mod_trap_101 rfl (lv_at hl 2 rfl) ?_
                  refine lv_imul hx hb d_Mod_trap_102 ?_
                  refine lv_aload_n hx hb d_Mod_trap_103 rfl (lv_at hl 1 rfl) ?_
                  refine va_get (D := Dg) (ci := 3) (v := .ref (a 6)) (C := R_Mod) (T := F_Mod) (N := 17) hx hb hT in_Mod hown hK hP 0 rfl rfl 8 (by decide) (hT _ tw2_234) (fun _ h9 => h9) rfl d_Mod_trap_104 ?_
                  refine lv_iload_n hx hb d_Mod_trap_107 rfl (lv_at hl 2 rfl) ?_
                  refine va_iald (f := (D 5)) hx hb hK hP 6 0 rfl rfl (dm_in hm) d_Mod_trap_108 ?_
                  refine lv_iadd hx hb d_Mod_trap_109 ?_
                  refine lv_iconst (v := 1) hx hb d_Mod_trap_110 (by decide) ?_
                  refine lv_isub hx hb d_Mod_trap_111 ?_
                  refine va_iald (f := (D 10)) hx hb hK hP 11 0 rfl rfl (dtr_div hm h92 h11) d_Mod_trap_112 ?_
                  refine lv_if_ne (tgt := 120) hx hb d_Mod_trap_113 (by decide) (fun h113 => ?_) (fun h113 => ?_)
                  · refine lv_iconst (v := 0) hx hb d_Mod_trap_120 (by decide) ?_
                    exact kp_i F hlocks hret hS d_Mod_trap_121 (by unfold dTrap; rw [if_neg h11, if_neg (fun z => h17 z.1), if_neg (fun z => h67 z.2), if_neg (fun z => h84 z.2), if_neg (fun z => h113 z.2)])
                  · refine lv_iconst (v := 3) hx hb d_Mod_trap_116 (by decide) ?_
                    refine lv_goto (tgt := 121) hx hb d_Mod_trap_117 (by decide) ?_
                    exact kp_i F hlocks hret hS d_Mod_trap_121 (by unfold dTrap; rw [if_neg h11, if_neg (fun z => h17 z.1), if_neg (fun z => h67 z.2), if_neg (fun z => h84 z.2), if_pos ⟨h92, h113⟩])
              · refine lv_iconst (v := 2) hx hb d_Mod_trap_87 (by decide) ?_
                exact kp_i F hlocks hret hS d_Mod_trap_88 (by unfold dTrap; rw [if_neg h11, if_neg (fun z => h17 z.1), if_neg (fun z => h67 z.2), if_pos ⟨h73, h84⟩])
        · refine lv_iload_n hx hb d_Mod_trap_43 rfl (lv_at hl 2 rfl) ?_
          refine lv_bipush (v := 68) hx hb d_Mod_trap_44 (by decide) ?_
          refine lv_icmp_ne (tgt := 53) hx hb d_Mod_trap_46 (by decide) (fun h46 => ?_) (fun h46 => ?_)
          · refine lv_iconst (v := 0) hx hb d_Mod_trap_53 (by decide) ?_
            refine lv_istore_n hx hb d_Mod_trap_54 rfl hl (by decide) rfl (fun ls hl => ?_)
            have hl : lv_has ls 4 [(3, .int 0), (0, .ref (a 0)), (1, .int mm), (2, .int c)] := hl
            refine lv_iload_n hx hb d_Mod_trap_55 rfl (lv_at hl 0 rfl) ?_
            refine lv_if_eq (tgt := 70) hx hb d_Mod_trap_56 (by decide) (fun _ => ?_) (fun h9 => absurd (by decide) h9)
            refine lv_iload_n hx hb d_Mod_trap_70 rfl (lv_at hl 3 rfl) ?_
            refine lv_bipush (v := 67) hx hb d_Mod_trap_71 (by decide) ?_
            refine lv_icmp_ne (tgt := 89) hx hb d_Mod_trap_73 (by decide) (fun h73 => ?_) (fun h73 => ?_)
            · refine lv_iload_n hx hb d_Mod_trap_89 rfl (lv_at hl 3 rfl) ?_
              refine lv_bipush (v := 47) hx hb d_Mod_trap_90 (by decide) ?_
              refine lv_icmp_ne (tgt := 120) hx hb d_Mod_trap_92 (by decide) (fun h92 => ?_) (fun h92 => ?_)
              · refine lv_iconst (v := 0) hx hb d_Mod_trap_120 (by decide) ?_
                exact kp_i F hlocks hret hS d_Mod_trap_121 (by unfold dTrap; rw [if_neg h11, if_neg (fun z => h17 z.1), if_neg (fun z => z.1 (by unfold sPuts; rw [if_neg (fun y => y.elim h34 (fun y => y.elim h40 h46))])), if_neg (fun z => h73 z.1), if_neg (fun z => h92 z.1)])
              · refine lv_aload_n hx hb d_Mod_trap_95 rfl (lv_at hl 1 rfl) ?_
                refine va_get (D := Dg) (ci := 3) (v := .ref (a 11)) (C := R_Mod) (T := F_Mod) (N := 17) hx hb hT in_Mod hown hK hP 0 rfl rfl 13 (by decide) (hT _ tw2_239) (fun _ h9 => h9) rfl d_Mod_trap_96 ?_
                refine lv_bipush (v := 40) hx hb d_Mod_trap_99 (by decide) ?_
                refine lv_iload_n hx hb d_Mod_trap_101 rfl (lv_at hl 2 rfl) ?_
                refine lv_imul hx hb d_Mod_trap_102 ?_
                refine lv_aload_n hx hb d_Mod_trap_103 rfl (lv_at hl 1 rfl) ?_
                refine va_get (D := Dg) (ci := 3) (v := .ref (a 6)) (C := R_Mod) (T := F_Mod) (N := 17) hx hb hT in_Mod hown hK hP 0 rfl rfl 8 (by decide) (hT _ tw2_234) (fun _ h9 => h9) rfl d_Mod_trap_104 ?_
                refine lv_iload_n hx hb d_Mod_trap_107 rfl (lv_at hl 2 rfl) ?_
                refine va_iald (f := (D 5)) hx hb hK hP 6 0 rfl rfl (dm_in hm) d_Mod_trap_108 ?_
                refine lv_iadd hx hb d_Mod_trap_109 ?_
                refine lv_iconst (v := 1) hx hb d_Mod_trap_110 (by decide) ?_
                refine lv_isub hx hb d_Mod_trap_111 ?_
                refine va_iald (f := (D 10)) hx hb hK hP 11 0 rfl rfl (dtr_div hm h92 h11) d_Mod_trap_112 ?_
                refine lv_if_ne (tgt := 120) hx hb d_Mod_trap_113 (by decide) (fun h113 => ?_) (fun h113 => ?_)
                · refine lv_iconst (v := 0) hx hb d_Mod_trap_120 (by decide) ?_
                  exact kp_i F hlocks hret hS d_Mod_trap_121 (by unfold dTrap; rw [if_neg h11, if_neg (fun z => h17 z.1), if_neg (fun z => z.1 (by unfold sPuts; rw [if_neg (fun y => y.elim h34 (fun y => y.elim h40 h46))])), if_neg (fun z => h73 z.1), if_neg (fun z => h113 z.2)])
                · refine lv_iconst (v := 3) hx hb d_Mod_trap_116 (by decide) ?_
                  refine lv_goto (tgt := 121) hx hb d_Mod_trap_117 (by decide) ?_
                  exact kp_i F hlocks hret hS d_Mod_trap_121 (by unfold dTrap; rw [if_neg h11, if_neg (fun z => h17 z.1), if_neg (fun z => z.1 (by unfold sPuts; rw [if_neg (fun y => y.elim h34 (fun y => y.elim h40 h46))])), if_neg (fun z => h73 z.1), if_pos ⟨h92, h113⟩])
            · refine lv_aload_n hx hb d_Mod_trap_76 rfl (lv_at hl 1 rfl) ?_
              refine va_get (D := Dg) (ci := 3) (v := .ref (a 7)) (C := R_Mod) (T := F_Mod) (N := 17) hx hb hT in_Mod hown hK hP 0 rfl rfl 9 (by decide) (hT _ tw2_235) (fun _ h9 => h9) rfl d_Mod_trap_77 ?_
              refine lv_iload_n hx hb d_Mod_trap_80 rfl (lv_at hl 2 rfl) ?_
              refine va_iald (f := (D 6)) hx hb hK hP 7 0 rfl rfl (dm_in hm) d_Mod_trap_81 ?_
              refine lv_bipush (v := 10) hx hb d_Mod_trap_82 (by decide) ?_
              refine lv_icmp_ne (tgt := 89) hx hb d_Mod_trap_84 (by decide) (fun h84 => ?_) (fun h84 => ?_)
              · refine lv_iload_n hx hb d_Mod_trap_89 rfl (lv_at hl 3 rfl) ?_
                refine lv_bipush (v := 47) hx hb d_Mod_trap_90 (by decide) ?_
                refine lv_icmp_ne (tgt := 120) hx hb d_Mod_trap_92 (by decide) (fun h92 => ?_) (fun h92 => ?_)
                · refine lv_iconst (v := 0) hx hb d_Mod_trap_120 (by decide) ?_
                  exact kp_i F hlocks hret hS d_Mod_trap_121 (by unfold dTrap; rw [if_neg h11, if_neg (fun z => h17 z.1), if_neg (fun z => z.1 (by unfold sPuts; rw [if_neg (fun y => y.elim h34 (fun y => y.elim h40 h46))])), if_neg (fun z => h84 z.2), if_neg (fun z => h92 z.1)])
                · refine lv_aload_n hx hb d_Mod_trap_95 rfl (lv_at hl 1 rfl) ?_
                  refine va_get (D := Dg) (ci := 3) (v := .ref (a 11)) (C := R_Mod) (T := F_Mod) (N := 17) hx hb hT in_Mod hown hK hP 0 rfl rfl 13 (by decide) (hT _ tw2_239) (fun _ h9 => h9) rfl d_Mod_trap_96 ?_
                  refine lv_bipush (v := 40) hx hb d_Mod_trap_99 (by decide) ?_
                  refine lv_iload_n hx hb d_Mod_trap_101 rfl (lv_at hl 2 rfl) ?_
                  refine lv_imul hx hb d_Mod_trap_102 ?_
                  refine lv_aload_n hx hb d_Mod_trap_103 rfl (lv_at hl 1 rfl) ?_
                  refine va_get (D := Dg) (ci := 3) (v := .ref (a 6)) (C := R_Mod) (T := F_Mod) (N := 17) hx hb hT in_Mod hown hK hP 0 rfl rfl 8 (by decide) (hT _ tw2_234) (fun _ h9 => h9) rfl d_Mod_trap_104 ?_
                  refine lv_iload_n hx hb d_Mod_trap_107 rfl (lv_at hl 2 rfl) ?_
                  refine va_iald (f := (D 5)) hx hb hK hP 6 0 rfl rfl (dm_in hm) d_Mod_trap_108 ?_
                  refine lv_iadd hx hb d_Mod_trap_109 ?_
                  refine lv_iconst (v := 1) hx hb d_Mod_trap_110 (by decide) ?_
                  refine lv_isub hx hb d_Mod_trap_111 ?_
                  refine va_iald (f := (D 10)) hx hb hK hP 11 0 rfl rfl (dtr_div hm h92 h11) d_Mod_trap_112 ?_
                  refine lv_if_ne (tgt := 120) hx hb d_Mod_trap_113 (by decide) (fun h113 => ?_) (fun h113 => ?_)
                  · refine lv_iconst (v := 0) hx hb d_Mod_trap_120 (by decide) ?_
                    exact kp_i F hlocks hret hS d_Mod_trap_121 (by unfold dTrap; rw [if_neg h11, if_neg (fun z => h17 z.1), if_neg (fun z => z.1 (by unfold sPuts; rw [if_neg (fun y => y.elim h34 (fun y => y.elim h40 h46))])), if_neg (fun z => h84 z.2), if_neg (fun z => h113 z.2)])
                  · refine lv_iconst (v := 3) hx hb d_Mod_trap_116 (by decide) ?_
                    refine lv_goto (tgt := 121) hx hb d_Mod_trap_117 (by decide) ?_
                    exact kp_i F hlocks hret hS d_Mod_trap_121 (by unfold dTrap; rw [if_neg h11, if_neg (fun z => h17 z.1), if_neg (fun z => z.1 (by unfold sPuts; rw [if_neg (fun y => y.elim h34 (fun y => y.elim h40 h46))])), if_neg (fun z => h84 z.2), if_pos ⟨h92, h113⟩])
              · refine lv_iconst (v := 2) hx hb d_Mod_trap_87 (by decide) ?_
                exact kp_i F hlocks hret hS d_Mod_trap_88 (by unfold dTrap; rw [if_neg h11, if_neg (fun z => h17 z.1), if_neg (fun z => z.1 (by unfold sPuts; rw [if_neg (fun y => y.elim h34 (fun y => y.elim h40 h46))])), if_pos ⟨h73, h84⟩])
          · refine lv_iconst (v := 1) hx hb d_Mod_trap_49 (by decide) ?_
            refine lv_goto (tgt := 54) hx hb d_Mod_trap_50 (by decide) ?_
            refine lv_istore_n hx hb d_Mod_trap_54 rfl hl (by decide) rfl (fun ls hl => ?_)
            have hl : lv_has ls 4 [(3, .int 1), (0, .ref (a 0)), (1, .int mm), (2, .int c)] := hl
            refine lv_iload_n hx hb d_Mod_trap_55 rfl (lv_at hl 0 rfl) ?_
            refine lv_if_eq (tgt := 70) hx hb d_Mod_trap_56 (by decide) (fun h9 => absurd h9 (by decide)) (fun _ => ?_)
            refine lv_aload_n hx hb d_Mod_trap_59 rfl (lv_at hl 1 rfl) ?_
            refine va_get (D := Dg) (ci := 3) (v := .ref (a 6)) (C := R_Mod) (T := F_Mod) (N := 17) hx hb hT in_Mod hown hK hP 0 rfl rfl 8 (by decide) (hT _ tw2_234) (fun _ h9 => h9) rfl d_Mod_trap_60 ?_
            refine lv_iload_n hx hb d_Mod_trap_63 rfl (lv_at hl 2 rfl) ?_
            refine va_iald (f := (D 5)) hx hb hK hP 6 0 rfl rfl (dm_in hm) d_Mod_trap_64 ?_
            refine lv_bipush (v := 40) hx hb d_Mod_trap_65 (by decide) ?_
            refine lv_icmp_eq (tgt := 87) hx hb d_Mod_trap_67 (by decide) (fun h67 => ?_) (fun h67 => ?_)
            · refine lv_iconst (v := 2) hx hb d_Mod_trap_87 (by decide) ?_
              exact kp_i F hlocks hret hS d_Mod_trap_88 (by unfold dTrap; rw [if_neg h11, if_neg (fun z => h17 z.1), if_pos ⟨(by rw [h46]; decide), h67⟩])
            · refine lv_iload_n hx hb d_Mod_trap_70 rfl (lv_at hl 3 rfl) ?_
              refine lv_bipush (v := 67) hx hb d_Mod_trap_71 (by decide) ?_
              refine lv_icmp_ne (tgt := 89) hx hb d_Mod_trap_73 (by decide) (fun h73 => ?_) (fun h73 => ?_)
              · refine lv_iload_n hx hb d_Mod_trap_89 rfl (lv_at hl 3 rfl) ?_
                refine lv_bipush (v := 47) hx hb d_Mod_trap_90 (by decide) ?_
                refine lv_icmp_ne (tgt := 120) hx hb d_Mod_trap_92 (by decide) (fun h92 => ?_) (fun h92 => ?_)
                · refine lv_iconst (v := 0) hx hb d_Mod_trap_120 (by decide) ?_
                  exact kp_i F hlocks hret hS d_Mod_trap_121 (by unfold dTrap; rw [if_neg h11, if_neg (fun z => h17 z.1), if_neg (fun z => h67 z.2), if_neg (fun z => h73 z.1), if_neg (fun z => h92 z.1)])
                · refine lv_aload_n hx hb d_Mod_trap_95 rfl (lv_at hl 1 rfl) ?_
                  refine va_get (D := Dg) (ci := 3) (v := .ref (a 11)) (C := R_Mod) (T := F_Mod) (N := 17) hx hb hT in_Mod hown hK hP 0 rfl rfl 13 (by decide) (hT _ tw2_239) (fun _ h9 => h9) rfl d_Mod_trap_96 ?_
                  refine lv_bipush (v := 40) hx hb d_Mod_trap_99 (by decide) ?_
                  refine lv_iload_n hx hb d_Mod_trap_101 rfl (lv_at hl 2 rfl) ?_
                  refine lv_imul hx hb d_Mod_trap_102 ?_
                  refine lv_aload_n hx hb d_Mod_trap_103 rfl (lv_at hl 1 rfl) ?_
                  refine va_get (D := Dg) (ci := 3) (v := .ref (a 6)) (C := R_Mod) (T := F_Mod) (N := 17) hx hb hT in_Mod hown hK hP 0 rfl rfl 8 (by decide) (hT _ tw2_234) (fun _ h9 => h9) rfl d_Mod_trap_104 ?_
                  refine lv_iload_n hx hb d_Mod_trap_107 rfl (lv_at hl 2 rfl) ?_
                  refine va_iald (f := (D 5)) hx hb hK hP 6 0 rfl rfl (dm_in hm) d_Mod_trap_108 ?_
                  refine lv_iadd hx hb d_Mod_trap_109 ?_
                  refine lv_iconst (v := 1) hx hb d_Mod_trap_110 (by decide) ?_
                  refine lv_isub hx hb d_Mod_trap_111 ?_
                  refine va_iald (f := (D 10)) hx hb hK hP 11 0 rfl rfl (dtr_div hm h92 h11) d_Mod_trap_112 ?_
                  refine lv_if_ne (tgt := 120) hx hb d_Mod_trap_113 (by decide) (fun h113 => ?_) (fun h113 => ?_)
                  · refine lv_iconst (v := 0) hx hb d_Mod_trap_120 (by decide) ?_
                    exact kp_i F hlocks hret hS d_Mod_trap_121 (by unfold dTrap; rw [if_neg h11, if_neg (fun z => h17 z.1), if_neg (fun z => h67 z.2), if_neg (fun z => h73 z.1), if_neg (fun z => h113 z.2)])
                  · refine lv_iconst (v := 3) hx hb d_Mod_trap_116 (by decide) ?_
                    refine lv_goto (tgt := 121) hx hb d_Mod_trap_117 (by decide) ?_
                    exact kp_i F hlocks hret hS d_Mod_trap_121 (by unfold dTrap; rw [if_neg h11, if_neg (fun z => h17 z.1), if_neg (fun z => h67 z.2), if_neg (fun z => h73 z.1), if_pos ⟨h92, h113⟩])
              · refine lv_aload_n hx hb d_Mod_trap_76 rfl (lv_at hl 1 rfl) ?_
                refine va_get (D := Dg) (ci := 3) (v := .ref (a 7)) (C := R_Mod) (T := F_Mod) (N := 17) hx hb hT in_Mod hown hK hP 0 rfl rfl 9 (by decide) (hT _ tw2_235) (fun _ h9 => h9) rfl d_Mod_trap_77 ?_
                refine lv_iload_n hx hb d_Mod_trap_80 rfl (lv_at hl 2 rfl) ?_
                refine va_iald (f := (D 6)) hx hb hK hP 7 0 rfl rfl (dm_in hm) d_Mod_trap_81 ?_
                refine lv_bipush (v := 10) hx hb d_Mod_trap_82 (by decide) ?_
                refine lv_icmp_ne (tgt := 89) hx hb d_Mod_trap_84 (by decide) (fun h84 => ?_) (fun h84 => ?_)
                · refine lv_iload_n hx hb d_Mod_trap_89 rfl (lv_at hl 3 rfl) ?_
                  refine lv_bipush (v := 47) hx hb d_Mod_trap_90 (by decide) ?_
                  refine lv_icmp_ne (tgt := 120) hx hb d_Mod_trap_92 (by decide) (fun h92 => ?_) (fun h92 => ?_)
                  · refine lv_iconst (v := 0) hx hb d_Mod_trap_120 (by decide) ?_
                    exact kp_i F hlocks hret hS d_Mod_trap_121 (by unfold dTrap; rw [if_neg h11, if_neg (fun z => h17 z.1), if_neg (fun z => h67 z.2), if_neg (fun z => h84 z.2), if_neg (fun z => h92 z.1)])
                  · refine lv_aload_n hx hb d_Mod_trap_95 rfl (lv_at hl 1 rfl) ?_
                    refine va_get (D := Dg) (ci := 3) (v := .ref (a 11)) (C := R_Mod) (T := F_Mod) (N := 17) hx hb hT in_Mod hown hK hP 0 rfl rfl 13 (by decide) (hT _ tw2_239) (fun _ h9 => h9) rfl d_Mod_trap_96 ?_
                    refine lv_bipush (v := 40) hx hb d_Mod_trap_99 (by decide) ?_
                    refine lv_iload_n hx hb d_Mod_trap_101 rfl (lv_at hl 2 rfl) ?_
                    refine lv_imul hx hb d_Mod_trap_102 ?_
                    refine lv_aload_n hx hb d_Mod_trap_103 rfl (lv_at hl 1 rfl) ?_
                    refine va_get (D := Dg) (ci := 3) (v := .ref (a 6)) (C := R_Mod) (T := F_Mod) (N := 17) hx hb hT in_Mod hown hK hP 0 rfl rfl 8 (by decide) (hT _ tw2_234) (fun _ h9 => h9) rfl d_Mod_trap_104 ?_
                    refine lv_iload_n hx hb d_Mod_trap_107 rfl (lv_at hl 2 rfl) ?_
                    refine va_iald (f := (D 5)) hx hb hK hP 6 0 rfl rfl (dm_in hm) d_Mod_trap_108 ?_
                    refine lv_iadd hx hb d_Mod_trap_109 ?_
                    refine lv_iconst (v := 1) hx hb d_Mod_trap_110 (by decide) ?_
                    refine lv_isub hx hb d_Mod_trap_111 ?_
                    refine va_iald (f := (D 10)) hx hb hK hP 11 0 rfl rfl (dtr_div hm h92 h11) d_Mod_trap_112 ?_
                    refine lv_if_ne (tgt := 120) hx hb d_Mod_trap_113 (by decide) (fun h113 => ?_) (fun h113 => ?_)
                    · refine lv_iconst (v := 0) hx hb d_Mod_trap_120 (by decide) ?_
                      exact kp_i F hlocks hret hS d_Mod_trap_121 (by unfold dTrap; rw [if_neg h11, if_neg (fun z => h17 z.1), if_neg (fun z => h67 z.2), if_neg (fun z => h84 z.2), if_neg (fun z => h113 z.2)])
                    · refine lv_iconst (v := 3) hx hb d_Mod_trap_116 (by decide) ?_
                      refine lv_goto (tgt := 121) hx hb d_Mod_trap_117 (by decide) ?_
                      exact kp_i F hlocks hret hS d_Mod_trap_121 (by unfold dTrap; rw [if_neg h11, if_neg (fun z => h17 z.1), if_neg (fun z => h67 z.2), if_neg (fun z => h84 z.2), if_pos ⟨h92, h113⟩])
                · refine lv_iconst (v := 2) hx hb d_Mod_trap_87 (by decide) ?_
                  exact kp_i F hlocks hret hS d_Mod_trap_88 (by unfold dTrap; rw [if_neg h11, if_neg (fun z => h17 z.1), if_neg (fun z => h67 z.2), if_pos ⟨h73, h84⟩])
    · refine lv_aload_n hx hb d_Mod_trap_20 rfl (lv_at hl 0 rfl) ?_
      refine va_get (D := Dg) (ci := 3) (v := .ref (a 7)) (C := R_Mod) (T := F_Mod) (N := 17) hx hb hT in_Mod hown hK hP 0 rfl rfl 9 (by decide) (hT _ tw2_235) (fun _ h9 => h9) rfl d_Mod_trap_21 ?_
      refine lv_iload_n hx hb d_Mod_trap_24 rfl (lv_at hl 1 rfl) ?_
      refine va_iald (f := (D 6)) hx hb hK hP 7 0 rfl rfl (dm_in hm) d_Mod_trap_25 ?_
      refine lv_if_ne (tgt := 31) hx hb d_Mod_trap_26 (by decide) (fun h26 => ?_) (fun h26 => ?_)
      · refine lv_iload_n hx hb d_Mod_trap_31 rfl (lv_at hl 2 rfl) ?_
        refine lv_bipush (v := 80) hx hb d_Mod_trap_32 (by decide) ?_
        refine lv_icmp_eq (tgt := 49) hx hb d_Mod_trap_34 (by decide) (fun h34 => ?_) (fun h34 => ?_)
        · refine lv_iconst (v := 1) hx hb d_Mod_trap_49 (by decide) ?_
          refine lv_goto (tgt := 54) hx hb d_Mod_trap_50 (by decide) ?_
          refine lv_istore_n hx hb d_Mod_trap_54 rfl hl (by decide) rfl (fun ls hl => ?_)
          have hl : lv_has ls 4 [(3, .int 1), (0, .ref (a 0)), (1, .int mm), (2, .int c)] := hl
          refine lv_iload_n hx hb d_Mod_trap_55 rfl (lv_at hl 0 rfl) ?_
          refine lv_if_eq (tgt := 70) hx hb d_Mod_trap_56 (by decide) (fun h9 => absurd h9 (by decide)) (fun _ => ?_)
          refine lv_aload_n hx hb d_Mod_trap_59 rfl (lv_at hl 1 rfl) ?_
          refine va_get (D := Dg) (ci := 3) (v := .ref (a 6)) (C := R_Mod) (T := F_Mod) (N := 17) hx hb hT in_Mod hown hK hP 0 rfl rfl 8 (by decide) (hT _ tw2_234) (fun _ h9 => h9) rfl d_Mod_trap_60 ?_
          refine lv_iload_n hx hb d_Mod_trap_63 rfl (lv_at hl 2 rfl) ?_
          refine va_iald (f := (D 5)) hx hb hK hP 6 0 rfl rfl (dm_in hm) d_Mod_trap_64 ?_
          refine lv_bipush (v := 40) hx hb d_Mod_trap_65 (by decide) ?_
          refine lv_icmp_eq (tgt := 87) hx hb d_Mod_trap_67 (by decide) (fun h67 => ?_) (fun h67 => ?_)
          · refine lv_iconst (v := 2) hx hb d_Mod_trap_87 (by decide) ?_
            exact kp_i F hlocks hret hS d_Mod_trap_88 (by unfold dTrap; rw [if_neg h11, if_neg (fun z => h26 z.2), if_pos ⟨(by rw [h34]; decide), h67⟩])
          · refine lv_iload_n hx hb d_Mod_trap_70 rfl (lv_at hl 3 rfl) ?_
            refine lv_bipush (v := 67) hx hb d_Mod_trap_71 (by decide) ?_
            refine lv_icmp_ne (tgt := 89) hx hb d_Mod_trap_73 (by decide) (fun h73 => ?_) (fun h73 => ?_)
            · refine lv_iload_n hx hb d_Mod_trap_89 rfl (lv_at hl 3 rfl) ?_
              refine lv_bipush (v := 47) hx hb d_Mod_trap_90 (by decide) ?_
              refine lv_icmp_ne (tgt := 120) hx hb d_Mod_trap_92 (by decide) (fun h92 => ?_) (fun h92 => ?_)
              · refine lv_iconst (v := 0) hx hb d_Mod_trap_120 (by decide) ?_
                exact kp_i F hlocks hret hS d_Mod_trap_121 (by unfold dTrap; rw [if_neg h11, if_neg (fun z => h26 z.2), if_neg (fun z => h67 z.2), if_neg (fun z => h73 z.1), if_neg (fun z => h92 z.1)])
              · refine lv_aload_n hx hb d_Mod_trap_95 rfl (lv_at hl 1 rfl) ?_
                refine va_get (D := Dg) (ci := 3) (v := .ref (a 11)) (C := R_Mod) (T := F_Mod) (N := 17) hx hb hT in_Mod hown hK hP 0 rfl rfl 13 (by decide) (hT _ tw2_239) (fun _ h9 => h9) rfl d_Mod_trap_96 ?_
                refine lv_bipush (v := 40) hx hb d_Mod_trap_99 (by decide) ?_
                refine lv_iload_n hx hb d_Mod_trap_101 rfl (lv_at hl 2 rfl) ?_
                refine lv_imul hx hb d_Mod_trap_102 ?_
                refine lv_aload_n hx hb d_Mod_trap_103 rfl (lv_at hl 1 rfl) ?_
                refine va_get (D := Dg) (ci := 3) (v := .ref (a 6)) (C := R_Mod) (T := F_Mod) (N := 17) hx hb hT in_Mod hown hK hP 0 rfl rfl 8 (by decide) (hT _ tw2_234) (fun _ h9 => h9) rfl d_Mod_trap_104 ?_
                refine lv_iload_n hx hb d_Mod_trap_107 rfl (lv_at hl 2 rfl) ?_
                refine va_iald (f := (D 5)) hx hb hK hP 6 0 rfl rfl (dm_in hm) d_Mod_trap_108 ?_
                refine lv_iadd hx hb d_Mod_trap_109 ?_
                refine lv_iconst (v := 1) hx hb d_Mod_trap_110 (by decide) ?_
                refine lv_isub hx hb d_Mod_trap_111 ?_
                refine va_iald (f := (D 10)) hx hb hK hP 11 0 rfl rfl (dtr_div hm h92 h11) d_Mod_trap_112 ?_
                refine lv_if_ne (tgt := 120) hx hb d_Mod_trap_113 (by decide) (fun h113 => ?_) (fun h113 => ?_)
                · refine lv_iconst (v := 0) hx hb d_Mod_trap_120 (by decide) ?_
                  exact kp_i F hlocks hret hS d_Mod_trap_121 (by unfold dTrap; rw [if_neg h11, if_neg (fun z => h26 z.2), if_neg (fun z => h67 z.2), if_neg (fun z => h73 z.1), if_neg (fun z => h113 z.2)])
                · refine lv_iconst (v := 3) hx hb d_Mod_trap_116 (by decide) ?_
                  refine lv_goto (tgt := 121) hx hb d_Mod_trap_117 (by decide) ?_
                  exact kp_i F hlocks hret hS d_Mod_trap_121 (by unfold dTrap; rw [if_neg h11, if_neg (fun z => h26 z.2), if_neg (fun z => h67 z.2), if_neg (fun z => h73 z.1), if_pos ⟨h92, h113⟩])
            · refine lv_aload_n hx hb d_Mod_trap_76 rfl (lv_at hl 1 rfl) ?_
              refine va_get (D := Dg) (ci := 3) (v := .ref (a 7)) (C := R_Mod) (T := F_Mod) (N := 17) hx hb hT in_Mod hown hK hP 0 rfl rfl 9 (by decide) (hT _ tw2_235) (fun _ h9 => h9) rfl d_Mod_trap_77 ?_
              refine lv_iload_n hx hb d_Mod_trap_80 rfl (lv_at hl 2 rfl) ?_
              refine va_iald (f := (D 6)) hx hb hK hP 7 0 rfl rfl (dm_in hm) d_Mod_trap_81 ?_
              refine lv_bipush (v := 10) hx hb d_Mod_trap_82 (by decide) ?_
              refine lv_icmp_ne (tgt := 89) hx hb d_Mod_trap_84 (by decide) (fun h84 => ?_) (fun h84 => ?_)
              · refine lv_iload_n hx hb d_Mod_trap_89 rfl (lv_at hl 3 rfl) ?_
                refine lv_bipush (v := 47) hx hb d_Mod_trap_90 (by decide) ?_
                refine lv_icmp_ne (tgt := 120) hx hb d_Mod_trap_92 (by decide) (fun h92 => ?_) (fun h92 => ?_)
                · refine lv_iconst (v := 0) hx hb d_Mod_trap_120 (by decide) ?_
                  exact kp_i F hlocks hret hS d_Mod_trap_121 (by unfold dTrap; rw [if_neg h11, if_neg (fun z => h26 z.2), if_neg (fun z => h67 z.2), if_neg (fun z => h84 z.2), if_neg (fun z => h92 z.1)])
                · refine lv_aload_n hx hb d_Mod_trap_95 rfl (lv_at hl 1 rfl) ?_
                  refine va_get (D := Dg) (ci := 3) (v := .ref (a 11)) (C := R_Mod) (T := F_Mod) (N := 17) hx hb hT in_Mod hown hK hP 0 rfl rfl 13 (by decide) (hT _ tw2_239) (fun _ h9 => h9) rfl d_Mod_trap_96 ?_
                  refine lv_bipush (v := 40) hx hb d_Mod_trap_99 (by decide) ?_
                  refine lv_iload_n hx hb d_Mod_trap_101 rfl (lv_at hl 2 rfl) ?_
                  refine lv_imul hx hb d_Mod_trap_102 ?_
                  refine lv_aload_n hx hb d_Mod_trap_103 rfl (lv_at hl 1 rfl) ?_
                  refine va_get (D := Dg) (ci := 3) (v := .ref (a 6)) (C := R_Mod) (T := F_Mod) (N := 17) hx hb hT in_Mod hown hK hP 0 rfl rfl 8 (by decide) (hT _ tw2_234) (fun _ h9 => h9) rfl d_Mod_trap_104 ?_
                  refine lv_iload_n hx hb d_Mod_trap_107 rfl (lv_at hl 2 rfl) ?_
                  refine va_iald (f := (D 5)) hx hb hK hP 6 0 rfl rfl (dm_in hm) d_Mod_trap_108 ?_
                  refine lv_iadd hx hb d_Mod_trap_109 ?_
                  refine lv_iconst (v := 1) hx hb d_Mod_trap_110 (by decide) ?_
                  refine lv_isub hx hb d_Mod_trap_111 ?_
                  refine va_iald (f := (D 10)) hx hb hK hP 11 0 rfl rfl (dtr_div hm h92 h11) d_Mod_trap_112 ?_
                  refine lv_if_ne (tgt := 120) hx hb d_Mod_trap_113 (by decide) (fun h113 => ?_) (fun h113 => ?_)
                  · refine lv_iconst (v := 0) hx hb d_Mod_trap_120 (by decide) ?_
                    exact kp_i F hlocks hret hS d_Mod_trap_121 (by unfold dTrap; rw [if_neg h11, if_neg (fun z => h26 z.2), if_neg (fun z => h67 z.2), if_neg (fun z => h84 z.2), if_neg (fun z => h113 z.2)])
                  · refine lv_iconst (v := 3) hx hb d_Mod_trap_116 (by decide) ?_
                    refine lv_goto (tgt := 121) hx hb d_Mod_trap_117 (by decide) ?_
                    exact kp_i F hlocks hret hS d_Mod_trap_121 (by unfold dTrap; rw [if_neg h11, if_neg (fun z => h26 z.2), if_neg (fun z => h67 z.2), if_neg (fun z => h84 z.2), if_pos ⟨h92, h113⟩])
              · refine lv_iconst (v := 2) hx hb d_Mod_trap_87 (by decide) ?_
                exact kp_i F hlocks hret hS d_Mod_trap_88 (by unfold dTrap; rw [if_neg h11, if_neg (fun z => h26 z.2), if_neg (fun z => h67 z.2), if_pos ⟨h73, h84⟩])
        · refine lv_iload_n hx hb d_Mod_trap_37 rfl (lv_at hl 2 rfl) ?_
          refine lv_bipush (v := 76) hx hb d_Mod_trap_38 (by decide) ?_
          refine lv_icmp_eq (tgt := 49) hx hb d_Mod_trap_40 (by decide) (fun h40 => ?_) (fun h40 => ?_)
          · refine lv_iconst (v := 1) hx hb d_Mod_trap_49 (by decide) ?_
            refine lv_goto (tgt := 54) hx hb d_Mod_trap_50 (by decide) ?_
            refine lv_istore_n hx hb d_Mod_trap_54 rfl hl (by decide) rfl (fun ls hl => ?_)
            have hl : lv_has ls 4 [(3, .int 1), (0, .ref (a 0)), (1, .int mm), (2, .int c)] := hl
            refine lv_iload_n hx hb d_Mod_trap_55 rfl (lv_at hl 0 rfl) ?_
            refine lv_if_eq (tgt := 70) hx hb d_Mod_trap_56 (by decide) (fun h9 => absurd h9 (by decide)) (fun _ => ?_)
            refine lv_aload_n hx hb d_Mod_trap_59 rfl (lv_at hl 1 rfl) ?_
            refine va_get (D := Dg) (ci := 3) (v := .ref (a 6)) (C := R_Mod) (T := F_Mod) (N := 17) hx hb hT in_Mod hown hK hP 0 rfl rfl 8 (by decide) (hT _ tw2_234) (fun _ h9 => h9) rfl d_Mod_trap_60 ?_
            refine lv_iload_n hx hb d_Mod_trap_63 rfl (lv_at hl 2 rfl) ?_
            refine va_iald (f := (D 5)) hx hb hK hP 6 0 rfl rfl (dm_in hm) d_Mod_trap_64 ?_
            refine lv_bipush (v := 40) hx hb d_Mod_trap_65 (by decide) ?_
            refine lv_icmp_eq (tgt := 87) hx hb d_Mod_trap_67 (by decide) (fun h67 => ?_) (fun h67 => ?_)
            · refine lv_iconst (v := 2) hx hb d_Mod_trap_87 (by decide) ?_
              exact kp_i F hlocks hret hS d_Mod_trap_88 (by unfold dTrap; rw [if_neg h11, if_neg (fun z => h26 z.2), if_pos ⟨(by rw [h40]; decide), h67⟩])
            · refine lv_iload_n hx hb d_Mod_trap_70 rfl (lv_at hl 3 rfl) ?_
              refine lv_bipush (v := 67) hx hb d_Mod_trap_71 (by decide) ?_
              refine lv_icmp_ne (tgt := 89) hx hb d_Mod_trap_73 (by decide) (fun h73 => ?_) (fun h73 => ?_)
              · refine lv_iload_n hx hb d_Mod_trap_89 rfl (lv_at hl 3 rfl) ?_
                refine lv_bipush (v := 47) hx hb d_Mod_trap_90 (by decide) ?_
                refine lv_icmp_ne (tgt := 120) hx hb d_Mod_trap_92 (by decide) (fun h92 => ?_) (fun h92 => ?_)
                · refine lv_iconst (v := 0) hx hb d_Mod_trap_120 (by decide) ?_
                  exact kp_i F hlocks hret hS d_Mod_trap_121 (by unfold dTrap; rw [if_neg h11, if_neg (fun z => h26 z.2), if_neg (fun z => h67 z.2), if_neg (fun z => h73 z.1), if_neg (fun z => h92 z.1)])
                · refine lv_aload_n hx hb d_Mod_trap_95 rfl (lv_at hl 1 rfl) ?_
                  refine va_get (D := Dg) (ci := 3) (v := .ref (a 11)) (C := R_Mod) (T := F_Mod) (N := 17) hx hb hT in_Mod hown hK hP 0 rfl rfl 13 (by decide) (hT _ tw2_239) (fun _ h9 => h9) rfl d_Mod_trap_96 ?_
                  refine lv_bipush (v := 40) hx hb d_Mod_trap_99 (by decide) ?_
                  refine lv_iload_n hx hb d_Mod_trap_101 rfl (lv_at hl 2 rfl) ?_
                  refine lv_imul hx hb d_Mod_trap_102 ?_
                  refine lv_aload_n hx hb d_Mod_trap_103 rfl (lv_at hl 1 rfl) ?_
                  refine va_get (D := Dg) (ci := 3) (v := .ref (a 6)) (C := R_Mod) (T := F_Mod) (N := 17) hx hb hT in_Mod hown hK hP 0 rfl rfl 8 (by decide) (hT _ tw2_234) (fun _ h9 => h9) rfl d_Mod_trap_104 ?_
                  refine lv_iload_n hx hb d_Mod_trap_107 rfl (lv_at hl 2 rfl) ?_
                  refine va_iald (f := (D 5)) hx hb hK hP 6 0 rfl rfl (dm_in hm) d_Mod_trap_108 ?_
                  refine lv_iadd hx hb d_Mod_trap_109 ?_
                  refine lv_iconst (v := 1) hx hb d_Mod_trap_110 (by decide) ?_
                  refine lv_isub hx hb d_Mod_trap_111 ?_
                  refine va_iald (f := (D 10)) hx hb hK hP 11 0 rfl rfl (dtr_div hm h92 h11) d_Mod_trap_112 ?_
                  refine lv_if_ne (tgt := 120) hx hb d_Mod_trap_113 (by decide) (fun h113 => ?_) (fun h113 => ?_)
                  · refine lv_iconst (v := 0) hx hb d_Mod_trap_120 (by decide) ?_
                    exact kp_i F hlocks hret hS d_Mod_trap_121 (by unfold dTrap; rw [if_neg h11, if_neg (fun z => h26 z.2), if_neg (fun z => h67 z.2), if_neg (fun z => h73 z.1), if_neg (fun z => h113 z.2)])
                  · refine lv_iconst (v := 3) hx hb d_Mod_trap_116 (by decide) ?_
                    refine lv_goto (tgt := 121) hx hb d_Mod_trap_117 (by decide) ?_
                    exact kp_i F hlocks hret hS d_Mod_trap_121 (by unfold dTrap; rw [if_neg h11, if_neg (fun z => h26 z.2), if_neg (fun z => h67 z.2), if_neg (fun z => h73 z.1), if_pos ⟨h92, h113⟩])
              · refine lv_aload_n hx hb d_Mod_trap_76 rfl (lv_at hl 1 rfl) ?_
                refine va_get (D := Dg) (ci := 3) (v := .ref (a 7)) (C := R_Mod) (T := F_Mod) (N := 17) hx hb hT in_Mod hown hK hP 0 rfl rfl 9 (by decide) (hT _ tw2_235) (fun _ h9 => h9) rfl d_Mod_trap_77 ?_
                refine lv_iload_n hx hb d_Mod_trap_80 rfl (lv_at hl 2 rfl) ?_
                refine va_iald (f := (D 6)) hx hb hK hP 7 0 rfl rfl (dm_in hm) d_Mod_trap_81 ?_
                refine lv_bipush (v := 10) hx hb d_Mod_trap_82 (by decide) ?_
                refine lv_icmp_ne (tgt := 89) hx hb d_Mod_trap_84 (by decide) (fun h84 => ?_) (fun h84 => ?_)
                · refine lv_iload_n hx hb d_Mod_trap_89 rfl (lv_at hl 3 rfl) ?_
                  refine lv_bipush (v := 47) hx hb d_Mod_trap_90 (by decide) ?_
                  refine lv_icmp_ne (tgt := 120) hx hb d_Mod_trap_92 (by decide) (fun h92 => ?_) (fun h92 => ?_)
                  · refine lv_iconst (v := 0) hx hb d_Mod_trap_120 (by decide) ?_
                    exact kp_i F hlocks hret hS d_Mod_trap_121 (by unfold dTrap; rw [if_neg h11, if_neg (fun z => h26 z.2), if_neg (fun z => h67 z.2), if_neg (fun z => h84 z.2), if_neg (fun z => h92 z.1)])
                  · refine lv_aload_n hx hb d_Mod_trap_95 rfl (lv_at hl 1 rfl) ?_
                    refine va_get (D := Dg) (ci := 3) (v := .ref (a 11)) (C := R_Mod) (T := F_Mod) (N := 17) hx hb hT in_Mod hown hK hP 0 rfl rfl 13 (by decide) (hT _ tw2_239) (fun _ h9 => h9) rfl d_Mod_trap_96 ?_
                    refine lv_bipush (v := 40) hx hb d_Mod_trap_99 (by decide) ?_
                    refine lv_iload_n hx hb d_Mod_trap_101 rfl (lv_at hl 2 rfl) ?_
                    refine lv_imul hx hb d_Mod_trap_102 ?_
                    refine lv_aload_n hx hb d_Mod_trap_103 rfl (lv_at hl 1 rfl) ?_
                    refine va_get (D := Dg) (ci := 3) (v := .ref (a 6)) (C := R_Mod) (T := F_Mod) (N := 17) hx hb hT in_Mod hown hK hP 0 rfl rfl 8 (by decide) (hT _ tw2_234) (fun _ h9 => h9) rfl d_Mod_trap_104 ?_
                    refine lv_iload_n hx hb d_Mod_trap_107 rfl (lv_at hl 2 rfl) ?_
                    refine va_iald (f := (D 5)) hx hb hK hP 6 0 rfl rfl (dm_in hm) d_Mod_trap_108 ?_
                    refine lv_iadd hx hb d_Mod_trap_109 ?_
                    refine lv_iconst (v := 1) hx hb d_Mod_trap_110 (by decide) ?_
                    refine lv_isub hx hb d_Mod_trap_111 ?_
                    refine va_iald (f := (D 10)) hx hb hK hP 11 0 rfl rfl (dtr_div hm h92 h11) d_Mod_trap_112 ?_
                    refine lv_if_ne (tgt := 120) hx hb d_Mod_trap_113 (by decide) (fun h113 => ?_) (fun h113 => ?_)
                    · refine lv_iconst (v := 0) hx hb d_Mod_trap_120 (by decide) ?_
                      exact kp_i F hlocks hret hS d_Mod_trap_121 (by unfold dTrap; rw [if_neg h11, if_neg (fun z => h26 z.2), if_neg (fun z => h67 z.2), if_neg (fun z => h84 z.2), if_neg (fun z => h113 z.2)])
                    · refine lv_iconst (v := 3) hx hb d_Mod_trap_116 (by decide) ?_
                      refine lv_goto (tgt := 121) hx hb d_Mod_trap_117 (by decide) ?_
                      exact kp_i F hlocks hret hS d_Mod_trap_121 (by unfold dTrap; rw [if_neg h11, if_neg (fun z => h26 z.2), if_neg (fun z => h67 z.2), if_neg (fun z => h84 z.2), if_pos ⟨h92, h113⟩])
                · refine lv_iconst (v := 2) hx hb d_Mod_trap_87 (by decide) ?_
                  exact kp_i F hlocks hret hS d_Mod_trap_88 (by unfold dTrap; rw [if_neg h11, if_neg (fun z => h26 z.2), if_neg (fun z => h67 z.2), if_pos ⟨h73, h84⟩])
          · refine lv_iload_n hx hb d_Mod_trap_43 rfl (lv_at hl 2 rfl) ?_
            refine lv_bipush (v := 68) hx hb d_Mod_trap_44 (by decide) ?_
            refine lv_icmp_ne (tgt := 53) hx hb d_Mod_trap_46 (by decide) (fun h46 => ?_) (fun h46 => ?_)
            · refine lv_iconst (v := 0) hx hb d_Mod_trap_53 (by decide) ?_
              refine lv_istore_n hx hb d_Mod_trap_54 rfl hl (by decide) rfl (fun ls hl => ?_)
              have hl : lv_has ls 4 [(3, .int 0), (0, .ref (a 0)), (1, .int mm), (2, .int c)] := hl
              refine lv_iload_n hx hb d_Mod_trap_55 rfl (lv_at hl 0 rfl) ?_
              refine lv_if_eq (tgt := 70) hx hb d_Mod_trap_56 (by decide) (fun _ => ?_) (fun h9 => absurd (by decide) h9)
              refine lv_iload_n hx hb d_Mod_trap_70 rfl (lv_at hl 3 rfl) ?_
              refine lv_bipush (v := 67) hx hb d_Mod_trap_71 (by decide) ?_
              refine lv_icmp_ne (tgt := 89) hx hb d_Mod_trap_73 (by decide) (fun h73 => ?_) (fun h73 => ?_)
              · refine lv_iload_n hx hb d_Mod_trap_89 rfl (lv_at hl 3 rfl) ?_
                refine lv_bipush (v := 47) hx hb d_Mod_trap_90 (by decide) ?_
                refine lv_icmp_ne (tgt := 120) hx hb d_Mod_trap_92 (by decide) (fun h92 => ?_) (fun h92 => ?_)
                · refine lv_iconst (v := 0) hx hb d_Mod_trap_120 (by decide) ?_
                  exact kp_i F hlocks hret hS d_Mod_trap_121 (by unfold dTrap; rw [if_neg h11, if_neg (fun z => h26 z.2), if_neg (fun z => z.1 (by unfold sPuts; rw [if_neg (fun y => y.elim h34 (fun y => y.elim h40 h46))])), if_neg (fun z => h73 z.1), if_neg (fun z => h92 z.1)])
                · refine lv_aload_n hx hb d_Mod_trap_95 rfl (lv_at hl 1 rfl) ?_
                  refine va_get (D := Dg) (ci := 3) (v := .ref (a 11)) (C := R_Mod) (T := F_Mod) (N := 17) hx hb hT in_Mod hown hK hP 0 rfl rfl 13 (by decide) (hT _ tw2_239) (fun _ h9 => h9) rfl d_Mod_trap_96 ?_
                  refine lv_bipush (v := 40) hx hb d_Mod_trap_99 (by decide) ?_
                  refine lv_iload_n hx hb d_Mod_trap_101 rfl (lv_at hl 2 rfl) ?_
                  refine lv_imul hx hb d_Mod_trap_102 ?_
                  refine lv_aload_n hx hb d_Mod_trap_103 rfl (lv_at hl 1 rfl) ?_
                  refine va_get (D := Dg) (ci := 3) (v := .ref (a 6)) (C := R_Mod) (T := F_Mod) (N := 17) hx hb hT in_Mod hown hK hP 0 rfl rfl 8 (by decide) (hT _ tw2_234) (fun _ h9 => h9) rfl d_Mod_trap_104 ?_
                  refine lv_iload_n hx hb d_Mod_trap_107 rfl (lv_at hl 2 rfl) ?_
                  refine va_iald (f := (D 5)) hx hb hK hP 6 0 rfl rfl (dm_in hm) d_Mod_trap_108 ?_
                  refine lv_iadd hx hb d_Mod_trap_109 ?_
                  refine lv_iconst (v := 1) hx hb d_Mod_trap_110 (by decide) ?_
                  refine lv_isub hx hb d_Mod_trap_111 ?_
                  refine va_iald (f := (D 10)) hx hb hK hP 11 0 rfl rfl (dtr_div hm h92 h11) d_Mod_trap_112 ?_
                  refine lv_if_ne (tgt := 120) hx hb d_Mod_trap_113 (by decide) (fun h113 => ?_) (fun h113 => ?_)
                  · refine lv_iconst (v := 0) hx hb d_Mod_trap_120 (by decide) ?_
                    exact kp_i F hlocks hret hS d_Mod_trap_121 (by unfold dTrap; rw [if_neg h11, if_neg (fun z => h26 z.2), if_neg (fun z => z.1 (by unfold sPuts; rw [if_neg (fun y => y.elim h34 (fun y => y.elim h40 h46))])), if_neg (fun z => h73 z.1), if_neg (fun z => h113 z.2)])
                  · refine lv_iconst (v := 3) hx hb d_Mod_trap_116 (by decide) ?_
                    refine lv_goto (tgt := 121) hx hb d_Mod_trap_117 (by decide) ?_
                    exact kp_i F hlocks hret hS d_Mod_trap_121 (by unfold dTrap; rw [if_neg h11, if_neg (fun z => h26 z.2), if_neg (fun z => z.1 (by unfold sPuts; rw [if_neg (fun y => y.elim h34 (fun y => y.elim h40 h46))])), if_neg (fun z => h73 z.1), if_pos ⟨h92, h113⟩])
              · refine lv_aload_n hx hb d_Mod_trap_76 rfl (lv_at hl 1 rfl) ?_
                refine va_get (D := Dg) (ci := 3) (v := .ref (a 7)) (C := R_Mod) (T := F_Mod) (N := 17) hx hb hT in_Mod hown hK hP 0 rfl rfl 9 (by decide) (hT _ tw2_235) (fun _ h9 => h9) rfl d_Mod_trap_77 ?_
                refine lv_iload_n hx hb d_Mod_trap_80 rfl (lv_at hl 2 rfl) ?_
                refine va_iald (f := (D 6)) hx hb hK hP 7 0 rfl rfl (dm_in hm) d_Mod_trap_81 ?_
                refine lv_bipush (v := 10) hx hb d_Mod_trap_82 (by decide) ?_
                refine lv_icmp_ne (tgt := 89) hx hb d_Mod_trap_84 (by decide) (fun h84 => ?_) (fun h84 => ?_)
                · refine lv_iload_n hx hb d_Mod_trap_89 rfl (lv_at hl 3 rfl) ?_
                  refine lv_bipush (v := 47) hx hb d_Mod_trap_90 (by decide) ?_
                  refine lv_icmp_ne (tgt := 120) hx hb d_Mod_trap_92 (by decide) (fun h92 => ?_) (fun h92 => ?_)
                  · refine lv_iconst (v := 0) hx hb d_Mod_trap_120 (by decide) ?_
                    exact kp_i F hlocks hret hS d_Mod_trap_121 (by unfold dTrap; rw [if_neg h11, if_neg (fun z => h26 z.2), if_neg (fun z => z.1 (by unfold sPuts; rw [if_neg (fun y => y.elim h34 (fun y => y.elim h40 h46))])), if_neg (fun z => h84 z.2), if_neg (fun z => h92 z.1)])
                  · refine lv_aload_n hx hb d_Mod_trap_95 rfl (lv_at hl 1 rfl) ?_
                    refine va_get (D := Dg) (ci := 3) (v := .ref (a 11)) (C := R_Mod) (T := F_Mod) (N := 17) hx hb hT in_Mod hown hK hP 0 rfl rfl 13 (by decide) (hT _ tw2_239) (fun _ h9 => h9) rfl d_Mod_trap_96 ?_
                    refine lv_bipush (v := 40) hx hb d_Mod_trap_99 (by decide) ?_
                    refine lv_iload_n hx hb d_Mod_trap_101 rfl (lv_at hl 2 rfl) ?_
                    refine lv_imul hx hb d_Mod_trap_102 ?_
                    refine lv_aload_n hx hb d_Mod_trap_103 rfl (lv_at hl 1 rfl) ?_
                    refine va_get (D := Dg) (ci := 3) (v := .ref (a 6)) (C := R_Mod) (T := F_Mod) (N := 17) hx hb hT in_Mod hown hK hP 0 rfl rfl 8 (by decide) (hT _ tw2_234) (fun _ h9 => h9) rfl d_Mod_trap_104 ?_
                    refine lv_iload_n hx hb d_Mod_trap_107 rfl (lv_at hl 2 rfl) ?_
                    refine va_iald (f := (D 5)) hx hb hK hP 6 0 rfl rfl (dm_in hm) d_Mod_trap_108 ?_
                    refine lv_iadd hx hb d_Mod_trap_109 ?_
                    refine lv_iconst (v := 1) hx hb d_Mod_trap_110 (by decide) ?_
                    refine lv_isub hx hb d_Mod_trap_111 ?_
                    refine va_iald (f := (D 10)) hx hb hK hP 11 0 rfl rfl (dtr_div hm h92 h11) d_Mod_trap_112 ?_
                    refine lv_if_ne (tgt := 120) hx hb d_Mod_trap_113 (by decide) (fun h113 => ?_) (fun h113 => ?_)
                    · refine lv_iconst (v := 0) hx hb d_Mod_trap_120 (by decide) ?_
                      exact kp_i F hlocks hret hS d_Mod_trap_121 (by unfold dTrap; rw [if_neg h11, if_neg (fun z => h26 z.2), if_neg (fun z => z.1 (by unfold sPuts; rw [if_neg (fun y => y.elim h34 (fun y => y.elim h40 h46))])), if_neg (fun z => h84 z.2), if_neg (fun z => h113 z.2)])
                    · refine lv_iconst (v := 3) hx hb d_Mod_trap_116 (by decide) ?_
                      refine lv_goto (tgt := 121) hx hb d_Mod_trap_117 (by decide) ?_
                      exact kp_i F hlocks hret hS d_Mod_trap_121 (by unfold dTrap; rw [if_neg h11, if_neg (fun z => h26 z.2), if_neg (fun z => z.1 (by unfold sPuts; rw [if_neg (fun y => y.elim h34 (fun y => y.elim h40 h46))])), if_neg (fun z => h84 z.2), if_pos ⟨h92, h113⟩])
                · refine lv_iconst (v := 2) hx hb d_Mod_trap_87 (by decide) ?_
                  exact kp_i F hlocks hret hS d_Mod_trap_88 (by unfold dTrap; rw [if_neg h11, if_neg (fun z => h26 z.2), if_neg (fun z => z.1 (by unfold sPuts; rw [if_neg (fun y => y.elim h34 (fun y => y.elim h40 h46))])), if_pos ⟨h73, h84⟩])
            · refine lv_iconst (v := 1) hx hb d_Mod_trap_49 (by decide) ?_
              refine lv_goto (tgt := 54) hx hb d_Mod_trap_50 (by decide) ?_
              refine lv_istore_n hx hb d_Mod_trap_54 rfl hl (by decide) rfl (fun ls hl => ?_)
              have hl : lv_has ls 4 [(3, .int 1), (0, .ref (a 0)), (1, .int mm), (2, .int c)] := hl
              refine lv_iload_n hx hb d_Mod_trap_55 rfl (lv_at hl 0 rfl) ?_
              refine lv_if_eq (tgt := 70) hx hb d_Mod_trap_56 (by decide) (fun h9 => absurd h9 (by decide)) (fun _ => ?_)
              refine lv_aload_n hx hb d_Mod_trap_59 rfl (lv_at hl 1 rfl) ?_
              refine va_get (D := Dg) (ci := 3) (v := .ref (a 6)) (C := R_Mod) (T := F_Mod) (N := 17) hx hb hT in_Mod hown hK hP 0 rfl rfl 8 (by decide) (hT _ tw2_234) (fun _ h9 => h9) rfl d_Mod_trap_60 ?_
              refine lv_iload_n hx hb d_Mod_trap_63 rfl (lv_at hl 2 rfl) ?_
              refine va_iald (f := (D 5)) hx hb hK hP 6 0 rfl rfl (dm_in hm) d_Mod_trap_64 ?_
              refine lv_bipush (v := 40) hx hb d_Mod_trap_65 (by decide) ?_
              refine lv_icmp_eq (tgt := 87) hx hb d_Mod_trap_67 (by decide) (fun h67 => ?_) (fun h67 => ?_)
              · refine lv_iconst (v := 2) hx hb d_Mod_trap_87 (by decide) ?_
                exact kp_i F hlocks hret hS d_Mod_trap_88 (by unfold dTrap; rw [if_neg h11, if_neg (fun z => h26 z.2), if_pos ⟨(by rw [h46]; decide), h67⟩])
              · refine lv_iload_n hx hb d_Mod_trap_70 rfl (lv_at hl 3 rfl) ?_
                refine lv_bipush (v := 67) hx hb d_Mod_trap_71 (by decide) ?_
                refine lv_icmp_ne (tgt := 89) hx hb d_Mod_trap_73 (by decide) (fun h73 => ?_) (fun h73 => ?_)
                · refine lv_iload_n hx hb d_Mod_trap_89 rfl (lv_at hl 3 rfl) ?_
                  refine lv_bipush (v := 47) hx hb d_Mod_trap_90 (by decide) ?_
                  refine lv_icmp_ne (tgt := 120) hx hb d_Mod_trap_92 (by decide) (fun h92 => ?_) (fun h92 => ?_)
                  · refine lv_iconst (v := 0) hx hb d_Mod_trap_120 (by decide) ?_
                    exact kp_i F hlocks hret hS d_Mod_trap_121 (by unfold dTrap; rw [if_neg h11, if_neg (fun z => h26 z.2), if_neg (fun z => h67 z.2), if_neg (fun z => h73 z.1), if_neg (fun z => h92 z.1)])
                  · refine lv_aload_n hx hb d_Mod_trap_95 rfl (lv_at hl 1 rfl) ?_
                    refine va_get (D := Dg) (ci := 3) (v := .ref (a 11)) (C := R_Mod) (T := F_Mod) (N := 17) hx hb hT in_Mod hown hK hP 0 rfl rfl 13 (by decide) (hT _ tw2_239) (fun _ h9 => h9) rfl d_Mod_trap_96 ?_
                    refine lv_bipush (v := 40) hx hb d_Mod_trap_99 (by decide) ?_
                    refine lv_iload_n hx hb d_Mod_trap_101 rfl (lv_at hl 2 rfl) ?_
                    refine lv_imul hx hb d_Mod_trap_102 ?_
                    refine lv_aload_n hx hb d_Mod_trap_103 rfl (lv_at hl 1 rfl) ?_
                    refine va_get (D := Dg) (ci := 3) (v := .ref (a 6)) (C := R_Mod) (T := F_Mod) (N := 17) hx hb hT in_Mod hown hK hP 0 rfl rfl 8 (by decide) (hT _ tw2_234) (fun _ h9 => h9) rfl d_Mod_trap_104 ?_
                    refine lv_iload_n hx hb d_Mod_trap_107 rfl (lv_at hl 2 rfl) ?_
                    refine va_iald (f := (D 5)) hx hb hK hP 6 0 rfl rfl (dm_in hm) d_Mod_trap_108 ?_
                    refine lv_iadd hx hb d_Mod_trap_109 ?_
                    refine lv_iconst (v := 1) hx hb d_Mod_trap_110 (by decide) ?_
                    refine lv_isub hx hb d_Mod_trap_111 ?_
                    refine va_iald (f := (D 10)) hx hb hK hP 11 0 rfl rfl (dtr_div hm h92 h11) d_Mod_trap_112 ?_
                    refine lv_if_ne (tgt := 120) hx hb d_Mod_trap_113 (by decide) (fun h113 => ?_) (fun h113 => ?_)
                    · refine lv_iconst (v := 0) hx hb d_Mod_trap_120 (by decide) ?_
                      exact kp_i F hlocks hret hS d_Mod_trap_121 (by unfold dTrap; rw [if_neg h11, if_neg (fun z => h26 z.2), if_neg (fun z => h67 z.2), if_neg (fun z => h73 z.1), if_neg (fun z => h113 z.2)])
                    · refine lv_iconst (v := 3) hx hb d_Mod_trap_116 (by decide) ?_
                      refine lv_goto (tgt := 121) hx hb d_Mod_trap_117 (by decide) ?_
                      exact kp_i F hlocks hret hS d_Mod_trap_121 (by unfold dTrap; rw [if_neg h11, if_neg (fun z => h26 z.2), if_neg (fun z => h67 z.2), if_neg (fun z => h73 z.1), if_pos ⟨h92, h113⟩])
                · refine lv_aload_n hx hb d_Mod_trap_76 rfl (lv_at hl 1 rfl) ?_
                  refine va_get (D := Dg) (ci := 3) (v := .ref (a 7)) (C := R_Mod) (T := F_Mod) (N := 17) hx hb hT in_Mod hown hK hP 0 rfl rfl 9 (by decide) (hT _ tw2_235) (fun _ h9 => h9) rfl d_Mod_trap_77 ?_
                  refine lv_iload_n hx hb d_Mod_trap_80 rfl (lv_at hl 2 rfl) ?_
                  refine va_iald (f := (D 6)) hx hb hK hP 7 0 rfl rfl (dm_in hm) d_Mod_trap_81 ?_
                  refine lv_bipush (v := 10) hx hb d_Mod_trap_82 (by decide) ?_
                  refine lv_icmp_ne (tgt := 89) hx hb d_Mod_trap_84 (by decide) (fun h84 => ?_) (fun h84 => ?_)
                  · refine lv_iload_n hx hb d_Mod_trap_89 rfl (lv_at hl 3 rfl) ?_
                    refine lv_bipush (v := 47) hx hb d_Mod_trap_90 (by decide) ?_
                    refine lv_icmp_ne (tgt := 120) hx hb d_Mod_trap_92 (by decide) (fun h92 => ?_) (fun h92 => ?_)
                    · refine lv_iconst (v := 0) hx hb d_Mod_trap_120 (by decide) ?_
                      exact kp_i F hlocks hret hS d_Mod_trap_121 (by unfold dTrap; rw [if_neg h11, if_neg (fun z => h26 z.2), if_neg (fun z => h67 z.2), if_neg (fun z => h84 z.2), if_neg (fun z => h92 z.1)])
                    · refine lv_aload_n hx hb d_Mod_trap_95 rfl (lv_at hl 1 rfl) ?_
                      refine va_get (D := Dg) (ci := 3) (v := .ref (a 11)) (C := R_Mod) (T := F_Mod) (N := 17) hx hb hT in_Mod hown hK hP 0 rfl rfl 13 (by decide) (hT _ tw2_239) (fun _ h9 => h9) rfl d_Mod_trap_96 ?_
                      refine lv_bipush (v := 40) hx hb d_Mod_trap_99 (by decide) ?_
                      refine lv_iload_n hx hb d_Mod_trap_101 rfl (lv_at hl 2 rfl) ?_
                      refine lv_imul hx hb d_Mod_trap_102 ?_
                      refine lv_aload_n hx hb d_Mod_trap_103 rfl (lv_at hl 1 rfl) ?_
                      refine va_get (D := Dg) (ci := 3) (v := .ref (a 6)) (C := R_Mod) (T := F_Mod) (N := 17) hx hb hT in_Mod hown hK hP 0 rfl rfl 8 (by decide) (hT _ tw2_234) (fun _ h9 => h9) rfl d_Mod_trap_104 ?_
                      refine lv_iload_n hx hb d_Mod_trap_107 rfl (lv_at hl 2 rfl) ?_
                      refine va_iald (f := (D 5)) hx hb hK hP 6 0 rfl rfl (dm_in hm) d_Mod_trap_108 ?_
                      refine lv_iadd hx hb d_Mod_trap_109 ?_
                      refine lv_iconst (v := 1) hx hb d_Mod_trap_110 (by decide) ?_
                      refine lv_isub hx hb d_Mod_trap_111 ?_
                      refine va_iald (f := (D 10)) hx hb hK hP 11 0 rfl rfl (dtr_div hm h92 h11) d_Mod_trap_112 ?_
                      refine lv_if_ne (tgt := 120) hx hb d_Mod_trap_113 (by decide) (fun h113 => ?_) (fun h113 => ?_)
                      · refine lv_iconst (v := 0) hx hb d_Mod_trap_120 (by decide) ?_
                        exact kp_i F hlocks hret hS d_Mod_trap_121 (by unfold dTrap; rw [if_neg h11, if_neg (fun z => h26 z.2), if_neg (fun z => h67 z.2), if_neg (fun z => h84 z.2), if_neg (fun z => h113 z.2)])
                      · refine lv_iconst (v := 3) hx hb d_Mod_trap_116 (by decide) ?_
                        refine lv_goto (tgt := 121) hx hb d_Mod_trap_117 (by decide) ?_
                        exact kp_i F hlocks hret hS d_Mod_trap_121 (by unfold dTrap; rw [if_neg h11, if_neg (fun z => h26 z.2), if_neg (fun z => h67 z.2), if_neg (fun z => h84 z.2), if_pos ⟨h92, h113⟩])
                  · refine lv_iconst (v := 2) hx hb d_Mod_trap_87 (by decide) ?_
                    exact kp_i F hlocks hret hS d_Mod_trap_88 (by unfold dTrap; rw [if_neg h11, if_neg (fun z => h26 z.2), if_neg (fun z => h67 z.2), if_pos ⟨h73, h84⟩])
      · refine lv_iconst (v := 1) hx hb d_Mod_trap_29 (by decide) ?_
        exact kp_i F hlocks hret hS d_Mod_trap_30 (by unfold dTrap; rw [if_neg h11, if_pos ⟨h17, h26⟩])
end
