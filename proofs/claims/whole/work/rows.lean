section
-- ===== PART A: goes FIRST, ahead of the names: the tables' words, and 'selects' of the private methods out of them =====
/-- a private method of a class that the tables say can be made, by its rows of tables_1 -/
def lw_okq (q : MethodName × Nat) : Prop := (q.1.cls ≠ "java/lang/invoke/MethodHandle" ∧ q.1.cls ≠ "java/lang/invoke/VarHandle") ∧ Cond.instantiable q.1.cls q.2 ∈ tables_1 ∧ Cond.privateMethod q.1 ∈ tables_1 ∧ Cond.instanceMethod q.1 ∈ tables_1
theorem lw_p0 : lw_okq (⟨"FusedEngine", "beginBoth", "()V"⟩, 3) := ⟨⟨by decide +kernel, by decide +kernel⟩, List.mem_of_getElem? (i := 19) (by decide +kernel), List.mem_of_getElem? (i := 121) (by decide +kernel), List.mem_of_getElem? (i := 122) (by decide +kernel)⟩
theorem lw_p1 : lw_okq (⟨"FusedEngine$Program", "longestRowAt", "(I)I"⟩, 7) := ⟨⟨by decide +kernel, by decide +kernel⟩, List.mem_of_getElem? (i := 27) (by decide +kernel), List.mem_of_getElem? (i := 140) (by decide +kernel), List.mem_of_getElem? (i := 141) (by decide +kernel)⟩
theorem lw_p2 : lw_okq (⟨"FusedEngine$Program", "isRowAt", "(III)Z"⟩, 7) := ⟨⟨by decide +kernel, by decide +kernel⟩, List.mem_of_getElem? (i := 27) (by decide +kernel), List.mem_of_getElem? (i := 153) (by decide +kernel), List.mem_of_getElem? (i := 154) (by decide +kernel)⟩
theorem lw_p3 : lw_okq (⟨"FusedEngine", "machineOf", "(Z)LFusedEngine$Machine;"⟩, 3) := ⟨⟨by decide +kernel, by decide +kernel⟩, List.mem_of_getElem? (i := 19) (by decide +kernel), List.mem_of_getElem? (i := 165) (by decide +kernel), List.mem_of_getElem? (i := 166) (by decide +kernel)⟩
theorem lw_p4 : lw_okq (⟨"java/lang/Throwable", "fillInStackTrace", "(I)Ljava/lang/Throwable;"⟩, 6) := ⟨⟨by decide +kernel, by decide +kernel⟩, List.mem_of_getElem? (i := 272) (by decide +kernel), List.mem_of_getElem? (i := 270) (by decide +kernel), List.mem_of_getElem? (i := 271) (by decide +kernel)⟩
theorem lw_p5 : lw_okq (⟨"FusedEngine$Program", "findTargets", "()V"⟩, 7) := ⟨⟨by decide +kernel, by decide +kernel⟩, List.mem_of_getElem? (i := 27) (by decide +kernel), List.mem_of_getElem? (i := 326) (by decide +kernel), List.mem_of_getElem? (i := 327) (by decide +kernel)⟩
theorem lw_p6 : lw_okq (⟨"FusedEngine$Program", "markTarget", "(I)V"⟩, 7) := ⟨⟨by decide +kernel, by decide +kernel⟩, List.mem_of_getElem? (i := 27) (by decide +kernel), List.mem_of_getElem? (i := 330) (by decide +kernel), List.mem_of_getElem? (i := 331) (by decide +kernel)⟩
theorem lw_p7 : lw_okq (⟨"FusedEngine$Machine", "doRow", "(LFusedEngine$Program;I)V"⟩, 10) := ⟨⟨by decide +kernel, by decide +kernel⟩, List.mem_of_getElem? (i := 62) (by decide +kernel), List.mem_of_getElem? (i := 392) (by decide +kernel), List.mem_of_getElem? (i := 393) (by decide +kernel)⟩
theorem lw_p8 : lw_okq (⟨"FusedEngine$Machine", "trapOf", "(I)I"⟩, 10) := ⟨⟨by decide +kernel, by decide +kernel⟩, List.mem_of_getElem? (i := 62) (by decide +kernel), List.mem_of_getElem? (i := 396) (by decide +kernel), List.mem_of_getElem? (i := 397) (by decide +kernel)⟩
theorem lw_p9 : lw_okq (⟨"FusedEngine$Machine", "act", "(II)V"⟩, 10) := ⟨⟨by decide +kernel, by decide +kernel⟩, List.mem_of_getElem? (i := 62) (by decide +kernel), List.mem_of_getElem? (i := 406) (by decide +kernel), List.mem_of_getElem? (i := 407) (by decide +kernel)⟩
theorem lw_p10 : lw_okq (⟨"FusedEngine$Machine", "push", "(I)V"⟩, 10) := ⟨⟨by decide +kernel, by decide +kernel⟩, List.mem_of_getElem? (i := 62) (by decide +kernel), List.mem_of_getElem? (i := 410) (by decide +kernel), List.mem_of_getElem? (i := 411) (by decide +kernel)⟩
theorem lw_p11 : lw_okq (⟨"FusedEngine$Machine", "pop", "()I"⟩, 10) := ⟨⟨by decide +kernel, by decide +kernel⟩, List.mem_of_getElem? (i := 62) (by decide +kernel), List.mem_of_getElem? (i := 414) (by decide +kernel), List.mem_of_getElem? (i := 415) (by decide +kernel)⟩
theorem lw_p12 : lw_okq (⟨"FusedEngine$Machine", "exchange", "()V"⟩, 10) := ⟨⟨by decide +kernel, by decide +kernel⟩, List.mem_of_getElem? (i := 62) (by decide +kernel), List.mem_of_getElem? (i := 418) (by decide +kernel), List.mem_of_getElem? (i := 419) (by decide +kernel)⟩
theorem lw_p13 : lw_okq (⟨"FusedEngine$Machine", "putOut", "(I)V"⟩, 10) := ⟨⟨by decide +kernel, by decide +kernel⟩, List.mem_of_getElem? (i := 62) (by decide +kernel), List.mem_of_getElem? (i := 422) (by decide +kernel), List.mem_of_getElem? (i := 423) (by decide +kernel)⟩
theorem lw_p14 : lw_okq (⟨"FusedEngine$Machine", "combine", "(I)V"⟩, 10) := ⟨⟨by decide +kernel, by decide +kernel⟩, List.mem_of_getElem? (i := 62) (by decide +kernel), List.mem_of_getElem? (i := 426) (by decide +kernel), List.mem_of_getElem? (i := 427) (by decide +kernel)⟩
theorem lw_p15 : lw_okq (⟨"FusedEngineModel", "set", "(III)V"⟩, 17) := ⟨⟨by decide +kernel, by decide +kernel⟩, List.mem_of_getElem? (i := 461) (by decide +kernel), List.mem_of_getElem? (i := 540) (by decide +kernel), List.mem_of_getElem? (i := 541) (by decide +kernel)⟩
def lw_privs_1 : List (MethodName × Nat) := [(⟨"FusedEngine", "beginBoth", "()V"⟩, 3), (⟨"FusedEngine$Program", "longestRowAt", "(I)I"⟩, 7), (⟨"FusedEngine$Program", "isRowAt", "(III)Z"⟩, 7), (⟨"FusedEngine", "machineOf", "(Z)LFusedEngine$Machine;"⟩, 3), (⟨"java/lang/Throwable", "fillInStackTrace", "(I)Ljava/lang/Throwable;"⟩, 6), (⟨"FusedEngine$Program", "findTargets", "()V"⟩, 7), (⟨"FusedEngine$Program", "markTarget", "(I)V"⟩, 7), (⟨"FusedEngine$Machine", "doRow", "(LFusedEngine$Program;I)V"⟩, 10), (⟨"FusedEngine$Machine", "trapOf", "(I)I"⟩, 10), (⟨"FusedEngine$Machine", "act", "(II)V"⟩, 10), (⟨"FusedEngine$Machine", "push", "(I)V"⟩, 10), (⟨"FusedEngine$Machine", "pop", "()I"⟩, 10), (⟨"FusedEngine$Machine", "exchange", "()V"⟩, 10), (⟨"FusedEngine$Machine", "putOut", "(I)V"⟩, 10), (⟨"FusedEngine$Machine", "combine", "(I)V"⟩, 10), (⟨"FusedEngineModel", "set", "(III)V"⟩, 17)]
theorem lw_r1 : ∀ q ∈ lw_privs_1, lw_okq q := List.forall_mem_cons.mpr ⟨lw_p0, List.forall_mem_cons.mpr ⟨lw_p1, List.forall_mem_cons.mpr ⟨lw_p2, List.forall_mem_cons.mpr ⟨lw_p3, List.forall_mem_cons.mpr ⟨lw_p4, List.forall_mem_cons.mpr ⟨lw_p5, List.forall_mem_cons.mpr ⟨lw_p6, List.forall_mem_cons.mpr ⟨lw_p7, List.forall_mem_cons.mpr ⟨lw_p8, List.forall_mem_cons.mpr ⟨lw_p9, List.forall_mem_cons.mpr ⟨lw_p10, List.forall_mem_cons.mpr ⟨lw_p11, List.forall_mem_cons.mpr ⟨lw_p12, List.forall_mem_cons.mpr ⟨lw_p13, List.forall_mem_cons.mpr ⟨lw_p14, List.forall_mem_cons.mpr ⟨lw_p15, fun _ h => absurd h List.not_mem_nil⟩⟩⟩⟩⟩⟩⟩⟩⟩⟩⟩⟩⟩⟩⟩⟩
theorem lw_p16 : lw_okq (⟨"FusedEngineModel", "begin", "()V"⟩, 17) := ⟨⟨by decide +kernel, by decide +kernel⟩, List.mem_of_getElem? (i := 461) (by decide +kernel), List.mem_of_getElem? (i := 544) (by decide +kernel), List.mem_of_getElem? (i := 545) (by decide +kernel)⟩
theorem lw_p17 : lw_okq (⟨"FusedEngineModel", "rowAt", "(I)I"⟩, 17) := ⟨⟨by decide +kernel, by decide +kernel⟩, List.mem_of_getElem? (i := 461) (by decide +kernel), List.mem_of_getElem? (i := 560) (by decide +kernel), List.mem_of_getElem? (i := 561) (by decide +kernel)⟩
theorem lw_p18 : lw_okq (⟨"FusedEngineModel", "alike", "(II)I"⟩, 17) := ⟨⟨by decide +kernel, by decide +kernel⟩, List.mem_of_getElem? (i := 461) (by decide +kernel), List.mem_of_getElem? (i := 564) (by decide +kernel), List.mem_of_getElem? (i := 565) (by decide +kernel)⟩
theorem lw_p19 : lw_okq (⟨"FusedEngineModel", "target", "(I)Z"⟩, 17) := ⟨⟨by decide +kernel, by decide +kernel⟩, List.mem_of_getElem? (i := 461) (by decide +kernel), List.mem_of_getElem? (i := 568) (by decide +kernel), List.mem_of_getElem? (i := 569) (by decide +kernel)⟩
theorem lw_p20 : lw_okq (⟨"FusedEngineModel", "lengthOf", "(I)I"⟩, 17) := ⟨⟨by decide +kernel, by decide +kernel⟩, List.mem_of_getElem? (i := 461) (by decide +kernel), List.mem_of_getElem? (i := 575) (by decide +kernel), List.mem_of_getElem? (i := 576) (by decide +kernel)⟩
theorem lw_p21 : lw_okq (⟨"FusedEngineModel", "refuse", "(I)I"⟩, 17) := ⟨⟨by decide +kernel, by decide +kernel⟩, List.mem_of_getElem? (i := 461) (by decide +kernel), List.mem_of_getElem? (i := 583) (by decide +kernel), List.mem_of_getElem? (i := 584) (by decide +kernel)⟩
theorem lw_p22 : lw_okq (⟨"FusedEngineModel", "act", "(I)Z"⟩, 17) := ⟨⟨by decide +kernel, by decide +kernel⟩, List.mem_of_getElem? (i := 461) (by decide +kernel), List.mem_of_getElem? (i := 591) (by decide +kernel), List.mem_of_getElem? (i := 592) (by decide +kernel)⟩
theorem lw_p23 : lw_okq (⟨"FusedEngineModel", "trap", "(II)I"⟩, 17) := ⟨⟨by decide +kernel, by decide +kernel⟩, List.mem_of_getElem? (i := 461) (by decide +kernel), List.mem_of_getElem? (i := 595) (by decide +kernel), List.mem_of_getElem? (i := 596) (by decide +kernel)⟩
theorem lw_p24 : lw_okq (⟨"FusedEngineModel", "takes", "(I)I"⟩, 17) := ⟨⟨by decide +kernel, by decide +kernel⟩, List.mem_of_getElem? (i := 461) (by decide +kernel), List.mem_of_getElem? (i := 599) (by decide +kernel), List.mem_of_getElem? (i := 600) (by decide +kernel)⟩
theorem lw_p25 : lw_okq (⟨"FusedEngineModel", "work", "(III)V"⟩, 17) := ⟨⟨by decide +kernel, by decide +kernel⟩, List.mem_of_getElem? (i := 461) (by decide +kernel), List.mem_of_getElem? (i := 603) (by decide +kernel), List.mem_of_getElem? (i := 604) (by decide +kernel)⟩
theorem lw_p26 : lw_okq (⟨"FusedEngineModel", "pop", "(I)I"⟩, 17) := ⟨⟨by decide +kernel, by decide +kernel⟩, List.mem_of_getElem? (i := 461) (by decide +kernel), List.mem_of_getElem? (i := 607) (by decide +kernel), List.mem_of_getElem? (i := 608) (by decide +kernel)⟩
theorem lw_p27 : lw_okq (⟨"FusedEngineModel", "push", "(II)V"⟩, 17) := ⟨⟨by decide +kernel, by decide +kernel⟩, List.mem_of_getElem? (i := 461) (by decide +kernel), List.mem_of_getElem? (i := 614) (by decide +kernel), List.mem_of_getElem? (i := 615) (by decide +kernel)⟩
theorem lw_p28 : lw_okq (⟨"FusedEngineModel", "say", "(II)V"⟩, 17) := ⟨⟨by decide +kernel, by decide +kernel⟩, List.mem_of_getElem? (i := 461) (by decide +kernel), List.mem_of_getElem? (i := 618) (by decide +kernel), List.mem_of_getElem? (i := 619) (by decide +kernel)⟩
theorem lw_p29 : lw_okq (⟨"FusedEngineModel", "next", "(III)I"⟩, 17) := ⟨⟨by decide +kernel, by decide +kernel⟩, List.mem_of_getElem? (i := 461) (by decide +kernel), List.mem_of_getElem? (i := 622) (by decide +kernel), List.mem_of_getElem? (i := 623) (by decide +kernel)⟩
def lw_privs_2 : List (MethodName × Nat) := [(⟨"FusedEngineModel", "begin", "()V"⟩, 17), (⟨"FusedEngineModel", "rowAt", "(I)I"⟩, 17), (⟨"FusedEngineModel", "alike", "(II)I"⟩, 17), (⟨"FusedEngineModel", "target", "(I)Z"⟩, 17), (⟨"FusedEngineModel", "lengthOf", "(I)I"⟩, 17), (⟨"FusedEngineModel", "refuse", "(I)I"⟩, 17), (⟨"FusedEngineModel", "act", "(I)Z"⟩, 17), (⟨"FusedEngineModel", "trap", "(II)I"⟩, 17), (⟨"FusedEngineModel", "takes", "(I)I"⟩, 17), (⟨"FusedEngineModel", "work", "(III)V"⟩, 17), (⟨"FusedEngineModel", "pop", "(I)I"⟩, 17), (⟨"FusedEngineModel", "push", "(II)V"⟩, 17), (⟨"FusedEngineModel", "say", "(II)V"⟩, 17), (⟨"FusedEngineModel", "next", "(III)I"⟩, 17)]
theorem lw_r2 : ∀ q ∈ lw_privs_2, lw_okq q := List.forall_mem_cons.mpr ⟨lw_p16, List.forall_mem_cons.mpr ⟨lw_p17, List.forall_mem_cons.mpr ⟨lw_p18, List.forall_mem_cons.mpr ⟨lw_p19, List.forall_mem_cons.mpr ⟨lw_p20, List.forall_mem_cons.mpr ⟨lw_p21, List.forall_mem_cons.mpr ⟨lw_p22, List.forall_mem_cons.mpr ⟨lw_p23, List.forall_mem_cons.mpr ⟨lw_p24, List.forall_mem_cons.mpr ⟨lw_p25, List.forall_mem_cons.mpr ⟨lw_p26, List.forall_mem_cons.mpr ⟨lw_p27, List.forall_mem_cons.mpr ⟨lw_p28, List.forall_mem_cons.mpr ⟨lw_p29, fun _ h => absurd h List.not_mem_nil⟩⟩⟩⟩⟩⟩⟩⟩⟩⟩⟩⟩⟩⟩
def lw_privs : List (MethodName × Nat) := lw_privs_1 ++ (lw_privs_2)
def lw_tbl : List Cond := k2_sels lw_privs ++ tables_1
theorem lw_privs_ok : ∀ q ∈ lw_privs, lw_okq q := by
  show ∀ q ∈ lw_privs_1 ++ (lw_privs_2), lw_okq q
  exact List.forall_mem_append.mpr ⟨lw_r1, lw_r2⟩

/-- the words that every contract carries: those of the tables that speak of the tables alone -/
def lw_ok : List Cond := lw_tbl.filter goodWord
theorem lw_good : ∀ w ∈ lw_ok, goodWord w = true := fun _ h => (List.mem_filter.mp h).2
theorem lw_okT : ∀ w ∈ lw_ok, w ∈ lw_tbl := fun _ h => (List.mem_filter.mp h).1
theorem lw_T {w : Cond} (h : w ∈ tables_1) : w ∈ lw_tbl := List.mem_append_right _ h
theorem lw_0 {w : Cond} (h : w ∈ k2_sels lw_privs) (g : goodWord w = true) : w ∈ lw_ok := List.mem_filter.mpr ⟨List.mem_append_left _ h, g⟩
theorem lt_1 {w : Cond} (h : w ∈ tables_1_1) : w ∈ tables_1 := List.mem_append_left _ h
theorem lt_2 {w : Cond} (h : w ∈ tables_1_2) : w ∈ tables_1 := List.mem_append_right _ (List.mem_append_left _ h)
theorem lt_3 {w : Cond} (h : w ∈ tables_1_3) : w ∈ tables_1 := List.mem_append_right _ (List.mem_append_right _ h)
theorem lw_1 {w : Cond} (h : w ∈ tables_1_1) (g : goodWord w = true) : w ∈ lw_ok := List.mem_filter.mpr ⟨lw_T (lt_1 h), g⟩
theorem lw_2 {w : Cond} (h : w ∈ tables_1_2) (g : goodWord w = true) : w ∈ lw_ok := List.mem_filter.mpr ⟨lw_T (lt_2 h), g⟩
theorem lw_3 {w : Cond} (h : w ∈ tables_1_3) (g : goodWord w = true) : w ∈ lw_ok := List.mem_filter.mpr ⟨lw_T (lt_3 h), g⟩
theorem tw1_0 : Cond.initialized "FusedEngineLaw" ∈ lw_ok := lw_1 (List.mem_of_getElem? (i := 0) rfl) rfl
theorem tw1_1 : Cond.initialized "FusedEngine" ∈ lw_ok := lw_1 (List.mem_of_getElem? (i := 1) rfl) rfl
theorem tw1_2 : Cond.initialized "FusedEngine$Program" ∈ lw_ok := lw_1 (List.mem_of_getElem? (i := 2) rfl) rfl
theorem tw1_3 : Cond.initialized "FusedEngine$Machine" ∈ lw_ok := lw_1 (List.mem_of_getElem? (i := 3) rfl) rfl
theorem tw1_4 : Cond.initialized "FusedEngineModel" ∈ lw_ok := lw_1 (List.mem_of_getElem? (i := 4) rfl) rfl
theorem tw1_5 : Cond.initialized "java/lang/String" ∈ lw_ok := lw_1 (List.mem_of_getElem? (i := 5) rfl) rfl
theorem tw1_6 : Cond.initialized "java/lang/StringLatin1" ∈ lw_ok := lw_1 (List.mem_of_getElem? (i := 6) rfl) rfl
theorem tw1_7 : Cond.initialized "jdk/internal/util/Preconditions" ∈ lw_ok := lw_1 (List.mem_of_getElem? (i := 7) rfl) rfl
theorem tw1_8 : Cond.initialized "java/lang/StringUTF16" ∈ lw_ok := lw_1 (List.mem_of_getElem? (i := 8) rfl) rfl
theorem tw1_9 : Cond.initialized "java/lang/Throwable" ∈ lw_ok := lw_1 (List.mem_of_getElem? (i := 9) rfl) rfl
theorem tw1_10 : Cond.initialized "java/lang/Exception" ∈ lw_ok := lw_1 (List.mem_of_getElem? (i := 10) rfl) rfl
theorem tw1_11 : Cond.initialized "java/lang/RuntimeException" ∈ lw_ok := lw_1 (List.mem_of_getElem? (i := 11) rfl) rfl
theorem tw1_12 : Cond.initialized "java/lang/IllegalArgumentException" ∈ lw_ok := lw_1 (List.mem_of_getElem? (i := 12) rfl) rfl
theorem tw1_13 : Cond.initialized "java/lang/IllegalStateException" ∈ lw_ok := lw_1 (List.mem_of_getElem? (i := 13) rfl) rfl
theorem tw1_14 : Cond.initialized "java/util/Arrays" ∈ lw_ok := lw_1 (List.mem_of_getElem? (i := 14) rfl) rfl
theorem tw1_15 : Cond.initialized "java/util/NoSuchElementException" ∈ lw_ok := lw_1 (List.mem_of_getElem? (i := 15) rfl) rfl
theorem tw1_16 : Cond.initialized "FusedEngine$Rows" ∈ lw_ok := lw_1 (List.mem_of_getElem? (i := 16) rfl) rfl
theorem tw1_17 : Cond.initialized "java/lang/Math" ∈ lw_ok := lw_1 (List.mem_of_getElem? (i := 17) rfl) rfl
theorem tw1_18 : Cond.classLink "FusedEngineLaw" 8 "FusedEngine" ∈ lw_ok := lw_1 (List.mem_of_getElem? (i := 18) rfl) rfl
theorem tw1_19 : Cond.instantiable "FusedEngine" 3 ∈ lw_ok := lw_1 (List.mem_of_getElem? (i := 19) rfl) rfl
theorem tw1_20 : Cond.methodLink "FusedEngineLaw" 39 ⟨"FusedEngine", "<init>", "()V"⟩ ∈ lw_ok := lw_1 (List.mem_of_getElem? (i := 20) rfl) rfl
theorem tw1_21 : Cond.instanceMethod ⟨"FusedEngine", "<init>", "()V"⟩ ∈ lw_ok := lw_1 (List.mem_of_getElem? (i := 21) rfl) rfl
theorem tw1_22 : Cond.code ⟨"FusedEngine", "<init>", "()V"⟩ prog_1_method_1_code 1 (Option.none : Option FieldType) ∈ lw_ok := lw_1 (List.mem_of_getElem? (i := 22) rfl) rfl
theorem tw1_23 : Cond.methodLink "FusedEngine" 1 ⟨"java/lang/Object", "<init>", "()V"⟩ ∈ lw_ok := lw_1 (List.mem_of_getElem? (i := 23) rfl) rfl
theorem tw1_24 : Cond.instanceMethod ⟨"java/lang/Object", "<init>", "()V"⟩ ∈ lw_ok := lw_1 (List.mem_of_getElem? (i := 24) rfl) rfl
theorem tw1_25 : Cond.code ⟨"java/lang/Object", "<init>", "()V"⟩ object_method_1_code 1 (Option.none : Option FieldType) ∈ lw_ok := lw_1 (List.mem_of_getElem? (i := 25) rfl) rfl
theorem tw1_26 : Cond.classLink "FusedEngine" 7 "FusedEngine$Program" ∈ lw_ok := lw_1 (List.mem_of_getElem? (i := 26) rfl) rfl
theorem tw1_27 : Cond.instantiable "FusedEngine$Program" 7 ∈ lw_ok := lw_1 (List.mem_of_getElem? (i := 27) rfl) rfl
theorem tw1_28 : Cond.methodLinkNest "FusedEngine" 9 ⟨"FusedEngine$Program", "<init>", "()V"⟩ "FusedEngine" ∈ tables_1 := lt_1 (List.mem_of_getElem? (i := 28) rfl)
theorem tw1_29 : Cond.instanceMethod ⟨"FusedEngine$Program", "<init>", "()V"⟩ ∈ lw_ok := lw_1 (List.mem_of_getElem? (i := 29) rfl) rfl
theorem tw1_30 : Cond.code ⟨"FusedEngine$Program", "<init>", "()V"⟩ prog_3_method_1_code 1 (Option.none : Option FieldType) ∈ lw_ok := lw_1 (List.mem_of_getElem? (i := 30) rfl) rfl
theorem tw1_31 : Cond.methodLink "FusedEngine$Program" 3 ⟨"java/lang/Object", "<init>", "()V"⟩ ∈ lw_ok := lw_1 (List.mem_of_getElem? (i := 31) rfl) rfl
theorem tw1_32 : Cond.fieldLink "FusedEngine$Program" 11 "FusedEngine$Program" "letters" "[I" ∈ lw_ok := lw_1 (List.mem_of_getElem? (i := 32) rfl) rfl
theorem tw1_33 : Cond.fieldLink "FusedEngine$Machine" 68 "FusedEngine$Program" "letters" "[I" ∈ lw_ok := lw_1 (List.mem_of_getElem? (i := 33) rfl) rfl
theorem tw1_34 : Cond.fieldLink "FusedEngine$Program" 15 "FusedEngine$Program" "numbers" "[I" ∈ lw_ok := lw_1 (List.mem_of_getElem? (i := 34) rfl) rfl
theorem tw1_35 : Cond.fieldLink "FusedEngine$Machine" 75 "FusedEngine$Program" "numbers" "[I" ∈ lw_ok := lw_1 (List.mem_of_getElem? (i := 35) rfl) rfl
theorem tw1_36 : Cond.fieldLink "FusedEngine$Program" 18 "FusedEngine$Program" "targets" "[Z" ∈ lw_ok := lw_1 (List.mem_of_getElem? (i := 36) rfl) rfl
theorem tw1_37 : Cond.fieldLink "FusedEngine$Program" 22 "FusedEngine$Program" "rows" "[I" ∈ lw_ok := lw_1 (List.mem_of_getElem? (i := 37) rfl) rfl
theorem tw1_38 : Cond.fieldLink "FusedEngine$Program" 25 "FusedEngine$Program" "lengths" "[I" ∈ lw_ok := lw_1 (List.mem_of_getElem? (i := 38) rfl) rfl
theorem tw1_39 : Cond.fieldLink "FusedEngine$Machine" 61 "FusedEngine$Program" "lengths" "[I" ∈ lw_ok := lw_1 (List.mem_of_getElem? (i := 39) rfl) rfl
theorem tw1_40 : Cond.fieldLink "FusedEngine" 37 "FusedEngine$Program" "size" "I" ∈ lw_ok := lw_1 (List.mem_of_getElem? (i := 40) rfl) rfl
theorem tw1_41 : Cond.fieldLink "FusedEngine$Program" 42 "FusedEngine$Program" "size" "I" ∈ lw_ok := lw_1 (List.mem_of_getElem? (i := 41) rfl) rfl
theorem tw1_42 : Cond.fieldLink "FusedEngine$Program" 50 "FusedEngine$Program" "isFused" "Z" ∈ lw_ok := lw_1 (List.mem_of_getElem? (i := 42) rfl) rfl
theorem tw1_43 : Cond.fieldLink "FusedEngine" 75 "FusedEngine$Program" "isFused" "Z" ∈ lw_ok := lw_1 (List.mem_of_getElem? (i := 43) rfl) rfl
theorem tw1_44 : Cond.laysFinal "FusedEngine$Program" "FusedEngine$Program" "letters" "[I" ∈ lw_ok := lw_1 (List.mem_of_getElem? (i := 44) rfl) rfl
theorem tw1_45 : Cond.soleField "FusedEngine$Program" "letters" ∈ lw_ok := lw_1 (List.mem_of_getElem? (i := 45) rfl) rfl
theorem tw1_46 : Cond.laysFinal "FusedEngine$Program" "FusedEngine$Program" "numbers" "[I" ∈ lw_ok := lw_1 (List.mem_of_getElem? (i := 46) rfl) rfl
theorem tw1_47 : Cond.soleField "FusedEngine$Program" "numbers" ∈ lw_ok := lw_1 (List.mem_of_getElem? (i := 47) rfl) rfl
theorem tw1_48 : Cond.laysFinal "FusedEngine$Program" "FusedEngine$Program" "targets" "[Z" ∈ lw_ok := lw_1 (List.mem_of_getElem? (i := 48) rfl) rfl
theorem tw1_49 : Cond.soleField "FusedEngine$Program" "targets" ∈ lw_ok := lw_1 (List.mem_of_getElem? (i := 49) rfl) rfl
theorem tw1_50 : Cond.laysFinal "FusedEngine$Program" "FusedEngine$Program" "rows" "[I" ∈ lw_ok := lw_1 (List.mem_of_getElem? (i := 50) rfl) rfl
theorem tw1_51 : Cond.soleField "FusedEngine$Program" "rows" ∈ lw_ok := lw_1 (List.mem_of_getElem? (i := 51) rfl) rfl
theorem tw1_52 : Cond.laysFinal "FusedEngine$Program" "FusedEngine$Program" "lengths" "[I" ∈ lw_ok := lw_1 (List.mem_of_getElem? (i := 52) rfl) rfl
theorem tw1_53 : Cond.soleField "FusedEngine$Program" "lengths" ∈ lw_ok := lw_1 (List.mem_of_getElem? (i := 53) rfl) rfl
theorem tw1_54 : Cond.lays "FusedEngine$Program" "FusedEngine$Program" "size" "I" ∈ lw_ok := lw_1 (List.mem_of_getElem? (i := 54) rfl) rfl
theorem tw1_55 : Cond.soleField "FusedEngine$Program" "size" ∈ lw_ok := lw_1 (List.mem_of_getElem? (i := 55) rfl) rfl
theorem tw1_56 : Cond.lays "FusedEngine$Program" "FusedEngine$Program" "isFused" "Z" ∈ lw_ok := lw_1 (List.mem_of_getElem? (i := 56) rfl) rfl
theorem tw1_57 : Cond.soleField "FusedEngine$Program" "isFused" ∈ lw_ok := lw_1 (List.mem_of_getElem? (i := 57) rfl) rfl
theorem tw1_58 : Cond.superclass "FusedEngine$Program" "java/lang/Object" ∈ lw_ok := lw_1 (List.mem_of_getElem? (i := 58) rfl) rfl
theorem tw1_59 : Cond.arrayClass FieldType.int ∈ lw_ok := lw_1 (List.mem_of_getElem? (i := 59) rfl) rfl
theorem tw1_60 : Cond.arrayClass FieldType.boolean ∈ lw_ok := lw_1 (List.mem_of_getElem? (i := 60) rfl) rfl
theorem tw1_61 : Cond.classLink "FusedEngine" 16 "FusedEngine$Machine" ∈ lw_ok := lw_1 (List.mem_of_getElem? (i := 61) rfl) rfl
theorem tw1_62 : Cond.instantiable "FusedEngine$Machine" 10 ∈ lw_ok := lw_1 (List.mem_of_getElem? (i := 62) rfl) rfl
theorem tw1_63 : Cond.methodLinkNest "FusedEngine" 18 ⟨"FusedEngine$Machine", "<init>", "()V"⟩ "FusedEngine" ∈ tables_1 := lt_1 (List.mem_of_getElem? (i := 63) rfl)
theorem tw1_64 : Cond.instanceMethod ⟨"FusedEngine$Machine", "<init>", "()V"⟩ ∈ lw_ok := lw_1 (List.mem_of_getElem? (i := 64) rfl) rfl
theorem tw1_65 : Cond.code ⟨"FusedEngine$Machine", "<init>", "()V"⟩ prog_2_method_1_code 1 (Option.none : Option FieldType) ∈ lw_ok := lw_1 (List.mem_of_getElem? (i := 65) rfl) rfl
theorem tw1_66 : Cond.methodLink "FusedEngine$Machine" 3 ⟨"java/lang/Object", "<init>", "()V"⟩ ∈ lw_ok := lw_1 (List.mem_of_getElem? (i := 66) rfl) rfl
theorem tw1_67 : Cond.fieldLink "FusedEngine$Machine" 11 "FusedEngine$Machine" "values" "[I" ∈ lw_ok := lw_1 (List.mem_of_getElem? (i := 67) rfl) rfl
theorem tw1_68 : Cond.fieldLink "FusedEngine" 100 "FusedEngine$Machine" "values" "[I" ∈ lw_ok := lw_1 (List.mem_of_getElem? (i := 68) rfl) rfl
theorem tw1_69 : Cond.fieldLink "FusedEngine$Machine" 15 "FusedEngine$Machine" "locals" "[I" ∈ lw_ok := lw_1 (List.mem_of_getElem? (i := 69) rfl) rfl
theorem tw1_70 : Cond.fieldLink "FusedEngine" 106 "FusedEngine$Machine" "locals" "[I" ∈ lw_ok := lw_1 (List.mem_of_getElem? (i := 70) rfl) rfl
theorem tw1_71 : Cond.fieldLink "FusedEngine$Machine" 18 "FusedEngine$Machine" "outputs" "[I" ∈ lw_ok := lw_1 (List.mem_of_getElem? (i := 71) rfl) rfl
theorem tw1_72 : Cond.fieldLink "FusedEngine" 114 "FusedEngine$Machine" "outputs" "[I" ∈ lw_ok := lw_1 (List.mem_of_getElem? (i := 72) rfl) rfl
theorem tw1_73 : Cond.fieldLink "FusedEngine$Machine" 21 "FusedEngine$Machine" "returns" "[I" ∈ lw_ok := lw_1 (List.mem_of_getElem? (i := 73) rfl) rfl
theorem tw1_74 : Cond.fieldLink "FusedEngine$Machine" 30 "FusedEngine$Machine" "height" "I" ∈ lw_ok := lw_1 (List.mem_of_getElem? (i := 74) rfl) rfl
theorem tw1_75 : Cond.fieldLink "FusedEngine" 95 "FusedEngine$Machine" "height" "I" ∈ lw_ok := lw_1 (List.mem_of_getElem? (i := 75) rfl) rfl
theorem tw1_76 : Cond.fieldLink "FusedEngine$Machine" 34 "FusedEngine$Machine" "returnCount" "I" ∈ lw_ok := lw_1 (List.mem_of_getElem? (i := 76) rfl) rfl
theorem tw1_77 : Cond.fieldLink "FusedEngine$Machine" 37 "FusedEngine$Machine" "outputCount" "I" ∈ lw_ok := lw_1 (List.mem_of_getElem? (i := 77) rfl) rfl
theorem tw1_78 : Cond.fieldLink "FusedEngine$Machine" 40 "FusedEngine$Machine" "place" "I" ∈ lw_ok := lw_1 (List.mem_of_getElem? (i := 78) rfl) rfl
theorem tw1_79 : Cond.fieldLink "FusedEngine$Machine" 43 "FusedEngine$Machine" "state" "I" ∈ lw_ok := lw_1 (List.mem_of_getElem? (i := 79) rfl) rfl
theorem tw1_80 : Cond.fieldLink "FusedEngine$Machine" 46 "FusedEngine$Machine" "done" "I" ∈ lw_ok := lw_1 (List.mem_of_getElem? (i := 80) rfl) rfl
theorem tw1_81 : Cond.laysFinal "FusedEngine$Machine" "FusedEngine$Machine" "values" "[I" ∈ lw_ok := lw_1 (List.mem_of_getElem? (i := 81) rfl) rfl
theorem tw1_82 : Cond.soleField "FusedEngine$Machine" "values" ∈ lw_ok := lw_1 (List.mem_of_getElem? (i := 82) rfl) rfl
theorem tw1_83 : Cond.laysFinal "FusedEngine$Machine" "FusedEngine$Machine" "locals" "[I" ∈ lw_ok := lw_1 (List.mem_of_getElem? (i := 83) rfl) rfl
theorem tw1_84 : Cond.soleField "FusedEngine$Machine" "locals" ∈ lw_ok := lw_1 (List.mem_of_getElem? (i := 84) rfl) rfl
theorem tw1_85 : Cond.laysFinal "FusedEngine$Machine" "FusedEngine$Machine" "outputs" "[I" ∈ lw_ok := lw_1 (List.mem_of_getElem? (i := 85) rfl) rfl
theorem tw1_86 : Cond.soleField "FusedEngine$Machine" "outputs" ∈ lw_ok := lw_1 (List.mem_of_getElem? (i := 86) rfl) rfl
theorem tw1_87 : Cond.laysFinal "FusedEngine$Machine" "FusedEngine$Machine" "returns" "[I" ∈ lw_ok := lw_1 (List.mem_of_getElem? (i := 87) rfl) rfl
theorem tw1_88 : Cond.soleField "FusedEngine$Machine" "returns" ∈ lw_ok := lw_1 (List.mem_of_getElem? (i := 88) rfl) rfl
theorem tw1_89 : Cond.lays "FusedEngine$Machine" "FusedEngine$Machine" "height" "I" ∈ lw_ok := lw_1 (List.mem_of_getElem? (i := 89) rfl) rfl
theorem tw1_90 : Cond.soleField "FusedEngine$Machine" "height" ∈ lw_ok := lw_1 (List.mem_of_getElem? (i := 90) rfl) rfl
theorem tw1_91 : Cond.lays "FusedEngine$Machine" "FusedEngine$Machine" "returnCount" "I" ∈ lw_ok := lw_1 (List.mem_of_getElem? (i := 91) rfl) rfl
theorem tw1_92 : Cond.soleField "FusedEngine$Machine" "returnCount" ∈ lw_ok := lw_1 (List.mem_of_getElem? (i := 92) rfl) rfl
theorem tw1_93 : Cond.lays "FusedEngine$Machine" "FusedEngine$Machine" "outputCount" "I" ∈ lw_ok := lw_1 (List.mem_of_getElem? (i := 93) rfl) rfl
theorem tw1_94 : Cond.soleField "FusedEngine$Machine" "outputCount" ∈ lw_ok := lw_1 (List.mem_of_getElem? (i := 94) rfl) rfl
theorem tw1_95 : Cond.lays "FusedEngine$Machine" "FusedEngine$Machine" "place" "I" ∈ lw_ok := lw_1 (List.mem_of_getElem? (i := 95) rfl) rfl
theorem tw1_96 : Cond.soleField "FusedEngine$Machine" "place" ∈ lw_ok := lw_1 (List.mem_of_getElem? (i := 96) rfl) rfl
theorem tw1_97 : Cond.lays "FusedEngine$Machine" "FusedEngine$Machine" "state" "I" ∈ lw_ok := lw_1 (List.mem_of_getElem? (i := 97) rfl) rfl
theorem tw1_98 : Cond.soleField "FusedEngine$Machine" "state" ∈ lw_ok := lw_1 (List.mem_of_getElem? (i := 98) rfl) rfl
theorem tw1_99 : Cond.lays "FusedEngine$Machine" "FusedEngine$Machine" "done" "I" ∈ lw_ok := lw_1 (List.mem_of_getElem? (i := 99) rfl) rfl
theorem tw1_100 : Cond.soleField "FusedEngine$Machine" "done" ∈ lw_ok := lw_1 (List.mem_of_getElem? (i := 100) rfl) rfl
theorem tw1_101 : Cond.superclass "FusedEngine$Machine" "java/lang/Object" ∈ lw_ok := lw_1 (List.mem_of_getElem? (i := 101) rfl) rfl
theorem tw1_102 : Cond.fieldLink "FusedEngine" 10 "FusedEngine" "program" "LFusedEngine$Program;" ∈ lw_ok := lw_1 (List.mem_of_getElem? (i := 102) rfl) rfl
theorem tw1_103 : Cond.fieldLink "FusedEngine" 19 "FusedEngine" "plainMachine" "LFusedEngine$Machine;" ∈ lw_ok := lw_1 (List.mem_of_getElem? (i := 103) rfl) rfl
theorem tw1_104 : Cond.fieldLink "FusedEngine" 23 "FusedEngine" "fusedMachine" "LFusedEngine$Machine;" ∈ lw_ok := lw_1 (List.mem_of_getElem? (i := 104) rfl) rfl
theorem tw1_105 : Cond.laysFinal "FusedEngine" "FusedEngine" "program" "LFusedEngine$Program;" ∈ lw_ok := lw_1 (List.mem_of_getElem? (i := 105) rfl) rfl
theorem tw1_106 : Cond.soleField "FusedEngine" "program" ∈ lw_ok := lw_1 (List.mem_of_getElem? (i := 106) rfl) rfl
theorem tw1_107 : Cond.laysFinal "FusedEngine" "FusedEngine" "plainMachine" "LFusedEngine$Machine;" ∈ lw_ok := lw_1 (List.mem_of_getElem? (i := 107) rfl) rfl
theorem tw1_108 : Cond.soleField "FusedEngine" "plainMachine" ∈ lw_ok := lw_1 (List.mem_of_getElem? (i := 108) rfl) rfl
theorem tw1_109 : Cond.laysFinal "FusedEngine" "FusedEngine" "fusedMachine" "LFusedEngine$Machine;" ∈ lw_ok := lw_1 (List.mem_of_getElem? (i := 109) rfl) rfl
theorem tw1_110 : Cond.soleField "FusedEngine" "fusedMachine" ∈ lw_ok := lw_1 (List.mem_of_getElem? (i := 110) rfl) rfl
theorem tw1_111 : Cond.superclass "FusedEngine" "java/lang/Object" ∈ lw_ok := lw_1 (List.mem_of_getElem? (i := 111) rfl) rfl
theorem tw1_112 : Cond.methodLink "FusedEngineLaw" 57 ⟨"FusedEngine", "clear", "()V"⟩ ∈ lw_ok := lw_1 (List.mem_of_getElem? (i := 112) rfl) rfl
theorem tw1_113 : Cond.instanceMethod ⟨"FusedEngine", "clear", "()V"⟩ ∈ lw_ok := lw_1 (List.mem_of_getElem? (i := 113) rfl) rfl
theorem tw1_114 : Cond.selects "FusedEngine" ⟨"FusedEngine", "clear", "()V"⟩ ⟨"FusedEngine", "clear", "()V"⟩ ∈ lw_ok := lw_1 (List.mem_of_getElem? (i := 114) rfl) rfl
theorem tw1_115 : Cond.code ⟨"FusedEngine", "clear", "()V"⟩ prog_1_method_4_code 1 (Option.none : Option FieldType) ∈ lw_ok := lw_1 (List.mem_of_getElem? (i := 115) rfl) rfl
theorem tw1_116 : Cond.methodLink "FusedEngine" 66 ⟨"FusedEngine$Program", "removeAll", "()V"⟩ ∈ lw_ok := lw_1 (List.mem_of_getElem? (i := 116) rfl) rfl
theorem tw1_117 : Cond.instanceMethod ⟨"FusedEngine$Program", "removeAll", "()V"⟩ ∈ lw_ok := lw_1 (List.mem_of_getElem? (i := 117) rfl) rfl
theorem tw1_118 : Cond.selects "FusedEngine$Program" ⟨"FusedEngine$Program", "removeAll", "()V"⟩ ⟨"FusedEngine$Program", "removeAll", "()V"⟩ ∈ lw_ok := lw_1 (List.mem_of_getElem? (i := 118) rfl) rfl
theorem tw1_119 : Cond.code ⟨"FusedEngine$Program", "removeAll", "()V"⟩ prog_3_method_6_code 1 (Option.none : Option FieldType) ∈ lw_ok := lw_1 (List.mem_of_getElem? (i := 119) rfl) rfl
theorem tw1_120 : Cond.methodLink "FusedEngine" 50 ⟨"FusedEngine", "beginBoth", "()V"⟩ ∈ lw_ok := lw_1 (List.mem_of_getElem? (i := 120) rfl) rfl
theorem tw1_121 : Cond.privateMethod ⟨"FusedEngine", "beginBoth", "()V"⟩ ∈ tables_1 := lt_1 (List.mem_of_getElem? (i := 121) rfl)
theorem tw1_122 : Cond.instanceMethod ⟨"FusedEngine", "beginBoth", "()V"⟩ ∈ lw_ok := lw_1 (List.mem_of_getElem? (i := 122) rfl) rfl
theorem tw1_123 : Cond.code ⟨"FusedEngine", "beginBoth", "()V"⟩ prog_1_method_14_code 1 (Option.none : Option FieldType) ∈ lw_ok := lw_1 (List.mem_of_getElem? (i := 123) rfl) rfl
theorem tw1_124 : Cond.methodLink "FusedEngine" 117 ⟨"FusedEngine$Machine", "begin", "()V"⟩ ∈ lw_ok := lw_1 (List.mem_of_getElem? (i := 124) rfl) rfl
theorem tw1_125 : Cond.instanceMethod ⟨"FusedEngine$Machine", "begin", "()V"⟩ ∈ lw_ok := lw_1 (List.mem_of_getElem? (i := 125) rfl) rfl
theorem tw1_126 : Cond.selects "FusedEngine$Machine" ⟨"FusedEngine$Machine", "begin", "()V"⟩ ⟨"FusedEngine$Machine", "begin", "()V"⟩ ∈ lw_ok := lw_1 (List.mem_of_getElem? (i := 126) rfl) rfl
theorem tw1_127 : Cond.code ⟨"FusedEngine$Machine", "begin", "()V"⟩ prog_2_method_2_code 1 (Option.none : Option FieldType) ∈ lw_ok := lw_1 (List.mem_of_getElem? (i := 127) rfl) rfl
theorem tw1_128 : Cond.methodLink "FusedEngine$Machine" 24 ⟨"java/util/Arrays", "fill", "([II)V"⟩ ∈ lw_ok := lw_1 (List.mem_of_getElem? (i := 128) rfl) rfl
theorem tw1_129 : Cond.static ⟨"java/util/Arrays", "fill", "([II)V"⟩ ∈ lw_ok := lw_1 (List.mem_of_getElem? (i := 129) rfl) rfl
theorem tw1_130 : Cond.code ⟨"java/util/Arrays", "fill", "([II)V"⟩ prog_16_method_103_code 4 (Option.none : Option FieldType) ∈ lw_ok := lw_1 (List.mem_of_getElem? (i := 130) rfl) rfl
theorem tw1_131 : Cond.methodLink "FusedEngineLaw" 61 ⟨"FusedEngine", "fuse", "()I"⟩ ∈ lw_ok := lw_1 (List.mem_of_getElem? (i := 131) rfl) rfl
theorem tw1_132 : Cond.instanceMethod ⟨"FusedEngine", "fuse", "()I"⟩ ∈ lw_ok := lw_1 (List.mem_of_getElem? (i := 132) rfl) rfl
theorem tw1_133 : Cond.selects "FusedEngine" ⟨"FusedEngine", "fuse", "()I"⟩ ⟨"FusedEngine", "fuse", "()I"⟩ ∈ lw_ok := lw_1 (List.mem_of_getElem? (i := 133) rfl) rfl
theorem tw1_134 : Cond.code ⟨"FusedEngine", "fuse", "()I"⟩ prog_1_method_5_code 2 (Option.some FieldType.int) ∈ lw_ok := lw_1 (List.mem_of_getElem? (i := 134) rfl) rfl
theorem tw1_135 : Cond.methodLink "FusedEngine" 69 ⟨"FusedEngine$Program", "fuseRows", "()I"⟩ ∈ lw_ok := lw_1 (List.mem_of_getElem? (i := 135) rfl) rfl
theorem tw1_136 : Cond.instanceMethod ⟨"FusedEngine$Program", "fuseRows", "()I"⟩ ∈ lw_ok := lw_1 (List.mem_of_getElem? (i := 136) rfl) rfl
theorem tw1_137 : Cond.selects "FusedEngine$Program" ⟨"FusedEngine$Program", "fuseRows", "()I"⟩ ⟨"FusedEngine$Program", "fuseRows", "()I"⟩ ∈ lw_ok := lw_1 (List.mem_of_getElem? (i := 137) rfl) rfl
theorem tw1_138 : Cond.code ⟨"FusedEngine$Program", "fuseRows", "()I"⟩ prog_3_method_10_code 5 (Option.some FieldType.int) ∈ lw_ok := lw_1 (List.mem_of_getElem? (i := 138) rfl) rfl
theorem tw1_139 : Cond.methodLink "FusedEngine$Program" 65 ⟨"FusedEngine$Program", "longestRowAt", "(I)I"⟩ ∈ lw_ok := lw_1 (List.mem_of_getElem? (i := 139) rfl) rfl
theorem tw1_140 : Cond.privateMethod ⟨"FusedEngine$Program", "longestRowAt", "(I)I"⟩ ∈ tables_1 := lt_1 (List.mem_of_getElem? (i := 140) rfl)
theorem tw1_141 : Cond.instanceMethod ⟨"FusedEngine$Program", "longestRowAt", "(I)I"⟩ ∈ lw_ok := lw_1 (List.mem_of_getElem? (i := 141) rfl) rfl
theorem tw1_142 : Cond.code ⟨"FusedEngine$Program", "longestRowAt", "(I)I"⟩ prog_3_method_11_code 6 (Option.some FieldType.int) ∈ lw_ok := lw_1 (List.mem_of_getElem? (i := 142) rfl) rfl
theorem tw1_143 : Cond.methodLink "FusedEngine$Program" 74 ⟨"FusedEngine$Rows", "letterOf", "(II)I"⟩ ∈ lw_ok := lw_1 (List.mem_of_getElem? (i := 143) rfl) rfl
theorem tw1_144 : Cond.static ⟨"FusedEngine$Rows", "letterOf", "(II)I"⟩ ∈ lw_ok := lw_1 (List.mem_of_getElem? (i := 144) rfl) rfl
theorem tw1_145 : Cond.code ⟨"FusedEngine$Rows", "letterOf", "(II)I"⟩ prog_4_method_2_code 2 (Option.some FieldType.int) ∈ lw_ok := lw_1 (List.mem_of_getElem? (i := 145) rfl) rfl
theorem tw1_146 : Cond.fieldLink "FusedEngine$Rows" 7 "FusedEngine$Rows" "LETTERS" "[C" ∈ lw_ok := lw_1 (List.mem_of_getElem? (i := 146) rfl) rfl
theorem tw1_147 : Cond.laysStatic "FusedEngine$Rows" "LETTERS" "[C" ∈ tables_1 := lt_1 (List.mem_of_getElem? (i := 147) rfl)
theorem tw1_148 : Cond.methodLink "FusedEngine$Program" 69 ⟨"FusedEngine$Rows", "lengthOf", "(I)I"⟩ ∈ lw_ok := lw_1 (List.mem_of_getElem? (i := 148) rfl) rfl
theorem tw1_149 : Cond.static ⟨"FusedEngine$Rows", "lengthOf", "(I)I"⟩ ∈ lw_ok := lw_1 (List.mem_of_getElem? (i := 149) rfl) rfl
theorem tw1_150 : Cond.code ⟨"FusedEngine$Rows", "lengthOf", "(I)I"⟩ prog_4_method_3_code 2 (Option.some FieldType.int) ∈ lw_ok := lw_1 (List.mem_of_getElem? (i := 150) rfl) rfl
theorem tw1_151 : Cond.methodLink "FusedEngine$Rows" 13 ⟨"FusedEngine$Rows", "letterOf", "(II)I"⟩ ∈ lw_ok := lw_1 (List.mem_of_getElem? (i := 151) rfl) rfl
theorem tw1_152 : Cond.methodLink "FusedEngine$Program" 78 ⟨"FusedEngine$Program", "isRowAt", "(III)Z"⟩ ∈ lw_ok := lw_1 (List.mem_of_getElem? (i := 152) rfl) rfl
theorem tw1_153 : Cond.privateMethod ⟨"FusedEngine$Program", "isRowAt", "(III)Z"⟩ ∈ tables_1 := lt_1 (List.mem_of_getElem? (i := 153) rfl)
theorem tw1_154 : Cond.instanceMethod ⟨"FusedEngine$Program", "isRowAt", "(III)Z"⟩ ∈ lw_ok := lw_1 (List.mem_of_getElem? (i := 154) rfl) rfl
theorem tw1_155 : Cond.code ⟨"FusedEngine$Program", "isRowAt", "(III)Z"⟩ prog_3_method_12_code 5 (Option.some FieldType.boolean) ∈ lw_ok := lw_1 (List.mem_of_getElem? (i := 155) rfl) rfl
theorem tw1_156 : Cond.methodLink "FusedEngineLaw" 72 ⟨"FusedEngine", "restart", "()V"⟩ ∈ lw_ok := lw_1 (List.mem_of_getElem? (i := 156) rfl) rfl
theorem tw1_157 : Cond.instanceMethod ⟨"FusedEngine", "restart", "()V"⟩ ∈ lw_ok := lw_1 (List.mem_of_getElem? (i := 157) rfl) rfl
theorem tw1_158 : Cond.selects "FusedEngine" ⟨"FusedEngine", "restart", "()V"⟩ ⟨"FusedEngine", "restart", "()V"⟩ ∈ lw_ok := lw_1 (List.mem_of_getElem? (i := 158) rfl) rfl
theorem tw1_159 : Cond.code ⟨"FusedEngine", "restart", "()V"⟩ prog_1_method_8_code 1 (Option.none : Option FieldType) ∈ lw_ok := lw_1 (List.mem_of_getElem? (i := 159) rfl) rfl
theorem tw1_160 : Cond.methodLink "FusedEngineLaw" 76 ⟨"FusedEngine", "about", "(ZI)I"⟩ ∈ lw_ok := lw_1 (List.mem_of_getElem? (i := 160) rfl) rfl
theorem tw1_161 : Cond.instanceMethod ⟨"FusedEngine", "about", "(ZI)I"⟩ ∈ lw_ok := lw_1 (List.mem_of_getElem? (i := 161) rfl) rfl
theorem tw1_162 : Cond.selects "FusedEngine" ⟨"FusedEngine", "about", "(ZI)I"⟩ ⟨"FusedEngine", "about", "(ZI)I"⟩ ∈ lw_ok := lw_1 (List.mem_of_getElem? (i := 162) rfl) rfl
theorem tw1_163 : Cond.code ⟨"FusedEngine", "about", "(ZI)I"⟩ prog_1_method_9_code 3 (Option.some FieldType.int) ∈ lw_ok := lw_1 (List.mem_of_getElem? (i := 163) rfl) rfl
theorem tw1_164 : Cond.methodLink "FusedEngine" 84 ⟨"FusedEngine", "machineOf", "(Z)LFusedEngine$Machine;"⟩ ∈ lw_ok := lw_1 (List.mem_of_getElem? (i := 164) rfl) rfl
theorem tw1_165 : Cond.privateMethod ⟨"FusedEngine", "machineOf", "(Z)LFusedEngine$Machine;"⟩ ∈ tables_1 := lt_1 (List.mem_of_getElem? (i := 165) rfl)
theorem tw1_166 : Cond.instanceMethod ⟨"FusedEngine", "machineOf", "(Z)LFusedEngine$Machine;"⟩ ∈ lw_ok := lw_1 (List.mem_of_getElem? (i := 166) rfl) rfl
theorem tw1_167 : Cond.code ⟨"FusedEngine", "machineOf", "(Z)LFusedEngine$Machine;"⟩ prog_1_method_13_code 2 (Option.some (FieldType.object "FusedEngine$Machine")) ∈ lw_ok := lw_1 (List.mem_of_getElem? (i := 167) rfl) rfl
theorem tw1_168 : Cond.methodLink "FusedEngine" 92 ⟨"FusedEngine$Machine", "factOf", "(I)I"⟩ ∈ lw_ok := lw_1 (List.mem_of_getElem? (i := 168) rfl) rfl
theorem tw1_169 : Cond.instanceMethod ⟨"FusedEngine$Machine", "factOf", "(I)I"⟩ ∈ lw_ok := lw_1 (List.mem_of_getElem? (i := 169) rfl) rfl
theorem tw1_170 : Cond.selects "FusedEngine$Machine" ⟨"FusedEngine$Machine", "factOf", "(I)I"⟩ ⟨"FusedEngine$Machine", "factOf", "(I)I"⟩ ∈ lw_ok := lw_1 (List.mem_of_getElem? (i := 170) rfl) rfl
theorem tw1_171 : Cond.code ⟨"FusedEngine$Machine", "factOf", "(I)I"⟩ prog_2_method_4_code 2 (Option.some FieldType.int) ∈ lw_ok := lw_1 (List.mem_of_getElem? (i := 171) rfl) rfl
theorem tw1_172 : Cond.methodLink "FusedEngineLaw" 43 ⟨"FusedEngineLaw", "add", "(LFusedEngine;II[J)I"⟩ ∈ lw_ok := lw_1 (List.mem_of_getElem? (i := 172) rfl) rfl
theorem tw1_173 : Cond.static ⟨"FusedEngineLaw", "add", "(LFusedEngine;II[J)I"⟩ ∈ lw_ok := lw_1 (List.mem_of_getElem? (i := 173) rfl) rfl
theorem tw1_174 : Cond.codeWith ⟨"FusedEngineLaw", "add", "(LFusedEngine;II[J)I"⟩ method_3_code 5 (Option.some FieldType.int) [(0, 10, 13, 13), (0, 10, 17, 15)] ∈ lw_ok := lw_1 (List.mem_of_getElem? (i := 174) rfl) rfl
theorem tw1_175 : Cond.classLink "FusedEngineLaw" 13 "java/lang/IllegalArgumentException" ∈ lw_ok := lw_1 (List.mem_of_getElem? (i := 175) rfl) rfl
theorem tw1_176 : Cond.classLink "FusedEngineLaw" 15 "java/lang/IllegalStateException" ∈ lw_ok := lw_1 (List.mem_of_getElem? (i := 176) rfl) rfl
theorem tw1_177 : Cond.methodLink "FusedEngineLaw" 7 ⟨"FusedEngine", "add", "(II)I"⟩ ∈ lw_ok := lw_1 (List.mem_of_getElem? (i := 177) rfl) rfl
theorem tw1_178 : Cond.instanceMethod ⟨"FusedEngine", "add", "(II)I"⟩ ∈ lw_ok := lw_1 (List.mem_of_getElem? (i := 178) rfl) rfl
theorem tw1_179 : Cond.selects "FusedEngine" ⟨"FusedEngine", "add", "(II)I"⟩ ⟨"FusedEngine", "add", "(II)I"⟩ ∈ lw_ok := lw_1 (List.mem_of_getElem? (i := 179) rfl) rfl
theorem tw1_180 : Cond.code ⟨"FusedEngine", "add", "(II)I"⟩ prog_1_method_2_code 4 (Option.some FieldType.int) ∈ lw_ok := lw_1 (List.mem_of_getElem? (i := 180) rfl) rfl
theorem tw1_181 : Cond.methodLink "FusedEngine" 26 ⟨"FusedEngine$Program", "allows", "(II)Z"⟩ ∈ lw_ok := lw_1 (List.mem_of_getElem? (i := 181) rfl) rfl
theorem tw1_182 : Cond.static ⟨"FusedEngine$Program", "allows", "(II)Z"⟩ ∈ lw_ok := lw_1 (List.mem_of_getElem? (i := 182) rfl) rfl
theorem tw1_183 : Cond.code ⟨"FusedEngine$Program", "allows", "(II)Z"⟩ prog_3_method_2_code 3 (Option.some FieldType.boolean) ∈ lw_ok := lw_1 (List.mem_of_getElem? (i := 183) rfl) rfl
theorem tw1_184 : Cond.stringRef "FusedEngine$Program" 30 "PLS+-*/<=DXOVJZCRH" ∈ tables_1 := lt_1 (List.mem_of_getElem? (i := 184) rfl)
theorem tw1_185 : Cond.methodLink "FusedEngine$Program" 32 ⟨"java/lang/String", "length", "()I"⟩ ∈ lw_ok := lw_1 (List.mem_of_getElem? (i := 185) rfl) rfl
theorem tw1_186 : Cond.instanceMethod ⟨"java/lang/String", "length", "()I"⟩ ∈ lw_ok := lw_1 (List.mem_of_getElem? (i := 186) rfl) rfl
theorem tw1_187 : Cond.selects "java/lang/String" ⟨"java/lang/String", "length", "()I"⟩ ⟨"java/lang/String", "length", "()I"⟩ ∈ lw_ok := lw_1 (List.mem_of_getElem? (i := 187) rfl) rfl
theorem tw1_188 : Cond.code ⟨"java/lang/String", "length", "()I"⟩ prog_12_method_54_code 1 (Option.some FieldType.int) ∈ lw_ok := lw_1 (List.mem_of_getElem? (i := 188) rfl) rfl
theorem tw1_189 : Cond.methodLink "java/lang/String" 335 ⟨"java/lang/String", "coder", "()B"⟩ ∈ lw_ok := lw_1 (List.mem_of_getElem? (i := 189) rfl) rfl
theorem tw1_190 : Cond.instanceMethod ⟨"java/lang/String", "coder", "()B"⟩ ∈ lw_ok := lw_1 (List.mem_of_getElem? (i := 190) rfl) rfl
theorem tw1_191 : Cond.selects "java/lang/String" ⟨"java/lang/String", "coder", "()B"⟩ ⟨"java/lang/String", "coder", "()B"⟩ ∈ lw_ok := lw_1 (List.mem_of_getElem? (i := 191) rfl) rfl
theorem tw1_192 : Cond.code ⟨"java/lang/String", "coder", "()B"⟩ prog_12_method_152_code 1 (Option.some FieldType.byte) ∈ lw_ok := lw_1 (List.mem_of_getElem? (i := 192) rfl) rfl
theorem tw1_193 : Cond.fieldLink "java/lang/String" 38 "java/lang/String" "COMPACT_STRINGS" "Z" ∈ lw_ok := lw_1 (List.mem_of_getElem? (i := 193) rfl) rfl
theorem tw1_194 : Cond.laysStatic "java/lang/String" "COMPACT_STRINGS" "Z" ∈ tables_1 := lt_1 (List.mem_of_getElem? (i := 194) rfl)
theorem tw1_195 : Cond.methodLink "FusedEngine$Program" 38 ⟨"java/lang/String", "charAt", "(I)C"⟩ ∈ lw_ok := lw_1 (List.mem_of_getElem? (i := 195) rfl) rfl
theorem tw1_196 : Cond.instanceMethod ⟨"java/lang/String", "charAt", "(I)C"⟩ ∈ lw_ok := lw_1 (List.mem_of_getElem? (i := 196) rfl) rfl
theorem tw1_197 : Cond.selects "java/lang/String" ⟨"java/lang/String", "charAt", "(I)C"⟩ ⟨"java/lang/String", "charAt", "(I)C"⟩ ∈ lw_ok := lw_1 (List.mem_of_getElem? (i := 197) rfl) rfl
theorem tw1_198 : Cond.code ⟨"java/lang/String", "charAt", "(I)C"⟩ prog_12_method_56_code 2 (Option.some FieldType.char) ∈ lw_ok := lw_1 (List.mem_of_getElem? (i := 198) rfl) rfl
theorem tw1_199 : Cond.methodLink "java/lang/String" 492 ⟨"java/lang/String", "isLatin1", "()Z"⟩ ∈ lw_ok := lw_1 (List.mem_of_getElem? (i := 199) rfl) rfl
theorem tw1_200 : Cond.instanceMethod ⟨"java/lang/String", "isLatin1", "()Z"⟩ ∈ lw_ok := lw_1 (List.mem_of_getElem? (i := 200) rfl) rfl
theorem tw1_201 : Cond.selects "java/lang/String" ⟨"java/lang/String", "isLatin1", "()Z"⟩ ⟨"java/lang/String", "isLatin1", "()Z"⟩ ∈ lw_ok := lw_1 (List.mem_of_getElem? (i := 201) rfl) rfl
theorem tw1_202 : Cond.code ⟨"java/lang/String", "isLatin1", "()Z"⟩ prog_12_method_154_code 1 (Option.some FieldType.boolean) ∈ lw_ok := lw_1 (List.mem_of_getElem? (i := 202) rfl) rfl
theorem tw1_203 : Cond.methodLink "java/lang/String" 495 ⟨"java/lang/StringLatin1", "charAt", "([BI)C"⟩ ∈ lw_ok := lw_1 (List.mem_of_getElem? (i := 203) rfl) rfl
theorem tw1_204 : Cond.static ⟨"java/lang/StringLatin1", "charAt", "([BI)C"⟩ ∈ lw_ok := lw_1 (List.mem_of_getElem? (i := 204) rfl) rfl
theorem tw1_205 : Cond.code ⟨"java/lang/StringLatin1", "charAt", "([BI)C"⟩ prog_13_method_2_code 2 (Option.some FieldType.char) ∈ lw_ok := lw_1 (List.mem_of_getElem? (i := 205) rfl) rfl
theorem tw1_206 : Cond.methodLink "java/lang/StringLatin1" 9 ⟨"java/lang/String", "checkIndex", "(II)V"⟩ ∈ lw_ok := lw_1 (List.mem_of_getElem? (i := 206) rfl) rfl
theorem tw1_207 : Cond.static ⟨"java/lang/String", "checkIndex", "(II)V"⟩ ∈ lw_ok := lw_1 (List.mem_of_getElem? (i := 207) rfl) rfl
theorem tw1_208 : Cond.code ⟨"java/lang/String", "checkIndex", "(II)V"⟩ prog_12_method_155_code 2 (Option.none : Option FieldType) ∈ lw_ok := lw_1 (List.mem_of_getElem? (i := 208) rfl) rfl
theorem tw1_209 : Cond.fieldLink "java/lang/String" 1053 "jdk/internal/util/Preconditions" "SIOOBE_FORMATTER" "Ljava/util/function/BiFunction;" ∈ lw_ok := lw_1 (List.mem_of_getElem? (i := 209) rfl) rfl
theorem tw1_210 : Cond.laysStatic "jdk/internal/util/Preconditions" "SIOOBE_FORMATTER" "Ljava/util/function/BiFunction;" ∈ tables_1 := lt_1 (List.mem_of_getElem? (i := 210) rfl)
theorem tw1_211 : Cond.methodLink "java/lang/String" 1059 ⟨"jdk/internal/util/Preconditions", "checkIndex", "(IILjava/util/function/BiFunction;)I"⟩ ∈ lw_ok := lw_1 (List.mem_of_getElem? (i := 211) rfl) rfl
theorem tw1_212 : Cond.static ⟨"jdk/internal/util/Preconditions", "checkIndex", "(IILjava/util/function/BiFunction;)I"⟩ ∈ lw_ok := lw_1 (List.mem_of_getElem? (i := 212) rfl) rfl
theorem tw1_213 : Cond.code ⟨"jdk/internal/util/Preconditions", "checkIndex", "(IILjava/util/function/BiFunction;)I"⟩ prog_18_method_11_code 3 (Option.some FieldType.int) ∈ lw_ok := lw_1 (List.mem_of_getElem? (i := 213) rfl) rfl
theorem tw1_214 : Cond.methodLink "java/lang/String" 498 ⟨"java/lang/StringUTF16", "charAt", "([BI)C"⟩ ∈ lw_ok := lw_1 (List.mem_of_getElem? (i := 214) rfl) rfl
theorem tw1_215 : Cond.static ⟨"java/lang/StringUTF16", "charAt", "([BI)C"⟩ ∈ lw_ok := lw_1 (List.mem_of_getElem? (i := 215) rfl) rfl
theorem tw1_216 : Cond.code ⟨"java/lang/StringUTF16", "charAt", "([BI)C"⟩ prog_14_method_83_code 2 (Option.some FieldType.char) ∈ lw_ok := lw_1 (List.mem_of_getElem? (i := 216) rfl) rfl
theorem tw1_217 : Cond.methodLink "java/lang/StringUTF16" 67 ⟨"java/lang/StringUTF16", "checkIndex", "(I[B)V"⟩ ∈ lw_ok := lw_1 (List.mem_of_getElem? (i := 217) rfl) rfl
theorem tw1_218 : Cond.static ⟨"java/lang/StringUTF16", "checkIndex", "(I[B)V"⟩ ∈ lw_ok := lw_1 (List.mem_of_getElem? (i := 218) rfl) rfl
theorem tw1_219 : Cond.code ⟨"java/lang/StringUTF16", "checkIndex", "(I[B)V"⟩ prog_14_method_91_code 2 (Option.none : Option FieldType) ∈ lw_ok := lw_1 (List.mem_of_getElem? (i := 219) rfl) rfl
theorem tw1_220 : Cond.methodLink "java/lang/StringUTF16" 48 ⟨"java/lang/StringUTF16", "length", "([B)I"⟩ ∈ lw_ok := lw_1 (List.mem_of_getElem? (i := 220) rfl) rfl
theorem tw1_221 : Cond.static ⟨"java/lang/StringUTF16", "length", "([B)I"⟩ ∈ lw_ok := lw_1 (List.mem_of_getElem? (i := 221) rfl) rfl
theorem tw1_222 : Cond.code ⟨"java/lang/StringUTF16", "length", "([B)I"⟩ prog_14_method_6_code 1 (Option.some FieldType.int) ∈ lw_ok := lw_1 (List.mem_of_getElem? (i := 222) rfl) rfl
theorem tw1_223 : Cond.methodLink "java/lang/StringUTF16" 414 ⟨"java/lang/String", "checkIndex", "(II)V"⟩ ∈ lw_ok := lw_1 (List.mem_of_getElem? (i := 223) rfl) rfl
theorem tw1_224 : Cond.methodLink "java/lang/StringUTF16" 71 ⟨"java/lang/StringUTF16", "getChar", "([BI)C"⟩ ∈ lw_ok := lw_1 (List.mem_of_getElem? (i := 224) rfl) rfl
theorem tw1_225 : Cond.static ⟨"java/lang/StringUTF16", "getChar", "([BI)C"⟩ ∈ lw_ok := lw_1 (List.mem_of_getElem? (i := 225) rfl) rfl
theorem tw1_226 : Cond.code ⟨"java/lang/StringUTF16", "getChar", "([BI)C"⟩ prog_14_method_5_code 2 (Option.some FieldType.char) ∈ lw_ok := lw_1 (List.mem_of_getElem? (i := 226) rfl) rfl
theorem tw1_227 : Cond.fieldLink "java/lang/StringUTF16" 44 "java/lang/StringUTF16" "$assertionsDisabled" "Z" ∈ lw_ok := lw_1 (List.mem_of_getElem? (i := 227) rfl) rfl
theorem tw1_228 : Cond.laysStatic "java/lang/StringUTF16" "$assertionsDisabled" "Z" ∈ tables_1 := lt_1 (List.mem_of_getElem? (i := 228) rfl)
theorem tw1_229 : Cond.fieldLink "java/lang/StringUTF16" 59 "java/lang/StringUTF16" "HI_BYTE_SHIFT" "I" ∈ lw_ok := lw_1 (List.mem_of_getElem? (i := 229) rfl) rfl
theorem tw1_230 : Cond.laysStatic "java/lang/StringUTF16" "HI_BYTE_SHIFT" "I" ∈ tables_1 := lt_1 (List.mem_of_getElem? (i := 230) rfl)
theorem tw1_231 : Cond.fieldLink "java/lang/StringUTF16" 63 "java/lang/StringUTF16" "LO_BYTE_SHIFT" "I" ∈ lw_ok := lw_1 (List.mem_of_getElem? (i := 231) rfl) rfl
theorem tw1_232 : Cond.laysStatic "java/lang/StringUTF16" "LO_BYTE_SHIFT" "I" ∈ tables_1 := lt_1 (List.mem_of_getElem? (i := 232) rfl)
theorem tw1_233 : Cond.classLink "FusedEngine" 30 "java/lang/IllegalArgumentException" ∈ lw_ok := lw_1 (List.mem_of_getElem? (i := 233) rfl) rfl
theorem tw1_234 : Cond.instantiable "java/lang/IllegalArgumentException" 6 ∈ lw_ok := lw_1 (List.mem_of_getElem? (i := 234) rfl) rfl
theorem tw1_235 : Cond.castable "java/lang/IllegalArgumentException" "java/lang/IllegalArgumentException" ∈ tables_1 := lt_1 (List.mem_of_getElem? (i := 235) rfl)
theorem tw1_236 : Cond.declares ⟨"java/lang/RuntimeException", "<init>", "()V"⟩ ∈ tables_1 := lt_1 (List.mem_of_getElem? (i := 236) rfl)
theorem tw1_237 : Cond.declares ⟨"java/lang/RuntimeException", "<init>", "(Ljava/lang/String;)V"⟩ ∈ tables_1 := lt_1 (List.mem_of_getElem? (i := 237) rfl)
theorem tw1_238 : Cond.declares ⟨"java/lang/Exception", "<init>", "()V"⟩ ∈ tables_1 := lt_1 (List.mem_of_getElem? (i := 238) rfl)
theorem tw1_239 : Cond.declares ⟨"java/lang/Exception", "<init>", "(Ljava/lang/String;)V"⟩ ∈ tables_1 := lt_1 (List.mem_of_getElem? (i := 239) rfl)
theorem tw2_0 : Cond.declares ⟨"java/lang/Throwable", "<init>", "()V"⟩ ∈ tables_1 := lt_2 (List.mem_of_getElem? (i := 0) rfl)
theorem tw2_1 : Cond.declares ⟨"java/lang/Throwable", "<init>", "(Ljava/lang/String;)V"⟩ ∈ tables_1 := lt_2 (List.mem_of_getElem? (i := 1) rfl)
theorem tw2_2 : Cond.selects "java/lang/IllegalArgumentException" ⟨"java/lang/Throwable", "fillInStackTrace", "(I)Ljava/lang/Throwable;"⟩ ⟨"java/lang/Throwable", "fillInStackTrace", "(I)Ljava/lang/Throwable;"⟩ ∈ lw_ok := lw_2 (List.mem_of_getElem? (i := 2) rfl) rfl
theorem tw2_3 : Cond.selects "java/lang/IllegalArgumentException" ⟨"java/lang/Throwable", "fillInStackTrace", "()Ljava/lang/Throwable;"⟩ ⟨"java/lang/Throwable", "fillInStackTrace", "()Ljava/lang/Throwable;"⟩ ∈ lw_ok := lw_2 (List.mem_of_getElem? (i := 3) rfl) rfl
theorem tw2_4 : Cond.lays "java/lang/IllegalArgumentException" "java/lang/Throwable" "cause" "Ljava/lang/Throwable;" ∈ lw_ok := lw_2 (List.mem_of_getElem? (i := 4) rfl) rfl
theorem tw2_5 : Cond.lays "java/lang/Throwable" "java/lang/Throwable" "cause" "Ljava/lang/Throwable;" ∈ lw_ok := lw_2 (List.mem_of_getElem? (i := 5) rfl) rfl
theorem tw2_6 : Cond.lays "java/lang/IllegalArgumentException" "java/lang/Throwable" "stackTrace" "[Ljava/lang/StackTraceElement;" ∈ lw_ok := lw_2 (List.mem_of_getElem? (i := 6) rfl) rfl
theorem tw2_7 : Cond.lays "java/lang/Throwable" "java/lang/Throwable" "stackTrace" "[Ljava/lang/StackTraceElement;" ∈ lw_ok := lw_2 (List.mem_of_getElem? (i := 7) rfl) rfl
theorem tw2_8 : Cond.lays "java/lang/IllegalArgumentException" "java/lang/Throwable" "suppressedExceptions" "Ljava/util/List;" ∈ lw_ok := lw_2 (List.mem_of_getElem? (i := 8) rfl) rfl
theorem tw2_9 : Cond.lays "java/lang/Throwable" "java/lang/Throwable" "suppressedExceptions" "Ljava/util/List;" ∈ lw_ok := lw_2 (List.mem_of_getElem? (i := 9) rfl) rfl
theorem tw2_10 : Cond.lays "java/lang/IllegalArgumentException" "java/lang/Throwable" "detailMessage" "Ljava/lang/String;" ∈ lw_ok := lw_2 (List.mem_of_getElem? (i := 10) rfl) rfl
theorem tw2_11 : Cond.lays "java/lang/Throwable" "java/lang/Throwable" "detailMessage" "Ljava/lang/String;" ∈ lw_ok := lw_2 (List.mem_of_getElem? (i := 11) rfl) rfl
theorem tw2_12 : Cond.lays "java/lang/IllegalArgumentException" "java/lang/Throwable" "backtrace" "Ljava/lang/Object;" ∈ lw_ok := lw_2 (List.mem_of_getElem? (i := 12) rfl) rfl
theorem tw2_13 : Cond.lays "java/lang/Throwable" "java/lang/Throwable" "backtrace" "Ljava/lang/Object;" ∈ lw_ok := lw_2 (List.mem_of_getElem? (i := 13) rfl) rfl
theorem tw2_14 : Cond.fieldLink "java/lang/Throwable" 198 "java/lang/Throwable" "backtrace" "Ljava/lang/Object;" ∈ lw_ok := lw_2 (List.mem_of_getElem? (i := 14) rfl) rfl
theorem tw2_15 : Cond.superclass "java/lang/Throwable" "java/lang/Object" ∈ lw_ok := lw_2 (List.mem_of_getElem? (i := 15) rfl) rfl
theorem tw2_16 : Cond.instanceMethod ⟨"java/lang/Throwable", "<init>", "()V"⟩ ∈ lw_ok := lw_2 (List.mem_of_getElem? (i := 16) rfl) rfl
theorem tw2_17 : Cond.code ⟨"java/lang/Throwable", "<init>", "()V"⟩ prog_15_method_1_code 1 (Option.none : Option FieldType) ∈ lw_ok := lw_2 (List.mem_of_getElem? (i := 17) rfl) rfl
theorem tw2_18 : Cond.methodLink "java/lang/Throwable" 1 ⟨"java/lang/Object", "<init>", "()V"⟩ ∈ lw_ok := lw_2 (List.mem_of_getElem? (i := 18) rfl) rfl
theorem tw2_19 : Cond.fieldLink "java/lang/Throwable" 13 "java/lang/Throwable" "UNASSIGNED_STACK" "[Ljava/lang/StackTraceElement;" ∈ lw_ok := lw_2 (List.mem_of_getElem? (i := 19) rfl) rfl
theorem tw2_20 : Cond.laysStatic "java/lang/Throwable" "UNASSIGNED_STACK" "[Ljava/lang/StackTraceElement;" ∈ tables_1 := lt_2 (List.mem_of_getElem? (i := 20) rfl)
theorem tw2_21 : Cond.fieldLink "java/lang/Throwable" 20 "java/lang/Throwable" "SUPPRESSED_SENTINEL" "Ljava/util/List;" ∈ lw_ok := lw_2 (List.mem_of_getElem? (i := 21) rfl) rfl
theorem tw2_22 : Cond.laysStatic "java/lang/Throwable" "SUPPRESSED_SENTINEL" "Ljava/util/List;" ∈ tables_1 := lt_2 (List.mem_of_getElem? (i := 22) rfl)
theorem tw2_23 : Cond.methodLink "java/lang/Throwable" 27 ⟨"java/lang/Throwable", "fillInStackTrace", "()Ljava/lang/Throwable;"⟩ ∈ lw_ok := lw_2 (List.mem_of_getElem? (i := 23) rfl) rfl
theorem tw2_24 : Cond.instanceMethod ⟨"java/lang/Throwable", "fillInStackTrace", "()Ljava/lang/Throwable;"⟩ ∈ lw_ok := lw_2 (List.mem_of_getElem? (i := 24) rfl) rfl
theorem tw2_25 : Cond.sameMethod "java/lang/Throwable" "java/lang/Throwable" "fillInStackTrace" "()Ljava/lang/Throwable;" ∈ lw_ok := lw_2 (List.mem_of_getElem? (i := 25) rfl) rfl
theorem tw2_26 : Cond.selects "java/lang/IllegalStateException" ⟨"java/lang/Throwable", "fillInStackTrace", "()Ljava/lang/Throwable;"⟩ ⟨"java/lang/Throwable", "fillInStackTrace", "()Ljava/lang/Throwable;"⟩ ∈ lw_ok := lw_2 (List.mem_of_getElem? (i := 26) rfl) rfl
theorem tw2_27 : Cond.selects "java/util/NoSuchElementException" ⟨"java/lang/Throwable", "fillInStackTrace", "()Ljava/lang/Throwable;"⟩ ⟨"java/lang/Throwable", "fillInStackTrace", "()Ljava/lang/Throwable;"⟩ ∈ lw_ok := lw_2 (List.mem_of_getElem? (i := 27) rfl) rfl
theorem tw2_28 : Cond.codeSync ⟨"java/lang/Throwable", "fillInStackTrace", "()Ljava/lang/Throwable;"⟩ prog_15_method_18_code 1 (Option.some (FieldType.object "java/lang/Throwable")) ∈ lw_ok := lw_2 (List.mem_of_getElem? (i := 28) rfl) rfl
theorem tw2_29 : Cond.methodLink "java/lang/Throwable" 202 ⟨"java/lang/Throwable", "fillInStackTrace", "(I)Ljava/lang/Throwable;"⟩ ∈ lw_ok := lw_2 (List.mem_of_getElem? (i := 29) rfl) rfl
theorem tw2_30 : Cond.privateMethod ⟨"java/lang/Throwable", "fillInStackTrace", "(I)Ljava/lang/Throwable;"⟩ ∈ tables_1 := lt_2 (List.mem_of_getElem? (i := 30) rfl)
theorem tw2_31 : Cond.instanceMethod ⟨"java/lang/Throwable", "fillInStackTrace", "(I)Ljava/lang/Throwable;"⟩ ∈ lw_ok := lw_2 (List.mem_of_getElem? (i := 31) rfl) rfl
theorem tw2_32 : Cond.instantiable "java/lang/Throwable" 6 ∈ lw_ok := lw_2 (List.mem_of_getElem? (i := 32) rfl) rfl
theorem tw2_33 : Cond.native ⟨"java/lang/Throwable", "fillInStackTrace", "(I)Ljava/lang/Throwable;"⟩ ∈ lw_ok := lw_2 (List.mem_of_getElem? (i := 33) rfl) rfl
theorem tw2_34 : Cond.stringRef "FusedEngine" 32 "no such instruction" ∈ tables_1 := lt_2 (List.mem_of_getElem? (i := 34) rfl)
theorem tw2_35 : Cond.methodLink "FusedEngine" 34 ⟨"java/lang/IllegalArgumentException", "<init>", "(Ljava/lang/String;)V"⟩ ∈ lw_ok := lw_2 (List.mem_of_getElem? (i := 35) rfl) rfl
theorem tw2_36 : Cond.instanceMethod ⟨"java/lang/IllegalArgumentException", "<init>", "(Ljava/lang/String;)V"⟩ ∈ lw_ok := lw_2 (List.mem_of_getElem? (i := 36) rfl) rfl
theorem tw2_37 : Cond.code ⟨"java/lang/IllegalArgumentException", "<init>", "(Ljava/lang/String;)V"⟩ prog_8_method_2_code 2 (Option.none : Option FieldType) ∈ lw_ok := lw_2 (List.mem_of_getElem? (i := 37) rfl) rfl
theorem tw2_38 : Cond.methodLink "java/lang/IllegalArgumentException" 7 ⟨"java/lang/RuntimeException", "<init>", "(Ljava/lang/String;)V"⟩ ∈ lw_ok := lw_2 (List.mem_of_getElem? (i := 38) rfl) rfl
theorem tw2_39 : Cond.instanceMethod ⟨"java/lang/RuntimeException", "<init>", "(Ljava/lang/String;)V"⟩ ∈ lw_ok := lw_2 (List.mem_of_getElem? (i := 39) rfl) rfl
theorem tw2_40 : Cond.code ⟨"java/lang/RuntimeException", "<init>", "(Ljava/lang/String;)V"⟩ prog_11_method_2_code 2 (Option.none : Option FieldType) ∈ lw_ok := lw_2 (List.mem_of_getElem? (i := 40) rfl) rfl
theorem tw2_41 : Cond.methodLink "java/lang/RuntimeException" 7 ⟨"java/lang/Exception", "<init>", "(Ljava/lang/String;)V"⟩ ∈ lw_ok := lw_2 (List.mem_of_getElem? (i := 41) rfl) rfl
theorem tw2_42 : Cond.instanceMethod ⟨"java/lang/Exception", "<init>", "(Ljava/lang/String;)V"⟩ ∈ lw_ok := lw_2 (List.mem_of_getElem? (i := 42) rfl) rfl
theorem tw2_43 : Cond.code ⟨"java/lang/Exception", "<init>", "(Ljava/lang/String;)V"⟩ prog_7_method_2_code 2 (Option.none : Option FieldType) ∈ lw_ok := lw_2 (List.mem_of_getElem? (i := 43) rfl) rfl
theorem tw2_44 : Cond.methodLink "java/lang/Exception" 7 ⟨"java/lang/Throwable", "<init>", "(Ljava/lang/String;)V"⟩ ∈ lw_ok := lw_2 (List.mem_of_getElem? (i := 44) rfl) rfl
theorem tw2_45 : Cond.instanceMethod ⟨"java/lang/Throwable", "<init>", "(Ljava/lang/String;)V"⟩ ∈ lw_ok := lw_2 (List.mem_of_getElem? (i := 45) rfl) rfl
theorem tw2_46 : Cond.code ⟨"java/lang/Throwable", "<init>", "(Ljava/lang/String;)V"⟩ prog_15_method_2_code 2 (Option.none : Option FieldType) ∈ lw_ok := lw_2 (List.mem_of_getElem? (i := 46) rfl) rfl
theorem tw2_48 : Cond.fieldLink "java/lang/Throwable" 31 "java/lang/Throwable" "detailMessage" "Ljava/lang/String;" ∈ lw_ok := lw_2 (List.mem_of_getElem? (i := 48) rfl) rfl
theorem tw2_49 : Cond.fieldLink "java/lang/Throwable" 7 "java/lang/Throwable" "cause" "Ljava/lang/Throwable;" ∈ lw_ok := lw_2 (List.mem_of_getElem? (i := 49) rfl) rfl
theorem tw2_50 : Cond.fieldLink "java/lang/Throwable" 17 "java/lang/Throwable" "stackTrace" "[Ljava/lang/StackTraceElement;" ∈ lw_ok := lw_2 (List.mem_of_getElem? (i := 50) rfl) rfl
theorem tw2_51 : Cond.fieldLink "java/lang/Throwable" 24 "java/lang/Throwable" "suppressedExceptions" "Ljava/util/List;" ∈ lw_ok := lw_2 (List.mem_of_getElem? (i := 51) rfl) rfl
theorem tw2_52 : Cond.soleField "java/lang/Throwable" "backtrace" ∈ lw_ok := lw_2 (List.mem_of_getElem? (i := 52) rfl) rfl
theorem tw2_53 : Cond.soleField "java/lang/Throwable" "detailMessage" ∈ lw_ok := lw_2 (List.mem_of_getElem? (i := 53) rfl) rfl
theorem tw2_54 : Cond.soleField "java/lang/Throwable" "cause" ∈ lw_ok := lw_2 (List.mem_of_getElem? (i := 54) rfl) rfl
theorem tw2_55 : Cond.soleField "java/lang/Throwable" "stackTrace" ∈ lw_ok := lw_2 (List.mem_of_getElem? (i := 55) rfl) rfl
theorem tw2_56 : Cond.lays "java/lang/IllegalArgumentException" "java/lang/Throwable" "depth" "I" ∈ lw_ok := lw_2 (List.mem_of_getElem? (i := 56) rfl) rfl
theorem tw2_57 : Cond.soleField "java/lang/Throwable" "depth" ∈ lw_ok := lw_2 (List.mem_of_getElem? (i := 57) rfl) rfl
theorem tw2_58 : Cond.soleField "java/lang/Throwable" "suppressedExceptions" ∈ lw_ok := lw_2 (List.mem_of_getElem? (i := 58) rfl) rfl
theorem tw2_59 : Cond.superclass "java/lang/IllegalArgumentException" "java/lang/RuntimeException" ∈ lw_ok := lw_2 (List.mem_of_getElem? (i := 59) rfl) rfl
theorem tw2_60 : Cond.arrayClass FieldType.byte ∈ lw_ok := lw_2 (List.mem_of_getElem? (i := 60) rfl) rfl
theorem tw2_61 : Cond.classLink "FusedEngine" 41 "java/lang/IllegalStateException" ∈ lw_ok := lw_2 (List.mem_of_getElem? (i := 61) rfl) rfl
theorem tw2_62 : Cond.instantiable "java/lang/IllegalStateException" 6 ∈ lw_ok := lw_2 (List.mem_of_getElem? (i := 62) rfl) rfl
theorem tw2_63 : Cond.castable "java/lang/IllegalStateException" "java/lang/IllegalStateException" ∈ tables_1 := lt_2 (List.mem_of_getElem? (i := 63) rfl)
theorem tw2_64 : Cond.selects "java/lang/IllegalStateException" ⟨"java/lang/Throwable", "fillInStackTrace", "(I)Ljava/lang/Throwable;"⟩ ⟨"java/lang/Throwable", "fillInStackTrace", "(I)Ljava/lang/Throwable;"⟩ ∈ lw_ok := lw_2 (List.mem_of_getElem? (i := 64) rfl) rfl
theorem tw2_65 : Cond.lays "java/lang/IllegalStateException" "java/lang/Throwable" "cause" "Ljava/lang/Throwable;" ∈ lw_ok := lw_2 (List.mem_of_getElem? (i := 65) rfl) rfl
theorem tw2_66 : Cond.lays "java/lang/IllegalStateException" "java/lang/Throwable" "stackTrace" "[Ljava/lang/StackTraceElement;" ∈ lw_ok := lw_2 (List.mem_of_getElem? (i := 66) rfl) rfl
theorem tw2_67 : Cond.lays "java/lang/IllegalStateException" "java/lang/Throwable" "suppressedExceptions" "Ljava/util/List;" ∈ lw_ok := lw_2 (List.mem_of_getElem? (i := 67) rfl) rfl
theorem tw2_68 : Cond.lays "java/lang/IllegalStateException" "java/lang/Throwable" "detailMessage" "Ljava/lang/String;" ∈ lw_ok := lw_2 (List.mem_of_getElem? (i := 68) rfl) rfl
theorem tw2_69 : Cond.lays "java/lang/IllegalStateException" "java/lang/Throwable" "backtrace" "Ljava/lang/Object;" ∈ lw_ok := lw_2 (List.mem_of_getElem? (i := 69) rfl) rfl
theorem tw2_70 : Cond.stringRef "FusedEngine" 43 "the program is full" ∈ tables_1 := lt_2 (List.mem_of_getElem? (i := 70) rfl)
theorem tw2_71 : Cond.methodLink "FusedEngine" 45 ⟨"java/lang/IllegalStateException", "<init>", "(Ljava/lang/String;)V"⟩ ∈ lw_ok := lw_2 (List.mem_of_getElem? (i := 71) rfl) rfl
theorem tw2_72 : Cond.instanceMethod ⟨"java/lang/IllegalStateException", "<init>", "(Ljava/lang/String;)V"⟩ ∈ lw_ok := lw_2 (List.mem_of_getElem? (i := 72) rfl) rfl
theorem tw2_73 : Cond.code ⟨"java/lang/IllegalStateException", "<init>", "(Ljava/lang/String;)V"⟩ prog_9_method_2_code 2 (Option.none : Option FieldType) ∈ lw_ok := lw_2 (List.mem_of_getElem? (i := 73) rfl) rfl
theorem tw2_74 : Cond.methodLink "java/lang/IllegalStateException" 7 ⟨"java/lang/RuntimeException", "<init>", "(Ljava/lang/String;)V"⟩ ∈ lw_ok := lw_2 (List.mem_of_getElem? (i := 74) rfl) rfl
theorem tw2_75 : Cond.lays "java/lang/IllegalStateException" "java/lang/Throwable" "depth" "I" ∈ lw_ok := lw_2 (List.mem_of_getElem? (i := 75) rfl) rfl
theorem tw2_76 : Cond.superclass "java/lang/IllegalStateException" "java/lang/RuntimeException" ∈ lw_ok := lw_2 (List.mem_of_getElem? (i := 76) rfl) rfl
theorem tw2_77 : Cond.methodLink "FusedEngine" 46 ⟨"FusedEngine$Program", "append", "(II)I"⟩ ∈ lw_ok := lw_2 (List.mem_of_getElem? (i := 77) rfl) rfl
theorem tw2_78 : Cond.instanceMethod ⟨"FusedEngine$Program", "append", "(II)I"⟩ ∈ lw_ok := lw_2 (List.mem_of_getElem? (i := 78) rfl) rfl
theorem tw2_79 : Cond.selects "FusedEngine$Program" ⟨"FusedEngine$Program", "append", "(II)I"⟩ ⟨"FusedEngine$Program", "append", "(II)I"⟩ ∈ lw_ok := lw_2 (List.mem_of_getElem? (i := 79) rfl) rfl
theorem tw2_80 : Cond.code ⟨"FusedEngine$Program", "append", "(II)I"⟩ prog_3_method_4_code 4 (Option.some FieldType.int) ∈ lw_ok := lw_2 (List.mem_of_getElem? (i := 80) rfl) rfl
theorem tw2_81 : Cond.methodLink "FusedEngine$Program" 46 ⟨"FusedEngine$Program", "replace", "(III)V"⟩ ∈ lw_ok := lw_2 (List.mem_of_getElem? (i := 81) rfl) rfl
theorem tw2_82 : Cond.instanceMethod ⟨"FusedEngine$Program", "replace", "(III)V"⟩ ∈ lw_ok := lw_2 (List.mem_of_getElem? (i := 82) rfl) rfl
theorem tw2_83 : Cond.selects "FusedEngine$Program" ⟨"FusedEngine$Program", "replace", "(III)V"⟩ ⟨"FusedEngine$Program", "replace", "(III)V"⟩ ∈ lw_ok := lw_2 (List.mem_of_getElem? (i := 83) rfl) rfl
theorem tw2_84 : Cond.code ⟨"FusedEngine$Program", "replace", "(III)V"⟩ prog_3_method_5_code 4 (Option.none : Option FieldType) ∈ lw_ok := lw_2 (List.mem_of_getElem? (i := 84) rfl) rfl
theorem tw2_85 : Cond.methodLink "FusedEngine$Program" 54 ⟨"FusedEngine$Program", "findTargets", "()V"⟩ ∈ lw_ok := lw_2 (List.mem_of_getElem? (i := 85) rfl) rfl
theorem tw2_86 : Cond.privateMethod ⟨"FusedEngine$Program", "findTargets", "()V"⟩ ∈ tables_1 := lt_2 (List.mem_of_getElem? (i := 86) rfl)
theorem tw2_87 : Cond.instanceMethod ⟨"FusedEngine$Program", "findTargets", "()V"⟩ ∈ lw_ok := lw_2 (List.mem_of_getElem? (i := 87) rfl) rfl
theorem tw2_88 : Cond.code ⟨"FusedEngine$Program", "findTargets", "()V"⟩ prog_3_method_8_code 3 (Option.none : Option FieldType) ∈ lw_ok := lw_2 (List.mem_of_getElem? (i := 88) rfl) rfl
theorem tw2_89 : Cond.methodLink "FusedEngine$Program" 57 ⟨"FusedEngine$Program", "markTarget", "(I)V"⟩ ∈ lw_ok := lw_2 (List.mem_of_getElem? (i := 89) rfl) rfl
theorem tw2_90 : Cond.privateMethod ⟨"FusedEngine$Program", "markTarget", "(I)V"⟩ ∈ tables_1 := lt_2 (List.mem_of_getElem? (i := 90) rfl)
theorem tw2_91 : Cond.instanceMethod ⟨"FusedEngine$Program", "markTarget", "(I)V"⟩ ∈ lw_ok := lw_2 (List.mem_of_getElem? (i := 91) rfl) rfl
theorem tw2_92 : Cond.code ⟨"FusedEngine$Program", "markTarget", "(I)V"⟩ prog_3_method_9_code 2 (Option.none : Option FieldType) ∈ lw_ok := lw_2 (List.mem_of_getElem? (i := 92) rfl) rfl
theorem tw2_93 : Cond.methodLink "FusedEngine$Program" 61 ⟨"FusedEngine$Program", "has", "(I)Z"⟩ ∈ lw_ok := lw_2 (List.mem_of_getElem? (i := 93) rfl) rfl
theorem tw2_94 : Cond.instanceMethod ⟨"FusedEngine$Program", "has", "(I)Z"⟩ ∈ lw_ok := lw_2 (List.mem_of_getElem? (i := 94) rfl) rfl
theorem tw2_95 : Cond.selects "FusedEngine$Program" ⟨"FusedEngine$Program", "has", "(I)Z"⟩ ⟨"FusedEngine$Program", "has", "(I)Z"⟩ ∈ lw_ok := lw_2 (List.mem_of_getElem? (i := 95) rfl) rfl
theorem tw2_96 : Cond.code ⟨"FusedEngine$Program", "has", "(I)Z"⟩ prog_3_method_3_code 2 (Option.some FieldType.boolean) ∈ lw_ok := lw_2 (List.mem_of_getElem? (i := 96) rfl) rfl
theorem tw2_97 : Cond.methodLink "FusedEngineLaw" 53 ⟨"FusedEngineLaw", "change", "(LFusedEngine;III)I"⟩ ∈ lw_ok := lw_2 (List.mem_of_getElem? (i := 97) rfl) rfl
theorem tw2_98 : Cond.static ⟨"FusedEngineLaw", "change", "(LFusedEngine;III)I"⟩ ∈ lw_ok := lw_2 (List.mem_of_getElem? (i := 98) rfl) rfl
theorem tw2_99 : Cond.codeWith ⟨"FusedEngineLaw", "change", "(LFusedEngine;III)I"⟩ method_4_code 5 (Option.some FieldType.int) [(0, 7, 10, 21), (0, 7, 14, 13)] ∈ lw_ok := lw_2 (List.mem_of_getElem? (i := 99) rfl) rfl
theorem tw2_100 : Cond.classLink "FusedEngineLaw" 21 "java/util/NoSuchElementException" ∈ lw_ok := lw_2 (List.mem_of_getElem? (i := 100) rfl) rfl
theorem tw2_101 : Cond.methodLink "FusedEngineLaw" 17 ⟨"FusedEngine", "change", "(III)V"⟩ ∈ lw_ok := lw_2 (List.mem_of_getElem? (i := 101) rfl) rfl
theorem tw2_102 : Cond.instanceMethod ⟨"FusedEngine", "change", "(III)V"⟩ ∈ lw_ok := lw_2 (List.mem_of_getElem? (i := 102) rfl) rfl
theorem tw2_103 : Cond.selects "FusedEngine" ⟨"FusedEngine", "change", "(III)V"⟩ ⟨"FusedEngine", "change", "(III)V"⟩ ∈ lw_ok := lw_2 (List.mem_of_getElem? (i := 103) rfl) rfl
theorem tw2_104 : Cond.code ⟨"FusedEngine", "change", "(III)V"⟩ prog_1_method_3_code 4 (Option.none : Option FieldType) ∈ lw_ok := lw_2 (List.mem_of_getElem? (i := 104) rfl) rfl
theorem tw2_105 : Cond.methodLink "FusedEngine" 53 ⟨"FusedEngine$Program", "has", "(I)Z"⟩ ∈ lw_ok := lw_2 (List.mem_of_getElem? (i := 105) rfl) rfl
theorem tw2_106 : Cond.classLink "FusedEngine" 57 "java/util/NoSuchElementException" ∈ lw_ok := lw_2 (List.mem_of_getElem? (i := 106) rfl) rfl
theorem tw2_107 : Cond.instantiable "java/util/NoSuchElementException" 6 ∈ lw_ok := lw_2 (List.mem_of_getElem? (i := 107) rfl) rfl
theorem tw2_108 : Cond.castable "java/util/NoSuchElementException" "java/util/NoSuchElementException" ∈ tables_1 := lt_2 (List.mem_of_getElem? (i := 108) rfl)
theorem tw2_109 : Cond.selects "java/util/NoSuchElementException" ⟨"java/lang/Throwable", "fillInStackTrace", "(I)Ljava/lang/Throwable;"⟩ ⟨"java/lang/Throwable", "fillInStackTrace", "(I)Ljava/lang/Throwable;"⟩ ∈ lw_ok := lw_2 (List.mem_of_getElem? (i := 109) rfl) rfl
theorem tw2_110 : Cond.lays "java/util/NoSuchElementException" "java/lang/Throwable" "cause" "Ljava/lang/Throwable;" ∈ lw_ok := lw_2 (List.mem_of_getElem? (i := 110) rfl) rfl
theorem tw2_111 : Cond.lays "java/util/NoSuchElementException" "java/lang/Throwable" "stackTrace" "[Ljava/lang/StackTraceElement;" ∈ lw_ok := lw_2 (List.mem_of_getElem? (i := 111) rfl) rfl
theorem tw2_112 : Cond.lays "java/util/NoSuchElementException" "java/lang/Throwable" "suppressedExceptions" "Ljava/util/List;" ∈ lw_ok := lw_2 (List.mem_of_getElem? (i := 112) rfl) rfl
theorem tw2_113 : Cond.lays "java/util/NoSuchElementException" "java/lang/Throwable" "detailMessage" "Ljava/lang/String;" ∈ lw_ok := lw_2 (List.mem_of_getElem? (i := 113) rfl) rfl
theorem tw2_114 : Cond.lays "java/util/NoSuchElementException" "java/lang/Throwable" "backtrace" "Ljava/lang/Object;" ∈ lw_ok := lw_2 (List.mem_of_getElem? (i := 114) rfl) rfl
theorem tw2_115 : Cond.stringRef "FusedEngine" 59 "no such place" ∈ tables_1 := lt_2 (List.mem_of_getElem? (i := 115) rfl)
theorem tw2_116 : Cond.methodLink "FusedEngine" 61 ⟨"java/util/NoSuchElementException", "<init>", "(Ljava/lang/String;)V"⟩ ∈ lw_ok := lw_2 (List.mem_of_getElem? (i := 116) rfl) rfl
theorem tw2_117 : Cond.instanceMethod ⟨"java/util/NoSuchElementException", "<init>", "(Ljava/lang/String;)V"⟩ ∈ lw_ok := lw_2 (List.mem_of_getElem? (i := 117) rfl) rfl
theorem tw2_118 : Cond.code ⟨"java/util/NoSuchElementException", "<init>", "(Ljava/lang/String;)V"⟩ prog_17_method_4_code 2 (Option.none : Option FieldType) ∈ lw_ok := lw_2 (List.mem_of_getElem? (i := 118) rfl) rfl
theorem tw2_119 : Cond.methodLink "java/util/NoSuchElementException" 13 ⟨"java/lang/RuntimeException", "<init>", "(Ljava/lang/String;)V"⟩ ∈ lw_ok := lw_2 (List.mem_of_getElem? (i := 119) rfl) rfl
theorem tw2_120 : Cond.lays "java/util/NoSuchElementException" "java/lang/Throwable" "depth" "I" ∈ lw_ok := lw_2 (List.mem_of_getElem? (i := 120) rfl) rfl
theorem tw2_121 : Cond.superclass "java/util/NoSuchElementException" "java/lang/RuntimeException" ∈ lw_ok := lw_2 (List.mem_of_getElem? (i := 121) rfl) rfl
theorem tw2_122 : Cond.methodLink "FusedEngine" 62 ⟨"FusedEngine$Program", "replace", "(III)V"⟩ ∈ lw_ok := lw_2 (List.mem_of_getElem? (i := 122) rfl) rfl
theorem tw2_123 : Cond.methodLink "FusedEngineLaw" 65 ⟨"FusedEngineLaw", "look", "(LFusedEngine;II[J)I"⟩ ∈ lw_ok := lw_2 (List.mem_of_getElem? (i := 123) rfl) rfl
theorem tw2_124 : Cond.static ⟨"FusedEngineLaw", "look", "(LFusedEngine;II[J)I"⟩ ∈ lw_ok := lw_2 (List.mem_of_getElem? (i := 124) rfl) rfl
theorem tw2_125 : Cond.codeWith ⟨"FusedEngineLaw", "look", "(LFusedEngine;II[J)I"⟩ method_5_code 5 (Option.some FieldType.int) [(0, 10, 13, 21)] ∈ lw_ok := lw_2 (List.mem_of_getElem? (i := 125) rfl) rfl
theorem tw2_126 : Cond.methodLink "FusedEngineLaw" 23 ⟨"FusedEngine", "look", "(II)I"⟩ ∈ lw_ok := lw_2 (List.mem_of_getElem? (i := 126) rfl) rfl
theorem tw2_127 : Cond.instanceMethod ⟨"FusedEngine", "look", "(II)I"⟩ ∈ lw_ok := lw_2 (List.mem_of_getElem? (i := 127) rfl) rfl
theorem tw2_128 : Cond.selects "FusedEngine" ⟨"FusedEngine", "look", "(II)I"⟩ ⟨"FusedEngine", "look", "(II)I"⟩ ∈ lw_ok := lw_2 (List.mem_of_getElem? (i := 128) rfl) rfl
theorem tw2_129 : Cond.code ⟨"FusedEngine", "look", "(II)I"⟩ prog_1_method_6_code 3 (Option.some FieldType.int) ∈ lw_ok := lw_2 (List.mem_of_getElem? (i := 129) rfl) rfl
theorem tw2_130 : Cond.stringRef "FusedEngine" 73 "nothing to be looked at by this number" ∈ tables_1 := lt_2 (List.mem_of_getElem? (i := 130) rfl)
theorem tw2_131 : Cond.stringRef "FusedEngine" 79 "the program is not fused" ∈ tables_1 := lt_2 (List.mem_of_getElem? (i := 131) rfl)
theorem tw2_132 : Cond.methodLink "FusedEngine" 81 ⟨"FusedEngine$Program", "factOf", "(II)I"⟩ ∈ lw_ok := lw_2 (List.mem_of_getElem? (i := 132) rfl) rfl
theorem tw2_133 : Cond.instanceMethod ⟨"FusedEngine$Program", "factOf", "(II)I"⟩ ∈ lw_ok := lw_2 (List.mem_of_getElem? (i := 133) rfl) rfl
theorem tw2_134 : Cond.selects "FusedEngine$Program" ⟨"FusedEngine$Program", "factOf", "(II)I"⟩ ⟨"FusedEngine$Program", "factOf", "(II)I"⟩ ∈ lw_ok := lw_2 (List.mem_of_getElem? (i := 134) rfl) rfl
theorem tw2_135 : Cond.code ⟨"FusedEngine$Program", "factOf", "(II)I"⟩ prog_3_method_7_code 3 (Option.some FieldType.int) ∈ lw_ok := lw_2 (List.mem_of_getElem? (i := 135) rfl) rfl
theorem tw2_136 : Cond.methodLink "FusedEngineLaw" 68 ⟨"FusedEngineLaw", "run", "(LFusedEngine;ZI[J)I"⟩ ∈ lw_ok := lw_2 (List.mem_of_getElem? (i := 136) rfl) rfl
theorem tw2_137 : Cond.static ⟨"FusedEngineLaw", "run", "(LFusedEngine;ZI[J)I"⟩ ∈ lw_ok := lw_2 (List.mem_of_getElem? (i := 137) rfl) rfl
theorem tw2_138 : Cond.codeWith ⟨"FusedEngineLaw", "run", "(LFusedEngine;ZI[J)I"⟩ method_6_code 5 (Option.some FieldType.int) [(0, 10, 13, 15)] ∈ lw_ok := lw_2 (List.mem_of_getElem? (i := 138) rfl) rfl
theorem tw2_139 : Cond.methodLink "FusedEngineLaw" 26 ⟨"FusedEngine", "run", "(ZI)I"⟩ ∈ lw_ok := lw_2 (List.mem_of_getElem? (i := 139) rfl) rfl
theorem tw2_140 : Cond.instanceMethod ⟨"FusedEngine", "run", "(ZI)I"⟩ ∈ lw_ok := lw_2 (List.mem_of_getElem? (i := 140) rfl) rfl
theorem tw2_141 : Cond.selects "FusedEngine" ⟨"FusedEngine", "run", "(ZI)I"⟩ ⟨"FusedEngine", "run", "(ZI)I"⟩ ∈ lw_ok := lw_2 (List.mem_of_getElem? (i := 141) rfl) rfl
theorem tw2_142 : Cond.code ⟨"FusedEngine", "run", "(ZI)I"⟩ prog_1_method_7_code 3 (Option.some FieldType.int) ∈ lw_ok := lw_2 (List.mem_of_getElem? (i := 142) rfl) rfl
theorem tw2_143 : Cond.methodLink "FusedEngine" 88 ⟨"FusedEngine$Machine", "goOn", "(LFusedEngine$Program;ZI)I"⟩ ∈ lw_ok := lw_2 (List.mem_of_getElem? (i := 143) rfl) rfl
theorem tw2_144 : Cond.instanceMethod ⟨"FusedEngine$Machine", "goOn", "(LFusedEngine$Program;ZI)I"⟩ ∈ lw_ok := lw_2 (List.mem_of_getElem? (i := 144) rfl) rfl
theorem tw2_145 : Cond.selects "FusedEngine$Machine" ⟨"FusedEngine$Machine", "goOn", "(LFusedEngine$Program;ZI)I"⟩ ⟨"FusedEngine$Machine", "goOn", "(LFusedEngine$Program;ZI)I"⟩ ∈ lw_ok := lw_2 (List.mem_of_getElem? (i := 145) rfl) rfl
theorem tw2_146 : Cond.code ⟨"FusedEngine$Machine", "goOn", "(LFusedEngine$Program;ZI)I"⟩ prog_2_method_5_code 6 (Option.some FieldType.int) ∈ lw_ok := lw_2 (List.mem_of_getElem? (i := 146) rfl) rfl
theorem tw2_147 : Cond.methodLink "FusedEngine$Machine" 49 ⟨"java/lang/Math", "min", "(II)I"⟩ ∈ lw_ok := lw_2 (List.mem_of_getElem? (i := 147) rfl) rfl
theorem tw2_148 : Cond.static ⟨"java/lang/Math", "min", "(II)I"⟩ ∈ lw_ok := lw_2 (List.mem_of_getElem? (i := 148) rfl) rfl
theorem tw2_149 : Cond.code ⟨"java/lang/Math", "min", "(II)I"⟩ prog_10_method_69_code 2 (Option.some FieldType.int) ∈ lw_ok := lw_2 (List.mem_of_getElem? (i := 149) rfl) rfl
theorem tw2_150 : Cond.methodLink "FusedEngine$Machine" 55 ⟨"FusedEngine$Program", "has", "(I)Z"⟩ ∈ lw_ok := lw_2 (List.mem_of_getElem? (i := 150) rfl) rfl
theorem tw2_151 : Cond.methodLink "FusedEngine$Machine" 64 ⟨"FusedEngine$Machine", "doRow", "(LFusedEngine$Program;I)V"⟩ ∈ lw_ok := lw_2 (List.mem_of_getElem? (i := 151) rfl) rfl
theorem tw2_152 : Cond.privateMethod ⟨"FusedEngine$Machine", "doRow", "(LFusedEngine$Program;I)V"⟩ ∈ tables_1 := lt_2 (List.mem_of_getElem? (i := 152) rfl)
theorem tw2_153 : Cond.instanceMethod ⟨"FusedEngine$Machine", "doRow", "(LFusedEngine$Program;I)V"⟩ ∈ lw_ok := lw_2 (List.mem_of_getElem? (i := 153) rfl) rfl
theorem tw2_154 : Cond.code ⟨"FusedEngine$Machine", "doRow", "(LFusedEngine$Program;I)V"⟩ prog_2_method_6_code 6 (Option.none : Option FieldType) ∈ lw_ok := lw_2 (List.mem_of_getElem? (i := 154) rfl) rfl
theorem tw2_155 : Cond.methodLink "FusedEngine$Machine" 71 ⟨"FusedEngine$Machine", "trapOf", "(I)I"⟩ ∈ lw_ok := lw_2 (List.mem_of_getElem? (i := 155) rfl) rfl
theorem tw2_156 : Cond.privateMethod ⟨"FusedEngine$Machine", "trapOf", "(I)I"⟩ ∈ tables_1 := lt_2 (List.mem_of_getElem? (i := 156) rfl)
theorem tw2_157 : Cond.instanceMethod ⟨"FusedEngine$Machine", "trapOf", "(I)I"⟩ ∈ lw_ok := lw_2 (List.mem_of_getElem? (i := 157) rfl) rfl
theorem tw2_158 : Cond.code ⟨"FusedEngine$Machine", "trapOf", "(I)I"⟩ prog_2_method_7_code 2 (Option.some FieldType.int) ∈ lw_ok := lw_2 (List.mem_of_getElem? (i := 158) rfl) rfl
theorem tw2_159 : Cond.methodLink "FusedEngine$Machine" 82 ⟨"FusedEngine$Machine", "neededValues", "(I)I"⟩ ∈ lw_ok := lw_2 (List.mem_of_getElem? (i := 159) rfl) rfl
theorem tw2_160 : Cond.static ⟨"FusedEngine$Machine", "neededValues", "(I)I"⟩ ∈ lw_ok := lw_2 (List.mem_of_getElem? (i := 160) rfl) rfl
theorem tw2_161 : Cond.code ⟨"FusedEngine$Machine", "neededValues", "(I)I"⟩ prog_2_method_8_code 1 (Option.some FieldType.int) ∈ lw_ok := lw_2 (List.mem_of_getElem? (i := 161) rfl) rfl
theorem tw2_162 : Cond.methodLink "FusedEngine$Machine" 85 ⟨"FusedEngine$Machine", "putsOneMore", "(I)Z"⟩ ∈ lw_ok := lw_2 (List.mem_of_getElem? (i := 162) rfl) rfl
theorem tw2_163 : Cond.static ⟨"FusedEngine$Machine", "putsOneMore", "(I)Z"⟩ ∈ lw_ok := lw_2 (List.mem_of_getElem? (i := 163) rfl) rfl
theorem tw2_164 : Cond.code ⟨"FusedEngine$Machine", "putsOneMore", "(I)Z"⟩ prog_2_method_9_code 1 (Option.some FieldType.boolean) ∈ lw_ok := lw_2 (List.mem_of_getElem? (i := 164) rfl) rfl
theorem tw2_165 : Cond.methodLink "FusedEngine$Machine" 78 ⟨"FusedEngine$Machine", "act", "(II)V"⟩ ∈ lw_ok := lw_2 (List.mem_of_getElem? (i := 165) rfl) rfl
theorem tw2_166 : Cond.privateMethod ⟨"FusedEngine$Machine", "act", "(II)V"⟩ ∈ tables_1 := lt_2 (List.mem_of_getElem? (i := 166) rfl)
theorem tw2_167 : Cond.instanceMethod ⟨"FusedEngine$Machine", "act", "(II)V"⟩ ∈ lw_ok := lw_2 (List.mem_of_getElem? (i := 167) rfl) rfl
theorem tw2_168 : Cond.code ⟨"FusedEngine$Machine", "act", "(II)V"⟩ prog_2_method_10_code 4 (Option.none : Option FieldType) ∈ lw_ok := lw_2 (List.mem_of_getElem? (i := 168) rfl) rfl
theorem tw2_169 : Cond.methodLink "FusedEngine$Machine" 88 ⟨"FusedEngine$Machine", "push", "(I)V"⟩ ∈ lw_ok := lw_2 (List.mem_of_getElem? (i := 169) rfl) rfl
theorem tw2_170 : Cond.privateMethod ⟨"FusedEngine$Machine", "push", "(I)V"⟩ ∈ tables_1 := lt_2 (List.mem_of_getElem? (i := 170) rfl)
theorem tw2_171 : Cond.instanceMethod ⟨"FusedEngine$Machine", "push", "(I)V"⟩ ∈ lw_ok := lw_2 (List.mem_of_getElem? (i := 171) rfl) rfl
theorem tw2_172 : Cond.code ⟨"FusedEngine$Machine", "push", "(I)V"⟩ prog_2_method_11_code 2 (Option.none : Option FieldType) ∈ lw_ok := lw_2 (List.mem_of_getElem? (i := 172) rfl) rfl
theorem tw2_173 : Cond.methodLink "FusedEngine$Machine" 92 ⟨"FusedEngine$Machine", "pop", "()I"⟩ ∈ lw_ok := lw_2 (List.mem_of_getElem? (i := 173) rfl) rfl
theorem tw2_174 : Cond.privateMethod ⟨"FusedEngine$Machine", "pop", "()I"⟩ ∈ tables_1 := lt_2 (List.mem_of_getElem? (i := 174) rfl)
theorem tw2_175 : Cond.instanceMethod ⟨"FusedEngine$Machine", "pop", "()I"⟩ ∈ lw_ok := lw_2 (List.mem_of_getElem? (i := 175) rfl) rfl
theorem tw2_176 : Cond.code ⟨"FusedEngine$Machine", "pop", "()I"⟩ prog_2_method_12_code 1 (Option.some FieldType.int) ∈ lw_ok := lw_2 (List.mem_of_getElem? (i := 176) rfl) rfl
theorem tw2_177 : Cond.methodLink "FusedEngine$Machine" 96 ⟨"FusedEngine$Machine", "exchange", "()V"⟩ ∈ lw_ok := lw_2 (List.mem_of_getElem? (i := 177) rfl) rfl
theorem tw2_178 : Cond.privateMethod ⟨"FusedEngine$Machine", "exchange", "()V"⟩ ∈ tables_1 := lt_2 (List.mem_of_getElem? (i := 178) rfl)
theorem tw2_179 : Cond.instanceMethod ⟨"FusedEngine$Machine", "exchange", "()V"⟩ ∈ lw_ok := lw_2 (List.mem_of_getElem? (i := 179) rfl) rfl
theorem tw2_180 : Cond.code ⟨"FusedEngine$Machine", "exchange", "()V"⟩ prog_2_method_13_code 2 (Option.none : Option FieldType) ∈ lw_ok := lw_2 (List.mem_of_getElem? (i := 180) rfl) rfl
theorem tw2_181 : Cond.methodLink "FusedEngine$Machine" 99 ⟨"FusedEngine$Machine", "putOut", "(I)V"⟩ ∈ lw_ok := lw_2 (List.mem_of_getElem? (i := 181) rfl) rfl
theorem tw2_182 : Cond.privateMethod ⟨"FusedEngine$Machine", "putOut", "(I)V"⟩ ∈ tables_1 := lt_2 (List.mem_of_getElem? (i := 182) rfl)
theorem tw2_183 : Cond.instanceMethod ⟨"FusedEngine$Machine", "putOut", "(I)V"⟩ ∈ lw_ok := lw_2 (List.mem_of_getElem? (i := 183) rfl) rfl
theorem tw2_184 : Cond.code ⟨"FusedEngine$Machine", "putOut", "(I)V"⟩ prog_2_method_14_code 2 (Option.none : Option FieldType) ∈ lw_ok := lw_2 (List.mem_of_getElem? (i := 184) rfl) rfl
theorem tw2_185 : Cond.methodLink "FusedEngine$Machine" 102 ⟨"FusedEngine$Machine", "combine", "(I)V"⟩ ∈ lw_ok := lw_2 (List.mem_of_getElem? (i := 185) rfl) rfl
theorem tw2_186 : Cond.privateMethod ⟨"FusedEngine$Machine", "combine", "(I)V"⟩ ∈ tables_1 := lt_2 (List.mem_of_getElem? (i := 186) rfl)
theorem tw2_187 : Cond.instanceMethod ⟨"FusedEngine$Machine", "combine", "(I)V"⟩ ∈ lw_ok := lw_2 (List.mem_of_getElem? (i := 187) rfl) rfl
theorem tw2_188 : Cond.code ⟨"FusedEngine$Machine", "combine", "(I)V"⟩ prog_2_method_15_code 4 (Option.none : Option FieldType) ∈ lw_ok := lw_2 (List.mem_of_getElem? (i := 188) rfl) rfl
theorem tw2_189 : Cond.methodLink "FusedEngine$Machine" 105 ⟨"FusedEngine$Machine", "resultOf", "(III)I"⟩ ∈ lw_ok := lw_2 (List.mem_of_getElem? (i := 189) rfl) rfl
theorem tw2_190 : Cond.static ⟨"FusedEngine$Machine", "resultOf", "(III)I"⟩ ∈ lw_ok := lw_2 (List.mem_of_getElem? (i := 190) rfl) rfl
theorem tw2_191 : Cond.code ⟨"FusedEngine$Machine", "resultOf", "(III)I"⟩ prog_2_method_16_code 3 (Option.some FieldType.int) ∈ lw_ok := lw_2 (List.mem_of_getElem? (i := 191) rfl) rfl
theorem tw2_192 : Cond.methodLink "FusedEngineLaw" 80 ⟨"FusedEngineLaw", "stack", "(LFusedEngine;ZI[J)I"⟩ ∈ lw_ok := lw_2 (List.mem_of_getElem? (i := 192) rfl) rfl
theorem tw2_193 : Cond.static ⟨"FusedEngineLaw", "stack", "(LFusedEngine;ZI[J)I"⟩ ∈ lw_ok := lw_2 (List.mem_of_getElem? (i := 193) rfl) rfl
theorem tw2_194 : Cond.codeWith ⟨"FusedEngineLaw", "stack", "(LFusedEngine;ZI[J)I"⟩ method_7_code 5 (Option.some FieldType.int) [(0, 10, 13, 21)] ∈ lw_ok := lw_2 (List.mem_of_getElem? (i := 194) rfl) rfl
theorem tw2_195 : Cond.methodLink "FusedEngineLaw" 30 ⟨"FusedEngine", "stack", "(ZI)I"⟩ ∈ lw_ok := lw_2 (List.mem_of_getElem? (i := 195) rfl) rfl
theorem tw2_196 : Cond.instanceMethod ⟨"FusedEngine", "stack", "(ZI)I"⟩ ∈ lw_ok := lw_2 (List.mem_of_getElem? (i := 196) rfl) rfl
theorem tw2_197 : Cond.selects "FusedEngine" ⟨"FusedEngine", "stack", "(ZI)I"⟩ ⟨"FusedEngine", "stack", "(ZI)I"⟩ ∈ lw_ok := lw_2 (List.mem_of_getElem? (i := 197) rfl) rfl
theorem tw2_198 : Cond.code ⟨"FusedEngine", "stack", "(ZI)I"⟩ prog_1_method_10_code 4 (Option.some FieldType.int) ∈ lw_ok := lw_2 (List.mem_of_getElem? (i := 198) rfl) rfl
theorem tw2_199 : Cond.stringRef "FusedEngine" 98 "no such value on the stack" ∈ tables_1 := lt_2 (List.mem_of_getElem? (i := 199) rfl)
theorem tw2_200 : Cond.methodLink "FusedEngineLaw" 83 ⟨"FusedEngineLaw", "local", "(LFusedEngine;ZI[J)I"⟩ ∈ lw_ok := lw_2 (List.mem_of_getElem? (i := 200) rfl) rfl
theorem tw2_201 : Cond.static ⟨"FusedEngineLaw", "local", "(LFusedEngine;ZI[J)I"⟩ ∈ lw_ok := lw_2 (List.mem_of_getElem? (i := 201) rfl) rfl
theorem tw2_202 : Cond.codeWith ⟨"FusedEngineLaw", "local", "(LFusedEngine;ZI[J)I"⟩ method_8_code 5 (Option.some FieldType.int) [(0, 10, 13, 21)] ∈ lw_ok := lw_2 (List.mem_of_getElem? (i := 202) rfl) rfl
theorem tw2_203 : Cond.methodLink "FusedEngineLaw" 33 ⟨"FusedEngine", "local", "(ZI)I"⟩ ∈ lw_ok := lw_2 (List.mem_of_getElem? (i := 203) rfl) rfl
theorem tw2_204 : Cond.instanceMethod ⟨"FusedEngine", "local", "(ZI)I"⟩ ∈ lw_ok := lw_2 (List.mem_of_getElem? (i := 204) rfl) rfl
theorem tw2_205 : Cond.selects "FusedEngine" ⟨"FusedEngine", "local", "(ZI)I"⟩ ⟨"FusedEngine", "local", "(ZI)I"⟩ ∈ lw_ok := lw_2 (List.mem_of_getElem? (i := 205) rfl) rfl
theorem tw2_206 : Cond.code ⟨"FusedEngine", "local", "(ZI)I"⟩ prog_1_method_11_code 3 (Option.some FieldType.int) ∈ lw_ok := lw_2 (List.mem_of_getElem? (i := 206) rfl) rfl
theorem tw2_207 : Cond.stringRef "FusedEngine" 104 "no such local" ∈ tables_1 := lt_2 (List.mem_of_getElem? (i := 207) rfl)
theorem tw2_208 : Cond.methodLink "FusedEngineLaw" 86 ⟨"FusedEngineLaw", "out", "(LFusedEngine;ZI[J)I"⟩ ∈ lw_ok := lw_2 (List.mem_of_getElem? (i := 208) rfl) rfl
theorem tw2_209 : Cond.static ⟨"FusedEngineLaw", "out", "(LFusedEngine;ZI[J)I"⟩ ∈ lw_ok := lw_2 (List.mem_of_getElem? (i := 209) rfl) rfl
theorem tw2_210 : Cond.codeWith ⟨"FusedEngineLaw", "out", "(LFusedEngine;ZI[J)I"⟩ method_9_code 5 (Option.some FieldType.int) [(0, 10, 13, 21)] ∈ lw_ok := lw_2 (List.mem_of_getElem? (i := 210) rfl) rfl
theorem tw2_211 : Cond.methodLink "FusedEngineLaw" 36 ⟨"FusedEngine", "out", "(ZI)I"⟩ ∈ lw_ok := lw_2 (List.mem_of_getElem? (i := 211) rfl) rfl
theorem tw2_212 : Cond.instanceMethod ⟨"FusedEngine", "out", "(ZI)I"⟩ ∈ lw_ok := lw_2 (List.mem_of_getElem? (i := 212) rfl) rfl
theorem tw2_213 : Cond.selects "FusedEngine" ⟨"FusedEngine", "out", "(ZI)I"⟩ ⟨"FusedEngine", "out", "(ZI)I"⟩ ∈ lw_ok := lw_2 (List.mem_of_getElem? (i := 213) rfl) rfl
theorem tw2_214 : Cond.code ⟨"FusedEngine", "out", "(ZI)I"⟩ prog_1_method_12_code 4 (Option.some FieldType.int) ∈ lw_ok := lw_2 (List.mem_of_getElem? (i := 214) rfl) rfl
theorem tw2_215 : Cond.methodLink "FusedEngine" 109 ⟨"FusedEngine$Machine", "keptOutputs", "()I"⟩ ∈ lw_ok := lw_2 (List.mem_of_getElem? (i := 215) rfl) rfl
theorem tw2_216 : Cond.instanceMethod ⟨"FusedEngine$Machine", "keptOutputs", "()I"⟩ ∈ lw_ok := lw_2 (List.mem_of_getElem? (i := 216) rfl) rfl
theorem tw2_217 : Cond.selects "FusedEngine$Machine" ⟨"FusedEngine$Machine", "keptOutputs", "()I"⟩ ⟨"FusedEngine$Machine", "keptOutputs", "()I"⟩ ∈ lw_ok := lw_2 (List.mem_of_getElem? (i := 217) rfl) rfl
theorem tw2_218 : Cond.code ⟨"FusedEngine$Machine", "keptOutputs", "()I"⟩ prog_2_method_3_code 1 (Option.some FieldType.int) ∈ lw_ok := lw_2 (List.mem_of_getElem? (i := 218) rfl) rfl
theorem tw2_219 : Cond.stringRef "FusedEngine" 112 "no such value put out, or not kept" ∈ tables_1 := lt_2 (List.mem_of_getElem? (i := 219) rfl)
theorem tw2_220 : Cond.classLink "FusedEngineLaw" 40 "FusedEngineModel" ∈ lw_ok := lw_2 (List.mem_of_getElem? (i := 220) rfl) rfl
theorem tw2_221 : Cond.instantiable "FusedEngineModel" 17 ∈ lw_ok := lw_2 (List.mem_of_getElem? (i := 221) rfl) rfl
theorem tw2_222 : Cond.methodLink "FusedEngineLaw" 42 ⟨"FusedEngineModel", "<init>", "()V"⟩ ∈ lw_ok := lw_2 (List.mem_of_getElem? (i := 222) rfl) rfl
theorem tw2_223 : Cond.instanceMethod ⟨"FusedEngineModel", "<init>", "()V"⟩ ∈ lw_ok := lw_2 (List.mem_of_getElem? (i := 223) rfl) rfl
theorem tw2_224 : Cond.code ⟨"FusedEngineModel", "<init>", "()V"⟩ prog_6_method_1_code 1 (Option.none : Option FieldType) ∈ lw_ok := lw_2 (List.mem_of_getElem? (i := 224) rfl) rfl
theorem tw2_225 : Cond.methodLink "FusedEngineModel" 1 ⟨"java/lang/Object", "<init>", "()V"⟩ ∈ lw_ok := lw_2 (List.mem_of_getElem? (i := 225) rfl) rfl
theorem tw2_226 : Cond.fieldLink "FusedEngineModel" 53 "FusedEngineModel" "code" "I" ∈ lw_ok := lw_2 (List.mem_of_getElem? (i := 226) rfl) rfl
theorem tw2_227 : Cond.fieldLink "FusedEngineModel" 79 "FusedEngineModel" "size" "I" ∈ lw_ok := lw_2 (List.mem_of_getElem? (i := 227) rfl) rfl
theorem tw2_228 : Cond.fieldLink "FusedEngineModel" 7 "FusedEngineModel" "letter" "[C" ∈ lw_ok := lw_2 (List.mem_of_getElem? (i := 228) rfl) rfl
theorem tw2_229 : Cond.fieldLink "FusedEngineModel" 13 "FusedEngineModel" "number" "[I" ∈ lw_ok := lw_2 (List.mem_of_getElem? (i := 229) rfl) rfl
theorem tw2_230 : Cond.fieldLink "FusedEngineModel" 68 "FusedEngineModel" "fused" "Z" ∈ lw_ok := lw_2 (List.mem_of_getElem? (i := 230) rfl) rfl
theorem tw2_231 : Cond.fieldLink "FusedEngineModel" 17 "FusedEngineModel" "fusedTo" "[I" ∈ lw_ok := lw_2 (List.mem_of_getElem? (i := 231) rfl) rfl
theorem tw2_232 : Cond.fieldLink "FusedEngineModel" 20 "FusedEngineModel" "rows" "[C" ∈ lw_ok := lw_2 (List.mem_of_getElem? (i := 232) rfl) rfl
theorem tw2_233 : Cond.fieldLink "FusedEngineModel" 23 "FusedEngineModel" "place" "[I" ∈ lw_ok := lw_2 (List.mem_of_getElem? (i := 233) rfl) rfl
theorem tw2_234 : Cond.fieldLink "FusedEngineModel" 26 "FusedEngineModel" "high" "[I" ∈ lw_ok := lw_2 (List.mem_of_getElem? (i := 234) rfl) rfl
theorem tw2_235 : Cond.fieldLink "FusedEngineModel" 29 "FusedEngineModel" "depth" "[I" ∈ lw_ok := lw_2 (List.mem_of_getElem? (i := 235) rfl) rfl
theorem tw2_236 : Cond.fieldLink "FusedEngineModel" 32 "FusedEngineModel" "put" "[I" ∈ lw_ok := lw_2 (List.mem_of_getElem? (i := 236) rfl) rfl
theorem tw2_237 : Cond.fieldLink "FusedEngineModel" 35 "FusedEngineModel" "state" "[I" ∈ lw_ok := lw_2 (List.mem_of_getElem? (i := 237) rfl) rfl
theorem tw2_238 : Cond.fieldLink "FusedEngineModel" 38 "FusedEngineModel" "done" "[I" ∈ lw_ok := lw_2 (List.mem_of_getElem? (i := 238) rfl) rfl
theorem tw2_239 : Cond.fieldLink "FusedEngineModel" 41 "FusedEngineModel" "stack" "[I" ∈ lw_ok := lw_2 (List.mem_of_getElem? (i := 239) rfl) rfl
theorem tw3_0 : Cond.fieldLink "FusedEngineModel" 44 "FusedEngineModel" "local" "[I" ∈ lw_ok := lw_3 (List.mem_of_getElem? (i := 0) rfl) rfl
theorem tw3_1 : Cond.fieldLink "FusedEngineModel" 47 "FusedEngineModel" "back" "[I" ∈ lw_ok := lw_3 (List.mem_of_getElem? (i := 1) rfl) rfl
theorem tw3_2 : Cond.fieldLink "FusedEngineModel" 50 "FusedEngineModel" "outs" "[I" ∈ lw_ok := lw_3 (List.mem_of_getElem? (i := 2) rfl) rfl
theorem tw3_3 : Cond.lays "FusedEngineModel" "FusedEngineModel" "code" "I" ∈ lw_ok := lw_3 (List.mem_of_getElem? (i := 3) rfl) rfl
theorem tw3_4 : Cond.soleField "FusedEngineModel" "code" ∈ lw_ok := lw_3 (List.mem_of_getElem? (i := 4) rfl) rfl
theorem tw3_5 : Cond.lays "FusedEngineModel" "FusedEngineModel" "size" "I" ∈ lw_ok := lw_3 (List.mem_of_getElem? (i := 5) rfl) rfl
theorem tw3_6 : Cond.soleField "FusedEngineModel" "size" ∈ lw_ok := lw_3 (List.mem_of_getElem? (i := 6) rfl) rfl
theorem tw3_7 : Cond.laysFinal "FusedEngineModel" "FusedEngineModel" "letter" "[C" ∈ lw_ok := lw_3 (List.mem_of_getElem? (i := 7) rfl) rfl
theorem tw3_8 : Cond.soleField "FusedEngineModel" "letter" ∈ lw_ok := lw_3 (List.mem_of_getElem? (i := 8) rfl) rfl
theorem tw3_9 : Cond.laysFinal "FusedEngineModel" "FusedEngineModel" "number" "[I" ∈ lw_ok := lw_3 (List.mem_of_getElem? (i := 9) rfl) rfl
theorem tw3_10 : Cond.soleField "FusedEngineModel" "number" ∈ lw_ok := lw_3 (List.mem_of_getElem? (i := 10) rfl) rfl
theorem tw3_11 : Cond.lays "FusedEngineModel" "FusedEngineModel" "fused" "Z" ∈ lw_ok := lw_3 (List.mem_of_getElem? (i := 11) rfl) rfl
theorem tw3_12 : Cond.soleField "FusedEngineModel" "fused" ∈ lw_ok := lw_3 (List.mem_of_getElem? (i := 12) rfl) rfl
theorem tw3_13 : Cond.laysFinal "FusedEngineModel" "FusedEngineModel" "fusedTo" "[I" ∈ lw_ok := lw_3 (List.mem_of_getElem? (i := 13) rfl) rfl
theorem tw3_14 : Cond.soleField "FusedEngineModel" "fusedTo" ∈ lw_ok := lw_3 (List.mem_of_getElem? (i := 14) rfl) rfl
theorem tw3_15 : Cond.laysFinal "FusedEngineModel" "FusedEngineModel" "rows" "[C" ∈ lw_ok := lw_3 (List.mem_of_getElem? (i := 15) rfl) rfl
theorem tw3_16 : Cond.soleField "FusedEngineModel" "rows" ∈ lw_ok := lw_3 (List.mem_of_getElem? (i := 16) rfl) rfl
theorem tw3_17 : Cond.laysFinal "FusedEngineModel" "FusedEngineModel" "place" "[I" ∈ lw_ok := lw_3 (List.mem_of_getElem? (i := 17) rfl) rfl
theorem tw3_18 : Cond.soleField "FusedEngineModel" "place" ∈ lw_ok := lw_3 (List.mem_of_getElem? (i := 18) rfl) rfl
theorem tw3_19 : Cond.laysFinal "FusedEngineModel" "FusedEngineModel" "high" "[I" ∈ lw_ok := lw_3 (List.mem_of_getElem? (i := 19) rfl) rfl
theorem tw3_20 : Cond.soleField "FusedEngineModel" "high" ∈ lw_ok := lw_3 (List.mem_of_getElem? (i := 20) rfl) rfl
theorem tw3_21 : Cond.laysFinal "FusedEngineModel" "FusedEngineModel" "depth" "[I" ∈ lw_ok := lw_3 (List.mem_of_getElem? (i := 21) rfl) rfl
theorem tw3_22 : Cond.soleField "FusedEngineModel" "depth" ∈ lw_ok := lw_3 (List.mem_of_getElem? (i := 22) rfl) rfl
theorem tw3_23 : Cond.laysFinal "FusedEngineModel" "FusedEngineModel" "put" "[I" ∈ lw_ok := lw_3 (List.mem_of_getElem? (i := 23) rfl) rfl
theorem tw3_24 : Cond.soleField "FusedEngineModel" "put" ∈ lw_ok := lw_3 (List.mem_of_getElem? (i := 24) rfl) rfl
theorem tw3_25 : Cond.laysFinal "FusedEngineModel" "FusedEngineModel" "state" "[I" ∈ lw_ok := lw_3 (List.mem_of_getElem? (i := 25) rfl) rfl
theorem tw3_26 : Cond.soleField "FusedEngineModel" "state" ∈ lw_ok := lw_3 (List.mem_of_getElem? (i := 26) rfl) rfl
theorem tw3_27 : Cond.laysFinal "FusedEngineModel" "FusedEngineModel" "done" "[I" ∈ lw_ok := lw_3 (List.mem_of_getElem? (i := 27) rfl) rfl
theorem tw3_28 : Cond.soleField "FusedEngineModel" "done" ∈ lw_ok := lw_3 (List.mem_of_getElem? (i := 28) rfl) rfl
theorem tw3_29 : Cond.laysFinal "FusedEngineModel" "FusedEngineModel" "stack" "[I" ∈ lw_ok := lw_3 (List.mem_of_getElem? (i := 29) rfl) rfl
theorem tw3_30 : Cond.soleField "FusedEngineModel" "stack" ∈ lw_ok := lw_3 (List.mem_of_getElem? (i := 30) rfl) rfl
theorem tw3_31 : Cond.laysFinal "FusedEngineModel" "FusedEngineModel" "local" "[I" ∈ lw_ok := lw_3 (List.mem_of_getElem? (i := 31) rfl) rfl
theorem tw3_32 : Cond.soleField "FusedEngineModel" "local" ∈ lw_ok := lw_3 (List.mem_of_getElem? (i := 32) rfl) rfl
theorem tw3_33 : Cond.laysFinal "FusedEngineModel" "FusedEngineModel" "back" "[I" ∈ lw_ok := lw_3 (List.mem_of_getElem? (i := 33) rfl) rfl
theorem tw3_34 : Cond.soleField "FusedEngineModel" "back" ∈ lw_ok := lw_3 (List.mem_of_getElem? (i := 34) rfl) rfl
theorem tw3_35 : Cond.laysFinal "FusedEngineModel" "FusedEngineModel" "outs" "[I" ∈ lw_ok := lw_3 (List.mem_of_getElem? (i := 35) rfl) rfl
theorem tw3_36 : Cond.soleField "FusedEngineModel" "outs" ∈ lw_ok := lw_3 (List.mem_of_getElem? (i := 36) rfl) rfl
theorem tw3_37 : Cond.superclass "FusedEngineModel" "java/lang/Object" ∈ lw_ok := lw_3 (List.mem_of_getElem? (i := 37) rfl) rfl
theorem tw3_38 : Cond.arrayClass FieldType.char ∈ lw_ok := lw_3 (List.mem_of_getElem? (i := 38) rfl) rfl
theorem tw3_39 : Cond.methodLink "FusedEngineLaw" 49 ⟨"FusedEngineModel", "thrown", "()I"⟩ ∈ lw_ok := lw_3 (List.mem_of_getElem? (i := 39) rfl) rfl
theorem tw3_40 : Cond.instanceMethod ⟨"FusedEngineModel", "thrown", "()I"⟩ ∈ lw_ok := lw_3 (List.mem_of_getElem? (i := 40) rfl) rfl
theorem tw3_41 : Cond.selects "FusedEngineModel" ⟨"FusedEngineModel", "thrown", "()I"⟩ ⟨"FusedEngineModel", "thrown", "()I"⟩ ∈ lw_ok := lw_3 (List.mem_of_getElem? (i := 41) rfl) rfl
theorem tw3_42 : Cond.code ⟨"FusedEngineModel", "thrown", "()I"⟩ prog_6_method_2_code 1 (Option.some FieldType.int) ∈ lw_ok := lw_3 (List.mem_of_getElem? (i := 42) rfl) rfl
theorem tw3_43 : Cond.methodLink "FusedEngineLaw" 48 ⟨"FusedEngineModel", "add", "(II)I"⟩ ∈ lw_ok := lw_3 (List.mem_of_getElem? (i := 43) rfl) rfl
theorem tw3_44 : Cond.instanceMethod ⟨"FusedEngineModel", "add", "(II)I"⟩ ∈ lw_ok := lw_3 (List.mem_of_getElem? (i := 44) rfl) rfl
theorem tw3_45 : Cond.selects "FusedEngineModel" ⟨"FusedEngineModel", "add", "(II)I"⟩ ⟨"FusedEngineModel", "add", "(II)I"⟩ ∈ lw_ok := lw_3 (List.mem_of_getElem? (i := 45) rfl) rfl
theorem tw3_46 : Cond.code ⟨"FusedEngineModel", "add", "(II)I"⟩ prog_6_method_11_code 3 (Option.some FieldType.int) ∈ lw_ok := lw_3 (List.mem_of_getElem? (i := 46) rfl) rfl
theorem tw3_47 : Cond.methodLink "FusedEngineModel" 75 ⟨"FusedEngineModel", "fits", "(II)Z"⟩ ∈ lw_ok := lw_3 (List.mem_of_getElem? (i := 47) rfl) rfl
theorem tw3_48 : Cond.static ⟨"FusedEngineModel", "fits", "(II)Z"⟩ ∈ lw_ok := lw_3 (List.mem_of_getElem? (i := 48) rfl) rfl
theorem tw3_49 : Cond.code ⟨"FusedEngineModel", "fits", "(II)Z"⟩ prog_6_method_8_code 2 (Option.some FieldType.boolean) ∈ lw_ok := lw_3 (List.mem_of_getElem? (i := 49) rfl) rfl
theorem tw3_50 : Cond.methodLink "FusedEngineModel" 61 ⟨"FusedEngineModel", "isLetter", "(I)Z"⟩ ∈ lw_ok := lw_3 (List.mem_of_getElem? (i := 50) rfl) rfl
theorem tw3_51 : Cond.static ⟨"FusedEngineModel", "isLetter", "(I)Z"⟩ ∈ lw_ok := lw_3 (List.mem_of_getElem? (i := 51) rfl) rfl
theorem tw3_52 : Cond.code ⟨"FusedEngineModel", "isLetter", "(I)Z"⟩ prog_6_method_6_code 1 (Option.some FieldType.boolean) ∈ lw_ok := lw_3 (List.mem_of_getElem? (i := 52) rfl) rfl
theorem tw3_53 : Cond.methodLink "FusedEngineModel" 57 ⟨"FusedEngineModel", "isPlain", "(I)Z"⟩ ∈ lw_ok := lw_3 (List.mem_of_getElem? (i := 53) rfl) rfl
theorem tw3_54 : Cond.static ⟨"FusedEngineModel", "isPlain", "(I)Z"⟩ ∈ lw_ok := lw_3 (List.mem_of_getElem? (i := 54) rfl) rfl
theorem tw3_55 : Cond.code ⟨"FusedEngineModel", "isPlain", "(I)Z"⟩ prog_6_method_5_code 1 (Option.some FieldType.boolean) ∈ lw_ok := lw_3 (List.mem_of_getElem? (i := 55) rfl) rfl
theorem tw3_56 : Cond.methodLink "FusedEngineModel" 64 ⟨"FusedEngineModel", "outside", "(III)Z"⟩ ∈ lw_ok := lw_3 (List.mem_of_getElem? (i := 56) rfl) rfl
theorem tw3_57 : Cond.static ⟨"FusedEngineModel", "outside", "(III)Z"⟩ ∈ lw_ok := lw_3 (List.mem_of_getElem? (i := 57) rfl) rfl
theorem tw3_58 : Cond.code ⟨"FusedEngineModel", "outside", "(III)Z"⟩ prog_6_method_4_code 3 (Option.some FieldType.boolean) ∈ lw_ok := lw_3 (List.mem_of_getElem? (i := 58) rfl) rfl
theorem tw3_59 : Cond.methodLink "FusedEngineModel" 82 ⟨"FusedEngineModel", "set", "(III)V"⟩ ∈ lw_ok := lw_3 (List.mem_of_getElem? (i := 59) rfl) rfl
theorem tw3_60 : Cond.privateMethod ⟨"FusedEngineModel", "set", "(III)V"⟩ ∈ tables_1 := lt_3 (List.mem_of_getElem? (i := 60) rfl)
theorem tw3_61 : Cond.instanceMethod ⟨"FusedEngineModel", "set", "(III)V"⟩ ∈ lw_ok := lw_3 (List.mem_of_getElem? (i := 61) rfl) rfl
theorem tw3_62 : Cond.code ⟨"FusedEngineModel", "set", "(III)V"⟩ prog_6_method_10_code 4 (Option.none : Option FieldType) ∈ lw_ok := lw_3 (List.mem_of_getElem? (i := 62) rfl) rfl
theorem tw3_63 : Cond.methodLink "FusedEngineModel" 72 ⟨"FusedEngineModel", "begin", "()V"⟩ ∈ lw_ok := lw_3 (List.mem_of_getElem? (i := 63) rfl) rfl
theorem tw3_64 : Cond.privateMethod ⟨"FusedEngineModel", "begin", "()V"⟩ ∈ tables_1 := lt_3 (List.mem_of_getElem? (i := 64) rfl)
theorem tw3_65 : Cond.instanceMethod ⟨"FusedEngineModel", "begin", "()V"⟩ ∈ lw_ok := lw_3 (List.mem_of_getElem? (i := 65) rfl) rfl
theorem tw3_66 : Cond.code ⟨"FusedEngineModel", "begin", "()V"⟩ prog_6_method_9_code 2 (Option.none : Option FieldType) ∈ lw_ok := lw_3 (List.mem_of_getElem? (i := 66) rfl) rfl
theorem tw3_67 : Cond.methodLink "FusedEngineLaw" 56 ⟨"FusedEngineModel", "change", "(III)V"⟩ ∈ lw_ok := lw_3 (List.mem_of_getElem? (i := 67) rfl) rfl
theorem tw3_68 : Cond.instanceMethod ⟨"FusedEngineModel", "change", "(III)V"⟩ ∈ lw_ok := lw_3 (List.mem_of_getElem? (i := 68) rfl) rfl
theorem tw3_69 : Cond.selects "FusedEngineModel" ⟨"FusedEngineModel", "change", "(III)V"⟩ ⟨"FusedEngineModel", "change", "(III)V"⟩ ∈ lw_ok := lw_3 (List.mem_of_getElem? (i := 69) rfl) rfl
theorem tw3_70 : Cond.code ⟨"FusedEngineModel", "change", "(III)V"⟩ prog_6_method_12_code 4 (Option.none : Option FieldType) ∈ lw_ok := lw_3 (List.mem_of_getElem? (i := 70) rfl) rfl
theorem tw3_71 : Cond.methodLink "FusedEngineLaw" 60 ⟨"FusedEngineModel", "clear", "()V"⟩ ∈ lw_ok := lw_3 (List.mem_of_getElem? (i := 71) rfl) rfl
theorem tw3_72 : Cond.instanceMethod ⟨"FusedEngineModel", "clear", "()V"⟩ ∈ lw_ok := lw_3 (List.mem_of_getElem? (i := 72) rfl) rfl
theorem tw3_73 : Cond.selects "FusedEngineModel" ⟨"FusedEngineModel", "clear", "()V"⟩ ⟨"FusedEngineModel", "clear", "()V"⟩ ∈ lw_ok := lw_3 (List.mem_of_getElem? (i := 73) rfl) rfl
theorem tw3_74 : Cond.code ⟨"FusedEngineModel", "clear", "()V"⟩ prog_6_method_13_code 1 (Option.none : Option FieldType) ∈ lw_ok := lw_3 (List.mem_of_getElem? (i := 74) rfl) rfl
theorem tw3_75 : Cond.methodLink "FusedEngineLaw" 64 ⟨"FusedEngineModel", "fuse", "()I"⟩ ∈ lw_ok := lw_3 (List.mem_of_getElem? (i := 75) rfl) rfl
theorem tw3_76 : Cond.instanceMethod ⟨"FusedEngineModel", "fuse", "()I"⟩ ∈ lw_ok := lw_3 (List.mem_of_getElem? (i := 76) rfl) rfl
theorem tw3_77 : Cond.selects "FusedEngineModel" ⟨"FusedEngineModel", "fuse", "()I"⟩ ⟨"FusedEngineModel", "fuse", "()I"⟩ ∈ lw_ok := lw_3 (List.mem_of_getElem? (i := 77) rfl) rfl
theorem tw3_78 : Cond.code ⟨"FusedEngineModel", "fuse", "()I"⟩ prog_6_method_18_code 5 (Option.some FieldType.int) ∈ lw_ok := lw_3 (List.mem_of_getElem? (i := 78) rfl) rfl
theorem tw3_79 : Cond.methodLink "FusedEngineModel" 100 ⟨"FusedEngineModel", "rowAt", "(I)I"⟩ ∈ lw_ok := lw_3 (List.mem_of_getElem? (i := 79) rfl) rfl
theorem tw3_80 : Cond.privateMethod ⟨"FusedEngineModel", "rowAt", "(I)I"⟩ ∈ tables_1 := lt_3 (List.mem_of_getElem? (i := 80) rfl)
theorem tw3_81 : Cond.instanceMethod ⟨"FusedEngineModel", "rowAt", "(I)I"⟩ ∈ lw_ok := lw_3 (List.mem_of_getElem? (i := 81) rfl) rfl
theorem tw3_82 : Cond.code ⟨"FusedEngineModel", "rowAt", "(I)I"⟩ prog_6_method_17_code 5 (Option.some FieldType.int) ∈ lw_ok := lw_3 (List.mem_of_getElem? (i := 82) rfl) rfl
theorem tw3_83 : Cond.methodLink "FusedEngineModel" 92 ⟨"FusedEngineModel", "alike", "(II)I"⟩ ∈ lw_ok := lw_3 (List.mem_of_getElem? (i := 83) rfl) rfl
theorem tw3_84 : Cond.privateMethod ⟨"FusedEngineModel", "alike", "(II)I"⟩ ∈ tables_1 := lt_3 (List.mem_of_getElem? (i := 84) rfl)
theorem tw3_85 : Cond.instanceMethod ⟨"FusedEngineModel", "alike", "(II)I"⟩ ∈ lw_ok := lw_3 (List.mem_of_getElem? (i := 85) rfl) rfl
theorem tw3_86 : Cond.code ⟨"FusedEngineModel", "alike", "(II)I"⟩ prog_6_method_16_code 4 (Option.some FieldType.int) ∈ lw_ok := lw_3 (List.mem_of_getElem? (i := 86) rfl) rfl
theorem tw3_87 : Cond.methodLink "FusedEngineModel" 89 ⟨"FusedEngineModel", "target", "(I)Z"⟩ ∈ lw_ok := lw_3 (List.mem_of_getElem? (i := 87) rfl) rfl
theorem tw3_88 : Cond.privateMethod ⟨"FusedEngineModel", "target", "(I)Z"⟩ ∈ tables_1 := lt_3 (List.mem_of_getElem? (i := 88) rfl)
theorem tw3_89 : Cond.instanceMethod ⟨"FusedEngineModel", "target", "(I)Z"⟩ ∈ lw_ok := lw_3 (List.mem_of_getElem? (i := 89) rfl) rfl
theorem tw3_90 : Cond.code ⟨"FusedEngineModel", "target", "(I)Z"⟩ prog_6_method_14_code 4 (Option.some FieldType.boolean) ∈ lw_ok := lw_3 (List.mem_of_getElem? (i := 90) rfl) rfl
theorem tw3_91 : Cond.methodLink "FusedEngineModel" 86 ⟨"FusedEngineModel", "leads", "(I)Z"⟩ ∈ lw_ok := lw_3 (List.mem_of_getElem? (i := 91) rfl) rfl
theorem tw3_92 : Cond.static ⟨"FusedEngineModel", "leads", "(I)Z"⟩ ∈ lw_ok := lw_3 (List.mem_of_getElem? (i := 92) rfl) rfl
theorem tw3_93 : Cond.code ⟨"FusedEngineModel", "leads", "(I)Z"⟩ prog_6_method_7_code 1 (Option.some FieldType.boolean) ∈ lw_ok := lw_3 (List.mem_of_getElem? (i := 93) rfl) rfl
theorem tw3_94 : Cond.methodLink "FusedEngineModel" 96 ⟨"FusedEngineModel", "lengthOf", "(I)I"⟩ ∈ lw_ok := lw_3 (List.mem_of_getElem? (i := 94) rfl) rfl
theorem tw3_95 : Cond.privateMethod ⟨"FusedEngineModel", "lengthOf", "(I)I"⟩ ∈ tables_1 := lt_3 (List.mem_of_getElem? (i := 95) rfl)
theorem tw3_96 : Cond.instanceMethod ⟨"FusedEngineModel", "lengthOf", "(I)I"⟩ ∈ lw_ok := lw_3 (List.mem_of_getElem? (i := 96) rfl) rfl
theorem tw3_97 : Cond.code ⟨"FusedEngineModel", "lengthOf", "(I)I"⟩ prog_6_method_15_code 3 (Option.some FieldType.int) ∈ lw_ok := lw_3 (List.mem_of_getElem? (i := 97) rfl) rfl
theorem tw3_98 : Cond.methodLink "FusedEngineLaw" 67 ⟨"FusedEngineModel", "look", "(II)I"⟩ ∈ lw_ok := lw_3 (List.mem_of_getElem? (i := 98) rfl) rfl
theorem tw3_99 : Cond.instanceMethod ⟨"FusedEngineModel", "look", "(II)I"⟩ ∈ lw_ok := lw_3 (List.mem_of_getElem? (i := 99) rfl) rfl
theorem tw3_100 : Cond.selects "FusedEngineModel" ⟨"FusedEngineModel", "look", "(II)I"⟩ ⟨"FusedEngineModel", "look", "(II)I"⟩ ∈ lw_ok := lw_3 (List.mem_of_getElem? (i := 100) rfl) rfl
theorem tw3_101 : Cond.code ⟨"FusedEngineModel", "look", "(II)I"⟩ prog_6_method_19_code 3 (Option.some FieldType.int) ∈ lw_ok := lw_3 (List.mem_of_getElem? (i := 101) rfl) rfl
theorem tw3_102 : Cond.methodLink "FusedEngineModel" 103 ⟨"FusedEngineModel", "refuse", "(I)I"⟩ ∈ lw_ok := lw_3 (List.mem_of_getElem? (i := 102) rfl) rfl
theorem tw3_103 : Cond.privateMethod ⟨"FusedEngineModel", "refuse", "(I)I"⟩ ∈ tables_1 := lt_3 (List.mem_of_getElem? (i := 103) rfl)
theorem tw3_104 : Cond.instanceMethod ⟨"FusedEngineModel", "refuse", "(I)I"⟩ ∈ lw_ok := lw_3 (List.mem_of_getElem? (i := 104) rfl) rfl
theorem tw3_105 : Cond.code ⟨"FusedEngineModel", "refuse", "(I)I"⟩ prog_6_method_3_code 2 (Option.some FieldType.int) ∈ lw_ok := lw_3 (List.mem_of_getElem? (i := 105) rfl) rfl
theorem tw3_106 : Cond.methodLink "FusedEngineLaw" 71 ⟨"FusedEngineModel", "run", "(ZI)I"⟩ ∈ lw_ok := lw_3 (List.mem_of_getElem? (i := 106) rfl) rfl
theorem tw3_107 : Cond.instanceMethod ⟨"FusedEngineModel", "run", "(ZI)I"⟩ ∈ lw_ok := lw_3 (List.mem_of_getElem? (i := 107) rfl) rfl
theorem tw3_108 : Cond.selects "FusedEngineModel" ⟨"FusedEngineModel", "run", "(ZI)I"⟩ ⟨"FusedEngineModel", "run", "(ZI)I"⟩ ∈ lw_ok := lw_3 (List.mem_of_getElem? (i := 108) rfl) rfl
theorem tw3_109 : Cond.code ⟨"FusedEngineModel", "run", "(ZI)I"⟩ prog_6_method_29_code 7 (Option.some FieldType.int) ∈ lw_ok := lw_3 (List.mem_of_getElem? (i := 109) rfl) rfl
theorem tw3_110 : Cond.methodLink "FusedEngineModel" 132 ⟨"FusedEngineModel", "act", "(I)Z"⟩ ∈ lw_ok := lw_3 (List.mem_of_getElem? (i := 110) rfl) rfl
theorem tw3_111 : Cond.privateMethod ⟨"FusedEngineModel", "act", "(I)Z"⟩ ∈ tables_1 := lt_3 (List.mem_of_getElem? (i := 111) rfl)
theorem tw3_112 : Cond.instanceMethod ⟨"FusedEngineModel", "act", "(I)Z"⟩ ∈ lw_ok := lw_3 (List.mem_of_getElem? (i := 112) rfl) rfl
theorem tw3_113 : Cond.code ⟨"FusedEngineModel", "act", "(I)Z"⟩ prog_6_method_28_code 5 (Option.some FieldType.boolean) ∈ lw_ok := lw_3 (List.mem_of_getElem? (i := 113) rfl) rfl
theorem tw3_114 : Cond.methodLink "FusedEngineModel" 123 ⟨"FusedEngineModel", "trap", "(II)I"⟩ ∈ lw_ok := lw_3 (List.mem_of_getElem? (i := 114) rfl) rfl
theorem tw3_115 : Cond.privateMethod ⟨"FusedEngineModel", "trap", "(II)I"⟩ ∈ tables_1 := lt_3 (List.mem_of_getElem? (i := 115) rfl)
theorem tw3_116 : Cond.instanceMethod ⟨"FusedEngineModel", "trap", "(II)I"⟩ ∈ lw_ok := lw_3 (List.mem_of_getElem? (i := 116) rfl) rfl
theorem tw3_117 : Cond.code ⟨"FusedEngineModel", "trap", "(II)I"⟩ prog_6_method_21_code 4 (Option.some FieldType.int) ∈ lw_ok := lw_3 (List.mem_of_getElem? (i := 117) rfl) rfl
theorem tw3_118 : Cond.methodLink "FusedEngineModel" 106 ⟨"FusedEngineModel", "takes", "(I)I"⟩ ∈ lw_ok := lw_3 (List.mem_of_getElem? (i := 118) rfl) rfl
theorem tw3_119 : Cond.privateMethod ⟨"FusedEngineModel", "takes", "(I)I"⟩ ∈ tables_1 := lt_3 (List.mem_of_getElem? (i := 119) rfl)
theorem tw3_120 : Cond.instanceMethod ⟨"FusedEngineModel", "takes", "(I)I"⟩ ∈ lw_ok := lw_3 (List.mem_of_getElem? (i := 120) rfl) rfl
theorem tw3_121 : Cond.code ⟨"FusedEngineModel", "takes", "(I)I"⟩ prog_6_method_20_code 2 (Option.some FieldType.int) ∈ lw_ok := lw_3 (List.mem_of_getElem? (i := 121) rfl) rfl
theorem tw3_122 : Cond.methodLink "FusedEngineModel" 126 ⟨"FusedEngineModel", "work", "(III)V"⟩ ∈ lw_ok := lw_3 (List.mem_of_getElem? (i := 122) rfl) rfl
theorem tw3_123 : Cond.privateMethod ⟨"FusedEngineModel", "work", "(III)V"⟩ ∈ tables_1 := lt_3 (List.mem_of_getElem? (i := 123) rfl)
theorem tw3_124 : Cond.instanceMethod ⟨"FusedEngineModel", "work", "(III)V"⟩ ∈ lw_ok := lw_3 (List.mem_of_getElem? (i := 124) rfl) rfl
theorem tw3_125 : Cond.code ⟨"FusedEngineModel", "work", "(III)V"⟩ prog_6_method_27_code 6 (Option.none : Option FieldType) ∈ lw_ok := lw_3 (List.mem_of_getElem? (i := 125) rfl) rfl
theorem tw3_126 : Cond.methodLink "FusedEngineModel" 109 ⟨"FusedEngineModel", "pop", "(I)I"⟩ ∈ lw_ok := lw_3 (List.mem_of_getElem? (i := 126) rfl) rfl
theorem tw3_127 : Cond.privateMethod ⟨"FusedEngineModel", "pop", "(I)I"⟩ ∈ tables_1 := lt_3 (List.mem_of_getElem? (i := 127) rfl)
theorem tw3_128 : Cond.instanceMethod ⟨"FusedEngineModel", "pop", "(I)I"⟩ ∈ lw_ok := lw_3 (List.mem_of_getElem? (i := 128) rfl) rfl
theorem tw3_129 : Cond.code ⟨"FusedEngineModel", "pop", "(I)I"⟩ prog_6_method_23_code 2 (Option.some FieldType.int) ∈ lw_ok := lw_3 (List.mem_of_getElem? (i := 129) rfl) rfl
theorem tw3_130 : Cond.methodLink "FusedEngineModel" 112 ⟨"FusedEngineModel", "reckon", "(III)I"⟩ ∈ lw_ok := lw_3 (List.mem_of_getElem? (i := 130) rfl) rfl
theorem tw3_131 : Cond.static ⟨"FusedEngineModel", "reckon", "(III)I"⟩ ∈ lw_ok := lw_3 (List.mem_of_getElem? (i := 131) rfl) rfl
theorem tw3_132 : Cond.code ⟨"FusedEngineModel", "reckon", "(III)I"⟩ prog_6_method_24_code 3 (Option.some FieldType.int) ∈ lw_ok := lw_3 (List.mem_of_getElem? (i := 132) rfl) rfl
theorem tw3_133 : Cond.methodLink "FusedEngineModel" 116 ⟨"FusedEngineModel", "push", "(II)V"⟩ ∈ lw_ok := lw_3 (List.mem_of_getElem? (i := 133) rfl) rfl
theorem tw3_134 : Cond.privateMethod ⟨"FusedEngineModel", "push", "(II)V"⟩ ∈ tables_1 := lt_3 (List.mem_of_getElem? (i := 134) rfl)
theorem tw3_135 : Cond.instanceMethod ⟨"FusedEngineModel", "push", "(II)V"⟩ ∈ lw_ok := lw_3 (List.mem_of_getElem? (i := 135) rfl) rfl
theorem tw3_136 : Cond.code ⟨"FusedEngineModel", "push", "(II)V"⟩ prog_6_method_22_code 3 (Option.none : Option FieldType) ∈ lw_ok := lw_3 (List.mem_of_getElem? (i := 136) rfl) rfl
theorem tw3_137 : Cond.methodLink "FusedEngineModel" 120 ⟨"FusedEngineModel", "say", "(II)V"⟩ ∈ lw_ok := lw_3 (List.mem_of_getElem? (i := 137) rfl) rfl
theorem tw3_138 : Cond.privateMethod ⟨"FusedEngineModel", "say", "(II)V"⟩ ∈ tables_1 := lt_3 (List.mem_of_getElem? (i := 138) rfl)
theorem tw3_139 : Cond.instanceMethod ⟨"FusedEngineModel", "say", "(II)V"⟩ ∈ lw_ok := lw_3 (List.mem_of_getElem? (i := 139) rfl) rfl
theorem tw3_140 : Cond.code ⟨"FusedEngineModel", "say", "(II)V"⟩ prog_6_method_25_code 3 (Option.none : Option FieldType) ∈ lw_ok := lw_3 (List.mem_of_getElem? (i := 140) rfl) rfl
theorem tw3_141 : Cond.methodLink "FusedEngineModel" 129 ⟨"FusedEngineModel", "next", "(III)I"⟩ ∈ lw_ok := lw_3 (List.mem_of_getElem? (i := 141) rfl) rfl
theorem tw3_142 : Cond.privateMethod ⟨"FusedEngineModel", "next", "(III)I"⟩ ∈ tables_1 := lt_3 (List.mem_of_getElem? (i := 142) rfl)
theorem tw3_143 : Cond.instanceMethod ⟨"FusedEngineModel", "next", "(III)I"⟩ ∈ lw_ok := lw_3 (List.mem_of_getElem? (i := 143) rfl) rfl
theorem tw3_144 : Cond.code ⟨"FusedEngineModel", "next", "(III)I"⟩ prog_6_method_26_code 5 (Option.some FieldType.int) ∈ lw_ok := lw_3 (List.mem_of_getElem? (i := 144) rfl) rfl
theorem tw3_145 : Cond.methodLink "FusedEngineLaw" 75 ⟨"FusedEngineModel", "restart", "()V"⟩ ∈ lw_ok := lw_3 (List.mem_of_getElem? (i := 145) rfl) rfl
theorem tw3_146 : Cond.instanceMethod ⟨"FusedEngineModel", "restart", "()V"⟩ ∈ lw_ok := lw_3 (List.mem_of_getElem? (i := 146) rfl) rfl
theorem tw3_147 : Cond.selects "FusedEngineModel" ⟨"FusedEngineModel", "restart", "()V"⟩ ⟨"FusedEngineModel", "restart", "()V"⟩ ∈ lw_ok := lw_3 (List.mem_of_getElem? (i := 147) rfl) rfl
theorem tw3_148 : Cond.code ⟨"FusedEngineModel", "restart", "()V"⟩ prog_6_method_30_code 1 (Option.none : Option FieldType) ∈ lw_ok := lw_3 (List.mem_of_getElem? (i := 148) rfl) rfl
theorem tw3_149 : Cond.methodLink "FusedEngineLaw" 79 ⟨"FusedEngineModel", "about", "(ZI)I"⟩ ∈ lw_ok := lw_3 (List.mem_of_getElem? (i := 149) rfl) rfl
theorem tw3_150 : Cond.instanceMethod ⟨"FusedEngineModel", "about", "(ZI)I"⟩ ∈ lw_ok := lw_3 (List.mem_of_getElem? (i := 150) rfl) rfl
theorem tw3_151 : Cond.selects "FusedEngineModel" ⟨"FusedEngineModel", "about", "(ZI)I"⟩ ⟨"FusedEngineModel", "about", "(ZI)I"⟩ ∈ lw_ok := lw_3 (List.mem_of_getElem? (i := 151) rfl) rfl
theorem tw3_152 : Cond.code ⟨"FusedEngineModel", "about", "(ZI)I"⟩ prog_6_method_31_code 4 (Option.some FieldType.int) ∈ lw_ok := lw_3 (List.mem_of_getElem? (i := 152) rfl) rfl
theorem tw3_153 : Cond.methodLink "FusedEngineLaw" 82 ⟨"FusedEngineModel", "stack", "(ZI)I"⟩ ∈ lw_ok := lw_3 (List.mem_of_getElem? (i := 153) rfl) rfl
theorem tw3_154 : Cond.instanceMethod ⟨"FusedEngineModel", "stack", "(ZI)I"⟩ ∈ lw_ok := lw_3 (List.mem_of_getElem? (i := 154) rfl) rfl
theorem tw3_155 : Cond.selects "FusedEngineModel" ⟨"FusedEngineModel", "stack", "(ZI)I"⟩ ⟨"FusedEngineModel", "stack", "(ZI)I"⟩ ∈ lw_ok := lw_3 (List.mem_of_getElem? (i := 155) rfl) rfl
theorem tw3_156 : Cond.code ⟨"FusedEngineModel", "stack", "(ZI)I"⟩ prog_6_method_32_code 4 (Option.some FieldType.int) ∈ lw_ok := lw_3 (List.mem_of_getElem? (i := 156) rfl) rfl
theorem tw3_157 : Cond.methodLink "FusedEngineLaw" 85 ⟨"FusedEngineModel", "local", "(ZI)I"⟩ ∈ lw_ok := lw_3 (List.mem_of_getElem? (i := 157) rfl) rfl
theorem tw3_158 : Cond.instanceMethod ⟨"FusedEngineModel", "local", "(ZI)I"⟩ ∈ lw_ok := lw_3 (List.mem_of_getElem? (i := 158) rfl) rfl
theorem tw3_159 : Cond.selects "FusedEngineModel" ⟨"FusedEngineModel", "local", "(ZI)I"⟩ ⟨"FusedEngineModel", "local", "(ZI)I"⟩ ∈ lw_ok := lw_3 (List.mem_of_getElem? (i := 159) rfl) rfl
theorem tw3_160 : Cond.code ⟨"FusedEngineModel", "local", "(ZI)I"⟩ prog_6_method_33_code 3 (Option.some FieldType.int) ∈ lw_ok := lw_3 (List.mem_of_getElem? (i := 160) rfl) rfl
theorem tw3_161 : Cond.methodLink "FusedEngineLaw" 88 ⟨"FusedEngineModel", "out", "(ZI)I"⟩ ∈ lw_ok := lw_3 (List.mem_of_getElem? (i := 161) rfl) rfl
theorem tw3_162 : Cond.instanceMethod ⟨"FusedEngineModel", "out", "(ZI)I"⟩ ∈ lw_ok := lw_3 (List.mem_of_getElem? (i := 162) rfl) rfl
theorem tw3_163 : Cond.selects "FusedEngineModel" ⟨"FusedEngineModel", "out", "(ZI)I"⟩ ⟨"FusedEngineModel", "out", "(ZI)I"⟩ ∈ lw_ok := lw_3 (List.mem_of_getElem? (i := 163) rfl) rfl
theorem tw3_164 : Cond.code ⟨"FusedEngineModel", "out", "(ZI)I"⟩ prog_6_method_34_code 4 (Option.some FieldType.int) ∈ lw_ok := lw_3 (List.mem_of_getElem? (i := 164) rfl) rfl
theorem tw3_165 : Cond.arrayClass FieldType.long ∈ lw_ok := lw_3 (List.mem_of_getElem? (i := 165) rfl) rfl
theorem tw3_166 : Cond.sameMethod "java/lang/Throwable" "java/lang/Throwable" "fillInStackTrace" "(I)Ljava/lang/Throwable;" ∈ lw_ok := lw_3 (List.mem_of_getElem? (i := 166) rfl) rfl
theorem tw3_167 : Cond.fieldLink "java/lang/String" 9 "java/lang/String" "value" "[B" ∈ lw_ok := lw_3 (List.mem_of_getElem? (i := 167) rfl) rfl
theorem tw3_168 : Cond.fieldLink "java/lang/String" 15 "java/lang/String" "coder" "B" ∈ lw_ok := lw_3 (List.mem_of_getElem? (i := 168) rfl) rfl
theorem ts_0 : Cond.selects "FusedEngine" ⟨"FusedEngine", "beginBoth", "()V"⟩ ⟨"FusedEngine", "beginBoth", "()V"⟩ ∈ lw_ok := lw_0 (List.mem_of_getElem? (i := 0) rfl) rfl
theorem ts_1 : Cond.selects "FusedEngine$Program" ⟨"FusedEngine$Program", "longestRowAt", "(I)I"⟩ ⟨"FusedEngine$Program", "longestRowAt", "(I)I"⟩ ∈ lw_ok := lw_0 (List.mem_of_getElem? (i := 1) rfl) rfl
theorem ts_2 : Cond.selects "FusedEngine$Program" ⟨"FusedEngine$Program", "isRowAt", "(III)Z"⟩ ⟨"FusedEngine$Program", "isRowAt", "(III)Z"⟩ ∈ lw_ok := lw_0 (List.mem_of_getElem? (i := 2) rfl) rfl
theorem ts_3 : Cond.selects "FusedEngine" ⟨"FusedEngine", "machineOf", "(Z)LFusedEngine$Machine;"⟩ ⟨"FusedEngine", "machineOf", "(Z)LFusedEngine$Machine;"⟩ ∈ lw_ok := lw_0 (List.mem_of_getElem? (i := 3) rfl) rfl
theorem ts_4 : Cond.selects "java/lang/Throwable" ⟨"java/lang/Throwable", "fillInStackTrace", "(I)Ljava/lang/Throwable;"⟩ ⟨"java/lang/Throwable", "fillInStackTrace", "(I)Ljava/lang/Throwable;"⟩ ∈ lw_ok := lw_0 (List.mem_of_getElem? (i := 4) rfl) rfl
theorem ts_5 : Cond.selects "FusedEngine$Program" ⟨"FusedEngine$Program", "findTargets", "()V"⟩ ⟨"FusedEngine$Program", "findTargets", "()V"⟩ ∈ lw_ok := lw_0 (List.mem_of_getElem? (i := 5) rfl) rfl
theorem ts_6 : Cond.selects "FusedEngine$Program" ⟨"FusedEngine$Program", "markTarget", "(I)V"⟩ ⟨"FusedEngine$Program", "markTarget", "(I)V"⟩ ∈ lw_ok := lw_0 (List.mem_of_getElem? (i := 6) rfl) rfl
theorem ts_7 : Cond.selects "FusedEngine$Machine" ⟨"FusedEngine$Machine", "doRow", "(LFusedEngine$Program;I)V"⟩ ⟨"FusedEngine$Machine", "doRow", "(LFusedEngine$Program;I)V"⟩ ∈ lw_ok := lw_0 (List.mem_of_getElem? (i := 7) rfl) rfl
theorem ts_8 : Cond.selects "FusedEngine$Machine" ⟨"FusedEngine$Machine", "trapOf", "(I)I"⟩ ⟨"FusedEngine$Machine", "trapOf", "(I)I"⟩ ∈ lw_ok := lw_0 (List.mem_of_getElem? (i := 8) rfl) rfl
theorem ts_9 : Cond.selects "FusedEngine$Machine" ⟨"FusedEngine$Machine", "act", "(II)V"⟩ ⟨"FusedEngine$Machine", "act", "(II)V"⟩ ∈ lw_ok := lw_0 (List.mem_of_getElem? (i := 9) rfl) rfl
theorem ts_10 : Cond.selects "FusedEngine$Machine" ⟨"FusedEngine$Machine", "push", "(I)V"⟩ ⟨"FusedEngine$Machine", "push", "(I)V"⟩ ∈ lw_ok := lw_0 (List.mem_of_getElem? (i := 10) rfl) rfl
theorem ts_11 : Cond.selects "FusedEngine$Machine" ⟨"FusedEngine$Machine", "pop", "()I"⟩ ⟨"FusedEngine$Machine", "pop", "()I"⟩ ∈ lw_ok := lw_0 (List.mem_of_getElem? (i := 11) rfl) rfl
theorem ts_12 : Cond.selects "FusedEngine$Machine" ⟨"FusedEngine$Machine", "exchange", "()V"⟩ ⟨"FusedEngine$Machine", "exchange", "()V"⟩ ∈ lw_ok := lw_0 (List.mem_of_getElem? (i := 12) rfl) rfl
theorem ts_13 : Cond.selects "FusedEngine$Machine" ⟨"FusedEngine$Machine", "putOut", "(I)V"⟩ ⟨"FusedEngine$Machine", "putOut", "(I)V"⟩ ∈ lw_ok := lw_0 (List.mem_of_getElem? (i := 13) rfl) rfl
theorem ts_14 : Cond.selects "FusedEngine$Machine" ⟨"FusedEngine$Machine", "combine", "(I)V"⟩ ⟨"FusedEngine$Machine", "combine", "(I)V"⟩ ∈ lw_ok := lw_0 (List.mem_of_getElem? (i := 14) rfl) rfl
theorem ts_15 : Cond.selects "FusedEngineModel" ⟨"FusedEngineModel", "set", "(III)V"⟩ ⟨"FusedEngineModel", "set", "(III)V"⟩ ∈ lw_ok := lw_0 (List.mem_of_getElem? (i := 15) rfl) rfl
theorem ts_16 : Cond.selects "FusedEngineModel" ⟨"FusedEngineModel", "begin", "()V"⟩ ⟨"FusedEngineModel", "begin", "()V"⟩ ∈ lw_ok := lw_0 (List.mem_of_getElem? (i := 16) rfl) rfl
theorem ts_17 : Cond.selects "FusedEngineModel" ⟨"FusedEngineModel", "rowAt", "(I)I"⟩ ⟨"FusedEngineModel", "rowAt", "(I)I"⟩ ∈ lw_ok := lw_0 (List.mem_of_getElem? (i := 17) rfl) rfl
theorem ts_18 : Cond.selects "FusedEngineModel" ⟨"FusedEngineModel", "alike", "(II)I"⟩ ⟨"FusedEngineModel", "alike", "(II)I"⟩ ∈ lw_ok := lw_0 (List.mem_of_getElem? (i := 18) rfl) rfl
theorem ts_19 : Cond.selects "FusedEngineModel" ⟨"FusedEngineModel", "target", "(I)Z"⟩ ⟨"FusedEngineModel", "target", "(I)Z"⟩ ∈ lw_ok := lw_0 (List.mem_of_getElem? (i := 19) rfl) rfl
theorem ts_20 : Cond.selects "FusedEngineModel" ⟨"FusedEngineModel", "lengthOf", "(I)I"⟩ ⟨"FusedEngineModel", "lengthOf", "(I)I"⟩ ∈ lw_ok := lw_0 (List.mem_of_getElem? (i := 20) rfl) rfl
theorem ts_21 : Cond.selects "FusedEngineModel" ⟨"FusedEngineModel", "refuse", "(I)I"⟩ ⟨"FusedEngineModel", "refuse", "(I)I"⟩ ∈ lw_ok := lw_0 (List.mem_of_getElem? (i := 21) rfl) rfl
theorem ts_22 : Cond.selects "FusedEngineModel" ⟨"FusedEngineModel", "act", "(I)Z"⟩ ⟨"FusedEngineModel", "act", "(I)Z"⟩ ∈ lw_ok := lw_0 (List.mem_of_getElem? (i := 22) rfl) rfl
theorem ts_23 : Cond.selects "FusedEngineModel" ⟨"FusedEngineModel", "trap", "(II)I"⟩ ⟨"FusedEngineModel", "trap", "(II)I"⟩ ∈ lw_ok := lw_0 (List.mem_of_getElem? (i := 23) rfl) rfl
theorem ts_24 : Cond.selects "FusedEngineModel" ⟨"FusedEngineModel", "takes", "(I)I"⟩ ⟨"FusedEngineModel", "takes", "(I)I"⟩ ∈ lw_ok := lw_0 (List.mem_of_getElem? (i := 24) rfl) rfl
theorem ts_25 : Cond.selects "FusedEngineModel" ⟨"FusedEngineModel", "work", "(III)V"⟩ ⟨"FusedEngineModel", "work", "(III)V"⟩ ∈ lw_ok := lw_0 (List.mem_of_getElem? (i := 25) rfl) rfl
theorem ts_26 : Cond.selects "FusedEngineModel" ⟨"FusedEngineModel", "pop", "(I)I"⟩ ⟨"FusedEngineModel", "pop", "(I)I"⟩ ∈ lw_ok := lw_0 (List.mem_of_getElem? (i := 26) rfl) rfl
theorem ts_27 : Cond.selects "FusedEngineModel" ⟨"FusedEngineModel", "push", "(II)V"⟩ ⟨"FusedEngineModel", "push", "(II)V"⟩ ∈ lw_ok := lw_0 (List.mem_of_getElem? (i := 27) rfl) rfl
theorem ts_28 : Cond.selects "FusedEngineModel" ⟨"FusedEngineModel", "say", "(II)V"⟩ ⟨"FusedEngineModel", "say", "(II)V"⟩ ∈ lw_ok := lw_0 (List.mem_of_getElem? (i := 28) rfl) rfl
theorem ts_29 : Cond.selects "FusedEngineModel" ⟨"FusedEngineModel", "next", "(III)I"⟩ ⟨"FusedEngineModel", "next", "(III)I"⟩ ∈ lw_ok := lw_0 (List.mem_of_getElem? (i := 29) rfl) rfl
abbrev R_Eng : String := "FusedEngine"
def F_Eng : u_T := fun k => match k with
  | 0 => ("FusedEngine", "program", "LFusedEngine$Program;", true)
  | 1 => ("FusedEngine", "plainMachine", "LFusedEngine$Machine;", true)
  | _ => ("FusedEngine", "fusedMachine", "LFusedEngine$Machine;", true)
def t_Eng : Nat → FieldType := fun k => match k with
  | 0 => .object "FusedEngine$Program"
  | 1 => .object "FusedEngine$Machine"
  | _ => .object "FusedEngine$Machine"
theorem n_Eng : ∀ a, a < 3 → ∀ b, b < 3 → a ≠ b → (F_Eng a).2.1 ≠ (F_Eng b).2.1 := by decide +kernel
theorem t_Eng_ok : ∀ k, k < 3 → parseFieldDescriptor (F_Eng k).2.2.1 = some (t_Eng k) := by decide +kernel
theorem in_Eng : ∀ w ∈ u_ws R_Eng F_Eng 3, w ∈ lw_ok := by
  intro w hw
  have h : w ∈ ([Cond.laysFinal "FusedEngine" "FusedEngine" "program" "LFusedEngine$Program;", Cond.laysFinal "FusedEngine" "FusedEngine" "plainMachine" "LFusedEngine$Machine;", Cond.laysFinal "FusedEngine" "FusedEngine" "fusedMachine" "LFusedEngine$Machine;"] : List Cond) := hw
  simp only [List.mem_cons, List.not_mem_nil, or_false] at h
  rcases h with rfl | rfl | rfl
  · exact tw1_105
  · exact tw1_107
  · exact tw1_109
abbrev R_Mac : String := "FusedEngine$Machine"
def F_Mac : u_T := fun k => match k with
  | 0 => ("FusedEngine$Machine", "values", "[I", true)
  | 1 => ("FusedEngine$Machine", "locals", "[I", true)
  | 2 => ("FusedEngine$Machine", "outputs", "[I", true)
  | 3 => ("FusedEngine$Machine", "returns", "[I", true)
  | 4 => ("FusedEngine$Machine", "height", "I", false)
  | 5 => ("FusedEngine$Machine", "returnCount", "I", false)
  | 6 => ("FusedEngine$Machine", "outputCount", "I", false)
  | 7 => ("FusedEngine$Machine", "place", "I", false)
  | 8 => ("FusedEngine$Machine", "state", "I", false)
  | _ => ("FusedEngine$Machine", "done", "I", false)
def t_Mac : Nat → FieldType := fun k => match k with
  | 0 => .array .int
  | 1 => .array .int
  | 2 => .array .int
  | 3 => .array .int
  | 4 => .int
  | 5 => .int
  | 6 => .int
  | 7 => .int
  | 8 => .int
  | _ => .int
theorem n_Mac : ∀ a, a < 10 → ∀ b, b < 10 → a ≠ b → (F_Mac a).2.1 ≠ (F_Mac b).2.1 := by decide +kernel
theorem t_Mac_ok : ∀ k, k < 10 → parseFieldDescriptor (F_Mac k).2.2.1 = some (t_Mac k) := by decide +kernel
theorem in_Mac : ∀ w ∈ u_ws R_Mac F_Mac 10, w ∈ lw_ok := by
  intro w hw
  have h : w ∈ ([Cond.laysFinal "FusedEngine$Machine" "FusedEngine$Machine" "values" "[I", Cond.laysFinal "FusedEngine$Machine" "FusedEngine$Machine" "locals" "[I", Cond.laysFinal "FusedEngine$Machine" "FusedEngine$Machine" "outputs" "[I", Cond.laysFinal "FusedEngine$Machine" "FusedEngine$Machine" "returns" "[I", Cond.lays "FusedEngine$Machine" "FusedEngine$Machine" "height" "I", Cond.lays "FusedEngine$Machine" "FusedEngine$Machine" "returnCount" "I", Cond.lays "FusedEngine$Machine" "FusedEngine$Machine" "outputCount" "I", Cond.lays "FusedEngine$Machine" "FusedEngine$Machine" "place" "I", Cond.lays "FusedEngine$Machine" "FusedEngine$Machine" "state" "I", Cond.lays "FusedEngine$Machine" "FusedEngine$Machine" "done" "I"] : List Cond) := hw
  simp only [List.mem_cons, List.not_mem_nil, or_false] at h
  rcases h with rfl | rfl | rfl | rfl | rfl | rfl | rfl | rfl | rfl | rfl
  · exact tw1_81
  · exact tw1_83
  · exact tw1_85
  · exact tw1_87
  · exact tw1_89
  · exact tw1_91
  · exact tw1_93
  · exact tw1_95
  · exact tw1_97
  · exact tw1_99
abbrev R_Prg : String := "FusedEngine$Program"
def F_Prg : u_T := fun k => match k with
  | 0 => ("FusedEngine$Program", "letters", "[I", true)
  | 1 => ("FusedEngine$Program", "numbers", "[I", true)
  | 2 => ("FusedEngine$Program", "targets", "[Z", true)
  | 3 => ("FusedEngine$Program", "rows", "[I", true)
  | 4 => ("FusedEngine$Program", "lengths", "[I", true)
  | 5 => ("FusedEngine$Program", "size", "I", false)
  | _ => ("FusedEngine$Program", "isFused", "Z", false)
def t_Prg : Nat → FieldType := fun k => match k with
  | 0 => .array .int
  | 1 => .array .int
  | 2 => .array .boolean
  | 3 => .array .int
  | 4 => .array .int
  | 5 => .int
  | _ => .boolean
theorem n_Prg : ∀ a, a < 7 → ∀ b, b < 7 → a ≠ b → (F_Prg a).2.1 ≠ (F_Prg b).2.1 := by decide +kernel
theorem t_Prg_ok : ∀ k, k < 7 → parseFieldDescriptor (F_Prg k).2.2.1 = some (t_Prg k) := by decide +kernel
theorem in_Prg : ∀ w ∈ u_ws R_Prg F_Prg 7, w ∈ lw_ok := by
  intro w hw
  have h : w ∈ ([Cond.laysFinal "FusedEngine$Program" "FusedEngine$Program" "letters" "[I", Cond.laysFinal "FusedEngine$Program" "FusedEngine$Program" "numbers" "[I", Cond.laysFinal "FusedEngine$Program" "FusedEngine$Program" "targets" "[Z", Cond.laysFinal "FusedEngine$Program" "FusedEngine$Program" "rows" "[I", Cond.laysFinal "FusedEngine$Program" "FusedEngine$Program" "lengths" "[I", Cond.lays "FusedEngine$Program" "FusedEngine$Program" "size" "I", Cond.lays "FusedEngine$Program" "FusedEngine$Program" "isFused" "Z"] : List Cond) := hw
  simp only [List.mem_cons, List.not_mem_nil, or_false] at h
  rcases h with rfl | rfl | rfl | rfl | rfl | rfl | rfl
  · exact tw1_44
  · exact tw1_46
  · exact tw1_48
  · exact tw1_50
  · exact tw1_52
  · exact tw1_54
  · exact tw1_56
abbrev R_Mod : String := "FusedEngineModel"
def F_Mod : u_T := fun k => match k with
  | 0 => ("FusedEngineModel", "code", "I", false)
  | 1 => ("FusedEngineModel", "size", "I", false)
  | 2 => ("FusedEngineModel", "letter", "[C", true)
  | 3 => ("FusedEngineModel", "number", "[I", true)
  | 4 => ("FusedEngineModel", "fused", "Z", false)
  | 5 => ("FusedEngineModel", "fusedTo", "[I", true)
  | 6 => ("FusedEngineModel", "rows", "[C", true)
  | 7 => ("FusedEngineModel", "place", "[I", true)
  | 8 => ("FusedEngineModel", "high", "[I", true)
  | 9 => ("FusedEngineModel", "depth", "[I", true)
  | 10 => ("FusedEngineModel", "put", "[I", true)
  | 11 => ("FusedEngineModel", "state", "[I", true)
  | 12 => ("FusedEngineModel", "done", "[I", true)
  | 13 => ("FusedEngineModel", "stack", "[I", true)
  | 14 => ("FusedEngineModel", "local", "[I", true)
  | 15 => ("FusedEngineModel", "back", "[I", true)
  | _ => ("FusedEngineModel", "outs", "[I", true)
def t_Mod : Nat → FieldType := fun k => match k with
  | 0 => .int
  | 1 => .int
  | 2 => .array .char
  | 3 => .array .int
  | 4 => .boolean
  | 5 => .array .int
  | 6 => .array .char
  | 7 => .array .int
  | 8 => .array .int
  | 9 => .array .int
  | 10 => .array .int
  | 11 => .array .int
  | 12 => .array .int
  | 13 => .array .int
  | 14 => .array .int
  | 15 => .array .int
  | _ => .array .int
theorem n_Mod : ∀ a, a < 17 → ∀ b, b < 17 → a ≠ b → (F_Mod a).2.1 ≠ (F_Mod b).2.1 := by decide +kernel
theorem t_Mod_ok : ∀ k, k < 17 → parseFieldDescriptor (F_Mod k).2.2.1 = some (t_Mod k) := by decide +kernel
theorem in_Mod : ∀ w ∈ u_ws R_Mod F_Mod 17, w ∈ lw_ok := by
  intro w hw
  have h : w ∈ ([Cond.lays "FusedEngineModel" "FusedEngineModel" "code" "I", Cond.lays "FusedEngineModel" "FusedEngineModel" "size" "I", Cond.laysFinal "FusedEngineModel" "FusedEngineModel" "letter" "[C", Cond.laysFinal "FusedEngineModel" "FusedEngineModel" "number" "[I", Cond.lays "FusedEngineModel" "FusedEngineModel" "fused" "Z", Cond.laysFinal "FusedEngineModel" "FusedEngineModel" "fusedTo" "[I", Cond.laysFinal "FusedEngineModel" "FusedEngineModel" "rows" "[C", Cond.laysFinal "FusedEngineModel" "FusedEngineModel" "place" "[I", Cond.laysFinal "FusedEngineModel" "FusedEngineModel" "high" "[I", Cond.laysFinal "FusedEngineModel" "FusedEngineModel" "depth" "[I", Cond.laysFinal "FusedEngineModel" "FusedEngineModel" "put" "[I", Cond.laysFinal "FusedEngineModel" "FusedEngineModel" "state" "[I", Cond.laysFinal "FusedEngineModel" "FusedEngineModel" "done" "[I", Cond.laysFinal "FusedEngineModel" "FusedEngineModel" "stack" "[I", Cond.laysFinal "FusedEngineModel" "FusedEngineModel" "local" "[I", Cond.laysFinal "FusedEngineModel" "FusedEngineModel" "back" "[I", Cond.laysFinal "FusedEngineModel" "FusedEngineModel" "outs" "[I"] : List Cond) := hw
  simp only [List.mem_cons, List.not_mem_nil, or_false] at h
  rcases h with rfl | rfl | rfl | rfl | rfl | rfl | rfl | rfl | rfl | rfl | rfl | rfl | rfl | rfl | rfl | rfl | rfl
  · exact tw3_3
  · exact tw3_5
  · exact tw3_7
  · exact tw3_9
  · exact tw3_11
  · exact tw3_13
  · exact tw3_15
  · exact tw3_17
  · exact tw3_19
  · exact tw3_21
  · exact tw3_23
  · exact tw3_25
  · exact tw3_27
  · exact tw3_29
  · exact tw3_31
  · exact tw3_33
  · exact tw3_35
/-- the classes whose objects the worlds hold: an object names its class by its place here -/
abbrev classes : List vw_C := [(R_Eng, F_Eng, 3), (R_Mac, F_Mac, 10), (R_Prg, F_Prg, 7), (R_Mod, F_Mod, 17)]
end
section
/-! BASE: contracts of two kinds (a method that only answers; a method that turns given cells), and the rows that call them. lw_ok (part 01) is the list of the tables' words that every contract carries. -/
/-- a fact of the tables alone -/
def kXm (X : State → Prop) : Prop := ∀ u U : State, u.WarmedH U.vm → X u → X U
abbrev kRm (fr lo : Nat) : Room := { frames := fr, cells := 0, slots := 0, locals := lo }
abbrev kWs (y : MethodName) (b : ByteArray) (n : Nat) (ret : Option FieldType) : List Cond := Cond.code y b n ret :: lw_ok
abbrev kPc (As : List Value) (H : Heap) (X : State → Prop) : Array Value → State → Prop := va_Pc As (fun U => U.heap = H ∧ X U)
/-- the end of a method that answers r and changes nothing -/
abbrev kQp (H : Heap) (r : Int32) : Array Value → State → Outcome → State → Prop := va_Qi (fun z (_ : Unit) => z = r) (fun _ t => t.heap = H) (fun _ => False)
/-- the end of a method that turns the cells w (at the heap H) into w1, void, or with the answer r -/
abbrev kQv (D : va_G) (H : Heap) (w w1 : va_W) : Array Value → State → Outcome → State → Prop := va_Qv (fun _ : Unit => True) (fun _ t => va_P D classes w1 t.heap ∧ va_D (va_A w H.size) w1) (va_A w H.size)
abbrev kQi (D : va_G) (H : Heap) (w w1 : va_W) (r : Int32) : Array Value → State → Outcome → State → Prop := va_Qi (fun z (_ : Unit) => z = r) (fun _ t => va_P D classes w1 t.heap ∧ va_D (va_A w H.size) w1) (va_A w H.size)
def kPu (l : Launch) (y : MethodName) (b : ByteArray) (n : Nat) (ret : Option FieldType) (fr lo : Nat) (As : List Value) (H : Heap) (X : State → Prop) (r : Int32) : Prop :=
  Met l y (kWs y b n ret) (kRm fr lo) (kPc As H X) (kQp H r) 0 0 (fun _ => False)
def kMv (l : Launch) (y : MethodName) (b : ByteArray) (n : Nat) (fr lo : Nat) (As : List Value) (H : Heap) (X : State → Prop) (D : va_G) (w w1 : va_W) : Prop :=
  Met l y (kWs y b n none) (kRm fr lo) (kPc As H X) (kQv D H w w1) 0 0 (va_A w H.size)
def kMi (l : Launch) (y : MethodName) (b : ByteArray) (n : Nat) (ret : Option FieldType) (fr lo : Nat) (As : List Value) (H : Heap) (X : State → Prop) (D : va_G) (w w1 : va_W) (r : Int32) : Prop :=
  Met l y (kWs y b n ret) (kRm fr lo) (kPc As H X) (kQi D H w w1 r) 0 0 (va_A w H.size)
/-- the words of a call site: the callee's code, its class, the link -/
def kWd (y : MethodName) (b : ByteArray) (n : Nat) (ret : Option FieldType) (own : String) (index k : Nat) : Prop :=
  Cond.code y b n ret ∈ lw_ok ∧ Cond.initialized y.cls ∈ lw_ok ∧ (y.cls ≠ "java/lang/invoke/MethodHandle" ∧ y.cls ≠ "java/lang/invoke/VarHandle") ∧ (parseMethodDescriptor y.desc).map (fun d => d.parameters.length) = some k ∧ Cond.methodLink own index y ∈ lw_ok
theorem kx_and {X Y : State → Prop} (h1 : kXm X) (h2 : kXm Y) : kXm (fun U => X U ∧ Y U) := fun u U hv h => ⟨h1 u U hv h.1, h2 u U hv h.2⟩
theorem kx_K {D : va_G} {cl : List vw_C} {tys : List (ClassId × FieldType)} : kXm (va_K D cl tys) := fun _ _ hv h => va_K.moved hv.alike h
theorem k_blind {As : List Value} {H : Heap} {X : State → Prop} (hm : kXm X) : FrameBlind (kPc As H X) := fun a U g mk q => by
  obtain ⟨q0, q1, q2⟩ := q
  exact ⟨q0, q1, hm U (U.calling g mk a) (State.WarmedH.refl U) q2⟩
section KB
variable {p : Program} {l : Launch} {e : Env} {R : Room} {s : State} {m : MethodId} {args : Array Value} {below : List Frame} {meth : Method} {c : Code} {H H0 : Heap} {locs : List Loc} {cells slots : Nat} {Q : State → Prop} {cc : ByteArray} {pc : Nat} {ls : Array Slot} {rest st : List Value} {own : String} {nL : Nat} {A0 : Nat → Prop}
theorem k_words (hT : ∀ w ∈ lw_ok, w.before args s = true) {y : MethodName} {b : ByteArray} {n : Nat} {ret : Option FieldType} (hc : Cond.code y b n ret ∈ lw_ok) : ∀ w ∈ kWs y b n ret, ∀ (a' : Array Value) (U : State), s.WarmedH U.vm → w.before a' U = true := by
  intro w hw a' U hW
  have hw' : w ∈ lw_ok := by
    rcases List.mem_cons.mp hw with h | h
    · rw [h]; exact hc
    · exact h
  exact word_at hW (good_of_word (lw_good w hw')) (hT w hw')
theorem k_len {y : MethodName} {k : Nat} (h : (parseMethodDescriptor y.desc).map (fun d => d.parameters.length) = some k) : ∀ sig, parseMethodDescriptor y.desc = some sig → k = sig.parameters.length := by
  intro sig hs
  rw [hs] at h
  exact (Option.some.inj h).symm
theorem k_B (hT : ∀ w ∈ lw_ok, w.before args s = true) {y : MethodName} {b : ByteArray} {n : Nat} {ret : Option FieldType} {index k fr lo : Nat} (hw : kWd y b n ret own index k) (hR : fr + 1 ≤ R.frames ∧ 8 + (n + 11) + lo ≤ R.locals) :
    CallB R s args own index y b n ret (kWs y b n ret) (kRm fr lo) 0 0 k := by
  obtain ⟨h1, h2, h3, h4, h5⟩ := hw
  exact ⟨rfl, rfl, hR.1, hR.2, k_words hT h1, List.mem_cons_self, hT _ h1, hT _ h2, h3, k_len h4, hT _ h5⟩
/-- invokestatic of a method that only answers -/
theorem kp_S (F : CallFix p m c cc nL s args lw_ok own) {y : MethodName} {b : ByteArray} {n : Nat} {ret : Option FieldType} {fr lo index k : Nat} {As : List Value} {X : State → Prop} {r : Int32} (hM : kPu l y b n ret fr lo As H X r) (hm : kXm X) (hX : X s) (hw : kWd y b n ret own index k) (hst : Cond.static y ∈ lw_ok) (hS : va_S A0 H0 H locs)
    (hd : decode cc pc = .ok (.invokestatic index, 3)) (hR : (fr + 1 ≤ R.frames ∧ 8 + (n + 11) + lo ≤ R.locals) ∧ cells ≤ R.cells ∧ slots ≤ R.slots) (hk : As.length = k) (hz : ls.size = nL) (hs : st = As.reverse ++ rest) (hr : (rest.map fun v => v.category).sum ≤ 8)
    (kk : ∀ locs1 : List Loc, va_S A0 H0 H locs1 → W p l e R s m args below meth c H locs1 cells slots Q (F0 m (pc + 3) ls (.int r :: rest))) : W p l e R s m args below meth c H locs cells slots Q (F0 m pc ls st) := by
  subst hs
  refine va_calli (va_runS F hM ⟨k_B F.2.2.2.2 hw hR.1, F.2.2.2.2 _ hst⟩ ⟨k_blind hm, fun U hU hW => ⟨rfl, hU, hm _ _ hW hX⟩⟩ rfl hk hz rfl (lv_room hr) hd hR.2) hS (fun q _ h => h.elim) (fun q h => h.elim) (fun z u t H1 locs1 ht hvm hp hB hz1 hk1 hS1 => ?_)
  have e1 : H1 = H := by rw [← ht]; exact hB
  subst hp
  subst e1
  exact kk locs1 hS1
/-- invokevirtual of a method that only answers -/
theorem kp_V (F : CallFix p m c cc nL s args lw_ok own) {y : MethodName} {b : ByteArray} {n : Nat} {ret : Option FieldType} {fr lo index k : Nat} {C : String} {o : Nat} {As : List Value} {X : State → Prop} {r : Int32} (hM : kPu l y b n ret fr lo (.ref o :: As) H X r) (hm : kXm X) (hX : X s) (hw : kWd y b n ret own index k) (hin : Cond.instanceMethod y ∈ lw_ok) (hse : Cond.selects C y y ∈ lw_ok)
    (ho : ∃ cell : Cell, H[o]? = some cell ∧ cell.vm.isStatics = false ∧ s.vm.findClass C = some cell.cls) (hS : va_S A0 H0 H locs)
    (hd : decode cc pc = .ok (.invokevirtual index, 3)) (hR : (fr + 1 ≤ R.frames ∧ 8 + (n + 11) + lo ≤ R.locals) ∧ cells ≤ R.cells ∧ slots ≤ R.slots) (hk : As.length = k) (hz : ls.size = nL) (hs : st = As.reverse ++ .ref o :: rest) (hr : (rest.map fun v => v.category).sum ≤ 8)
    (kk : ∀ locs1 : List Loc, va_S A0 H0 H locs1 → W p l e R s m args below meth c H locs1 cells slots Q (F0 m (pc + 3) ls (.int r :: rest))) : W p l e R s m args below meth c H locs cells slots Q (F0 m pc ls st) := by
  subst hs
  refine va_calli (va_runV F hM ⟨k_B F.2.2.2.2 hw hR.1, F.2.2.2.2 _ hin, F.2.2.2.2 _ hse⟩ ⟨k_blind hm, ho, fun U hU hW => ⟨rfl, hU, hm _ _ hW hX⟩⟩ rfl hk hz rfl (lv_room hr) hd hR.2) hS (fun q _ h => h.elim) (fun q h => h.elim) (fun z u t H1 locs1 ht hvm hp hB hz1 hk1 hS1 => ?_)
  have e1 : H1 = H := by rw [← ht]; exact hB
  subst hp
  subst e1
  exact kk locs1 hS1
/-- invokevirtual of a void method that turns the cells w (of ws: at isC; the rest of ws, at isR, is wr) into w1 -/
theorem km_Vv (F : CallFix p m c cc nL s args lw_ok own) {y : MethodName} {b : ByteArray} {n : Nat} {fr lo index k : Nat} {C : String} {o : Nat} {As : List Value} {X : State → Prop} {D : va_G} {ws w wr w1 : va_W} (hM : kMv l y b n fr lo (.ref o :: As) H X D w w1) (hm : kXm X) (hX : X s) (hw : kWd y b n none own index k) (hin : Cond.instanceMethod y ∈ lw_ok) (hse : Cond.selects C y y ∈ lw_ok)
    (ho : ∃ cell : Cell, H[o]? = some cell ∧ cell.vm.isStatics = false ∧ s.vm.findClass C = some cell.cls) (hP : va_P D classes ws H) (hD : va_D A0 ws) (hS : va_S A0 H0 H locs) (hA : ∀ q, H0.size ≤ q → A0 q)
    (isC isR : List Nat) (hC : isC.map (fun i => ws[i]?) = w.map some) (hRr : isR.map (fun i => ws[i]?) = wr.map some) (hn : va_nd isR = true) (hdis : ∀ i ∈ isR, i ∉ isC)
    (hd : decode cc pc = .ok (.invokevirtual index, 3)) (hR : (fr + 1 ≤ R.frames ∧ 8 + (n + 11) + lo ≤ R.locals) ∧ cells ≤ R.cells ∧ slots ≤ R.slots) (hk : As.length = k) (hz : ls.size = nL) (hs : st = As.reverse ++ .ref o :: rest) (hr : (rest.map fun v => v.category).sum ≤ 8)
    (kk : ∀ (H1 : Heap) (locs1 : List Loc), va_P D classes (wr ++ w1) H1 → va_D A0 (wr ++ w1) → va_S A0 H0 H1 locs1 → W p l e R s m args below meth c H1 locs1 cells slots Q (F0 m (pc + 3) ls rest)) : W p l e R s m args below meth c H locs cells slots Q (F0 m pc ls st) := by
  subst hs
  have hF := va_free (wc := w) hD hS hA isC hC
  refine va_callv (va_runV F hM ⟨k_B F.2.2.2.2 hw hR.1, F.2.2.2.2 _ hin, F.2.2.2.2 _ hse⟩ ⟨k_blind hm, ho, fun U hU hW => ⟨rfl, hU, hm _ _ hW hX⟩⟩ rfl hk hz rfl (lv_room hr) hd hR.2) hS (fun q _ h => hF q h) hF (fun u t H1 locs1 ht hvm hp hB hz1 hk1 hS1 => ?_)
  obtain ⟨hP1, hD1⟩ := hB
  rw [ht] at hP1
  obtain ⟨hP2, hD2⟩ := va_join hP hD isC isR hC hRr hn hdis hk1 hF hP1 hD1
  exact kk H1 locs1 hP2 hD2 hS1
/-- the same, with an int's answer -/
theorem km_Vi (F : CallFix p m c cc nL s args lw_ok own) {y : MethodName} {b : ByteArray} {n : Nat} {ret : Option FieldType} {fr lo index k : Nat} {C : String} {o : Nat} {As : List Value} {X : State → Prop} {D : va_G} {ws w wr w1 : va_W} {r : Int32} (hM : kMi l y b n ret fr lo (.ref o :: As) H X D w w1 r) (hm : kXm X) (hX : X s) (hw : kWd y b n ret own index k) (hin : Cond.instanceMethod y ∈ lw_ok) (hse : Cond.selects C y y ∈ lw_ok)
    (ho : ∃ cell : Cell, H[o]? = some cell ∧ cell.vm.isStatics = false ∧ s.vm.findClass C = some cell.cls) (hP : va_P D classes ws H) (hD : va_D A0 ws) (hS : va_S A0 H0 H locs) (hA : ∀ q, H0.size ≤ q → A0 q)
    (isC isR : List Nat) (hC : isC.map (fun i => ws[i]?) = w.map some) (hRr : isR.map (fun i => ws[i]?) = wr.map some) (hn : va_nd isR = true) (hdis : ∀ i ∈ isR, i ∉ isC)
    (hd : decode cc pc = .ok (.invokevirtual index, 3)) (hR : (fr + 1 ≤ R.frames ∧ 8 + (n + 11) + lo ≤ R.locals) ∧ cells ≤ R.cells ∧ slots ≤ R.slots) (hk : As.length = k) (hz : ls.size = nL) (hs : st = As.reverse ++ .ref o :: rest) (hr : (rest.map fun v => v.category).sum ≤ 8)
    (kk : ∀ (H1 : Heap) (locs1 : List Loc), va_P D classes (wr ++ w1) H1 → va_D A0 (wr ++ w1) → va_S A0 H0 H1 locs1 → W p l e R s m args below meth c H1 locs1 cells slots Q (F0 m (pc + 3) ls (.int r :: rest))) : W p l e R s m args below meth c H locs cells slots Q (F0 m pc ls st) := by
  subst hs
  have hF := va_free (wc := w) hD hS hA isC hC
  refine va_calli (va_runV F hM ⟨k_B F.2.2.2.2 hw hR.1, F.2.2.2.2 _ hin, F.2.2.2.2 _ hse⟩ ⟨k_blind hm, ho, fun U hU hW => ⟨rfl, hU, hm _ _ hW hX⟩⟩ rfl hk hz rfl (lv_room hr) hd hR.2) hS (fun q _ h => hF q h) hF (fun z u t H1 locs1 ht hvm hp hB hz1 hk1 hS1 => ?_)
  obtain ⟨hP1, hD1⟩ := hB
  rw [ht] at hP1
  obtain ⟨hP2, hD2⟩ := va_join hP hD isC isR hC hRr hn hdis hk1 hF hP1 hD1
  subst hp
  exact kk H1 locs1 hP2 hD2 hS1
/-- the end of a method that only answers -/
theorem kp_i {r v : Int32} (F : CallFix p m c cc nL s args lw_ok own) (hlocks : meth.locks = false) (hr : meth.sig.returnType = some .int) (hS : va_S (fun _ => False) s.heap s.heap locs) (hd : decode cc pc = .ok (.ireturn, 1)) (hv : v = r) :
    W p l e R s m args below meth c s.heap locs 0 0 (MQ below (kQp s.heap r) args s 0 0 (fun _ => False)) (F0 m pc ls [.int v]) :=
  W.iret F.1 F.2.1 hr (fun t ht hW => ⟨⟨v, (), rfl, hv, ht⟩, hS.F ht⟩) hS.2.2 hd hlocks
theorem kp_z {r v : Int32} {ty : FieldType} (F : CallFix p m c cc nL s args lw_ok own) (hlocks : meth.locks = false) (hr : meth.sig.returnType = some ty) (hS : va_S (fun _ => False) s.heap s.heap locs) (hd : decode cc pc = .ok (.ireturn, 1)) (hn : narrow ty (.int v) = .int v) (hv : v = r) :
    W p l e R s m args below meth c s.heap locs 0 0 (MQ below (kQp s.heap r) args s 0 0 (fun _ => False)) (F0 m pc ls [.int v]) :=
  W.zret F.1 F.2.1 hr hn (fun t ht hW => ⟨⟨v, (), rfl, hv, ht⟩, hS.F ht⟩) hS.2.2 hd hlocks
/-- the ends of a method that turns cells -/
theorem km_v {D : va_G} {w w1 w2 : va_W} (F : CallFix p m c cc nL s args lw_ok own) (hlocks : meth.locks = false) (hr : meth.sig.returnType = none) (hP : va_P D classes w2 H) (hD : va_D (va_A w s.heap.size) w2) (hS : va_S (va_A w s.heap.size) s.heap H locs) (hd : decode cc pc = .ok (.return_, 1)) (hw : w2 = w1) :
    W p l e R s m args below meth c H locs 0 0 (MQ below (kQv D s.heap w w1) args s 0 0 (va_A w s.heap.size)) (F0 m pc ls []) := by
  subst hw
  exact W.vret F.1 F.2.1 hr (fun t ht hW => ⟨⟨(), rfl, trivial, by rw [ht]; exact hP, hD⟩, hS.F ht⟩) hS.2.2 hd hlocks
theorem km_i {D : va_G} {w w1 w2 : va_W} {r v : Int32} (F : CallFix p m c cc nL s args lw_ok own) (hlocks : meth.locks = false) (hr : meth.sig.returnType = some .int) (hP : va_P D classes w2 H) (hD : va_D (va_A w s.heap.size) w2) (hS : va_S (va_A w s.heap.size) s.heap H locs) (hd : decode cc pc = .ok (.ireturn, 1)) (hv : v = r) (hw : w2 = w1) :
    W p l e R s m args below meth c H locs 0 0 (MQ below (kQi D s.heap w w1 r) args s 0 0 (va_A w s.heap.size)) (F0 m pc ls [.int v]) := by
  subst hw
  exact W.iret F.1 F.2.1 hr (fun t ht hW => ⟨⟨v, (), rfl, hv, by rw [ht]; exact hP, hD⟩, hS.F ht⟩) hS.2.2 hd hlocks
end KB
/-- the entry of a method: what every walk begins with -/
theorem k_of {l : Launch} {y : MethodName} {b : ByteArray} {n : Nat} {ret : Option FieldType} {rm : Room} {As : List Value} {H : Heap} {X : State → Prop} {Qc : Array Value → State → Outcome → State → Prop} {mc ms : Nat} {free : Addr → Prop} (hy : plainName y.cls = true) (hn : (lg_sl As).length ≤ n)
    (body : ∀ (p : Program) (e : Env) (s : State) (m : MethodId) (below : List Frame) (meth : Method) (c : Code) (ls : Array Slot), CallFix p m c b n s As.toArray lw_ok y.cls → meth.locks = false → meth.sig.returnType = ret → (meth.name = y.name) → s.heap = H → X s → lv_has ls n (lv_args 0 As) →
      W p l e rm s m As.toArray below meth c s.heap [] 0 0 (MQ below Qc As.toArray s mc ms free) (F0 m 0 ls [])) : Met l y (kWs y b n ret) rm (kPc As H X) Qc mc ms free := by
  refine Met.ofW (cc := b) (maxL := n) (ret := ret) hy rfl ?_
  intro p e s m args below meth c s₁ B hml hv
  obtain ⟨rfl, hh, hX⟩ := hv
  have hts := atoms_spec (ws := kWs y b n ret) B.pre
  rw [lg_entry_eq]
  exact body p e s m below meth c _ ⟨B.exec, B.bytes, hml, findClass_of_methodNamed B.named, fun w hw => hts w (List.mem_cons_of_mem _ hw)⟩ B.notSynchronized B.returns (name_of_methodNamed B.named B.method).1 hh hX (lv_entry As hn)
end
section
/-! EXCEPTIONS: a method that throws a new object of the class cls and changes nothing that was there; a call of it by a method that catches it. -/
theorem tx_same {s s' : State} {k n : Nat} (h : s.sameButNew s' [] k n) {a : Addr} (ha : a < s.heap.size) : s'.heap[a]? = s.heap[a]? := by
  obtain ⟨c', h1, h2, h3, h4⟩ := h.2.2.2.2.2 a _ (Array.getElem?_eq_getElem ha)
  have hs : c'.slots = (s.heap[a]).slots := Array.ext_getElem? (fun i => h4 i (by simp))
  rw [hs] at h2
  rw [h1, Array.getElem?_eq_getElem ha]
  exact congrArg some h2
/-- a static field of Throwable that holds a reference or null; its cell is one of the first B -/
def tzL (n d : String) (B : Nat) (U : State) (H : Heap) : Prop := ∃ (c : ClassId) (k : Class) (i : Nat) (f : Field) (a : Nat) (cell : Cell) (v : Value), U.vm.findClass Bundle.tN = some c ∧ U.fieldFound? Bundle.tN n d = some (c, k, i, f) ∧ f.isStatic = true ∧ k.statics = some a ∧ H[a]? = some cell ∧ cell.vm.isStatics = true ∧ cell.cls = c ∧ f.slot < cell.slots.size ∧ k.staticTypes[f.slot]? = some f.type ∧ cell.slots[f.slot]? = some v ∧ v.isRef = true ∧ a < B
theorem tzL.moved {n d : String} {B : Nat} {u U : State} {H : Heap} (hvm : u.vm.Alike U.vm) (h : tzL n d B u H) : tzL n d B U H := by
  obtain ⟨c, k, i, f, a, cell, v, h1, h2, h3, h4, h5, h6, h7, h8, h9, h10⟩ := h
  obtain ⟨k', hi', he⟩ := State.fieldFound?_setVm hvm h2
  exact ⟨c, k', i, f, a, cell, v, by rw [hvm.findClass]; exact h1, hi', h3, by rw [he]; exact h4, h5, h6, h7, h8, by rw [he]; exact h9, h10⟩
theorem tzL.kept {n d : String} {B : Nat} {U : State} {H H1 : Heap} (h : tzL n d B U H) (hq : ∀ a : Nat, a < B → H1[a]? = H[a]?) : tzL n d B U H1 := by
  obtain ⟨c, k, i, f, a, cell, v, h1, h2, h3, h4, h5, h6, h7, h8, h9, h10, h11, h12⟩ := h
  exact ⟨c, k, i, f, a, cell, v, h1, h2, h3, h4, by rw [hq a h12]; exact h5, h6, h7, h8, h9, h10, h11, h12⟩
theorem tzL.lays {n d : String} {B : Nat} {s : State} {args : Array Value} (h : tzL n d B s s.heap) : (Cond.laysStatic Bundle.tN n d).before args s = true := by
  obtain ⟨c, k, i, f, a, cell, v, h1, h2, h3, h4, h5, h6, h7, h8, h9, -⟩ := h
  show (Cond.laysStatic Bundle.tN n d).holds args s none s [] = true
  exact Cond.laysStatic_of h1 h2 h3 h4 h5 h6 h7 h8 h9
theorem tzL.ref {n d : String} {B : Nat} {s : State} {args : Array Value} (h : tzL n d B s s.heap) : (Cond.isRef (.static Bundle.tN n d)).before args s = true := by
  obtain ⟨c, k, i, f, a, cell, v, h1, h2, h3, h4, h5, h6, h7, h8, h9, h10, h11, -⟩ := h
  have he : (Term.static Bundle.tN n d).eval args s none [] s = some v := by
    simp [Term.eval, State.fieldNamed?, h2, h3, h4, h5, h6, h10]
  simp only [Cond.before, Cond.holds, Cond.value, he]
  cases v <;> simp_all [Value.isRef]
theorem tzL.of {n d : String} {s : State} {args : Array Value} (hl : (Cond.laysStatic Bundle.tN n d).before args s = true) (h : (Cond.isRef (.static Bundle.tN n d)).before args s = true) : tzL n d s.heap.size s s.heap := by
  obtain ⟨c, k, i, f, a, cell, h1, h2, h3, h4, h5, h6, h7, h8, h9⟩ := Cond.laysStatic_spec hl
  have he : (Term.static Bundle.tN n d).eval args s none [] s = cell.slots[f.slot]? := by
    simp [Term.eval, State.fieldNamed?, h2, h3, h4, h5, h6]
  simp only [Cond.before, Cond.holds, Cond.value, he] at h
  refine ⟨c, k, i, f, a, cell, cell.slots[f.slot], h1, h2, h3, h4, h5, h6, h7, h8, h9, Array.getElem?_eq_getElem h8, ?_, (Array.getElem?_eq_some_iff.mp h5).1⟩
  rw [Array.getElem?_eq_getElem h8] at h
  cases hv : cell.slots[f.slot] <;> rw [hv] at h <;> simp_all [Value.isRef]
/-- can an object of the class c be assigned to the class t? -/
def tzC (c t : String) (v : Bool) (U : State) : Prop := ∃ a b : ClassId, U.vm.findClass c = some a ∧ U.vm.findClass t = some b ∧ U.vm.assignable a b = v
theorem tzC.moved {c t : String} {v : Bool} {u U : State} (hvm : u.vm.Alike U.vm) (h : tzC c t v u) : tzC c t v U := by
  obtain ⟨a, b, h1, h2, h3⟩ := h
  exact ⟨a, b, by rw [hvm.findClass]; exact h1, by rw [hvm.findClass]; exact h2, by rw [hvm.assignable]; exact h3⟩
theorem tzC.word {c t : String} {s : State} {args : Array Value} (h : tzC c t true s) : (Cond.castable c t).before args s = true := by
  obtain ⟨a, b, h1, h2, h3⟩ := h
  simp only [Cond.before, Cond.holds, Cond.value, h1, h2, h3]
  rfl
theorem tzC.of {c t : String} {s : State} {args : Array Value} (h : (Cond.castable c t).before args s = true) : tzC c t true s := by
  obtain ⟨a, b, h1, h2, h3⟩ := Cond.castable_spec h
  exact ⟨a, b, h1, h2, h3⟩
theorem tzC.ofNot {c t : String} {s : State} {args : Array Value} {a b : ClassId} (h1 : s.vm.findClass c = some a) (h2 : s.vm.findClass t = some b) (h : (Cond.not (.castable c t)).before args s = true) : tzC c t false s := by
  have hv := Cond.holds_not_iff.mp h
  simp only [Cond.value, h1, h2] at hv
  exact ⟨a, b, h1, h2, Option.some.inj hv⟩
abbrev xIA : String := "java/lang/IllegalArgumentException"
abbrev xIS : String := "java/lang/IllegalStateException"
abbrev xNS : String := "java/util/NoSuchElementException"
/-- what every throw and every catch needs of the heap and of the tables -/
def tz (B : Nat) (H : Heap) (U : State) : Prop := tzL "UNASSIGNED_STACK" Bundle.steD B U H ∧ tzL "SUPPRESSED_SENTINEL" Bundle.listD B U H ∧ tzC xIA xIA true U ∧ tzC xIS xIS true U ∧ tzC xNS xNS true U ∧ tzC xIS xIA false U ∧ tzC xIA xNS false U
theorem tz_m {B : Nat} {H : Heap} : kXm (tz B H) := fun _ _ hv h => ⟨h.1.moved hv.alike, h.2.1.moved hv.alike, h.2.2.1.moved hv.alike, h.2.2.2.1.moved hv.alike, h.2.2.2.2.1.moved hv.alike, h.2.2.2.2.2.1.moved hv.alike, h.2.2.2.2.2.2.moved hv.alike⟩
theorem tz.kept {B : Nat} {H H1 : Heap} {U : State} (h : tz B H U) (hq : ∀ a : Nat, a < B → H1[a]? = H[a]?) : tz B H1 U := ⟨h.1.kept hq, h.2.1.kept hq, h.2.2⟩
def tz_no (cls : String) (w : Cond) : Bool := decide (w = .castable cls cls) || decide (w = .isRef (.static Bundle.tN "UNASSIGNED_STACK" Bundle.steD)) || decide (w = .isRef (.static Bundle.tN "SUPPRESSED_SENTINEL" Bundle.listD)) || decide (w = .laysStatic Bundle.tN "UNASSIGNED_STACK" Bundle.steD) || decide (w = .laysStatic Bundle.tN "SUPPRESSED_SENTINEL" Bundle.listD)
theorem tz_own {B : Nat} {s : State} {args : Array Value} {cls : String} (h : tz B s.heap s) (hc : tzC cls cls true s) (hT : ∀ w ∈ lw_ok, w.before args s = true) {L : List Cond} (hL : L.all (fun w => decide (w ∈ lw_ok) || tz_no cls w) = true) : ∀ w ∈ L, w.before args s = true := by
  intro w hw
  have h1 := List.all_eq_true.mp hL w hw
  simp only [Bool.or_eq_true, decide_eq_true_eq, tz_no] at h1
  rcases h1 with h1 | ((((h1 | h1) | h1) | h1) | h1)
  · exact hT w h1
  · rw [h1]; exact hc.word
  · rw [h1]; exact h.1.ref
  · rw [h1]; exact h.2.1.ref
  · rw [h1]; exact h.1.lays
  · rw [h1]; exact h.2.1.lays
/-- the end of a method that threw a new object of the class cls, and changed nothing that was there -/
def tx_End (cls : String) (mc ms : Nat) (st : State) (o : Outcome) (t : State) : Prop :=
  ∃ (x : Addr) (ce : Cell), o = .threw x ∧ st.WarmedH t.vm ∧ st.sameButNew ({ t with vm := st.vm } : State) [] mc ms ∧ t.heap[x]? = some ce ∧ st.vm.findClass cls = some ce.cls ∧ ce.vm = .none
def kTh (l : Launch) (y : MethodName) (b : ByteArray) (n : Nat) (ret : Option FieldType) (fr lo : Nat) (As : List Value) (H : Heap) (X : State → Prop) (cls : String) : Prop :=
  MetFree l y (headSpec (kWs y b n ret) { frames := fr, cells := 1, slots := 6, locals := lo }) (kPc As H X) (fun _ _ _ _ _ => True) (fun _ st o t => tx_End cls 1 6 st o t)
abbrev kQt (below : List Frame) (s : State) (cls : String) : State → Prop := fun t => ∃ o, t.status = .running ∧ Ended t below o ∧ tx_End cls 1 6 s o t
theorem kt_of {l : Launch} {y : MethodName} {b : ByteArray} {n : Nat} {ret : Option FieldType} {fr lo : Nat} {As : List Value} {H : Heap} {X : State → Prop} {cls : String} (hy : plainName y.cls = true) (hn : (lg_sl As).length ≤ n)
    (body : ∀ (p : Program) (e : Env) (s : State) (m : MethodId) (below : List Frame) (meth : Method) (c : Code) (ls : Array Slot), CallFix p m c b n s As.toArray lw_ok y.cls → meth.locks = false → c.exceptionTable.isEmpty = true → s.heap = H → X s → lv_has ls n (lv_args 0 As) →
      W p l e { frames := fr, cells := 1, slots := 6, locals := lo } s m As.toArray below meth c s.heap [] 0 0 (kQt below s cls) (F0 m 0 ls [])) : kTh l y b n ret fr lo As H X cls := by
  refine MetFree.of_bodyS (code := b) (maxLocals := n) (ret := ret) hy ?_ ?_
  · intro args s m h hnm
    obtain ⟨meth, c, h1, h2, h3, h4, h5, h6, -, -⟩ := Cond.code_spec hnm (atoms_spec (ws := kWs y b n ret) h _ List.mem_cons_self)
    exact ⟨meth, c, h1, h2, h3, h4, h5, h6⟩
  · intro p e s m args below meth c s₁ B hml hv _
    obtain ⟨rfl, hh, hX⟩ := hv
    have hts := atoms_spec (ws := kWs y b n ret) B.pre
    have hh0 : s₁.heap = s.heap := by rw [B.state]; rfl
    have hex : c.exceptionTable.isEmpty = true := BodyLoose.noHandlers B (hts _ List.mem_cons_self)
    have K := body p e s m below meth c _ ⟨B.exec, B.bytes, B.maxLocals_eq (hts _ List.mem_cons_self), findClass_of_methodNamed B.named, fun w hw => hts w (List.mem_cons_of_mem _ hw)⟩ B.notSynchronized hex hh hX (lv_entry As hn)
    rw [← lg_entry_eq] at K
    obtain ⟨t, a1, o, b1, b2, b3⟩ := K s₁ hh0 (Stand.of_body B)
    exact ⟨t, o, a1, b1, b2, b3⟩
section KT
variable {p : Program} {l : Launch} {e : Env} {R : Room} {s : State} {m : MethodId} {args : Array Value} {below : List Frame} {meth : Method} {c : Code} {H H0 : Heap} {locs : List Loc} {cells slots : Nat} {Q : State → Prop} {cc : ByteArray} {pc : Nat} {ls : Array Slot} {rest st : List Value} {own : String} {nL : Nat} {A0 : Nat → Prop}
set_option maxRecDepth 100000 in
set_option maxHeartbeats 4000000 in
/-- 'throw new cls(text)', from the 'new' on, in a method that has written nothing -/
theorem kt_throw {cls tx : String} {names : List String} {ik is ic q B : Nat} (F : CallFix p m c cc nL s args lw_ok own) (hlocks : meth.locks = false) (hex : c.exceptionTable.isEmpty = true) (hl : l.stackTraces = false) (hz : tz B s.heap s) (hc : tzC cls cls true s) (hL : (Bundle.ownAtoms own ic cls names).all (fun w => decide (w ∈ lw_ok) || tz_no cls w) = true)
    (hcls : Bundle.fit cls = true) (hnames : ∀ n ∈ names, Bundle.fit n = true) (hcl : Cond.classLink own ik cls ∈ lw_ok) (hin : Cond.instantiable cls 6 ∈ lw_ok) (hini : Cond.initialized cls ∈ lw_ok) (hq : vk_R own is tx q s) (hS : va_S (fun _ => False) s.heap s.heap locs) (hsz : ls.size = nL) (hR : names.length + 3 < R.frames ∧ (rest.map fun v => v.category).sum + 13 * (names.length + 1) + 43 ≤ R.locals ∧ 1 ≤ R.cells ∧ 6 ≤ R.slots)
    (d1 : decode cc pc = .ok (.new ik, 3)) (d2 : decode cc (pc + 3) = .ok (.dup, 1)) (d3 : decode cc (pc + 4) = .ok (.ldc is, 2)) (d4 : decode cc (pc + 6) = .ok (.invokespecial ic, 3)) (d5 : decode cc (pc + 9) = .ok (.athrow, 1)) :
    W p l e R s m args below meth c s.heap locs 0 0 (kQt below s cls) (F0 m pc ls rest) := by
  obtain ⟨hx, hb, hml, hown, hT⟩ := F
  refine va_forget (fun z hz => (hS.2.2 z hz).elim) ?_
  refine W.newc hx hb hown (hT _ hcl) (hT _ hin) (hT _ hini) rfl d1 (by omega) (by omega) (fun cC kC h1 h2 h3 h4 => ?_)
  refine lv_dup hx hb d2 rfl ?_
  refine va_ldcS hx hb hown hq d3 ?_
  intro T hT0 X
  have htr : e.platform.stackTraces = false := (show e.platform.stackTraces = l.stackTraces by rw [X.admits.platform]).trans hl
  obtain ⟨U, hsteps, hrun, hend, hW, hsame, ce, hce, hown'⟩ := X.ctorThrowS hx htr (own := own) (cls := cls) (names := names) (ic := ic) hown hcls hnames (tz_own hz hc hT hL) (fun x h => by cases h) (a := s.heap.size) (cX := cC) (kX := kC) h1 h2
    (by rw [hT0]; simp [freshCell]) (Nat.le_refl _) (msg := .ref q) rfl (g := F0 m (pc + 6) ls (.ref q :: .ref s.heap.size :: .ref s.heap.size :: rest)) rfl (hsz.trans hml.symm) rfl rfl (rest := rest) rfl (by rw [hb]; exact d4) (by rw [hb]; exact d5) (fun x hx => by simp at hex; rw [hex] at hx; simp at hx) hR.1 (by show 2 * 0 + (1 + (rest.map fun v => v.category).sum) + _ ≤ _; omega) hlocks
  exact ⟨U, hsteps, .threw s.heap.size, hrun, hend, s.heap.size, ce, rfl, hW, hsame, hce, hown'.cls, hown'.vm⟩
/-- the search for a handler, through rows that are passed, to one that takes the object: the tables that it leaves are warmer -/
theorem tx_go {s₀ : State} {f : JFrame} {a : Addr} {ce : Cell} (hobj : ∀ k, ce.vm ≠ .statics k) (hk0 : ∃ k, s₀.vm.classes[ce.cls]? = some k) (x : ExceptionTableEntry) (suf : List ExceptionTableEntry) (hx : covers x f.pc = true) (h0 : x.catchType ≠ 0) {cx : ClassId} (hlx : s₀.vm.ClassLinks e.platform f.method.cls x.catchType cx) (hfx : s₀.vm.assignable ce.cls cx = true) :
    ∀ (pre : List ExceptionTableEntry) (S : State), s₀.WarmedH S.vm → S.heap[a]? = some ce → (∀ y ∈ pre, covers y f.pc = true ∧ y.catchType ≠ 0 ∧ ∃ cy, s₀.vm.ClassLinks e.platform f.method.cls y.catchType cy ∧ s₀.vm.assignable ce.cls cy = false) →
      ∃ vm', s₀.WarmedH vm' ∧ ∀ (Q : Handler → Pre) (E : CtlPost) (d : Bool) (acts : List Action), wp (findHandler.go f a (pre ++ x :: suf)) Q E e d acts S ↔ Q (.found x.handlerPc) d acts (S.setVm vm') := by
  obtain ⟨k0, hk0⟩ := hk0
  have one : ∀ (S : State) (y : ExceptionTableEntry) (cy : ClassId) (t : List ExceptionTableEntry), s₀.WarmedH S.vm → S.heap[a]? = some ce → covers y f.pc = true → y.catchType ≠ 0 → s₀.vm.ClassLinks e.platform f.method.cls y.catchType cy →
      s₀.WarmedH (S.vm.noted f.method.cls y.catchType (.cls cy)) ∧ ∀ (Q : Handler → Pre) (E : CtlPost) (d : Bool) (acts : List Action), wp (findHandler.go f a (y :: t)) Q E e d acts S ↔ if s₀.vm.assignable ce.cls cy = true then Q (.found y.handlerPc) d acts (S.setVm (S.vm.noted f.method.cls y.catchType (.cls cy))) else wp (findHandler.go f a t) Q E e d acts (S.setVm (S.vm.noted f.method.cls y.catchType (.cls cy))) := by
    intro S y cy t hW hcell hcov hy0 hl
    obtain ⟨dk, _, _, kt, hd, _, _, _, _, hkt, _, hopen⟩ := hl.here
    refine ⟨hW.noted hd hopen (State.rightAt_cls hl), fun Q E d acts => ?_⟩
    obtain ⟨ha, ht⟩ := (resolveClass_links e.toSetting (hW.classLinks hl)).op (op := VmOp.resolveClass f.method.cls y.catchType) rfl
    have hal : s₀.vm.Alike (S.vm.noted f.method.cls y.catchType (.cls cy)) := hW.alike.trans ((Vm.Alike.refl S.vm).noted _ _ _)
    obtain ⟨k1', hk1', -⟩ := hal.2.2 _ _ hk0
    obtain ⟨k2', hk2', -⟩ := hal.2.2 _ _ hkt
    have hasg : (S.vm.noted f.method.cls y.catchType (.cls cy)).assignable ce.cls cy = s₀.vm.assignable ce.cls cy := hal.assignable _ _
    simp only [covers] at hcov
    cases hfit : s₀.vm.assignable ce.cls cy <;> rw [hfit] at hasg <;> simp [findHandler.go, hcov, hy0, ha, ht, hcell, hobj, hk1', hk2', hasg, VmOp.dirties, VmOp.acts]
  intro pre
  induction pre with
  | nil =>
    intro S hW hcell _
    obtain ⟨h1, h2⟩ := one S x cx suf hW hcell hx h0 hlx
    exact ⟨_, h1, fun Q E d acts => by rw [List.nil_append, h2, if_pos hfx]⟩
  | cons y ys ih =>
    intro S hW hcell hpass
    obtain ⟨hcov, hy0, cy, hl, hno⟩ := hpass y List.mem_cons_self
    obtain ⟨h1, h2⟩ := one S y cy (ys ++ x :: suf) hW hcell hcov hy0 hl
    obtain ⟨vm', hW', hq⟩ := ih (S.setVm (S.vm.noted f.method.cls y.catchType (.cls cy))) h1 hcell (fun z hz => hpass z (List.mem_cons_of_mem _ hz))
    exact ⟨vm', hW', fun Q E d acts => by rw [List.cons_append, h2, if_neg (by rw [hno]; decide), hq]; rfl⟩
/-- a call of a method that throws, up to the note that it lays -/
theorem kt_call {y : MethodName} {b : ByteArray} {n : Nat} {ret : Option FieldType} {fr lo : Nat} {As : List Value} {X : State → Prop} {cls : String} (hT : ∀ w ∈ lw_ok, w.before args s = true) (hM : kTh l y b n ret fr lo As H X cls) (hm : kXm X) (hX : X s) (hc : Cond.code y b n ret ∈ lw_ok) (hi : Cond.initialized y.cls ∈ lw_ok)
    {T : State} (S : Stand p l e R s m args below meth c T locs cells slots) (hTH : T.heap = H) {g : JFrame} (hg : g.method = m) (hsize : g.locals.size = c.maxLocals) {ig : Instr} {len : Nat} (hdg : decode c.code g.pc = .ok (ig, len)) (hW : 2 * g.monitorRoom + (g.stack.map fun v => v.category).sum ≤ 8) {mk : MethodId} (hn : T.methodNamed? y = some mk)
    (hR : (fr + 1 ≤ R.frames ∧ 8 + (n + 11) + lo ≤ R.locals) ∧ cells + 1 ≤ R.cells ∧ slots + 6 ≤ R.slots) :
    ∃ (x : Addr) (T' : State) (ce : Cell), Stand p l e R s m args below meth c T' locs (cells + 1) (slots + 6) ∧ T'.heap[x]? = some ce ∧ s.vm.findClass cls = some ce.cls ∧ ce.vm = .none ∧ H.size ≤ T'.heap.size ∧ (∀ q, q < H.size → T'.heap[q]? = H[q]?) ∧
      Steps p.tables e below (doInvoke e (T.setTop g) [] mk As.toArray).1 ((T'.setTop g).pushFrame (.throwing x)) := by
  subst hg
  subst hTH
  have hcode := k_words hT hc _ List.mem_cons_self As.toArray T S.warmed
  have hini := word_at (a' := As.toArray) S.warmed (good_of_word (lw_good _ hi)) (hT _ hi)
  obtain ⟨methY, cY, hmY, hcY, -, hlY, -, -, -, -⟩ := Cond.code_spec hn hcode
  obtain ⟨kY, hkY, -⟩ := className_of_methodNamed hn
  have hinitY : kY.init = .initialized := Cond.initialized_spec (findClass_of_methodNamed hn) hkY hini
  have happ : (headSpec (kWs y b n ret) { frames := fr, cells := 1, slots := 6, locals := lo }).appliesLoose y e.platform (T.calling g mk As.toArray) = true :=
    Spec.appliesLoose_calling (g := g) S.here hdg hn hkY hinitY (S.room_calling (g := g) (R' := { frames := fr, cells := 1, slots := 6, locals := lo }) hsize hmY hcY hR.1.1 (by rw [hlY]; show _ + (n + 11) + lo ≤ _; omega) hR.2.1 hR.2.2) (atoms_intro fun w hw => k_words hT hc w hw _ _ S.warmed)
  obtain ⟨mid, hmid⟩ := S.here.above
  have hfr : (T.setTop g).frames = (.java g :: mid) ++ below := by rw [State.frames_setTop' g S.here.top, hmid]; rfl
  obtain ⟨o, s₂, hsteps, -, hend, hq⟩ := Steps.callFree hM p S.admits S.cas S.clock (acts := []) hfr happ (k_blind hm As.toArray T g mk ⟨rfl, rfl, hm _ _ S.warmed hX⟩) trivial
  obtain ⟨x, ce, rfl, hW₂, hsame, hce, hcl, hvm⟩ := hq
  rw [State.frames_setTop' g S.here.top] at hend
  have hf₂ : s₂.frames = .throwing x :: .java g :: T.frames.tail := hend
  have hW' : T.WarmedH s₂.vm := hW₂
  obtain ⟨g₀, hg0⟩ := Option.isSome_iff_exists.mp S.here.top
  obtain ⟨r, hr⟩ := State.topJava?_eq_some.mp hg0
  have e2 := hsame.1
  have e3 : s₂ = ({ (T.calling g mk As.toArray).setFrames s₂.frames with heap := s₂.heap, slotsUsed := s₂.slotsUsed } : State).setVm s₂.vm := by
    have h9 : s₂ = ({ s₂ with vm := (T.calling g mk As.toArray).vm } : State).setVm s₂.vm := rfl
    exact h9.trans (congrArg (fun z : State => z.setVm s₂.vm) e2)
  have hs₂ : s₂ = ((({ T with heap := s₂.heap, slotsUsed := s₂.slotsUsed } : State).setVm s₂.vm).setTop g).pushFrame (.throwing x) := by
    have hr' : (({ T with heap := s₂.heap, slotsUsed := s₂.slotsUsed } : State).setVm s₂.vm).frames = .java g₀ :: r := hr
    refine e3.trans ?_
    rw [hf₂, State.calling_eq S.here.top, State.setFrames_setFrames, State.pushFrame, State.frames_setTop _ hr', State.setTop_of_frames _ hr', State.setFrames_setFrames, hr]
    rfl
  have hsame2 : T.sameButNew ({ T with heap := s₂.heap, slotsUsed := s₂.slotsUsed } : State) [] 1 6 := by
    obtain ⟨q1, q2, q3, q4, q5, q6⟩ := hsame
    refine ⟨?_, q2, q3, q4, q5, q6⟩
    obtain ⟨t, ht, -⟩ := State.frames_cons hr
    show ({ T with heap := s₂.heap, slotsUsed := s₂.slotsUsed } : State) = { T.setFrames T.frames with heap := s₂.heap, slotsUsed := s₂.slotsUsed }
    rw [State.setFrames_self ht]
  have hsame3 := S.same.trans (hsame2.setVm s.vm)
  rw [List.append_nil] at hsame3
  refine ⟨x, ({ T with heap := s₂.heap, slotsUsed := s₂.slotsUsed } : State).setVm s₂.vm, ce, ⟨S.admits, S.cas, S.clock, S.frames, S.room, S.hears, S.method, S.code, (S.here.setHeapUsed s₂.heap s₂.slotsUsed).setVm hW'.alike, S.tail, State.WarmedH.trans S.warmed hW', S.limits, S.bytes, hsame3⟩, hce, ?_, hvm, hsame2.2.1, fun q hq => tx_same hsame2 hq, ?_⟩
  · have h9 : T.vm.findClass cls = some ce.cls := hcl
    rw [S.warmed.alike.findClass] at h9
    exact h9
  · show Steps p.tables e below _ (((({ T with heap := s₂.heap, slotsUsed := s₂.slotsUsed } : State).setVm s₂.vm).setTop g).pushFrame (.throwing x))
    rw [← hs₂]
    exact hsteps
/-- invokevirtual of a method that throws; the caller catches it: the row x of its table takes the class cls, those ahead of it don't -/
theorem kt_V (F : CallFix p m c cc nL s args lw_ok own) {y : MethodName} {b : ByteArray} {n : Nat} {ret : Option FieldType} {fr lo index k : Nat} {C : String} {o : Nat} {As : List Value} {X : State → Prop} {cls : String} (hM : kTh l y b n ret fr lo (.ref o :: As) H X cls) (hm : kXm X) (hX : X s) (hw : kWd y b n ret own index k) (hin : Cond.instanceMethod y ∈ lw_ok) (hse : Cond.selects C y y ∈ lw_ok)
    (ho : ∃ cell : Cell, H[o]? = some cell ∧ cell.vm.isStatics = false ∧ s.vm.findClass C = some cell.cls)
    (pre : List ExceptionTableEntry) (x : ExceptionTableEntry) (suf : List ExceptionTableEntry) (hsplit : c.exceptionTable.toList = pre ++ x :: suf) (hx : covers x pc = true) (h0 : x.catchType ≠ 0) {nm : String} (hlx : Cond.classLink own x.catchType nm ∈ lw_ok) (hcx : tzC cls nm true s)
    (hpass : ∀ z ∈ pre, covers z pc = true ∧ z.catchType ≠ 0 ∧ ∃ nz, Cond.classLink own z.catchType nz ∈ lw_ok ∧ tzC cls nz false s)
    (hd : decode cc pc = .ok (.invokevirtual index, 3)) (hR : (fr + 1 ≤ R.frames ∧ 8 + (n + 11) + lo ≤ R.locals) ∧ cells + 1 ≤ R.cells ∧ slots + 6 ≤ R.slots) (hk : As.length = k) (hz : ls.size = nL) (hs : st = As.reverse ++ .ref o :: rest) (hr : (rest.map fun v => v.category).sum ≤ 8)
    (kk : ∀ (q : Addr) (H1 : Heap), H.size ≤ H1.size → (∀ a, a < H.size → H1[a]? = H[a]?) → W p l e R s m args below meth c H1 locs (cells + 1) (slots + 6) Q (F0 m x.handlerPc ls [.ref q])) : W p l e R s m args below meth c H locs cells slots Q (F0 m pc ls st) := by
  subst hs
  obtain ⟨hexec, hb, hml, hown, hT⟩ := F
  obtain ⟨hc, hi, hy, hln, hlink⟩ := hw
  intro T hTH S
  have hpl : e.platform.magicAccessors = ({} : Platform).magicAccessors := by rw [S.admits.platform]
  obtain ⟨mk, methM, hnamed, hmethM, hstM, habM⟩ := Cond.instanceMethod_spec (hT _ hin)
  obtain ⟨methM', cM, hmethM', -, -, -, -, -, -, hsigM⟩ := Cond.code_spec hnamed (hT _ hc)
  cases hmethM.symm.trans hmethM'
  obtain ⟨c2, r2, m2, q1, q2, q3, q4, kP, hkP, hkPi⟩ := Cond.selects_spec (hT _ hse)
  obtain ⟨cellB, hcell, hobj, hcls⟩ := ho
  cases hcls.symm.trans q1
  cases (State.methodFound?_of_named hnamed hy).symm.trans q2
  cases hnamed.symm.trans q3
  have hselP : selectMethod e.platform s.vm cellB.cls mk = .method mk := by rw [Launch.admits_selectMethod S.admits]; exact q4
  have hsz : (F0 m pc ls (As.reverse ++ .ref o :: rest)).locals.size = c.maxLocals := hz.trans hml.symm
  obtain ⟨vm₁, X₁, hstep₁⟩ := S.invokevirtual hexec hown (hT _ hlink) hnamed hmethM hstM hkP hkPi hy (a := o) (cell := cellB) (by rw [hTH]; exact hcell)
    (fun z h => by rw [h] at hobj; cases hobj) hselP hmethM habM hkP hkPi (g := F0 m pc ls (As.reverse ++ .ref o :: rest)) rfl (argsL := As) (rest := rest) (hk.trans (k_len hln _ hsigM)) rfl (by rw [hb]; exact hd)
  obtain ⟨q, T', ce, X₂, hce, hcc, hcv, hsz2, hsame, hsteps⟩ := kt_call (g := { F0 m pc ls (As.reverse ++ .ref o :: rest) with stack := rest }) hT hM hm hX hc hi X₁ hTH rfl hsz (ig := .invokevirtual index) (len := 3) (by rw [hb]; exact hd) (lv_room hr) (X₁.named hnamed) hR
  have hobj2 : ∀ k, ce.vm ≠ .statics k := fun k h => by rw [hcv] at h; cases h
  have hk0 : ∃ k, s.vm.classes[ce.cls]? = some k := Vm.classAt_of_findClass hcc
  have link : ∀ {i : Nat} {nz : String} {v : Bool}, Cond.classLink own i nz ∈ lw_ok → tzC cls nz v s → ∃ cz, s.vm.ClassLinks e.platform m.cls i cz ∧ s.vm.assignable ce.cls cz = v := by
    intro i nz v h1 h2
    obtain ⟨a, b, g1, g2, g3⟩ := h2
    obtain ⟨c', hc', hcl⟩ := Cond.classLink_spec hown (hT _ h1) e.platform hpl
    cases g2.symm.trans hc'
    cases g1.symm.trans hcc
    exact ⟨b, hcl, g3⟩
  obtain ⟨cx, hl1, hl2⟩ := link hlx hcx
  obtain ⟨vm₂, hW₂, hgo⟩ := tx_go (e := e) (s₀ := s) (f := F0 m pc ls rest) (a := q) (ce := ce) hobj2 hk0 x suf hx h0 hl1 hl2 pre ((T'.setTop (F0 m pc ls rest)).pushFrame (.throwing q)) (by rw [throwing_vm]; exact X₂.warmed) (by rw [throwing_heap]; exact hce)
    (fun z hzz => by
      obtain ⟨g1, g2, nz, g3, g4⟩ := hpass z hzz
      exact ⟨g1, g2, link g3 g4⟩)
  have X₃ := X₂.noted hW₂
  obtain ⟨t, ht1, ht2⟩ := kk q T'.heap hsz2 hsame (T'.setVm vm₂) rfl X₃
  refine ⟨t, ?_, ht2⟩
  refine hstep₁ _ fun acts => ?_
  rw [doInvoke_state]
  refine hsteps.trans ?_
  have hat : At T' (F0 m pc ls rest).method c below := X₂.here
  obtain ⟨hgo1, hw1⟩ := hat.throwing q
  refine Steps.head hgo1 hw1 ?_
  have hfind : ∀ (Q : Handler → Pre) (E : CtlPost) (d : Bool) (acts : List Action), wp (findHandler (F0 m pc ls rest) q) Q E e d acts ((T'.setTop (F0 m pc ls rest)).pushFrame (.throwing q)) ↔ Q (.found x.handlerPc) d acts (((T'.setTop (F0 m pc ls rest)).pushFrame (.throwing q)).setVm vm₂) := fun Q E d acts => by
    rw [W.findHandler_eq (meth := meth) (code := c) (by rw [throwing_vm]; exact X₂.method') X₂.code, hsplit]
    exact hgo Q E d acts
  have hf : (stepThrowing e ((T'.setTop (F0 m pc ls rest)).pushFrame (.throwing q)) q (.java (F0 m pc ls rest) :: T'.frames.tail)).1 = (((T'.setTop (F0 m pc ls rest)).pushFrame (.throwing q)).setVm vm₂).setFrames (.java { F0 m pc ls rest with pc := x.handlerPc, stack := [.ref q] } :: T'.frames.tail) := by
    simp only [stepThrowing, searchFrame, vmDo]
    generalize hr9 : Sem.go _ e false [] _ = res
    obtain ⟨as, rfl, ha⟩ := Sem.eq_ok_of hr9 (a := Handler.found x.handlerPc) (s' := ((T'.setTop (F0 m pc ls rest)).pushFrame (.throwing q)).setVm vm₂) (acts' := []) (by simp [hfind _ _ _ _])
    rfl
  rw [stepThread_throwing (frames_entered hat.top _), hf]
  obtain ⟨g₀, hg0⟩ := Option.isSome_iff_exists.mp hat.top
  obtain ⟨r, hr2⟩ := State.topJava?_eq_some.mp hg0
  have hr3 : (T'.setVm vm₂).frames = .java g₀ :: r := hr2
  rw [State.setTop_of_frames _ hr3] at ht1
  have e9 : (((T'.setTop (F0 m pc ls rest)).pushFrame (.throwing q)).setVm vm₂).setFrames (.java { F0 m pc ls rest with pc := x.handlerPc, stack := [.ref q] } :: T'.frames.tail) = (T'.setVm vm₂).setFrames (.java (F0 m x.handlerPc ls [.ref q]) :: r) := by
    have sv : ∀ (u : State) (F G : List Frame), ((u.setFrames F).setVm vm₂).setFrames G = (u.setVm vm₂).setFrames G := fun u F G => by
      have h1 : (u.setFrames F).setVm vm₂ = (u.setVm vm₂).setFrames F := rfl
      rw [h1, State.setFrames_setFrames]
    rw [hr2, List.tail_cons, State.pushFrame, sv, State.setTop_of_frames _ hr2, sv]
  rw [e9]
  exact ht1
end KT
end
