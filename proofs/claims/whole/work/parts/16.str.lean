/-! STRINGS: the String constant of the letters, and the methods of java.lang.String that are called on it -/
abbrev y_Str_length : MethodName := ⟨"java/lang/String", "length", "()I"⟩
abbrev b_Str_length : ByteArray := prog_12_method_54_code
theorem d_Str_length_0 : decode b_Str_length 0 = .ok (.aload_n 0, 1) := by decide +kernel
theorem d_Str_length_1 : decode b_Str_length 1 = .ok (.getfield 9, 3) := by decide +kernel
theorem d_Str_length_4 : decode b_Str_length 4 = .ok (.arraylength, 1) := by decide +kernel
theorem d_Str_length_5 : decode b_Str_length 5 = .ok (.aload_n 0, 1) := by decide +kernel
theorem d_Str_length_6 : decode b_Str_length 6 = .ok (.invokevirtual 335, 3) := by decide +kernel
theorem d_Str_length_9 : decode b_Str_length 9 = .ok (.ishr, 1) := by decide +kernel
theorem d_Str_length_10 : decode b_Str_length 10 = .ok (.ireturn, 1) := by decide +kernel
abbrev y_Str_charAt : MethodName := ⟨"java/lang/String", "charAt", "(I)C"⟩
abbrev b_Str_charAt : ByteArray := prog_12_method_56_code
theorem d_Str_charAt_0 : decode b_Str_charAt 0 = .ok (.aload_n 0, 1) := by decide +kernel
theorem d_Str_charAt_1 : decode b_Str_charAt 1 = .ok (.invokevirtual 492, 3) := by decide +kernel
theorem d_Str_charAt_4 : decode b_Str_charAt 4 = .ok (.ifCond .eq 12, 3) := by decide +kernel
theorem d_Str_charAt_7 : decode b_Str_charAt 7 = .ok (.aload_n 0, 1) := by decide +kernel
theorem d_Str_charAt_8 : decode b_Str_charAt 8 = .ok (.getfield 9, 3) := by decide +kernel
theorem d_Str_charAt_11 : decode b_Str_charAt 11 = .ok (.iload_n 1, 1) := by decide +kernel
theorem d_Str_charAt_12 : decode b_Str_charAt 12 = .ok (.invokestatic 495, 3) := by decide +kernel
theorem d_Str_charAt_15 : decode b_Str_charAt 15 = .ok (.ireturn, 1) := by decide +kernel
theorem d_Str_charAt_16 : decode b_Str_charAt 16 = .ok (.aload_n 0, 1) := by decide +kernel
theorem d_Str_charAt_17 : decode b_Str_charAt 17 = .ok (.getfield 9, 3) := by decide +kernel
theorem d_Str_charAt_20 : decode b_Str_charAt 20 = .ok (.iload_n 1, 1) := by decide +kernel
theorem d_Str_charAt_21 : decode b_Str_charAt 21 = .ok (.invokestatic 498, 3) := by decide +kernel
theorem d_Str_charAt_24 : decode b_Str_charAt 24 = .ok (.ireturn, 1) := by decide +kernel
abbrev y_Str_coder : MethodName := ⟨"java/lang/String", "coder", "()B"⟩
abbrev b_Str_coder : ByteArray := prog_12_method_152_code
theorem d_Str_coder_0 : decode b_Str_coder 0 = .ok (.getstatic 38, 3) := by decide +kernel
theorem d_Str_coder_3 : decode b_Str_coder 3 = .ok (.ifCond .eq 10, 3) := by decide +kernel
theorem d_Str_coder_6 : decode b_Str_coder 6 = .ok (.aload_n 0, 1) := by decide +kernel
theorem d_Str_coder_7 : decode b_Str_coder 7 = .ok (.getfield 15, 3) := by decide +kernel
theorem d_Str_coder_10 : decode b_Str_coder 10 = .ok (.goto 4, 3) := by decide +kernel
theorem d_Str_coder_13 : decode b_Str_coder 13 = .ok (.iconst 1, 1) := by decide +kernel
theorem d_Str_coder_14 : decode b_Str_coder 14 = .ok (.ireturn, 1) := by decide +kernel
theorem kw_StrJ_coder_335 : kWd ⟨"java/lang/String", "coder", "()B"⟩ prog_12_method_152_code 1 (some FieldType.byte) "java/lang/String" 335 0 := ⟨tw1_192, tw1_5, ⟨by decide, by decide⟩, by decide +kernel, tw1_189⟩
abbrev y_Str_isLatin1 : MethodName := ⟨"java/lang/String", "isLatin1", "()Z"⟩
abbrev b_Str_isLatin1 : ByteArray := prog_12_method_154_code
theorem d_Str_isLatin1_0 : decode b_Str_isLatin1 0 = .ok (.getstatic 38, 3) := by decide +kernel
theorem d_Str_isLatin1_3 : decode b_Str_isLatin1 3 = .ok (.ifCond .eq 14, 3) := by decide +kernel
theorem d_Str_isLatin1_6 : decode b_Str_isLatin1 6 = .ok (.aload_n 0, 1) := by decide +kernel
theorem d_Str_isLatin1_7 : decode b_Str_isLatin1 7 = .ok (.getfield 15, 3) := by decide +kernel
theorem d_Str_isLatin1_10 : decode b_Str_isLatin1 10 = .ok (.ifCond .ne 7, 3) := by decide +kernel
theorem d_Str_isLatin1_13 : decode b_Str_isLatin1 13 = .ok (.iconst 1, 1) := by decide +kernel
theorem d_Str_isLatin1_14 : decode b_Str_isLatin1 14 = .ok (.goto 4, 3) := by decide +kernel
theorem d_Str_isLatin1_17 : decode b_Str_isLatin1 17 = .ok (.iconst 0, 1) := by decide +kernel
theorem d_Str_isLatin1_18 : decode b_Str_isLatin1 18 = .ok (.ireturn, 1) := by decide +kernel
theorem kw_StrJ_isLatin1_492 : kWd ⟨"java/lang/String", "isLatin1", "()Z"⟩ prog_12_method_154_code 1 (some FieldType.boolean) "java/lang/String" 492 0 := ⟨tw1_202, tw1_5, ⟨by decide, by decide⟩, by decide +kernel, tw1_199⟩
abbrev y_Str_checkIndex : MethodName := ⟨"java/lang/String", "checkIndex", "(II)V"⟩
abbrev b_Str_checkIndex : ByteArray := prog_12_method_155_code
theorem d_Str_checkIndex_0 : decode b_Str_checkIndex 0 = .ok (.iload_n 0, 1) := by decide +kernel
theorem d_Str_checkIndex_1 : decode b_Str_checkIndex 1 = .ok (.iload_n 1, 1) := by decide +kernel
theorem d_Str_checkIndex_2 : decode b_Str_checkIndex 2 = .ok (.getstatic 1053, 3) := by decide +kernel
theorem d_Str_checkIndex_5 : decode b_Str_checkIndex 5 = .ok (.invokestatic 1059, 3) := by decide +kernel
theorem d_Str_checkIndex_8 : decode b_Str_checkIndex 8 = .ok (.pop, 1) := by decide +kernel
theorem d_Str_checkIndex_9 : decode b_Str_checkIndex 9 = .ok (.return_, 1) := by decide +kernel
theorem kw_StrJ_checkIndex_9 : kWd ⟨"java/lang/String", "checkIndex", "(II)V"⟩ prog_12_method_155_code 2 none "java/lang/StringLatin1" 9 2 := ⟨tw1_208, tw1_5, ⟨by decide, by decide⟩, by decide +kernel, tw1_206⟩
theorem kw_StrJ_checkIndex_414 : kWd ⟨"java/lang/String", "checkIndex", "(II)V"⟩ prog_12_method_155_code 2 none "java/lang/StringUTF16" 414 2 := ⟨tw1_208, tw1_5, ⟨by decide, by decide⟩, by decide +kernel, tw1_223⟩
abbrev y_Lat_charAt : MethodName := ⟨"java/lang/StringLatin1", "charAt", "([BI)C"⟩
abbrev b_Lat_charAt : ByteArray := prog_13_method_2_code
theorem d_Lat_charAt_0 : decode b_Lat_charAt 0 = .ok (.iload_n 1, 1) := by decide +kernel
theorem d_Lat_charAt_1 : decode b_Lat_charAt 1 = .ok (.aload_n 0, 1) := by decide +kernel
theorem d_Lat_charAt_2 : decode b_Lat_charAt 2 = .ok (.arraylength, 1) := by decide +kernel
theorem d_Lat_charAt_3 : decode b_Lat_charAt 3 = .ok (.invokestatic 9, 3) := by decide +kernel
theorem d_Lat_charAt_6 : decode b_Lat_charAt 6 = .ok (.aload_n 0, 1) := by decide +kernel
theorem d_Lat_charAt_7 : decode b_Lat_charAt 7 = .ok (.iload_n 1, 1) := by decide +kernel
theorem d_Lat_charAt_8 : decode b_Lat_charAt 8 = .ok (.baload, 1) := by decide +kernel
theorem d_Lat_charAt_9 : decode b_Lat_charAt 9 = .ok (.sipush 255, 3) := by decide +kernel
theorem d_Lat_charAt_12 : decode b_Lat_charAt 12 = .ok (.iand, 1) := by decide +kernel
theorem d_Lat_charAt_13 : decode b_Lat_charAt 13 = .ok (.i2c, 1) := by decide +kernel
theorem d_Lat_charAt_14 : decode b_Lat_charAt 14 = .ok (.ireturn, 1) := by decide +kernel
theorem kw_LatJ_charAt_495 : kWd ⟨"java/lang/StringLatin1", "charAt", "([BI)C"⟩ prog_13_method_2_code 2 (some FieldType.char) "java/lang/String" 495 2 := ⟨tw1_205, tw1_6, ⟨by decide, by decide⟩, by decide +kernel, tw1_203⟩
abbrev y_Pre_checkIndex : MethodName := ⟨"jdk/internal/util/Preconditions", "checkIndex", "(IILjava/util/function/BiFunction;)I"⟩
abbrev b_Pre_checkIndex : ByteArray := prog_18_method_11_code
theorem d_Pre_checkIndex_0 : decode b_Pre_checkIndex 0 = .ok (.iload_n 0, 1) := by decide +kernel
theorem d_Pre_checkIndex_1 : decode b_Pre_checkIndex 1 = .ok (.ifCond .lt 8, 3) := by decide +kernel
theorem d_Pre_checkIndex_4 : decode b_Pre_checkIndex 4 = .ok (.iload_n 0, 1) := by decide +kernel
theorem d_Pre_checkIndex_5 : decode b_Pre_checkIndex 5 = .ok (.iload_n 1, 1) := by decide +kernel
theorem d_Pre_checkIndex_6 : decode b_Pre_checkIndex 6 = .ok (.if_icmp .lt 10, 3) := by decide +kernel
theorem d_Pre_checkIndex_9 : decode b_Pre_checkIndex 9 = .ok (.aload_n 2, 1) := by decide +kernel
theorem d_Pre_checkIndex_10 : decode b_Pre_checkIndex 10 = .ok (.iload_n 0, 1) := by decide +kernel
theorem d_Pre_checkIndex_11 : decode b_Pre_checkIndex 11 = .ok (.iload_n 1, 1) := by decide +kernel
theorem d_Pre_checkIndex_12 : decode b_Pre_checkIndex 12 = .ok (.invokestatic 95, 3) := by decide +kernel
theorem d_Pre_checkIndex_15 : decode b_Pre_checkIndex 15 = .ok (.athrow, 1) := by decide +kernel
theorem d_Pre_checkIndex_16 : decode b_Pre_checkIndex 16 = .ok (.iload_n 0, 1) := by decide +kernel
theorem d_Pre_checkIndex_17 : decode b_Pre_checkIndex 17 = .ok (.ireturn, 1) := by decide +kernel
theorem kw_PreJ_checkIndex_1059 : kWd ⟨"jdk/internal/util/Preconditions", "checkIndex", "(IILjava/util/function/BiFunction;)I"⟩ prog_18_method_11_code 3 (some FieldType.int) "java/lang/String" 1059 3 := ⟨tw1_213, tw1_7, ⟨by decide, by decide⟩, by decide +kernel, tw1_211⟩
def ltL : List Int32 := [80, 76, 83, 43, 45, 42, 47, 60, 61, 68, 88, 79, 86, 74, 90, 67, 82, 72]
def lt (j : Nat) : Int32 := ltL.getD j 0
theorem lt_c : ∀ j, j < 18 → ((lt j &&& 255).toUInt32 % 65536).toInt32 = lt j ∧ narrow .char (.int (lt j)) = .int (lt j) := by decide
/-- the String at q, its bytes at vB, and the two statics that its methods read -/
def strX (A : Nat → Prop) (q vB : Nat) (H : Heap) (U : State) : Prop := va_O "java/lang/String" q A U H ∧ va_OF "java/lang/String" "coder" "B" (.int 0) q A U H ∧ va_OF "java/lang/String" "value" "[B" (.ref vB) q A U H ∧ va_T .byte vB 18 (fun j => .int (lt j)) A U H ∧ va_Z "java/lang/String" "COMPACT_STRINGS" "Z" (.int 1) A U H ∧ va_Zq "jdk/internal/util/Preconditions" "SIOOBE_FORMATTER" "Ljava/util/function/BiFunction;" A U H
theorem strX_m {A : Nat → Prop} {q vB : Nat} {H : Heap} : kXm (strX A q vB H) := fun _ _ hv h => ⟨h.1.moved hv.alike, h.2.1.moved hv.alike, h.2.2.1.moved hv.alike, h.2.2.2.1.moved hv.alike, h.2.2.2.2.1.moved hv.alike, va_Zq.moved hv.alike h.2.2.2.2.2⟩
theorem strX.kept {A : Nat → Prop} {q vB : Nat} {H H1 : Heap} {U : State} (h : strX A q vB H U) (hq : ∀ a : Nat, a < H.size → ¬ A a → H1[a]? = H[a]?) : strX A q vB H1 U := ⟨h.1.kept hq, h.2.1.kept hq, h.2.2.1.kept hq, h.2.2.2.1.kept hq, h.2.2.2.2.1.kept hq, va_Zq.kept h.2.2.2.2.2 hq⟩
theorem strX.narrow {A B : Nat → Prop} {q vB : Nat} {H : Heap} {U : State} (h : strX A q vB H U) (hAB : ∀ z, B z → A z) : strX B q vB H U := ⟨h.1.narrow hAB, h.2.1.narrow hAB, h.2.2.1.narrow hAB, h.2.2.2.1.narrow hAB, h.2.2.2.2.1.narrow hAB, va_Zq.narrow h.2.2.2.2.2 hAB⟩
abbrev sX (q vB : Nat) (H : Heap) (U : State) : Prop := strX (fun _ => False) q vB H U
/-- a void method that changes nothing -/
def kPv (l : Launch) (y : MethodName) (b : ByteArray) (n : Nat) (fr lo : Nat) (As : List Value) (H : Heap) (X : State → Prop) : Prop :=
  Met l y (kWs y b n none) (kRm fr lo) (kPc As H X) (va_Qv (fun _ : Unit => True) (fun _ t => t.heap = H) (fun _ => False)) 0 0 (fun _ => False)
section KS
variable {p : Program} {l : Launch} {e : Env} {R : Room} {s : State} {m : MethodId} {args : Array Value} {below : List Frame} {meth : Method} {c : Code} {H H0 : Heap} {locs : List Loc} {cells slots : Nat} {Q : State → Prop} {cc : ByteArray} {pc : Nat} {ls : Array Slot} {rest st : List Value} {own : String} {nL : Nat} {A0 : Nat → Prop}
theorem kp_Sv (F : CallFix p m c cc nL s args lw_ok own) {y : MethodName} {b : ByteArray} {n : Nat} {fr lo index k : Nat} {As : List Value} {X : State → Prop} (hM : kPv l y b n fr lo As H X) (hm : kXm X) (hX : X s) (hw : kWd y b n none own index k) (hst : Cond.static y ∈ lw_ok) (hS : va_S A0 H0 H locs)
    (hd : decode cc pc = .ok (.invokestatic index, 3)) (hR : (fr + 1 ≤ R.frames ∧ 8 + (n + 11) + lo ≤ R.locals) ∧ cells ≤ R.cells ∧ slots ≤ R.slots) (hk : As.length = k) (hz : ls.size = nL) (hs : st = As.reverse ++ rest) (hr : (rest.map fun v => v.category).sum ≤ 8)
    (kk : ∀ locs1 : List Loc, va_S A0 H0 H locs1 → W p l e R s m args below meth c H locs1 cells slots Q (F0 m (pc + 3) ls rest)) : W p l e R s m args below meth c H locs cells slots Q (F0 m pc ls st) := by
  subst hs
  refine va_callv (va_runS F hM ⟨k_B F.2.2.2.2 hw hR.1, F.2.2.2.2 _ hst⟩ ⟨k_blind hm, fun U hU hW => ⟨rfl, hU, hm _ _ hW hX⟩⟩ rfl hk hz rfl (lv_room hr) hd hR.2) hS (fun q _ h => h.elim) (fun q h => h.elim) (fun u t H1 locs1 ht hvm hp hB hz1 hk1 hS1 => ?_)
  have e1 : H1 = H := by rw [← ht]; exact hB
  subst e1
  exact kk locs1 hS1
theorem kp_v (F : CallFix p m c cc nL s args lw_ok own) (hlocks : meth.locks = false) (hr : meth.sig.returnType = none) (hS : va_S (fun _ => False) s.heap s.heap locs) (hd : decode cc pc = .ok (.return_, 1)) :
    W p l e R s m args below meth c s.heap locs 0 0 (MQ below (va_Qv (fun _ : Unit => True) (fun _ t => t.heap = s.heap) (fun _ => False)) args s 0 0 (fun _ => False)) (F0 m pc ls []) :=
  W.vret F.1 F.2.1 hr (fun t ht hW => ⟨⟨(), rfl, trivial, ht⟩, hS.F ht⟩) hS.2.2 hd hlocks
end KS

theorem c_Str_coder (l : Launch) (q vB : Nat) (H : Heap) : kPu l y_Str_coder b_Str_coder 1 (some FieldType.byte) 0 0 [.ref q] H (sX q vB H) 0 := by
  refine k_of (by decide) (Nat.le_of_ble_eq_true rfl) ?_
  intro p e s m below meth cd ls F hlocks hret hname hh hX hl
  subst hh
  obtain ⟨hx, hb, hml, hown, hT⟩ := id F
  have hS : va_S (fun _ => False) s.heap s.heap [] := va_S.rf
  have hl : lv_has ls 1 [(0, .ref q)] := hl
  refine va_gets hx hb hX.2.2.2.2.1 hS hown (hT _ tw1_193) (fun _ h9 => h9) d_Str_coder_0 ?_
  refine lv_if_eq (tgt := 13) hx hb d_Str_coder_3 (by decide) (fun h9 => absurd h9 (by decide)) (fun _ => ?_)
  refine lv_aload_n hx hb d_Str_coder_6 rfl (lv_at hl 0 rfl) ?_
  refine vk_getf hx hb hX.2.1 hS hown (hT _ tw3_168) (fun _ h9 => h9) d_Str_coder_7 ?_
  refine lv_goto (tgt := 14) hx hb d_Str_coder_10 (by decide) ?_
  exact kp_z F hlocks hret hS d_Str_coder_14 rfl rfl
theorem c_Str_isLatin1 (l : Launch) (q vB : Nat) (H : Heap) : kPu l y_Str_isLatin1 b_Str_isLatin1 1 (some FieldType.boolean) 0 0 [.ref q] H (sX q vB H) 1 := by
  refine k_of (by decide) (Nat.le_of_ble_eq_true rfl) ?_
  intro p e s m below meth cd ls F hlocks hret hname hh hX hl
  subst hh
  obtain ⟨hx, hb, hml, hown, hT⟩ := id F
  have hS : va_S (fun _ => False) s.heap s.heap [] := va_S.rf
  have hl : lv_has ls 1 [(0, .ref q)] := hl
  refine va_gets hx hb hX.2.2.2.2.1 hS hown (hT _ tw1_193) (fun _ h9 => h9) d_Str_isLatin1_0 ?_
  refine lv_if_eq (tgt := 17) hx hb d_Str_isLatin1_3 (by decide) (fun h9 => absurd h9 (by decide)) (fun _ => ?_)
  refine lv_aload_n hx hb d_Str_isLatin1_6 rfl (lv_at hl 0 rfl) ?_
  refine vk_getf hx hb hX.2.1 hS hown (hT _ tw3_168) (fun _ h9 => h9) d_Str_isLatin1_7 ?_
  refine lv_if_ne (tgt := 17) hx hb d_Str_isLatin1_10 (by decide) (fun h9 => absurd rfl h9) (fun _ => ?_)
  refine lv_iconst (v := 1) hx hb d_Str_isLatin1_13 (by decide) ?_
  refine lv_goto (tgt := 18) hx hb d_Str_isLatin1_14 (by decide) ?_
  exact kp_z F hlocks hret hS d_Str_isLatin1_18 rfl rfl
theorem c_Str_length (l : Launch) (q vB : Nat) (H : Heap) : kPu l y_Str_length b_Str_length 1 (some FieldType.int) 1 20 [.ref q] H (sX q vB H) (nI 18) := by
  refine k_of (by decide) (Nat.le_of_ble_eq_true rfl) ?_
  intro p e s m below meth cd ls F hlocks hret hname hh hX hl
  subst hh
  obtain ⟨hx, hb, hml, hown, hT⟩ := id F
  have hS : va_S (fun _ => False) s.heap s.heap [] := va_S.rf
  have hl : lv_has ls 1 [(0, .ref q)] := hl
  refine lv_aload_n hx hb d_Str_length_0 rfl (lv_at hl 0 rfl) ?_
  refine vk_getf hx hb hX.2.2.1 hS hown (hT _ tw3_167) (fun _ h9 => h9) d_Str_length_1 ?_
  refine va_tlen (v := nI 18) hx hb hX.2.2.2.1 hS rfl d_Str_length_4 ?_
  refine lv_aload_n hx hb d_Str_length_5 rfl (lv_at hl 0 rfl) ?_
  refine kp_V F (c_Str_coder l q vB _) strX_m hX kw_StrJ_coder_335 tw1_190 tw1_191 (let ⟨c9, h1, h2, h3, _⟩ := hX.1; ⟨c9, h1, h2, h3⟩) hS d_Str_length_6 ⟨⟨by decide, by decide⟩, Nat.le_refl _, Nat.le_refl _⟩ rfl hl.1 rfl (Nat.le_of_ble_eq_true rfl) (fun locs hS => ?_)
  refine lv_ishr hx hb d_Str_length_9 ?_
  exact kp_i F hlocks hret hS d_Str_length_10 (by decide)
theorem c_Pre_checkIndex (l : Launch) (i n : Nat) (r : Option Nat) (H : Heap) (X : State → Prop) (hi : i < n) (hn : n < 2 ^ 31) : kPu l y_Pre_checkIndex b_Pre_checkIndex 3 (some FieldType.int) 0 0 [.int (nI i), .int (nI n), va_rf r] H X (nI i) := by
  have hlen : (lg_sl [.int (nI i), .int (nI n), va_rf r]).length ≤ 3 := by cases r <;> exact Nat.le_of_ble_eq_true rfl
  refine k_of (by decide) hlen ?_
  intro p e s m below meth cd ls F hlocks hret hname hh hX hl
  subst hh
  obtain ⟨hx, hb, hml, hown, hT⟩ := id F
  have hS : va_S (fun _ => False) s.heap s.heap [] := va_S.rf
  have hl : lv_has ls 3 [(0, .int (nI i)), (1, .int (nI n)), (2, va_rf r)] := hl
  refine lv_iload_n hx hb d_Pre_checkIndex_0 rfl (lv_at hl 0 rfl) ?_
  refine lv_if_lt (tgt := 9) hx hb d_Pre_checkIndex_1 (by decide) (fun h9 => absurd h9 (nI_pos (by omega))) (fun _ => ?_)
  refine lv_iload_n hx hb d_Pre_checkIndex_4 rfl (lv_at hl 0 rfl) ?_
  refine lv_iload_n hx hb d_Pre_checkIndex_5 rfl (lv_at hl 1 rfl) ?_
  refine lv_icmp_lt (tgt := 16) hx hb d_Pre_checkIndex_6 (by decide) (fun _ => ?_) (fun h9 => absurd (nI_lt hi hn) h9)
  refine lv_iload_n hx hb d_Pre_checkIndex_16 rfl (lv_at hl 0 rfl) ?_
  exact kp_i F hlocks hret hS d_Pre_checkIndex_17 rfl
theorem c_Str_checkIndex (l : Launch) (q vB i n : Nat) (H : Heap) (hi : i < n) (hn : n < 2 ^ 31) : kPv l y_Str_checkIndex b_Str_checkIndex 2 1 22 [.int (nI i), .int (nI n)] H (sX q vB H) := by
  refine k_of (by decide) (Nat.le_of_ble_eq_true rfl) ?_
  intro p e s m below meth cd ls F hlocks hret hname hh hX hl
  subst hh
  obtain ⟨hx, hb, hml, hown, hT⟩ := id F
  have hS : va_S (fun _ => False) s.heap s.heap [] := va_S.rf
  have hl : lv_has ls 2 [(0, .int (nI i)), (1, .int (nI n))] := hl
  have hZ : ∃ r : Option Nat, va_Z "jdk/internal/util/Preconditions" "SIOOBE_FORMATTER" "Ljava/util/function/BiFunction;" (va_rf r) (fun _ => False) s s.heap := by
    rcases hX.2.2.2.2.2 with h | ⟨t, h⟩
    · exact ⟨none, h⟩
    · exact ⟨some t, h⟩
  obtain ⟨r, hZ⟩ := hZ
  refine lv_iload_n hx hb d_Str_checkIndex_0 rfl (lv_at hl 0 rfl) ?_
  refine lv_iload_n hx hb d_Str_checkIndex_1 rfl (lv_at hl 1 rfl) ?_
  refine va_gets hx hb hZ hS hown (hT _ tw1_209) (fun _ h9 => h9) d_Str_checkIndex_2 ?_
  refine kp_S F (c_Pre_checkIndex l i n r _ (fun _ => True) hi hn) (fun _ _ _ _ => trivial) trivial kw_PreJ_checkIndex_1059 tw1_212 hS d_Str_checkIndex_5 ⟨⟨by decide, by decide⟩, Nat.le_refl _, Nat.le_refl _⟩ rfl hl.1 rfl (Nat.le_of_ble_eq_true rfl) (fun locs hS => ?_)
  refine lv_pop hx hb d_Str_checkIndex_8 rfl ?_
  exact kp_v F hlocks hret hS d_Str_checkIndex_9
theorem c_Lat_charAt (l : Launch) (q vB i : Nat) (H : Heap) (hi : i < 18) : kPu l y_Lat_charAt b_Lat_charAt 2 (some FieldType.char) 2 43 [.ref vB, .int (nI i)] H (sX q vB H) (lt i) := by
  refine k_of (by decide) (Nat.le_of_ble_eq_true rfl) ?_
  intro p e s m below meth cd ls F hlocks hret hname hh hX hl
  subst hh
  obtain ⟨hx, hb, hml, hown, hT⟩ := id F
  have hS : va_S (fun _ => False) s.heap s.heap [] := va_S.rf
  have hl : lv_has ls 2 [(0, .ref vB), (1, .int (nI i))] := hl
  refine lv_iload_n hx hb d_Lat_charAt_0 rfl (lv_at hl 1 rfl) ?_
  refine lv_aload_n hx hb d_Lat_charAt_1 rfl (lv_at hl 0 rfl) ?_
  refine va_tlen (v := nI 18) hx hb hX.2.2.2.1 hS rfl d_Lat_charAt_2 ?_
  refine kp_Sv F (c_Str_checkIndex l q vB i 18 _ hi (by decide)) strX_m hX kw_StrJ_checkIndex_9 tw1_207 hS d_Lat_charAt_3 ⟨⟨by decide, by decide⟩, Nat.le_refl _, Nat.le_refl _⟩ rfl hl.1 rfl (Nat.le_of_ble_eq_true rfl) (fun locs hS => ?_)
  refine lv_aload_n hx hb d_Lat_charAt_6 rfl (lv_at hl 0 rfl) ?_
  refine lv_iload_n hx hb d_Lat_charAt_7 rfl (lv_at hl 1 rfl) ?_
  refine va_tb (v := .int (lt i)) hx hb hX.2.2.2.1 hS (vp_in_nI hi (by decide)) (by rw [nI_clamp (by omega)]) d_Lat_charAt_8 ?_
  refine lv_sipush (v := 255) hx hb d_Lat_charAt_9 (by decide) ?_
  refine lv_iand hx hb d_Lat_charAt_12 ?_
  refine lv_i2c hx hb d_Lat_charAt_13 (lt_c i hi).1 ?_
  exact kp_z F hlocks hret hS d_Lat_charAt_14 (lt_c i hi).2 rfl
theorem c_Str_charAt (l : Launch) (q vB i : Nat) (H : Heap) (hi : i < 18) : kPu l y_Str_charAt b_Str_charAt 2 (some FieldType.char) 3 64 [.ref q, .int (nI i)] H (sX q vB H) (lt i) := by
  refine k_of (by decide) (Nat.le_of_ble_eq_true rfl) ?_
  intro p e s m below meth cd ls F hlocks hret hname hh hX hl
  subst hh
  obtain ⟨hx, hb, hml, hown, hT⟩ := id F
  have hS : va_S (fun _ => False) s.heap s.heap [] := va_S.rf
  have hl : lv_has ls 2 [(0, .ref q), (1, .int (nI i))] := hl
  refine lv_aload_n hx hb d_Str_charAt_0 rfl (lv_at hl 0 rfl) ?_
  refine kp_V F (c_Str_isLatin1 l q vB _) strX_m hX kw_StrJ_isLatin1_492 tw1_200 tw1_201 (let ⟨c9, h1, h2, h3, _⟩ := hX.1; ⟨c9, h1, h2, h3⟩) hS d_Str_charAt_1 ⟨⟨by decide, by decide⟩, Nat.le_refl _, Nat.le_refl _⟩ rfl hl.1 rfl (Nat.le_of_ble_eq_true rfl) (fun locs hS => ?_)
  refine lv_if_eq (tgt := 16) hx hb d_Str_charAt_4 (by decide) (fun h9 => absurd h9 (by decide)) (fun _ => ?_)
  refine lv_aload_n hx hb d_Str_charAt_7 rfl (lv_at hl 0 rfl) ?_
  refine vk_getf hx hb hX.2.2.1 hS hown (hT _ tw3_167) (fun _ h9 => h9) d_Str_charAt_8 ?_
  refine lv_iload_n hx hb d_Str_charAt_11 rfl (lv_at hl 1 rfl) ?_
  refine kp_S F (c_Lat_charAt l q vB i _ hi) strX_m hX kw_LatJ_charAt_495 tw1_204 hS d_Str_charAt_12 ⟨⟨by decide, by decide⟩, Nat.le_refl _, Nat.le_refl _⟩ rfl hl.1 rfl (Nat.le_of_ble_eq_true rfl) (fun locs hS => ?_)
  exact kp_z F hlocks hret hS d_Str_charAt_15 (lt_c i hi).2 rfl
