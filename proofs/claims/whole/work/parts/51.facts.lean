/-! THE LAW: what holds at its entry -/
theorem ar_of {s : State} {args : Array Value} {ty : FieldType} (h : (Cond.arrayClass ty).before args s = true) : ∃ cA : ClassId, ArrOfT s cA ty ∧ s.vm.findClass ("[" ++ ty.toString) = some cA := by
  obtain ⟨cA, kA, comp, h1, h2, h3⟩ := Cond.arrayClass_spec (args := args) (first := s) (o := none) (s := s) (idx := []) h
  exact ⟨cA, fun n z => ⟨fun k h => (by cases h), kA, h2, comp, h3⟩, h1⟩
theorem kn_of {s : State} {args : Array Value} (hT : ∀ w ∈ lw_ok, w.before args s = true) : ∃ (Dg : va_G) (k : Nat → ClassId), va_K Dg classes (kTy k) s := by
  obtain ⟨c0, i0, h0⟩ := u_known hT in_Eng (hT _ tw1_19)
  obtain ⟨c1, i1, h1⟩ := u_known hT in_Mac (hT _ tw1_62)
  obtain ⟨c2, i2, h2⟩ := u_known hT in_Prg (hT _ tw1_27)
  obtain ⟨c3, i3, h3⟩ := u_known hT in_Mod (hT _ tw2_221)
  obtain ⟨a0, g0, n0⟩ := ar_of (hT _ tw1_59)
  obtain ⟨a1, g1, n1⟩ := ar_of (hT _ tw1_60)
  obtain ⟨a2, g2, n2⟩ := ar_of (hT _ tw3_38)
  refine ⟨(fun c => match c with | 0 => c0 | 1 => c1 | 2 => c2 | _ => c3, fun c => match c with | 0 => i0 | 1 => i1 | 2 => i2 | _ => i3), (fun j => match j with | 0 => a0 | 1 => a1 | _ => a2), ?_, ?_⟩
  · intro c q hq
    match c, hq with
    | 0, hq => cases hq; exact h0
    | 1, hq => cases hq; exact h1
    | 2, hq => cases hq; exact h2
    | 3, hq => cases hq; exact h3
    | n + 4, hq => simp at hq
  · intro j q hq
    match j, hq with
    | 0, hq => cases hq; exact ⟨g0, n0⟩
    | 1, hq => cases hq; exact ⟨g1, n1⟩
    | 2, hq => cases hq; exact ⟨g2, n2⟩
    | n + 3, hq => simp at hq
theorem str_ref {s : State} {args : Array Value} {own tx : String} {i : Nat} (h1 : (Cond.stringRef own i tx).before args s = true) (h2 : (Cond.exactly (.string own i) "java/lang/String").before args s = true) : ∃ z, vk_R own i tx z s := by
  obtain ⟨a2, c, cA, kA, q1, -⟩ := Cond.exactly_spec (args := args) (first := s) (o := none) (s := s) (idx := []) (t := .string own i) (cls := "java/lang/String") h2
  exact ⟨a2, vk_R.of h1 q1⟩
def flL : List Cond := [Cond.isRef (.static Bundle.tN "UNASSIGNED_STACK" Bundle.steD), Cond.isRef (.static Bundle.tN "SUPPRESSED_SENTINEL" Bundle.listD), Cond.not (.castable xIS xIA), Cond.not (.castable xIA xNS), Cond.isRef (.static "jdk/internal/util/Preconditions" "SIOOBE_FORMATTER" "Ljava/util/function/BiFunction;"), Cond.arrayOf (.static "FusedEngine$Rows" "LETTERS" "[C") .char, Cond.eq (.length (.static "FusedEngine$Rows" "LETTERS" "[C")) (.int 80), Cond.exactly (.string "FusedEngine$Program" 30) "java/lang/String", Cond.exactly (.string "FusedEngine" 32) "java/lang/String", Cond.exactly (.string "FusedEngine" 43) "java/lang/String", Cond.exactly (.string "FusedEngine" 59) "java/lang/String", Cond.exactly (.string "FusedEngine" 73) "java/lang/String", Cond.exactly (.string "FusedEngine" 79) "java/lang/String", Cond.exactly (.string "FusedEngine" 98) "java/lang/String", Cond.exactly (.string "FusedEngine" 104) "java/lang/String", Cond.exactly (.string "FusedEngine" 112) "java/lang/String", Cond.eq (.field (.string "FusedEngine$Program" 30) "java/lang/String" "coder" "B") (.int 0), Cond.arrayOf (.field (.string "FusedEngine$Program" 30) "java/lang/String" "value" "[B") .byte, Cond.eq (.length (.field (.string "FusedEngine$Program" 30) "java/lang/String" "value" "[B")) (.int 18), Cond.eq (.static "java/lang/String" "COMPACT_STRINGS" "Z") (.int 1)]
set_option maxRecDepth 100000 in
theorem fl_in : ∀ c ∈ flL, c ∈ flatC (Cond.and given_1 narrow_1) := by decide +kernel
set_option maxRecDepth 100000 in
theorem fl_rows : ∀ j, j < 80 → Cond.eq (.elem (.static "FusedEngine$Rows" "LETTERS" "[C") (.int (Int32.ofNat j))) (.int (rl j)) ∈ flatC (Cond.and given_1 narrow_1) := by decide +kernel
set_option maxRecDepth 100000 in
theorem fl_str : ∀ j, j < 18 → Cond.eq (.elem (.field (.string "FusedEngine$Program" 30) "java/lang/String" "value" "[B") (.int (Int32.ofNat j))) (.int (ltL.getD j 0)) ∈ flatC (Cond.and given_1 narrow_1) := by decide +kernel
set_option maxRecDepth 100000 in
set_option maxHeartbeats 4000000 in
theorem lF_of {s : State} {b0 : Nat} (hts : ∀ w ∈ lw_tbl, w.before #[Value.ref b0] s = true) (hg : (Cond.and given_1 narrow_1).before #[Value.ref b0] s = true) : ∃ (Dg : va_G) (k : Nat → ClassId) (q vB tL : Nat), lF Dg k q vB tL s := by
  have hf := flat_of_before _ hg
  have hT : ∀ w ∈ lw_ok, w.before #[Value.ref b0] s = true := fun w hw => hts w (lw_okT w hw)
  have ht : ∀ w ∈ tables_1, w.before #[Value.ref b0] s = true := fun w hw => hts w (lw_T hw)
  have h1 : ∀ c ∈ flL, c.before #[Value.ref b0] s = true := fun c hc => hf c (fl_in c hc)
  have hA : ∀ a : Nat, a < s.heap.size → ¬ lA s a := fun a ha w => absurd w (by show ¬ s.heap.size ≤ a; omega)
  obtain ⟨Dg, k, hK⟩ := kn_of hT
  have z1 := tzL.of (ht _ tw2_20) (h1 _ (List.mem_of_getElem? (i := 0) rfl))
  have z2 := tzL.of (ht _ tw2_22) (h1 _ (List.mem_of_getElem? (i := 1) rfl))
  have c1 := tzC.of (ht _ tw1_235)
  have c2 := tzC.of (ht _ tw2_63)
  have c3 := tzC.of (ht _ tw2_108)
  obtain ⟨x1, -, f1, -, -⟩ := id c1
  obtain ⟨x2, -, f2, -, -⟩ := id c2
  obtain ⟨x3, -, f3, -, -⟩ := id c3
  have c4 := tzC.ofNot f2 f1 (h1 _ (List.mem_of_getElem? (i := 2) rfl))
  have c5 := tzC.ofNot f1 f3 (h1 _ (List.mem_of_getElem? (i := 3) rfl))
  obtain ⟨tL, e6, t6⟩ := va_Tof (A := lA s) (N := 80) (f := fun j => .int (rl j)) (by decide) (h1 _ (List.mem_of_getElem? (i := 5) rfl)) (va_eqt (h1 _ (List.mem_of_getElem? (i := 6) rfl))) (fun j hj => va_eqt (hf _ (fl_rows j hj))) hA
  obtain ⟨adK, adV, hS, hev⟩ := vk_Sof (N := 1) (tm := fun _ => .string "FusedEngine$Program" 30) (len := [18]) (byt := [ltL]) (A := lA s) (args := #[Value.ref b0]) (s := s) (by decide) (fun i _ => h1 _ (List.mem_of_getElem? (i := 7) rfl)) (fun i _ => h1 _ (List.mem_of_getElem? (i := 16) rfl)) (fun i _ => h1 _ (List.mem_of_getElem? (i := 17) rfl))
    (fun i hi => by obtain rfl : i = 0 := by omega
                    exact h1 _ (List.mem_of_getElem? (i := 18) rfl))
    (fun i hi j hj => by obtain rfl : i = 0 := by omega
                         exact hf _ (fl_str j hj)) (fun i j hi hj hne => by omega) hA
  refine ⟨Dg, k, adK 0, adV 0, tL, hK, ⟨z1, z2, c1, c2, c3, c4, c5⟩, ⟨str_ref (ht _ tw2_34) (h1 _ (List.mem_of_getElem? (i := 8) rfl)), str_ref (ht _ tw2_70) (h1 _ (List.mem_of_getElem? (i := 9) rfl)), str_ref (ht _ tw2_115) (h1 _ (List.mem_of_getElem? (i := 10) rfl)), str_ref (ht _ tw2_130) (h1 _ (List.mem_of_getElem? (i := 11) rfl)), str_ref (ht _ tw2_131) (h1 _ (List.mem_of_getElem? (i := 12) rfl)), str_ref (ht _ tw2_199) (h1 _ (List.mem_of_getElem? (i := 13) rfl)), str_ref (ht _ tw2_207) (h1 _ (List.mem_of_getElem? (i := 14) rfl)), str_ref (ht _ tw2_219) (h1 _ (List.mem_of_getElem? (i := 15) rfl))⟩, vk_R.of (ht _ tw1_184) (hev 0 (by omega)), ?_, ⟨va_Zref (ht _ tw1_147) (hT _ tw1_16) e6 hA, t6⟩, va_Nw.of rfl (ht _ tw1_28), va_Nw.of rfl (ht _ tw1_63)⟩
  exact ⟨(hS.1 0 (by omega)).1, (hS.1 0 (by omega)).2.1, (hS.1 0 (by omega)).2.2.1, (hS.1 0 (by omega)).2.2.2, va_Zof (ht _ tw1_194) (hT _ tw1_5) (va_eqi (h1 _ (List.mem_of_getElem? (i := 19) rfl))) hA, va_Zqof (ht _ tw1_210) (hT _ tw1_7) (h1 _ (List.mem_of_getElem? (i := 4) rfl)) hA⟩
