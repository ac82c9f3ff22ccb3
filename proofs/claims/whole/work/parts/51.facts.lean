/-! THE LAW: what holds at its entry -/
theorem ar_of {s : State} {args : Array Value} {ty : FieldType} (h : (Cond.arrayClass ty).before args s = true) : ∃ cA : ClassId, ArrOfT s cA ty ∧ s.vm.findClass ("[" ++ ty.toString) = some cA := by
  obtain ⟨cA, kA, comp, h1, h2, h3⟩ := Cond.arrayClass_spec (args := args) (first := s) (o := none) (s := s) (idx := []) h
  exact ⟨cA, fun n z => ⟨fun k h => (by cases h), kA, h2, comp, h3⟩, h1⟩
theorem kn_of {s : State} {args : Array Value} (hT : ∀ w ∈ lw_ok, w.before args s = true) : ∃ (Dg : va_G) (k : Nat → ClassId), va_K Dg classes (kTy k) s := by
  obtain ⟨c0, i0, h0⟩ := u_known hT in_Eng (hT _ tw1_19)
  obtain ⟨c1, i1, h1⟩ := u_known hT in_Mac (hT _ tw1_62)
  obtain ⟨c2, i2, h2⟩ := u_known hT in_Prg (hT _ tw1_27)
  obtain ⟨c3, i3, h3⟩ := u_known hT in_Mod (hT _ tw2_221)
  obtain ⟨a0, g0, n0⟩ := ar_of (hT _ tw1_59)
  obtain ⟨a1, g1, n1⟩ := ar_of (hT _ tw1_60)
  obtain ⟨a2, g2, n2⟩ := ar_of (hT _ tw3_38)
  refine ⟨(fun c => match c with | 0 => c0 | 1 => c1 | 2 => c2 | _ => c3, fun c => match c with | 0 => i0 | 1 => i1 | 2 => i2 | _ => i3), (fun j => match j with | 0 => a0 | 1 => a1 | _ => a2), ?_, ?_⟩
  · intro c q hq
    match c, hq with
    | 0, hq => cases hq; exact h0
    | 1, hq => cases hq; exact h1
    | 2, hq => cases hq; exact h2
    | 3, hq => cases hq; exact h3
    | n + 4, hq => simp at hq
  · intro j q hq
    match j, hq with
    | 0, hq => cases hq; exact ⟨g0, n0⟩
    | 1, hq => cases hq; exact ⟨g1, n1⟩
    | 2, hq => cases hq; exact ⟨g2, n2⟩
    | n + 3, hq => simp at hq
theorem str_ref {s : State} {args : Array Value} {own tx : String} {i : Nat} (h1 : (Cond.stringRef own i tx).before args s = true) (h2 : (Cond.exactly (.string own i) "java/lang/String").before args s = true) : ∃ z, vk_R own i tx z s := by
  obtain ⟨a2, c, cA, kA, q1, -⟩ := Cond.exactly_spec (args := args) (first := s) (o := none) (s := s) (idx := []) (t := .string own i) (cls := "java/lang/String") h2
  exact ⟨a2, vk_R.of h1 q1⟩
