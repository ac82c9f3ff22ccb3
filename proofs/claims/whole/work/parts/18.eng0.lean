/-! ENGINE: a method that answers a reference; what the engine's methods need of the tables and of the heap -/
def kPr (l : Launch) (y : MethodName) (b : ByteArray) (n : Nat) (ret : Option FieldType) (fr lo : Nat) (As : List Value) (H : Heap) (X : State → Prop) (o : Nat) : Prop :=
  Met l y (kWs y b n ret) (kRm fr lo) (kPc As H X) (va_Qr (fun _ : Unit => True) (fun _ a t => a = o ∧ t.heap = H) (fun _ => False)) 0 0 (fun _ => False)
section KR
variable {p : Program} {l : Launch} {e : Env} {R : Room} {s : State} {m : MethodId} {args : Array Value} {below : List Frame} {meth : Method} {c : Code} {H H0 : Heap} {locs : List Loc} {cells slots : Nat} {Q : State → Prop} {cc : ByteArray} {pc : Nat} {ls : Array Slot} {rest st : List Value} {own : String} {nL : Nat} {A0 : Nat → Prop}
theorem kp_Vr (F : CallFix p m c cc nL s args lw_ok own) {y : MethodName} {b : ByteArray} {n : Nat} {ret : Option FieldType} {fr lo index k : Nat} {C : String} {o r : Nat} {As : List Value} {X : State → Prop} (hM : kPr l y b n ret fr lo (.ref o :: As) H X r) (hm : kXm X) (hX : X s) (hw : kWd y b n ret own index k) (hin : Cond.instanceMethod y ∈ lw_ok) (hse : Cond.selects C y y ∈ lw_ok)
    (ho : ∃ cell : Cell, H[o]? = some cell ∧ cell.vm.isStatics = false ∧ s.vm.findClass C = some cell.cls) (hS : va_S A0 H0 H locs)
    (hd : decode cc pc = .ok (.invokevirtual index, 3)) (hR : (fr + 1 ≤ R.frames ∧ 8 + (n + 11) + lo ≤ R.locals) ∧ cells ≤ R.cells ∧ slots ≤ R.slots) (hk : As.length = k) (hz : ls.size = nL) (hs : st = As.reverse ++ .ref o :: rest) (hr : (rest.map fun v => v.category).sum ≤ 8)
    (kk : ∀ locs1 : List Loc, va_S A0 H0 H locs1 → W p l e R s m args below meth c H locs1 cells slots Q (F0 m (pc + 3) ls (.ref r :: rest))) : W p l e R s m args below meth c H locs cells slots Q (F0 m pc ls st) := by
  subst hs
  refine va_callr (va_runV F hM ⟨k_B F.2.2.2.2 hw hR.1, F.2.2.2.2 _ hin, F.2.2.2.2 _ hse⟩ ⟨k_blind hm, ho, fun U hU hW => ⟨rfl, hU, hm _ _ hW hX⟩⟩ rfl hk hz rfl (lv_room hr) hd hR.2) hS (fun q _ h => h.elim) (fun q h => h.elim) (fun u a t H1 locs1 ht hvm hp hB hz1 hk1 hS1 => ?_)
  obtain ⟨e0, hB⟩ := hB
  have e1 : H1 = H := by rw [← ht]; exact hB
  subst e0
  subst e1
  exact kk locs1 hS1
theorem kp_a {o : Nat} {n : String} (F : CallFix p m c cc nL s args lw_ok own) (hlocks : meth.locks = false) (hr : meth.sig.returnType = some (.object n)) (hS : va_S (fun _ => False) s.heap s.heap locs) (hd : decode cc pc = .ok (.areturn, 1)) :
    W p l e R s m args below meth c s.heap locs 0 0 (MQ below (va_Qr (fun _ : Unit => True) (fun _ a t => a = o ∧ t.heap = s.heap) (fun _ => False)) args s 0 0 (fun _ => False)) (F0 m pc ls [.ref o]) :=
  W.aret F.1 F.2.1 hr (Or.inl ⟨n, rfl⟩) (Or.inr ⟨o, rfl⟩) (fun t ht hW => ⟨⟨(), o, rfl, trivial, rfl, ht⟩, hS.F ht⟩) hS.2.2 hd hlocks
end KR
/-- the messages of the exceptions -/
def msX (U : State) : Prop := (∃ z, vk_R "FusedEngine" 32 "no such instruction" z U) ∧ (∃ z, vk_R "FusedEngine" 43 "the program is full" z U) ∧ (∃ z, vk_R "FusedEngine" 59 "no such place" z U) ∧ (∃ z, vk_R "FusedEngine" 73 "nothing to be looked at by this number" z U) ∧ (∃ z, vk_R "FusedEngine" 79 "the program is not fused" z U) ∧ (∃ z, vk_R "FusedEngine" 98 "no such value on the stack" z U) ∧ (∃ z, vk_R "FusedEngine" 104 "no such local" z U) ∧ (∃ z, vk_R "FusedEngine" 112 "no such value put out, or not kept" z U)
theorem msX_m : kXm msX := by
  rintro u U hv ⟨⟨z1, h1⟩, ⟨z2, h2⟩, ⟨z3, h3⟩, ⟨z4, h4⟩, ⟨z5, h5⟩, ⟨z6, h6⟩, ⟨z7, h7⟩, ⟨z8, h8⟩⟩
  exact ⟨⟨z1, h1.warm hv⟩, ⟨z2, h2.warm hv⟩, ⟨z3, h3.warm hv⟩, ⟨z4, h4.warm hv⟩, ⟨z5, h5.warm hv⟩, ⟨z6, h6.warm hv⟩, ⟨z7, h7.warm hv⟩, ⟨z8, h8.warm hv⟩⟩
/-- for a method that may throw, and for one that may not -/
abbrev tX (D : va_G) (k : Nat → ClassId) (B : Nat) (H : Heap) (U : State) : Prop := va_K D classes (kTy k) U ∧ tz B H U ∧ msX U
theorem tX_m {D : va_G} {k : Nat → ClassId} {B : Nat} {H : Heap} : kXm (tX D k B H) := kx_and kx_K (kx_and tz_m msX_m)
abbrev taX (D : va_G) (k : Nat → ClassId) (q vB B : Nat) (H : Heap) (U : State) : Prop := va_K D classes (kTy k) U ∧ (tz B H U ∧ msX U) ∧ aX q vB H U
theorem taX_m {D : va_G} {k : Nat → ClassId} {q vB B : Nat} {H : Heap} : kXm (taX D k q vB B H) := kx_and kx_K (kx_and (kx_and tz_m msX_m) aX_m)
abbrev kaX (D : va_G) (k : Nat → ClassId) (q vB : Nat) (H : Heap) (U : State) : Prop := va_K D classes (kTy k) U ∧ aX q vB H U
theorem kaX_m {D : va_G} {k : Nat → ClassId} {q vB : Nat} {H : Heap} : kXm (kaX D k q vB H) := kx_and kx_K aX_m
abbrev w4 (a b u v : Nat → Nat) (k : Nat → ClassId) (G M N : vSt) : va_W := wE a b u v ++ wP b k G ++ wM u k M ++ wM v k N
