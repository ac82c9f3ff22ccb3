/-! BASE: contracts of two kinds (a method that only answers; a method that turns given cells), and the rows that call them. lw_ok (part 01) is the list of the tables' words that every contract carries. -/
/-- a fact of the tables alone -/
def kXm (X : State → Prop) : Prop := ∀ u U : State, u.WarmedH U.vm → X u → X U
abbrev kRm (fr lo : Nat) : Room := { frames := fr, cells := 0, slots := 0, locals := lo }
abbrev kWs (y : MethodName) (b : ByteArray) (n : Nat) (ret : Option FieldType) : List Cond := Cond.code y b n ret :: lw_ok
abbrev kPc (As : List Value) (H : Heap) (X : State → Prop) : Array Value → State → Prop := va_Pc As (fun U => U.heap = H ∧ X U)
/-- the end of a method that answers r and changes nothing -/
abbrev kQp (H : Heap) (r : Int32) : Array Value → State → Outcome → State → Prop := va_Qi (fun z (_ : Unit) => z = r) (fun _ t => t.heap = H) (fun _ => False)
/-- the end of a method that turns the cells w (at the heap H) into w1, void, or with the answer r -/
abbrev kQv (D : va_G) (H : Heap) (w w1 : va_W) : Array Value → State → Outcome → State → Prop := va_Qv (fun _ : Unit => True) (fun _ t => va_P D classes w1 t.heap ∧ va_D (va_A w H.size) w1) (va_A w H.size)
abbrev kQi (D : va_G) (H : Heap) (w w1 : va_W) (r : Int32) : Array Value → State → Outcome → State → Prop := va_Qi (fun z (_ : Unit) => z = r) (fun _ t => va_P D classes w1 t.heap ∧ va_D (va_A w H.size) w1) (va_A w H.size)
def kPu (l : Launch) (y : MethodName) (b : ByteArray) (n : Nat) (ret : Option FieldType) (fr lo : Nat) (As : List Value) (H : Heap) (X : State → Prop) (r : Int32) : Prop :=
  Met l y (kWs y b n ret) (kRm fr lo) (kPc As H X) (kQp H r) 0 0 (fun _ => False)
def kMv (l : Launch) (y : MethodName) (b : ByteArray) (n : Nat) (fr lo : Nat) (As : List Value) (H : Heap) (X : State → Prop) (D : va_G) (w w1 : va_W) : Prop :=
  Met l y (kWs y b n none) (kRm fr lo) (kPc As H X) (kQv D H w w1) 0 0 (va_A w H.size)
def kMi (l : Launch) (y : MethodName) (b : ByteArray) (n : Nat) (ret : Option FieldType) (fr lo : Nat) (As : List Value) (H : Heap) (X : State → Prop) (D : va_G) (w w1 : va_W) (r : Int32) : Prop :=
  Met l y (kWs y b n ret) (kRm fr lo) (kPc As H X) (kQi D H w w1 r) 0 0 (va_A w H.size)
/-- the words of a call site: the callee's code, its class, the link -/
def kWd (y : MethodName) (b : ByteArray) (n : Nat) (ret : Option FieldType) (own : String) (index k : Nat) : Prop :=
  Cond.code y b n ret ∈ lw_ok ∧ Cond.initialized y.cls ∈ lw_ok ∧ (y.cls ≠ "java/lang/invoke/MethodHandle" ∧ y.cls ≠ "java/lang/invoke/VarHandle") ∧ (parseMethodDescriptor y.desc).map (fun d => d.parameters.length) = some k ∧ Cond.methodLink own index y ∈ lw_ok
theorem kx_and {X Y : State → Prop} (h1 : kXm X) (h2 : kXm Y) : kXm (fun U => X U ∧ Y U) := fun u U hv h => ⟨h1 u U hv h.1, h2 u U hv h.2⟩
theorem kx_K {D : va_G} {cl : List vw_C} {tys : List (ClassId × FieldType)} : kXm (va_K D cl tys) := fun _ _ hv h => va_K.moved hv.alike h
theorem k_blind {As : List Value} {H : Heap} {X : State → Prop} (hm : kXm X) : FrameBlind (kPc As H X) := fun a U g mk q => by
  obtain ⟨q0, q1, q2⟩ := q
  exact ⟨q0, q1, hm U (U.calling g mk a) (State.WarmedH.refl U) q2⟩
section KB
variable {p : Program} {l : Launch} {e : Env} {R : Room} {s : State} {m : MethodId} {args : Array Value} {below : List Frame} {meth : Method} {c : Code} {H H0 : Heap} {locs : List Loc} {cells slots : Nat} {Q : State → Prop} {cc : ByteArray} {pc : Nat} {ls : Array Slot} {rest st : List Value} {own : String} {nL : Nat} {A0 : Nat → Prop}
theorem k_words (hT : ∀ w ∈ lw_ok, w.before args s = true) {y : MethodName} {b : ByteArray} {n : Nat} {ret : Option FieldType} (hc : Cond.code y b n ret ∈ lw_ok) : ∀ w ∈ kWs y b n ret, ∀ (a' : Array Value) (U : State), s.WarmedH U.vm → w.before a' U = true := by
  intro w hw a' U hW
  have hw' : w ∈ lw_ok := by
    rcases List.mem_cons.mp hw with h | h
    · rw [h]; exact hc
    · exact h
  exact word_at hW (good_of_word (lw_good w hw')) (hT w hw')
theorem k_len {y : MethodName} {k : Nat} (h : (parseMethodDescriptor y.desc).map (fun d => d.parameters.length) = some k) : ∀ sig, parseMethodDescriptor y.desc = some sig → k = sig.parameters.length := by
  intro sig hs
  rw [hs] at h
  exact (Option.some.inj h).symm
theorem k_B (hT : ∀ w ∈ lw_ok, w.before args s = true) {y : MethodName} {b : ByteArray} {n : Nat} {ret : Option FieldType} {index k fr lo : Nat} (hw : kWd y b n ret own index k) (hR : fr + 1 ≤ R.frames ∧ 8 + (n + 11) + lo ≤ R.locals) :
    CallB R s args own index y b n ret (kWs y b n ret) (kRm fr lo) 0 0 k := by
  obtain ⟨h1, h2, h3, h4, h5⟩ := hw
  exact ⟨rfl, rfl, hR.1, hR.2, k_words hT h1, List.mem_cons_self, hT _ h1, hT _ h2, h3, k_len h4, hT _ h5⟩
/-- invokestatic of a method that only answers -/
theorem kp_S (F : CallFix p m c cc nL s args lw_ok own) {y : MethodName} {b : ByteArray} {n : Nat} {ret : Option FieldType} {fr lo index k : Nat} {As : List Value} {X : State → Prop} {r : Int32} (hM : kPu l y b n ret fr lo As H X r) (hm : kXm X) (hX : X s) (hw : kWd y b n ret own index k) (hst : Cond.static y ∈ lw_ok) (hS : va_S A0 H0 H locs)
    (hd : decode cc pc = .ok (.invokestatic index, 3)) (hR : (fr + 1 ≤ R.frames ∧ 8 + (n + 11) + lo ≤ R.locals) ∧ cells ≤ R.cells ∧ slots ≤ R.slots) (hk : As.length = k) (hz : ls.size = nL) (hs : st = As.reverse ++ rest) (hr : (rest.map fun v => v.category).sum ≤ 8)
    (kk : ∀ locs1 : List Loc, va_S A0 H0 H locs1 → W p l e R s m args below meth c H locs1 cells slots Q (F0 m (pc + 3) ls (.int r :: rest))) : W p l e R s m args below meth c H locs cells slots Q (F0 m pc ls st) := by
  subst hs
  refine va_calli (va_runS F hM ⟨k_B F.2.2.2.2 hw hR.1, F.2.2.2.2 _ hst⟩ ⟨k_blind hm, fun U hU hW => ⟨rfl, hU, hm _ _ hW hX⟩⟩ rfl hk hz rfl (lv_room hr) hd hR.2) hS (fun q _ h => h.elim) (fun q h => h.elim) (fun z u t H1 locs1 ht hvm hp hB hz1 hk1 hS1 => ?_)
  have e1 : H1 = H := by rw [← ht]; exact hB
  subst hp
  subst e1
  exact kk locs1 hS1
/-- invokevirtual of a method that only answers -/
theorem kp_V (F : CallFix p m c cc nL s args lw_ok own) {y : MethodName} {b : ByteArray} {n : Nat} {ret : Option FieldType} {fr lo index k : Nat} {C : String} {o : Nat} {As : List Value} {X : State → Prop} {r : Int32} (hM : kPu l y b n ret fr lo (.ref o :: As) H X r) (hm : kXm X) (hX : X s) (hw : kWd y b n ret own index k) (hin : Cond.instanceMethod y ∈ lw_ok) (hse : Cond.selects C y y ∈ lw_ok)
    (ho : ∃ cell : Cell, H[o]? = some cell ∧ cell.vm.isStatics = false ∧ s.vm.findClass C = some cell.cls) (hS : va_S A0 H0 H locs)
    (hd : decode cc pc = .ok (.invokevirtual index, 3)) (hR : (fr + 1 ≤ R.frames ∧ 8 + (n + 11) + lo ≤ R.locals) ∧ cells ≤ R.cells ∧ slots ≤ R.slots) (hk : As.length = k) (hz : ls.size = nL) (hs : st = As.reverse ++ .ref o :: rest) (hr : (rest.map fun v => v.category).sum ≤ 8)
    (kk : ∀ locs1 : List Loc, va_S A0 H0 H locs1 → W p l e R s m args below meth c H locs1 cells slots Q (F0 m (pc + 3) ls (.int r :: rest))) : W p l e R s m args below meth c H locs cells slots Q (F0 m pc ls st) := by
  subst hs
  refine va_calli (va_runV F hM ⟨k_B F.2.2.2.2 hw hR.1, F.2.2.2.2 _ hin, F.2.2.2.2 _ hse⟩ ⟨k_blind hm, ho, fun U hU hW => ⟨rfl, hU, hm _ _ hW hX⟩⟩ rfl hk hz rfl (lv_room hr) hd hR.2) hS (fun q _ h => h.elim) (fun q h => h.elim) (fun z u t H1 locs1 ht hvm hp hB hz1 hk1 hS1 => ?_)
  have e1 : H1 = H := by rw [← ht]; exact hB
  subst hp
  subst e1
  exact kk locs1 hS1
/-- invokevirtual of a void method that turns the cells w (of ws: at isC; the rest of ws, at isR, is wr) into w1 -/
theorem km_Vv (F : CallFix p m c cc nL s args lw_ok own) {y : MethodName} {b : ByteArray} {n : Nat} {fr lo index k : Nat} {C : String} {o : Nat} {As : List Value} {X : State → Prop} {D : va_G} {ws w wr w1 : va_W} (hM : kMv l y b n fr lo (.ref o :: As) H X D w w1) (hm : kXm X) (hX : X s) (hw : kWd y b n none own index k) (hin : Cond.instanceMethod y ∈ lw_ok) (hse : Cond.selects C y y ∈ lw_ok)
    (ho : ∃ cell : Cell, H[o]? = some cell ∧ cell.vm.isStatics = false ∧ s.vm.findClass C = some cell.cls) (hP : va_P D classes ws H) (hD : va_D A0 ws) (hS : va_S A0 H0 H locs) (hA : ∀ q, H0.size ≤ q → A0 q)
    (isC isR : List Nat) (hC : isC.map (fun i => ws[i]?) = w.map some) (hRr : isR.map (fun i => ws[i]?) = wr.map some) (hn : va_nd isR = true) (hdis : ∀ i ∈ isR, i ∉ isC)
    (hd : decode cc pc = .ok (.invokevirtual index, 3)) (hR : (fr + 1 ≤ R.frames ∧ 8 + (n + 11) + lo ≤ R.locals) ∧ cells ≤ R.cells ∧ slots ≤ R.slots) (hk : As.length = k) (hz : ls.size = nL) (hs : st = As.reverse ++ .ref o :: rest) (hr : (rest.map fun v => v.category).sum ≤ 8)
    (kk : ∀ (H1 : Heap) (locs1 : List Loc), va_P D classes (wr ++ w1) H1 → va_D A0 (wr ++ w1) → va_S A0 H0 H1 locs1 → W p l e R s m args below meth c H1 locs1 cells slots Q (F0 m (pc + 3) ls rest)) : W p l e R s m args below meth c H locs cells slots Q (F0 m pc ls st) := by
  subst hs
  have hF := va_free (wc := w) hD hS hA isC hC
  refine va_callv (va_runV F hM ⟨k_B F.2.2.2.2 hw hR.1, F.2.2.2.2 _ hin, F.2.2.2.2 _ hse⟩ ⟨k_blind hm, ho, fun U hU hW => ⟨rfl, hU, hm _ _ hW hX⟩⟩ rfl hk hz rfl (lv_room hr) hd hR.2) hS (fun q _ h => hF q h) hF (fun u t H1 locs1 ht hvm hp hB hz1 hk1 hS1 => ?_)
  obtain ⟨hP1, hD1⟩ := hB
  rw [ht] at hP1
  obtain ⟨hP2, hD2⟩ := va_join hP hD isC isR hC hRr hn hdis hk1 hF hP1 hD1
  exact kk H1 locs1 hP2 hD2 hS1
/-- the same, with an int's answer -/
theorem km_Vi (F : CallFix p m c cc nL s args lw_ok own) {y : MethodName} {b : ByteArray} {n : Nat} {ret : Option FieldType} {fr lo index k : Nat} {C : String} {o : Nat} {As : List Value} {X : State → Prop} {D : va_G} {ws w wr w1 : va_W} {r : Int32} (hM : kMi l y b n ret fr lo (.ref o :: As) H X D w w1 r) (hm : kXm X) (hX : X s) (hw : kWd y b n ret own index k) (hin : Cond.instanceMethod y ∈ lw_ok) (hse : Cond.selects C y y ∈ lw_ok)
    (ho : ∃ cell : Cell, H[o]? = some cell ∧ cell.vm.isStatics = false ∧ s.vm.findClass C = some cell.cls) (hP : va_P D classes ws H) (hD : va_D A0 ws) (hS : va_S A0 H0 H locs) (hA : ∀ q, H0.size ≤ q → A0 q)
    (isC isR : List Nat) (hC : isC.map (fun i => ws[i]?) = w.map some) (hRr : isR.map (fun i => ws[i]?) = wr.map some) (hn : va_nd isR = true) (hdis : ∀ i ∈ isR, i ∉ isC)
    (hd : decode cc pc = .ok (.invokevirtual index, 3)) (hR : (fr + 1 ≤ R.frames ∧ 8 + (n + 11) + lo ≤ R.locals) ∧ cells ≤ R.cells ∧ slots ≤ R.slots) (hk : As.length = k) (hz : ls.size = nL) (hs : st = As.reverse ++ .ref o :: rest) (hr : (rest.map fun v => v.category).sum ≤ 8)
    (kk : ∀ (H1 : Heap) (locs1 : List Loc), va_P D classes (wr ++ w1) H1 → va_D A0 (wr ++ w1) → va_S A0 H0 H1 locs1 → W p l e R s m args below meth c H1 locs1 cells slots Q (F0 m (pc + 3) ls (.int r :: rest))) : W p l e R s m args below meth c H locs cells slots Q (F0 m pc ls st) := by
  subst hs
  have hF := va_free (wc := w) hD hS hA isC hC
  refine va_calli (va_runV F hM ⟨k_B F.2.2.2.2 hw hR.1, F.2.2.2.2 _ hin, F.2.2.2.2 _ hse⟩ ⟨k_blind hm, ho, fun U hU hW => ⟨rfl, hU, hm _ _ hW hX⟩⟩ rfl hk hz rfl (lv_room hr) hd hR.2) hS (fun q _ h => hF q h) hF (fun z u t H1 locs1 ht hvm hp hB hz1 hk1 hS1 => ?_)
  obtain ⟨hP1, hD1⟩ := hB
  rw [ht] at hP1
  obtain ⟨hP2, hD2⟩ := va_join hP hD isC isR hC hRr hn hdis hk1 hF hP1 hD1
  subst hp
  exact kk H1 locs1 hP2 hD2 hS1
/-- the end of a method that only answers -/
theorem kp_i {r v : Int32} (F : CallFix p m c cc nL s args lw_ok own) (hlocks : meth.locks = false) (hr : meth.sig.returnType = some .int) (hS : va_S (fun _ => False) s.heap s.heap locs) (hd : decode cc pc = .ok (.ireturn, 1)) (hv : v = r) :
    W p l e R s m args below meth c s.heap locs 0 0 (MQ below (kQp s.heap r) args s 0 0 (fun _ => False)) (F0 m pc ls [.int v]) :=
  W.iret F.1 F.2.1 hr (fun t ht hW => ⟨⟨v, (), rfl, hv, ht⟩, hS.F ht⟩) hS.2.2 hd hlocks
theorem kp_z {r v : Int32} {ty : FieldType} (F : CallFix p m c cc nL s args lw_ok own) (hlocks : meth.locks = false) (hr : meth.sig.returnType = some ty) (hS : va_S (fun _ => False) s.heap s.heap locs) (hd : decode cc pc = .ok (.ireturn, 1)) (hn : narrow ty (.int v) = .int v) (hv : v = r) :
    W p l e R s m args below meth c s.heap locs 0 0 (MQ below (kQp s.heap r) args s 0 0 (fun _ => False)) (F0 m pc ls [.int v]) :=
  W.zret F.1 F.2.1 hr hn (fun t ht hW => ⟨⟨v, (), rfl, hv, ht⟩, hS.F ht⟩) hS.2.2 hd hlocks
/-- the ends of a method that turns cells -/
theorem km_v {D : va_G} {w w1 w2 : va_W} (F : CallFix p m c cc nL s args lw_ok own) (hlocks : meth.locks = false) (hr : meth.sig.returnType = none) (hP : va_P D classes w2 H) (hD : va_D (va_A w s.heap.size) w2) (hS : va_S (va_A w s.heap.size) s.heap H locs) (hd : decode cc pc = .ok (.return_, 1)) (hw : w2 = w1) :
    W p l e R s m args below meth c H locs 0 0 (MQ below (kQv D s.heap w w1) args s 0 0 (va_A w s.heap.size)) (F0 m pc ls []) := by
  subst hw
  exact W.vret F.1 F.2.1 hr (fun t ht hW => ⟨⟨(), rfl, trivial, by rw [ht]; exact hP, hD⟩, hS.F ht⟩) hS.2.2 hd hlocks
theorem km_i {D : va_G} {w w1 w2 : va_W} {r v : Int32} (F : CallFix p m c cc nL s args lw_ok own) (hlocks : meth.locks = false) (hr : meth.sig.returnType = some .int) (hP : va_P D classes w2 H) (hD : va_D (va_A w s.heap.size) w2) (hS : va_S (va_A w s.heap.size) s.heap H locs) (hd : decode cc pc = .ok (.ireturn, 1)) (hv : v = r) (hw : w2 = w1) :
    W p l e R s m args below meth c H locs 0 0 (MQ below (kQi D s.heap w w1 r) args s 0 0 (va_A w s.heap.size)) (F0 m pc ls [.int v]) := by
  subst hw
  exact W.iret F.1 F.2.1 hr (fun t ht hW => ⟨⟨v, (), rfl, hv, by rw [ht]; exact hP, hD⟩, hS.F ht⟩) hS.2.2 hd hlocks
end KB
/-- the entry of a method: what every walk begins with -/
theorem k_of {l : Launch} {y : MethodName} {b : ByteArray} {n : Nat} {ret : Option FieldType} {rm : Room} {As : List Value} {H : Heap} {X : State → Prop} {Qc : Array Value → State → Outcome → State → Prop} {mc ms : Nat} {free : Addr → Prop} (hy : plainName y.cls = true) (hn : (lg_sl As).length ≤ n)
    (body : ∀ (p : Program) (e : Env) (s : State) (m : MethodId) (below : List Frame) (meth : Method) (c : Code) (ls : Array Slot), CallFix p m c b n s As.toArray lw_ok y.cls → meth.locks = false → meth.sig.returnType = ret → (meth.name = y.name) → s.heap = H → X s → lv_has ls n (lv_args 0 As) →
      W p l e rm s m As.toArray below meth c s.heap [] 0 0 (MQ below Qc As.toArray s mc ms free) (F0 m 0 ls [])) : Met l y (kWs y b n ret) rm (kPc As H X) Qc mc ms free := by
  refine Met.ofW (cc := b) (maxL := n) (ret := ret) hy rfl ?_
  intro p e s m args below meth c s₁ B hml hv
  obtain ⟨rfl, hh, hX⟩ := hv
  have hts := atoms_spec (ws := kWs y b n ret) B.pre
  rw [lg_entry_eq]
  exact body p e s m below meth c _ ⟨B.exec, B.bytes, hml, findClass_of_methodNamed B.named, fun w hw => hts w (List.mem_cons_of_mem _ hw)⟩ B.notSynchronized B.returns (name_of_methodNamed B.named B.method).1 hh hX (lv_entry As hn)
