/-! THE LAW's own methods: static, with handlers; their contracts, their entry, their call -/
theorem kh_all : ∀ (L : List ExceptionTableEntry) (hh : List (Nat × Nat × Nat × Nat)), L.map (fun h => (h.startPc, h.endPc, h.handlerPc, h.catchType)) = hh → L = hh.map (fun t => ⟨t.1, t.2.1, t.2.2.1, t.2.2.2⟩)
  | [], hh, h => by subst h; rfl
  | x :: L, hh, h => by
    subst h
    rw [List.map_cons, List.map_cons, ← kh_all L _ rfl]
/-- the long array that an answer comes back in -/
abbrev wL (ao : Nat) (kl : ClassId) (f : Nat → Int64) : va_W := [(ao, .inl (kl, 1, .inr (.inl f)))]
abbrev kWl (y : MethodName) (b : ByteArray) (n : Nat) (ret : Option FieldType) (hh : List (Nat × Nat × Nat × Nat)) : List Cond := Cond.codeWith y b n ret hh :: lw_ok
def kLi (l : Launch) (y : MethodName) (b : ByteArray) (n : Nat) (hh : List (Nat × Nat × Nat × Nat)) (fr lo : Nat) (As : List Value) (H : Heap) (X : State → Prop) (D : va_G) (w w1 : va_W) (r : Int32) : Prop :=
  Met l y (kWl y b n (some .int) hh) { frames := fr, cells := 1, slots := 6, locals := lo } (kPc As H X) (kQi D H w w1 r) 1 6 (va_A w H.size)
theorem k_ofW {l : Launch} {y : MethodName} {b : ByteArray} {n : Nat} {ret : Option FieldType} {hh : List (Nat × Nat × Nat × Nat)} {rm : Room} {As : List Value} {H : Heap} {X : State → Prop} {Qc : Array Value → State → Outcome → State → Prop} {mc ms : Nat} {free : Addr → Prop} (hy : plainName y.cls = true) (hn : (lg_sl As).length ≤ n)
    (body : ∀ (p : Program) (e : Env) (s : State) (m : MethodId) (below : List Frame) (meth : Method) (c : Code) (ls : Array Slot), CallFix p m c b n s As.toArray lw_ok y.cls → meth.locks = false → meth.sig.returnType = ret → c.exceptionTable.toList = hh.map (fun t => ⟨t.1, t.2.1, t.2.2.1, t.2.2.2⟩) → s.heap = H → X s → lv_has ls n (lv_args 0 As) →
      W p l e rm s m As.toArray below meth c s.heap [] 0 0 (MQ below Qc As.toArray s mc ms free) (F0 m 0 ls [])) : Met l y (kWl y b n ret hh) rm (kPc As H X) Qc mc ms free := by
  refine va_MetW (hh := hh) hy rfl ?_
  intro p e s m args below meth c s₁ B hml hv
  obtain ⟨rfl, hh1, hX⟩ := hv
  have hts := atoms_spec (ws := kWl y b n ret hh) B.pre
  obtain ⟨m9, meth9, c9, n9, h1, h2, h3, h4, h5, -⟩ := Cond.codeWith_spec (hts _ List.mem_cons_self)
  cases B.named.symm.trans n9
  cases B.method.symm.trans h1
  have hc : s₁.code? m = some c := B.here.code
  have hc2 : s₁.code? m = some c9 := by
    rw [State.code?_eq, B.state]
    show (s.vm.method? m).bind _ = _
    rw [B.method]
    exact h2
  cases hc.symm.trans hc2
  rw [lg_entry_eq]
  exact body p e s m below meth c _ ⟨B.exec, B.bytes, hml, findClass_of_methodNamed B.named, fun w hw => hts w (List.mem_cons_of_mem _ hw)⟩ B.notSynchronized B.returns (kh_all _ _ h5) hh1 hX (lv_entry As hn)
section KLW
variable {p : Program} {l : Launch} {e : Env} {R : Room} {s : State} {m : MethodId} {args : Array Value} {below : List Frame} {meth : Method} {c : Code} {H H0 : Heap} {locs : List Loc} {cells slots : Nat} {Q : State → Prop} {cc : ByteArray} {pc : Nat} {ls : Array Slot} {rest st : List Value} {own : String} {nL : Nat} {A0 : Nat → Prop}
theorem kl_i {D : va_G} {w w1 w2 : va_W} {r v : Int32} (F : CallFix p m c cc nL s args lw_ok own) (hlocks : meth.locks = false) (hr : meth.sig.returnType = some .int) (hP : va_P D classes w2 H) (hD : va_D (va_A w s.heap.size) w2) (hS : va_S (va_A w s.heap.size) s.heap H locs) (hd : decode cc pc = .ok (.ireturn, 1)) (hv : v = r) (hw : w2 = w1) :
    W p l e R s m args below meth c H locs cells slots (MQ below (kQi D s.heap w w1 r) args s cells slots (va_A w s.heap.size)) (F0 m pc ls [.int v]) := by
  subst hw
  exact W.iret F.1 F.2.1 hr (fun t ht hW => ⟨⟨v, (), rfl, hv, by rw [ht]; exact hP, hD⟩, hS.F ht⟩) hS.2.2 hd hlocks
theorem kl_words (hT : ∀ w ∈ lw_ok, w.before args s = true) {y : MethodName} {b : ByteArray} {n : Nat} {ret : Option FieldType} {hh : List (Nat × Nat × Nat × Nat)} (hc : Cond.codeWith y b n ret hh ∈ lw_ok) : ∀ w ∈ kWl y b n ret hh, ∀ (a' : Array Value) (U : State), s.WarmedH U.vm → w.before a' U = true := by
  intro w hw a' U hW
  have hw' : w ∈ lw_ok := by
    rcases List.mem_cons.mp hw with h | h
    · rw [h]; exact hc
    · exact h
  exact word_at hW (good_of_word (lw_good w hw')) (hT w hw')
/-- invokestatic of a method with handlers -/
theorem kl_run (F : CallFix p m c cc nL s args lw_ok own) {y : MethodName} {b : ByteArray} {n : Nat} {ret : Option FieldType} {hh : List (Nat × Nat × Nat × Nat)} {fr lo mc ms index k : Nat} {As : List Value} {X : State → Prop} {Qc : Array Value → State → Outcome → State → Prop} {free : Addr → Prop}
    (hM : Met l y (kWl y b n ret hh) { frames := fr, cells := mc, slots := ms, locals := lo } (kPc As H X) Qc mc ms free) (hm : kXm X) (hX : X s) (hc : Cond.codeWith y b n ret hh ∈ lw_ok) (hi : Cond.initialized y.cls ∈ lw_ok) (hy : y.cls ≠ "java/lang/invoke/MethodHandle" ∧ y.cls ≠ "java/lang/invoke/VarHandle") (hln : (parseMethodDescriptor y.desc).map (fun d => d.parameters.length) = some k) (hlink : Cond.methodLink own index y ∈ lw_ok) (hst : Cond.static y ∈ lw_ok)
    (hd : decode cc pc = .ok (.invokestatic index, 3)) (hR : (fr + 1 ≤ R.frames ∧ 8 + (n + 11) + lo ≤ R.locals) ∧ cells + mc ≤ R.cells ∧ slots + ms ≤ R.slots) (hk : As.length = k) (hz : ls.size = nL) (hr : (rest.map fun v => v.category).sum ≤ 8) :
    va_Run p l e R s m args below meth c H locs cells slots mc ms (F0 m pc ls (As.reverse ++ rest)) rest (Qc As.toArray) free := by
  have hK : Back l R p e below s args y 3 8 (PreOf R mc ms (kPc As H X)) (PostOf Qc mc ms free) := va_backW (hh := hh) (bytes := b) (maxL := n) (ret := ret) hM (k_blind hm) rfl rfl hR.1.1 hR.1.2 (kl_words F.2.2.2.2 hc) List.mem_cons_self (fun a' U hW => word_at hW (good_of_word (lw_good _ hi)) (F.2.2.2.2 _ hi))
  obtain ⟨hx, hb, hml, hown, hT⟩ := F
  intro T hTH S
  obtain ⟨mk, methM, cM, hnamed, hmethM, -, -, -, -, -, -, hsigM⟩ := Cond.codeWith_spec (hT _ hc)
  have hstatic : methM.isStatic = true := Cond.static_spec hnamed hmethM (hT _ hst)
  obtain ⟨kP, hkP, -⟩ := className_of_methodNamed hnamed
  have hinitP : kP.init = .initialized := Cond.initialized_spec (findClass_of_methodNamed hnamed) hkP (hT _ hi)
  obtain ⟨vm₁, X₁, hstep₁⟩ := S.invokestatic hx hown (hT _ hlink) hnamed hmethM hstatic hkP hinitP hy (g := F0 m pc ls (As.reverse ++ rest)) rfl (argsL := As) (rest := rest) (hk.trans (k_len hln _ hsigM)) rfl (by rw [hb]; exact hd)
  obtain ⟨v, ⟨U', l2, c2, s2⟩, X', hpost, hsteps⟩ := hK m meth c ⟨T.setVm vm₁, locs, cells, slots⟩ { F0 m pc ls (As.reverse ++ rest) with stack := rest } (.invokestatic index) mk As.toArray X₁ rfl (hz.trans hml.symm) (by rw [hb]; exact hd) (lv_room hr) (X₁.named hnamed) ⟨hR.2.1, hR.2.2, rfl, hTH, hm _ _ X₁.warmed hX⟩
  obtain ⟨g', mk', t, L, e1, e2, hq, h1, hL, h2, h3⟩ := hpost
  dsimp only [Pt.U, Pt.locs, Pt.cells, Pt.slots] at X' e1 e2 h1 h2 h3 hsteps
  subst h1; subst h2; subst h3
  exact ⟨v, (T.setVm vm₁).calling g' mk' As.toArray, t, U', L, hTH, X', hL, e1, e2, hq, fun target h => hstep₁ _ fun acts => by rw [doInvoke_state]; exact hsteps.trans h⟩
theorem kl_S (F : CallFix p m c cc nL s args lw_ok own) {y : MethodName} {b : ByteArray} {n : Nat} {hh : List (Nat × Nat × Nat × Nat)} {fr lo index k : Nat} {As : List Value} {X : State → Prop} {D : va_G} {ws w wr w1 : va_W} {r : Int32} (hM : kLi l y b n hh fr lo As H X D w w1 r) (hm : kXm X) (hX : X s) (hc : Cond.codeWith y b n (some .int) hh ∈ lw_ok) (hi : Cond.initialized y.cls ∈ lw_ok) (hy : y.cls ≠ "java/lang/invoke/MethodHandle" ∧ y.cls ≠ "java/lang/invoke/VarHandle") (hln : (parseMethodDescriptor y.desc).map (fun d => d.parameters.length) = some k) (hlink : Cond.methodLink own index y ∈ lw_ok) (hst : Cond.static y ∈ lw_ok)
    (hP : va_P D classes ws H) (hD : va_D A0 ws) (hS : va_S A0 H0 H locs) (hA : ∀ q, H0.size ≤ q → A0 q)
    (isC isR : List Nat) (hC : isC.map (fun i => ws[i]?) = w.map some) (hRr : isR.map (fun i => ws[i]?) = wr.map some) (hn : va_nd isR = true) (hdis : ∀ i ∈ isR, i ∉ isC)
    (hd : decode cc pc = .ok (.invokestatic index, 3)) (hR : (fr + 1 ≤ R.frames ∧ 8 + (n + 11) + lo ≤ R.locals) ∧ cells + 1 ≤ R.cells ∧ slots + 6 ≤ R.slots) (hk : As.length = k) (hz : ls.size = nL) (hs : st = As.reverse ++ rest) (hr : (rest.map fun v => v.category).sum ≤ 8)
    (kk : ∀ (H1 : Heap) (locs1 : List Loc), va_P D classes (wr ++ w1) H1 → va_D A0 (wr ++ w1) → va_S A0 H0 H1 locs1 → W p l e R s m args below meth c H1 locs1 (cells + 1) (slots + 6) Q (F0 m (pc + 3) ls (.int r :: rest))) : W p l e R s m args below meth c H locs cells slots Q (F0 m pc ls st) := by
  subst hs
  have hF := va_free (wc := w) hD hS hA isC hC
  refine va_calli (kl_run F hM hm hX hc hi hy hln hlink hst hd hR hk hz hr) hS (fun q _ h => hF q h) hF (fun z u t H1 locs1 ht hvm hp hB hz1 hk1 hS1 => ?_)
  obtain ⟨hP1, hD1⟩ := hB
  rw [ht] at hP1
  obtain ⟨hP2, hD2⟩ := va_join hP hD isC isR hC hRr hn hdis hk1 hF hP1 hD1
  subst hp
  exact kk H1 locs1 hP2 hD2 hS1
end KLW
/-- what the law's methods need of the tables and of the heap -/
abbrev lX (D : va_G) (k : Nat → ClassId) (kl : ClassId) (q vB B : Nat) (H : Heap) (U : State) : Prop := taX D k q vB B H U ∧ va_K D classes [(kl, .long)] U
theorem lX_m {D : va_G} {k : Nat → ClassId} {kl : ClassId} {q vB B : Nat} {H : Heap} : kXm (lX D k kl q vB B H) := kx_and taX_m kx_K
