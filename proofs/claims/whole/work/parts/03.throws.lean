/-! EXCEPTIONS: a method that throws a new object of the class cls and changes nothing that was there; a call of it by a method that catches it. -/
theorem tx_same {s s' : State} {k n : Nat} (h : s.sameButNew s' [] k n) {a : Addr} (ha : a < s.heap.size) : s'.heap[a]? = s.heap[a]? := by
  obtain ⟨c', h1, h2, h3, h4⟩ := h.2.2.2.2.2 a _ (Array.getElem?_eq_getElem ha)
  have hs : c'.slots = (s.heap[a]).slots := Array.ext_getElem? (fun i => h4 i (by simp))
  rw [hs] at h2
  rw [h1, Array.getElem?_eq_getElem ha]
  exact congrArg some h2
/-- a static field of Throwable that holds a reference or null; its cell is one of the first B -/
def tzL (n d : String) (B : Nat) (U : State) (H : Heap) : Prop := ∃ (c : ClassId) (k : Class) (i : Nat) (f : Field) (a : Nat) (cell : Cell) (v : Value), U.vm.findClass Bundle.tN = some c ∧ U.fieldFound? Bundle.tN n d = some (c, k, i, f) ∧ f.isStatic = true ∧ k.statics = some a ∧ H[a]? = some cell ∧ cell.vm.isStatics = true ∧ cell.cls = c ∧ f.slot < cell.slots.size ∧ k.staticTypes[f.slot]? = some f.type ∧ cell.slots[f.slot]? = some v ∧ v.isRef = true ∧ a < B
theorem tzL.moved {n d : String} {B : Nat} {u U : State} {H : Heap} (hvm : u.vm.Alike U.vm) (h : tzL n d B u H) : tzL n d B U H := by
  obtain ⟨c, k, i, f, a, cell, v, h1, h2, h3, h4, h5, h6, h7, h8, h9, h10⟩ := h
  obtain ⟨k', hi', he⟩ := State.fieldFound?_setVm hvm h2
  exact ⟨c, k', i, f, a, cell, v, by rw [hvm.findClass]; exact h1, hi', h3, by rw [he]; exact h4, h5, h6, h7, h8, by rw [he]; exact h9, h10⟩
theorem tzL.kept {n d : String} {B : Nat} {U : State} {H H1 : Heap} (h : tzL n d B U H) (hq : ∀ a : Nat, a < B → H1[a]? = H[a]?) : tzL n d B U H1 := by
  obtain ⟨c, k, i, f, a, cell, v, h1, h2, h3, h4, h5, h6, h7, h8, h9, h10, h11, h12⟩ := h
  exact ⟨c, k, i, f, a, cell, v, h1, h2, h3, h4, by rw [hq a h12]; exact h5, h6, h7, h8, h9, h10, h11, h12⟩
theorem tzL.lays {n d : String} {B : Nat} {s : State} {args : Array Value} (h : tzL n d B s s.heap) : (Cond.laysStatic Bundle.tN n d).before args s = true := by
  obtain ⟨c, k, i, f, a, cell, v, h1, h2, h3, h4, h5, h6, h7, h8, h9, -⟩ := h
  show (Cond.laysStatic Bundle.tN n d).holds args s none s [] = true
  exact Cond.laysStatic_of h1 h2 h3 h4 h5 h6 h7 h8 h9
theorem tzL.ref {n d : String} {B : Nat} {s : State} {args : Array Value} (h : tzL n d B s s.heap) : (Cond.isRef (.static Bundle.tN n d)).before args s = true := by
  obtain ⟨c, k, i, f, a, cell, v, h1, h2, h3, h4, h5, h6, h7, h8, h9, h10, h11, -⟩ := h
  have he : (Term.static Bundle.tN n d).eval args s none [] s = some v := by
    simp [Term.eval, State.fieldNamed?, h2, h3, h4, h5, h6, h10]
  simp only [Cond.before, Cond.holds, Cond.value, he]
  cases v <;> simp_all [Value.isRef]
theorem tzL.of {n d : String} {s : State} {args : Array Value} (hl : (Cond.laysStatic Bundle.tN n d).before args s = true) (h : (Cond.isRef (.static Bundle.tN n d)).before args s = true) : tzL n d s.heap.size s s.heap := by
  obtain ⟨c, k, i, f, a, cell, h1, h2, h3, h4, h5, h6, h7, h8, h9⟩ := Cond.laysStatic_spec hl
  have he : (Term.static Bundle.tN n d).eval args s none [] s = cell.slots[f.slot]? := by
    simp [Term.eval, State.fieldNamed?, h2, h3, h4, h5, h6]
  simp only [Cond.before, Cond.holds, Cond.value, he] at h
  refine ⟨c, k, i, f, a, cell, cell.slots[f.slot], h1, h2, h3, h4, h5, h6, h7, h8, h9, Array.getElem?_eq_getElem h8, ?_, (Array.getElem?_eq_some_iff.mp h5).1⟩
  rw [Array.getElem?_eq_getElem h8] at h
  cases hv : cell.slots[f.slot] <;> rw [hv] at h <;> simp_all [Value.isRef]
/-- can an object of the class c be assigned to the class t? -/
def tzC (c t : String) (v : Bool) (U : State) : Prop := ∃ a b : ClassId, U.vm.findClass c = some a ∧ U.vm.findClass t = some b ∧ U.vm.assignable a b = v
theorem tzC.moved {c t : String} {v : Bool} {u U : State} (hvm : u.vm.Alike U.vm) (h : tzC c t v u) : tzC c t v U := by
  obtain ⟨a, b, h1, h2, h3⟩ := h
  exact ⟨a, b, by rw [hvm.findClass]; exact h1, by rw [hvm.findClass]; exact h2, by rw [hvm.assignable]; exact h3⟩
theorem tzC.word {c t : String} {s : State} {args : Array Value} (h : tzC c t true s) : (Cond.castable c t).before args s = true := by
  obtain ⟨a, b, h1, h2, h3⟩ := h
  simp only [Cond.before, Cond.holds, Cond.value, h1, h2, h3]
  rfl
theorem tzC.of {c t : String} {s : State} {args : Array Value} (h : (Cond.castable c t).before args s = true) : tzC c t true s := by
  obtain ⟨a, b, h1, h2, h3⟩ := Cond.castable_spec h
  exact ⟨a, b, h1, h2, h3⟩
theorem tzC.ofNot {c t : String} {s : State} {args : Array Value} {a b : ClassId} (h1 : s.vm.findClass c = some a) (h2 : s.vm.findClass t = some b) (h : (Cond.not (.castable c t)).before args s = true) : tzC c t false s := by
  have hv := Cond.holds_not_iff.mp h
  simp only [Cond.value, h1, h2] at hv
  exact ⟨a, b, h1, h2, Option.some.inj hv⟩
abbrev xIA : String := "java/lang/IllegalArgumentException"
abbrev xIS : String := "java/lang/IllegalStateException"
abbrev xNS : String := "java/util/NoSuchElementException"
/-- what every throw and every catch needs of the heap and of the tables -/
def tz (B : Nat) (H : Heap) (U : State) : Prop := tzL "UNASSIGNED_STACK" Bundle.steD B U H ∧ tzL "SUPPRESSED_SENTINEL" Bundle.listD B U H ∧ tzC xIA xIA true U ∧ tzC xIS xIS true U ∧ tzC xNS xNS true U ∧ tzC xIS xIA false U ∧ tzC xIA xNS false U
theorem tz_m {B : Nat} {H : Heap} : kXm (tz B H) := fun _ _ hv h => ⟨h.1.moved hv.alike, h.2.1.moved hv.alike, h.2.2.1.moved hv.alike, h.2.2.2.1.moved hv.alike, h.2.2.2.2.1.moved hv.alike, h.2.2.2.2.2.1.moved hv.alike, h.2.2.2.2.2.2.moved hv.alike⟩
theorem tz.kept {B : Nat} {H H1 : Heap} {U : State} (h : tz B H U) (hq : ∀ a : Nat, a < B → H1[a]? = H[a]?) : tz B H1 U := ⟨h.1.kept hq, h.2.1.kept hq, h.2.2⟩
def tz_no (cls : String) (w : Cond) : Bool := decide (w = .castable cls cls) || decide (w = .isRef (.static Bundle.tN "UNASSIGNED_STACK" Bundle.steD)) || decide (w = .isRef (.static Bundle.tN "SUPPRESSED_SENTINEL" Bundle.listD)) || decide (w = .laysStatic Bundle.tN "UNASSIGNED_STACK" Bundle.steD) || decide (w = .laysStatic Bundle.tN "SUPPRESSED_SENTINEL" Bundle.listD)
theorem tz_own {B : Nat} {s : State} {args : Array Value} {cls : String} (h : tz B s.heap s) (hc : tzC cls cls true s) (hT : ∀ w ∈ lw_ok, w.before args s = true) {L : List Cond} (hL : L.all (fun w => decide (w ∈ lw_ok) || tz_no cls w) = true) : ∀ w ∈ L, w.before args s = true := by
  intro w hw
  have h1 := List.all_eq_true.mp hL w hw
  simp only [Bool.or_eq_true, decide_eq_true_eq, tz_no] at h1
  rcases h1 with h1 | ((((h1 | h1) | h1) | h1) | h1)
  · exact hT w h1
  · rw [h1]; exact hc.word
  · rw [h1]; exact h.1.ref
  · rw [h1]; exact h.2.1.ref
  · rw [h1]; exact h.1.lays
  · rw [h1]; exact h.2.1.lays
/-- the end of a method that threw a new object of the class cls, and changed nothing that was there -/
def tx_End (cls : String) (mc ms : Nat) (st : State) (o : Outcome) (t : State) : Prop :=
  ∃ (x : Addr) (ce : Cell), o = .threw x ∧ st.WarmedH t.vm ∧ st.sameButNew ({ t with vm := st.vm } : State) [] mc ms ∧ t.heap[x]? = some ce ∧ st.vm.findClass cls = some ce.cls ∧ ce.vm = .none
def kTh (l : Launch) (y : MethodName) (b : ByteArray) (n : Nat) (ret : Option FieldType) (fr lo : Nat) (As : List Value) (H : Heap) (X : State → Prop) (cls : String) : Prop :=
  MetFree l y (headSpec (kWs y b n ret) { frames := fr, cells := 1, slots := 6, locals := lo }) (kPc As H X) (fun _ _ _ _ _ => True) (fun _ st o t => tx_End cls 1 6 st o t)
abbrev kQt (below : List Frame) (s : State) (cls : String) : State → Prop := fun t => ∃ o, t.status = .running ∧ Ended t below o ∧ tx_End cls 1 6 s o t
theorem kt_of {l : Launch} {y : MethodName} {b : ByteArray} {n : Nat} {ret : Option FieldType} {fr lo : Nat} {As : List Value} {H : Heap} {X : State → Prop} {cls : String} (hy : plainName y.cls = true) (hn : (lg_sl As).length ≤ n)
    (body : ∀ (p : Program) (e : Env) (s : State) (m : MethodId) (below : List Frame) (meth : Method) (c : Code) (ls : Array Slot), CallFix p m c b n s As.toArray lw_ok y.cls → meth.locks = false → c.exceptionTable.isEmpty = true → s.heap = H → X s → lv_has ls n (lv_args 0 As) →
      W p l e { frames := fr, cells := 1, slots := 6, locals := lo } s m As.toArray below meth c s.heap [] 0 0 (kQt below s cls) (F0 m 0 ls [])) : kTh l y b n ret fr lo As H X cls := by
  refine MetFree.of_bodyS (code := b) (maxLocals := n) (ret := ret) hy ?_ ?_
  · intro args s m h hnm
    obtain ⟨meth, c, h1, h2, h3, h4, h5, h6, -, -⟩ := Cond.code_spec hnm (atoms_spec (ws := kWs y b n ret) h _ List.mem_cons_self)
    exact ⟨meth, c, h1, h2, h3, h4, h5, h6⟩
  · intro p e s m args below meth c s₁ B hml hv _
    obtain ⟨rfl, hh, hX⟩ := hv
    have hts := atoms_spec (ws := kWs y b n ret) B.pre
    have hh0 : s₁.heap = s.heap := by rw [B.state]; rfl
    have hex : c.exceptionTable.isEmpty = true := BodyLoose.noHandlers B (hts _ List.mem_cons_self)
    have K := body p e s m below meth c _ ⟨B.exec, B.bytes, B.maxLocals_eq (hts _ List.mem_cons_self), findClass_of_methodNamed B.named, fun w hw => hts w (List.mem_cons_of_mem _ hw)⟩ B.notSynchronized hex hh hX (lv_entry As hn)
    rw [← lg_entry_eq] at K
    obtain ⟨t, a1, o, b1, b2, b3⟩ := K s₁ hh0 (Stand.of_body B)
    exact ⟨t, o, a1, b1, b2, b3⟩
section KT
variable {p : Program} {l : Launch} {e : Env} {R : Room} {s : State} {m : MethodId} {args : Array Value} {below : List Frame} {meth : Method} {c : Code} {H H0 : Heap} {locs : List Loc} {cells slots : Nat} {Q : State → Prop} {cc : ByteArray} {pc : Nat} {ls : Array Slot} {rest st : List Value} {own : String} {nL : Nat} {A0 : Nat → Prop}
set_option maxRecDepth 100000 in
set_option maxHeartbeats 4000000 in
/-- 'throw new cls(text)', from the 'new' on, in a method that has written nothing -/
theorem kt_throw {cls tx : String} {names : List String} {ik is ic q B : Nat} (F : CallFix p m c cc nL s args lw_ok own) (hlocks : meth.locks = false) (hex : c.exceptionTable.isEmpty = true) (hl : l.stackTraces = false) (hz : tz B s.heap s) (hc : tzC cls cls true s) (hL : (Bundle.ownAtoms own ic cls names).all (fun w => decide (w ∈ lw_ok) || tz_no cls w) = true)
    (hcls : Bundle.fit cls = true) (hnames : ∀ n ∈ names, Bundle.fit n = true) (hcl : Cond.classLink own ik cls ∈ lw_ok) (hin : Cond.instantiable cls 6 ∈ lw_ok) (hini : Cond.initialized cls ∈ lw_ok) (hq : vk_R own is tx q s) (hS : va_S (fun _ => False) s.heap s.heap locs) (hsz : ls.size = nL) (hR : names.length + 3 < R.frames ∧ (rest.map fun v => v.category).sum + 13 * (names.length + 1) + 43 ≤ R.locals ∧ 1 ≤ R.cells ∧ 6 ≤ R.slots)
    (d1 : decode cc pc = .ok (.new ik, 3)) (d2 : decode cc (pc + 3) = .ok (.dup, 1)) (d3 : decode cc (pc + 4) = .ok (.ldc is, 2)) (d4 : decode cc (pc + 6) = .ok (.invokespecial ic, 3)) (d5 : decode cc (pc + 9) = .ok (.athrow, 1)) :
    W p l e R s m args below meth c s.heap locs 0 0 (kQt below s cls) (F0 m pc ls rest) := by
  obtain ⟨hx, hb, hml, hown, hT⟩ := F
  refine va_forget (fun z hz => (hS.2.2 z hz).elim) ?_
  refine W.newc hx hb hown (hT _ hcl) (hT _ hin) (hT _ hini) rfl d1 (by omega) (by omega) (fun cC kC h1 h2 h3 h4 => ?_)
  refine lv_dup hx hb d2 rfl ?_
  refine va_ldcS hx hb hown hq d3 ?_
  intro T hT0 X
  have htr : e.platform.stackTraces = false := (show e.platform.stackTraces = l.stackTraces by rw [X.admits.platform]).trans hl
  obtain ⟨U, hsteps, hrun, hend, hW, hsame, ce, hce, hown'⟩ := X.ctorThrowS hx htr (own := own) (cls := cls) (names := names) (ic := ic) hown hcls hnames (tz_own hz hc hT hL) (fun x h => by cases h) (a := s.heap.size) (cX := cC) (kX := kC) h1 h2
    (by rw [hT0]; simp [freshCell]) (Nat.le_refl _) (msg := .ref q) rfl (g := F0 m (pc + 6) ls (.ref q :: .ref s.heap.size :: .ref s.heap.size :: rest)) rfl (hsz.trans hml.symm) rfl rfl (rest := rest) rfl (by rw [hb]; exact d4) (by rw [hb]; exact d5) (fun x hx => by simp at hex; rw [hex] at hx; simp at hx) hR.1 (by show 2 * 0 + (1 + (rest.map fun v => v.category).sum) + _ ≤ _; omega) hlocks
  exact ⟨U, hsteps, .threw s.heap.size, hrun, hend, s.heap.size, ce, rfl, hW, hsame, hce, hown'.cls, hown'.vm⟩
/-- the search for a handler, through rows that are passed, to one that takes the object: the tables that it leaves are warmer -/
theorem tx_go {s₀ : State} {f : JFrame} {a : Addr} {ce : Cell} (hobj : ∀ k, ce.vm ≠ .statics k) (hk0 : ∃ k, s₀.vm.classes[ce.cls]? = some k) (x : ExceptionTableEntry) (suf : List ExceptionTableEntry) (hx : covers x f.pc = true) (h0 : x.catchType ≠ 0) {cx : ClassId} (hlx : s₀.vm.ClassLinks e.platform f.method.cls x.catchType cx) (hfx : s₀.vm.assignable ce.cls cx = true) :
    ∀ (pre : List ExceptionTableEntry) (S : State), s₀.WarmedH S.vm → S.heap[a]? = some ce → (∀ y ∈ pre, covers y f.pc = true ∧ y.catchType ≠ 0 ∧ ∃ cy, s₀.vm.ClassLinks e.platform f.method.cls y.catchType cy ∧ s₀.vm.assignable ce.cls cy = false) →
      ∃ vm', s₀.WarmedH vm' ∧ ∀ (Q : Handler → Pre) (E : CtlPost) (d : Bool) (acts : List Action), wp (findHandler.go f a (pre ++ x :: suf)) Q E e d acts S ↔ Q (.found x.handlerPc) d acts (S.setVm vm') := by
  obtain ⟨k0, hk0⟩ := hk0
  have one : ∀ (S : State) (y : ExceptionTableEntry) (cy : ClassId) (t : List ExceptionTableEntry), s₀.WarmedH S.vm → S.heap[a]? = some ce → covers y f.pc = true → y.catchType ≠ 0 → s₀.vm.ClassLinks e.platform f.method.cls y.catchType cy →
      s₀.WarmedH (S.vm.noted f.method.cls y.catchType (.cls cy)) ∧ ∀ (Q : Handler → Pre) (E : CtlPost) (d : Bool) (acts : List Action), wp (findHandler.go f a (y :: t)) Q E e d acts S ↔ if s₀.vm.assignable ce.cls cy = true then Q (.found y.handlerPc) d acts (S.setVm (S.vm.noted f.method.cls y.catchType (.cls cy))) else wp (findHandler.go f a t) Q E e d acts (S.setVm (S.vm.noted f.method.cls y.catchType (.cls cy))) := by
    intro S y cy t hW hcell hcov hy0 hl
    obtain ⟨dk, _, _, kt, hd, _, _, _, _, hkt, _, hopen⟩ := hl.here
    refine ⟨hW.noted hd hopen (State.rightAt_cls hl), fun Q E d acts => ?_⟩
    obtain ⟨ha, ht⟩ := (resolveClass_links e.toSetting (hW.classLinks hl)).op (op := VmOp.resolveClass f.method.cls y.catchType) rfl
    have hal : s₀.vm.Alike (S.vm.noted f.method.cls y.catchType (.cls cy)) := hW.alike.trans ((Vm.Alike.refl S.vm).noted _ _ _)
    obtain ⟨k1', hk1', -⟩ := hal.2.2 _ _ hk0
    obtain ⟨k2', hk2', -⟩ := hal.2.2 _ _ hkt
    have hasg : (S.vm.noted f.method.cls y.catchType (.cls cy)).assignable ce.cls cy = s₀.vm.assignable ce.cls cy := hal.assignable _ _
    simp only [covers] at hcov
    cases hfit : s₀.vm.assignable ce.cls cy <;> rw [hfit] at hasg <;> simp [findHandler.go, hcov, hy0, ha, ht, hcell, hobj, hk1', hk2', hasg, VmOp.dirties, VmOp.acts]
  intro pre
  induction pre with
  | nil =>
    intro S hW hcell _
    obtain ⟨h1, h2⟩ := one S x cx suf hW hcell hx h0 hlx
    exact ⟨_, h1, fun Q E d acts => by rw [List.nil_append, h2, if_pos hfx]⟩
  | cons y ys ih =>
    intro S hW hcell hpass
    obtain ⟨hcov, hy0, cy, hl, hno⟩ := hpass y List.mem_cons_self
    obtain ⟨h1, h2⟩ := one S y cy (ys ++ x :: suf) hW hcell hcov hy0 hl
    obtain ⟨vm', hW', hq⟩ := ih (S.setVm (S.vm.noted f.method.cls y.catchType (.cls cy))) h1 hcell (fun z hz => hpass z (List.mem_cons_of_mem _ hz))
    exact ⟨vm', hW', fun Q E d acts => by rw [List.cons_append, h2, if_neg (by rw [hno]; decide), hq]; rfl⟩
/-- a call of a method that throws, up to the note that it lays -/
theorem kt_call {y : MethodName} {b : ByteArray} {n : Nat} {ret : Option FieldType} {fr lo : Nat} {As : List Value} {X : State → Prop} {cls : String} (hT : ∀ w ∈ lw_ok, w.before args s = true) (hM : kTh l y b n ret fr lo As H X cls) (hm : kXm X) (hX : X s) (hc : Cond.code y b n ret ∈ lw_ok) (hi : Cond.initialized y.cls ∈ lw_ok)
    {T : State} (S : Stand p l e R s m args below meth c T locs cells slots) (hTH : T.heap = H) {g : JFrame} (hg : g.method = m) (hsize : g.locals.size = c.maxLocals) {ig : Instr} {len : Nat} (hdg : decode c.code g.pc = .ok (ig, len)) (hW : 2 * g.monitorRoom + (g.stack.map fun v => v.category).sum ≤ 8) {mk : MethodId} (hn : T.methodNamed? y = some mk)
    (hR : (fr + 1 ≤ R.frames ∧ 8 + (n + 11) + lo ≤ R.locals) ∧ cells + 1 ≤ R.cells ∧ slots + 6 ≤ R.slots) :
    ∃ (x : Addr) (T' : State) (ce : Cell), Stand p l e R s m args below meth c T' locs (cells + 1) (slots + 6) ∧ T'.heap[x]? = some ce ∧ s.vm.findClass cls = some ce.cls ∧ ce.vm = .none ∧ H.size ≤ T'.heap.size ∧ (∀ q, q < H.size → T'.heap[q]? = H[q]?) ∧
      Steps p.tables e below (doInvoke e (T.setTop g) [] mk As.toArray).1 ((T'.setTop g).pushFrame (.throwing x)) := by
  subst hg
  subst hTH
  have hcode := k_words hT hc _ List.mem_cons_self As.toArray T S.warmed
  have hini := word_at (a' := As.toArray) S.warmed (good_of_word (lw_good _ hi)) (hT _ hi)
  obtain ⟨methY, cY, hmY, hcY, -, hlY, -, -, -, -⟩ := Cond.code_spec hn hcode
  obtain ⟨kY, hkY, -⟩ := className_of_methodNamed hn
  have hinitY : kY.init = .initialized := Cond.initialized_spec (findClass_of_methodNamed hn) hkY hini
  have happ : (headSpec (kWs y b n ret) { frames := fr, cells := 1, slots := 6, locals := lo }).appliesLoose y e.platform (T.calling g mk As.toArray) = true :=
    Spec.appliesLoose_calling (g := g) S.here hdg hn hkY hinitY (S.room_calling (g := g) (R' := { frames := fr, cells := 1, slots := 6, locals := lo }) hsize hmY hcY hR.1.1 (by rw [hlY]; show _ + (n + 11) + lo ≤ _; omega) hR.2.1 hR.2.2) (atoms_intro fun w hw => k_words hT hc w hw _ _ S.warmed)
  obtain ⟨mid, hmid⟩ := S.here.above
  have hfr : (T.setTop g).frames = (.java g :: mid) ++ below := by rw [State.frames_setTop' g S.here.top, hmid]; rfl
  obtain ⟨o, s₂, hsteps, -, hend, hq⟩ := Steps.callFree hM p S.admits S.cas S.clock (acts := []) hfr happ (k_blind hm As.toArray T g mk ⟨rfl, rfl, hm _ _ S.warmed hX⟩) trivial
  obtain ⟨x, ce, rfl, hW₂, hsame, hce, hcl, hvm⟩ := hq
  rw [State.frames_setTop' g S.here.top] at hend
  have hf₂ : s₂.frames = .throwing x :: .java g :: T.frames.tail := hend
  have hW' : T.WarmedH s₂.vm := hW₂
  obtain ⟨g₀, hg0⟩ := Option.isSome_iff_exists.mp S.here.top
  obtain ⟨r, hr⟩ := State.topJava?_eq_some.mp hg0
  have e2 := hsame.1
  have e3 : s₂ = ({ (T.calling g mk As.toArray).setFrames s₂.frames with heap := s₂.heap, slotsUsed := s₂.slotsUsed } : State).setVm s₂.vm := by
    have h9 : s₂ = ({ s₂ with vm := (T.calling g mk As.toArray).vm } : State).setVm s₂.vm := rfl
    exact h9.trans (congrArg (fun z : State => z.setVm s₂.vm) e2)
  have hs₂ : s₂ = ((({ T with heap := s₂.heap, slotsUsed := s₂.slotsUsed } : State).setVm s₂.vm).setTop g).pushFrame (.throwing x) := by
    have hr' : (({ T with heap := s₂.heap, slotsUsed := s₂.slotsUsed } : State).setVm s₂.vm).frames = .java g₀ :: r := hr
    refine e3.trans ?_
    rw [hf₂, State.calling_eq S.here.top, State.setFrames_setFrames, State.pushFrame, State.frames_setTop _ hr', State.setTop_of_frames _ hr', State.setFrames_setFrames, hr]
    rfl
  have hsame2 : T.sameButNew ({ T with heap := s₂.heap, slotsUsed := s₂.slotsUsed } : State) [] 1 6 := by
    obtain ⟨q1, q2, q3, q4, q5, q6⟩ := hsame
    refine ⟨?_, q2, q3, q4, q5, q6⟩
    obtain ⟨t, ht, -⟩ := State.frames_cons hr
    show ({ T with heap := s₂.heap, slotsUsed := s₂.slotsUsed } : State) = { T.setFrames T.frames with heap := s₂.heap, slotsUsed := s₂.slotsUsed }
    rw [State.setFrames_self ht]
  have hsame3 := S.same.trans (hsame2.setVm s.vm)
  rw [List.append_nil] at hsame3
  refine ⟨x, ({ T with heap := s₂.heap, slotsUsed := s₂.slotsUsed } : State).setVm s₂.vm, ce, ⟨S.admits, S.cas, S.clock, S.frames, S.room, S.hears, S.method, S.code, (S.here.setHeapUsed s₂.heap s₂.slotsUsed).setVm hW'.alike, S.tail, State.WarmedH.trans S.warmed hW', S.limits, S.bytes, hsame3⟩, hce, ?_, hvm, hsame2.2.1, fun q hq => tx_same hsame2 hq, ?_⟩
  · have h9 : T.vm.findClass cls = some ce.cls := hcl
    rw [S.warmed.alike.findClass] at h9
    exact h9
  · show Steps p.tables e below _ (((({ T with heap := s₂.heap, slotsUsed := s₂.slotsUsed } : State).setVm s₂.vm).setTop g).pushFrame (.throwing x))
    rw [← hs₂]
    exact hsteps
/-- invokevirtual of a method that throws; the caller catches it: the row x of its table takes the class cls, those ahead of it don't -/
theorem kt_V (F : CallFix p m c cc nL s args lw_ok own) {y : MethodName} {b : ByteArray} {n : Nat} {ret : Option FieldType} {fr lo index k : Nat} {C : String} {o : Nat} {As : List Value} {X : State → Prop} {cls : String} (hM : kTh l y b n ret fr lo (.ref o :: As) H X cls) (hm : kXm X) (hX : X s) (hw : kWd y b n ret own index k) (hin : Cond.instanceMethod y ∈ lw_ok) (hse : Cond.selects C y y ∈ lw_ok)
    (ho : ∃ cell : Cell, H[o]? = some cell ∧ cell.vm.isStatics = false ∧ s.vm.findClass C = some cell.cls)
    (pre : List ExceptionTableEntry) (x : ExceptionTableEntry) (suf : List ExceptionTableEntry) (hsplit : c.exceptionTable.toList = pre ++ x :: suf) (hx : covers x pc = true) (h0 : x.catchType ≠ 0) {nm : String} (hlx : Cond.classLink own x.catchType nm ∈ lw_ok) (hcx : tzC cls nm true s)
    (hpass : ∀ z ∈ pre, covers z pc = true ∧ z.catchType ≠ 0 ∧ ∃ nz, Cond.classLink own z.catchType nz ∈ lw_ok ∧ tzC cls nz false s)
    (hd : decode cc pc = .ok (.invokevirtual index, 3)) (hR : (fr + 1 ≤ R.frames ∧ 8 + (n + 11) + lo ≤ R.locals) ∧ cells + 1 ≤ R.cells ∧ slots + 6 ≤ R.slots) (hk : As.length = k) (hz : ls.size = nL) (hs : st = As.reverse ++ .ref o :: rest) (hr : (rest.map fun v => v.category).sum ≤ 8)
    (kk : ∀ (q : Addr) (H1 : Heap), H.size ≤ H1.size → (∀ a, a < H.size → H1[a]? = H[a]?) → W p l e R s m args below meth c H1 locs (cells + 1) (slots + 6) Q (F0 m x.handlerPc ls [.ref q])) : W p l e R s m args below meth c H locs cells slots Q (F0 m pc ls st) := by
  subst hs
  obtain ⟨hexec, hb, hml, hown, hT⟩ := F
  obtain ⟨hc, hi, hy, hln, hlink⟩ := hw
  intro T hTH S
  have hpl : e.platform.magicAccessors = ({} : Platform).magicAccessors := by rw [S.admits.platform]
  obtain ⟨mk, methM, hnamed, hmethM, hstM, habM⟩ := Cond.instanceMethod_spec (hT _ hin)
  obtain ⟨methM', cM, hmethM', -, -, -, -, -, -, hsigM⟩ := Cond.code_spec hnamed (hT _ hc)
  cases hmethM.symm.trans hmethM'
  obtain ⟨c2, r2, m2, q1, q2, q3, q4, kP, hkP, hkPi⟩ := Cond.selects_spec (hT _ hse)
  obtain ⟨cellB, hcell, hobj, hcls⟩ := ho
  cases hcls.symm.trans q1
  cases (State.methodFound?_of_named hnamed hy).symm.trans q2
  cases hnamed.symm.trans q3
  have hselP : selectMethod e.platform s.vm cellB.cls mk = .method mk := by rw [Launch.admits_selectMethod S.admits]; exact q4
  have hsz : (F0 m pc ls (As.reverse ++ .ref o :: rest)).locals.size = c.maxLocals := hz.trans hml.symm
  obtain ⟨vm₁, X₁, hstep₁⟩ := S.invokevirtual hexec hown (hT _ hlink) hnamed hmethM hstM hkP hkPi hy (a := o) (cell := cellB) (by rw [hTH]; exact hcell)
    (fun z h => by rw [h] at hobj; cases hobj) hselP hmethM habM hkP hkPi (g := F0 m pc ls (As.reverse ++ .ref o :: rest)) rfl (argsL := As) (rest := rest) (hk.trans (k_len hln _ hsigM)) rfl (by rw [hb]; exact hd)
  obtain ⟨q, T', ce, X₂, hce, hcc, hcv, hsz2, hsame, hsteps⟩ := kt_call (g := { F0 m pc ls (As.reverse ++ .ref o :: rest) with stack := rest }) hT hM hm hX hc hi X₁ hTH rfl hsz (ig := .invokevirtual index) (len := 3) (by rw [hb]; exact hd) (lv_room hr) (X₁.named hnamed) hR
  have hobj2 : ∀ k, ce.vm ≠ .statics k := fun k h => by rw [hcv] at h; cases h
  have hk0 : ∃ k, s.vm.classes[ce.cls]? = some k := Vm.classAt_of_findClass hcc
  have link : ∀ {i : Nat} {nz : String} {v : Bool}, Cond.classLink own i nz ∈ lw_ok → tzC cls nz v s → ∃ cz, s.vm.ClassLinks e.platform m.cls i cz ∧ s.vm.assignable ce.cls cz = v := by
    intro i nz v h1 h2
    obtain ⟨a, b, g1, g2, g3⟩ := h2
    obtain ⟨c', hc', hcl⟩ := Cond.classLink_spec hown (hT _ h1) e.platform hpl
    cases g2.symm.trans hc'
    cases g1.symm.trans hcc
    exact ⟨b, hcl, g3⟩
  obtain ⟨cx, hl1, hl2⟩ := link hlx hcx
  obtain ⟨vm₂, hW₂, hgo⟩ := tx_go (e := e) (s₀ := s) (f := F0 m pc ls rest) (a := q) (ce := ce) hobj2 hk0 x suf hx h0 hl1 hl2 pre ((T'.setTop (F0 m pc ls rest)).pushFrame (.throwing q)) (by rw [throwing_vm]; exact X₂.warmed) (by rw [throwing_heap]; exact hce)
    (fun z hzz => by
      obtain ⟨g1, g2, nz, g3, g4⟩ := hpass z hzz
      exact ⟨g1, g2, link g3 g4⟩)
  have X₃ := X₂.noted hW₂
  obtain ⟨t, ht1, ht2⟩ := kk q T'.heap hsz2 hsame (T'.setVm vm₂) rfl X₃
  refine ⟨t, ?_, ht2⟩
  refine hstep₁ _ fun acts => ?_
  rw [doInvoke_state]
  refine hsteps.trans ?_
  have hat : At T' (F0 m pc ls rest).method c below := X₂.here
  obtain ⟨hgo1, hw1⟩ := hat.throwing q
  refine Steps.head hgo1 hw1 ?_
  have hfind : ∀ (Q : Handler → Pre) (E : CtlPost) (d : Bool) (acts : List Action), wp (findHandler (F0 m pc ls rest) q) Q E e d acts ((T'.setTop (F0 m pc ls rest)).pushFrame (.throwing q)) ↔ Q (.found x.handlerPc) d acts (((T'.setTop (F0 m pc ls rest)).pushFrame (.throwing q)).setVm vm₂) := fun Q E d acts => by
    rw [W.findHandler_eq (meth := meth) (code := c) (by rw [throwing_vm]; exact X₂.method') X₂.code, hsplit]
    exact hgo Q E d acts
  have hf : (stepThrowing e ((T'.setTop (F0 m pc ls rest)).pushFrame (.throwing q)) q (.java (F0 m pc ls rest) :: T'.frames.tail)).1 = (((T'.setTop (F0 m pc ls rest)).pushFrame (.throwing q)).setVm vm₂).setFrames (.java { F0 m pc ls rest with pc := x.handlerPc, stack := [.ref q] } :: T'.frames.tail) := by
    simp only [stepThrowing, searchFrame, vmDo]
    generalize hr9 : Sem.go _ e false [] _ = res
    obtain ⟨as, rfl, ha⟩ := Sem.eq_ok_of hr9 (a := Handler.found x.handlerPc) (s' := ((T'.setTop (F0 m pc ls rest)).pushFrame (.throwing q)).setVm vm₂) (acts' := []) (by simp [hfind _ _ _ _])
    rfl
  rw [stepThread_throwing (frames_entered hat.top _), hf]
  obtain ⟨g₀, hg0⟩ := Option.isSome_iff_exists.mp hat.top
  obtain ⟨r, hr2⟩ := State.topJava?_eq_some.mp hg0
  have hr3 : (T'.setVm vm₂).frames = .java g₀ :: r := hr2
  rw [State.setTop_of_frames _ hr3] at ht1
  have e9 : (((T'.setTop (F0 m pc ls rest)).pushFrame (.throwing q)).setVm vm₂).setFrames (.java { F0 m pc ls rest with pc := x.handlerPc, stack := [.ref q] } :: T'.frames.tail) = (T'.setVm vm₂).setFrames (.java (F0 m x.handlerPc ls [.ref q]) :: r) := by
    have sv : ∀ (u : State) (F G : List Frame), ((u.setFrames F).setVm vm₂).setFrames G = (u.setVm vm₂).setFrames G := fun u F G => by
      have h1 : (u.setFrames F).setVm vm₂ = (u.setVm vm₂).setFrames F := rfl
      rw [h1, State.setFrames_setFrames]
    rw [hr2, List.tail_cons, State.pushFrame, sv, State.setTop_of_frames _ hr2, sv]
  rw [e9]
  exact ht1
end KT
