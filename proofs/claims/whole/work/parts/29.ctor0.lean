/-! CONSTRUCTORS: their contracts, a new array whose class is known, the calls -/
def vZ : vSt := fun _ _ => 0
def kL (xs : List Nat) : Nat → Nat := fun i => xs.getD i 0
/-- a constructor: the cells w (at the heap H) become w1 u for some u with ok u; mc new cells, ms new slots -/
def kCv {σ : Type} (l : Launch) (y : MethodName) (b : ByteArray) (n fr mc ms lo : Nat) (As : List Value) (H : Heap) (X : State → Prop) (D : va_G) (w : va_W) (ok : σ → Prop) (w1 : σ → va_W) : Prop :=
  Met l y (kWs y b n none) { frames := fr, cells := mc, slots := ms, locals := lo } (kPc As H X) (va_Qv ok (fun a t => va_P D classes (w1 a) t.heap ∧ va_D (va_A w H.size) (w1 a)) (va_A w H.size)) mc ms (va_A w H.size)
theorem kx_Nw {a : String} {i : Nat} {x : MethodName} {h : String} : kXm (va_Nw (.methodLinkNest a i x h)) := fun _ _ hv hz => va_Nw.warmM hv hz
section KC
variable {p : Program} {l : Launch} {e : Env} {R : Room} {s : State} {m : MethodId} {args : Array Value} {below : List Frame} {meth : Method} {c : Code} {H H0 : Heap} {locs : List Loc} {cells slots : Nat} {Q : State → Prop} {cc : ByteArray} {pc : Nat} {ls : Array Slot} {rest st : List Value} {own : String} {nL : Nat} {A0 : Nat → Prop}
theorem kn_a (F : CallFix p m c cc nL s args lw_ok own) {D : va_G} {tys : List (ClassId × FieldType)} {ws : va_W} {atype : ArrayType} {ty : FieldType} {cT : ClassId} (hw : Cond.arrayClass ty ∈ lw_ok) (hty : newarray.typeOf atype = ty) (hra : ∀ (U : State) (cA : ClassId), va_RA U cA ty → U.vm.findClass ("[" ++ ty.toString) = some cA)
    (hK : va_K D classes tys s) (t0 : Nat) (ht : tys[t0]? = some (cT, ty)) (hP : va_P D classes ws H) (hD : va_D A0 ws) (hS : va_S A0 H0 H locs) (hA : ∀ q, H0.size ≤ q → A0 q)
    {n : Int32} {N' : Nat} {a0 : vp_A} (ha : ∀ cA : ClassId, vp_cell cA a0 = arrV cA N' (fun _ => defaultValue ty)) (hn : ¬ n < 0) (hN : n.toNatClampNeg = N') (hbytes : N' * componentBytes ty ≤ 536870912) (hcells : cells + 1 ≤ R.cells) (hslots : slots + N' ≤ R.slots) (hdg : decode cc pc = .ok (.newarray atype, 2))
    (kk : ∀ (q : Nat) (H1 : Heap), va_P D classes (ws ++ [(q, .inl (cT, a0))]) H1 → va_D A0 (ws ++ [(q, .inl (cT, a0))]) → va_S A0 H0 H1 locs →
      W p l e R s m args below meth c H1 locs (cells + 1) (slots + N') Q (F0 m (pc + 2) ls (.ref q :: rest))) : W p l e R s m args below meth c H locs cells slots Q (F0 m pc ls (.int n :: rest)) := by
  refine va_newa F.1 F.2.1 (by rw [hty]; exact F.2.2.2.2 _ hw) hty hK hP hD hS hA ha hn hN hbytes hcells hslots hdg (fun q cA H1 hK2 hP2 hD2 hS2 => ?_)
  have e1 := hra _ _ (hK2.2 tys.length (cA, ty) (by simp)).2
  have e2 := hra _ _ (hK.2 t0 _ ht).2
  have e3 : cA = cT := Option.some.inj (e1.symm.trans e2)
  subst e3
  exact kk q H1 hP2 hD2 hS2
theorem kc_v {σ : Type} {D : va_G} {w w2 : va_W} {ok : σ → Prop} {w1 : σ → va_W} (u : σ) (hu : ok u) (F : CallFix p m c cc nL s args lw_ok own) (hlocks : meth.locks = false) (hr : meth.sig.returnType = none) (hP : va_P D classes w2 H) (hD : va_D (va_A w s.heap.size) w2) (hS : va_S (va_A w s.heap.size) s.heap H locs) (hd : decode cc pc = .ok (.return_, 1)) (hw : w2 = w1 u) :
    W p l e R s m args below meth c H locs cells slots (MQ below (va_Qv ok (fun a t => va_P D classes (w1 a) t.heap ∧ va_D (va_A w s.heap.size) (w1 a)) (va_A w s.heap.size)) args s cells slots (va_A w s.heap.size)) (F0 m pc ls []) := by
  subst hw
  exact W.vret F.1 F.2.1 hr (fun t ht hW => ⟨⟨u, rfl, hu, by rw [ht]; exact hP, hD⟩, hS.F ht⟩) hS.2.2 hd hlocks
/-- invokespecial of a nest mate's constructor -/
theorem kc_IN {σ : Type} (F : CallFix p m c cc nL s args lw_ok own) {y : MethodName} {b : ByteArray} {n fr mc ms lo index k : Nat} {o : Nat} {As : List Value} {X : State → Prop} {D : va_G} {ws w wr : va_W} {ok : σ → Prop} {w1 : σ → va_W} {host : String} (hM : kCv l y b n fr mc ms lo (.ref o :: As) H X D w ok w1) (hm : kXm X) (hX : X s) (hc : Cond.code y b n none ∈ lw_ok) (hini : Cond.initialized y.cls ∈ lw_ok) (hy : y.cls ≠ "java/lang/invoke/MethodHandle" ∧ y.cls ≠ "java/lang/invoke/VarHandle") (hy4 : (parseMethodDescriptor y.desc).map (fun d => d.parameters.length) = some k) (hlink : va_Nw (.methodLinkNest own index y host) s) (hin : Cond.instanceMethod y ∈ lw_ok) (hy1 : y.name = "<init>")
    (hP : va_P D classes ws H) (hD : va_D A0 ws) (hS : va_S A0 H0 H locs) (hA : ∀ q, H0.size ≤ q → A0 q)
    (isC isR : List Nat) (hC : isC.map (fun i => ws[i]?) = w.map some) (hRr : isR.map (fun i => ws[i]?) = wr.map some) (hn : va_nd isR = true) (hdis : ∀ i ∈ isR, i ∉ isC)
    (hd : decode cc pc = .ok (.invokespecial index, 3)) (hR : (fr + 1 ≤ R.frames ∧ 8 + (n + 11) + lo ≤ R.locals) ∧ cells + mc ≤ R.cells ∧ slots + ms ≤ R.slots) (hk : As.length = k) (hz : ls.size = nL) (hs : st = As.reverse ++ .ref o :: rest) (hr : (rest.map fun v => v.category).sum ≤ 8)
    (kk : ∀ (u : σ) (H1 : Heap) (locs1 : List Loc), ok u → va_P D classes (wr ++ w1 u) H1 → va_D A0 (wr ++ w1 u) → va_S A0 H0 H1 locs1 → W p l e R s m args below meth c H1 locs1 (cells + mc) (slots + ms) Q (F0 m (pc + 3) ls rest)) : W p l e R s m args below meth c H locs cells slots Q (F0 m pc ls st) := by
  subst hs
  have hF := va_free (wc := w) hD hS hA isC hC
  refine va_callv (va_runIN F hM ⟨⟨⟨rfl, rfl, hR.1.1, hR.1.2, k_words F.2.2.2.2 hc, List.mem_cons_self⟩, F.2.2.2.2 _ hc, F.2.2.2.2 _ hini, hy, k_len hy4, va_Nw.use rfl hlink⟩, hy1, F.2.2.2.2 _ hin⟩ ⟨k_blind hm, fun U hU hW => ⟨rfl, hU, hm _ _ hW hX⟩⟩ rfl hk hz rfl (lv_room hr) hd hR.2) hS (fun q _ h => hF q h) hF (fun u t H1 locs1 ht hvm hp hB hz1 hk1 hS1 => ?_)
  obtain ⟨hP1, hD1⟩ := hB
  rw [ht] at hP1
  obtain ⟨hP2, hD2⟩ := va_join hP hD isC isR hC hRr hn hdis hk1 hF hP1 hD1
  exact kk u H1 locs1 hp hP2 hD2 hS1
/-- invokespecial of a constructor by a plain link -/
theorem kc_I {σ : Type} (F : CallFix p m c cc nL s args lw_ok own) {y : MethodName} {b : ByteArray} {n fr mc ms lo index k : Nat} {o : Nat} {As : List Value} {X : State → Prop} {D : va_G} {ws w wr : va_W} {ok : σ → Prop} {w1 : σ → va_W} (hM : kCv l y b n fr mc ms lo (.ref o :: As) H X D w ok w1) (hm : kXm X) (hX : X s) (hw : kWd y b n none own index k) (hin : Cond.instanceMethod y ∈ lw_ok) (hy1 : y.name = "<init>")
    (hP : va_P D classes ws H) (hD : va_D A0 ws) (hS : va_S A0 H0 H locs) (hA : ∀ q, H0.size ≤ q → A0 q)
    (isC isR : List Nat) (hC : isC.map (fun i => ws[i]?) = w.map some) (hRr : isR.map (fun i => ws[i]?) = wr.map some) (hn : va_nd isR = true) (hdis : ∀ i ∈ isR, i ∉ isC)
    (hd : decode cc pc = .ok (.invokespecial index, 3)) (hR : (fr + 1 ≤ R.frames ∧ 8 + (n + 11) + lo ≤ R.locals) ∧ cells + mc ≤ R.cells ∧ slots + ms ≤ R.slots) (hk : As.length = k) (hz : ls.size = nL) (hs : st = As.reverse ++ .ref o :: rest) (hr : (rest.map fun v => v.category).sum ≤ 8)
    (kk : ∀ (u : σ) (H1 : Heap) (locs1 : List Loc), ok u → va_P D classes (wr ++ w1 u) H1 → va_D A0 (wr ++ w1 u) → va_S A0 H0 H1 locs1 → W p l e R s m args below meth c H1 locs1 (cells + mc) (slots + ms) Q (F0 m (pc + 3) ls rest)) : W p l e R s m args below meth c H locs cells slots Q (F0 m pc ls st) := by
  subst hs
  have hF := va_free (wc := w) hD hS hA isC hC
  obtain ⟨h1, h2, h3, h4, h5⟩ := hw
  refine va_callv (va_runI F hM ⟨⟨rfl, rfl, hR.1.1, hR.1.2, k_words F.2.2.2.2 h1, List.mem_cons_self, F.2.2.2.2 _ h1, F.2.2.2.2 _ h2, h3, k_len h4, F.2.2.2.2 _ h5⟩, hy1, F.2.2.2.2 _ hin⟩ ⟨k_blind hm, fun U hU hW => ⟨rfl, hU, hm _ _ hW hX⟩⟩ rfl hk hz rfl (lv_room hr) hd hR.2) hS (fun q _ h => hF q h) hF (fun u t H1 locs1 ht hvm hp hB hz1 hk1 hS1 => ?_)
  obtain ⟨hP1, hD1⟩ := hB
  rw [ht] at hP1
  obtain ⟨hP2, hD2⟩ := va_join hP hD isC isR hC hRr hn hdis hk1 hF hP1 hD1
  exact kk u H1 locs1 hp hP2 hD2 hS1
end KC
