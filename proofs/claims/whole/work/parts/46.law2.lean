/-! THE LAW: its loop, its world, what holds at its entry -/
section KLP
variable {p : Program} {l : Launch} {e : Env} {R : Room} {s : State} {m : MethodId} {args : Array Value} {below : List Frame} {meth : Method} {c : Code} {H H0 : Heap} {locs : List Loc} {cells slots : Nat} {Q : State → Prop} {cc : ByteArray} {pc : Nat} {ls : Array Slot} {rest st : List Value} {own : String} {nL : Nat} {A0 : Nat → Prop}
/-- a loop whose cells and slots grow -/
theorem k_loop {σ : Type} (I : Nat → σ → Heap → List Loc → Array Slot → Nat → Nat → Prop)
    (step : ∀ (f : Nat) (x : σ) (H : Heap) (locs : List Loc) (ls : Array Slot) (k n : Nat), I f x H locs ls k n → (∀ (f' : Nat) (x' : σ) (H' : Heap) (locs' : List Loc) (ls' : Array Slot) (k' n' : Nat), f' < f → I f' x' H' locs' ls' k' n' → W p l e R s m args below meth c H' locs' k' n' Q (F0 m pc ls' st)) → W p l e R s m args below meth c H locs k n Q (F0 m pc ls st))
    (f : Nat) (x : σ) (h : I f x H locs ls cells slots) : W p l e R s m args below meth c H locs cells slots Q (F0 m pc ls st) := by
  have key : ∀ (n f : Nat), f < n → ∀ (x : σ) (H : Heap) (locs : List Loc) (ls : Array Slot) (k z : Nat), I f x H locs ls k z → W p l e R s m args below meth c H locs k z Q (F0 m pc ls st) := by
    intro n
    induction n with
    | zero => intro f hf; exact absurd hf (Nat.not_lt_zero f)
    | succ n ih => intro f hf x H locs ls k z hI; exact step f x H locs ls k z hI (fun f' x' H' locs' ls' k' z' hlt hI' => ih f' (by omega) x' H' locs' ls' k' z' hI')
  exact key (f + 1) f (Nat.lt_succ_self f) x H locs ls cells slots h
end KLP
theorem nI_2 (a : Nat) : nI a + 2 = nI (a + 2) := nI_add a 2
theorem nI_3 (a : Nat) : nI a + 3 = nI (a + 3) := nI_add a 3
theorem nI_4 (a : Nat) : nI a + 4 = nI (a + 4) := nI_add a 4
/-- the new cells alone -/
abbrev lA (s : State) : Nat → Prop := fun q => s.heap.size ≤ q
abbrev wNa : Cond := .methodLinkNest "FusedEngine" 9 ⟨"FusedEngine$Program", "<init>", "()V"⟩ "FusedEngine"
abbrev wNb : Cond := .methodLinkNest "FusedEngine" 18 ⟨"FusedEngine$Machine", "<init>", "()V"⟩ "FusedEngine"
/-- what holds at the law's entry, and stays -/
def lF (Dg : va_G) (k : Nat → ClassId) (q vB tL : Nat) (s : State) : Prop := va_K Dg classes (kTy k) s ∧ tz s.heap.size s.heap s ∧ msX s ∧ vk_R "FusedEngine$Program" 30 "PLS+-*/<=DXOVJZCRH" q s ∧ strX (lA s) q vB s.heap s ∧ rlX (lA s) tL s.heap s ∧ va_Nw wNa s ∧ va_Nw wNb s
theorem lF.old {s : State} {H : Heap} {locs : List Loc} (hS : va_S (lA s) s.heap H locs) : ∀ a : Nat, a < s.heap.size → H[a]? = s.heap[a]? := fun a ha => hS.2.1 a ha (fun w => absurd w (by show ¬ s.heap.size ≤ a; omega))
theorem lF.ta {Dg : va_G} {k : Nat → ClassId} {q vB tL : Nat} {s : State} {H : Heap} {locs : List Loc} (h : lF Dg k q vB tL s) (hS : va_S (lA s) s.heap H locs) : taX Dg k q vB s.heap.size H s :=
  ⟨h.1, ⟨h.2.1.kept (fun a ha => lF.old hS a ha), h.2.2.1⟩, h.2.2.2.1, (strX.kept h.2.2.2.2.1 (fun a ha _ => lF.old hS a ha)).narrow (fun _ w => w.elim)⟩
theorem lF.rl {Dg : va_G} {k : Nat → ClassId} {q vB tL : Nat} {s : State} {H : Heap} {locs : List Loc} {w : va_W} (h : lF Dg k q vB tL s) (hS : va_S (lA s) s.heap H locs) (hD : va_D (lA s) w) : rlX (va_A w H.size) tL H s := by
  refine (rlX.kept h.2.2.2.2.2.1 (fun a ha _ => lF.old hS a ha)).narrow (fun x hx => ?_)
  rcases hx with ⟨j, e, hj⟩ | hx
  · exact hD.2 j _ hj
  · exact Nat.le_trans hS.1 hx
theorem kx_rl {Dg : va_G} {k : Nat → ClassId} {A : Nat → Prop} {tL : Nat} {H : Heap} : kXm (fun U => va_K Dg classes (kTy k) U ∧ rlX A tL H U) := kx_and kx_K rlX_m
theorem kx_E {Dg : va_G} {k : Nat → ClassId} : kXm (fun U => va_K Dg classes (kTy k) U ∧ va_Nw wNa U ∧ va_Nw wNb U) := kx_and kx_K (kx_and kx_Nw kx_Nw)
/-- the law's world -/
abbrev wX (ao : Nat) (kl : ClassId) (f : Nat → Int64) (a b u v d : Nat → Nat) (k : Nat → ClassId) (G D : vSt) : va_W := (wL ao kl f ++ (wE a b u v ++ wP b k G ++ wM u k (pm 0 D) ++ wM v k (pm 1 D))) ++ wD d k D
/-- a long that an int became, against it -/
theorem lcmp_0 (x : Int32) : lg_cmp x.toInt64 x.toInt64 = 0 := by
  unfold lg_cmp
  simp
