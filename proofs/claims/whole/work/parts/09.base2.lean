/-! BASE, second: loops; static calls that turn cells -/
section KW
variable {p : Program} {l : Launch} {e : Env} {R : Room} {s : State} {m : MethodId} {args : Array Value} {below : List Frame} {meth : Method} {c : Code} {H H0 : Heap} {locs : List Loc} {cells slots : Nat} {Q : State → Prop} {cc : ByteArray} {pc : Nat} {ls : Array Slot} {rest st : List Value} {own : String} {nL : Nat} {A0 : Nat → Prop}
/-- a loop: a measure f that falls, a state x, at its head pc -/
theorem k_while {σ : Type} (I : Nat → σ → Heap → List Loc → Array Slot → Prop)
    (step : ∀ (f : Nat) (x : σ) (H : Heap) (locs : List Loc) (ls : Array Slot), I f x H locs ls → (∀ (f' : Nat) (x' : σ) (H' : Heap) (locs' : List Loc) (ls' : Array Slot), f' < f → I f' x' H' locs' ls' → W p l e R s m args below meth c H' locs' cells slots Q (F0 m pc ls' st)) → W p l e R s m args below meth c H locs cells slots Q (F0 m pc ls st))
    (f : Nat) (x : σ) (h : I f x H locs ls) : W p l e R s m args below meth c H locs cells slots Q (F0 m pc ls st) := by
  have key : ∀ (n f : Nat), f < n → ∀ (x : σ) (H : Heap) (locs : List Loc) (ls : Array Slot), I f x H locs ls → W p l e R s m args below meth c H locs cells slots Q (F0 m pc ls st) := by
    intro n
    induction n with
    | zero => intro f hf; exact absurd hf (Nat.not_lt_zero f)
    | succ n ih => intro f hf x H locs ls hI; exact step f x H locs ls hI (fun f' x' H' locs' ls' hlt hI' => ih f' (by omega) x' H' locs' ls' hI')
  exact key (f + 1) f (Nat.lt_succ_self f) x H locs ls h
/-- invokestatic of a void method that turns the cells w (of ws: at isC; the rest of ws, at isR, is wr) into w1 -/
theorem km_Sv (F : CallFix p m c cc nL s args lw_ok own) {y : MethodName} {b : ByteArray} {n : Nat} {fr lo index k : Nat} {As : List Value} {X : State → Prop} {D : va_G} {ws w wr w1 : va_W} (hM : kMv l y b n fr lo As H X D w w1) (hm : kXm X) (hX : X s) (hw : kWd y b n none own index k) (hst : Cond.static y ∈ lw_ok)
    (hP : va_P D classes ws H) (hD : va_D A0 ws) (hS : va_S A0 H0 H locs) (hA : ∀ q, H0.size ≤ q → A0 q)
    (isC isR : List Nat) (hC : isC.map (fun i => ws[i]?) = w.map some) (hRr : isR.map (fun i => ws[i]?) = wr.map some) (hn : va_nd isR = true) (hdis : ∀ i ∈ isR, i ∉ isC)
    (hd : decode cc pc = .ok (.invokestatic index, 3)) (hR : (fr + 1 ≤ R.frames ∧ 8 + (n + 11) + lo ≤ R.locals) ∧ cells ≤ R.cells ∧ slots ≤ R.slots) (hk : As.length = k) (hz : ls.size = nL) (hs : st = As.reverse ++ rest) (hr : (rest.map fun v => v.category).sum ≤ 8)
    (kk : ∀ (H1 : Heap) (locs1 : List Loc), va_P D classes (wr ++ w1) H1 → va_D A0 (wr ++ w1) → va_S A0 H0 H1 locs1 → W p l e R s m args below meth c H1 locs1 cells slots Q (F0 m (pc + 3) ls rest)) : W p l e R s m args below meth c H locs cells slots Q (F0 m pc ls st) := by
  subst hs
  have hF := va_free (wc := w) hD hS hA isC hC
  refine va_callv (va_runS F hM ⟨k_B F.2.2.2.2 hw hR.1, F.2.2.2.2 _ hst⟩ ⟨k_blind hm, fun U hU hW => ⟨rfl, hU, hm _ _ hW hX⟩⟩ rfl hk hz rfl (lv_room hr) hd hR.2) hS (fun q _ h => hF q h) hF (fun u t H1 locs1 ht hvm hp hB hz1 hk1 hS1 => ?_)
  obtain ⟨hP1, hD1⟩ := hB
  rw [ht] at hP1
  obtain ⟨hP2, hD2⟩ := va_join hP hD isC isR hC hRr hn hdis hk1 hF hP1 hD1
  exact kk H1 locs1 hP2 hD2 hS1
end KW
/-- Arrays.fill, and the least of two -/
def fillF (f : Nat → Int32) (v : Int32) : Nat → Nat → Int32
  | 0 => f
  | i + 1 => upd (fillF f v i) i v
def sMin (x y : Int32) : Int32 := if y < x then y else x
/-- row 1 of a machine is filled with zeros -/
def sZero (M : vSt) : vSt := fun i => if i = 1 then fillF (M 1) 0 8 else M i
def sBegin (M : vSt) : vSt := u2 (u2 (u2 (u2 (u2 (u2 (sZero M) 4 0 0) 4 1 0) 4 2 0) 4 3 0) 4 4 0) 4 5 0
/-- what 'about' tells -/
def sFact (M : vSt) (w : Int32) : Int32 := if w = 0 then M 4 3 else if w = 1 then M 4 0 else if w = 2 then M 4 1 else if w = 3 then M 4 2 else if w = 4 then M 4 4 else if w = 5 then M 4 5 else -1
/-- one letter; a row of letters; the steps of a run -/
def sStep (G M : vSt) : vSt := if sTrap M (G 0 (M 4 3).toNatClampNeg) = 0 then sAct (u2 M 4 5 (M 4 5 + 1)) (G 0 (M 4 3).toNatClampNeg) (G 1 (M 4 3).toNatClampNeg) else u2 M 4 4 (sTrap M (G 0 (M 4 3).toNatClampNeg))
def sRow (G : vSt) : Nat → vSt → vSt
  | 0, M => M
  | j + 1, M => if M 4 4 = 0 then sRow G j (sStep G M) else M
def sHas (G : vSt) (q : Int32) : Int32 := if 0 ≤ q ∧ q < G 5 0 then 1 else 0
/-- what a row of letters needs: its places lie in the program, its letters are letters -/
def rowOk (G : vSt) : Nat → vSt → Prop
  | 0, _ => True
  | j + 1, M => M 4 4 = 0 → vp_in (M 4 3) 80 ∧ okC (G 0 (M 4 3).toNatClampNeg) ∧ (G 0 (M 4 3).toNatClampNeg = 76 ∨ G 0 (M 4 3).toNatClampNeg = 83 → vp_in (G 1 (M 4 3).toNatClampNeg) 8) ∧ mOk M ∧ rowOk G j (sStep G M)
theorem mOk_done {M : vSt} (h : mOk M) (v : Int32) : mOk (u2 M 4 5 v) := h
theorem sTrap_done {M : vSt} {c : Int32} (v : Int32) (h : sTrap M c = 0) : sTrap (u2 M 4 5 v) c = 0 := h
/-- how many letters a step takes, the steps of a run, a run's machine and its answer -/
def sLen (G : vSt) (z q : Int32) : Nat := if z = 0 then 1 else (G 4 q.toNatClampNeg).toNatClampNeg
def sGoL (G : vSt) (z : Int32) : Nat → vSt → vSt × Nat
  | 0, M => (M, 0)
  | f + 1, M => if M 4 4 = 0 then (if sHas G (M 4 3) = 0 then (M, 0) else ((sGoL G z f (sRow G (sLen G z (M 4 3)) M)).1, (sGoL G z f (sRow G (sLen G z (M 4 3)) M)).2 + 1)) else (M, 0)
def sMost (n : Int32) : Nat := (sMin n 3000).toNatClampNeg
def sRunR (G M : vSt) (z n : Int32) : Int32 := nI (sGoL G z (sMost n) M).2
def sRunM (G M : vSt) (z n : Int32) : vSt := if sMin n 3000 ≤ nI (sGoL G z (sMost n) M).2 then (sGoL G z (sMost n) M).1 else if (sGoL G z (sMost n) M).1 4 4 = 0 then u2 (sGoL G z (sMost n) M).1 4 4 4 else (sGoL G z (sMost n) M).1
/-- what a run needs of its steps -/
def runOk (G : vSt) (z : Int32) : Nat → vSt → Prop
  | 0, _ => True
  | f + 1, M => M 4 4 = 0 → ¬ sHas G (M 4 3) = 0 → vp_in (M 4 3) 80 ∧ (¬ z = 0 → ∃ j : Nat, j ≤ 4 ∧ G 4 (M 4 3).toNatClampNeg = nI j) ∧ rowOk G (sLen G z (M 4 3)) M ∧ runOk G z f (sRow G (sLen G z (M 4 3)) M)
theorem sMost_le (n : Int32) : sMost n ≤ 3000 := by
  have h : (sMin n 3000).toInt ≤ 3000 := by
    unfold sMin
    by_cases h : (3000 : Int32) < n
    · rw [if_pos h]; decide
    · rw [if_neg h]
      have := mt Int32.lt_iff_toInt_lt.mpr h
      have e : (3000 : Int32).toInt = 3000 := by decide
      omega
  show (sMin n 3000).toInt.toNat ≤ 3000
  omega
theorem sMost_iff (n : Int32) {i : Nat} (hi : i ≤ 3000) : sMin n 3000 ≤ nI i ↔ sMost n ≤ i := by
  rw [Int32.le_iff_toInt_le, nI_toInt (by omega)]
  show _ ↔ (sMin n 3000).toInt.toNat ≤ i
  omega
