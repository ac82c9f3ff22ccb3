/-! MODEL: its methods as functions of its state D; m is the machine's number -/
def pOut (v lo hi : Int32) : Int32 := if v < lo then 1 else if v ≤ hi then 0 else 1
def pIsP (c : Int32) : Int32 := if c = 43 then 1 else if c = 45 then 1 else if c = 42 then 1 else if c = 47 then 1 else if c = 60 then 1 else if c = 61 then 1 else 0
def pIsL (c : Int32) : Int32 := if pIsP c = 0 then (if c = 80 then 1 else if c = 76 then 1 else if c = 83 then 1 else if c = 68 then 1 else if c = 88 then 1 else if c = 79 then 1 else if c = 86 then 1 else if c = 74 then 1 else if c = 90 then 1 else if c = 67 then 1 else if c = 82 then 1 else if c = 72 then 1 else 0) else 1
def pLead (c : Int32) : Int32 := if c = 74 then 1 else if c = 90 then 1 else if c = 67 then 1 else 0
def pFits (c n : Int32) : Int32 := if pIsL c = 0 then 0 else if c = 76 then (if pOut n 0 7 = 0 then 1 else 0) else if c = 83 then (if pOut n 0 7 = 0 then 1 else 0) else 1
abbrev tn (m : Int32) : Nat := m.toNatClampNeg
def dPush (D : vSt) (m v : Int32) : vSt := u2 (u2 D 10 (40 * m + D 5 (tn m)).toNatClampNeg v) 5 (tn m) (D 5 (tn m) + 1)
def dPop (D : vSt) (m : Int32) : vSt := u2 D 5 (tn m) (D 5 (tn m) - 1)
def dTop (D : vSt) (m : Int32) : Int32 := D 10 (40 * m + (dPop D m) 5 (tn m)).toNatClampNeg
def dSay (D : vSt) (m v : Int32) : vSt := if 60 ≤ D 7 (tn m) then u2 D 7 (tn m) (D 7 (tn m) + 1) else u2 (u2 D 13 (60 * m + D 7 (tn m)).toNatClampNeg v) 7 (tn m) (D 7 (tn m) + 1)
def dTrap (D : vSt) (m c : Int32) : Int32 := if D 5 (tn m) < sNeed c then 1 else if c = 82 ∧ D 6 (tn m) = 0 then 1 else if ¬ sPuts c = 0 ∧ D 5 (tn m) = 40 then 2 else if c = 67 ∧ D 6 (tn m) = 10 then 2 else if c = 47 ∧ D 10 (40 * m + D 5 (tn m) - 1).toNatClampNeg = 0 then 3 else 0
def dWork (D : vSt) (m c n : Int32) : vSt :=
  if c = 80 then dPush D m n
  else if c = 76 then dPush D m (D 11 (8 * m + n).toNatClampNeg)
  else if c = 83 then u2 (dPop D m) 11 (8 * m + n).toNatClampNeg (dTop D m)
  else if c = 68 then dPush (dPush (dPop D m) m (dTop D m)) m (dTop D m)
  else if c = 88 then dPush (dPush (dPop (dPop D m) m) m (dTop D m)) m (dTop (dPop D m) m)
  else if c = 79 then dSay (dPop D m) m (dTop D m)
  else if c = 86 then dPop D m
  else if c = 74 then D else if c = 90 then D else if c = 67 then D else if c = 82 then D else if c = 72 then D
  else dPush (dPop (dPop D m) m) m (sRes c (dTop (dPop D m) m) (dTop D m))
/-- where the machine goes on, and what that changes -/
def dNxM (D : vSt) (m c : Int32) : vSt :=
  if c = 67 then u2 (u2 D 12 (10 * m + D 6 (tn m)).toNatClampNeg (D 4 (tn m) + 1)) 6 (tn m) (D 6 (tn m) + 1)
  else if c = 82 then u2 D 6 (tn m) (D 6 (tn m) - 1)
  else if c = 72 then u2 D 8 (tn m) 5
  else if c = 90 then dPop D m else D
def dNxR (D : vSt) (m c n : Int32) : Int32 :=
  if c = 67 then n
  else if c = 82 then D 12 (10 * m + (u2 D 6 (tn m) (D 6 (tn m) - 1)) 6 (tn m)).toNatClampNeg
  else if c = 72 then D 4 (tn m)
  else if c = 90 then (if dTop D m = 0 then n else D 4 (tn m) + 1)
  else if c = 74 then n else D 4 (tn m) + 1
def dActM (D : vSt) (m : Int32) : vSt :=
  if dTrap D m (D 0 (D 4 (tn m)).toNatClampNeg) ≤ 0 then
    u2 (u2 (dNxM (dWork D m (D 0 (D 4 (tn m)).toNatClampNeg) (D 1 (D 4 (tn m)).toNatClampNeg)) m (D 0 (D 4 (tn m)).toNatClampNeg)) 4 (tn m) (dNxR (dWork D m (D 0 (D 4 (tn m)).toNatClampNeg) (D 1 (D 4 (tn m)).toNatClampNeg)) m (D 0 (D 4 (tn m)).toNatClampNeg) (D 1 (D 4 (tn m)).toNatClampNeg))) 9 (tn m)
      ((dNxM (dWork D m (D 0 (D 4 (tn m)).toNatClampNeg) (D 1 (D 4 (tn m)).toNatClampNeg)) m (D 0 (D 4 (tn m)).toNatClampNeg)) 9 (tn m) + 1)
  else u2 D 8 (tn m) (dTrap D m (D 0 (D 4 (tn m)).toNatClampNeg))
def dActR (D : vSt) (m : Int32) : Int32 := if dTrap D m (D 0 (D 4 (tn m)).toNatClampNeg) ≤ 0 then 1 else 0
/-- the model's numbers at machine m are in their bounds -/
def dOk (D : vSt) (m : Int32) : Prop := ∃ i h r o : Nat, i < 2 ∧ m = nI i ∧ D 5 (tn m) = nI h ∧ D 6 (tn m) = nI r ∧ D 7 (tn m) = nI o ∧ h ≤ 40 ∧ r ≤ 10 ∧ o < 2 ^ 30
/-- begin -/
def dB1 (D : vSt) : Nat → vSt
  | 0 => D
  | i + 1 => u2 (u2 (u2 (u2 (u2 (u2 (dB1 D i) 4 (tn (nI i)) 0) 5 (tn (nI i)) 0) 6 (tn (nI i)) 0) 7 (tn (nI i)) 0) 8 (tn (nI i)) 0) 9 (tn (nI i)) 0
def dB2 (D : vSt) : Nat → vSt
  | 0 => D
  | i + 1 => u2 (dB2 D i) 11 (tn (nI i)) 0
def dBeg (D : vSt) : vSt := dB2 (dB1 D 2) 16
def pCh (c : Int32) : Int32 := (c.toUInt32 % 65536).toInt32
def dSet (D : vSt) (p c n : Int32) : vSt := dBeg (u2 (u2 (u2 D 0 (tn p) (vp_nar .char (pCh c))) 1 (tn p) n) 14 2 0)
def dAddC (D : vSt) (c n : Int32) : Int32 := if pFits c n = 0 then 1 else if D 14 1 = 80 then 2 else 0
def dAddM (D : vSt) (c n : Int32) : vSt := if dAddC D c n ≤ 0 then u2 (dSet (u2 D 14 0 (dAddC D c n)) (D 14 1) c n) 14 1 ((dSet (u2 D 14 0 (dAddC D c n)) (D 14 1) c n) 14 1 + 1) else u2 D 14 0 (dAddC D c n)
def dAddR (D : vSt) (c n : Int32) : Int32 := if dAddC D c n ≤ 0 then (u2 (dSet (u2 D 14 0 (dAddC D c n)) (D 14 1) c n) 14 1 ((dSet (u2 D 14 0 (dAddC D c n)) (D 14 1) c n) 14 1 + 1)) 14 1 - 1 else 0
def dChgC (D : vSt) (p c n : Int32) : Int32 := if pOut p 0 (D 14 1 - 1) = 0 then (if pFits c n = 0 then 2 else 0) else 1
def dChg (D : vSt) (p c n : Int32) : vSt := if dChgC D p c n = 0 then dSet (u2 D 14 0 (dChgC D p c n)) p c n else u2 D 14 0 (dChgC D p c n)
def dClear (D : vSt) : vSt := dBeg (u2 (u2 (u2 D 14 0 0) 14 1 0) 14 2 0)
/-- is place p a target? with k instructions looked at -/
def dTgF (D : vSt) (p : Int32) : Nat → Int32
  | 0 => if p ≤ 0 then 0 else if D 0 (p - 1).toNatClampNeg = 67 then 1 else 0
  | i + 1 => if dTgF D p i = 0 then (if pLead (D 0 (tn (nI i))) = 0 then 0 else if D 1 (tn (nI i)) = p then 1 else 0) else 1
def dTg (D : vSt) (p : Int32) : Int32 := dTgF D p (D 14 1).toNatClampNeg
/-- the model's rows are the table -/
def rm (j : Nat) : Int32 := if rl j = 32 then 0 else rl j
def dRows (D : vSt) : Prop := ∀ j, j < 80 → D 3 j = rm j
def dSz (D : vSt) : Prop := ∃ z : Nat, z ≤ 80 ∧ D 14 1 = nI z
/-- alike: letters in common from n on, f to go -/
def alkF (D : vSt) (r q : Nat) : Nat → Nat → Nat
  | 0, n => n
  | f + 1, n => if D 14 1 ≤ nI q + nI n then n else if D 0 (nI q + nI n).toNatClampNeg = D 3 (4 * nI r + nI n).toNatClampNeg then (if n = 0 then alkF D r q f (n + 1) else if dTg D (nI q + nI n) = 0 then alkF D r q f (n + 1) else n) else n
def dAlk (D : vSt) (r q : Nat) : Nat := alkF D r q 4 0
/-- rowAt: f rows to go (row f - 1 next) -/
def dRaF (D : vSt) (q : Nat) : Nat → Int32 → Int32
  | 0, best => best
  | r + 1, best => if dAlk D r q = rn r then (if best = -1 then dRaF D q r (nI r) else if nI (rn r) < nI (rn best.toNatClampNeg) then dRaF D q r best else dRaF D q r (nI r)) else dRaF D q r best
def dRa (D : vSt) (q : Nat) : Int32 := dRaF D q 20 (-1)
theorem dRaF_or (D : vSt) (q : Nat) : ∀ n best, n ≤ 20 → (best = -1 ∨ ∃ j, j < 20 ∧ best = nI j) → dRaF D q n best = -1 ∨ ∃ j, j < 20 ∧ dRaF D q n best = nI j := by
  intro n
  induction n with
  | zero => intro best _ h; exact h
  | succ r ih =>
    intro best hr h
    unfold dRaF
    split
    · split
      · exact ih _ (by omega) (Or.inr ⟨r, by omega, rfl⟩)
      · split
        · exact ih _ (by omega) h
        · exact ih _ (by omega) (Or.inr ⟨r, by omega, rfl⟩)
    · exact ih _ (by omega) h
theorem dRa_or (D : vSt) (q : Nat) : dRa D q = -1 ∨ ∃ j, j < 20 ∧ dRa D q = nI j := dRaF_or D q 20 (-1) (by decide) (Or.inl rfl)
/-- fuse: state, count and within behind the first i places -/
def dFu1 (x : vSt × Int32 × Int32) (i : Nat) : vSt × Int32 × Int32 :=
  if x.2.2 ≤ 0 then (u2 x.1 2 (tn (nI i)) (dRa x.1 i), x.2.1 + 1, if dRa x.1 i = -1 then 0 else nI (rn (dRa x.1 i).toNatClampNeg) - 1)
  else (u2 x.1 2 (tn (nI i)) (-2), x.2.1, x.2.2 - 1)
def dFuS (D : vSt) : Nat → vSt × Int32 × Int32
  | 0 => (D, 0, 0)
  | i + 1 => dFu1 (dFuS D i) i
def dFuM (D : vSt) : vSt := dBeg (u2 (dFuS (u2 D 14 0 0) (D 14 1).toNatClampNeg).1 14 2 1)
def dFuR (D : vSt) : Int32 := (dFuS (u2 D 14 0 0) (D 14 1).toNatClampNeg).2.1
theorem dFuS_r (D : vSt) (r : Nat) (hr : r ≠ 2) : ∀ i, (dFuS D i).1 r = D r := by
  intro i
  induction i with
  | zero => rfl
  | succ i ih =>
    rw [← ih]
    show (dFu1 (dFuS D i) i).1 r = _
    unfold dFu1
    split
    · show (if r = 2 then _ else _) = _; rw [if_neg hr]
    · show (if r = 2 then _ else _) = _; rw [if_neg hr]
def dLookC (D : vSt) (p w : Int32) : Int32 := if pOut p 0 (D 14 1 - 1) = 0 then (if pOut w 0 3 = 0 then (if w = 2 then (if D 14 2 = 0 then 1 else 0) else 0) else 1) else 1
def dLookR (D : vSt) (p w : Int32) : Int32 := if dLookC D p w = 0 then (if w = 0 then D 0 (tn p) else if w = 1 then D 1 (tn p) else if w = 2 then D 2 (tn p) else if dTg (u2 D 14 0 0) p = 0 then 0 else 1) else 0
/-- a row's letters, and the steps of a run -/
def dRow (m : Int32) : Nat → vSt → vSt
  | 0, D => D
  | j + 1, D => if dActR D m = 0 then dActM D m else dRow m j (dActM D m)
def dLen (D : vSt) (z m : Int32) : Nat := if z = 0 then 1 else if 0 ≤ D 2 (D 4 (tn m)).toNatClampNeg then rn (D 2 (D 4 (tn m)).toNatClampNeg).toNatClampNeg else 1
def dGoL (z m : Int32) : Nat → vSt → vSt × Nat
  | 0, D => (D, 0)
  | f + 1, D => if D 8 (tn m) = 0 then (if pOut (D 4 (tn m)) 0 (D 14 1 - 1) = 0 then ((dGoL z m f (dRow m (dLen D z m) D)).1, (dGoL z m f (dRow m (dLen D z m) D)).2 + 1) else (u2 D 8 (tn m) 4, 0)) else (D, 0)
def dRunC (D : vSt) (z : Int32) : Int32 := if z = 0 then 0 else if D 14 2 = 0 then 1 else 0
def dMac (z : Int32) : Int32 := if z = 0 then 0 else 1
def dRunM (D : vSt) (z n : Int32) : vSt := if dRunC D z ≤ 0 then (dGoL z (dMac z) (sMost n) (u2 D 14 0 (dRunC D z))).1 else u2 D 14 0 (dRunC D z)
def dRunR (D : vSt) (z n : Int32) : Int32 := if dRunC D z ≤ 0 then nI (dGoL z (dMac z) (sMost n) (u2 D 14 0 (dRunC D z))).2 else 0
def dFact (D : vSt) (z w : Int32) : Int32 := if w = 0 then D 4 (tn (dMac z)) else if w = 1 then D 5 (tn (dMac z)) else if w = 2 then D 6 (tn (dMac z)) else if w = 3 then D 7 (tn (dMac z)) else if w = 4 then D 8 (tn (dMac z)) else if w = 5 then D 9 (tn (dMac z)) else -1
