/-! STATE: what a state of the system is. Rows of ints: M (a machine): 0 values, 1 locals, 2 outputs, 3 returns, 4: height, returnCount, outputCount, place, state, done. G (a program): 0 letters, 1 numbers, 2 targets, 3 rows, 4 lengths, 5: size, isFused. D (the model): 0 letter, 1 number, 2 fusedTo, 3 rows, 4 place, 5 high, 6 depth, 7 put, 8 state, 9 done, 10 stack, 11 local, 12 back, 13 outs, 14: code, size, fused. -/
abbrev vSt : Type := Nat → Nat → Int32
def u2 (S : vSt) (r k : Nat) (v : Int32) : vSt := fun i => if i = r then upd (S i) k v else S i
abbrev kTy (k : Nat → ClassId) : List (ClassId × FieldType) := [(k 0, .int), (k 1, .boolean), (k 2, .char)]
abbrev wE (a p m n : Nat → Nat) : va_W := [(a 0, .inr (0, [.ref (p 0), .ref (m 0), .ref (n 0)]))]
abbrev wM (a : Nat → Nat) (k : Nat → ClassId) (M : vSt) : va_W := [(a 0, .inr (1, [.ref (a 1), .ref (a 2), .ref (a 3), .ref (a 4), .int (M 4 0), .int (M 4 1), .int (M 4 2), .int (M 4 3), .int (M 4 4), .int (M 4 5)])), (a 1, .inl (k 0, 40, .inl (M 0))), (a 2, .inl (k 0, 8, .inl (M 1))), (a 3, .inl (k 0, 60, .inl (M 2))), (a 4, .inl (k 0, 10, .inl (M 3)))]
abbrev wP (a : Nat → Nat) (k : Nat → ClassId) (G : vSt) : va_W := [(a 0, .inr (2, [.ref (a 1), .ref (a 2), .ref (a 3), .ref (a 4), .ref (a 5), .int (G 5 0), .int (G 5 1)])), (a 1, .inl (k 0, 80, .inl (G 0))), (a 2, .inl (k 0, 80, .inl (G 1))), (a 3, .inl (k 1, 80, .inl (G 2))), (a 4, .inl (k 0, 80, .inl (G 3))), (a 5, .inl (k 0, 80, .inl (G 4)))]
abbrev wD (a : Nat → Nat) (k : Nat → ClassId) (D : vSt) : va_W := [(a 0, .inr (3, [.int (D 14 0), .int (D 14 1), .ref (a 1), .ref (a 2), .int (D 14 2), .ref (a 3), .ref (a 4), .ref (a 5), .ref (a 6), .ref (a 7), .ref (a 8), .ref (a 9), .ref (a 10), .ref (a 11), .ref (a 12), .ref (a 13), .ref (a 14)])), (a 1, .inl (k 2, 80, .inl (D 0))), (a 2, .inl (k 0, 80, .inl (D 1))), (a 3, .inl (k 0, 80, .inl (D 2))), (a 4, .inl (k 2, 80, .inl (D 3))), (a 5, .inl (k 0, 2, .inl (D 4))), (a 6, .inl (k 0, 2, .inl (D 5))), (a 7, .inl (k 0, 2, .inl (D 6))), (a 8, .inl (k 0, 2, .inl (D 7))), (a 9, .inl (k 0, 2, .inl (D 8))), (a 10, .inl (k 0, 2, .inl (D 9))), (a 11, .inl (k 0, 80, .inl (D 10))), (a 12, .inl (k 0, 16, .inl (D 11))), (a 13, .inl (k 0, 20, .inl (D 12))), (a 14, .inl (k 0, 120, .inl (D 13)))]
/-- the 18 letters -/
def okC (c : Int32) : Prop := c = 80 ∨ c = 76 ∨ c = 83 ∨ c = 43 ∨ c = 45 ∨ c = 42 ∨ c = 47 ∨ c = 60 ∨ c = 61 ∨ c = 68 ∨ c = 88 ∨ c = 79 ∨ c = 86 ∨ c = 74 ∨ c = 90 ∨ c = 67 ∨ c = 82 ∨ c = 72
/-- how many values a letter needs; does it put one more? what an arithmetic letter answers -/
def sNeed (c : Int32) : Int32 := if c = 43 ∨ c = 45 ∨ c = 42 ∨ c = 47 ∨ c = 60 ∨ c = 61 ∨ c = 88 then 2 else if c = 83 ∨ c = 68 ∨ c = 79 ∨ c = 86 ∨ c = 90 then 1 else 0
def sPuts (c : Int32) : Int32 := if c = 80 ∨ c = 76 ∨ c = 68 then 1 else 0
def sRes (c a b : Int32) : Int32 := if c = 43 then a + b else if c = 45 then a - b else if c = 42 then a * b else if c = 47 then a / b else if c = 60 then (if b ≤ a then 0 else 1) else (if a = b then 1 else 0)
def sPush (M : vSt) (v : Int32) : vSt := u2 (u2 M 0 (M 4 0).toNatClampNeg v) 4 0 (M 4 0 + 1)
def sPop (M : vSt) : vSt := u2 M 4 0 (M 4 0 - 1)
def sTop (M : vSt) : Int32 := M 0 (M 4 0 - 1).toNatClampNeg
def sExch (M : vSt) : vSt := u2 (u2 M 0 (M 4 0 - 1).toNatClampNeg (M 0 (M 4 0 - 2).toNatClampNeg)) 0 (M 4 0 - 2).toNatClampNeg (M 0 (M 4 0 - 1).toNatClampNeg)
def sOut (M : vSt) (v : Int32) : vSt := if 60 ≤ M 4 2 then u2 M 4 2 (M 4 2 + 1) else u2 (u2 M 2 (M 4 2).toNatClampNeg v) 4 2 (M 4 2 + 1)
def sComb (M : vSt) (c : Int32) : vSt := sPush (sPop (sPop M)) (sRes c (sTop (sPop M)) (sTop M))
/-- the state that a letter would set, 0 where it sets none -/
def sTrap (M : vSt) (c : Int32) : Int32 := if M 4 0 < sNeed c then 1 else if c = 82 ∧ M 4 1 = 0 then 1 else if ¬ sPuts c = 0 ∧ M 4 0 = 40 then 2 else if c = 67 ∧ M 4 1 = 10 then 2 else if c = 47 ∧ sTop M = 0 then 3 else 0
/-- what a letter does that sets no such state -/
def sAct (M : vSt) (c n : Int32) : vSt :=
  if c = 80 then u2 (sPush M n) 4 3 (M 4 3 + 1)
  else if c = 76 then u2 (sPush M (M 1 n.toNatClampNeg)) 4 3 (M 4 3 + 1)
  else if c = 83 then u2 (u2 (sPop M) 1 n.toNatClampNeg (sTop M)) 4 3 (M 4 3 + 1)
  else if c = 68 then u2 (sPush M (sTop M)) 4 3 (M 4 3 + 1)
  else if c = 88 then u2 (sExch M) 4 3 (M 4 3 + 1)
  else if c = 79 then u2 (sOut (sPop M) (sTop M)) 4 3 (M 4 3 + 1)
  else if c = 86 then u2 (sPop M) 4 3 (M 4 3 + 1)
  else if c = 74 then u2 M 4 3 n
  else if c = 90 then u2 (sPop M) 4 3 (if sTop M = 0 then n else M 4 3 + 1)
  else if c = 67 then u2 (u2 (u2 M 3 (M 4 1).toNatClampNeg (M 4 3 + 1)) 4 1 (M 4 1 + 1)) 4 3 n
  else if c = 82 then u2 (u2 M 4 1 (M 4 1 - 1)) 4 3 (M 3 (M 4 1 - 1).toNatClampNeg)
  else if c = 72 then u2 (u2 M 4 4 5) 4 3 (M 4 3)
  else u2 (sComb M c) 4 3 (M 4 3 + 1)
/-- a machine's numbers are in their bounds -/
def mOk (M : vSt) : Prop := ∃ h r o : Nat, M 4 0 = nI h ∧ M 4 1 = nI r ∧ M 4 2 = nI o ∧ h ≤ 40 ∧ r ≤ 10 ∧ o < 2 ^ 30
theorem tr_n {h d : Nat} (hd : d < 2 ^ 31) (hn : ¬ nI h < nI d) : d ≤ h := by
  rcases Nat.lt_or_ge h d with q | q
  · exact absurd (nI_lt q hd) hn
  · exact q
theorem tr_all {M : vSt} {c : Int32} (hm : mOk M) (ht : sTrap M c = 0) : ∃ h r o : Nat, M 4 0 = nI h ∧ M 4 1 = nI r ∧ M 4 2 = nI o ∧ h ≤ 40 ∧ r ≤ 10 ∧ o < 2 ^ 30 ∧ ¬ nI h < sNeed c ∧ ¬ (c = 82 ∧ r = 0) ∧ ¬ (¬ sPuts c = 0 ∧ h = 40) ∧ ¬ (c = 67 ∧ r = 10) ∧ ¬ (c = 47 ∧ sTop M = 0) := by
  obtain ⟨h, r, o, e0, e1, e2, b0, b1, b2⟩ := hm
  unfold sTrap at ht
  rw [e0, e1] at ht
  by_cases c1 : nI h < sNeed c
  · rw [if_pos c1] at ht; exact absurd ht (by decide)
  rw [if_neg c1] at ht
  by_cases c2 : c = 82 ∧ nI r = 0
  · rw [if_pos c2] at ht; exact absurd ht (by decide)
  rw [if_neg c2] at ht
  by_cases c3 : ¬ sPuts c = 0 ∧ nI h = 40
  · rw [if_pos c3] at ht; exact absurd ht (by decide)
  rw [if_neg c3] at ht
  by_cases c4 : c = 67 ∧ nI r = 10
  · rw [if_pos c4] at ht; exact absurd ht (by decide)
  rw [if_neg c4] at ht
  by_cases c5 : c = 47 ∧ sTop M = 0
  · rw [if_pos c5] at ht; exact absurd ht (by decide)
  exact ⟨h, r, o, e0, e1, e2, b0, b1, b2, c1, fun z => c2 ⟨z.1, by rw [z.2]; rfl⟩, fun z => c3 ⟨z.1, by rw [z.2]; rfl⟩, fun z => c4 ⟨z.1, by rw [z.2]; rfl⟩, c5⟩
/-- indices in range -/
theorem in_0 {x : Int32} {h N : Nat} (e : x = nI h) (hh : h < N) (hN : N < 2 ^ 31) : vp_in x N := by rw [e]; exact vp_in_nI hh hN
theorem in_1 {x : Int32} {h N : Nat} (e : x = nI h) (h1 : 1 ≤ h) (hh : h ≤ N) (hN : N < 2 ^ 31) : vp_in (x - 1) N := by
  have e1 : nI h - 1 = nI (h - 1) := pk_sub (b := 1) h1
  rw [e, e1]
  exact vp_in_nI (by omega) hN
theorem in_2 {x : Int32} {h N : Nat} (e : x = nI h) (h2 : 2 ≤ h) (hh : h ≤ N) (hN : N < 2 ^ 31) : vp_in (x - 2) N := by
  have e1 : nI h - 2 = nI (h - 2) := pk_sub (b := 2) h2
  rw [e, e1]
  exact vp_in_nI (by omega) hN
theorem in_11 {x : Int32} {h N : Nat} (e : x = nI h) (h2 : 2 ≤ h) (hh : h ≤ N) (hN : N < 2 ^ 31) : vp_in (x - 1 - 1) N := by
  have e1 : nI h - 1 = nI (h - 1) := pk_sub (b := 1) (by omega)
  have e2 : nI (h - 1) - 1 = nI (h - 1 - 1) := pk_sub (b := 1) (by omega)
  rw [e, e1, e2]
  exact vp_in_nI (by omega) hN
