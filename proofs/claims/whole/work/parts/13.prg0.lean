/-! PROGRAM: its methods as functions -/
def pOk (G : vSt) : Prop := ∃ z : Nat, z ≤ 80 ∧ G 5 0 = nI z
theorem has_in {G : vSt} {q : Int32} (h : pOk G) (hq : ¬ sHas G q = 0) : vp_in q 80 := by
  obtain ⟨z, hz, e⟩ := h
  unfold sHas at hq
  by_cases c : 0 ≤ q ∧ q < G 5 0
  · rw [e] at c
    have h1 := Int32.le_iff_toInt_le.mp c.1
    have h2 := Int32.lt_iff_toInt_lt.mp c.2
    rw [nI_toInt (by omega)] at h2
    have e0 : (0 : Int32).toInt = 0 := by decide
    rw [vp_in_iff]
    omega
  · rw [if_neg c] at hq; exact absurd rfl hq
def sNone (G : vSt) : vSt := u2 (u2 G 5 0 0) 5 1 0
def sMark (G : vSt) (q : Int32) : vSt := if sHas G q = 0 then G else u2 G 2 q.toNatClampNeg 1
def sClr (G : vSt) : Nat → vSt
  | 0 => G
  | i + 1 => u2 (sClr G i) 2 (nI i).toNatClampNeg 0
def sMk1 (G : vSt) (i : Nat) : vSt :=
  if G 0 (nI i).toNatClampNeg = 67 then sMark (sMark G (G 1 (nI i).toNatClampNeg)) (nI i + 1)
  else if G 0 (nI i).toNatClampNeg = 74 ∨ G 0 (nI i).toNatClampNeg = 90 then sMark G (G 1 (nI i).toNatClampNeg) else G
def sMk (G : vSt) : Nat → vSt
  | 0 => G
  | i + 1 => sMk1 (sMk G i) i
def sTgts (G : vSt) : vSt := sMk (sClr G (G 5 0).toNatClampNeg) (G 5 0).toNatClampNeg
theorem sMark_5 (G : vSt) (q : Int32) : (sMark G q) 5 = G 5 := by
  unfold sMark
  by_cases h : sHas G q = 0
  · rw [if_pos h]
  · rw [if_neg h]; rfl
theorem sClr_5 (G : vSt) : ∀ i, (sClr G i) 5 = G 5 := by
  intro i
  induction i with
  | zero => rfl
  | succ i ih => rw [← ih]; rfl
theorem sMk1_5 (G : vSt) (i : Nat) : (sMk1 G i) 5 = G 5 := by
  unfold sMk1
  split
  · rw [sMark_5, sMark_5]
  · split
    · rw [sMark_5]
    · rfl
theorem sMk_5 (G : vSt) : ∀ i, (sMk G i) 5 = G 5 := by
  intro i
  induction i with
  | zero => rfl
  | succ i ih => rw [← ih]; exact sMk1_5 _ i
def sRepl (G : vSt) (q c n : Int32) : vSt := sTgts (u2 (u2 (u2 G 0 q.toNatClampNeg c) 1 q.toNatClampNeg n) 5 1 0)
def sApp (G : vSt) (c n : Int32) : vSt := sRepl (u2 G 5 0 (G 5 0 + 1)) (G 5 0) c n
def sPFact (G : vSt) (q w : Int32) : Int32 := if w = 0 then G 0 q.toNatClampNeg else if w = 1 then G 1 q.toNatClampNeg else if w = 2 then G 3 q.toNatClampNeg else if G 2 q.toNatClampNeg = 0 then 0 else 1
theorem sw_2 (w : Int32) : w = 0 ∨ w = 1 ∨ w = 2 ∨ (w.toInt < 0 ∨ 2 < w.toInt) := by
  have key : ∀ z : Int32, w.toInt = z.toInt → w = z := fun z h => Int32.toInt_inj.mp h
  by_cases h : w.toInt < 0 ∨ 2 < w.toInt
  · simp [h]
  · have h1 : w.toInt = 0 ∨ w.toInt = 1 ∨ w.toInt = 2 := by omega
    rcases h1 with q | q | q
    · exact Or.inl (key 0 q)
    · exact Or.inr (Or.inl (key 1 q))
    · exact Or.inr (Or.inr (Or.inl (key 2 q)))
/-- the rows' letters, filled up with blanks, and their lengths -/
def rlL : List Int32 := [76, 76, 32, 32, 76, 80, 32, 32, 80, 43, 32, 32, 80, 45, 32, 32, 76, 43, 32, 32, 68, 88, 32, 32, 68, 42, 32, 32, 60, 90, 32, 32, 61, 90, 32, 32, 83, 76, 32, 32, 80, 83, 32, 32, 76, 76, 43, 32, 76, 80, 43, 32, 76, 80, 60, 90, 76, 80, 43, 83, 76, 76, 76, 32, 80, 61, 90, 32, 76, 45, 32, 32, 86, 76, 32, 32, 68, 79, 32, 32]
def rl (j : Nat) : Int32 := rlL.getD j 0
def rnL : List Nat := [2, 2, 2, 2, 2, 2, 2, 2, 2, 2, 2, 3, 3, 4, 4, 3, 3, 2, 2, 2]
def rn (r : Nat) : Nat := rnL.getD r 0
theorem rn_le : ∀ r, r < 20 → 2 ≤ rn r ∧ rn r ≤ 4 := by decide
theorem rn_in : ∀ r, r < 20 → ∀ i, i < rn r → ¬ rl (4 * r + i) = 32 := by decide
theorem rn_out : ∀ r, r < 20 → rn r < 4 → rl (4 * r + rn r) = 32 := by decide
/-- the static array of the rows' letters, at the cell tL -/
def rlX (A : Nat → Prop) (tL : Nat) (H : Heap) (U : State) : Prop := va_Z "FusedEngine$Rows" "LETTERS" "[C" (.ref tL) A U H ∧ va_T .char tL 80 (fun j => .int (rl j)) A U H
theorem rlX_m {A : Nat → Prop} {tL : Nat} {H : Heap} : kXm (rlX A tL H) := fun _ _ hv h => ⟨h.1.moved hv.alike, h.2.moved hv.alike⟩
theorem rlX.kept {A : Nat → Prop} {tL : Nat} {H H1 : Heap} {U : State} (h : rlX A tL H U) (hq : ∀ a : Nat, a < H.size → ¬ A a → H1[a]? = H[a]?) : rlX A tL H1 U := ⟨h.1.kept hq, h.2.kept hq⟩
theorem rlX.narrow {A B : Nat → Prop} {tL : Nat} {H : Heap} {U : State} (h : rlX A tL H U) (hAB : ∀ q, B q → A q) : rlX B tL H U := ⟨h.1.narrow hAB, h.2.narrow hAB⟩
abbrev rX (D : va_G) (k : Nat → ClassId) (tL : Nat) (H : Heap) (U : State) : Prop := va_K D classes (kTy k) U ∧ rlX (fun _ => False) tL H U
theorem rX_m {D : va_G} {k : Nat → ClassId} {tL : Nat} {H : Heap} : kXm (rX D k tL H) := kx_and kx_K rlX_m
/-- does row r lie at place q? from letter i on, n letters to go -/
def mtF (G : vSt) (q r : Nat) : Nat → Nat → Int32
  | 0, _ => 1
  | n + 1, i => if G 0 (nI q + nI i).toNatClampNeg = rl (4 * r + i) then (if i = 0 then mtF G q r n (i + 1) else if G 2 (nI q + nI i).toNatClampNeg = 0 then mtF G q r n (i + 1) else 0) else 0
def sMt (G : vSt) (q r : Nat) : Int32 := if nI q + nI (rn r) ≤ G 5 0 then mtF G q r (rn r) 0 else 0
/-- the longest row at place q: n rows to go, from row r on, with the best so far -/
def lgF (G : vSt) (q : Nat) : Nat → Nat → Int32 → Int32 → Int32
  | 0, _, best, _ => best
  | n + 1, r, best, bl => if rl (4 * r) = G 0 (nI q).toNatClampNeg then (if nI (rn r) ≤ bl then lgF G q n (r + 1) best bl else if sMt G q r = 0 then lgF G q n (r + 1) best bl else lgF G q n (r + 1) (nI r) (nI (rn r))) else lgF G q n (r + 1) best bl
def sLong (G : vSt) (q : Nat) : Int32 := lgF G q 20 0 (-1) 0
theorem lgF_or (G : vSt) (q : Nat) : ∀ n r best bl, r + n ≤ 20 → (best = -1 ∨ ∃ j, j < 20 ∧ best = nI j) → lgF G q n r best bl = -1 ∨ ∃ j, j < 20 ∧ lgF G q n r best bl = nI j := by
  intro n
  induction n with
  | zero => intro r best bl _ h; exact h
  | succ n ih =>
    intro r best bl hr h
    unfold lgF
    split
    · split
      · exact ih _ _ _ (by omega) h
      · split
        · exact ih _ _ _ (by omega) h
        · exact ih _ _ _ (by omega) (Or.inr ⟨r, by omega, rfl⟩)
    · exact ih _ _ _ (by omega) h
theorem sLong_or (G : vSt) (q : Nat) : sLong G q = -1 ∨ ∃ j, j < 20 ∧ sLong G q = nI j := lgF_or G q 20 0 (-1) 0 (by decide) (Or.inl rfl)
/-- fusing: state, count and 'within' behind the first i places -/
def sFl (x : Int32) : Int32 := if x = -1 then 1 else nI (rn x.toNatClampNeg)
def sFu1 (x : vSt × Int32 × Int32) (i : Nat) : vSt × Int32 × Int32 :=
  if x.2.2 ≤ 0 then (u2 (u2 x.1 3 (nI i).toNatClampNeg (sLong x.1 i)) 4 (nI i).toNatClampNeg (sFl (sLong x.1 i)), x.2.1 + 1, (u2 (u2 x.1 3 (nI i).toNatClampNeg (sLong x.1 i)) 4 (nI i).toNatClampNeg (sFl (sLong x.1 i))) 4 (nI i).toNatClampNeg - 1)
  else (u2 (u2 x.1 3 (nI i).toNatClampNeg (-2)) 4 (nI i).toNatClampNeg 1, x.2.1, x.2.2 + (-1))
def sFuS (G : vSt) : Nat → vSt × Int32 × Int32
  | 0 => (G, 0, 0)
  | i + 1 => sFu1 (sFuS G i) i
def sFuM (G : vSt) : vSt := u2 (sFuS G (G 5 0).toNatClampNeg).1 5 1 1
def sFuR (G : vSt) : Int32 := (sFuS G (G 5 0).toNatClampNeg).2.1
theorem sFuS_5 (G : vSt) : ∀ i, (sFuS G i).1 5 = G 5 := by
  intro i
  induction i with
  | zero => rfl
  | succ i ih =>
    rw [← ih]
    show (sFu1 (sFuS G i) i).1 5 = _
    unfold sFu1
    split <;> rfl
