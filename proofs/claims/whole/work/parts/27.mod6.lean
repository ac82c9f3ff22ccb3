/-! what a row of letters and a run need, at the model's machine m -/
def rowOkD (m : Int32) : Nat → vSt → Prop
  | 0, _ => True
  | j + 1, D => dOk D m ∧ vp_in (D 4 (tn m)) 80 ∧ okC (D 0 (D 4 (tn m)).toNatClampNeg) ∧ (D 0 (D 4 (tn m)).toNatClampNeg = 76 ∨ D 0 (D 4 (tn m)).toNatClampNeg = 83 → vp_in (D 1 (D 4 (tn m)).toNatClampNeg) 8) ∧ (¬ dActR D m = 0 → rowOkD m j (dActM D m))
def runOkD (z m : Int32) : Nat → vSt → Prop
  | 0, _ => True
  | f + 1, D => D 8 (tn m) = 0 → pOut (D 4 (tn m)) 0 (D 14 1 - 1) = 0 → dRows D ∧ vp_in (D 4 (tn m)) 80 ∧ (0 ≤ D 2 (D 4 (tn m)).toNatClampNeg → ∃ r, r < 20 ∧ D 2 (D 4 (tn m)).toNatClampNeg = nI r) ∧ rowOkD m (dLen D z m) D ∧ runOkD z m f (dRow m (dLen D z m) D)
theorem dActR_01 (D : vSt) (m : Int32) : dActR D m = 0 ∨ dActR D m = 1 := by
  unfold dActR
  split
  · exact Or.inr rfl
  · exact Or.inl rfl
