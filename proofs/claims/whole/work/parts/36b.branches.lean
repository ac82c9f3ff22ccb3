/-! the branches of each letter -/
theorem wk_80 (D : vSt) (m n : Int32) : dWork D m 80 n = dPush D m n := by unfold dWork; rw [if_pos rfl]
theorem nm_80 (D : vSt) (m : Int32) : dNxM D m 80 = D := by unfold dNxM; rw [if_neg (by decide), if_neg (by decide), if_neg (by decide), if_neg (by decide)]
theorem nr_80 (D : vSt) (m n : Int32) : dNxR D m 80 n = D 4 (tn m) + 1 := by unfold dNxR; rw [if_neg (by decide), if_neg (by decide), if_neg (by decide), if_neg (by decide), if_neg (by decide)]
theorem sa_80 (M : vSt) (n : Int32) : sAct M 80 n = u2 (sPush M n) 4 3 (M 4 3 + 1) := by unfold sAct; rw [if_pos rfl]
theorem ne_80 : sNeed 80 = 0 := by decide
theorem pu_80 : sPuts 80 = 1 := by decide
theorem wk_76 (D : vSt) (m n : Int32) : dWork D m 76 n = dPush D m (D 11 (8 * m + n).toNatClampNeg) := by unfold dWork; rw [if_neg (by decide), if_pos rfl]
theorem nm_76 (D : vSt) (m : Int32) : dNxM D m 76 = D := by unfold dNxM; rw [if_neg (by decide), if_neg (by decide), if_neg (by decide), if_neg (by decide)]
theorem nr_76 (D : vSt) (m n : Int32) : dNxR D m 76 n = D 4 (tn m) + 1 := by unfold dNxR; rw [if_neg (by decide), if_neg (by decide), if_neg (by decide), if_neg (by decide), if_neg (by decide)]
theorem sa_76 (M : vSt) (n : Int32) : sAct M 76 n = u2 (sPush M (M 1 n.toNatClampNeg)) 4 3 (M 4 3 + 1) := by unfold sAct; rw [if_neg (by decide), if_pos rfl]
theorem ne_76 : sNeed 76 = 0 := by decide
theorem pu_76 : sPuts 76 = 1 := by decide
theorem wk_83 (D : vSt) (m n : Int32) : dWork D m 83 n = u2 (dPop D m) 11 (8 * m + n).toNatClampNeg (dTop D m) := by unfold dWork; rw [if_neg (by decide), if_neg (by decide), if_pos rfl]
theorem nm_83 (D : vSt) (m : Int32) : dNxM D m 83 = D := by unfold dNxM; rw [if_neg (by decide), if_neg (by decide), if_neg (by decide), if_neg (by decide)]
theorem nr_83 (D : vSt) (m n : Int32) : dNxR D m 83 n = D 4 (tn m) + 1 := by unfold dNxR; rw [if_neg (by decide), if_neg (by decide), if_neg (by decide), if_neg (by decide), if_neg (by decide)]
theorem sa_83 (M : vSt) (n : Int32) : sAct M 83 n = u2 (u2 (sPop M) 1 n.toNatClampNeg (sTop M)) 4 3 (M 4 3 + 1) := by unfold sAct; rw [if_neg (by decide), if_neg (by decide), if_pos rfl]
theorem ne_83 : sNeed 83 = 1 := by decide
theorem pu_83 : sPuts 83 = 0 := by decide
theorem wk_43 (D : vSt) (m n : Int32) : dWork D m 43 n = dPush (dPop (dPop D m) m) m (sRes 43 (dTop (dPop D m) m) (dTop D m)) := by unfold dWork; rw [if_neg (by decide), if_neg (by decide), if_neg (by decide), if_neg (by decide), if_neg (by decide), if_neg (by decide), if_neg (by decide), if_neg (by decide), if_neg (by decide), if_neg (by decide), if_neg (by decide), if_neg (by decide)]
theorem nm_43 (D : vSt) (m : Int32) : dNxM D m 43 = D := by unfold dNxM; rw [if_neg (by decide), if_neg (by decide), if_neg (by decide), if_neg (by decide)]
theorem nr_43 (D : vSt) (m n : Int32) : dNxR D m 43 n = D 4 (tn m) + 1 := by unfold dNxR; rw [if_neg (by decide), if_neg (by decide), if_neg (by decide), if_neg (by decide), if_neg (by decide)]
theorem sa_43 (M : vSt) (n : Int32) : sAct M 43 n = u2 (sComb M 43) 4 3 (M 4 3 + 1) := by unfold sAct; rw [if_neg (by decide), if_neg (by decide), if_neg (by decide), if_neg (by decide), if_neg (by decide), if_neg (by decide), if_neg (by decide), if_neg (by decide), if_neg (by decide), if_neg (by decide), if_neg (by decide), if_neg (by decide)]
theorem ne_43 : sNeed 43 = 2 := by decide
theorem pu_43 : sPuts 43 = 0 := by decide
theorem wk_45 (D : vSt) (m n : Int32) : dWork D m 45 n = dPush (dPop (dPop D m) m) m (sRes 45 (dTop (dPop D m) m) (dTop D m)) := by unfold dWork; rw [if_neg (by decide), if_neg (by decide), if_neg (by decide), if_neg (by decide), if_neg (by decide), if_neg (by decide), if_neg (by decide), if_neg (by decide), if_neg (by decide), if_neg (by decide), if_neg (by decide), if_neg (by decide)]
theorem nm_45 (D : vSt) (m : Int32) : dNxM D m 45 = D := by unfold dNxM; rw [if_neg (by decide), if_neg (by decide), if_neg (by decide), if_neg (by decide)]
theorem nr_45 (D : vSt) (m n : Int32) : dNxR D m 45 n = D 4 (tn m) + 1 := by unfold dNxR; rw [if_neg (by decide), if_neg (by decide), if_neg (by decide), if_neg (by decide), if_neg (by decide)]
theorem sa_45 (M : vSt) (n : Int32) : sAct M 45 n = u2 (sComb M 45) 4 3 (M 4 3 + 1) := by unfold sAct; rw [if_neg (by decide), if_neg (by decide), if_neg (by decide), if_neg (by decide), if_neg (by decide), if_neg (by decide), if_neg (by decide), if_neg (by decide), if_neg (by decide), if_neg (by decide), if_neg (by decide), if_neg (by decide)]
theorem ne_45 : sNeed 45 = 2 := by decide
theorem pu_45 : sPuts 45 = 0 := by decide
theorem wk_42 (D : vSt) (m n : Int32) : dWork D m 42 n = dPush (dPop (dPop D m) m) m (sRes 42 (dTop (dPop D m) m) (dTop D m)) := by unfold dWork; rw [if_neg (by decide), if_neg (by decide), if_neg (by decide), if_neg (by decide), if_neg (by decide), if_neg (by decide), if_neg (by decide), if_neg (by decide), if_neg (by decide), if_neg (by decide), if_neg (by decide), if_neg (by decide)]
theorem nm_42 (D : vSt) (m : Int32) : dNxM D m 42 = D := by unfold dNxM; rw [if_neg (by decide), if_neg (by decide), if_neg (by decide), if_neg (by decide)]
theorem nr_42 (D : vSt) (m n : Int32) : dNxR D m 42 n = D 4 (tn m) + 1 := by unfold dNxR; rw [if_neg (by decide), if_neg (by decide), if_neg (by decide), if_neg (by decide), if_neg (by decide)]
theorem sa_42 (M : vSt) (n : Int32) : sAct M 42 n = u2 (sComb M 42) 4 3 (M 4 3 + 1) := by unfold sAct; rw [if_neg (by decide), if_neg (by decide), if_neg (by decide), if_neg (by decide), if_neg (by decide), if_neg (by decide), if_neg (by decide), if_neg (by decide), if_neg (by decide), if_neg (by decide), if_neg (by decide), if_neg (by decide)]
theorem ne_42 : sNeed 42 = 2 := by decide
theorem pu_42 : sPuts 42 = 0 := by decide
theorem wk_47 (D : vSt) (m n : Int32) : dWork D m 47 n = dPush (dPop (dPop D m) m) m (sRes 47 (dTop (dPop D m) m) (dTop D m)) := by unfold dWork; rw [if_neg (by decide), if_neg (by decide), if_neg (by decide), if_neg (by decide), if_neg (by decide), if_neg (by decide), if_neg (by decide), if_neg (by decide), if_neg (by decide), if_neg (by decide), if_neg (by decide), if_neg (by decide)]
theorem nm_47 (D : vSt) (m : Int32) : dNxM D m 47 = D := by unfold dNxM; rw [if_neg (by decide), if_neg (by decide), if_neg (by decide), if_neg (by decide)]
theorem nr_47 (D : vSt) (m n : Int32) : dNxR D m 47 n = D 4 (tn m) + 1 := by unfold dNxR; rw [if_neg (by decide), if_neg (by decide), if_neg (by decide), if_neg (by decide), if_neg (by decide)]
theorem sa_47 (M : vSt) (n : Int32) : sAct M 47 n = u2 (sComb M 47) 4 3 (M 4 3 + 1) := by unfold sAct; rw [if_neg (by decide), if_neg (by decide), if_neg (by decide), if_neg (by decide), if_neg (by decide), if_neg (by decide), if_neg (by decide), if_neg (by decide), if_neg (by decide), if_neg (by decide), if_neg (by decide), if_neg (by decide)]
theorem ne_47 : sNeed 47 = 2 := by decide
theorem pu_47 : sPuts 47 = 0 := by decide
theorem wk_60 (D : vSt) (m n : Int32) : dWork D m 60 n = dPush (dPop (dPop D m) m) m (sRes 60 (dTop (dPop D m) m) (dTop D m)) := by unfold dWork; rw [if_neg (by decide), if_neg (by decide), if_neg (by decide), if_neg (by decide), if_neg (by decide), if_neg (by decide), if_neg (by decide), if_neg (by decide), if_neg (by decide), if_neg (by decide), if_neg (by decide), if_neg (by decide)]
theorem nm_60 (D : vSt) (m : Int32) : dNxM D m 60 = D := by unfold dNxM; rw [if_neg (by decide), if_neg (by decide), if_neg (by decide), if_neg (by decide)]
theorem nr_60 (D : vSt) (m n : Int32) : dNxR D m 60 n = D 4 (tn m) + 1 := by unfold dNxR; rw [if_neg (by decide), if_neg (by decide), if_neg (by decide), if_neg (by decide), if_neg (by decide)]
theorem sa_60 (M : vSt) (n : Int32) : sAct M 60 n = u2 (sComb M 60) 4 3 (M 4 3 + 1) := by unfold sAct; rw [if_neg (by decide), if_neg (by decide), if_neg (by decide), if_neg (by decide), if_neg (by decide), if_neg (by decide), if_neg (by decide), if_neg (by decide), if_neg (by decide), if_neg (by decide), if_neg (by decide), if_neg (by decide)]
theorem ne_60 : sNeed 60 = 2 := by decide
theorem pu_60 : sPuts 60 = 0 := by decide
theorem wk_61 (D : vSt) (m n : Int32) : dWork D m 61 n = dPush (dPop (dPop D m) m) m (sRes 61 (dTop (dPop D m) m) (dTop D m)) := by unfold dWork; rw [if_neg (by decide), if_neg (by decide), if_neg (by decide), if_neg (by decide), if_neg (by decide), if_neg (by decide), if_neg (by decide), if_neg (by decide), if_neg (by decide), if_neg (by decide), if_neg (by decide), if_neg (by decide)]
theorem nm_61 (D : vSt) (m : Int32) : dNxM D m 61 = D := by unfold dNxM; rw [if_neg (by decide), if_neg (by decide), if_neg (by decide), if_neg (by decide)]
theorem nr_61 (D : vSt) (m n : Int32) : dNxR D m 61 n = D 4 (tn m) + 1 := by unfold dNxR; rw [if_neg (by decide), if_neg (by decide), if_neg (by decide), if_neg (by decide), if_neg (by decide)]
theorem sa_61 (M : vSt) (n : Int32) : sAct M 61 n = u2 (sComb M 61) 4 3 (M 4 3 + 1) := by unfold sAct; rw [if_neg (by decide), if_neg (by decide), if_neg (by decide), if_neg (by decide), if_neg (by decide), if_neg (by decide), if_neg (by decide), if_neg (by decide), if_neg (by decide), if_neg (by decide), if_neg (by decide), if_neg (by decide)]
theorem ne_61 : sNeed 61 = 2 := by decide
theorem pu_61 : sPuts 61 = 0 := by decide
theorem wk_68 (D : vSt) (m n : Int32) : dWork D m 68 n = dPush (dPush (dPop D m) m (dTop D m)) m (dTop D m) := by unfold dWork; rw [if_neg (by decide), if_neg (by decide), if_neg (by decide), if_pos rfl]
theorem nm_68 (D : vSt) (m : Int32) : dNxM D m 68 = D := by unfold dNxM; rw [if_neg (by decide), if_neg (by decide), if_neg (by decide), if_neg (by decide)]
theorem nr_68 (D : vSt) (m n : Int32) : dNxR D m 68 n = D 4 (tn m) + 1 := by unfold dNxR; rw [if_neg (by decide), if_neg (by decide), if_neg (by decide), if_neg (by decide), if_neg (by decide)]
theorem sa_68 (M : vSt) (n : Int32) : sAct M 68 n = u2 (sPush M (sTop M)) 4 3 (M 4 3 + 1) := by unfold sAct; rw [if_neg (by decide), if_neg (by decide), if_neg (by decide), if_pos rfl]
theorem ne_68 : sNeed 68 = 1 := by decide
theorem pu_68 : sPuts 68 = 1 := by decide
theorem wk_88 (D : vSt) (m n : Int32) : dWork D m 88 n = dPush (dPush (dPop (dPop D m) m) m (dTop D m)) m (dTop (dPop D m) m) := by unfold dWork; rw [if_neg (by decide), if_neg (by decide), if_neg (by decide), if_neg (by decide), if_pos rfl]
theorem nm_88 (D : vSt) (m : Int32) : dNxM D m 88 = D := by unfold dNxM; rw [if_neg (by decide), if_neg (by decide), if_neg (by decide), if_neg (by decide)]
theorem nr_88 (D : vSt) (m n : Int32) : dNxR D m 88 n = D 4 (tn m) + 1 := by unfold dNxR; rw [if_neg (by decide), if_neg (by decide), if_neg (by decide), if_neg (by decide), if_neg (by decide)]
theorem sa_88 (M : vSt) (n : Int32) : sAct M 88 n = u2 (sExch M) 4 3 (M 4 3 + 1) := by unfold sAct; rw [if_neg (by decide), if_neg (by decide), if_neg (by decide), if_neg (by decide), if_pos rfl]
theorem ne_88 : sNeed 88 = 2 := by decide
theorem pu_88 : sPuts 88 = 0 := by decide
theorem wk_79 (D : vSt) (m n : Int32) : dWork D m 79 n = dSay (dPop D m) m (dTop D m) := by unfold dWork; rw [if_neg (by decide), if_neg (by decide), if_neg (by decide), if_neg (by decide), if_neg (by decide), if_pos rfl]
theorem nm_79 (D : vSt) (m : Int32) : dNxM D m 79 = D := by unfold dNxM; rw [if_neg (by decide), if_neg (by decide), if_neg (by decide), if_neg (by decide)]
theorem nr_79 (D : vSt) (m n : Int32) : dNxR D m 79 n = D 4 (tn m) + 1 := by unfold dNxR; rw [if_neg (by decide), if_neg (by decide), if_neg (by decide), if_neg (by decide), if_neg (by decide)]
theorem sa_79 (M : vSt) (n : Int32) : sAct M 79 n = u2 (sOut (sPop M) (sTop M)) 4 3 (M 4 3 + 1) := by unfold sAct; rw [if_neg (by decide), if_neg (by decide), if_neg (by decide), if_neg (by decide), if_neg (by decide), if_pos rfl]
theorem ne_79 : sNeed 79 = 1 := by decide
theorem pu_79 : sPuts 79 = 0 := by decide
theorem wk_86 (D : vSt) (m n : Int32) : dWork D m 86 n = dPop D m := by unfold dWork; rw [if_neg (by decide), if_neg (by decide), if_neg (by decide), if_neg (by decide), if_neg (by decide), if_neg (by decide), if_pos rfl]
theorem nm_86 (D : vSt) (m : Int32) : dNxM D m 86 = D := by unfold dNxM; rw [if_neg (by decide), if_neg (by decide), if_neg (by decide), if_neg (by decide)]
theorem nr_86 (D : vSt) (m n : Int32) : dNxR D m 86 n = D 4 (tn m) + 1 := by unfold dNxR; rw [if_neg (by decide), if_neg (by decide), if_neg (by decide), if_neg (by decide), if_neg (by decide)]
theorem sa_86 (M : vSt) (n : Int32) : sAct M 86 n = u2 (sPop M) 4 3 (M 4 3 + 1) := by unfold sAct; rw [if_neg (by decide), if_neg (by decide), if_neg (by decide), if_neg (by decide), if_neg (by decide), if_neg (by decide), if_pos rfl]
theorem ne_86 : sNeed 86 = 1 := by decide
theorem pu_86 : sPuts 86 = 0 := by decide
theorem wk_74 (D : vSt) (m n : Int32) : dWork D m 74 n = D := by unfold dWork; rw [if_neg (by decide), if_neg (by decide), if_neg (by decide), if_neg (by decide), if_neg (by decide), if_neg (by decide), if_neg (by decide), if_pos rfl]
theorem nm_74 (D : vSt) (m : Int32) : dNxM D m 74 = D := by unfold dNxM; rw [if_neg (by decide), if_neg (by decide), if_neg (by decide), if_neg (by decide)]
theorem nr_74 (D : vSt) (m n : Int32) : dNxR D m 74 n = n := by unfold dNxR; rw [if_neg (by decide), if_neg (by decide), if_neg (by decide), if_neg (by decide), if_pos rfl]
theorem sa_74 (M : vSt) (n : Int32) : sAct M 74 n = u2 M 4 3 n := by unfold sAct; rw [if_neg (by decide), if_neg (by decide), if_neg (by decide), if_neg (by decide), if_neg (by decide), if_neg (by decide), if_neg (by decide), if_pos rfl]
theorem ne_74 : sNeed 74 = 0 := by decide
theorem pu_74 : sPuts 74 = 0 := by decide
theorem wk_90 (D : vSt) (m n : Int32) : dWork D m 90 n = D := by unfold dWork; rw [if_neg (by decide), if_neg (by decide), if_neg (by decide), if_neg (by decide), if_neg (by decide), if_neg (by decide), if_neg (by decide), if_neg (by decide), if_pos rfl]
theorem nm_90 (D : vSt) (m : Int32) : dNxM D m 90 = dPop D m := by unfold dNxM; rw [if_neg (by decide), if_neg (by decide), if_neg (by decide), if_pos rfl]
theorem nr_90 (D : vSt) (m n : Int32) : dNxR D m 90 n = if dTop D m = 0 then n else D 4 (tn m) + 1 := by unfold dNxR; rw [if_neg (by decide), if_neg (by decide), if_neg (by decide), if_pos rfl]
theorem sa_90 (M : vSt) (n : Int32) : sAct M 90 n = u2 (sPop M) 4 3 (if sTop M = 0 then n else M 4 3 + 1) := by unfold sAct; rw [if_neg (by decide), if_neg (by decide), if_neg (by decide), if_neg (by decide), if_neg (by decide), if_neg (by decide), if_neg (by decide), if_neg (by decide), if_pos rfl]
theorem ne_90 : sNeed 90 = 1 := by decide
theorem pu_90 : sPuts 90 = 0 := by decide
theorem wk_67 (D : vSt) (m n : Int32) : dWork D m 67 n = D := by unfold dWork; rw [if_neg (by decide), if_neg (by decide), if_neg (by decide), if_neg (by decide), if_neg (by decide), if_neg (by decide), if_neg (by decide), if_neg (by decide), if_neg (by decide), if_pos rfl]
theorem nm_67 (D : vSt) (m : Int32) : dNxM D m 67 = u2 (u2 D 12 (10 * m + D 6 (tn m)).toNatClampNeg (D 4 (tn m) + 1)) 6 (tn m) (D 6 (tn m) + 1) := by unfold dNxM; rw [if_pos rfl]
theorem nr_67 (D : vSt) (m n : Int32) : dNxR D m 67 n = n := by unfold dNxR; rw [if_pos rfl]
theorem sa_67 (M : vSt) (n : Int32) : sAct M 67 n = u2 (u2 (u2 M 3 (M 4 1).toNatClampNeg (M 4 3 + 1)) 4 1 (M 4 1 + 1)) 4 3 n := by unfold sAct; rw [if_neg (by decide), if_neg (by decide), if_neg (by decide), if_neg (by decide), if_neg (by decide), if_neg (by decide), if_neg (by decide), if_neg (by decide), if_neg (by decide), if_pos rfl]
theorem ne_67 : sNeed 67 = 0 := by decide
theorem pu_67 : sPuts 67 = 0 := by decide
theorem wk_82 (D : vSt) (m n : Int32) : dWork D m 82 n = D := by unfold dWork; rw [if_neg (by decide), if_neg (by decide), if_neg (by decide), if_neg (by decide), if_neg (by decide), if_neg (by decide), if_neg (by decide), if_neg (by decide), if_neg (by decide), if_neg (by decide), if_pos rfl]
theorem nm_82 (D : vSt) (m : Int32) : dNxM D m 82 = u2 D 6 (tn m) (D 6 (tn m) - 1) := by unfold dNxM; rw [if_neg (by decide), if_pos rfl]
theorem nr_82 (D : vSt) (m n : Int32) : dNxR D m 82 n = D 12 (10 * m + (u2 D 6 (tn m) (D 6 (tn m) - 1)) 6 (tn m)).toNatClampNeg := by unfold dNxR; rw [if_neg (by decide), if_pos rfl]
theorem sa_82 (M : vSt) (n : Int32) : sAct M 82 n = u2 (u2 M 4 1 (M 4 1 - 1)) 4 3 (M 3 (M 4 1 - 1).toNatClampNeg) := by unfold sAct; rw [if_neg (by decide), if_neg (by decide), if_neg (by decide), if_neg (by decide), if_neg (by decide), if_neg (by decide), if_neg (by decide), if_neg (by decide), if_neg (by decide), if_neg (by decide), if_pos rfl]
theorem ne_82 : sNeed 82 = 0 := by decide
theorem pu_82 : sPuts 82 = 0 := by decide
theorem wk_72 (D : vSt) (m n : Int32) : dWork D m 72 n = D := by unfold dWork; rw [if_neg (by decide), if_neg (by decide), if_neg (by decide), if_neg (by decide), if_neg (by decide), if_neg (by decide), if_neg (by decide), if_neg (by decide), if_neg (by decide), if_neg (by decide), if_neg (by decide), if_pos rfl]
theorem nm_72 (D : vSt) (m : Int32) : dNxM D m 72 = u2 D 8 (tn m) 5 := by unfold dNxM; rw [if_neg (by decide), if_neg (by decide), if_pos rfl]
theorem nr_72 (D : vSt) (m n : Int32) : dNxR D m 72 n = D 4 (tn m) := by unfold dNxR; rw [if_neg (by decide), if_neg (by decide), if_pos rfl]
theorem sa_72 (M : vSt) (n : Int32) : sAct M 72 n = u2 (u2 M 4 4 5) 4 3 (M 4 3) := by unfold sAct; rw [if_neg (by decide), if_neg (by decide), if_neg (by decide), if_neg (by decide), if_neg (by decide), if_neg (by decide), if_neg (by decide), if_neg (by decide), if_neg (by decide), if_neg (by decide), if_neg (by decide), if_pos rfl]
theorem ne_72 : sNeed 72 = 0 := by decide
theorem pu_72 : sPuts 72 = 0 := by decide
