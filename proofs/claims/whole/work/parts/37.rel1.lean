/-! THE RELATION, one letter: the model's machine i does what the engine's does -/
theorem ti {i : Nat} (hi : i < 2) : tn (nI i) = i := nI_clamp (by omega)
theorem ix40 {i h : Nat} (hi : i < 2) (hh : h ≤ 40) : (40 * nI i + nI h).toNatClampNeg = 40 * i + h := by
  rw [show (40 : Int32) = nI 40 from rfl, pk_mul, nI_add, nI_clamp (by omega)]
theorem ix8 {i h : Nat} (hi : i < 2) (hh : h ≤ 8) : (8 * nI i + nI h).toNatClampNeg = 8 * i + h := by
  rw [show (8 : Int32) = nI 8 from rfl, pk_mul, nI_add, nI_clamp (by omega)]
theorem ix60 {i h : Nat} (hi : i < 2) (hh : h ≤ 60) : (60 * nI i + nI h).toNatClampNeg = 60 * i + h := by
  rw [show (60 : Int32) = nI 60 from rfl, pk_mul, nI_add, nI_clamp (by omega)]
theorem ix10 {i h : Nat} (hi : i < 2) (hh : h ≤ 10) : (10 * nI i + nI h).toNatClampNeg = 10 * i + h := by
  rw [show (10 : Int32) = nI 10 from rfl, pk_mul, nI_add, nI_clamp (by omega)]
theorem pm_push {i h : Nat} {D : vSt} (v : Int32) (hi : i < 2) (e : D 5 i = nI h) (hh : h < 40) : pm i (dPush D (nI i) v) = sPush (pm i D) v := by
  have e2 : pm i D 4 0 = nI h := e
  unfold dPush sPush
  rw [ti hi, e, ix40 hi (by omega), pm_5, pm_10 _ _ _ hh, e2, nI_clamp (by omega)]
theorem pm_pop {i : Nat} {D : vSt} (hi : i < 2) : pm i (dPop D (nI i)) = sPop (pm i D) := by
  unfold dPop sPop
  rw [ti hi, pm_5]
  rfl
theorem pop_5 {i h : Nat} {D : vSt} (hi : i < 2) (e : D 5 i = nI h) (h1 : 1 ≤ h) : (dPop D (nI i)) 5 i = nI (h - 1) := by
  unfold dPop
  rw [ti hi, u2_eq, e]
  exact pk_sub (b := 1) h1
theorem push_5 {i h : Nat} {D : vSt} (v : Int32) (hi : i < 2) (e : D 5 i = nI h) : (dPush D (nI i) v) 5 i = nI (h + 1) := by
  unfold dPush
  rw [ti hi, u2_eq, e, nI_1]
theorem pm_top {i h : Nat} {D : vSt} (hi : i < 2) (e : D 5 i = nI h) (h1 : 1 ≤ h) (h2 : h ≤ 40) : dTop D (nI i) = sTop (pm i D) := by
  have e2 : pm i D 4 0 = nI h := e
  unfold dTop sTop
  rw [ti hi, pop_5 hi e h1, ix40 hi (by omega), e2, show nI h - 1 = nI (h - 1) from pk_sub (b := 1) h1, nI_clamp (by omega)]
  show _ = (if h - 1 < 40 then D 10 (40 * i + (h - 1)) else 0)
  rw [if_pos (by omega)]
theorem pm_say {i o : Nat} {D : vSt} (v : Int32) (hi : i < 2) (e : D 7 i = nI o) (ho : o < 2 ^ 30) : pm i (dSay D (nI i) v) = sOut (pm i D) v := by
  have e2 : pm i D 4 2 = nI o := e
  unfold dSay sOut
  rw [ti hi, e, e2]
  by_cases c : (60 : Int32) ≤ nI o
  · rw [if_pos c, if_pos c, pm_7]
  · rw [if_neg c, if_neg c, pm_7]
    have h6 : o < 60 := by
      rcases Nat.lt_or_ge o 60 with q | q
      · exact q
      · exact absurd (nI_le (a := 60) q (by omega)) c
    rw [ix60 hi (by omega), pm_13 _ _ _ h6, nI_clamp (by omega)]
/-- how tall the stack is, and the like, where a letter isn't trapped -/
theorem tr_pm {i : Nat} {D : vSt} {c : Int32} (hm : mOk (pm i D)) (ht : sTrap (pm i D) c = 0) : ∃ h r o : Nat, D 5 i = nI h ∧ D 6 i = nI r ∧ D 7 i = nI o ∧ h ≤ 40 ∧ r ≤ 10 ∧ o < 2 ^ 30 ∧ ¬ nI h < sNeed c ∧ ¬ (c = 82 ∧ r = 0) ∧ ¬ (¬ sPuts c = 0 ∧ h = 40) ∧ ¬ (c = 67 ∧ r = 10) := by
  obtain ⟨h, r, o, e0, e1, e2, b0, b1, b2, c1, c2, c3, c4, -⟩ := tr_all hm ht
  exact ⟨h, r, o, e0, e1, e2, b0, b1, b2, c1, c2, c3, c4⟩
theorem sExch_eq {M : vSt} {h : Nat} (e : M 4 0 = nI h) (h2 : 2 ≤ h) (hh : h ≤ 40) : sPush (sPush (sPop (sPop M)) (sTop M)) (sTop (sPop M)) = sExch M := by
  have e1 : nI h - 1 = nI (h - 1) := pk_sub (b := 1) (by omega)
  have e11 : nI (h - 1) - 1 = nI (h - 2) := pk_sub (b := 1) (by omega)
  have e2 : nI h - 2 = nI (h - 2) := pk_sub (b := 2) (by omega)
  have e3 : nI (h - 2) + 1 = nI (h - 1) := by rw [nI_1]; congr 1; omega
  have e4 : nI (h - 1) + 1 = nI h := by rw [nI_1]; congr 1; omega
  have p1 : sPop M = u2 M 4 0 (nI (h - 1)) := by unfold sPop; rw [e, e1]
  have p2 : sPop (sPop M) = u2 M 4 0 (nI (h - 2)) := by rw [p1]; unfold sPop; rw [u2_eq, e11, u2_u2]
  have t1 : sTop M = M 0 (h - 1) := by unfold sTop; rw [e, e1, nI_clamp (by omega)]
  have t2 : sTop (sPop M) = M 0 (h - 2) := by rw [p1]; unfold sTop; rw [u2_eq, e11, nI_clamp (by omega), u2_ne _ _ (by omega)]
  have q1 : sPush (u2 M 4 0 (nI (h - 2))) (M 0 (h - 1)) = u2 (u2 M 0 (h - 2) (M 0 (h - 1))) 4 0 (nI (h - 1)) := by
    unfold sPush
    rw [u2_eq, nI_clamp (by omega), e3, u2_comm _ _ _ (by omega), u2_u2]
    exact u2_comm _ _ _ (by omega)
  rw [p2, t1, t2, q1]
  unfold sPush sExch
  rw [u2_eq, nI_clamp (by omega), e4, e, e1, e2, nI_clamp (by omega), nI_clamp (by omega)]
  rw [u2_comm _ _ _ (show ¬ (4 = 0 ∧ 0 = h - 1) by omega), u2_u2, u2_comm _ _ _ (show ¬ (0 = 0 ∧ h - 2 = h - 1) by omega)]
  have : (u2 (u2 M 0 (h - 1) (M 0 (h - 2))) 0 (h - 2) (M 0 (h - 1))) 4 0 = nI h := by rw [u2_ne _ _ (by omega), u2_ne _ _ (by omega), e]
  rw [← this, u2_self]
theorem sDup_eq {M : vSt} {h : Nat} (e : M 4 0 = nI h) (h1 : 1 ≤ h) (hh : h ≤ 40) : sPush (sPop M) (sTop M) = M := by
  have e1 : nI h - 1 = nI (h - 1) := pk_sub (b := 1) (by omega)
  have e4 : nI (h - 1) + 1 = nI h := by rw [nI_1]; congr 1; omega
  unfold sPush sPop sTop
  rw [e, e1, u2_eq, nI_clamp (by omega), e4, u2_comm _ _ _ (by omega), u2_u2]
  have e5 : u2 M 4 0 (nI h) = M := by rw [← e]; exact u2_self _ _ _
  rw [e5, u2_self]
/-- the numbers' word for the letters that take one or two -/
theorem need1 {h : Nat} {x : Int32} (e : x = nI 1) (h1 : ¬ nI h < x) : 1 ≤ h := tr_n (by decide) (e ▸ h1)
theorem need2 {h : Nat} {x : Int32} (e : x = nI 2) (h1 : ¬ nI h < x) : 2 ≤ h := tr_n (by decide) (e ▸ h1)
theorem pm_comb {i h : Nat} {D : vSt} (c : Int32) (hi : i < 2) (e : D 5 i = nI h) (h2 : 2 ≤ h) (hh : h ≤ 40) : pm i (dPush (dPop (dPop D (nI i)) (nI i)) (nI i) (sRes c (dTop (dPop D (nI i)) (nI i)) (dTop D (nI i)))) = sComb (pm i D) c := by
  have e1 := pop_5 hi e (by omega : 1 ≤ h)
  have e2 := pop_5 hi e1 (by omega)
  rw [pm_push _ hi e2 (by omega), pm_pop hi, pm_pop hi, pm_top hi e (by omega) hh, pm_top hi e1 (by omega) (by omega), pm_pop hi]
  rfl
/-- a letter that isn't trapped -/
theorem pm_letter {i : Nat} {D : vSt} {c n : Int32} (hi : i < 2) (hm : mOk (pm i D)) (hc : okC c) (hn : c = 76 ∨ c = 83 → vp_in n 8) (ht : sTrap (pm i D) c = 0) :
    pm i (u2 (dNxM (dWork D (nI i) c n) (nI i) c) 4 i (dNxR (dWork D (nI i) c n) (nI i) c n)) = sAct (pm i D) c n := by
  obtain ⟨h, r, o, e5, e6, e7, b5, b6, b7, t1, t2, t3, t4⟩ := tr_pm hm ht
  clear ht hm
  have m5 : pm i D 4 0 = nI h := e5
  have m6 : pm i D 4 1 = nI r := e6
  have m7 : pm i D 4 2 = nI o := e7
  have m3 : pm i D 4 3 = D 4 i := rfl
  have h4 : sPuts c = 1 → h < 40 := by
    intro q
    have : ¬ h = 40 := fun w => t3 ⟨by rw [q]; decide, w⟩
    omega
  have push4 : ∀ (S : vSt) (v : Int32), (dPush S (nI i) v) 4 i = S 4 i := by intro S v; unfold dPush; rw [u2_ne _ _ (by omega), u2_ne _ _ (by omega)]
  have pop4 : ∀ (S : vSt), (dPop S (nI i)) 4 i = S 4 i := by intro S; unfold dPop; rw [u2_ne _ _ (by omega)]
  rcases hc with rfl | rfl | rfl | rfl | rfl | rfl | rfl | rfl | rfl | rfl | rfl | rfl | rfl | rfl | rfl | rfl | rfl | rfl
  · rw [wk_80, nm_80, nr_80, sa_80, ti hi, push4, pm_4, pm_push n hi e5 (h4 pu_80), m3]
  · obtain ⟨j, hj, rfl⟩ := vp_in_of (hn (Or.inl rfl)) (by decide)
    have e1 : pm i D 1 j = D 11 (8 * i + j) := by show (if j < 8 then _ else _) = _; rw [if_pos hj]
    rw [wk_76, nm_76, nr_76, sa_76, ti hi, push4, pm_4, pm_push _ hi e5 (h4 pu_76), m3, ix8 hi (by omega), nI_clamp (by omega), e1]
  · have h1 : 1 ≤ h := need1 ne_83 t1
    obtain ⟨j, hj, rfl⟩ := vp_in_of (hn (Or.inr rfl)) (by decide)
    rw [wk_83, nm_83, nr_83, sa_83, ti hi, ix8 hi (by omega), u2_ne _ _ (by omega), pop4, pm_4, pm_11 _ _ _ hj, pm_pop hi, pm_top hi e5 h1 b5, nI_clamp (by omega), m3]
  · rw [wk_43, nm_43, nr_43, sa_43, ti hi, push4, pop4, pop4, pm_4, pm_comb _ hi e5 (need2 ne_43 t1) b5, m3]
  · rw [wk_45, nm_45, nr_45, sa_45, ti hi, push4, pop4, pop4, pm_4, pm_comb _ hi e5 (need2 ne_45 t1) b5, m3]
  · rw [wk_42, nm_42, nr_42, sa_42, ti hi, push4, pop4, pop4, pm_4, pm_comb _ hi e5 (need2 ne_42 t1) b5, m3]
  · rw [wk_47, nm_47, nr_47, sa_47, ti hi, push4, pop4, pop4, pm_4, pm_comb _ hi e5 (need2 ne_47 t1) b5, m3]
  · rw [wk_60, nm_60, nr_60, sa_60, ti hi, push4, pop4, pop4, pm_4, pm_comb _ hi e5 (need2 ne_60 t1) b5, m3]
  · rw [wk_61, nm_61, nr_61, sa_61, ti hi, push4, pop4, pop4, pm_4, pm_comb _ hi e5 (need2 ne_61 t1) b5, m3]
  · have h1 : 1 ≤ h := need1 ne_68 t1
    have e1 := pop_5 hi e5 h1
    have e2 : (dPush (dPop D (nI i)) (nI i) (dTop D (nI i))) 5 i = nI h := by rw [push_5 _ hi e1]; congr 1; omega
    rw [wk_68, nm_68, nr_68, sa_68, ti hi, push4, push4, pop4, pm_4, pm_push _ hi e2 (h4 pu_68), pm_push _ hi e1 (by omega), pm_pop hi, pm_top hi e5 h1 b5, sDup_eq m5 h1 b5, m3]
  · have h2 : 2 ≤ h := need2 ne_88 t1
    have e1 := pop_5 hi e5 (by omega : 1 ≤ h)
    have e2 := pop_5 hi e1 (by omega)
    have e3 := push_5 (dTop D (nI i)) hi e2
    rw [wk_88, nm_88, nr_88, sa_88, ti hi, push4, push4, pop4, pop4, pm_4, pm_push _ hi e3 (by omega), pm_push _ hi e2 (by omega), pm_pop hi, pm_pop hi, pm_top hi e5 (by omega) b5, pm_top hi e1 (by omega) (by omega), pm_pop hi, sExch_eq m5 h2 b5, m3]
  · have h1 : 1 ≤ h := need1 ne_79 t1
    have e8 : (dPop D (nI i)) 7 i = nI o := by unfold dPop; rw [u2_ne _ _ (by omega), e7]
    have e4 : (dSay (dPop D (nI i)) (nI i) (dTop D (nI i))) 4 i = D 4 i := by
      unfold dSay
      split
      · rw [u2_ne _ _ (by omega), pop4]
      · rw [u2_ne _ _ (by omega), u2_ne _ _ (by omega), pop4]
    rw [wk_79, nm_79, nr_79, sa_79, ti hi, e4, pm_4, pm_say _ hi e8 b7, pm_pop hi, pm_top hi e5 h1 b5, m3]
  · rw [wk_86, nm_86, nr_86, sa_86, ti hi, pop4, pm_4, pm_pop hi, m3]
  · rw [wk_74, nm_74, nr_74, sa_74, pm_4]
  · have h1 : 1 ≤ h := need1 ne_90 t1
    rw [wk_90, nm_90, nr_90, sa_90, ti hi, pm_4, pm_pop hi, pm_top hi e5 h1 b5, m3]
  · have h1 : r < 10 := by
      have : ¬ r = 10 := fun q => t4 ⟨rfl, q⟩
      omega
    rw [wk_67, nm_67, nr_67, sa_67, pm_4, ti hi, pm_6, e6, ix10 hi (by omega), pm_12 _ _ _ h1, m6, nI_clamp (by omega), m3]
  · have h1 : 1 ≤ r := by
      have : ¬ r = 0 := fun q => t2 ⟨rfl, q⟩
      omega
    have e9 : nI r - 1 = nI (r - 1) := pk_sub (b := 1) h1
    have e10 : pm i D 3 (r - 1) = D 12 (10 * i + (r - 1)) := by show (if r - 1 < 10 then _ else _) = _; rw [if_pos (by omega)]
    rw [wk_82, nm_82, nr_82, sa_82, pm_4, ti hi, pm_6, u2_eq, e6, e9, ix10 hi (by omega), m6, e9, nI_clamp (by omega), e10]
  · rw [wk_72, nm_72, nr_72, sa_72, pm_4, ti hi, pm_8, m3]
