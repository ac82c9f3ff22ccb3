/-! THE RELATION, a letter, trapped or not; what it leaves as it was -/
theorem u2_r (S : vSt) {r r' : Nat} (k : Nat) (v : Int32) (h : r ≠ r') : (u2 S r' k v) r = S r := if_neg h
/-- the count of letters done, set before or behind -/
theorem q_push (M : vSt) (x v : Int32) : sPush (u2 M 4 5 x) v = u2 (sPush M v) 4 5 x := by
  unfold sPush
  rw [u2_ne _ _ (by omega), u2_comm M (r := 4) (k := 5) (r' := 0) _ _ (by omega), u2_comm _ (r := 4) (k := 5) (r' := 4) (k' := 0) _ _ (by omega)]
theorem q_pop (M : vSt) (x : Int32) : sPop (u2 M 4 5 x) = u2 (sPop M) 4 5 x := by
  unfold sPop
  rw [u2_ne _ _ (by omega), u2_comm M (r := 4) (k := 5) (r' := 4) (k' := 0) _ _ (by omega)]
theorem q_top (M : vSt) (x : Int32) : sTop (u2 M 4 5 x) = sTop M := by
  unfold sTop
  rw [u2_ne _ _ (by omega), u2_ne _ _ (by omega)]
theorem q_exch (M : vSt) (x : Int32) : sExch (u2 M 4 5 x) = u2 (sExch M) 4 5 x := by
  unfold sExch
  rw [u2_ne _ _ (show ¬ (4 = 4 ∧ 0 = 5) by omega), u2_ne _ _ (by omega), u2_ne _ _ (by omega), u2_comm M (r := 4) (k := 5) (r' := 0) _ _ (by omega), u2_comm _ (r := 4) (k := 5) (r' := 0) _ _ (by omega)]
theorem q_out (M : vSt) (x v : Int32) : sOut (u2 M 4 5 x) v = u2 (sOut M v) 4 5 x := by
  unfold sOut
  rw [u2_ne _ _ (show ¬ (4 = 4 ∧ 2 = 5) by omega)]
  split
  · rw [u2_comm M (r := 4) (k := 5) (r' := 4) (k' := 2) _ _ (by omega)]
  · rw [u2_comm M (r := 4) (k := 5) (r' := 2) _ _ (by omega), u2_comm _ (r := 4) (k := 5) (r' := 4) (k' := 2) _ _ (by omega)]
theorem q_comb (M : vSt) (x c : Int32) : sComb (u2 M 4 5 x) c = u2 (sComb M c) 4 5 x := by
  unfold sComb
  rw [q_pop, q_top, q_top, q_pop, q_push]
theorem q_3 (M : vSt) (x v : Int32) : u2 (u2 M 4 5 x) 4 3 v = u2 (u2 M 4 3 v) 4 5 x := u2_comm _ _ _ (by omega)
theorem q_43 (M : vSt) (x : Int32) : (u2 M 4 5 x) 4 3 = M 4 3 := u2_ne _ _ (by omega)
theorem q_act {M : vSt} {c : Int32} (x n : Int32) (hc : okC c) : sAct (u2 M 4 5 x) c n = u2 (sAct M c n) 4 5 x := by
  rcases hc with rfl | rfl | rfl | rfl | rfl | rfl | rfl | rfl | rfl | rfl | rfl | rfl | rfl | rfl | rfl | rfl | rfl | rfl
  · rw [sa_80, sa_80, q_push, q_43, q_3]
  · rw [sa_76, sa_76, q_push, q_43, q_3, u2_ne _ _ (show ¬ (1 = 4 ∧ n.toNatClampNeg = 5) by omega)]
  · rw [sa_83, sa_83, q_pop, q_top, q_43, u2_comm _ (r := 4) (k := 5) (r' := 1) _ _ (by omega), q_3]
  · rw [sa_43, sa_43, q_comb, q_43, q_3]
  · rw [sa_45, sa_45, q_comb, q_43, q_3]
  · rw [sa_42, sa_42, q_comb, q_43, q_3]
  · rw [sa_47, sa_47, q_comb, q_43, q_3]
  · rw [sa_60, sa_60, q_comb, q_43, q_3]
  · rw [sa_61, sa_61, q_comb, q_43, q_3]
  · rw [sa_68, sa_68, q_top, q_push, q_43, q_3]
  · rw [sa_88, sa_88, q_exch, q_43, q_3]
  · rw [sa_79, sa_79, q_pop, q_top, q_out, q_43, q_3]
  · rw [sa_86, sa_86, q_pop, q_43, q_3]
  · rw [sa_74, sa_74, q_3]
  · rw [sa_90, sa_90, q_pop, q_top, q_43, q_3]
  · rw [sa_67, sa_67, u2_ne _ _ (show ¬ (4 = 4 ∧ 1 = 5) by omega), q_43, u2_comm _ (r := 4) (k := 5) (r' := 3) _ _ (by omega), u2_comm _ (r := 4) (k := 5) (r' := 4) (k' := 1) _ _ (by omega), q_3]
  · rw [sa_82, sa_82, u2_ne _ _ (show ¬ (4 = 4 ∧ 1 = 5) by omega), u2_ne _ _ (show ¬ (3 = 4 ∧ (M 4 1 - 1).toNatClampNeg = 5) by omega), u2_comm _ (r := 4) (k := 5) (r' := 4) (k' := 1) _ _ (by omega), q_3]
  · rw [sa_72, sa_72, q_43, u2_comm _ (r := 4) (k := 5) (r' := 4) (k' := 4) _ _ (by omega), q_3]
/-- the same traps -/
theorem pm_trap {i : Nat} {D : vSt} {c : Int32} (hi : i < 2) (hm : mOk (pm i D)) (hc : okC c) : dTrap D (nI i) c = sTrap (pm i D) c := by
  obtain ⟨h, r, o, e5, e6, e7, b5, b6, b7⟩ := hm
  have m5 : D 5 i = nI h := e5
  have m6 : D 6 i = nI r := e6
  unfold dTrap sTrap
  rw [ti hi, e5, e6, m5, m6]
  by_cases c1 : nI h < sNeed c
  · rw [if_pos c1, if_pos c1]
  rw [if_neg c1, if_neg c1]
  by_cases c7 : c = 47
  · subst c7
    have h2 : 2 ≤ h := need2 ne_47 c1
    have e9 : D 10 (40 * nI i + nI h - 1).toNatClampNeg = sTop (pm i D) := by
      unfold sTop
      rw [e5, show nI h - 1 = nI (h - 1) from pk_sub (b := 1) (by omega), nI_clamp (by omega), show (40 : Int32) = nI 40 from rfl, pk_mul, nI_add, show nI (40 * i + h) - 1 = nI (40 * i + h - 1) from pk_sub (b := 1) (by omega), nI_clamp (by omega)]
      show _ = (if h - 1 < 40 then D 10 (40 * i + (h - 1)) else 0)
      rw [if_pos (by omega), show 40 * i + h - 1 = 40 * i + (h - 1) by omega]
    rw [e9]
  · simp only [c7, false_and, if_false]
theorem w_push (D : vSt) (m v : Int32) {r : Nat} (hr : r = 0 ∨ r = 1 ∨ r = 2 ∨ r = 3 ∨ r = 14) : (dPush D m v) r = D r := by
  unfold dPush
  rw [u2_r _ _ _ (by omega), u2_r _ _ _ (by omega)]
theorem w_pop (D : vSt) (m : Int32) {r : Nat} (hr : r = 0 ∨ r = 1 ∨ r = 2 ∨ r = 3 ∨ r = 14) : (dPop D m) r = D r := by
  unfold dPop
  rw [u2_r _ _ _ (by omega)]
theorem w_say (D : vSt) (m v : Int32) {r : Nat} (hr : r = 0 ∨ r = 1 ∨ r = 2 ∨ r = 3 ∨ r = 14) : (dSay D m v) r = D r := by
  unfold dSay
  split
  · rw [u2_r _ _ _ (by omega)]
  · rw [u2_r _ _ _ (by omega), u2_r _ _ _ (by omega)]
theorem w_work {D : vSt} {m c n : Int32} (hc : okC c) {r : Nat} (hr : r = 0 ∨ r = 1 ∨ r = 2 ∨ r = 3 ∨ r = 14) : (dNxM (dWork D m c n) m c) r = D r := by
  rcases hc with rfl | rfl | rfl | rfl | rfl | rfl | rfl | rfl | rfl | rfl | rfl | rfl | rfl | rfl | rfl | rfl | rfl | rfl
  · rw [nm_80, wk_80, w_push _ _ _ hr]
  · rw [nm_76, wk_76, w_push _ _ _ hr]
  · rw [nm_83, wk_83, u2_r _ _ _ (by omega), w_pop _ _ hr]
  · rw [nm_43, wk_43, w_push _ _ _ hr, w_pop _ _ hr, w_pop _ _ hr]
  · rw [nm_45, wk_45, w_push _ _ _ hr, w_pop _ _ hr, w_pop _ _ hr]
  · rw [nm_42, wk_42, w_push _ _ _ hr, w_pop _ _ hr, w_pop _ _ hr]
  · rw [nm_47, wk_47, w_push _ _ _ hr, w_pop _ _ hr, w_pop _ _ hr]
  · rw [nm_60, wk_60, w_push _ _ _ hr, w_pop _ _ hr, w_pop _ _ hr]
  · rw [nm_61, wk_61, w_push _ _ _ hr, w_pop _ _ hr, w_pop _ _ hr]
  · rw [nm_68, wk_68, w_push _ _ _ hr, w_push _ _ _ hr, w_pop _ _ hr]
  · rw [nm_88, wk_88, w_push _ _ _ hr, w_push _ _ _ hr, w_pop _ _ hr, w_pop _ _ hr]
  · rw [nm_79, wk_79, w_say _ _ _ hr, w_pop _ _ hr]
  · rw [nm_86, wk_86, w_pop _ _ hr]
  · rw [nm_74, wk_74]
  · rw [nm_90, wk_90, w_pop _ _ hr]
  · rw [nm_67, wk_67, u2_r _ _ _ (by omega), u2_r _ _ _ (by omega)]
  · rw [nm_82, wk_82, u2_r _ _ _ (by omega)]
  · rw [nm_72, wk_72, u2_r _ _ _ (by omega)]
theorem w_act {D : vSt} {m : Int32} (hc : okC (D 0 (D 4 (tn m)).toNatClampNeg)) {r : Nat} (hr : r = 0 ∨ r = 1 ∨ r = 2 ∨ r = 3 ∨ r = 14) : (dActM D m) r = D r := by
  unfold dActM
  split
  · rw [u2_r _ _ _ (by omega), u2_r _ _ _ (by omega), w_work hc hr]
  · rw [u2_r _ _ _ (by omega)]
/-- the other machine stays -/
theorem o_push {i i' h : Nat} {D : vSt} (v : Int32) (hi : i < 2) (hne : ¬ i = i') (e : D 5 i = nI h) (hh : h < 40) : pm i' (dPush D (nI i) v) = pm i' D := by
  unfold dPush
  rw [ti hi, e, ix40 hi (by omega), pm_nk _ _ _ (by decide) hne, pm_n10 _ _ _ _ hh hne]
theorem o_pop {i i' : Nat} {D : vSt} (hi : i < 2) (hne : ¬ i = i') : pm i' (dPop D (nI i)) = pm i' D := by
  unfold dPop
  rw [ti hi, pm_nk _ _ _ (by decide) hne]
theorem o_say {i i' o : Nat} {D : vSt} (v : Int32) (hi : i < 2) (hne : ¬ i = i') (e : D 7 i = nI o) (ho : o < 2 ^ 30) : pm i' (dSay D (nI i) v) = pm i' D := by
  unfold dSay
  rw [ti hi, e]
  by_cases c : (60 : Int32) ≤ nI o
  · rw [if_pos c, pm_nk _ _ _ (by decide) hne]
  · have h6 : o < 60 := by
      rcases Nat.lt_or_ge o 60 with q | q
      · exact q
      · exact absurd (nI_le (a := 60) q (by omega)) c
    rw [if_neg c, pm_nk _ _ _ (by decide) hne, ix60 hi (by omega), pm_n13 _ _ _ _ h6 hne]
theorem o_letter {i i' : Nat} {D : vSt} {c n : Int32} (hi : i < 2) (hne : ¬ i = i') (hm : mOk (pm i D)) (hc : okC c) (hn : c = 76 ∨ c = 83 → vp_in n 8) (ht : sTrap (pm i D) c = 0) :
    pm i' (dNxM (dWork D (nI i) c n) (nI i) c) = pm i' D := by
  obtain ⟨h, r, o, e5, e6, e7, b5, b6, b7, t1, t2, t3, t4⟩ := tr_pm hm ht
  clear ht hm
  have h4 : sPuts c = 1 → h < 40 := by
    intro q
    have : ¬ h = 40 := fun w => t3 ⟨by rw [q]; decide, w⟩
    omega
  rcases hc with rfl | rfl | rfl | rfl | rfl | rfl | rfl | rfl | rfl | rfl | rfl | rfl | rfl | rfl | rfl | rfl | rfl | rfl
  · rw [nm_80, wk_80, o_push _ hi hne e5 (h4 pu_80)]
  · rw [nm_76, wk_76, o_push _ hi hne e5 (h4 pu_76)]
  · obtain ⟨j, hj, rfl⟩ := vp_in_of (hn (Or.inr rfl)) (by decide)
    rw [nm_83, wk_83, ix8 hi (by omega), pm_n11 _ _ _ _ hj hne, o_pop hi hne]
  · have h2 : 2 ≤ h := need2 ne_43 t1
    have e1 := pop_5 hi e5 (by omega : 1 ≤ h)
    rw [nm_43, wk_43, o_push _ hi hne (pop_5 hi e1 (by omega)) (by omega), o_pop hi hne, o_pop hi hne]
  · have h2 : 2 ≤ h := need2 ne_45 t1
    have e1 := pop_5 hi e5 (by omega : 1 ≤ h)
    rw [nm_45, wk_45, o_push _ hi hne (pop_5 hi e1 (by omega)) (by omega), o_pop hi hne, o_pop hi hne]
  · have h2 : 2 ≤ h := need2 ne_42 t1
    have e1 := pop_5 hi e5 (by omega : 1 ≤ h)
    rw [nm_42, wk_42, o_push _ hi hne (pop_5 hi e1 (by omega)) (by omega), o_pop hi hne, o_pop hi hne]
  · have h2 : 2 ≤ h := need2 ne_47 t1
    have e1 := pop_5 hi e5 (by omega : 1 ≤ h)
    rw [nm_47, wk_47, o_push _ hi hne (pop_5 hi e1 (by omega)) (by omega), o_pop hi hne, o_pop hi hne]
  · have h2 : 2 ≤ h := need2 ne_60 t1
    have e1 := pop_5 hi e5 (by omega : 1 ≤ h)
    rw [nm_60, wk_60, o_push _ hi hne (pop_5 hi e1 (by omega)) (by omega), o_pop hi hne, o_pop hi hne]
  · have h2 : 2 ≤ h := need2 ne_61 t1
    have e1 := pop_5 hi e5 (by omega : 1 ≤ h)
    rw [nm_61, wk_61, o_push _ hi hne (pop_5 hi e1 (by omega)) (by omega), o_pop hi hne, o_pop hi hne]
  · have h1 : 1 ≤ h := need1 ne_68 t1
    have e1 := pop_5 hi e5 h1
    have e2 : (dPush (dPop D (nI i)) (nI i) (dTop D (nI i))) 5 i = nI h := by rw [push_5 _ hi e1]; congr 1; omega
    rw [nm_68, wk_68, o_push _ hi hne e2 (h4 pu_68), o_push _ hi hne e1 (by omega), o_pop hi hne]
  · have h2 : 2 ≤ h := need2 ne_88 t1
    have e1 := pop_5 hi e5 (by omega : 1 ≤ h)
    have e2 := pop_5 hi e1 (by omega)
    rw [nm_88, wk_88, o_push _ hi hne (push_5 _ hi e2) (by omega), o_push _ hi hne e2 (by omega), o_pop hi hne, o_pop hi hne]
  · have e8 : (dPop D (nI i)) 7 i = nI o := by unfold dPop; rw [u2_ne _ _ (by omega), e7]
    rw [nm_79, wk_79, o_say _ hi hne e8 b7, o_pop hi hne]
  · rw [nm_86, wk_86, o_pop hi hne]
  · rw [nm_74, wk_74]
  · rw [nm_90, wk_90, o_pop hi hne]
  · have h1 : r < 10 := by
      have : ¬ r = 10 := fun q => t4 ⟨rfl, q⟩
      omega
    rw [nm_67, wk_67, ti hi, pm_nk _ _ _ (by decide) hne, e6, ix10 hi (by omega), pm_n12 _ _ _ _ h1 hne]
  · rw [nm_82, wk_82, ti hi, pm_nk _ _ _ (by decide) hne]
  · rw [nm_72, wk_72, ti hi, pm_nk _ _ _ (by decide) hne]
/-- what a letter at machine i does: the letters and numbers of both programs are the same -/
theorem w9 {D : vSt} {m c n : Int32} (hc : okC c) (k : Nat) : (dNxM (dWork D m c n) m c) 9 k = D 9 k := by
  rcases hc with rfl | rfl | rfl | rfl | rfl | rfl | rfl | rfl | rfl | rfl | rfl | rfl | rfl | rfl | rfl | rfl | rfl | rfl
  · rw [nm_80, wk_80]
    unfold dPush; rw [u2_ne _ _ (by omega), u2_ne _ _ (by omega)]
  · rw [nm_76, wk_76]
    unfold dPush; rw [u2_ne _ _ (by omega), u2_ne _ _ (by omega)]
  · rw [nm_83, wk_83]
    rw [u2_ne _ _ (by omega)]; unfold dPop; rw [u2_ne _ _ (by omega)]
  · rw [nm_43, wk_43]
    unfold dPush; rw [u2_ne _ _ (by omega), u2_ne _ _ (by omega)]; unfold dPop; rw [u2_ne _ _ (by omega), u2_ne _ _ (by omega)]
  · rw [nm_45, wk_45]
    unfold dPush; rw [u2_ne _ _ (by omega), u2_ne _ _ (by omega)]; unfold dPop; rw [u2_ne _ _ (by omega), u2_ne _ _ (by omega)]
  · rw [nm_42, wk_42]
    unfold dPush; rw [u2_ne _ _ (by omega), u2_ne _ _ (by omega)]; unfold dPop; rw [u2_ne _ _ (by omega), u2_ne _ _ (by omega)]
  · rw [nm_47, wk_47]
    unfold dPush; rw [u2_ne _ _ (by omega), u2_ne _ _ (by omega)]; unfold dPop; rw [u2_ne _ _ (by omega), u2_ne _ _ (by omega)]
  · rw [nm_60, wk_60]
    unfold dPush; rw [u2_ne _ _ (by omega), u2_ne _ _ (by omega)]; unfold dPop; rw [u2_ne _ _ (by omega), u2_ne _ _ (by omega)]
  · rw [nm_61, wk_61]
    unfold dPush; rw [u2_ne _ _ (by omega), u2_ne _ _ (by omega)]; unfold dPop; rw [u2_ne _ _ (by omega), u2_ne _ _ (by omega)]
  · rw [nm_68, wk_68]
    unfold dPush; rw [u2_ne _ _ (by omega), u2_ne _ _ (by omega), u2_ne _ _ (by omega), u2_ne _ _ (by omega)]; unfold dPop; rw [u2_ne _ _ (by omega)]
  · rw [nm_88, wk_88]
    unfold dPush; rw [u2_ne _ _ (by omega), u2_ne _ _ (by omega), u2_ne _ _ (by omega), u2_ne _ _ (by omega)]; unfold dPop; rw [u2_ne _ _ (by omega), u2_ne _ _ (by omega)]
  · rw [nm_79, wk_79]
    unfold dSay
    split
    · rw [u2_ne _ _ (by omega)]; unfold dPop; rw [u2_ne _ _ (by omega)]
    · rw [u2_ne _ _ (by omega), u2_ne _ _ (by omega)]; unfold dPop; rw [u2_ne _ _ (by omega)]
  · rw [nm_86, wk_86]
    unfold dPop; rw [u2_ne _ _ (by omega)]
  · rw [nm_74, wk_74]
  · rw [nm_90, wk_90]
    unfold dPop; rw [u2_ne _ _ (by omega)]
  · rw [nm_67, wk_67]
    rw [u2_ne _ _ (by omega), u2_ne _ _ (by omega)]
  · rw [nm_82, wk_82]
    rw [u2_ne _ _ (by omega)]
  · rw [nm_72, wk_72]
    rw [u2_ne _ _ (by omega)]
theorem pm_step {i : Nat} {G D : vSt} (hi : i < 2) (hm : mOk (pm i D)) (e0 : ∀ j, j < 80 → D 0 j = G 0 j) (e1 : ∀ j, j < 80 → D 1 j = G 1 j) (hpl : vp_in (D 4 i) 80) (hc : okC (D 0 (D 4 i).toNatClampNeg)) (hn : D 0 (D 4 i).toNatClampNeg = 76 ∨ D 0 (D 4 i).toNatClampNeg = 83 → vp_in (D 1 (D 4 i).toNatClampNeg) 8) :
    pm i (dActM D (nI i)) = sStep G (pm i D) ∧ (∀ i', ¬ i = i' → pm i' (dActM D (nI i)) = pm i' D) ∧ (dActR D (nI i) = 0 ↔ ¬ sTrap (pm i D) (G 0 (D 4 i).toNatClampNeg) = 0) := by
  obtain ⟨j, hj, ej⟩ := vp_in_of hpl (by decide)
  have m3 : pm i D 4 3 = D 4 i := rfl
  have hcl : (D 4 i).toNatClampNeg = j := by rw [ej, nI_clamp (by omega)]
  rw [hcl] at hc hn ⊢
  have ht := pm_trap hi hm hc
  unfold dActM dActR sStep
  rw [ti hi, m3, hcl, ← e0 j hj, ← e1 j hj, ht]
  by_cases c : sTrap (pm i D) (D 0 j) = 0
  · rw [c, if_pos (by decide), if_pos rfl, if_pos (by decide)]
    refine ⟨?_, ?_, ?_⟩
    · rw [q_act _ _ hc, pm_9, pm_letter hi hm hc hn c, w9 hc]
      rfl
    · intro i' hne
      rw [pm_nk _ _ _ (by decide) hne, pm_nk _ _ _ (by decide) hne, o_letter hi hne hm hc hn c]
    · simp
  · have c2 : ¬ sTrap (pm i D) (D 0 j) ≤ 0 := fun q => c (by rw [← ht] at q ⊢; exact dTrap_le q)
    rw [if_neg c2, if_neg c, if_neg c2]
    refine ⟨?_, ?_, ?_⟩
    · rw [pm_8]
    · intro i' hne
      rw [pm_nk _ _ _ (by decide) hne]
    · simp [c]
