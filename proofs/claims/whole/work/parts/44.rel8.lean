/-! THE RELATION, whole; the calls that change the program -/
def Rel (b : Nat) (G D : vSt) : Prop := ∃ z, relP G D z ∧ relT G D z ∧ (¬ G 5 1 = 0 → ∀ p, p < z → rowF G D z p) ∧ mB b (pm 0 D) ∧ mB b (pm 1 D)
theorem dTg_same {D D' : vSt} (h0 : D' 0 = D 0) (h1 : D' 1 = D 1) (h14 : D' 14 1 = D 14 1) (p : Int32) : dTg D' p = dTg D p := by
  have key : ∀ k, dTgF D' p k = dTgF D p k := by
    intro k
    induction k with
    | zero => show (if _ then _ else if _ then _ else _) = (if _ then _ else if _ then _ else _); rw [h0]
    | succ k ihk => show (if _ then (if _ then _ else if _ then _ else _) else _) = (if _ then (if _ then _ else if _ then _ else _) else _); rw [ihk, h0, h1]
  unfold dTg
  rw [h14, key]
/-- only the code and the machines differ -/
theorem Rel.of {b b' : Nat} {G D D' : vSt} (h : Rel b G D) (h0 : D' 0 = D 0) (h1 : D' 1 = D 1) (h2 : D' 2 = D 2) (h3 : D' 3 = D 3) (h141 : D' 14 1 = D 14 1) (h142 : D' 14 2 = D 14 2) (m0 : mB b' (pm 0 D')) (m1 : mB b' (pm 1 D')) : Rel b' G D' := by
  obtain ⟨z, ⟨r1, r2, r3, r4, r5, r6, r7, r8, r9⟩, hT, hF, -, -⟩ := h
  refine ⟨z, ⟨r1, r2, by rw [h141]; exact r3, by rw [h0]; exact r4, by rw [h1]; exact r5, r6, by unfold dRows; rw [h3]; exact r7, by rw [h142]; exact r8, by rw [h2]; exact r9⟩, fun p hp => ?_, fun w p hp => ?_, m0, m1⟩
  · rw [dTg_same h0 h1 h141]; exact hT p hp
  · unfold rowF; rw [h2]; exact hF w p hp
theorem Rel.code {b : Nat} {G D : vSt} (h : Rel b G D) (v : Int32) : Rel b G (u2 D 14 0 v) ∧ (∀ i, pm i (u2 D 14 0 v) = pm i D) := by
  have hp : ∀ i, pm i (u2 D 14 0 v) = pm i D := fun i => pm_no i D v (by omega)
  have hm := h
  obtain ⟨z, -, -, -, m0, m1⟩ := hm
  exact ⟨h.of (u2_r _ _ _ (by omega)) (u2_r _ _ _ (by omega)) (u2_r _ _ _ (by omega)) (u2_r _ _ _ (by omega)) (u2_ne _ _ (by omega)) (u2_ne _ _ (by omega)) (by rw [hp]; exact m0) (by rw [hp]; exact m1), hp⟩
theorem Rel.mono {b b' : Nat} {G D : vSt} (h : Rel b G D) (hb : b ≤ b') : Rel b' G D := by
  obtain ⟨z, h1, h2, h3, m0, m1⟩ := h
  exact ⟨z, h1, h2, h3, m0.mono hb, m1.mono hb⟩
theorem Rel.begin {b : Nat} {G D : vSt} (h : Rel b G D) (b' : Nat) : Rel b' G (dBeg D) := by
  refine h.of (dBeg_r D (by omega)) (dBeg_r D (by omega)) (dBeg_r D (by omega)) (dBeg_r D (by omega)) (by rw [dBeg_r D (by omega)]) (by rw [dBeg_r D (by omega)]) ?_ ?_
  · rw [pm_begin D (by omega)]; exact mB_begin _ _
  · rw [pm_begin D (by omega)]; exact mB_begin _ _
theorem set_rel {G D G2 D2 : vSt} {z z' q : Nat} {c n : Int32} (hR : relP G D z) (hz' : z' ≤ 80) (hq : q < z') (hzz : ∀ k, k < z' → k < z ∨ k = q) (hc : okC c) (hn : c = 76 ∨ c = 83 → vp_in n 8) (g0 : G2 0 = upd (G 0) q c) (g1 : G2 1 = upd (G 1) q n) (g5 : G2 5 0 = nI z') (g51 : G2 5 1 = 0) (d0 : D2 0 = upd (D 0) q c) (d1 : D2 1 = upd (D 1) q n) (d2 : D2 2 = D 2) (d3 : D2 3 = D 3) (d14 : D2 14 1 = nI z') (d142 : D2 14 2 = 0) : relP (sTgts G2) D2 z' ∧ relT (sTgts G2) D2 z' := by
  obtain ⟨r1, r2, r3, r4, r5, r6, r7, r8, r9⟩ := hR
  have e0 : ∀ k, k < 80 → D2 0 k = G2 0 k := by
    intro k hk
    rw [d0, g0]
    unfold upd
    split
    · rfl
    · exact r4 k hk
  have e1 : ∀ k, k < 80 → D2 1 k = G2 1 k := by
    intro k hk
    rw [d1, g1]
    unfold upd
    split
    · rfl
    · exact r5 k hk
  refine ⟨⟨hz', by rw [tgts_r _ (by omega)]; exact g5, d14, by rw [tgts_r _ (by omega)]; exact e0, by rw [tgts_r _ (by omega)]; exact e1, fun k hk => ?_, by unfold dRows; rw [d3]; exact r7, by rw [tgts_r _ (by omega), d142, g51], by rw [d2]; exact r9⟩, relT_of hz' g5 d14 e0 e1⟩
  rw [tgts_r _ (by omega), tgts_r _ (by omega), g0, g1]
  unfold upd
  by_cases ck : k = q
  · rw [if_pos ck, if_pos ck]; exact ⟨hc, hn⟩
  · rw [if_neg ck, if_neg ck]; exact r6 k ((hzz k hk).resolve_right ck)
/-- add -/
theorem add_C {G D : vSt} {b : Nat} (h : Rel b G D) (c n : Int32) : (sAllow c n = 0 → dAddC D c n = 1) ∧ (¬ sAllow c n = 0 → G 5 0 = 80 → dAddC D c n = 2) ∧ (¬ sAllow c n = 0 → ¬ G 5 0 = 80 → dAddC D c n = 0 ∧ ∃ z : Nat, z < 80 ∧ G 5 0 = nI z) := by
  obtain ⟨z, ⟨r1, r2, r3, -⟩, -⟩ := h
  have ha := (allow_iff c n).1
  unfold dAddC
  rw [r3, r2]
  refine ⟨fun w => by rw [if_pos (ha.mp w)], fun w v => by rw [if_neg (fun x => w (ha.mpr x)), if_pos v], fun w v => ⟨by rw [if_neg (fun x => w (ha.mpr x)), if_neg v], z, ?_, rfl⟩⟩
  rcases Nat.lt_or_ge z 80 with k | k
  · exact k
  · exact absurd (show nI z = 80 by rw [show z = 80 by omega]; rfl) v
theorem add_no {D : vSt} {c n : Int32} (h : ¬ dAddC D c n = 0) (h' : dAddC D c n = 1 ∨ dAddC D c n = 2) : dAddM D c n = u2 D 14 0 (dAddC D c n) := by
  unfold dAddM
  rw [if_neg]
  rcases h' with w | w <;> rw [w] <;> decide
theorem add_yes {G D : vSt} {b : Nat} {c n : Int32} (h : Rel b G D) (ha : ¬ sAllow c n = 0) (hs : ¬ G 5 0 = 80) : Rel 0 (sApp G c n) (dAddM D c n) ∧ (∀ i, i < 2 → pm i (dAddM D c n) = sBegin (pm i D)) ∧ (dAddM D c n) 14 0 = 0 ∧ dAddR D c n = G 5 0 := by
  obtain ⟨hC, z, hz, ez⟩ := (add_C h c n).2.2 ha hs
  obtain ⟨z', hR, hT, hF, m0, m1⟩ := h
  obtain rfl : z = z' := nI_i (by omega) (by have := hR.1; omega) (ez.symm.trans hR.2.1)
  obtain ⟨hok, hn⟩ := (allow_iff c n).2 ha
  have ed : D 14 1 = nI z := hR.2.2.1
  have hcl : (nI z).toNatClampNeg = z := nI_clamp (by omega)
  have e1 : dSet (u2 D 14 0 0) (nI z) c n = dBeg (u2 (u2 (u2 (u2 D 14 0 0) 0 z c) 1 z n) 14 2 0) := by
    unfold dSet
    rw [ch_id hok, ti' z hz]
  have e2 : (dBeg (u2 (u2 (u2 (u2 D 14 0 0) 0 z c) 1 z n) 14 2 0)) 14 1 = nI z := by
    rw [dBeg_r _ (by omega), u2_ne _ _ (by omega), u2_ne _ _ (by omega), u2_ne _ _ (by omega), u2_ne _ _ (by omega), ed]
  have eM : dAddM D c n = u2 (dBeg (u2 (u2 (u2 (u2 D 14 0 0) 0 z c) 1 z n) 14 2 0)) 14 1 (nI (z + 1)) := by
    unfold dAddM
    rw [hC, if_pos (by decide), ed, e1, e2, nI_1]
  have hpm : ∀ i, i < 2 → pm i (dAddM D c n) = sBegin (pm i D) := by
    intro i hi
    rw [eM, pm_no _ _ _ (by omega), pm_begin _ hi, pm_no _ _ _ (by omega), pm_no _ _ _ (by omega), pm_no _ _ _ (by omega), pm_no _ _ _ (by omega)]
  have eG : sApp G c n = sTgts (u2 (u2 (u2 (u2 G 5 0 (nI (z + 1))) 0 z c) 1 z n) 5 1 0) := by
    unfold sApp sRepl
    rw [ez, hcl, nI_1]
  refine ⟨?_, hpm, ?_, ?_⟩
  · obtain ⟨p1, p2⟩ := set_rel (G2 := u2 (u2 (u2 (u2 G 5 0 (nI (z + 1))) 0 z c) 1 z n) 5 1 0) (D2 := dAddM D c n) (z' := z + 1) (q := z) hR (by omega) (by omega) (fun k hk => by omega) hok hn (by rw [u2_r _ _ _ (by omega), u2_r _ _ _ (by omega)]; rfl) (by rw [u2_r _ _ _ (by omega)]; rfl) (by rw [u2_ne _ _ (by omega), u2_ne _ _ (by omega), u2_ne _ _ (by omega), u2_eq]) (by rw [u2_eq])
      (by rw [eM, u2_r _ _ _ (by omega), dBeg_r _ (by omega), u2_r _ _ _ (by omega), u2_r _ _ _ (by omega)]; rfl) (by rw [eM, u2_r _ _ _ (by omega), dBeg_r _ (by omega), u2_r _ _ _ (by omega)]; rfl) (by rw [eM, u2_r _ _ _ (by omega), dBeg_r _ (by omega), u2_r _ _ _ (by omega), u2_r _ _ _ (by omega), u2_r _ _ _ (by omega), u2_r _ _ _ (by omega)]) (by rw [eM, u2_r _ _ _ (by omega), dBeg_r _ (by omega), u2_r _ _ _ (by omega), u2_r _ _ _ (by omega), u2_r _ _ _ (by omega), u2_r _ _ _ (by omega)]) (by rw [eM, u2_eq]) (by rw [eM, u2_ne _ _ (by omega), dBeg_r _ (by omega), u2_eq])
    rw [eG]
    exact ⟨z + 1, p1, p2, fun w => absurd (by rw [tgts_r _ (by omega), u2_eq]) w, by rw [hpm 0 (by omega)]; exact mB_begin _ _, by rw [hpm 1 (by omega)]; exact mB_begin _ _⟩
  · rw [eM, u2_ne _ _ (by omega), dBeg_r _ (by omega), u2_ne _ _ (by omega), u2_ne _ _ (by omega), u2_ne _ _ (by omega), u2_eq]
  · unfold dAddR
    rw [hC, if_pos (by decide), ed, e1, e2, u2_eq, ez, nI_1]
    exact pk_sub (a := z + 1) (b := 1) (by omega)
/-- change -/
theorem chg_C {G D : vSt} {b : Nat} (h : Rel b G D) (p c n : Int32) : (sHas G p = 0 → dChgC D p c n = 1) ∧ (¬ sHas G p = 0 → sAllow c n = 0 → dChgC D p c n = 2) ∧ (¬ sHas G p = 0 → ¬ sAllow c n = 0 → dChgC D p c n = 0) := by
  obtain ⟨z, ⟨r1, r2, r3, -⟩, -⟩ := h
  have ha := (allow_iff c n).1
  have ho := out_has (q := p) r1 r2
  unfold dChgC
  rw [r3]
  exact ⟨fun w => by rw [if_neg (fun x => ho.mp x w)], fun w v => by rw [if_pos (ho.mpr w), if_pos (ha.mp v)], fun w v => by rw [if_pos (ho.mpr w), if_neg (fun x => v (ha.mpr x))]⟩
theorem chg_yes {G D : vSt} {b : Nat} {p c n : Int32} (h : Rel b G D) (hh : ¬ sHas G p = 0) (ha : ¬ sAllow c n = 0) : Rel 0 (sRepl G p c n) (dChg D p c n) ∧ (∀ i, i < 2 → pm i (dChg D p c n) = sBegin (pm i D)) ∧ (dChg D p c n) 14 0 = 0 := by
  have hC := (chg_C h p c n).2.2 hh ha
  obtain ⟨z, hR, hT, hF, m0, m1⟩ := h
  obtain ⟨hok, hn⟩ := (allow_iff c n).2 ha
  have hz := hR.1
  obtain ⟨q, hq, rfl⟩ := (has_iff hR.1 hR.2.1).mp hh
  have hcl : (nI q).toNatClampNeg = q := nI_clamp (by omega)
  have eM : dChg D (nI q) c n = dBeg (u2 (u2 (u2 (u2 D 14 0 0) 0 q c) 1 q n) 14 2 0) := by
    unfold dChg dSet
    rw [hC, if_pos rfl, ch_id hok, ti' q (by omega)]
  have hpm : ∀ i, i < 2 → pm i (dChg D (nI q) c n) = sBegin (pm i D) := by
    intro i hi
    rw [eM, pm_begin _ hi, pm_no _ _ _ (by omega), pm_no _ _ _ (by omega), pm_no _ _ _ (by omega), pm_no _ _ _ (by omega)]
  have eG : sRepl G (nI q) c n = sTgts (u2 (u2 (u2 G 0 q c) 1 q n) 5 1 0) := by unfold sRepl; rw [hcl]
  refine ⟨?_, hpm, ?_⟩
  · obtain ⟨p1, p2⟩ := set_rel (G2 := u2 (u2 (u2 G 0 q c) 1 q n) 5 1 0) (D2 := dChg D (nI q) c n) (z' := z) (q := q) hR hz hq (fun k hk => Or.inl hk) hok hn (by rw [u2_r _ _ _ (by omega), u2_r _ _ _ (by omega)]; rfl) (by rw [u2_r _ _ _ (by omega)]; rfl) (by rw [u2_ne _ _ (by omega), u2_ne _ _ (by omega), u2_ne _ _ (by omega)]; exact hR.2.1) (by rw [u2_eq])
      (by rw [eM, dBeg_r _ (by omega), u2_r _ _ _ (by omega), u2_r _ _ _ (by omega)]; rfl) (by rw [eM, dBeg_r _ (by omega), u2_r _ _ _ (by omega)]; rfl) (by rw [eM, dBeg_r _ (by omega), u2_r _ _ _ (by omega), u2_r _ _ _ (by omega), u2_r _ _ _ (by omega), u2_r _ _ _ (by omega)]) (by rw [eM, dBeg_r _ (by omega), u2_r _ _ _ (by omega), u2_r _ _ _ (by omega), u2_r _ _ _ (by omega), u2_r _ _ _ (by omega)]) (by rw [eM, dBeg_r _ (by omega), u2_ne _ _ (by omega), u2_ne _ _ (by omega), u2_ne _ _ (by omega), u2_ne _ _ (by omega)]; exact hR.2.2.1) (by rw [eM, dBeg_r _ (by omega), u2_eq])
    rw [eG]
    exact ⟨z, p1, p2, fun w => absurd (by rw [tgts_r _ (by omega), u2_eq]) w, by rw [hpm 0 (by omega)]; exact mB_begin _ _, by rw [hpm 1 (by omega)]; exact mB_begin _ _⟩
  · rw [eM, dBeg_r _ (by omega), u2_ne _ _ (by omega), u2_ne _ _ (by omega), u2_ne _ _ (by omega), u2_eq]
theorem chg_no {D : vSt} {p c n : Int32} (h : ¬ dChgC D p c n = 0) : dChg D p c n = u2 D 14 0 (dChgC D p c n) := by unfold dChg; rw [if_neg h]
/-- clear -/
theorem clear_rel {G D : vSt} {b : Nat} (h : Rel b G D) : Rel 0 (sNone G) (dClear D) ∧ (∀ i, i < 2 → pm i (dClear D) = sBegin (pm i D)) := by
  obtain ⟨z, ⟨r1, r2, r3, r4, r5, r6, r7, r8, r9⟩, hT, hF, m0, m1⟩ := h
  have hpm : ∀ i, i < 2 → pm i (dClear D) = sBegin (pm i D) := by
    intro i hi
    unfold dClear
    rw [pm_begin _ hi, pm_no _ _ _ (by omega), pm_no _ _ _ (by omega), pm_no _ _ _ (by omega)]
  have hr : ∀ r, r < 4 → (dClear D) r = D r := by
    intro r hr
    unfold dClear
    rw [dBeg_r _ (by omega), u2_r _ _ _ (by omega), u2_r _ _ _ (by omega), u2_r _ _ _ (by omega)]
  have g0 : (sNone G) 0 = G 0 := by unfold sNone; rw [u2_r _ _ _ (by omega), u2_r _ _ _ (by omega)]
  have g1 : (sNone G) 1 = G 1 := by unfold sNone; rw [u2_r _ _ _ (by omega), u2_r _ _ _ (by omega)]
  have g51 : (sNone G) 5 1 = 0 := by unfold sNone; rw [u2_eq]
  refine ⟨⟨0, ⟨by omega, by unfold sNone; rw [u2_ne _ _ (by omega), u2_eq]; rfl, by unfold dClear; rw [dBeg_r _ (by omega), u2_ne _ _ (by omega), u2_eq]; rfl, by rw [hr 0 (by omega), g0]; exact r4, by rw [hr 1 (by omega), g1]; exact r5, fun k hk => by omega, by unfold dRows; rw [hr 3 (by omega)]; exact r7, by rw [g51]; unfold dClear; rw [dBeg_r _ (by omega), u2_eq], by rw [hr 2 (by omega)]; exact r9⟩, fun p hp => by omega, fun w => absurd g51 w, by rw [hpm 0 (by omega)]; exact mB_begin _ _, by rw [hpm 1 (by omega)]; exact mB_begin _ _⟩, hpm⟩
/-- fuse -/
theorem fuse_rel {G D : vSt} {b : Nat} (h : Rel b G D) : Rel 0 (sFuM G) (dFuM D) ∧ (∀ i, i < 2 → pm i (dFuM D) = sBegin (pm i D)) ∧ sFuR G = dFuR D := by
  obtain ⟨hc, hcp⟩ := h.code 0
  obtain ⟨z, ⟨r1, r2, r3, r4, r5, r6, r7, r8, r9⟩, hT, hF, m0, m1⟩ := hc
  obtain ⟨z', hR', -⟩ := h
  have r3' : D 14 1 = nI z := by rw [u2_ne _ _ (by omega)] at r3; exact r3
  have hcl : (nI z).toNatClampNeg = z := nI_clamp (by omega)
  obtain ⟨f1, f2, f3, f4⟩ := fu_rel r1 r2 r3 r7 r4 (fun k hk => (r6 k hk).1) hT z (Nat.le_refl _)
  have j2 : ∀ r, r ≠ 2 → (dFuS (u2 D 14 0 0) z).1 r = (u2 D 14 0 0) r := fun r hr => dFuS_r _ r hr z
  have pmS : ∀ (i : Nat) (S T : vSt), (∀ r, r ≠ 2 → S r = T r) → pm i S = pm i T := by
    intro i S T w
    funext a c
    unfold pm
    rw [w 10 (by decide), w 11 (by decide), w 13 (by decide), w 12 (by decide), w 5 (by decide), w 6 (by decide), w 7 (by decide), w 4 (by decide), w 8 (by decide), w 9 (by decide)]
  have hpm : ∀ i, i < 2 → pm i (dFuM D) = sBegin (pm i D) := by
    intro i hi
    unfold dFuM
    rw [r3', hcl, pm_begin _ hi, pm_no _ _ _ (by omega), pmS i _ _ j2, hcp]
  have hr : ∀ r, r < 4 → (dFuM D) r = (dFuS (u2 D 14 0 0) z).1 r := by
    intro r hr
    unfold dFuM
    rw [r3', hcl, dBeg_r _ (by omega), u2_r _ _ _ (by omega)]
  have gr : ∀ r, r ≠ 5 → (sFuM G) r = (sFuS G z).1 r := by
    intro r hr
    unfold sFuM
    rw [r2, hcl, u2_r _ _ _ hr]
  have g50 : (sFuM G) 5 0 = nI z := by unfold sFuM; rw [r2, hcl, u2_ne _ _ (by omega), f2 5 (by decide) (by decide)]; exact r2
  have g51 : (sFuM G) 5 1 = 1 := by unfold sFuM; rw [u2_eq]
  have d141 : (dFuM D) 14 1 = nI z := by unfold dFuM; rw [r3', hcl, dBeg_r _ (by omega), u2_ne _ _ (by omega), j2 14 (by decide)]; exact r3
  have d142 : (dFuM D) 14 2 = 1 := by unfold dFuM; rw [dBeg_r _ (by omega), u2_eq]
  have hF' : ∀ p, p < z → rowF (sFuM G) (dFuM D) z p := by
    intro p hp
    have := f3 p hp
    unfold rowF at this ⊢
    rw [hr 2 (by omega), gr 3 (by decide), gr 4 (by decide), gr 0 (by decide)]
    exact this
  refine ⟨⟨z, ⟨r1, g50, d141, ?_, ?_, ?_, ?_, by rw [d142, g51], ?_⟩, ?_, fun _ => hF', by rw [hpm 0 (by omega)]; exact mB_begin _ _, by rw [hpm 1 (by omega)]; exact mB_begin _ _⟩, hpm, ?_⟩
  · rw [hr 0 (by omega), j2 0 (by decide), gr 0 (by decide), f2 0 (by decide) (by decide)]; exact r4
  · rw [hr 1 (by omega), j2 1 (by decide), gr 1 (by decide), f2 1 (by decide) (by decide)]; exact r5
  · rw [gr 0 (by decide), f2 0 (by decide) (by decide), gr 1 (by decide), f2 1 (by decide) (by decide)]; exact r6
  · unfold dRows; rw [hr 3 (by omega), j2 3 (by decide)]; exact r7
  · intro p hp w
    by_cases c : p < z
    · obtain ⟨x1, x2⟩ := hF' p c
      rw [x1] at w ⊢
      rcases x2 with ⟨r, hr, x, -⟩ | ⟨x | x, -⟩
      · exact ⟨r, hr, x⟩
      · rw [x] at w; exact absurd w (by decide)
      · rw [x] at w; exact absurd w (by decide)
    · rw [hr 2 (by omega), f4 p (by omega)] at w ⊢
      exact r9 p hp w
  · intro p hp
    rw [gr 2 (by decide), f2 2 (by decide) (by decide), dTg_same (D := u2 D 14 0 0) (by rw [hr 0 (by omega), j2 0 (by decide)]) (by rw [hr 1 (by omega), j2 1 (by decide)]) (by rw [d141, r3])]
    exact hT p hp
  · unfold sFuR dFuR
    rw [r2, r3', hcl, f1]
