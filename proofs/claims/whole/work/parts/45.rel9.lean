/-! THE RELATION: the start, and the calls that look -/
theorem rel_start {D : vSt} (h3 : dRows D) (h : ∀ r, r ≠ 3 → D r = fun _ => 0) : Rel 0 vZ D ∧ (∀ i, pm i D = vZ) := by
  have hp : ∀ i, pm i D = vZ := by
    intro i
    funext r j
    unfold pm vZ
    rw [h 10 (by decide), h 11 (by decide), h 13 (by decide), h 12 (by decide), h 5 (by decide), h 6 (by decide), h 7 (by decide), h 4 (by decide), h 8 (by decide), h 9 (by decide)]
    simp
  have m : ∀ i, mB 0 (pm i D) := fun i => ⟨0, 0, 0, by rw [hp i]; exact ⟨rfl, rfl, rfl⟩, by omega, by omega, by omega⟩
  refine ⟨⟨0, ⟨by omega, rfl, by rw [h 14 (by decide)]; rfl, fun k _ => by rw [h 0 (by decide)]; rfl, fun k _ => by rw [h 1 (by decide)]; rfl, fun k hk => by omega, h3, by rw [h 14 (by decide)]; rfl, fun p _ _ => ⟨0, by decide, by rw [h 2 (by decide)]; rfl⟩⟩, fun p hp => by omega, fun w => absurd rfl w, m 0, m 1⟩, hp⟩
theorem pm_43 (i : Nat) (D : vSt) : pm i D 4 3 = D 4 i ∧ pm i D 4 0 = D 5 i ∧ pm i D 4 1 = D 6 i ∧ pm i D 4 2 = D 7 i ∧ pm i D 4 4 = D 8 i ∧ pm i D 4 5 = D 9 i := ⟨rfl, rfl, rfl, rfl, rfl, rfl⟩
theorem mac_rel (z : Int32) : ∃ i : Nat, i < 2 ∧ dMac z = nI i ∧ ∀ (α : Type) (x : Nat → α), (if z = 0 then x 0 else x 1) = x i := by
  unfold dMac
  by_cases c : z = 0
  · exact ⟨0, by omega, by rw [if_pos c]; rfl, fun α x => by rw [if_pos c]⟩
  · exact ⟨1, by omega, by rw [if_neg c]; rfl, fun α x => by rw [if_neg c]⟩
theorem about_rel (D : vSt) (z w : Int32) : sFact (if z = 0 then pm 0 D else pm 1 D) w = dFact D z w := by
  obtain ⟨i, hi, em, ei⟩ := mac_rel z
  rw [ei vSt (fun i => pm i D)]
  obtain ⟨p1, p2, p3, p4, p5, p6⟩ := pm_43 i D
  unfold sFact dFact
  rw [em, ti hi, p1, p2, p3, p4, p5, p6]
theorem out_lt {i : Int32} {o : Nat} (ho : o < 2 ^ 30) : pOut i 0 (nI o - 1) = 0 ↔ ¬ i < 0 ∧ i < nI o := by
  have e0 : (0 : Int32).toInt = 0 := by decide
  have e1 : (nI o - 1).toInt = (o : Int) - 1 := pk_sub_toInt (a := o) (b := 1) ho (by decide)
  unfold pOut
  by_cases c1 : i < 0
  · rw [if_pos c1]; exact ⟨fun w => absurd w (by decide), fun w => absurd c1 w.1⟩
  rw [if_neg c1]
  by_cases c2 : i ≤ nI o - 1
  · rw [if_pos c2]
    have := Int32.le_iff_toInt_le.mp c2
    refine ⟨fun _ => ⟨c1, ?_⟩, fun _ => rfl⟩
    rw [Int32.lt_iff_toInt_lt, nI_toInt (by omega)]
    omega
  · rw [if_neg c2]
    have h2 := mt Int32.le_iff_toInt_le.mpr c2
    refine ⟨fun w => absurd w (by decide), fun w => ?_⟩
    have := Int32.lt_iff_toInt_lt.mp w.2
    rw [nI_toInt (by omega)] at this
    omega
theorem in_of {i : Int32} {n : Nat} (hn : n < 2 ^ 30) (h0 : ¬ i < 0) (h1 : i < nI n) : ∃ j : Nat, j < n ∧ i = nI j := by
  have e0 : (0 : Int32).toInt = 0 := by decide
  have a := mt Int32.lt_iff_toInt_lt.mpr h0
  have b := Int32.lt_iff_toInt_lt.mp h1
  rw [nI_toInt (by omega)] at b
  exact vp_in_of (vp_in_iff.mpr ⟨by omega, by omega⟩) (by omega)
theorem mB_i {b : Nat} {G D : vSt} (h : Rel b G D) {i : Nat} (hi : i < 2) : mB b (pm i D) := by
  obtain ⟨z, -, -, -, m0, m1⟩ := h
  rcases (show i = 0 ∨ i = 1 by omega) with rfl | rfl
  · exact m0
  · exact m1
theorem stack_rel {b : Nat} {G D : vSt} (h : Rel b G D) (z x : Int32) : (pOut x 0 (D 5 (tn (dMac z)) - 1) = 0 → vp_in (40 * dMac z + x) 80) ∧
    ((x < 0 ∨ ¬ x < (if z = 0 then pm 0 D else pm 1 D) 4 0) → dStC D z x = 1) ∧ (¬ x < 0 → x < (if z = 0 then pm 0 D else pm 1 D) 4 0 → dStC D z x = 0 ∧ vp_in x 40 ∧ dStR D z x = (if z = 0 then pm 0 D else pm 1 D) 0 x.toNatClampNeg) := by
  obtain ⟨i, hi, em, ei⟩ := mac_rel z
  obtain ⟨hh, r, o, ⟨e5, -, -⟩, b5, -, -⟩ := mB_i h hi
  have e5' : D 5 i = nI hh := e5
  have ho := out_lt (i := x) (o := hh) (by omega)
  rw [ei vSt (fun i => pm i D), e5]
  unfold dStC dStR
  rw [em, ti hi, e5']
  refine ⟨fun w => ?_, fun w => ?_, fun w1 w2 => ?_⟩
  · obtain ⟨j, hj, rfl⟩ := in_of (by omega) (ho.mp w).1 (ho.mp w).2
    rw [show (40 : Int32) = nI 40 from rfl, pk_mul, nI_add]
    exact vp_in_nI (by omega) (by decide)
  · rw [if_neg (fun v => w.elim (ho.mp v).1 (fun u => u (ho.mp v).2))]
  · obtain ⟨j, hj, rfl⟩ := in_of (by omega) w1 w2
    rw [if_pos (ho.mpr ⟨w1, w2⟩), if_pos (ho.mpr ⟨w1, w2⟩), ix40 hi (by omega), nI_clamp (by omega)]
    refine ⟨rfl, vp_in_nI (by omega) (by decide), ?_⟩
    show _ = (if j < 40 then D 10 (40 * i + j) else 0)
    rw [if_pos (by omega)]
theorem local_rel (D : vSt) (z x : Int32) : (pOut x 0 7 = 0 → vp_in (8 * dMac z + x) 16) ∧ ((x < 0 ∨ ¬ x < 8) → dLoC x = 1) ∧ (¬ x < 0 → x < 8 → dLoC x = 0 ∧ vp_in x 8 ∧ dLoR D z x = (if z = 0 then pm 0 D else pm 1 D) 1 x.toNatClampNeg) := by
  obtain ⟨i, hi, em, ei⟩ := mac_rel z
  have ho : pOut x 0 7 = 0 ↔ ¬ x < 0 ∧ x < 8 := out_lt (i := x) (o := 8) (by decide)
  rw [ei vSt (fun i => pm i D)]
  unfold dLoC dLoR
  rw [em]
  refine ⟨fun w => ?_, fun w => ?_, fun w1 w2 => ?_⟩
  · obtain ⟨j, hj, rfl⟩ := in_of (n := 8) (by decide) (ho.mp w).1 (ho.mp w).2
    rw [show (8 : Int32) = nI 8 from rfl, pk_mul, nI_add]
    exact vp_in_nI (by omega) (by decide)
  · rw [if_neg (fun v => w.elim (ho.mp v).1 (fun u => u (ho.mp v).2))]
  · obtain ⟨j, hj, rfl⟩ := in_of (n := 8) (by decide) w1 w2
    rw [if_pos (ho.mpr ⟨w1, w2⟩), if_pos (ho.mpr ⟨w1, w2⟩), ix8 hi (by omega), nI_clamp (by omega)]
    refine ⟨rfl, vp_in_nI (by omega) (by decide), ?_⟩
    show _ = (if j < 8 then D 11 (8 * i + j) else 0)
    rw [if_pos (by omega)]
theorem min60 {o : Nat} {x : Int32} (ho : o < 2 ^ 30) : x < sMin (nI o) 60 ↔ x < nI o ∧ x < 60 := by
  unfold sMin
  by_cases c : (60 : Int32) < nI o
  · rw [if_pos c]; exact ⟨fun w => ⟨Int32.lt_trans w c, w⟩, fun w => w.2⟩
  · rw [if_neg c]
    refine ⟨fun w => ⟨w, ?_⟩, fun w => w.1⟩
    have a := mt Int32.lt_iff_toInt_lt.mpr c
    have b := Int32.lt_iff_toInt_lt.mp w
    rw [Int32.lt_iff_toInt_lt]
    omega
theorem outs_rel {b : Nat} {G D : vSt} (h : Rel b G D) (hb : b < 2 ^ 30) (z x : Int32) : (pOut x 0 (D 7 (tn (dMac z)) - 1) = 0 → x ≤ 59 → vp_in (60 * dMac z + x) 120) ∧
    ((x < 0 ∨ ¬ x < sMin ((if z = 0 then pm 0 D else pm 1 D) 4 2) 60) → dOuC D z x = 1) ∧ (¬ x < 0 → x < sMin ((if z = 0 then pm 0 D else pm 1 D) 4 2) 60 → dOuC D z x = 0 ∧ vp_in x 60 ∧ dOuR D z x = (if z = 0 then pm 0 D else pm 1 D) 2 x.toNatClampNeg) := by
  obtain ⟨i, hi, em, ei⟩ := mac_rel z
  obtain ⟨hh, r, o, ⟨-, -, e7⟩, -, -, b7⟩ := mB_i h hi
  have e7' : D 7 i = nI o := e7
  have ho := out_lt (i := x) (o := o) (by omega)
  have h59 : x ≤ 59 ↔ x < 60 := by
    rw [Int32.le_iff_toInt_le, Int32.lt_iff_toInt_lt, show (59 : Int32).toInt = 59 by decide, show (60 : Int32).toInt = 60 by decide]
    omega
  rw [ei vSt (fun i => pm i D), e7, min60 (by omega)]
  unfold dOuC dOuR
  rw [em, ti hi, e7']
  refine ⟨fun w w2 => ?_, fun w => ?_, fun w1 w2 => ?_⟩
  · obtain ⟨j, hj, rfl⟩ := in_of (n := 60) (by decide) (ho.mp w).1 (h59.mp w2)
    rw [show (60 : Int32) = nI 60 from rfl, pk_mul, nI_add]
    exact vp_in_nI (by omega) (by decide)
  · by_cases c : pOut x 0 (nI o - 1) = 0
    · rw [if_pos c, if_neg (fun v => w.elim (ho.mp c).1 (fun u => u ⟨(ho.mp c).2, h59.mp v⟩))]
    · rw [if_neg c]
  · obtain ⟨j, hj, rfl⟩ := in_of (n := 60) (by decide) w1 w2.2
    have c := ho.mpr ⟨w1, w2.1⟩
    have c2 := h59.mpr w2.2
    rw [if_pos c, if_pos c, if_pos c2, if_pos c2, ix60 hi (by omega), nI_clamp (by omega)]
    refine ⟨rfl, vp_in_nI (by omega) (by decide), ?_⟩
    show _ = (if j < 60 then D 13 (60 * i + j) else 0)
    rw [if_pos (by omega)]
theorem look_rel {b : Nat} {G D : vSt} (h : Rel b G D) (p w : Int32) : (sHas G p = 0 → dLookC D p w = 1) ∧ (¬ sHas G p = 0 → (w < 0 ∨ ¬ w ≤ 3) → dLookC D p w = 1) ∧ (¬ sHas G p = 0 → w = 2 → G 5 1 = 0 → dLookC D p w = 1) ∧ (¬ sHas G p = 0 → ¬ w < 0 → w ≤ 3 → (w = 2 → ¬ G 5 1 = 0) → dLookC D p w = 0 ∧ dLookR D p w = sPFact G p w) := by
  obtain ⟨z, hR, hT, hF, -, -⟩ := h
  obtain ⟨r1, r2, r3, r4, r5, r6, r7, r8, r9⟩ := id hR
  have ho := out_has (q := p) r1 r2
  have hw : pOut w 0 3 = 0 ↔ ¬ w < 0 ∧ w ≤ 3 := by
    unfold pOut
    by_cases c1 : w < 0
    · rw [if_pos c1]; exact ⟨fun w => absurd w (by decide), fun w => absurd c1 w.1⟩
    rw [if_neg c1]
    by_cases c2 : w ≤ 3
    · rw [if_pos c2]; exact ⟨fun _ => ⟨c1, c2⟩, fun _ => rfl⟩
    · rw [if_neg c2]; exact ⟨fun w => absurd w (by decide), fun w => absurd w.2 c2⟩
  unfold dLookR
  unfold dLookC
  rw [r3, r8]
  refine ⟨fun a => by rw [if_neg (fun x => ho.mp x a)], fun a v => ?_, fun a v u => ?_, fun a v1 v2 v3 => ?_⟩
  · rw [if_pos (ho.mpr a), if_neg (fun x => v.elim (hw.mp x).1 (fun u => u (hw.mp x).2))]
  · subst v
    rw [if_pos (ho.mpr a), if_pos (by decide), if_pos rfl, if_pos u]
  · have hC : (if pOut p 0 (nI z - 1) = 0 then (if pOut w 0 3 = 0 then (if w = 2 then (if G 5 1 = 0 then 1 else 0) else 0) else 1) else (1 : Int32)) = 0 := by
      rw [if_pos (ho.mpr a), if_pos (hw.mpr ⟨v1, v2⟩)]
      by_cases c : w = 2
      · rw [if_pos c, if_neg (v3 c)]
      · rw [if_neg c]
    refine ⟨hC, ?_⟩
    rw [if_pos hC]
    obtain ⟨q, hq, rfl⟩ := (has_iff r1 r2).mp a
    have hcl : (nI q).toNatClampNeg = q := nI_clamp (by omega)
    have ed : dTg (u2 D 14 0 0) (nI q) = dTg D (nI q) := dTg_same (u2_r _ _ _ (by omega)) (u2_r _ _ _ (by omega)) (u2_ne _ _ (by omega)) _
    unfold sPFact
    rw [ed, ti' q (by omega), hcl, r4 q (by omega), r5 q (by omega)]
    by_cases c0 : w = 0
    · rw [if_pos c0, if_pos c0]
    rw [if_neg c0, if_neg c0]
    by_cases c1 : w = 1
    · rw [if_pos c1, if_pos c1]
    rw [if_neg c1, if_neg c1]
    by_cases c2 : w = 2
    · rw [if_pos c2, if_pos c2]
      exact (hF (v3 c2) q hq).1
    rw [if_neg c2, if_neg c2]
    by_cases c3 : G 2 q = 0
    · rw [if_pos c3, if_pos ((hT q hq).mp c3)]
    · rw [if_neg c3, if_neg (fun x => c3 ((hT q hq).mpr x))]
theorem pOk_rel {b : Nat} {G D : vSt} (h : Rel b G D) : pOk G ∧ dSz D ∧ dRows D := by
  obtain ⟨z, ⟨r1, r2, r3, -, -, -, r7, -⟩, -⟩ := h
  exact ⟨⟨z, r1, r2⟩, ⟨z, r1, r3⟩, r7⟩
theorem fused_rel {b : Nat} {G D : vSt} (h : Rel b G D) : D 14 2 = G 5 1 := by
  obtain ⟨z, ⟨-, -, -, -, -, -, -, r8, -⟩, -⟩ := h
  exact r8
theorem run_all {b : Nat} {G D : vSt} {zz : Int32} (n : Int32) (h : Rel b G D) (hb : b + 12000 < 2 ^ 30) (hfu : zz = 0 ∨ ¬ G 5 1 = 0) :
    runOk G zz (sMost n) (if zz = 0 then pm 0 D else pm 1 D) ∧ runOkD zz (dMac zz) (sMost n) (u2 D 14 0 0) ∧ dRunR D zz n = sRunR G (if zz = 0 then pm 0 D else pm 1 D) zz n ∧ Rel (b + 12000) G (dRunM D zz n) ∧ pm 0 (dRunM D zz n) = (if zz = 0 then sRunM G (pm 0 D) zz n else pm 0 D) ∧ pm 1 (dRunM D zz n) = (if zz = 0 then pm 1 D else sRunM G (pm 1 D) zz n) ∧ (dRunM D zz n) 14 0 = 0 := by
  obtain ⟨z, hR, hT, hF, m0, m1⟩ := id h
  have hfu' : zz = 0 ∨ ¬ D 14 2 = 0 := by rw [fused_rel h]; exact hfu
  have hF' : zz = 0 ∨ ∀ p, p < z → rowF G D z p := hfu.imp id hF
  by_cases c : zz = 0
  · obtain ⟨a1, a2, a3, a4, a5, a6, a7, a8, a9, a10⟩ := runM_rel (n := n) (i := 0) (by omega) (by unfold dMac; rw [if_pos c]; rfl) hR hF' hfu' m0 hb
    have b1 := a5 1 (by omega)
    rw [if_pos c, if_pos c, if_pos c]
    exact ⟨a1, a2, a3, h.of (a6 0 (by omega)) (a6 1 (by omega)) (a6 2 (by omega)) (a6 3 (by omega)) a7 a8 a10 (by rw [b1]; exact m1.mono (by omega)), a4, b1, a9⟩
  · obtain ⟨a1, a2, a3, a4, a5, a6, a7, a8, a9, a10⟩ := runM_rel (n := n) (i := 1) (by omega) (by unfold dMac; rw [if_neg c]; rfl) hR hF' hfu' m1 hb
    have b1 := a5 0 (by omega)
    rw [if_neg c, if_neg c, if_neg c]
    exact ⟨a1, a2, a3, h.of (a6 0 (by omega)) (a6 1 (by omega)) (a6 2 (by omega)) (a6 3 (by omega)) a7 a8 (by rw [b1]; exact m0.mono (by omega)) a10, b1, a4, a9⟩
