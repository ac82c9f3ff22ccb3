/-! THE RELATION: run, begin, which letters are allowed -/
theorem runM_rel {G D : vSt} {z i b : Nat} {zz n : Int32} (hi : i < 2) (hmac : dMac zz = nI i) (hR : relP G D z) (hF : zz = 0 ∨ ∀ p, p < z → rowF G D z p) (hfu : zz = 0 ∨ ¬ D 14 2 = 0) (hm : mB b (pm i D)) (hb : b + 12000 < 2 ^ 30) :
    runOk G zz (sMost n) (pm i D) ∧ runOkD zz (dMac zz) (sMost n) (u2 D 14 0 0) ∧ dRunR D zz n = sRunR G (pm i D) zz n ∧ pm i (dRunM D zz n) = sRunM G (pm i D) zz n ∧ (∀ i', ¬ i = i' → pm i' (dRunM D zz n) = pm i' D) ∧ (∀ r, r = 0 ∨ r = 1 ∨ r = 2 ∨ r = 3 → (dRunM D zz n) r = D r) ∧ (dRunM D zz n) 14 1 = D 14 1 ∧ (dRunM D zz n) 14 2 = D 14 2 ∧ (dRunM D zz n) 14 0 = 0 ∧ mB (b + 12000) (pm i (dRunM D zz n)) := by
  have h3 := sMost_le n
  have hC : dRunC D zz = 0 := by
    unfold dRunC
    by_cases c : zz = 0
    · rw [if_pos c]
    · rw [if_neg c, if_neg (hfu.resolve_left c)]
  have hR' : relP G (u2 D 14 0 0) z := by
    obtain ⟨h1, h2, h3, h4, h5, h6, h7, h8, h9⟩ := hR
    exact ⟨h1, h2, by rw [u2_ne _ _ (by omega)]; exact h3, by rw [u2_r _ _ _ (by omega)]; exact h4, by rw [u2_r _ _ _ (by omega)]; exact h5, h6, by unfold dRows; rw [u2_r _ _ _ (by omega)]; exact h7, by rw [u2_ne _ _ (by omega)]; exact h8, by rw [u2_r _ _ _ (by omega)]; exact h9⟩
  have hp : ∀ i, pm i (u2 D 14 0 0) = pm i D := fun i => pm_no i D 0 (by omega)
  obtain ⟨r1, r2, r3, r4, r5, r6, r7, r8⟩ := run_rel (zz := zz) hi (sMost n) b (u2 D 14 0 0) hR' (hF.imp id (fun w p hp => by unfold rowF; rw [u2_r _ _ _ (by omega)]; exact w p hp)) (by rw [hp]; exact hm) (by omega)
  rw [hp] at r1 r3 r4 r5
  have eM : dRunM D zz n = (dGoL zz (nI i) (sMost n) (u2 D 14 0 0)).1 := by unfold dRunM; rw [hC, if_pos (by decide), hmac]
  have eR : dRunR D zz n = nI (dGoL zz (nI i) (sMost n) (u2 D 14 0 0)).2 := by unfold dRunR; rw [hC, if_pos (by decide), hmac]
  rw [eM, eR]
  refine ⟨r1, by rw [hmac]; exact r2, by rw [r3]; rfl, ?_, fun i' hne => (r6 i' hne).trans (hp i'), fun r hr => (r7 r (by omega)).trans (u2_r _ _ _ (by omega)), ?_, ?_, ?_, r8.mono (by omega)⟩
  · rw [r5]
    unfold sRunM
    by_cases c1 : sMin n 3000 ≤ nI (sGoL G zz (sMost n) (pm i D)).2
    · have := (sMost_iff n (by omega)).mp c1
      rw [if_pos c1, if_neg (fun w => by omega)]
    · have c2 : (sGoL G zz (sMost n) (pm i D)).2 < sMost n := by
        rcases Nat.lt_or_ge (sGoL G zz (sMost n) (pm i D)).2 (sMost n) with q | q
        · exact q
        · exact absurd ((sMost_iff n (by omega)).mpr q) c1
      rw [if_neg c1]
      by_cases c3 : (sGoL G zz (sMost n) (pm i D)).1 4 4 = 0
      · rw [if_pos ⟨c2, c3⟩, if_pos c3]
      · rw [if_neg (fun w => c3 w.2), if_neg c3]
  · rw [r7 14 (by omega), u2_ne _ _ (by omega)]
  · rw [r7 14 (by omega), u2_ne _ _ (by omega)]
  · rw [r7 14 (by omega), u2_eq]
theorem fillF_e (f : Nat → Int32) (v : Int32) : ∀ n k, fillF f v n k = if k < n then v else f k := by
  intro n
  induction n with
  | zero => intro k; rfl
  | succ n ih =>
    intro k
    show upd (fillF f v n) n v k = _
    unfold upd
    by_cases c : k = n
    · rw [if_pos c, if_pos (by omega)]
    · rw [if_neg c, ih k]
      by_cases c2 : k < n
      · rw [if_pos c2, if_pos (by omega)]
      · rw [if_neg c2, if_neg (by omega)]
theorem dB2_r (D : vSt) {r : Nat} (h : r ≠ 11) : ∀ n, (dB2 D n) r = D r := by
  intro n
  induction n with
  | zero => rfl
  | succ n ih => rw [← ih]; exact u2_r _ _ _ h
theorem dB2_11 (D : vSt) : ∀ n, n ≤ 16 → ∀ k, (dB2 D n) 11 k = if k < n then 0 else D 11 k := by
  intro n
  induction n with
  | zero => intro _ k; rfl
  | succ n ih =>
    intro hn k
    show (u2 (dB2 D n) 11 (tn (nI n)) 0) 11 k = _
    rw [u2_e, show tn (nI n) = n from nI_clamp (by omega)]
    by_cases c : k = n
    · rw [if_pos ⟨rfl, c⟩, if_pos (by omega)]
    · rw [if_neg (fun w => c w.2), ih (by omega) k]
      by_cases c2 : k < n
      · rw [if_pos c2, if_pos (by omega)]
      · rw [if_neg c2, if_neg (by omega)]
theorem dB1_r (D : vSt) {r : Nat} (h : r < 4 ∨ 9 < r) : ∀ n, (dB1 D n) r = D r := by
  intro n
  induction n with
  | zero => rfl
  | succ n ih =>
    rw [← ih]
    unfold dB1
    rw [u2_r _ _ _ (by omega), u2_r _ _ _ (by omega), u2_r _ _ _ (by omega), u2_r _ _ _ (by omega), u2_r _ _ _ (by omega), u2_r _ _ _ (by omega)]
    cases n <;> rfl
theorem dB1_z (D : vSt) {r : Nat} (h : 4 ≤ r ∧ r ≤ 9) : ∀ n, n ≤ 2 → ∀ k, k < n → (dB1 D n) r k = 0 := by
  intro n
  induction n with
  | zero => intro _ k hk; omega
  | succ n ih =>
    intro hn k hk
    show (u2 (u2 (u2 (u2 (u2 (u2 (dB1 D n) 4 (tn (nI n)) 0) 5 (tn (nI n)) 0) 6 (tn (nI n)) 0) 7 (tn (nI n)) 0) 8 (tn (nI n)) 0) 9 (tn (nI n)) 0) r k = 0
    rw [show tn (nI n) = n from nI_clamp (by omega)]
    simp only [u2_e]
    by_cases c : k = n
    · subst c
      obtain ⟨h1, h2⟩ := h
      have : r = 4 ∨ r = 5 ∨ r = 6 ∨ r = 7 ∨ r = 8 ∨ r = 9 := by omega
      rcases this with rfl | rfl | rfl | rfl | rfl | rfl <;> simp
    · simp only [c, and_false, if_false]
      exact ih (by omega) k (by omega)
theorem dBeg_r (D : vSt) {r : Nat} (h : r < 4 ∨ r = 10 ∨ 11 < r) : (dBeg D) r = D r := by
  unfold dBeg
  rw [dB2_r _ (by omega), dB1_r _ (by omega)]
theorem dBeg_z (D : vSt) {r k : Nat} (h : 4 ≤ r ∧ r ≤ 9) (hk : k < 2) : (dBeg D) r k = 0 := by
  unfold dBeg
  rw [dB2_r _ (by omega), dB1_z D h 2 (by omega) k hk]
theorem pm_begin {i : Nat} (D : vSt) (hi : i < 2) : pm i (dBeg D) = sBegin (pm i D) := by
  have z : ∀ r, 4 ≤ r ∧ r ≤ 9 → (dBeg D) r i = 0 := fun r hr => dBeg_z D hr hi
  have z11 : ∀ k, k < 16 → (dBeg D) 11 k = 0 := fun k hk => by unfold dBeg; rw [dB2_11 _ 16 (by omega), if_pos hk]
  funext r j
  unfold sBegin
  simp only [u2_e]
  by_cases h0 : r = 0
  · subst h0
    show (if j < 40 then (dBeg D) 10 (40 * i + j) else 0) = if j < 40 then D 10 (40 * i + j) else 0
    rw [dBeg_r D (by omega)]
  by_cases h1 : r = 1
  · subst h1
    show (if j < 8 then (dBeg D) 11 (8 * i + j) else 0) = fillF (pm i D 1) 0 8 j
    rw [fillF_e]
    by_cases c : j < 8
    · rw [if_pos c, if_pos c, z11 _ (by omega)]
    · rw [if_neg c, if_neg c]
      show 0 = (if j < 8 then _ else 0)
      rw [if_neg c]
  by_cases h2 : r = 2
  · subst h2
    show (if j < 60 then (dBeg D) 13 (60 * i + j) else 0) = if j < 60 then D 13 (60 * i + j) else 0
    rw [dBeg_r D (by omega)]
  by_cases h3 : r = 3
  · subst h3
    show (if j < 10 then (dBeg D) 12 (10 * i + j) else 0) = if j < 10 then D 12 (10 * i + j) else 0
    rw [dBeg_r D (by omega)]
  by_cases h4 : r = 4
  · subst h4
    simp only [pm, sZero, z 4 (by omega), z 5 (by omega), z 6 (by omega), z 7 (by omega), z 8 (by omega), z 9 (by omega)]
    by_cases j0 : j = 0
    · simp [j0]
    by_cases j1 : j = 1
    · simp [j1]
    by_cases j2 : j = 2
    · simp [j2]
    by_cases j3 : j = 3
    · simp [j3]
    by_cases j4 : j = 4
    · simp [j4]
    by_cases j5 : j = 5
    · simp [j5]
    simp only [j0, j1, j2, j3, j4, j5, and_false, if_false]
    simp [j0, j1, j2, j3, j4, j5, pm]
  · simp [pm, sZero, h0, h1, h2, h3, h4]
theorem mB_begin (b : Nat) (M : vSt) : mB b (sBegin M) := by
  refine ⟨0, 0, 0, ⟨?_, ?_, ?_⟩, by omega, by omega, by omega⟩ <;> unfold sBegin <;> simp only [u2_e] <;> simp <;> rfl
theorem al_no {c : Int32} (h : ¬ okC c) : alF c 18 0 = 0 := by
  have key : ∀ f i, (∀ j, i ≤ j → j < i + f → lt j ≠ c) → alF c f i = 0 := by
    intro f
    induction f with
    | zero => intro i _; rfl
    | succ f ih =>
      intro i hj
      show (if lt i = c then 1 else alF c f (i + 1)) = 0
      rw [if_neg (hj i (Nat.le_refl _) (by omega))]
      exact ih (i + 1) (fun j h1 h2 => hj j (by omega) (by omega))
  have all : ∀ j, j < 18 → okC (lt j) := by unfold okC; decide
  exact key 18 0 (fun j _ hj e => h (e ▸ all j (by omega)))
theorem al_yes {c : Int32} (h : okC c) : alF c 18 0 = 1 := by
  rcases h with rfl | rfl | rfl | rfl | rfl | rfl | rfl | rfl | rfl | rfl | rfl | rfl | rfl | rfl | rfl | rfl | rfl | rfl <;> decide
theorem il_yes {c : Int32} (h : okC c) : pIsL c = 1 := by
  rcases h with rfl | rfl | rfl | rfl | rfl | rfl | rfl | rfl | rfl | rfl | rfl | rfl | rfl | rfl | rfl | rfl | rfl | rfl <;> decide
theorem il_no {c : Int32} (h : ¬ okC c) : pIsL c = 0 := by
  simp only [okC, not_or] at h
  obtain ⟨h1, h2, h3, h4, h5, h6, h7, h8, h9, h10, h11, h12, h13, h14, h15, h16, h17, h18⟩ := h
  have e : pIsP c = 0 := by unfold pIsP; rw [if_neg h4, if_neg h5, if_neg h6, if_neg h7, if_neg h8, if_neg h9]
  unfold pIsL
  rw [e, if_pos rfl, if_neg h1, if_neg h2, if_neg h3, if_neg h10, if_neg h11, if_neg h12, if_neg h13, if_neg h14, if_neg h15, if_neg h16, if_neg h17, if_neg h18]
theorem in8_iff (n : Int32) : (sIn8 n = 0 ↔ ¬ pOut n 0 7 = 0) ∧ (¬ sIn8 n = 0 → vp_in n 8) := by
  have e8 : (8 : Int32).toInt = 8 := by decide
  have e7 : (7 : Int32).toInt = 7 := by decide
  have e0 : (0 : Int32).toInt = 0 := by decide
  unfold sIn8 pOut
  by_cases c1 : n < 0
  · rw [if_pos c1, if_pos c1]; exact ⟨by decide, fun w => absurd rfl w⟩
  rw [if_neg c1, if_neg c1]
  have h1 := mt Int32.lt_iff_toInt_lt.mpr c1
  by_cases c2 : 8 ≤ n
  · have h2 := Int32.le_iff_toInt_le.mp c2
    have c3 : ¬ n ≤ 7 := fun w => by have := Int32.le_iff_toInt_le.mp w; omega
    rw [if_pos c2, if_neg c3]; exact ⟨by decide, fun w => absurd rfl w⟩
  · have h2 := mt Int32.le_iff_toInt_le.mpr c2
    have c3 : n ≤ 7 := by rw [Int32.le_iff_toInt_le]; omega
    rw [if_neg c2, if_pos c3]; exact ⟨by decide, fun _ => vp_in_iff.mpr ⟨by omega, by omega⟩⟩
theorem allow_iff (c n : Int32) : (sAllow c n = 0 ↔ pFits c n = 0) ∧ (¬ sAllow c n = 0 → okC c ∧ (c = 76 ∨ c = 83 → vp_in n 8)) := by
  obtain ⟨q1, q2⟩ := in8_iff n
  unfold sAllow pFits
  by_cases hc : okC c
  · rw [il_yes hc, if_neg (show ¬ (1 : Int32) = 0 by decide)]
    by_cases c7 : c = 76 ∨ c = 83
    · rw [if_pos c7]
      refine ⟨?_, fun w => ⟨hc, fun _ => q2 w⟩⟩
      rw [q1]
      rcases c7 with rfl | rfl
      · rw [if_pos rfl]
        by_cases c1 : pOut n 0 7 = 0
        · rw [if_pos c1]; exact ⟨fun w => absurd c1 w, fun w => absurd w (by decide)⟩
        · rw [if_neg c1]; exact ⟨fun _ => rfl, fun _ => c1⟩
      · rw [if_neg (by decide), if_pos rfl]
        by_cases c1 : pOut n 0 7 = 0
        · rw [if_pos c1]; exact ⟨fun w => absurd c1 w, fun w => absurd w (by decide)⟩
        · rw [if_neg c1]; exact ⟨fun _ => rfl, fun _ => c1⟩
    · rw [if_neg c7, al_yes hc, if_neg (fun w => c7 (Or.inl w)), if_neg (fun w => c7 (Or.inr w))]
      exact ⟨Iff.rfl, fun _ => ⟨hc, fun w => absurd w c7⟩⟩
  · have c7 : ¬ (c = 76 ∨ c = 83) := fun w => hc (by unfold okC; rcases w with w | w <;> simp [w])
    rw [if_neg c7, al_no hc, il_no hc, if_pos rfl]
    exact ⟨Iff.rfl, fun w => absurd rfl w⟩
theorem ch_id {c : Int32} (h : okC c) : vp_nar .char (pCh c) = c := by
  rcases h with rfl | rfl | rfl | rfl | rfl | rfl | rfl | rfl | rfl | rfl | rfl | rfl | rfl | rfl | rfl | rfl | rfl | rfl <;> decide
