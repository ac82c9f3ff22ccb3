/-! THE RELATION: programs; a run -/
def rowF (G D : vSt) (z p : Nat) : Prop := D 2 p = G 3 p ∧ ((∃ r, r < 20 ∧ G 3 p = nI r ∧ G 4 p = nI (rn r) ∧ p + rn r ≤ z ∧ ∀ t, t < rn r → G 0 (p + t) = rl (4 * r + t)) ∨ ((G 3 p = -1 ∨ G 3 p = -2) ∧ G 4 p = 1))
def relP (G D : vSt) (z : Nat) : Prop := z ≤ 80 ∧ G 5 0 = nI z ∧ D 14 1 = nI z ∧ (∀ k, k < 80 → D 0 k = G 0 k) ∧ (∀ k, k < 80 → D 1 k = G 1 k) ∧ (∀ k, k < z → okC (G 0 k) ∧ (G 0 k = 76 ∨ G 0 k = 83 → vp_in (G 1 k) 8)) ∧ dRows D ∧ D 14 2 = G 5 1 ∧ (∀ p, p < 80 → 0 ≤ D 2 p → ∃ r, r < 20 ∧ D 2 p = nI r)
theorem relP.of {G D D' : vSt} {z : Nat} (h : relP G D z) (hr : ∀ r, r = 0 ∨ r = 1 ∨ r = 2 ∨ r = 3 ∨ r = 14 → D' r = D r) : relP G D' z := by
  obtain ⟨h1, h2, h3, h4, h5, h6, h7, h8, h9⟩ := h
  refine ⟨h1, h2, by rw [hr 14 (by omega)]; exact h3, by rw [hr 0 (by omega)]; exact h4, by rw [hr 1 (by omega)]; exact h5, h6, ?_, by rw [hr 14 (by omega)]; exact h8, by rw [hr 2 (by omega)]; exact h9⟩
  unfold dRows
  rw [hr 3 (by omega)]
  exact h7
theorem rowF.of {G D D' : vSt} {z p : Nat} (h : rowF G D z p) (hr : ∀ r, r = 0 ∨ r = 1 ∨ r = 2 ∨ r = 3 ∨ r = 14 → D' r = D r) : rowF G D' z p := by
  unfold rowF
  rw [hr 2 (by omega)]
  exact h
theorem rl_inner4 : ∀ r, r < 20 → ∀ t, t < 4 → t + 1 < rn r → (rl (4 * r + t) ≠ 74 ∧ rl (4 * r + t) ≠ 90 ∧ rl (4 * r + t) ≠ 67 ∧ rl (4 * r + t) ≠ 82 ∧ rl (4 * r + t) ≠ 72) := by decide
theorem rl_inner {r t : Nat} (hr : r < 20) (ht : t + 1 < rn r) : inner (rl (4 * r + t)) := rl_inner4 r hr t (by have := (rn_le r hr).2; omega) ht
theorem z1_toInt {z : Nat} (hz : z ≤ 80) : (nI z - 1).toInt = (z : Int) - 1 := pk_sub_toInt (a := z) (b := 1) (by omega) (by decide)
theorem out_iff {q : Int32} {z : Nat} (hz : z ≤ 80) : pOut q 0 (nI z - 1) = 0 ↔ ∃ p, p < z ∧ q = nI p := by
  have e0 : (0 : Int32).toInt = 0 := by decide
  unfold pOut
  constructor
  · intro h
    by_cases c1 : q < 0
    · rw [if_pos c1] at h; exact absurd h (by decide)
    rw [if_neg c1] at h
    by_cases c2 : q ≤ nI z - 1
    · have h1 := Int32.le_iff_toInt_le.mp c2
      have h2 := mt Int32.lt_iff_toInt_lt.mpr c1
      rw [z1_toInt hz] at h1
      have : vp_in q z := vp_in_iff.mpr ⟨by omega, by omega⟩
      obtain ⟨j, hj, ej⟩ := vp_in_of this (by omega)
      exact ⟨j, hj, ej⟩
    · rw [if_neg c2] at h; exact absurd h (by decide)
  · rintro ⟨p, hp, rfl⟩
    rw [if_neg, if_pos]
    · rw [Int32.le_iff_toInt_le, z1_toInt hz, nI_toInt (by omega)]; omega
    · rw [Int32.lt_iff_toInt_lt, nI_toInt (by omega)]; omega
theorem has_iff {G : vSt} {q : Int32} {z : Nat} (hz : z ≤ 80) (e : G 5 0 = nI z) : ¬ sHas G q = 0 ↔ ∃ p, p < z ∧ q = nI p := by
  have e0 : (0 : Int32).toInt = 0 := by decide
  unfold sHas
  rw [e]
  constructor
  · intro h
    by_cases c : 0 ≤ q ∧ q < nI z
    · have h1 := Int32.le_iff_toInt_le.mp c.1
      have h2 := Int32.lt_iff_toInt_lt.mp c.2
      rw [nI_toInt (by omega)] at h2
      obtain ⟨j, hj, ej⟩ := vp_in_of (vp_in_iff.mpr ⟨by omega, by omega⟩ : vp_in q z) (by omega)
      exact ⟨j, hj, ej⟩
    · rw [if_neg c] at h; exact absurd rfl h
  · rintro ⟨p, hp, rfl⟩
    rw [if_pos ⟨by rw [Int32.le_iff_toInt_le, nI_toInt (by omega)]; omega, nI_lt hp (by omega)⟩]
    decide
theorem out_has {G : vSt} {q : Int32} {z : Nat} (hz : z ≤ 80) (e : G 5 0 = nI z) : pOut q 0 (nI z - 1) = 0 ↔ ¬ sHas G q = 0 := (out_iff hz).trans (has_iff hz e).symm
theorem len_rel {G D : vSt} {z i p : Nat} {zz : Int32} (hi : i < 2) (hR : relP G D z) (hF : zz = 0 ∨ ∀ p, p < z → rowF G D z p) (hp : p < z) (ep : D 4 i = nI p) :
    sLen G zz (nI p) = dLen D zz (nI i) ∧ dLen D zz (nI i) ≤ 4 ∧ rowP G z (dLen D zz (nI i)) p ∧ (¬ zz = 0 → ∃ j : Nat, j ≤ 4 ∧ G 4 p = nI j) := by
  obtain ⟨h1, h2, h3, h4, h5, h6, h7, h8, h9⟩ := hR
  have hcl : (nI p).toNatClampNeg = p := nI_clamp (by omega)
  have one : rowP G z 1 p := ⟨by omega, fun t ht => by
    obtain rfl : t = 0 := by omega
    exact ⟨(h6 p hp).1, (h6 p hp).2, fun w => by omega⟩⟩
  unfold sLen dLen
  rw [ti hi, ep, hcl]
  by_cases cz : zz = 0
  · rw [if_pos cz, if_pos cz]
    exact ⟨rfl, by decide, one, fun w => absurd cz w⟩
  rw [if_neg cz, if_neg cz]
  obtain ⟨d2, hd⟩ := (hF.resolve_left cz) p hp
  rcases hd with ⟨r, hr, g3, g4, hle, hl⟩ | ⟨g3, g4⟩
  · have hrn := rn_le r hr
    have hnn : (0 : Int32) ≤ nI r := nI_le (a := 0) (b := r) (by omega) (by omega)
    rw [d2, g3, g4, if_pos hnn, nI_clamp (by omega), nI_clamp (by omega)]
    refine ⟨rfl, hrn.2, ⟨hle, fun t ht => ⟨(h6 (p + t) (by omega)).1, (h6 (p + t) (by omega)).2, fun w => by rw [hl t ht]; exact rl_inner hr w⟩⟩, fun _ => ⟨rn r, hrn.2, rfl⟩⟩
  · have hneg : ¬ (0 : Int32) ≤ D 2 p := by rw [d2]; rcases g3 with g | g <;> rw [g] <;> decide
    rw [g4, if_neg hneg]
    exact ⟨rfl, by decide, one, fun _ => ⟨1, by decide, rfl⟩⟩
theorem run_rel {G : vSt} {z i : Nat} {zz : Int32} (hi : i < 2) : ∀ (f b : Nat) (D : vSt), relP G D z → (zz = 0 ∨ ∀ p, p < z → rowF G D z p) → mB b (pm i D) → b + 4 * f < 2 ^ 30 →
    runOk G zz f (pm i D) ∧ runOkD zz (nI i) f D ∧ (dGoL zz (nI i) f D).2 = (sGoL G zz f (pm i D)).2 ∧ (sGoL G zz f (pm i D)).2 ≤ f ∧
    pm i (dGoL zz (nI i) f D).1 = (if (sGoL G zz f (pm i D)).2 < f ∧ (sGoL G zz f (pm i D)).1 4 4 = 0 then u2 (sGoL G zz f (pm i D)).1 4 4 4 else (sGoL G zz f (pm i D)).1) ∧
    (∀ i', ¬ i = i' → pm i' (dGoL zz (nI i) f D).1 = pm i' D) ∧ (∀ r, r = 0 ∨ r = 1 ∨ r = 2 ∨ r = 3 ∨ r = 14 → (dGoL zz (nI i) f D).1 r = D r) ∧ mB (b + 4 * f) (pm i (dGoL zz (nI i) f D).1) := by
  intro f
  induction f with
  | zero =>
    intro b D _ _ hm _
    refine ⟨trivial, trivial, rfl, Nat.le_refl _, ?_, fun _ _ => rfl, fun _ _ => rfl, hm⟩
    rw [if_neg (fun w => absurd w.1 (Nat.lt_irrefl _))]
    rfl
  | succ f ih =>
    intro b D hR hF hm hb
    have m3 : pm i D 4 3 = D 4 i := rfl
    have m4 : pm i D 4 4 = D 8 i := rfl
    have es : sGoL G zz (f + 1) (pm i D) = if (pm i D) 4 4 = 0 then (if sHas G ((pm i D) 4 3) = 0 then (pm i D, 0) else ((sGoL G zz f (sRow G (sLen G zz ((pm i D) 4 3)) (pm i D))).1, (sGoL G zz f (sRow G (sLen G zz ((pm i D) 4 3)) (pm i D))).2 + 1)) else (pm i D, 0) := rfl
    have ed : dGoL zz (nI i) (f + 1) D = if D 8 (tn (nI i)) = 0 then (if pOut (D 4 (tn (nI i))) 0 (D 14 1 - 1) = 0 then ((dGoL zz (nI i) f (dRow (nI i) (dLen D zz (nI i)) D)).1, (dGoL zz (nI i) f (dRow (nI i) (dLen D zz (nI i)) D)).2 + 1) else (u2 D 8 (tn (nI i)) 4, 0)) else (D, 0) := rfl
    rw [m3, m4] at es
    rw [ti hi, hR.2.2.1] at ed
    have ok1 : ∀ K : Prop, (D 8 i = 0 → ¬ sHas G (D 4 i) = 0 → vp_in (D 4 i) 80 ∧ (¬ zz = 0 → ∃ j : Nat, j ≤ 4 ∧ G 4 (D 4 i).toNatClampNeg = nI j) ∧ rowOk G (sLen G zz (D 4 i)) (pm i D) ∧ runOk G zz f (sRow G (sLen G zz (D 4 i)) (pm i D))) → K = runOk G zz (f + 1) (pm i D) → K := by
      intro K k1 k2
      rw [k2]
      exact k1
    have ok2 : ∀ K : Prop, (D 8 i = 0 → pOut (D 4 i) 0 (nI z - 1) = 0 → dRows D ∧ vp_in (D 4 i) 80 ∧ (0 ≤ D 2 (D 4 i).toNatClampNeg → ∃ r, r < 20 ∧ D 2 (D 4 i).toNatClampNeg = nI r) ∧ rowOkD (nI i) (dLen D zz (nI i)) D ∧ runOkD zz (nI i) f (dRow (nI i) (dLen D zz (nI i)) D)) → K = runOkD zz (nI i) (f + 1) D → K := by
      intro K k1 k2
      rw [k2]
      unfold runOkD
      rw [ti hi, hR.2.2.1]
      exact k1
    by_cases c8 : D 8 i = 0
    · by_cases co : pOut (D 4 i) 0 (nI z - 1) = 0
      · have ch : ¬ sHas G (D 4 i) = 0 := (out_has hR.1 hR.2.1).mp co
        obtain ⟨p, hp, ep⟩ := (out_iff hR.1).mp co
        have hp80 : p < 80 := by have := hR.1; omega
        have hcl : (nI p).toNatClampNeg = p := nI_clamp (by omega)
        obtain ⟨l1, l2, l3, l4⟩ := len_rel hi hR hF hp ep
        rw [← ep] at l1
        obtain ⟨r1, r2, r3, r4, r5, r6⟩ := row_rel hi hR.1 _ b p D hR.2.2.2.1 hR.2.2.2.2.1 l3 (fun _ => ⟨ep, c8⟩) hm (by omega)
        obtain ⟨i1, i2, i3, i4, i5, i6, i7, i8⟩ := ih (b + 4) (dRow (nI i) (dLen D zz (nI i)) D) (hR.of r5) (hF.imp id (fun w p hp => (w p hp).of r5)) (by rw [r3]; exact r6.mono (by omega)) (by omega)
        rw [r3] at i1 i3 i4 i5
        rw [if_pos c8, if_neg ch, l1] at es
        rw [if_pos c8, if_pos co] at ed
        rw [es, ed]
        refine ⟨ok1 _ (fun _ _ => ?_) rfl, ok2 _ (fun _ _ => ?_) rfl, ?_, ?_, ?_, ?_, ?_, ?_⟩
        · rw [l1]
          exact ⟨by rw [ep]; exact vp_in_nI hp80 (by decide), by rw [ep, hcl]; exact l4, r1, i1⟩
        · exact ⟨hR.2.2.2.2.2.2.1, by rw [ep]; exact vp_in_nI hp80 (by decide), by rw [ep, hcl]; exact hR.2.2.2.2.2.2.2.2 p hp80, r2, i2⟩
        · show _ + 1 = _ + 1
          rw [i3]
        · show _ + 1 ≤ f + 1
          omega
        · show pm i (dGoL zz (nI i) f (dRow (nI i) (dLen D zz (nI i)) D)).1 = _
          rw [i5]
          show (if _ < f ∧ _ then _ else _) = (if _ + 1 < f + 1 ∧ _ then _ else _)
          by_cases cc : (sGoL G zz f (sRow G (dLen D zz (nI i)) (pm i D))).2 < f ∧ (sGoL G zz f (sRow G (dLen D zz (nI i)) (pm i D))).1 4 4 = 0
          · rw [if_pos cc, if_pos ⟨by omega, cc.2⟩]
          · rw [if_neg cc, if_neg (fun w => cc ⟨by omega, w.2⟩)]
        · exact fun i' hne => (i6 i' hne).trans (r4 i' hne)
        · exact fun r hr => (i7 r hr).trans (r5 r hr)
        · rw [show b + 4 * (f + 1) = b + 4 + 4 * f by omega]; exact i8
      · have ch : sHas G (D 4 i) = 0 := Decidable.byContradiction (fun w => co ((out_has hR.1 hR.2.1).mpr w))
        rw [if_pos c8, if_pos ch] at es
        rw [if_pos c8, if_neg co] at ed
        rw [es, ed]
        refine ⟨ok1 _ (fun _ w => absurd ch w) rfl, ok2 _ (fun _ w => absurd w co) rfl, rfl, Nat.zero_le _, ?_, ?_, ?_, ?_⟩
        · show pm i (u2 D 8 i 4) = if 0 < f + 1 ∧ (pm i D) 4 4 = 0 then u2 (pm i D) 4 4 4 else _
          rw [if_pos ⟨by omega, c8⟩, pm_8]
        · exact fun i' hne => pm_nk _ _ _ (by omega) hne
        · exact fun r hr => u2_r _ _ _ (by omega)
        · show mB _ (pm i (u2 D 8 i 4))
          rw [pm_8]
          obtain ⟨h, r, o, e, b5, b6, b7⟩ := hm
          exact ⟨h, r, o, tri_no e _ (by omega), b5, b6, by omega⟩
    · rw [if_neg c8] at es ed
      rw [es, ed]
      refine ⟨ok1 _ (fun w => absurd w c8) rfl, ok2 _ (fun w => absurd w c8) rfl, rfl, Nat.zero_le _, ?_, fun _ _ => rfl, fun _ _ => rfl, hm.mono (by omega)⟩
      show pm i D = if 0 < f + 1 ∧ (pm i D) 4 4 = 0 then _ else pm i D
      rw [if_neg (fun w => c8 w.2)]
