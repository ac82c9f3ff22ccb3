/-! THE RELATION: targets -/
theorem mark_r (G : vSt) (q : Int32) {r : Nat} (h : r ≠ 2) : (sMark G q) r = G r := by
  unfold sMark
  split
  · rfl
  · exact u2_r _ _ _ h
theorem mark_iff {G : vSt} {z p : Nat} (q : Int32) (hz : z ≤ 80) (e : G 5 0 = nI z) (hp : p < z) : ¬ (sMark G q) 2 p = 0 ↔ ¬ G 2 p = 0 ∨ q = nI p := by
  unfold sMark
  by_cases c : sHas G q = 0
  · rw [if_pos c]
    refine ⟨Or.inl, fun w => w.elim id (fun w => ?_)⟩
    exact absurd c ((has_iff hz e).mpr ⟨p, hp, w⟩)
  · rw [if_neg c, u2_e]
    obtain ⟨p', hp', rfl⟩ := (has_iff hz e).mp c
    rw [nI_clamp (by omega)]
    by_cases c2 : p = p'
    · rw [if_pos ⟨rfl, c2⟩]
      exact ⟨fun _ => Or.inr (by rw [c2]), fun _ => by decide⟩
    · rw [if_neg (fun w => c2 w.2)]
      refine ⟨Or.inl, fun w => w.elim id (fun w => ?_)⟩
      exact absurd (nI_i (by omega) (by omega) w).symm c2
theorem clr_r (G : vSt) {r : Nat} (h : r ≠ 2) : ∀ n, (sClr G n) r = G r := by
  intro n
  induction n with
  | zero => rfl
  | succ n ih => rw [← ih]; exact u2_r _ _ _ h
theorem clr_2 (G : vSt) : ∀ n, n ≤ 80 → ∀ p, p < n → (sClr G n) 2 p = 0 := by
  intro n
  induction n with
  | zero => intro _ p hp; omega
  | succ n ih =>
    intro hn p hp
    show (u2 (sClr G n) 2 (nI n).toNatClampNeg 0) 2 p = 0
    rw [u2_e, nI_clamp (by omega)]
    by_cases c : p = n
    · rw [if_pos ⟨rfl, c⟩]
    · rw [if_neg (fun w => c w.2)]; exact ih (by omega) p (by omega)
theorem mk1_r (G : vSt) (i : Nat) {r : Nat} (h : r ≠ 2) : (sMk1 G i) r = G r := by
  unfold sMk1
  split
  · rw [mark_r _ _ h, mark_r _ _ h]
  · split
    · rw [mark_r _ _ h]
    · rfl
theorem mk_r (G : vSt) {r : Nat} (h : r ≠ 2) : ∀ n, (sMk G n) r = G r := by
  intro n
  induction n with
  | zero => rfl
  | succ n ih => rw [← ih]; exact mk1_r _ _ h
/-- instruction k makes place p a target -/
def tgt (G : vSt) (k p : Nat) : Prop := (G 0 k = 67 ∧ (G 1 k = nI p ∨ k + 1 = p)) ∨ ((G 0 k = 74 ∨ G 0 k = 90) ∧ G 1 k = nI p)
theorem mk1_iff {G : vSt} {z p i : Nat} (hz : z ≤ 80) (e : G 5 0 = nI z) (hp : p < z) (hi : i < 80) : ¬ (sMk1 G i) 2 p = 0 ↔ ¬ G 2 p = 0 ∨ tgt G i p := by
  unfold sMk1 tgt
  rw [nI_clamp (by omega)]
  by_cases c1 : G 0 i = 67
  · rw [if_pos c1, mark_iff _ hz (by rw [mark_r _ _ (by omega)]; exact e) hp, mark_iff _ hz e hp]
    have e2 : nI i + 1 = nI p ↔ i + 1 = p := by rw [nI_1]; exact ⟨fun w => nI_i (by omega) (by omega) w, fun w => by rw [w]⟩
    have n1 : ¬ ((G 0 i = 74 ∨ G 0 i = 90) ∧ G 1 i = nI p) := fun w => by rw [c1] at w; exact absurd w.1 (by decide)
    rw [e2]
    constructor
    · rintro ((w | w) | w)
      · exact Or.inl w
      · exact Or.inr (Or.inl ⟨c1, Or.inl w⟩)
      · exact Or.inr (Or.inl ⟨c1, Or.inr w⟩)
    · rintro (w | ⟨-, w | w⟩ | w)
      · exact Or.inl (Or.inl w)
      · exact Or.inl (Or.inr w)
      · exact Or.inr w
      · exact absurd w n1
  · rw [if_neg c1]
    by_cases c2 : G 0 i = 74 ∨ G 0 i = 90
    · rw [if_pos c2, mark_iff _ hz e hp]
      constructor
      · rintro (w | w)
        · exact Or.inl w
        · exact Or.inr (Or.inr ⟨c2, w⟩)
      · rintro (w | w | w)
        · exact Or.inl w
        · exact absurd w.1 c1
        · exact Or.inr w.2
    · rw [if_neg c2]
      exact ⟨Or.inl, fun w => w.elim id (fun w => w.elim (fun w => absurd w.1 c1) (fun w => absurd w.1 c2))⟩
theorem mk_iff {G : vSt} {z p : Nat} (hz : z ≤ 80) (e : G 5 0 = nI z) (hp : p < z) : ∀ n, n ≤ 80 → (¬ (sMk G n) 2 p = 0 ↔ ¬ G 2 p = 0 ∨ ∃ k, k < n ∧ tgt G k p) := by
  intro n
  induction n with
  | zero => intro _; exact ⟨Or.inl, fun w => w.elim id (fun ⟨k, hk, _⟩ => absurd hk (by omega))⟩
  | succ n ih =>
    intro hn
    show ¬ (sMk1 (sMk G n) n) 2 p = 0 ↔ _
    rw [mk1_iff hz (by rw [mk_r _ (by omega)]; exact e) hp (by omega), ih (by omega)]
    have et : tgt (sMk G n) n p ↔ tgt G n p := by unfold tgt; rw [mk_r _ (by omega), mk_r _ (by omega)]
    rw [et]
    constructor
    · rintro ((w | ⟨k, hk, w⟩) | w)
      · exact Or.inl w
      · exact Or.inr ⟨k, by omega, w⟩
      · exact Or.inr ⟨n, by omega, w⟩
    · rintro (w | ⟨k, hk, w⟩)
      · exact Or.inl (Or.inl w)
      · by_cases c : k = n
        · rw [c] at w; exact Or.inr w
        · exact Or.inl (Or.inr ⟨k, by omega, w⟩)
theorem tgts_iff {G : vSt} {z p : Nat} (hz : z ≤ 80) (e : G 5 0 = nI z) (hp : p < z) : ¬ (sTgts G) 2 p = 0 ↔ ∃ k, k < z ∧ tgt G k p := by
  unfold sTgts
  rw [e, nI_clamp (by omega), mk_iff hz (by rw [clr_r _ (by omega)]; exact e) hp z hz, clr_2 G z hz p hp]
  have et : ∀ k, tgt (sClr G z) k p ↔ tgt G k p := fun k => by unfold tgt; rw [clr_r _ (by omega), clr_r _ (by omega)]
  constructor
  · rintro (w | ⟨k, hk, w⟩)
    · exact absurd rfl w
    · exact ⟨k, hk, (et k).mp w⟩
  · rintro ⟨k, hk, w⟩
    exact Or.inr ⟨k, hk, (et k).mpr w⟩
theorem tgts_r (G : vSt) {r : Nat} (h : r ≠ 2) : (sTgts G) r = G r := by
  unfold sTgts
  rw [mk_r _ h, clr_r _ h]
theorem lead_iff (c : Int32) : ¬ pLead c = 0 ↔ c = 74 ∨ c = 90 ∨ c = 67 := by
  unfold pLead
  by_cases c1 : c = 74
  · rw [if_pos c1]; exact ⟨fun _ => Or.inl c1, fun _ => by decide⟩
  rw [if_neg c1]
  by_cases c2 : c = 90
  · rw [if_pos c2]; exact ⟨fun _ => Or.inr (Or.inl c2), fun _ => by decide⟩
  rw [if_neg c2]
  by_cases c3 : c = 67
  · rw [if_pos c3]; exact ⟨fun _ => Or.inr (Or.inr c3), fun _ => by decide⟩
  rw [if_neg c3]
  exact ⟨fun w => absurd rfl w, fun w => absurd w (fun w => w.elim c1 (fun w => w.elim c2 c3))⟩
theorem dTg_iff {D : vSt} {p : Nat} (hp : p < 80) : ∀ n, n ≤ 80 → (¬ dTgF D (nI p) n = 0 ↔ (0 < p ∧ D 0 (p - 1) = 67) ∨ ∃ k, k < n ∧ (D 0 k = 74 ∨ D 0 k = 90 ∨ D 0 k = 67) ∧ D 1 k = nI p) := by
  intro n
  induction n with
  | zero =>
    intro _
    have e0 : (0 : Int32).toInt = 0 := by decide
    show ¬ (if nI p ≤ 0 then (0 : Int32) else if D 0 (nI p - 1).toNatClampNeg = 67 then 1 else 0) = 0 ↔ _
    by_cases c : p = 0
    · subst c
      rw [if_pos (by decide)]
      exact ⟨fun w => absurd rfl w, fun w => w.elim (fun w => absurd w.1 (by omega)) (fun ⟨k, hk, _⟩ => absurd hk (by omega))⟩
    · have c2 : ¬ nI p ≤ 0 := fun w => by
        have := Int32.le_iff_toInt_le.mp w
        rw [nI_toInt (by omega)] at this
        omega
      rw [if_neg c2, show nI p - 1 = nI (p - 1) from pk_sub (b := 1) (by omega), nI_clamp (by omega)]
      by_cases c3 : D 0 (p - 1) = 67
      · rw [if_pos c3]; exact ⟨fun _ => Or.inl ⟨by omega, c3⟩, fun _ => by decide⟩
      · rw [if_neg c3]; exact ⟨fun w => absurd rfl w, fun w => w.elim (fun w => absurd w.2 c3) (fun ⟨k, hk, _⟩ => absurd hk (by omega))⟩
  | succ n ih =>
    intro hn
    have ihn := ih (by omega)
    show ¬ (if dTgF D (nI p) n = 0 then (if pLead (D 0 (tn (nI n))) = 0 then 0 else if D 1 (tn (nI n)) = nI p then 1 else 0) else 1) = 0 ↔ _
    rw [show tn (nI n) = n from nI_clamp (by omega)]
    by_cases c : dTgF D (nI p) n = 0
    · rw [if_pos c]
      have no : ¬ ((0 < p ∧ D 0 (p - 1) = 67) ∨ ∃ k, k < n ∧ (D 0 k = 74 ∨ D 0 k = 90 ∨ D 0 k = 67) ∧ D 1 k = nI p) := fun w => ihn.mpr w c
      by_cases c2 : pLead (D 0 n) = 0
      · rw [if_pos c2]
        refine ⟨fun w => absurd rfl w, fun w => absurd ?_ no⟩
        rcases w with w | ⟨k, hk, w1, w2⟩
        · exact Or.inl w
        · by_cases ck : k = n
          · rw [ck] at w1; exact absurd c2 ((lead_iff _).mpr w1)
          · exact Or.inr ⟨k, by omega, w1, w2⟩
      · rw [if_neg c2]
        by_cases c3 : D 1 n = nI p
        · rw [if_pos c3]
          exact ⟨fun _ => Or.inr ⟨n, by omega, (lead_iff _).mp c2, c3⟩, fun _ => by decide⟩
        · rw [if_neg c3]
          refine ⟨fun w => absurd rfl w, fun w => absurd ?_ no⟩
          rcases w with w | ⟨k, hk, w1, w2⟩
          · exact Or.inl w
          · by_cases ck : k = n
            · rw [ck] at w2; exact absurd w2 c3
            · exact Or.inr ⟨k, by omega, w1, w2⟩
    · rw [if_neg c]
      refine ⟨fun _ => ?_, fun _ => by decide⟩
      rcases ihn.mp c with w | ⟨k, hk, w⟩
      · exact Or.inl w
      · exact Or.inr ⟨k, by omega, w⟩
def relT (G D : vSt) (z : Nat) : Prop := ∀ p, p < z → (G 2 p = 0 ↔ dTg D (nI p) = 0)
theorem relT_of {G D : vSt} {z : Nat} (hz : z ≤ 80) (e : G 5 0 = nI z) (e' : D 14 1 = nI z) (e0 : ∀ k, k < 80 → D 0 k = G 0 k) (e1 : ∀ k, k < 80 → D 1 k = G 1 k) : relT (sTgts G) D z := by
  intro p hp
  have h1 := tgts_iff hz e hp
  have h2 := dTg_iff (D := D) (p := p) (by omega) z hz
  have h3 : (∃ k, k < z ∧ tgt G k p) ↔ ((0 < p ∧ D 0 (p - 1) = 67) ∨ ∃ k, k < z ∧ (D 0 k = 74 ∨ D 0 k = 90 ∨ D 0 k = 67) ∧ D 1 k = nI p) := by
    constructor
    · rintro ⟨k, hk, ⟨w1, w2 | w2⟩ | ⟨w1, w2⟩⟩
      · exact Or.inr ⟨k, hk, by rw [e0 k (by omega)]; exact Or.inr (Or.inr w1), by rw [e1 k (by omega)]; exact w2⟩
      · exact Or.inl ⟨by omega, by rw [e0 _ (by omega), show p - 1 = k by omega]; exact w1⟩
      · exact Or.inr ⟨k, hk, by rw [e0 k (by omega)]; exact w1.elim Or.inl (fun w => Or.inr (Or.inl w)), by rw [e1 k (by omega)]; exact w2⟩
    · rintro (⟨w1, w2⟩ | ⟨k, hk, w1, w2⟩)
      · exact ⟨p - 1, by omega, Or.inl ⟨by rw [← e0 _ (by omega)]; exact w2, Or.inr (by omega)⟩⟩
      · rw [e0 k (by omega)] at w1
        rw [e1 k (by omega)] at w2
        rcases w1 with w | w | w
        · exact ⟨k, hk, Or.inr ⟨Or.inl w, w2⟩⟩
        · exact ⟨k, hk, Or.inr ⟨Or.inr w, w2⟩⟩
        · exact ⟨k, hk, Or.inl ⟨w, Or.inl w2⟩⟩
  have h4 : dTg D (nI p) = dTgF D (nI p) z := by unfold dTg; rw [e', nI_clamp (by omega)]
  rw [h4]
  exact ⟨fun w => Decidable.byContradiction (fun v => h1.mpr (h3.mpr (h2.mp v)) w), fun w => Decidable.byContradiction (fun v => h2.mpr (h3.mp (h1.mp v)) w)⟩
