/-! THE RELATION: fusing -/
/-- row r lies at place q -/
def liesG (G : vSt) (z q r : Nat) : Prop := q + rn r ≤ z ∧ ∀ t, t < rn r → G 0 (q + t) = rl (4 * r + t) ∧ (t = 0 ∨ G 2 (q + t) = 0)
theorem mt_iff {G : vSt} {q r : Nat} (hq : q < 80) : ∀ n i, i + n ≤ 4 → (¬ mtF G q r n i = 0 ↔ ∀ t, i ≤ t → t < i + n → G 0 (q + t) = rl (4 * r + t) ∧ (t = 0 ∨ G 2 (q + t) = 0)) := by
  intro n
  induction n with
  | zero => intro i _; exact ⟨fun _ t h1 h2 => by omega, fun _ => by show ¬ (1 : Int32) = 0; decide⟩
  | succ n ih =>
    intro i hi
    have ih' := ih (i + 1) (by omega)
    show ¬ (if G 0 (nI q + nI i).toNatClampNeg = rl (4 * r + i) then (if i = 0 then mtF G q r n (i + 1) else if G 2 (nI q + nI i).toNatClampNeg = 0 then mtF G q r n (i + 1) else 0) else 0) = 0 ↔ _
    rw [nI_add, nI_clamp (by omega)]
    by_cases c1 : G 0 (q + i) = rl (4 * r + i)
    · rw [if_pos c1]
      by_cases c2 : i = 0 ∨ G 2 (q + i) = 0
      · have e : (if i = 0 then mtF G q r n (i + 1) else if G 2 (q + i) = 0 then mtF G q r n (i + 1) else 0) = mtF G q r n (i + 1) := by
          rcases c2 with c | c
          · rw [if_pos c]
          · split
            · rfl
            · rfl
        rw [e, ih']
        constructor
        · intro w t h1 h2
          by_cases c3 : t = i
          · rw [c3]; exact ⟨c1, c2⟩
          · exact w t (by omega) (by omega)
        · exact fun w t h1 h2 => w t (by omega) (by omega)
      · rw [if_neg (fun w => c2 (Or.inl w)), if_neg (fun w => c2 (Or.inr w))]
        exact ⟨fun w => absurd rfl w, fun w => absurd (w i (Nat.le_refl _) (by omega)).2 c2⟩
    · rw [if_neg c1]
      exact ⟨fun w => absurd rfl w, fun w => absurd (w i (Nat.le_refl _) (by omega)).1 c1⟩
theorem sMt_iff {G : vSt} {z q r : Nat} (hz : z ≤ 80) (e : G 5 0 = nI z) (hq : q < 80) (hr : r < 20) : ¬ sMt G q r = 0 ↔ liesG G z q r := by
  have hrn := rn_le r hr
  unfold sMt liesG
  rw [e, nI_add]
  by_cases c : q + rn r ≤ z
  · rw [if_pos (nI_le c (by omega)), mt_iff hq (rn r) 0 (by omega)]
    exact ⟨fun w => ⟨c, fun t ht => w t (by omega) (by omega)⟩, fun w t _ ht => w.2 t (by omega)⟩
  · rw [if_neg (nI_ge (by omega) (by omega))]
    exact ⟨fun w => absurd rfl w, fun w => absurd w.1 c⟩
/-- a row's letters in common, at the model -/
def comD (D : vSt) (z q r t : Nat) : Prop := q + t < z ∧ D 0 (q + t) = rm (4 * r + t) ∧ (t = 0 ∨ dTg D (nI (q + t)) = 0)
theorem alk_iff {D : vSt} {z q r : Nat} (hz : z ≤ 80) (e : D 14 1 = nI z) (hrw : dRows D) (hq : q < 80) (hr : r < 20) : ∀ f n, n + f ≤ 4 → n ≤ alkF D r q f n ∧ alkF D r q f n ≤ n + f ∧ (∀ t, n ≤ t → t < alkF D r q f n → comD D z q r t) ∧ (alkF D r q f n < n + f → ¬ comD D z q r (alkF D r q f n)) := by
  intro f
  induction f with
  | zero => intro n _; exact ⟨Nat.le_refl n, Nat.le_refl n, fun t h1 h2 => absurd h2 (by show ¬ t < n; omega), fun w => absurd w (by show ¬ n < n; omega)⟩
  | succ f ih =>
    intro n hn
    obtain ⟨i1, i2, i3, i4⟩ := ih (n + 1) (by omega)
    have eq : alkF D r q (f + 1) n = if D 14 1 ≤ nI q + nI n then n else if D 0 (nI q + nI n).toNatClampNeg = D 3 (4 * nI r + nI n).toNatClampNeg then (if n = 0 then alkF D r q f (n + 1) else if dTg D (nI q + nI n) = 0 then alkF D r q f (n + 1) else n) else n := rfl
    have e3 : D 3 (4 * nI r + nI n).toNatClampNeg = rm (4 * r + n) := by
      rw [show (4 : Int32) = nI 4 from rfl, pk_mul, nI_add, nI_clamp (by omega)]
      exact hrw _ (by omega)
    rw [e3, e, nI_add, nI_clamp (by omega)] at eq
    by_cases c : comD D z q r n
    · obtain ⟨c1, c2, c3⟩ := c
      have eq2 : alkF D r q (f + 1) n = alkF D r q f (n + 1) := by
        rw [eq, if_neg (nI_ge c1 (by omega)), if_pos c2]
        rcases c3 with c3 | c3
        · rw [if_pos c3]
        · split
          · rfl
          · rfl
      rw [eq2]
      refine ⟨by omega, by omega, fun t h1 h2 => ?_, fun w => i4 (by omega)⟩
      by_cases ct : t = n
      · rw [ct]; exact ⟨c1, c2, c3⟩
      · exact i3 t (by omega) h2
    · have eq2 : alkF D r q (f + 1) n = n := by
        rw [eq]
        by_cases c1 : q + n < z
        · rw [if_neg (nI_ge c1 (by omega))]
          by_cases c2 : D 0 (q + n) = rm (4 * r + n)
          · rw [if_pos c2, if_neg (fun w => c ⟨c1, c2, Or.inl w⟩), if_neg (fun w => c ⟨c1, c2, Or.inr w⟩)]
          · rw [if_neg c2]
        · rw [if_pos (nI_le (by omega) (by omega))]
      rw [eq2]
      exact ⟨Nat.le_refl _, by omega, fun t h1 h2 => by omega, fun _ => c⟩
theorem rm_rl {r t : Nat} (hr : r < 20) (ht : t < rn r) : rm (4 * r + t) = rl (4 * r + t) := by
  unfold rm
  rw [if_neg (rn_in r hr t ht)]
theorem lies_iff {G D : vSt} {z q r : Nat} (hz : z ≤ 80) (e : D 14 1 = nI z) (hrw : dRows D) (hq : q < 80) (hr : r < 20) (e0 : ∀ k, k < 80 → D 0 k = G 0 k) (hok : ∀ k, k < z → okC (G 0 k)) (hT : relT G D z) : dAlk D r q = rn r ↔ liesG G z q r := by
  obtain ⟨i1, i2, i3, i4⟩ := alk_iff hz e hrw hq hr 4 0 (by omega)
  have hrn := rn_le r hr
  have one : ∀ t, t < rn r → (comD D z q r t ↔ (q + t < z ∧ G 0 (q + t) = rl (4 * r + t) ∧ (t = 0 ∨ G 2 (q + t) = 0))) := by
    intro t ht
    unfold comD
    rw [rm_rl hr ht]
    by_cases c : q + t < z
    · rw [e0 _ (by omega), hT _ c]
    · exact ⟨fun w => absurd w.1 c, fun w => absurd w.1 c⟩
  unfold dAlk
  constructor
  · intro w
    rw [w] at i3
    refine ⟨?_, fun t ht => ((one t ht).mp (i3 t (by omega) ht)).2⟩
    have := ((one (rn r - 1) (by omega)).mp (i3 (rn r - 1) (by omega) (by omega))).1
    omega
  · rintro ⟨w1, w2⟩
    have all : ∀ t, t < rn r → comD D z q r t := fun t ht => (one t ht).mpr ⟨by omega, w2 t ht⟩
    rcases Nat.lt_trichotomy (alkF D r q 4 0) (rn r) with c | c | c
    · exact absurd (all _ c) (i4 (by omega))
    · exact c
    · exfalso
      obtain ⟨k1, k2, -⟩ := i3 (rn r) (by omega) c
      rw [rm_out r hr (by omega), e0 _ (by omega)] at k2
      have := hok _ k1
      rw [k2] at this
      exact absurd this (by unfold okC; decide)
/-- the longest, and of these the first -/
def best (P : Nat → Prop) (lo hi : Nat) (x : Int32) : Prop := (x = -1 ∧ ∀ r, lo ≤ r → r < hi → ¬ P r) ∨ ∃ s, lo ≤ s ∧ s < hi ∧ x = nI s ∧ P s ∧ ∀ r, lo ≤ r → r < hi → P r → rn r < rn s ∨ (rn r = rn s ∧ s ≤ r)
theorem best_one {P Q : Nat → Prop} {x y : Int32} (h : ∀ r, r < 20 → (P r ↔ Q r)) (hx : best P 0 20 x) (hy : best Q 0 20 y) : x = y := by
  rcases hx with ⟨rfl, hx⟩ | ⟨s, -, hs, rfl, ps, hx⟩
  · rcases hy with ⟨rfl, -⟩ | ⟨s, -, hs, -, qs, -⟩
    · rfl
    · exact absurd ((h s hs).mpr qs) (hx s (by omega) hs)
  · rcases hy with ⟨-, hy⟩ | ⟨s', -, hs', rfl, qs, hy⟩
    · exact absurd ((h s hs).mp ps) (hy s (by omega) hs)
    · have a := hx s' (by omega) hs' ((h s' hs').mpr qs)
      have b := hy s (by omega) hs ((h s hs).mp ps)
      rw [show s = s' by omega]
theorem lg_best {G : vSt} {z q : Nat} (hz : z ≤ 80) (e : G 5 0 = nI z) (hq : q < 80) : ∀ n r b bl, r + n = 20 → ((b = -1 ∧ bl = 0 ∧ ∀ r', r' < r → ¬ liesG G z q r') ∨ ∃ s, s < r ∧ b = nI s ∧ bl = nI (rn s) ∧ liesG G z q s ∧ ∀ r', r' < r → liesG G z q r' → rn r' < rn s ∨ (rn r' = rn s ∧ s ≤ r')) → best (liesG G z q) 0 20 (lgF G q n r b bl) := by
  intro n
  induction n with
  | zero =>
    intro r b bl hr h
    obtain rfl : r = 20 := by omega
    rcases h with ⟨h1, -, h2⟩ | ⟨s, h1, h2, -, h3, h4⟩
    · exact Or.inl ⟨h1, fun r' _ hr' => h2 r' hr'⟩
    · exact Or.inr ⟨s, by omega, h1, h2, h3, fun r' _ hr' => h4 r' hr'⟩
  | succ n ih =>
    intro r b bl hr h
    have hr20 : r < 20 := by omega
    have hrn := rn_le r hr20
    have hM := sMt_iff (r := r) hz e hq hr20
    have hcl : (nI q).toNatClampNeg = q := nI_clamp (by omega)
    show best (liesG G z q) 0 20 (if rl (4 * r) = G 0 (nI q).toNatClampNeg then (if nI (rn r) ≤ bl then lgF G q n (r + 1) b bl else if sMt G q r = 0 then lgF G q n (r + 1) b bl else lgF G q n (r + 1) (nI r) (nI (rn r))) else lgF G q n (r + 1) b bl)
    rw [hcl]
    have skip : ¬ liesG G z q r → best (liesG G z q) 0 20 (lgF G q n (r + 1) b bl) := by
      intro no
      refine ih (r + 1) b bl (by omega) ?_
      rcases h with ⟨h1, h0, h2⟩ | ⟨s, h1, h2, h0, h3, h4⟩
      · refine Or.inl ⟨h1, h0, fun r' hr' => ?_⟩
        by_cases c : r' = r
        · rw [c]; exact no
        · exact h2 r' (by omega)
      · refine Or.inr ⟨s, by omega, h2, h0, h3, fun r' hr' w => ?_⟩
        by_cases c : r' = r
        · rw [c] at w; exact absurd w no
        · exact h4 r' (by omega) w
    by_cases c1 : rl (4 * r) = G 0 q
    · rw [if_pos c1]
      by_cases c2 : nI (rn r) ≤ bl
      · rw [if_pos c2]
        rcases h with ⟨h1, h0, h2⟩ | ⟨s, h1, h2, h0, h3, h4⟩
        · rw [h0] at c2
          exact absurd c2 (nI_ge (a := 0) (by omega) (by omega))
        · have hsn := rn_le s (by omega)
          have : rn r ≤ rn s := by
            rw [h0] at c2
            exact (nI_leI (by omega) (by omega)).mp c2
          refine ih (r + 1) b bl (by omega) (Or.inr ⟨s, by omega, h2, h0, h3, fun r' hr' w => ?_⟩)
          by_cases c : r' = r
          · rw [c]; omega
          · exact h4 r' (by omega) w
      · rw [if_neg c2]
        by_cases c3 : sMt G q r = 0
        · rw [if_pos c3]
          exact skip (fun w => hM.mpr w c3)
        · rw [if_neg c3]
          refine ih (r + 1) _ _ (by omega) (Or.inr ⟨r, by omega, rfl, rfl, hM.mp c3, fun r' hr' w => ?_⟩)
          by_cases c : r' = r
          · rw [c]; omega
          · rcases h with ⟨h1, h0, h2⟩ | ⟨s, h1, h2, h0, h3, h4⟩
            · exact absurd w (h2 r' (by omega))
            · have hsn := rn_le s (by omega)
              have : rn s < rn r := by
                rcases Nat.lt_or_ge (rn s) (rn r) with k | k
                · exact k
                · rw [h0] at c2; exact absurd (nI_le k (by omega)) c2
              have := h4 r' (by omega) w
              omega
    · rw [if_neg c1]
      exact skip (fun w => c1 (w.2 0 (by omega)).1.symm)
theorem ra_best {D : vSt} {q : Nat} : ∀ n b, n ≤ 20 → best (fun r => dAlk D r q = rn r) n 20 b → best (fun r => dAlk D r q = rn r) 0 20 (dRaF D q n b) := by
  intro n
  induction n with
  | zero => intro b _ h; exact h
  | succ r ih =>
    intro b hr h
    have hrn := rn_le r (by omega)
    show best _ 0 20 (if dAlk D r q = rn r then (if b = -1 then dRaF D q r (nI r) else if nI (rn r) < nI (rn b.toNatClampNeg) then dRaF D q r b else dRaF D q r (nI r)) else dRaF D q r b)
    by_cases c1 : dAlk D r q = rn r
    · rw [if_pos c1]
      rcases h with ⟨h1, h2⟩ | ⟨s, h0, h1, h2, h3, h4⟩
      · rw [if_pos h1]
        refine ih _ (by omega) (Or.inr ⟨r, Nat.le_refl _, by omega, rfl, c1, fun r' w1 w2 w3 => ?_⟩)
        by_cases c : r' = r
        · rw [c]; omega
        · exact absurd w3 (h2 r' (by omega) w2)
      · have hsn := rn_le s h1
        have nb : ¬ b = -1 := by
          rw [h2]; intro w
          have := congrArg Int32.toInt w
          rw [nI_toInt (by omega), show (-1 : Int32).toInt = -1 by decide] at this
          omega
        rw [if_neg nb, h2, nI_clamp (by omega)]
        by_cases c2 : nI (rn r) < nI (rn s)
        · rw [if_pos c2]
          have : rn r < rn s := (nI_ltI (by omega) (by omega)).mp c2
          refine ih _ (by omega) (Or.inr ⟨s, by omega, h1, rfl, h3, fun r' w1 w2 w3 => ?_⟩)
          by_cases c : r' = r
          · rw [c]; omega
          · exact h4 r' (by omega) w2 w3
        · rw [if_neg c2]
          have : rn s ≤ rn r := by
            rcases Nat.lt_or_ge (rn r) (rn s) with k | k
            · exact absurd (nI_lt k (by omega)) c2
            · exact k
          refine ih _ (by omega) (Or.inr ⟨r, Nat.le_refl _, by omega, rfl, c1, fun r' w1 w2 w3 => ?_⟩)
          by_cases c : r' = r
          · rw [c]; omega
          · have := h4 r' (by omega) w2 w3
            omega
    · rw [if_neg c1]
      refine ih _ (by omega) ?_
      rcases h with ⟨h1, h2⟩ | ⟨s, h0, h1, h2, h3, h4⟩
      · refine Or.inl ⟨h1, fun r' w1 w2 => ?_⟩
        by_cases c : r' = r
        · rw [c]; exact c1
        · exact h2 r' (by omega) w2
      · refine Or.inr ⟨s, by omega, h1, h2, h3, fun r' w1 w2 w3 => ?_⟩
        by_cases c : r' = r
        · rw [c] at w3; exact absurd w3 c1
        · exact h4 r' (by omega) w2 w3
theorem long_rel {G D : vSt} {z q : Nat} (hz : z ≤ 80) (e : G 5 0 = nI z) (e' : D 14 1 = nI z) (hrw : dRows D) (hq : q < z) (e0 : ∀ k, k < 80 → D 0 k = G 0 k) (hok : ∀ k, k < z → okC (G 0 k)) (hT : relT G D z) : sLong G q = dRa D q ∧ best (liesG G z q) 0 20 (sLong G q) := by
  have h1 : best (liesG G z q) 0 20 (sLong G q) := lg_best hz e (by omega) 20 0 (-1) 0 rfl (Or.inl ⟨rfl, rfl, fun r' w => by omega⟩)
  have h2 : best (fun r => dAlk D r q = rn r) 0 20 (dRa D q) := ra_best 20 (-1) (Nat.le_refl _) (Or.inl ⟨rfl, fun r w1 w2 => by omega⟩)
  exact ⟨best_one (fun r hr => (lies_iff hz e' hrw (by omega) hr e0 hok hT).symm) h1 h2, h1⟩
theorem ti' (n : Nat) (h : n < 80) : tn (nI n) = n := nI_clamp (by omega)
/-- the loop of fuse: what both have done behind the first n places -/
theorem fu_rel {G D : vSt} {z : Nat} (hz : z ≤ 80) (e : G 5 0 = nI z) (e' : D 14 1 = nI z) (hrw : dRows D) (e0 : ∀ k, k < 80 → D 0 k = G 0 k) (hok : ∀ k, k < z → okC (G 0 k)) (hT : relT G D z) : ∀ n, n ≤ z →
    (sFuS G n).2 = (dFuS D n).2 ∧ (∀ r, r ≠ 3 → r ≠ 4 → (sFuS G n).1 r = G r) ∧ (∀ p, p < n → rowF (sFuS G n).1 (dFuS D n).1 z p) ∧ (∀ p, n ≤ p → (dFuS D n).1 2 p = D 2 p) := by
  intro n
  induction n with
  | zero => intro _; exact ⟨rfl, fun _ _ _ => rfl, fun p hp => by omega, fun _ _ => rfl⟩
  | succ n ih =>
    intro hn
    obtain ⟨i1, i2, i3, i4⟩ := ih (by omega)
    have j2 : ∀ r, r ≠ 2 → (dFuS D n).1 r = D r := fun r hr => dFuS_r D r hr n
    have hT' : relT (sFuS G n).1 (dFuS D n).1 z := by
      intro p hp
      have h0 : (dFuS D n).1 0 = D 0 := j2 0 (by decide)
      have h1 : (dFuS D n).1 1 = D 1 := j2 1 (by decide)
      have h14 : (dFuS D n).1 14 = D 14 := j2 14 (by decide)
      have key : ∀ k, dTgF (dFuS D n).1 (nI p) k = dTgF D (nI p) k := by
        intro k
        induction k with
        | zero => show (if _ then _ else if _ then _ else _) = (if _ then _ else if _ then _ else _); rw [h0]
        | succ k ihk => show (if _ then (if _ then _ else if _ then _ else _) else _) = (if _ then (if _ then _ else if _ then _ else _) else _); rw [ihk, h0, h1]
      have kt : dTg (dFuS D n).1 (nI p) = dTg D (nI p) := by unfold dTg; rw [h14, key]
      rw [kt, i2 2 (by decide) (by decide)]
      exact hT p hp
    obtain ⟨k1, k2⟩ := long_rel (G := (sFuS G n).1) (D := (dFuS D n).1) hz (by rw [i2 5 (by decide) (by decide)]; exact e) (by rw [j2 14 (by decide)]; exact e') (by unfold dRows; rw [j2 3 (by decide)]; exact hrw) (show n < z by omega) (fun k hk => by rw [j2 0 (by decide), i2 0 (by decide) (by decide)]; exact e0 k hk) (fun k hk => by rw [i2 0 (by decide) (by decide)]; exact hok k hk) hT'
    have hcl : (nI n).toNatClampNeg = n := nI_clamp (by omega)
    have es : sFuS G (n + 1) = sFu1 (sFuS G n) n := rfl
    have ed : dFuS D (n + 1) = dFu1 (dFuS D n) n := rfl
    have keep : ∀ (x y v : Int32) (p : Nat), p < n → rowF (sFuS G n).1 (dFuS D n).1 z p → rowF (u2 (u2 (sFuS G n).1 3 n x) 4 n y) (u2 (dFuS D n).1 2 n v) z p := by
      intro x y v p hp w
      unfold rowF at w ⊢
      rw [u2_ne _ _ (by omega), u2_ne _ _ (by omega), u2_ne _ _ (by omega), u2_ne _ _ (by omega), u2_r _ _ _ (by omega), u2_r _ _ _ (by omega)]
      rw [u2_r _ _ _ (by omega)]
      exact w
    rw [es, ed]
    unfold sFu1 dFu1
    rw [i1, hcl, ti' n (by omega)]
    by_cases c : (dFuS D n).2.2 ≤ 0
    · rw [if_pos c, if_pos c, ← k1]
      refine ⟨?_, ?_, ?_, ?_⟩
      · show ((dFuS D n).2.1 + 1, _) = ((dFuS D n).2.1 + 1, _)
        rw [u2_eq]
        congr 1
        unfold sFl
        by_cases c1 : sLong (sFuS G n).1 n = -1
        · rw [if_pos c1, if_pos c1]; decide
        · rw [if_neg c1, if_neg c1]
      · intro r h3 h4
        show (u2 (u2 _ 3 n _) 4 n _) r = _
        rw [u2_r _ _ _ h4, u2_r _ _ _ h3]
        exact i2 r h3 h4
      · intro p hp
        by_cases cp : p = n
        · subst cp
          show rowF (u2 (u2 _ 3 p _) 4 p _) (u2 _ 2 p _) z p
          unfold rowF
          rw [u2_eq, u2_ne _ _ (by omega), u2_eq, u2_eq]
          refine ⟨rfl, ?_⟩
          rcases k2 with ⟨x1, -⟩ | ⟨s, -, hs, x1, x2, -⟩
          · right
            refine ⟨Or.inl x1, ?_⟩
            unfold sFl; rw [if_pos x1]
          · left
            refine ⟨s, hs, x1, ?_, x2.1, fun t ht => ?_⟩
            · have nb : ¬ sLong (sFuS G p).1 p = -1 := by
                rw [x1]; intro w
                have := congrArg Int32.toInt w
                rw [nI_toInt (by omega), show (-1 : Int32).toInt = -1 by decide] at this
                omega
              unfold sFl
              rw [if_neg nb, x1, nI_clamp (by omega)]
            · rw [u2_ne _ _ (by omega), u2_ne _ _ (by omega)]
              exact (x2.2 t ht).1
        · exact keep _ _ _ p (by omega) (i3 p (by omega))
      · intro p hp
        show (u2 _ 2 n _) 2 p = _
        rw [u2_ne _ _ (by omega)]
        exact i4 p (by omega)
    · rw [if_neg c, if_neg c]
      refine ⟨?_, ?_, ?_, ?_⟩
      · show ((dFuS D n).2.1, _) = ((dFuS D n).2.1, _)
        rw [m1_eq]
      · intro r h3 h4
        show (u2 (u2 _ 3 n _) 4 n _) r = _
        rw [u2_r _ _ _ h4, u2_r _ _ _ h3]
        exact i2 r h3 h4
      · intro p hp
        by_cases cp : p = n
        · subst cp
          show rowF (u2 (u2 _ 3 p _) 4 p _) (u2 _ 2 p _) z p
          unfold rowF
          rw [u2_eq, u2_ne _ _ (by omega), u2_eq, u2_eq]
          exact ⟨rfl, Or.inr ⟨Or.inr rfl, rfl⟩⟩
        · exact keep _ _ _ p (by omega) (i3 p (by omega))
      · intro p hp
        show (u2 _ 2 n _) 2 p = _
        rw [u2_ne _ _ (by omega)]
        exact i4 p (by omega)
