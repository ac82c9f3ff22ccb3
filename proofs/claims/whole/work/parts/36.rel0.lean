/-! THE RELATION, machines: pm i D is machine i of the model's state, read as a machine of the engine's -/
def pm (i : Nat) (D : vSt) : vSt := fun r j =>
  if r = 0 then (if j < 40 then D 10 (40 * i + j) else 0)
  else if r = 1 then (if j < 8 then D 11 (8 * i + j) else 0)
  else if r = 2 then (if j < 60 then D 13 (60 * i + j) else 0)
  else if r = 3 then (if j < 10 then D 12 (10 * i + j) else 0)
  else if r = 4 then (if j = 0 then D 5 i else if j = 1 then D 6 i else if j = 2 then D 7 i else if j = 3 then D 4 i else if j = 4 then D 8 i else if j = 5 then D 9 i else 0) else 0
theorem u2_e (S : vSt) (r k : Nat) (v : Int32) (x y : Nat) : u2 S r k v x y = if x = r ∧ y = k then v else S x y := by
  unfold u2 upd
  by_cases h : x = r
  · rw [if_pos h]
    by_cases h2 : y = k
    · rw [if_pos h2, if_pos ⟨h, h2⟩]
    · rw [if_neg h2, if_neg (fun z => h2 z.2)]
  · rw [if_neg h, if_neg (fun z => h z.1)]
theorem u2_comm (S : vSt) {r k r' k' : Nat} (v v' : Int32) (h : ¬ (r = r' ∧ k = k')) : u2 (u2 S r k v) r' k' v' = u2 (u2 S r' k' v') r k v := by
  funext x y
  rw [u2_e, u2_e, u2_e, u2_e]
  by_cases h1 : x = r ∧ y = k
  · by_cases h2 : x = r' ∧ y = k'
    · exact absurd ⟨h1.1.symm.trans h2.1, h1.2.symm.trans h2.2⟩ h
    · rw [if_neg h2, if_pos h1, if_pos h1]
  · rw [if_neg h1, if_neg h1]
theorem u2_u2 (S : vSt) (r k : Nat) (v w : Int32) : u2 (u2 S r k v) r k w = u2 S r k w := by
  funext x y
  rw [u2_e, u2_e, u2_e]
  by_cases h1 : x = r ∧ y = k
  · rw [if_pos h1, if_pos h1]
  · rw [if_neg h1, if_neg h1, if_neg h1]
theorem u2_self (S : vSt) (r k : Nat) : u2 S r k (S r k) = S := by
  funext x y
  rw [u2_e]
  by_cases h1 : x = r ∧ y = k
  · rw [if_pos h1, h1.1, h1.2]
  · rw [if_neg h1]
theorem u2_ne (S : vSt) {r k : Nat} (v : Int32) {x y : Nat} (h : ¬ (x = r ∧ y = k)) : u2 S r k v x y = S x y := by rw [u2_e, if_neg h]
theorem u2_eq (S : vSt) (r k : Nat) (v : Int32) : u2 S r k v r k = v := by rw [u2_e, if_pos ⟨rfl, rfl⟩]
theorem pm_10 (i : Nat) (D : vSt) {j : Nat} (v : Int32) (hj : j < 40) : pm i (u2 D 10 (40 * i + j) v) = u2 (pm i D) 0 j v := by
  funext r k
  rw [u2_e]
  simp only [pm, u2_e]
  by_cases h : r = 0
  · subst h
    by_cases hk : k = j
    · subst hk; simp [hj]
    · have : ¬ 40 * i + k = 40 * i + j := by omega
      simp [hk]
  · simp [h]
theorem pm_11 (i : Nat) (D : vSt) {j : Nat} (v : Int32) (hj : j < 8) : pm i (u2 D 11 (8 * i + j) v) = u2 (pm i D) 1 j v := by
  funext r k
  rw [u2_e]
  simp only [pm, u2_e]
  by_cases h : r = 1
  · subst h
    by_cases hk : k = j
    · subst hk; simp [hj]
    · simp [hk]
  · simp [h]
theorem pm_13 (i : Nat) (D : vSt) {j : Nat} (v : Int32) (hj : j < 60) : pm i (u2 D 13 (60 * i + j) v) = u2 (pm i D) 2 j v := by
  funext r k
  rw [u2_e]
  simp only [pm, u2_e]
  by_cases h : r = 2
  · subst h
    by_cases hk : k = j
    · subst hk; simp [hj]
    · simp [hk]
  · simp [h]
theorem pm_12 (i : Nat) (D : vSt) {j : Nat} (v : Int32) (hj : j < 10) : pm i (u2 D 12 (10 * i + j) v) = u2 (pm i D) 3 j v := by
  funext r k
  rw [u2_e]
  simp only [pm, u2_e]
  by_cases h : r = 3
  · subst h
    by_cases hk : k = j
    · subst hk; simp [hj]
    · simp [hk]
  · simp [h]
theorem pm_5 (i : Nat) (D : vSt) (v : Int32) : pm i (u2 D 5 i v) = u2 (pm i D) 4 0 v := by
  funext r k
  rw [u2_e]
  simp only [pm, u2_e]
  by_cases h : r = 4
  · subst h
    by_cases hk : k = 0
    · subst hk; simp
    · simp [hk]
  · simp [h]
theorem pm_6 (i : Nat) (D : vSt) (v : Int32) : pm i (u2 D 6 i v) = u2 (pm i D) 4 1 v := by
  funext r k
  rw [u2_e]
  simp only [pm, u2_e]
  by_cases h : r = 4
  · subst h
    by_cases hk : k = 1
    · subst hk; simp
    · simp [hk]
  · simp [h]
theorem pm_7 (i : Nat) (D : vSt) (v : Int32) : pm i (u2 D 7 i v) = u2 (pm i D) 4 2 v := by
  funext r k
  rw [u2_e]
  simp only [pm, u2_e]
  by_cases h : r = 4
  · subst h
    by_cases hk : k = 2
    · subst hk; simp
    · simp [hk]
  · simp [h]
theorem pm_4 (i : Nat) (D : vSt) (v : Int32) : pm i (u2 D 4 i v) = u2 (pm i D) 4 3 v := by
  funext r k
  rw [u2_e]
  simp only [pm, u2_e]
  by_cases h : r = 4
  · subst h
    by_cases hk : k = 3
    · subst hk; simp
    · simp [hk]
  · simp [h]
theorem pm_8 (i : Nat) (D : vSt) (v : Int32) : pm i (u2 D 8 i v) = u2 (pm i D) 4 4 v := by
  funext r k
  rw [u2_e]
  simp only [pm, u2_e]
  by_cases h : r = 4
  · subst h
    by_cases hk : k = 4
    · subst hk; simp
    · simp [hk]
  · simp [h]
theorem pm_9 (i : Nat) (D : vSt) (v : Int32) : pm i (u2 D 9 i v) = u2 (pm i D) 4 5 v := by
  funext r k
  rw [u2_e]
  simp only [pm, u2_e]
  by_cases h : r = 4
  · subst h
    by_cases hk : k = 5
    · subst hk; simp
    · simp [hk]
  · simp [h]
/-- a write that is none of machine i's -/
theorem pm_no (i : Nat) (D : vSt) {r k : Nat} (v : Int32) (h : r = 0 ∨ r = 1 ∨ r = 2 ∨ r = 3 ∨ r = 14) : pm i (u2 D r k v) = pm i D := by
  funext x y
  simp only [pm, u2_e]
  rcases h with rfl | rfl | rfl | rfl | rfl <;> simp
theorem pm_nk (i : Nat) (D : vSt) {r k : Nat} (v : Int32) (hr : r = 4 ∨ r = 5 ∨ r = 6 ∨ r = 7 ∨ r = 8 ∨ r = 9) (h : ¬ k = i) : pm i (u2 D r k v) = pm i D := by
  funext x y
  have h' : ¬ i = k := fun e => h e.symm
  simp only [pm, u2_e]
  rcases hr with rfl | rfl | rfl | rfl | rfl | rfl <;> simp [h']
theorem pm_n10 (i i' : Nat) (D : vSt) {j : Nat} (v : Int32) (hj : j < 40) (h : ¬ i' = i) : pm i (u2 D 10 (40 * i' + j) v) = pm i D := by
  funext x y
  simp only [pm, u2_e]
  by_cases hx : x = 0
  · subst hx
    by_cases hy : y < 40
    · have : ¬ 40 * i + y = 40 * i' + j := by omega
      simp [hy, this]
    · simp [hy]
  · simp [hx]
theorem pm_n11 (i i' : Nat) (D : vSt) {j : Nat} (v : Int32) (hj : j < 8) (h : ¬ i' = i) : pm i (u2 D 11 (8 * i' + j) v) = pm i D := by
  funext x y
  simp only [pm, u2_e]
  by_cases hx : x = 1
  · subst hx
    by_cases hy : y < 8
    · have : ¬ 8 * i + y = 8 * i' + j := by omega
      simp [hy, this]
    · simp [hy]
  · simp [hx]
theorem pm_n13 (i i' : Nat) (D : vSt) {j : Nat} (v : Int32) (hj : j < 60) (h : ¬ i' = i) : pm i (u2 D 13 (60 * i' + j) v) = pm i D := by
  funext x y
  simp only [pm, u2_e]
  by_cases hx : x = 2
  · subst hx
    by_cases hy : y < 60
    · have : ¬ 60 * i + y = 60 * i' + j := by omega
      simp [hy, this]
    · simp [hy]
  · simp [hx]
theorem pm_n12 (i i' : Nat) (D : vSt) {j : Nat} (v : Int32) (hj : j < 10) (h : ¬ i' = i) : pm i (u2 D 12 (10 * i' + j) v) = pm i D := by
  funext x y
  simp only [pm, u2_e]
  by_cases hx : x = 3
  · subst hx
    by_cases hy : y < 10
    · have : ¬ 10 * i + y = 10 * i' + j := by omega
      simp [hy, this]
    · simp [hy]
  · simp [hx]
