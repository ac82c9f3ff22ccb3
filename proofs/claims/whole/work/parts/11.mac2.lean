/-- Arrays.fill(int[], int) -/
theorem c_Arr_fill (l : Launch) (Dg : va_G) (k : Nat → ClassId) (q n : Nat) (f : Nat → Int32) (v : Int32) (H : Heap) (hn : n < 2 ^ 31) (hP : va_P Dg classes [(q, .inl (k 0, n, .inl f))] H) (hD : va_D (fun _ => True) [(q, .inl (k 0, n, .inl f))]) : kMv l y_Arr_fill b_Arr_fill 4 0 0 [.ref q, .int v] H (va_K Dg classes (kTy k)) Dg [(q, .inl (k 0, n, .inl f))] [(q, .inl (k 0, n, .inl (fillF f v n)))] := by
  refine k_of (by decide) (Nat.le_of_ble_eq_true rfl) ?_
  intro p e s m below meth cd ls F hlocks hret hname hh hK hl
  subst hh
  obtain ⟨hx, hb, hml, hown, hT⟩ := id F
  have hD := hD.self (sz := s.heap.size)
  have hS : va_S (va_A [(q, .inl (k 0, n, .inl f))] s.heap.size) s.heap s.heap [] := va_S.rf
  have hl : lv_has ls 4 [(0, .ref q), (1, .int v)] := hl
  refine lv_iconst (v := 0) hx hb d_Arr_fill_0 (by decide) ?_
  refine lv_istore_n hx hb d_Arr_fill_1 rfl hl (by decide) rfl (fun ls hl => ?_)
  have hl : lv_has ls 4 [(2, .int 0), (0, .ref q), (1, .int v)] := hl
  refine lv_aload_n hx hb d_Arr_fill_2 rfl (lv_at hl 1 rfl) ?_
  refine va_alen (v := nI n) hx hb hK hP 0 0 rfl (ty := .int) rfl rfl d_Arr_fill_3 ?_
  refine lv_istore_n hx hb d_Arr_fill_4 rfl hl (by decide) rfl (fun ls hl => ?_)
  have hl : lv_has ls 4 [(3, .int (nI n)), (2, .int (nI 0)), (0, .ref q), (1, .int v)] := hl
  refine k_while (σ := Nat) (fun j i H locs ls => i + j = n ∧ lv_has ls 4 [(3, .int (nI n)), (2, .int (nI i)), (0, .ref q), (1, .int v)] ∧ va_P Dg classes [(q, .inl (k 0, n, .inl (fillF f v i)))] H ∧ va_D (va_A [(q, .inl (k 0, n, .inl f))] s.heap.size) [(q, .inl (k 0, n, .inl (fillF f v i)))] ∧ va_S (va_A [(q, .inl (k 0, n, .inl f))] s.heap.size) s.heap H locs) ?_ n 0 ⟨by omega, hl, hP, hD, hS⟩
  rintro j i H locs ls ⟨hij, hl, hP, hD, hS⟩ ih
  refine lv_iload_n hx hb d_Arr_fill_5 rfl (lv_at hl 1 rfl) ?_
  refine lv_iload_n hx hb d_Arr_fill_6 rfl (lv_at hl 0 rfl) ?_
  refine lv_icmp_ge (tgt := 20) hx hb d_Arr_fill_7 (by decide) (fun h7 => ?_) (fun h7 => ?_)
  · have hi : n ≤ i := (nI_leI hn (by omega)).mp h7
    have hi : i = n := by omega
    subst hi
    exact km_v F hlocks hret hP hD hS d_Arr_fill_20 rfl
  · have hi : i < n := by
      rcases Nat.lt_or_ge i n with z | z
      · exact z
      · exact absurd (nI_le z (by omega)) h7
    refine lv_aload_n hx hb d_Arr_fill_10 rfl (lv_at hl 2 rfl) ?_
    refine lv_iload_n hx hb d_Arr_fill_11 rfl (lv_at hl 1 rfl) ?_
    refine lv_iload_n hx hb d_Arr_fill_12 rfl (lv_at hl 3 rfl) ?_
    refine va_iast hx hb hK hP hD hS 0 0 rfl rfl (vp_in_nI hi hn) d_Arr_fill_13 (fun H locs hP hD hS => ?_)
    rw [nI_clamp (by omega)] at hP hD
    refine lv_iinc (k := 1) (v := nI (i + 1)) hx hb d_Arr_fill_14 hl rfl (nI_succ _).symm (by decide) rfl (fun ls hl => ?_)
    refine lv_goto (tgt := 5) hx hb d_Arr_fill_17 (by decide) ?_
    exact ih (j - 1) (i + 1) H locs ls (by omega) ⟨by omega, lv_sub hl [1, 0, 2, 3] rfl, hP, hD, hS⟩

set_option maxRecDepth 100000 in
set_option maxHeartbeats 4000000 in
theorem c_Mac_keptOutputs (l : Launch) (Dg : va_G) (a : Nat → Nat) (k : Nat → ClassId) (M : vSt) (H : Heap) (hP : va_P Dg classes (wM a k M) H) : kPu l y_Mac_keptOutputs b_Mac_keptOutputs 1 (some FieldType.int) 1 34 [.ref (a 0)] H (va_K Dg classes (kTy k)) (sMin (M 4 2) 60) := by
  refine k_of (by decide) (Nat.le_of_ble_eq_true rfl) ?_
  intro p e s m below meth cd ls F hlocks hret hname hh hX hl
  subst hh
  obtain ⟨hx, hb, hml, hown, hT⟩ := id F
  have hK : va_K Dg classes (kTy k) s := hX
  have hS : va_S (fun _ => False) s.heap s.heap [] := va_S.rf
  have hl : lv_has ls 1 [(0, .ref (a 0))] := hl
  refine lv_aload_n hx hb d_Mac_keptOutputs_0 rfl (lv_at hl 0 rfl) ?_
  refine va_get (D := Dg) (ci := 1) (v := .int (M 4 2)) (C := R_Mac) (T := F_Mac) (N := 10) hx hb hT in_Mac hown hK hP 0 rfl rfl 6 (by decide) (hT _ tw1_77) (fun _ h9 => h9) rfl d_Mac_keptOutputs_1 ?_
  refine lv_bipush (v := 60) hx hb d_Mac_keptOutputs_4 (by decide) ?_
  refine va_mmin hx hb (hml.trans hl.1.symm) hown (hT _ tw2_147) (hT _ tw2_148) (hT _ tw1_17) (hT _ tw2_149) (Nat.le_of_ble_eq_true rfl) (Nat.le_of_ble_eq_true rfl) (Nat.le_refl _) (Nat.le_refl _) d_Mac_keptOutputs_6 ?_
  change W _ _ _ _ _ _ _ _ _ _ _ _ _ _ _ (F0 m 9 ls (.int (sMin (M 4 2) 60) :: []))
  exact kp_i F hlocks hret hS d_Mac_keptOutputs_9 rfl

theorem sw_5 (w : Int32) : w = 0 ∨ w = 1 ∨ w = 2 ∨ w = 3 ∨ w = 4 ∨ w = 5 ∨ (w.toInt < 0 ∨ 5 < w.toInt) := by
  have key : ∀ z : Int32, w.toInt = z.toInt → w = z := fun z h => Int32.toInt_inj.mp h
  by_cases h : w.toInt < 0 ∨ 5 < w.toInt
  · simp [h]
  · have h1 : w.toInt = 0 ∨ w.toInt = 1 ∨ w.toInt = 2 ∨ w.toInt = 3 ∨ w.toInt = 4 ∨ w.toInt = 5 := by omega
    rcases h1 with q | q | q | q | q | q
    · exact Or.inl (key 0 q)
    · exact Or.inr (Or.inl (key 1 q))
    · exact Or.inr (Or.inr (Or.inl (key 2 q)))
    · exact Or.inr (Or.inr (Or.inr (Or.inl (key 3 q))))
    · exact Or.inr (Or.inr (Or.inr (Or.inr (Or.inl (key 4 q)))))
    · exact Or.inr (Or.inr (Or.inr (Or.inr (Or.inr (Or.inl (key 5 q))))))
theorem ne_of_out {w : Int32} {lo hi : Int} (h : w.toInt < lo ∨ hi < w.toInt) (z : Int32) (h1 : lo ≤ z.toInt) (h2 : z.toInt ≤ hi) : ¬ w = z := fun q => by subst q; omega

set_option maxRecDepth 100000 in
set_option maxHeartbeats 4000000 in
theorem c_Mac_factOf (l : Launch) (Dg : va_G) (a : Nat → Nat) (k : Nat → ClassId) (M : vSt) (w : Int32) (H : Heap) (hP : va_P Dg classes (wM a k M) H) : kPu l y_Mac_factOf b_Mac_factOf 2 (some FieldType.int) 0 0 [.ref (a 0), .int w] H (va_K Dg classes (kTy k)) (sFact M w) := by
  refine k_of (by decide) (Nat.le_of_ble_eq_true rfl) ?_
  intro p e s m below meth cd ls F hlocks hret hname hh hX hl
  subst hh
  obtain ⟨hx, hb, hml, hown, hT⟩ := id F
  have hK : va_K Dg classes (kTy k) s := hX
  have hS : va_S (fun _ => False) s.heap s.heap [] := va_S.rf
  have hl : lv_has ls 2 [(0, .ref (a 0)), (1, .int w)] := hl
  rcases sw_5 w with rfl | rfl | rfl | rfl | rfl | rfl | hsw
  · refine lv_iload_n hx hb d_Mac_factOf_0 rfl (lv_at hl 1 rfl) ?_
    refine lv_tableIn (x := 0) (off := 39) (tgt := 40) hx hb d_Mac_factOf_1 (by decide) (by decide) rfl (by decide) ?_
    refine lv_aload_n hx hb d_Mac_factOf_40 rfl (lv_at hl 0 rfl) ?_
    refine va_get (D := Dg) (ci := 1) (v := .int (M 4 3)) (C := R_Mac) (T := F_Mac) (N := 10) hx hb hT in_Mac hown hK hP 0 rfl rfl 7 (by decide) (hT _ tw1_78) (fun _ h9 => h9) rfl d_Mac_factOf_41 ?_
    exact kp_i F hlocks hret hS d_Mac_factOf_44 rfl
  · refine lv_iload_n hx hb d_Mac_factOf_0 rfl (lv_at hl 1 rfl) ?_
    refine lv_tableIn (x := 1) (off := 44) (tgt := 45) hx hb d_Mac_factOf_1 (by decide) (by decide) rfl (by decide) ?_
    refine lv_aload_n hx hb d_Mac_factOf_45 rfl (lv_at hl 0 rfl) ?_
    refine va_get (D := Dg) (ci := 1) (v := .int (M 4 0)) (C := R_Mac) (T := F_Mac) (N := 10) hx hb hT in_Mac hown hK hP 0 rfl rfl 4 (by decide) (hT _ tw1_74) (fun _ h9 => h9) rfl d_Mac_factOf_46 ?_
    exact kp_i F hlocks hret hS d_Mac_factOf_49 rfl
  · refine lv_iload_n hx hb d_Mac_factOf_0 rfl (lv_at hl 1 rfl) ?_
    refine lv_tableIn (x := 2) (off := 49) (tgt := 50) hx hb d_Mac_factOf_1 (by decide) (by decide) rfl (by decide) ?_
    refine lv_aload_n hx hb d_Mac_factOf_50 rfl (lv_at hl 0 rfl) ?_
    refine va_get (D := Dg) (ci := 1) (v := .int (M 4 1)) (C := R_Mac) (T := F_Mac) (N := 10) hx hb hT in_Mac hown hK hP 0 rfl rfl 5 (by decide) (hT _ tw1_76) (fun _ h9 => h9) rfl d_Mac_factOf_51 ?_
    exact kp_i F hlocks hret hS d_Mac_factOf_54 rfl
  · refine lv_iload_n hx hb d_Mac_factOf_0 rfl (lv_at hl 1 rfl) ?_
    refine lv_tableIn (x := 3) (off := 54) (tgt := 55) hx hb d_Mac_factOf_1 (by decide) (by decide) rfl (by decide) ?_
    refine lv_aload_n hx hb d_Mac_factOf_55 rfl (lv_at hl 0 rfl) ?_
    refine va_get (D := Dg) (ci := 1) (v := .int (M 4 2)) (C := R_Mac) (T := F_Mac) (N := 10) hx hb hT in_Mac hown hK hP 0 rfl rfl 6 (by decide) (hT _ tw1_77) (fun _ h9 => h9) rfl d_Mac_factOf_56 ?_
    exact kp_i F hlocks hret hS d_Mac_factOf_59 rfl
  · refine lv_iload_n hx hb d_Mac_factOf_0 rfl (lv_at hl 1 rfl) ?_
    refine lv_tableIn (x := 4) (off := 59) (tgt := 60) hx hb d_Mac_factOf_1 (by decide) (by decide) rfl (by decide) ?_
    refine lv_aload_n hx hb d_Mac_factOf_60 rfl (lv_at hl 0 rfl) ?_
    refine va_get (D := Dg) (ci := 1) (v := .int (M 4 4)) (C := R_Mac) (T := F_Mac) (N := 10) hx hb hT in_Mac hown hK hP 0 rfl rfl 8 (by decide) (hT _ tw1_79) (fun _ h9 => h9) rfl d_Mac_factOf_61 ?_
    exact kp_i F hlocks hret hS d_Mac_factOf_64 rfl
  · refine lv_iload_n hx hb d_Mac_factOf_0 rfl (lv_at hl 1 rfl) ?_
    refine lv_tableIn (x := 5) (off := 64) (tgt := 65) hx hb d_Mac_factOf_1 (by decide) (by decide) rfl (by decide) ?_
    refine lv_aload_n hx hb d_Mac_factOf_65 rfl (lv_at hl 0 rfl) ?_
    refine va_get (D := Dg) (ci := 1) (v := .int (M 4 5)) (C := R_Mac) (T := F_Mac) (N := 10) hx hb hT in_Mac hown hK hP 0 rfl rfl 9 (by decide) (hT _ tw1_80) (fun _ h9 => h9) rfl d_Mac_factOf_66 ?_
    exact kp_i F hlocks hret hS d_Mac_factOf_69 rfl
  · refine lv_iload_n hx hb d_Mac_factOf_0 rfl (lv_at hl 1 rfl) ?_
    refine lv_tableOut (tgt := 70) hx hb d_Mac_factOf_1 hsw (by decide) ?_
    refine lv_iconst (v := (-1)) hx hb d_Mac_factOf_70 (by decide) ?_
    exact kp_i F hlocks hret hS d_Mac_factOf_71 (by unfold sFact; rw [if_neg (ne_of_out hsw 0 (by decide) (by decide)), if_neg (ne_of_out hsw 1 (by decide) (by decide)), if_neg (ne_of_out hsw 2 (by decide) (by decide)), if_neg (ne_of_out hsw 3 (by decide) (by decide)), if_neg (ne_of_out hsw 4 (by decide) (by decide)), if_neg (ne_of_out hsw 5 (by decide) (by decide))])

set_option maxRecDepth 100000 in
set_option maxHeartbeats 4000000 in
theorem c_Mac_begin (l : Launch) (Dg : va_G) (a : Nat → Nat) (k : Nat → ClassId) (M : vSt) (H : Heap) (hP : va_P Dg classes (wM a k M) H) (hD : va_D (fun _ => True) (wM a k M)) : kMv l y_Mac_begin b_Mac_begin 1 1 23 [.ref (a 0)] H (va_K Dg classes (kTy k)) Dg (wM a k M) (wM a k (sBegin M)) := by
  refine k_of (by decide) (Nat.le_of_ble_eq_true rfl) ?_
  intro p e s m below meth cd ls F hlocks hret hname hh hX hl
  subst hh
  obtain ⟨hx, hb, hml, hown, hT⟩ := id F
  have hK : va_K Dg classes (kTy k) s := hX
  have hA : ∀ q : Nat, s.heap.size ≤ q → va_A (wM a k M) s.heap.size q := fun q h => Or.inr h
  have hD := hD.self (sz := s.heap.size)
  have hS : va_S (va_A (wM a k M) s.heap.size) s.heap s.heap [] := va_S.rf
  have hl : lv_has ls 1 [(0, .ref (a 0))] := hl
  refine lv_aload_n hx hb d_Mac_begin_0 rfl (lv_at hl 0 rfl) ?_
  refine va_get (D := Dg) (ci := 1) (v := .ref (a 2)) (C := R_Mac) (T := F_Mac) (N := 10) hx hb hT in_Mac hown hK hP 0 rfl rfl 1 (by decide) (hT _ tw1_69) (fun _ h9 => h9) rfl d_Mac_begin_1 ?_
  refine lv_iconst (v := 0) hx hb d_Mac_begin_4 (by decide) ?_
  refine km_Sv (wr := [(a 0, .inr (1, [.ref (a 1), .ref (a 2), .ref (a 3), .ref (a 4), .int (M 4 0), .int (M 4 1), .int (M 4 2), .int (M 4 3), .int (M 4 4), .int (M 4 5)])), (a 1, .inl (k 0, 40, .inl (M 0))), (a 3, .inl (k 0, 60, .inl (M 2))), (a 4, .inl (k 0, 10, .inl (M 3)))]) F (c_Arr_fill l Dg k (a 2) 8 (M 1) 0 _ (by decide) (hP.sub (ws' := [(a 2, .inl (k 0, 8, .inl (M 1)))]) [2] rfl) ((hD.sub (ws' := [(a 2, .inl (k 0, 8, .inl (M 1)))]) [2] (by decide) rfl).weaken (fun _ _ _ _ => trivial))) kx_K hK kw_Mac_24 tw1_129 hP hD hS hA [2] [0, 1, 3, 4] rfl rfl (by decide) (by decide) d_Mac_begin_5 ⟨⟨by decide, by decide⟩, Nat.le_refl _, Nat.le_refl _⟩ rfl hl.1 rfl (Nat.le_of_ble_eq_true rfl) (fun H locs hP hD hS => ?_)
  have hP := hP.sub (ws' := wM a k (sZero M)) [0, 1, 4, 2, 3] rfl
  have hD := hD.sub (ws' := wM a k (sZero M)) [0, 1, 4, 2, 3] (by decide) rfl
  have hP : va_P Dg classes (wM a k (sZero M)) H := hP
  have hD : va_D (va_A (wM a k M) s.heap.size) (wM a k (sZero M)) := hD
  obtain ⟨Ms1, hMs1⟩ : ∃ z, z = (sZero M) := ⟨_, rfl⟩
  rw [← hMs1] at hP hD
  refine lv_aload_n hx hb d_Mac_begin_8 rfl (lv_at hl 0 rfl) ?_
  refine lv_iconst (v := 0) hx hb d_Mac_begin_9 (by decide) ?_
  refine va_put (D := Dg) (ci := 1) (v := .int 0) (ty := .int) (C := R_Mac) (T := F_Mac) (N := 10) hx hb hT in_Mac t_Mac t_Mac_ok n_Mac hown hK hP hD hS 0 rfl rfl 4 (by decide) (hT _ tw1_74) (fun _ h9 => h9) rfl (by decide +kernel) rfl rfl (Nat.le_of_ble_eq_true rfl) d_Mac_begin_10 (fun H locs hP hD hS => ?_)
  have hP : va_P Dg classes (wM a k (u2 Ms1 4 0 0)) H := hP
  have hD : va_D (va_A (wM a k M) s.heap.size) (wM a k (u2 Ms1 4 0 0)) := hD
  obtain ⟨Ms2, hMs2⟩ : ∃ z, z = (u2 Ms1 4 0 0) := ⟨_, rfl⟩
  rw [← hMs2] at hP hD
  refine lv_aload_n hx hb d_Mac_begin_13 rfl (lv_at hl 0 rfl) ?_
  refine lv_iconst (v := 0) hx hb d_Mac_begin_14 (by decide) ?_
  refine va_put (D := Dg) (ci := 1) (v := .int 0) (ty := .int) (C := R_Mac) (T := F_Mac) (N := 10) hx hb hT in_Mac t_Mac t_Mac_ok n_Mac hown hK hP hD hS 0 rfl rfl 5 (by decide) (hT _ tw1_76) (fun _ h9 => h9) rfl (by decide +kernel) rfl rfl (Nat.le_of_ble_eq_true rfl) d_Mac_begin_15 (fun H locs hP hD hS => ?_)
  have hP : va_P Dg classes (wM a k (u2 Ms2 4 1 0)) H := hP
  have hD : va_D (va_A (wM a k M) s.heap.size) (wM a k (u2 Ms2 4 1 0)) := hD
  obtain ⟨Ms3, hMs3⟩ : ∃ z, z = (u2 Ms2 4 1 0) := ⟨_, rfl⟩
  rw [← hMs3] at hP hD
  refine lv_aload_n hx hb d_Mac_begin_18 rfl (lv_at hl 0 rfl) ?_
  refine lv_iconst (v := 0) hx hb d_Mac_begin_19 (by decide) ?_
  refine va_put (D := Dg) (ci := 1) (v := .int 0) (ty := .int) (C := R_Mac) (T := F_Mac) (N := 10) hx hb hT in_Mac t_Mac t_Mac_ok n_Mac hown hK hP hD hS 0 rfl rfl 6 (by decide) (hT _ tw1_77) (fun _ h9 => h9) rfl (by decide +kernel) rfl rfl (Nat.le_of_ble_eq_true rfl) d_Mac_begin_20 (fun H locs hP hD hS => ?_)
  have hP : va_P Dg classes (wM a k (u2 Ms3 4 2 0)) H := hP
  have hD : va_D (va_A (wM a k M) s.heap.size) (wM a k (u2 Ms3 4 2 0)) := hD
  obtain ⟨Ms4, hMs4⟩ : ∃ z, z = (u2 Ms3 4 2 0) := ⟨_, rfl⟩
  rw [← hMs4] at hP hD
  refine lv_aload_n hx hb d_Mac_begin_23 rfl (lv_at hl 0 rfl) ?_
  refine lv_iconst (v := 0) hx hb d_Mac_begin_24 (by decide) ?_
  refine va_put (D := Dg) (ci := 1) (v := .int 0) (ty := .int) (C := R_Mac) (T := F_Mac) (N := 10) hx hb hT in_Mac t_Mac t_Mac_ok n_Mac hown hK hP hD hS 0 rfl rfl 7 (by decide) (hT _ tw1_78) (fun _ h9 => h9) rfl (by decide +kernel) rfl rfl (Nat.le_of_ble_eq_true rfl) d_Mac_begin_25 (fun H locs hP hD hS => ?_)
  have hP : va_P Dg classes (wM a k (u2 Ms4 4 3 0)) H := hP
  have hD : va_D (va_A (wM a k M) s.heap.size) (wM a k (u2 Ms4 4 3 0)) := hD
  obtain ⟨Ms5, hMs5⟩ : ∃ z, z = (u2 Ms4 4 3 0) := ⟨_, rfl⟩
  rw [← hMs5] at hP hD
  refine lv_aload_n hx hb d_Mac_begin_28 rfl (lv_at hl 0 rfl) ?_
  refine lv_iconst (v := 0) hx hb d_Mac_begin_29 (by decide) ?_
  refine va_put (D := Dg) (ci := 1) (v := .int 0) (ty := .int) (C := R_Mac) (T := F_Mac) (N := 10) hx hb hT in_Mac t_Mac t_Mac_ok n_Mac hown hK hP hD hS 0 rfl rfl 8 (by decide) (hT _ tw1_79) (fun _ h9 => h9) rfl (by decide +kernel) rfl rfl (Nat.le_of_ble_eq_true rfl) d_Mac_begin_30 (fun H locs hP hD hS => ?_)
  have hP : va_P Dg classes (wM a k (u2 Ms5 4 4 0)) H := hP
  have hD : va_D (va_A (wM a k M) s.heap.size) (wM a k (u2 Ms5 4 4 0)) := hD
  obtain ⟨Ms6, hMs6⟩ : ∃ z, z = (u2 Ms5 4 4 0) := ⟨_, rfl⟩
  rw [← hMs6] at hP hD
  refine lv_aload_n hx hb d_Mac_begin_33 rfl (lv_at hl 0 rfl) ?_
  refine lv_iconst (v := 0) hx hb d_Mac_begin_34 (by decide) ?_
  refine va_put (D := Dg) (ci := 1) (v := .int 0) (ty := .int) (C := R_Mac) (T := F_Mac) (N := 10) hx hb hT in_Mac t_Mac t_Mac_ok n_Mac hown hK hP hD hS 0 rfl rfl 9 (by decide) (hT _ tw1_80) (fun _ h9 => h9) rfl (by decide +kernel) rfl rfl (Nat.le_of_ble_eq_true rfl) d_Mac_begin_35 (fun H locs hP hD hS => ?_)
  have hP : va_P Dg classes (wM a k (u2 Ms6 4 5 0)) H := hP
  have hD : va_D (va_A (wM a k M) s.heap.size) (wM a k (u2 Ms6 4 5 0)) := hD
  obtain ⟨Ms7, hMs7⟩ : ∃ z, z = (u2 Ms6 4 5 0) := ⟨_, rfl⟩
  rw [← hMs7] at hP hD
  exact km_v F hlocks hret hP hD hS d_Mac_begin_38 (by subst hMs7 hMs6 hMs5 hMs4 hMs3 hMs2 hMs1; rfl)
