set_option maxRecDepth 100000 in
set_option maxHeartbeats 4000000 in
theorem c_Mod_init (l : Launch) (Dg : va_G) (k : Nat → ClassId) (o : Nat) (H : Heap) (hP : va_P Dg classes [(o, .inr (3, [.int 0, .int 0, .null, .null, .int 0, .null, .null, .null, .null, .null, .null, .null, .null, .null, .null, .null, .null]))] H) (hD : va_D (fun _ => True) [(o, .inr (3, [.int 0, .int 0, .null, .null, .int 0, .null, .null, .null, .null, .null, .null, .null, .null, .null, .null, .null, .null]))]) : kCv l y_Mod_init b_Mod_init 1 1 14 568 12 [.ref o] H (va_K Dg classes (kTy k)) Dg [(o, .inr (3, [.int 0, .int 0, .null, .null, .int 0, .null, .null, .null, .null, .null, .null, .null, .null, .null, .null, .null, .null]))] (fun a : (Nat → Nat) × vSt => a.1 0 = o ∧ dRows a.2 ∧ ∀ r, r ≠ 3 → a.2 r = fun _ => 0) (fun a => wD a.1 k a.2) := by
  refine k_of (by decide) (Nat.le_of_ble_eq_true rfl) ?_
  intro p e s m below meth cd ls F hlocks hret hname hh hX hl
  subst hh
  obtain ⟨hx, hb, hml, hown, hT⟩ := id F
  have hK : va_K Dg classes (kTy k) s := hX
  have hA : ∀ q : Nat, s.heap.size ≤ q → va_A [(o, .inr (3, [.int 0, .int 0, .null, .null, .int 0, .null, .null, .null, .null, .null, .null, .null, .null, .null, .null, .null, .null]))] s.heap.size q := fun q h => Or.inr h
  have hD := hD.self (sz := s.heap.size)
  have hS : va_S (va_A [(o, .inr (3, [.int 0, .int 0, .null, .null, .int 0, .null, .null, .null, .null, .null, .null, .null, .null, .null, .null, .null, .null]))] s.heap.size) s.heap s.heap [] := va_S.rf
  have hl : lv_has ls 1 [(0, .ref o)] := hl
  refine lv_aload_n hx hb d_Mod_init_0 rfl (lv_at hl 0 rfl) ?_
  refine W.objInit hx hb hown (hT _ tw2_225) (hT _ tw1_24) (hT _ tw1_25) rfl (by rw [hml]; exact hl.1) rfl d_Mod_init_1 (Nat.le_of_ble_eq_true rfl) (Nat.le_of_ble_eq_true rfl) ?_
  refine W.eq (g2 := F0 m 4 ls []) rfl ?_
  refine lv_aload_n hx hb d_Mod_init_4 rfl (lv_at hl 0 rfl) ?_
  refine lv_bipush (v := 80) hx hb d_Mod_init_5 (by decide) ?_
  refine kn_a (n := 80) (N' := 80) (ty := .char) (a0 := (80, .inl (fun _ => 0))) F tw3_38 rfl (fun _ _ h => h) hK 2 rfl hP hD hS hA (fun _ => rfl) (by decide) (by decide) (by decide) (Nat.le_of_ble_eq_true rfl) (Nat.le_of_ble_eq_true rfl) d_Mod_init_7 (fun q7 H hP hD hS => ?_)
  have hP : va_P Dg classes ([(o, .inr (3, [.int 0, .int 0, .null, .null, .int 0, .null, .null, .null, .null, .null, .null, .null, .null, .null, .null, .null, .null])), (q7, .inl (k 2, 80, .inl (fun _ => 0)))]) H := hP
  have hD : va_D (va_A [(o, .inr (3, [.int 0, .int 0, .null, .null, .int 0, .null, .null, .null, .null, .null, .null, .null, .null, .null, .null, .null, .null]))] s.heap.size) ([(o, .inr (3, [.int 0, .int 0, .null, .null, .int 0, .null, .null, .null, .null, .null, .null, .null, .null, .null, .null, .null, .null])), (q7, .inl (k 2, 80, .inl (fun _ => 0)))]) := hD
  refine W.widen (k := 1) (n := 80) (Nat.le_of_ble_eq_true rfl) (Nat.le_of_ble_eq_true rfl) ?_
  refine va_putF (D := Dg) (ci := 3) (v := .ref q7) (ty := (.array .char)) (C := R_Mod) (T := F_Mod) (N := 17) hx hb hT in_Mod t_Mod t_Mod_ok n_Mod hown hK hP hD hS 0 rfl rfl 2 (by decide) (hT _ tw2_228) (fun _ h9 => h9) rfl hname rfl (by decide +kernel) rfl rfl (Nat.le_of_ble_eq_true rfl) d_Mod_init_9 (fun H locs hP hD hS => ?_)
  have hP : va_P Dg classes ([(o, .inr (3, [.int 0, .int 0, .ref q7, .null, .int 0, .null, .null, .null, .null, .null, .null, .null, .null, .null, .null, .null, .null])), (q7, .inl (k 2, 80, .inl (fun _ => 0)))]) H := hP
  have hD : va_D (va_A [(o, .inr (3, [.int 0, .int 0, .null, .null, .int 0, .null, .null, .null, .null, .null, .null, .null, .null, .null, .null, .null, .null]))] s.heap.size) ([(o, .inr (3, [.int 0, .int 0, .ref q7, .null, .int 0, .null, .null, .null, .null, .null, .null, .null, .null, .null, .null, .null, .null])), (q7, .inl (k 2, 80, .inl (fun _ => 0)))]) := hD
  refine lv_aload_n hx hb d_Mod_init_12 rfl (lv_at hl 0 rfl) ?_
  refine lv_bipush (v := 80) hx hb d_Mod_init_13 (by decide) ?_
  refine kn_a (n := 80) (N' := 80) (ty := .int) (a0 := (80, .inl (fun _ => 0))) F tw1_59 rfl (fun _ _ h => h) hK 0 rfl hP hD hS hA (fun _ => rfl) (by decide) (by decide) (by decide) (Nat.le_of_ble_eq_true rfl) (Nat.le_of_ble_eq_true rfl) d_Mod_init_15 (fun q15 H hP hD hS => ?_)
  have hP : va_P Dg classes ([(o, .inr (3, [.int 0, .int 0, .ref q7, .null, .int 0, .null, .null, .null, .null, .null, .null, .null, .null, .null, .null, .null, .null])), (q7, .inl (k 2, 80, .inl (fun _ => 0))), (q15, .inl (k 0, 80, .inl (fun _ => 0)))]) H := hP
  have hD : va_D (va_A [(o, .inr (3, [.int 0, .int 0, .null, .null, .int 0, .null, .null, .null, .null, .null, .null, .null, .null, .null, .null, .null, .null]))] s.heap.size) ([(o, .inr (3, [.int 0, .int 0, .ref q7, .null, .int 0, .null, .null, .null, .null, .null, .null, .null, .null, .null, .null, .null, .null])), (q7, .inl (k 2, 80, .inl (fun _ => 0))), (q15, .inl (k 0, 80, .inl (fun _ => 0)))]) := hD
  refine W.widen (k := 2) (n := 160) (Nat.le_of_ble_eq_true rfl) (Nat.le_of_ble_eq_true rfl) ?_
  refine va_putF (D := Dg) (ci := 3) (v := .ref q15) (ty := (.array .int)) (C := R_Mod) (T := F_Mod) (N := 17) hx hb hT in_Mod t_Mod t_Mod_ok n_Mod hown hK hP hD hS 0 rfl rfl 3 (by decide) (hT _ tw2_229) (fun _ h9 => h9) rfl hname rfl (by decide +kernel) rfl rfl (Nat.le_of_ble_eq_true rfl) d_Mod_init_17 (fun H locs hP hD hS => ?_)
  have hP : va_P Dg classes ([(o, .inr (3, [.int 0, .int 0, .ref q7, .ref q15, .int 0, .null, .null, .null, .null, .null, .null, .null, .null, .null, .null, .null, .null])), (q7, .inl (k 2, 80, .inl (fun _ => 0))), (q15, .inl (k 0, 80, .inl (fun _ => 0)))]) H := hP
  have hD : va_D (va_A [(o, .inr (3, [.int 0, .int 0, .null, .null, .int 0, .null, .null, .null, .null, .null, .null, .null, .null, .null, .null, .null, .null]))] s.heap.size) ([(o, .inr (3, [.int 0, .int 0, .ref q7, .ref q15, .int 0, .null, .null, .null, .null, .null, .null, .null, .null, .null, .null, .null, .null])), (q7, .inl (k 2, 80, .inl (fun _ => 0))), (q15, .inl (k 0, 80, .inl (fun _ => 0)))]) := hD
  refine lv_aload_n hx hb d_Mod_init_20 rfl (lv_at hl 0 rfl) ?_
  refine lv_bipush (v := 80) hx hb d_Mod_init_21 (by decide) ?_
  refine kn_a (n := 80) (N' := 80) (ty := .int) (a0 := (80, .inl (fun _ => 0))) F tw1_59 rfl (fun _ _ h => h) hK 0 rfl hP hD hS hA (fun _ => rfl) (by decide) (by decide) (by decide) (Nat.le_of_ble_eq_true rfl) (Nat.le_of_ble_eq_true rfl) d_Mod_init_23 (fun q23 H hP hD hS => ?_)
  have hP : va_P Dg classes ([(o, .inr (3, [.int 0, .int 0, .ref q7, .ref q15, .int 0, .null, .null, .null, .null, .null, .null, .null, .null, .null, .null, .null, .null])), (q7, .inl (k 2, 80, .inl (fun _ => 0))), (q15, .inl (k 0, 80, .inl (fun _ => 0))), (q23, .inl (k 0, 80, .inl (fun _ => 0)))]) H := hP
  have hD : va_D (va_A [(o, .inr (3, [.int 0, .int 0, .null, .null, .int 0, .null, .null, .null, .null, .null, .null, .null, .null, .null, .null, .null, .null]))] s.heap.size) ([(o, .inr (3, [.int 0, .int 0, .ref q7, .ref q15, .int 0, .null, .null, .null, .null, .null, .null, .null, .null, .null, .null, .null, .null])), (q7, .inl (k 2, 80, .inl (fun _ => 0))), (q15, .inl (k 0, 80, .inl (fun _ => 0))), (q23, .inl (k 0, 80, .inl (fun _ => 0)))]) := hD
  refine W.widen (k := 3) (n := 240) (Nat.le_of_ble_eq_true rfl) (Nat.le_of_ble_eq_true rfl) ?_
  refine va_putF (D := Dg) (ci := 3) (v := .ref q23) (ty := (.array .int)) (C := R_Mod) (T := F_Mod) (N := 17) hx hb hT in_Mod t_Mod t_Mod_ok n_Mod hown hK hP hD hS 0 rfl rfl 5 (by decide) (hT _ tw2_231) (fun _ h9 => h9) rfl hname rfl (by decide +kernel) rfl rfl (Nat.le_of_ble_eq_true rfl) d_Mod_init_25 (fun H locs hP hD hS => ?_)
  have hP : va_P Dg classes ([(o, .inr (3, [.int 0, .int 0, .ref q7, .ref q15, .int 0, .ref q23, .null, .null, .null, .null, .null, .null, .null, .null, .null, .null, .null])), (q7, .inl (k 2, 80, .inl (fun _ => 0))), (q15, .inl (k 0, 80, .inl (fun _ => 0))), (q23, .inl (k 0, 80, .inl (fun _ => 0)))]) H := hP
  have hD : va_D (va_A [(o, .inr (3, [.int 0, .int 0, .null, .null, .int 0, .null, .null, .null, .null, .null, .null, .null, .null, .null, .null, .null, .null]))] s.heap.size) ([(o, .inr (3, [.int 0, .int 0, .ref q7, .ref q15, .int 0, .ref q23, .null, .null, .null, .null, .null, .null, .null, .null, .null, .null, .null])), (q7, .inl (k 2, 80, .inl (fun _ => 0))), (q15, .inl (k 0, 80, .inl (fun _ => 0))), (q23, .inl (k 0, 80, .inl (fun _ => 0)))]) := hD
  refine lv_aload_n hx hb d_Mod_init_28 rfl (lv_at hl 0 rfl) ?_
  refine lv_bipush (v := 80) hx hb d_Mod_init_29 (by decide) ?_
  refine kn_a (n := 80) (N' := 80) (ty := .char) (a0 := (80, .inl (fun _ => 0))) F tw3_38 rfl (fun _ _ h => h) hK 2 rfl hP hD hS hA (fun _ => rfl) (by decide) (by decide) (by decide) (Nat.le_of_ble_eq_true rfl) (Nat.le_of_ble_eq_true rfl) d_Mod_init_31 (fun q31 H hP hD hS => ?_)
  have hP : va_P Dg classes ([(o, .inr (3, [.int 0, .int 0, .ref q7, .ref q15, .int 0, .ref q23, .null, .null, .null, .null, .null, .null, .null, .null, .null, .null, .null])), (q7, .inl (k 2, 80, .inl (fun _ => 0))), (q15, .inl (k 0, 80, .inl (fun _ => 0))), (q23, .inl (k 0, 80, .inl (fun _ => 0))), (q31, .inl (k 2, 80, .inl (fun _ => 0)))]) H := hP
  have hD : va_D (va_A [(o, .inr (3, [.int 0, .int 0, .null, .null, .int 0, .null, .null, .null, .null, .null, .null, .null, .null, .null, .null, .null, .null]))] s.heap.size) ([(o, .inr (3, [.int 0, .int 0, .ref q7, .ref q15, .int 0, .ref q23, .null, .null, .null, .null, .null, .null, .null, .null, .null, .null, .null])), (q7, .inl (k 2, 80, .inl (fun _ => 0))), (q15, .inl (k 0, 80, .inl (fun _ => 0))), (q23, .inl (k 0, 80, .inl (fun _ => 0))), (q31, .inl (k 2, 80, .inl (fun _ => 0)))]) := hD
  refine W.widen (k := 4) (n := 320) (Nat.le_of_ble_eq_true rfl) (Nat.le_of_ble_eq_true rfl) ?_
  refine lv_dup hx hb d_Mod_init_33 rfl ?_
  refine lv_iconst (v := 0) hx hb d_Mod_init_34 (by decide) ?_
  refine lv_bipush (v := 76) hx hb d_Mod_init_35 (by decide) ?_
  refine va_cast hx hb hK hP hD hS 4 2 rfl rfl (by unfold vp_in; decide) d_Mod_init_37 (fun H locs hP hD hS => ?_)
  have hP : va_P Dg classes ([(o, .inr (3, [.int 0, .int 0, .ref q7, .ref q15, .int 0, .ref q23, .null, .null, .null, .null, .null, .null, .null, .null, .null, .null, .null])), (q7, .inl (k 2, 80, .inl (fun _ => 0))), (q15, .inl (k 0, 80, .inl (fun _ => 0))), (q23, .inl (k 0, 80, .inl (fun _ => 0))), (q31, .inl (k 2, 80, .inl (upd (fun _ => 0) (Int32.toNatClampNeg 0) (vp_nar .char 76))))]) H := hP
  have hD : va_D (va_A [(o, .inr (3, [.int 0, .int 0, .null, .null, .int 0, .null, .null, .null, .null, .null, .null, .null, .null, .null, .null, .null, .null]))] s.heap.size) ([(o, .inr (3, [.int 0, .int 0, .ref q7, .ref q15, .int 0, .ref q23, .null, .null, .null, .null, .null, .null, .null, .null, .null, .null, .null])), (q7, .inl (k 2, 80, .inl (fun _ => 0))), (q15, .inl (k 0, 80, .inl (fun _ => 0))), (q23, .inl (k 0, 80, .inl (fun _ => 0))), (q31, .inl (k 2, 80, .inl (upd (fun _ => 0) (Int32.toNatClampNeg 0) (vp_nar .char 76))))]) := hD
  obtain ⟨f1, hf1⟩ : ∃ z9 : Nat → Int32, z9 = (upd (fun _ => 0) (Int32.toNatClampNeg 0) (vp_nar .char 76)) := ⟨_, rfl⟩
  rw [← hf1] at hP hD
  refine lv_dup hx hb d_Mod_init_38 rfl ?_
  refine lv_iconst (v := 1) hx hb d_Mod_init_39 (by decide) ?_
  refine lv_bipush (v := 76) hx hb d_Mod_init_40 (by decide) ?_
  refine va_cast hx hb hK hP hD hS 4 2 rfl rfl (by unfold vp_in; decide) d_Mod_init_42 (fun H locs hP hD hS => ?_)
  have hP : va_P Dg classes ([(o, .inr (3, [.int 0, .int 0, .ref q7, .ref q15, .int 0, .ref q23, .null, .null, .null, .null, .null, .null, .null, .null, .null, .null, .null])), (q7, .inl (k 2, 80, .inl (fun _ => 0))), (q15, .inl (k 0, 80, .inl (fun _ => 0))), (q23, .inl (k 0, 80, .inl (fun _ => 0))), (q31, .inl (k 2, 80, .inl (upd f1 (Int32.toNatClampNeg 1) (vp_nar .char 76))))]) H := hP
  have hD : va_D (va_A [(o, .inr (3, [.int 0, .int 0, .null, .null, .int 0, .null, .null, .null, .null, .null, .null, .null, .null, .null, .null, .null, .null]))] s.heap.size) ([(o, .inr (3, [.int 0, .int 0, .ref q7, .ref q15, .int 0, .ref q23, .null, .null, .null, .null, .null, .null, .null, .null, .null, .null, .null])), (q7, .inl (k 2, 80, .inl (fun _ => 0))), (q15, .inl (k 0, 80, .inl (fun _ => 0))), (q23, .inl (k 0, 80, .inl (fun _ => 0))), (q31, .inl (k 2, 80, .inl (upd f1 (Int32.toNatClampNeg 1) (vp_nar .char 76))))]) := hD
  obtain ⟨f2, hf2⟩ : ∃ z9 : Nat → Int32, z9 = (upd f1 (Int32.toNatClampNeg 1) (vp_nar .char 76)) := ⟨_, rfl⟩
  rw [← hf2] at hP hD
  refine lv_dup hx hb d_Mod_init_43 rfl ?_
  refine lv_iconst (v := 2) hx hb d_Mod_init_44 (by decide) ?_
  refine lv_iconst (v := 0) hx hb d_Mod_init_45 (by decide) ?_
  refine va_cast hx hb hK hP hD hS 4 2 rfl rfl (by unfold vp_in; decide) d_Mod_init_46 (fun H locs hP hD hS => ?_)
  have hP : va_P Dg classes ([(o, .inr (3, [.int 0, .int 0, .ref q7, .ref q15, .int 0, .ref q23, .null, .null, .null, .null, .null, .null, .null, .null, .null, .null, .null])), (q7, .inl (k 2, 80, .inl (fun _ => 0))), (q15, .inl (k 0, 80, .inl (fun _ => 0))), (q23, .inl (k 0, 80, .inl (fun _ => 0))), (q31, .inl (k 2, 80, .inl (upd f2 (Int32.toNatClampNeg 2) (vp_nar .char 0))))]) H := hP
  have hD : va_D (va_A [(o, .inr (3, [.int 0, .int 0, .null, .null, .int 0, .null, .null, .null, .null, .null, .null, .null, .null, .null, .null, .null, .null]))] s.heap.size) ([(o, .inr (3, [.int 0, .int 0, .ref q7, .ref q15, .int 0, .ref q23, .null, .null, .null, .null, .null, .null, .null, .null, .null, .null, .null])), (q7, .inl (k 2, 80, .inl (fun _ => 0))), (q15, .inl (k 0, 80, .inl (fun _ => 0))), (q23, .inl (k 0, 80, .inl (fun _ => 0))), (q31, .inl (k 2, 80, .inl (upd f2 (Int32.toNatClampNeg 2) (vp_nar .char 0))))]) := hD
  obtain ⟨f3, hf3⟩ : ∃ z9 : Nat → Int32, z9 = (upd f2 (Int32.toNatClampNeg 2) (vp_nar .char 0)) := ⟨_, rfl⟩
  rw [← hf3] at hP hD
  refine lv_dup hx hb d_Mod_init_47 rfl ?_
  refine lv_iconst (v := 3) hx hb d_Mod_init_48 (by decide) ?_
  refine lv_iconst (v := 0) hx hb d_Mod_init_49 (by decide) ?_
  refine va_cast hx hb hK hP hD hS 4 2 rfl rfl (by unfold vp_in; decide) d_Mod_init_50 (fun H locs hP hD hS => ?_)
  have hP : va_P Dg classes ([(o, .inr (3, [.int 0, .int 0, .ref q7, .ref q15, .int 0, .ref q23, .null, .null, .null, .null, .null, .null, .null, .null, .null, .null, .null])), (q7, .inl (k 2, 80, .inl (fun _ => 0))), (q15, .inl (k 0, 80, .inl (fun _ => 0))), (q23, .inl (k 0, 80, .inl (fun _ => 0))), (q31, .inl (k 2, 80, .inl (upd f3 (Int32.toNatClampNeg 3) (vp_nar .char 0))))]) H := hP
  have hD : va_D (va_A [(o, .inr (3, [.int 0, .int 0, .null, .null, .int 0, .null, .null, .null, .null, .null, .null, .null, .null, .null, .null, .null, .null]))] s.heap.size) ([(o, .inr (3, [.int 0, .int 0, .ref q7, .ref q15, .int 0, .ref q23, .null, .null, .null, .null, .null, .null, .null, .null, .null, .null, .null])), (q7, .inl (k 2, 80, .inl (fun _ => 0))), (q15, .inl (k 0, 80, .inl (fun _ => 0))), (q23, .inl (k 0, 80, .inl (fun _ => 0))), (q31, .inl (k 2, 80, .inl (upd f3 (Int32.toNatClampNeg 3) (vp_nar .char 0))))]) := hD
  obtain ⟨f4, hf4⟩ : ∃ z9 : Nat → Int32, z9 = (upd f3 (Int32.toNatClampNeg 3) (vp_nar .char 0)) := ⟨_, rfl⟩
  rw [← hf4] at hP hD
  refine lv_dup hx hb d_Mod_init_51 rfl ?_
  refine lv_iconst (v := 4) hx hb d_Mod_init_52 (by decide) ?_
  refine lv_bipush (v := 76) hx hb d_Mod_init_53 (by decide) ?_
  refine va_cast hx hb hK hP hD hS 4 2 rfl rfl (by unfold vp_in; decide) d_Mod_init_55 (fun H locs hP hD hS => ?_)
  have hP : va_P Dg classes ([(o, .inr (3, [.int 0, .int 0, .ref q7, .ref q15, .int 0, .ref q23, .null, .null, .null, .null, .null, .null, .null, .null, .null, .null, .null])), (q7, .inl (k 2, 80, .inl (fun _ => 0))), (q15, .inl (k 0, 80, .inl (fun _ => 0))), (q23, .inl (k 0, 80, .inl (fun _ => 0))), (q31, .inl (k 2, 80, .inl (upd f4 (Int32.toNatClampNeg 4) (vp_nar .char 76))))]) H := hP
  have hD : va_D (va_A [(o, .inr (3, [.int 0, .int 0, .null, .null, .int 0, .null, .null, .null, .null, .null, .null, .null, .null, .null, .null, .null, .null]))] s.heap.size) ([(o, .inr (3, [.int 0, .int 0, .ref q7, .ref q15, .int 0, .ref q23, .null, .null, .null, .null, .null, .null, .null, .null, .null, .null, .null])), (q7, .inl (k 2, 80, .inl (fun _ => 0))), (q15, .inl (k 0, 80, .inl (fun _ => 0))), (q23, .inl (k 0, 80, .inl (fun _ => 0))), (q31, .inl (k 2, 80, .inl (upd f4 (Int32.toNatClampNeg 4) (vp_nar .char 76))))]) := hD
  obtain ⟨f5, hf5⟩ : ∃ z9 : Nat → Int32, z9 = (upd f4 (Int32.toNatClampNeg 4) (vp_nar .char 76)) := ⟨_, rfl⟩
  rw [← hf5] at hP hD
  refine lv_dup hx hb d_Mod_init_56 rfl ?_
  refine lv_iconst (v := 5) hx hb d_Mod_init_57 (by decide) ?_
  refine lv_bipush (v := 80) hx hb d_Mod_init_58 (by decide) ?_
  refine va_cast hx hb hK hP hD hS 4 2 rfl rfl (by unfold vp_in; decide) d_Mod_init_60 (fun H locs hP hD hS => ?_)
  have hP : va_P Dg classes ([(o, .inr (3, [.int 0, .int 0, .ref q7, .ref q15, .int 0, .ref q23, .null, .null, .null, .null, .null, .null, .null, .null, .null, .null, .null])), (q7, .inl (k 2, 80, .inl (fun _ => 0))), (q15, .inl (k 0, 80, .inl (fun _ => 0))), (q23, .inl (k 0, 80, .inl (fun _ => 0))), (q31, .inl (k 2, 80, .inl (upd f5 (Int32.toNatClampNeg 5) (vp_nar .char 80))))]) H := hP
  have hD : va_D (va_A [(o, .inr (3, [.int 0, .int 0, .null, .null, .int 0, .null, .null, .null, .null, .null, .null, .null, .null, .null, .null, .null, .null]))] s.heap.size) ([(o, .inr (3, [.int 0, .int 0, .ref q7, .ref q15, .int 0, .ref q23, .null, .null, .null, .null, .null, .null, .null, .null, .null, .null, .null])), (q7, .inl (k 2, 80, .inl (fun _ => 0))), (q15, .inl (k 0, 80, .inl (fun _ => 0))), (q23, .inl (k 0, 80, .inl (fun _ => 0))), (q31, .inl (k 2, 80, .inl (upd f5 (Int32.toNatClampNeg 5) (vp_nar .char 80))))]) := hD
  obtain ⟨f6, hf6⟩ : ∃ z9 : Nat → Int32, z9 = (upd f5 (Int32.toNatClampNeg 5) (vp_nar .char 80)) := ⟨_, rfl⟩
  rw [← hf6] at hP hD
  refine lv_dup hx hb d_Mod_init_61 rfl ?_
  refine lv_bipush (v := 6) hx hb d_Mod_init_62 (by decide) ?_
  refine lv_iconst (v := 0) hx hb d_Mod_init_64 (by decide) ?_
  refine va_cast hx hb hK hP hD hS 4 2 rfl rfl (by unfold vp_in; decide) d_Mod_init_65 (fun H locs hP hD hS => ?_)
  have hP : va_P Dg classes ([(o, .inr (3, [.int 0, .int 0, .ref q7, .ref q15, .int 0, .ref q23, .null, .null, .null, .null, .null, .null, .null, .null, .null, .null, .null])), (q7, .inl (k 2, 80, .inl (fun _ => 0))), (q15, .inl (k 0, 80, .inl (fun _ => 0))), (q23, .inl (k 0, 80, .inl (fun _ => 0))), (q31, .inl (k 2, 80, .inl (upd f6 (Int32.toNatClampNeg 6) (vp_nar .char 0))))]) H := hP
  have hD : va_D (va_A [(o, .inr (3, [.int 0, .int 0, .null, .null, .int 0, .null, .null, .null, .null, .null, .null, .null, .null, .null, .null, .null, .null]))] s.heap.size) ([(o, .inr (3, [.int 0, .int 0, .ref q7, .ref q15, .int 0, .ref q23, .null, .null, .null, .null, .null, .null, .null, .null, .null, .null, .null])), (q7, .inl (k 2, 80, .inl (fun _ => 0))), (q15, .inl (k 0, 80, .inl (fun _ => 0))), (q23, .inl (k 0, 80, .inl (fun _ => 0))), (q31, .inl (k 2, 80, .inl (upd f6 (Int32.toNatClampNeg 6) (vp_nar .char 0))))]) := hD
  obtain ⟨f7, hf7⟩ : ∃ z9 : Nat → Int32, z9 = (upd f6 (Int32.toNatClampNeg 6) (vp_nar .char 0)) := ⟨_, rfl⟩
  rw [← hf7] at hP hD
  refine lv_dup hx hb d_Mod_init_66 rfl ?_
  refine lv_bipush (v := 7) hx hb d_Mod_init_67 (by decide) ?_
  refine lv_iconst (v := 0) hx hb d_Mod_init_69 (by decide) ?_
  refine va_cast hx hb hK hP hD hS 4 2 rfl rfl (by unfold vp_in; decide) d_Mod_init_70 (fun H locs hP hD hS => ?_)
  have hP : va_P Dg classes ([(o, .inr (3, [.int 0, .int 0, .ref q7, .ref q15, .int 0, .ref q23, .null, .null, .null, .null, .null, .null, .null, .null, .null, .null, .null])), (q7, .inl (k 2, 80, .inl (fun _ => 0))), (q15, .inl (k 0, 80, .inl (fun _ => 0))), (q23, .inl (k 0, 80, .inl (fun _ => 0))), (q31, .inl (k 2, 80, .inl (upd f7 (Int32.toNatClampNeg 7) (vp_nar .char 0))))]) H := hP
  have hD : va_D (va_A [(o, .inr (3, [.int 0, .int 0, .null, .null, .int 0, .null, .null, .null, .null, .null, .null, .null, .null, .null, .null, .null, .null]))] s.heap.size) ([(o, .inr (3, [.int 0, .int 0, .ref q7, .ref q15, .int 0, .ref q23, .null, .null, .null, .null, .null, .null, .null, .null, .null, .null, .null])), (q7, .inl (k 2, 80, .inl (fun _ => 0))), (q15, .inl (k 0, 80, .inl (fun _ => 0))), (q23, .inl (k 0, 80, .inl (fun _ => 0))), (q31, .inl (k 2, 80, .inl (upd f7 (Int32.toNatClampNeg 7) (vp_nar .char 0))))]) := hD
  obtain ⟨f8, hf8⟩ : ∃ z9 : Nat → Int32, z9 = (upd f7 (Int32.toNatClampNeg 7) (vp_nar .char 0)) := ⟨_, rfl⟩
  rw [← hf8] at hP hD
  refine lv_dup hx hb d_Mod_init_71 rfl ?_
  refine lv_bipush (v := 8) hx hb d_Mod_init_72 (by decide) ?_
  refine lv_bipush (v := 80) hx hb d_Mod_init_74 (by decide) ?_
  refine va_cast hx hb hK hP hD hS 4 2 rfl rfl (by unfold vp_in; decide) d_Mod_init_76 (fun H locs hP hD hS => ?_)
  have hP : va_P Dg classes ([(o, .inr (3, [.int 0, .int 0, .ref q7, .ref q15, .int 0, .ref q23, .null, .null, .null, .null, .null, .null, .null, .null, .null, .null, .null])), (q7, .inl (k 2, 80, .inl (fun _ => 0))), (q15, .inl (k 0, 80, .inl (fun _ => 0))), (q23, .inl (k 0, 80, .inl (fun _ => 0))), (q31, .inl (k 2, 80, .inl (upd f8 (Int32.toNatClampNeg 8) (vp_nar .char 80))))]) H := hP
  have hD : va_D (va_A [(o, .inr (3, [.int 0, .int 0, .null, .null, .int 0, .null, .null, .null, .null, .null, .null, .null, .null, .null, .null, .null, .null]))] s.heap.size) ([(o, .inr (3, [.int 0, .int 0, .ref q7, .ref q15, .int 0, .ref q23, .null, .null, .null, .null, .null, .null, .null, .null, .null, .null, .null])), (q7, .inl (k 2, 80, .inl (fun _ => 0))), (q15, .inl (k 0, 80, .inl (fun _ => 0))), (q23, .inl (k 0, 80, .inl (fun _ => 0))), (q31, .inl (k 2, 80, .inl (upd f8 (Int32.toNatClampNeg 8) (vp_nar .char 80))))]) := hD
  obtain ⟨f9, hf9⟩ : ∃ z9 : Nat → Int32, z9 = (upd f8 (Int32.toNatClampNeg 8) (vp_nar .char 80)) := ⟨_, rfl⟩
  rw [← hf9] at hP hD
  refine lv_dup hx hb d_Mod_init_77 rfl ?_
  refine lv_bipush (v := 9) hx hb d_Mod_init_78 (by decide) ?_
  refine lv_bipush (v := 43) hx hb d_Mod_init_80 (by decide) ?_
  refine va_cast hx hb hK hP hD hS 4 2 rfl rfl (by unfold vp_in; decide) d_Mod_init_82 (fun H locs hP hD hS => ?_)
  have hP : va_P Dg classes ([(o, .inr (3, [.int 0, .int 0, .ref q7, .ref q15, .int 0, .ref q23, .null, .null, .null, .null, .null, .null, .null, .null, .null, .null, .null])), (q7, .inl (k 2, 80, .inl (fun _ => 0))), (q15, .inl (k 0, 80, .inl (fun _ => 0))), (q23, .inl (k 0, 80, .inl (fun _ => 0))), (q31, .inl (k 2, 80, .inl (upd f9 (Int32.toNatClampNeg 9) (vp_nar .char 43))))]) H := hP
  have hD : va_D (va_A [(o, .inr (3, [.int 0, .int 0, .null, .null, .int 0, .null, .null, .null, .null, .null, .null, .null, .null, .null, .null, .null, .null]))] s.heap.size) ([(o, .inr (3, [.int 0, .int 0, .ref q7, .ref q15, .int 0, .ref q23, .null, .null, .null, .null, .null, .null, .null, .null, .null, .null, .null])), (q7, .inl (k 2, 80, .inl (fun _ => 0))), (q15, .inl (k 0, 80, .inl (fun _ => 0))), (q23, .inl (k 0, 80, .inl (fun _ => 0))), (q31, .inl (k 2, 80, .inl (upd f9 (Int32.toNatClampNeg 9) (vp_nar .char 43))))]) := hD
  obtain ⟨f10, hf10⟩ : ∃ z9 : Nat → Int32, z9 = (upd f9 (Int32.toNatClampNeg 9) (vp_nar .char 43)) := ⟨_, rfl⟩
  rw [← hf10] at hP hD
  refine lv_dup hx hb d_Mod_init_83 rfl ?_
  refine lv_bipush (v := 10) hx hb d_Mod_init_84 (by decide) ?_
  refine lv_iconst (v := 0) hx hb d_Mod_init_86 (by decide) ?_
  refine va_cast hx hb hK hP hD hS 4 2 rfl rfl (by unfold vp_in; decide) d_Mod_init_87 (fun H locs hP hD hS => ?_)
  have hP : va_P Dg classes ([(o, .inr (3, [.int 0, .int 0, .ref q7, .ref q15, .int 0, .ref q23, .null, .null, .null, .null, .null, .null, .null, .null, .null, .null, .null])), (q7, .inl (k 2, 80, .inl (fun _ => 0))), (q15, .inl (k 0, 80, .inl (fun _ => 0))), (q23, .inl (k 0, 80, .inl (fun _ => 0))), (q31, .inl (k 2, 80, .inl (upd f10 (Int32.toNatClampNeg 10) (vp_nar .char 0))))]) H := hP
  have hD : va_D (va_A [(o, .inr (3, [.int 0, .int 0, .null, .null, .int 0, .null, .null, .null, .null, .null, .null, .null, .null, .null, .null, .null, .null]))] s.heap.size) ([(o, .inr (3, [.int 0, .int 0, .ref q7, .ref q15, .int 0, .ref q23, .null, .null, .null, .null, .null, .null, .null, .null, .null, .null, .null])), (q7, .inl (k 2, 80, .inl (fun _ => 0))), (q15, .inl (k 0, 80, .inl (fun _ => 0))), (q23, .inl (k 0, 80, .inl (fun _ => 0))), (q31, .inl (k 2, 80, .inl (upd f10 (Int32.toNatClampNeg 10) (vp_nar .char 0))))]) := hD
  obtain ⟨f11, hf11⟩ : ∃ z9 : Nat → Int32, z9 = (upd f10 (Int32.toNatClampNeg 10) (vp_nar .char 0)) := ⟨_, rfl⟩
  rw [← hf11] at hP hD
  refine lv_dup hx hb d_Mod_init_88 rfl ?_
  refine lv_bipush (v := 11) hx hb d_Mod_init_89 (by decide) ?_
  refine lv_iconst (v := 0) hx hb d_Mod_init_91 (by decide) ?_
  refine va_cast hx hb hK hP hD hS 4 2 rfl rfl (by unfold vp_in; decide) d_Mod_init_92 (fun H locs hP hD hS => ?_)
  have hP : va_P Dg classes ([(o, .inr (3, [.int 0, .int 0, .ref q7, .ref q15, .int 0, .ref q23, .null, .null, .null, .null, .null, .null, .null, .null, .null, .null, .null])), (q7, .inl (k 2, 80, .inl (fun _ => 0))), (q15, .inl (k 0, 80, .inl (fun _ => 0))), (q23, .inl (k 0, 80, .inl (fun _ => 0))), (q31, .inl (k 2, 80, .inl (upd f11 (Int32.toNatClampNeg 11) (vp_nar .char 0))))]) H := hP
  have hD : va_D (va_A [(o, .inr (3, [.int 0, .int 0, .null, .null, .int 0, .null, .null, .null, .null, .null, .null, .null, .null, .null, .null, .null, .null]))] s.heap.size) ([(o, .inr (3, [.int 0, .int 0, .ref q7, .ref q15, .int 0, .ref q23, .null, .null, .null, .null, .null, .null, .null, .null, .null, .null, .null])), (q7, .inl (k 2, 80, .inl (fun _ => 0))), (q15, .inl (k 0, 80, .inl (fun _ => 0))), (q23, .inl (k 0, 80, .inl (fun _ => 0))), (q31, .inl (k 2, 80, .inl (upd f11 (Int32.toNatClampNeg 11) (vp_nar .char 0))))]) := hD
  obtain ⟨f12, hf12⟩ : ∃ z9 : Nat → Int32, z9 = (upd f11 (Int32.toNatClampNeg 11) (vp_nar .char 0)) := ⟨_, rfl⟩
  rw [← hf12] at hP hD
  refine lv_dup hx hb d_Mod_init_93 rfl ?_
  refine lv_bipush (v := 12) hx hb d_Mod_init_94 (by decide) ?_
  refine lv_bipush (v := 80) hx hb d_Mod_init_96 (by decide) ?_
  refine va_cast hx hb hK hP hD hS 4 2 rfl rfl (by unfold vp_in; decide) d_Mod_init_98 (fun H locs hP hD hS => ?_)
  have hP : va_P Dg classes ([(o, .inr (3, [.int 0, .int 0, .ref q7, .ref q15, .int 0, .ref q23, .null, .null, .null, .null, .null, .null, .null, .null, .null, .null, .null])), (q7, .inl (k 2, 80, .inl (fun _ => 0))), (q15, .inl (k 0, 80, .inl (fun _ => 0))), (q23, .inl (k 0, 80, .inl (fun _ => 0))), (q31, .inl (k 2, 80, .inl (upd f12 (Int32.toNatClampNeg 12) (vp_nar .char 80))))]) H := hP
  have hD : va_D (va_A [(o, .inr (3, [.int 0, .int 0, .null, .null, .int 0, .null, .null, .null, .null, .null, .null, .null, .null, .null, .null, .null, .null]))] s.heap.size) ([(o, .inr (3, [.int 0, .int 0, .ref q7, .ref q15, .int 0, .ref q23, .null, .null, .null, .null, .null, .null, .null, .null, .null, .null, .null])), (q7, .inl (k 2, 80, .inl (fun _ => 0))), (q15, .inl (k 0, 80, .inl (fun _ => 0))), (q23, .inl (k 0, 80, .inl (fun _ => 0))), (q31, .inl (k 2, 80, .inl (upd f12 (Int32.toNatClampNeg 12) (vp_nar .char 80))))]) := hD
  obtain ⟨f13, hf13⟩ : ∃ z9 : Nat → Int32, z9 = (upd f12 (Int32.toNatClampNeg 12) (vp_nar .char 80)) := ⟨_, rfl⟩
  rw [← hf13] at hP hD
  refine lv_dup hx hb d_Mod_init_99 rfl ?_
  refine lv_bipush (v := 13) hx hb d_Mod_init_100 (by decide) ?_
  refine lv_bipush (v := 45) hx hb d_Mod_init_102 (by decide) ?_
  refine va_cast hx hb hK hP hD hS 4 2 rfl rfl (by unfold vp_in; decide) d_Mod_init_104 (fun H locs hP hD hS => ?_)
  have hP : va_P Dg classes ([(o, .inr (3, [.int 0, .int 0, .ref q7, .ref q15, .int 0, .ref q23, .null, .null, .null, .null, .null, .null, .null, .null, .null, .null, .null])), (q7, .inl (k 2, 80, .inl (fun _ => 0))), (q15, .inl (k 0, 80, .inl (fun _ => 0))), (q23, .inl (k 0, 80, .inl (fun _ => 0))), (q31, .inl (k 2, 80, .inl (upd f13 (Int32.toNatClampNeg 13) (vp_nar .char 45))))]) H := hP
  have hD : va_D (va_A [(o, .inr (3, [.int 0, .int 0, .null, .null, .int 0, .null, .null, .null, .null, .null, .null, .null, .null, .null, .null, .null, .null]))] s.heap.size) ([(o, .inr (3, [.int 0, .int 0, .ref q7, .ref q15, .int 0, .ref q23, .null, .null, .null, .null, .null, .null, .null, .null, .null, .null, .null])), (q7, .inl (k 2, 80, .inl (fun _ => 0))), (q15, .inl (k 0, 80, .inl (fun _ => 0))), (q23, .inl (k 0, 80, .inl (fun _ => 0))), (q31, .inl (k 2, 80, .inl (upd f13 (Int32.toNatClampNeg 13) (vp_nar .char 45))))]) := hD
  obtain ⟨f14, hf14⟩ : ∃ z9 : Nat → Int32, z9 = (upd f13 (Int32.toNatClampNeg 13) (vp_nar .char 45)) := ⟨_, rfl⟩
  rw [← hf14] at hP hD
  refine lv_dup hx hb d_Mod_init_105 rfl ?_
  refine lv_bipush (v := 14) hx hb d_Mod_init_106 (by decide) ?_
  refine lv_iconst (v := 0) hx hb d_Mod_init_108 (by decide) ?_
  refine va_cast hx hb hK hP hD hS 4 2 rfl rfl (by unfold vp_in; decide) d_Mod_init_109 (fun H locs hP hD hS => ?_)
  have hP : va_P Dg classes ([(o, .inr (3, [.int 0, .int 0, .ref q7, .ref q15, .int 0, .ref q23, .null, .null, .null, .null, .null, .null, .null, .null, .null, .null, .null])), (q7, .inl (k 2, 80, .inl (fun _ => 0))), (q15, .inl (k 0, 80, .inl (fun _ => 0))), (q23, .inl (k 0, 80, .inl (fun _ => 0))), (q31, .inl (k 2, 80, .inl (upd f14 (Int32.toNatClampNeg 14) (vp_nar .char 0))))]) H := hP
  have hD : va_D (va_A [(o, .inr (3, [.int 0, .int 0, .null, .null, .int 0, .null, .null, .null, .null, .null, .null, .null, .null, .null, .null, .null, .null]))] s.heap.size) ([(o, .inr (3, [.int 0, .int 0, .ref q7, .ref q15, .int 0, .ref q23, .null, .null, .null, .null, .null, .null, .null, .null, .null, .null, .null])), (q7, .inl (k 2, 80, .inl (fun _ => 0))), (q15, .inl (k 0, 80, .inl (fun _ => 0))), (q23, .inl (k 0, 80, .inl (fun _ => 0))), (q31, .inl (k 2, 80, .inl (upd f14 (Int32.toNatClampNeg 14) (vp_nar .char 0))))]) := hD
  obtain ⟨f15, hf15⟩ : ∃ z9 : Nat → Int32, z9 = (upd f14 (Int32.toNatClampNeg 14) (vp_nar .char 0)) := ⟨_, rfl⟩
  rw [← hf15] at hP hD
  refine lv_dup hx hb d_Mod_init_110 rfl ?_
  refine lv_bipush (v := 15) hx hb d_Mod_init_111 (by decide) ?_
  refine lv_iconst (v := 0) hx hb d_Mod_init_113 (by decide) ?_
  refine va_cast hx hb hK hP hD hS 4 2 rfl rfl (by unfold vp_in; decide) d_Mod_init_114 (fun H locs hP hD hS => ?_)
  have hP : va_P Dg classes ([(o, .inr (3, [.int 0, .int 0, .ref q7, .ref q15, .int 0, .ref q23, .null, .null, .null, .null, .null, .null, .null, .null, .null, .null, .null])), (q7, .inl (k 2, 80, .inl (fun _ => 0))), (q15, .inl (k 0, 80, .inl (fun _ => 0))), (q23, .inl (k 0, 80, .inl (fun _ => 0))), (q31, .inl (k 2, 80, .inl (upd f15 (Int32.toNatClampNeg 15) (vp_nar .char 0))))]) H := hP
  have hD : va_D (va_A [(o, .inr (3, [.int 0, .int 0, .null, .null, .int 0, .null, .null, .null, .null, .null, .null, .null, .null, .null, .null, .null, .null]))] s.heap.size) ([(o, .inr (3, [.int 0, .int 0, .ref q7, .ref q15, .int 0, .ref q23, .null, .null, .null, .null, .null, .null, .null, .null, .null, .null, .null])), (q7, .inl (k 2, 80, .inl (fun _ => 0))), (q15, .inl (k 0, 80, .inl (fun _ => 0))), (q23, .inl (k 0, 80, .inl (fun _ => 0))), (q31, .inl (k 2, 80, .inl (upd f15 (Int32.toNatClampNeg 15) (vp_nar .char 0))))]) := hD
  obtain ⟨f16, hf16⟩ : ∃ z9 : Nat → Int32, z9 = (upd f15 (Int32.toNatClampNeg 15) (vp_nar .char 0)) := ⟨_, rfl⟩
  rw [← hf16] at hP hD
  refine lv_dup hx hb d_Mod_init_115 rfl ?_
  refine lv_bipush (v := 16) hx hb d_Mod_init_116 (by decide) ?_
  refine lv_bipush (v := 76) hx hb d_Mod_init_118 (by decide) ?_
  refine va_cast hx hb hK hP hD hS 4 2 rfl rfl (by unfold vp_in; decide) d_Mod_init_120 (fun H locs hP hD hS => ?_)
  have hP : va_P Dg classes ([(o, .inr (3, [.int 0, .int 0, .ref q7, .ref q15, .int 0, .ref q23, .null, .null, .null, .null, .null, .null, .null, .null, .null, .null, .null])), (q7, .inl (k 2, 80, .inl (fun _ => 0))), (q15, .inl (k 0, 80, .inl (fun _ => 0))), (q23, .inl (k 0, 80, .inl (fun _ => 0))), (q31, .inl (k 2, 80, .inl (upd f16 (Int32.toNatClampNeg 16) (vp_nar .char 76))))]) H := hP
  have hD : va_D (va_A [(o, .inr (3, [.int 0, .int 0, .null, .null, .int 0, .null, .null, .null, .null, .null, .null, .null, .null, .null, .null, .null, .null]))] s.heap.size) ([(o, .inr (3, [.int 0, .int 0, .ref q7, .ref q15, .int 0, .ref q23, .null, .null, .null, .null, .null, .null, .null, .null, .null, .null, .null])), (q7, .inl (k 2, 80, .inl (fun _ => 0))), (q15, .inl (k 0, 80, .inl (fun _ => 0))), (q23, .inl (k 0, 80, .inl (fun _ => 0))), (q31, .inl (k 2, 80, .inl (upd f16 (Int32.toNatClampNeg 16) (vp_nar .char 76))))]) := hD
  obtain ⟨f17, hf17⟩ : ∃ z9 : Nat → Int32, z9 = (upd f16 (Int32.toNatClampNeg 16) (vp_nar .char 76)) := ⟨_, rfl⟩
  rw [← hf17] at hP hD
  refine lv_dup hx hb d_Mod_init_121 rfl ?_
  refine lv_bipush (v := 17) hx hb d_Mod_init_122 (by decide) ?_
  refine lv_bipush (v := 43) hx hb d_Mod_init_124 (by decide) ?_
  refine va_cast hx hb hK hP hD hS 4 2 rfl rfl (by unfold vp_in; decide) d_Mod_init_126 (fun H locs hP hD hS => ?_)
  have hP : va_P Dg classes ([(o, .inr (3, [.int 0, .int 0, .ref q7, .ref q15, .int 0, .ref q23, .null, .null, .null, .null, .null, .null, .null, .null, .null, .null, .null])), (q7, .inl (k 2, 80, .inl (fun _ => 0))), (q15, .inl (k 0, 80, .inl (fun _ => 0))), (q23, .inl (k 0, 80, .inl (fun _ => 0))), (q31, .inl (k 2, 80, .inl (upd f17 (Int32.toNatClampNeg 17) (vp_nar .char 43))))]) H := hP
  have hD : va_D (va_A [(o, .inr (3, [.int 0, .int 0, .null, .null, .int 0, .null, .null, .null, .null, .null, .null, .null, .null, .null, .null, .null, .null]))] s.heap.size) ([(o, .inr (3, [.int 0, .int 0, .ref q7, .ref q15, .int 0, .ref q23, .null, .null, .null, .null, .null, .null, .null, .null, .null, .null, .null])), (q7, .inl (k 2, 80, .inl (fun _ => 0))), (q15, .inl (k 0, 80, .inl (fun _ => 0))), (q23, .inl (k 0, 80, .inl (fun _ => 0))), (q31, .inl (k 2, 80, .inl (upd f17 (Int32.toNatClampNeg 17) (vp_nar .char 43))))]) := hD
  obtain ⟨f18, hf18⟩ : ∃ z9 : Nat → Int32, z9 = (upd f17 (Int32.toNatClampNeg 17) (vp_nar .char 43)) := ⟨_, rfl⟩
  rw [← hf18] at hP hD
  refine lv_dup hx hb d_Mod_init_127 rfl ?_
  refine lv_bipush (v := 18) hx hb d_Mod_init_128 (by decide) ?_
  refine lv_iconst (v := 0) hx hb d_Mod_init_130 (by decide) ?_
  refine va_cast hx hb hK hP hD hS 4 2 rfl rfl (by unfold vp_in; decide) d_Mod_init_131 (fun H locs hP hD hS => ?_)
  have hP : va_P Dg classes ([(o, .inr (3, [.int 0, .int 0, .ref q7, .ref q15, .int 0, .ref q23, .null, .null, .null, .null, .null, .null, .null, .null, .null, .null, .null])), (q7, .inl (k 2, 80, .inl (fun _ => 0))), (q15, .inl (k 0, 80, .inl (fun _ => 0))), (q23, .inl (k 0, 80, .inl (fun _ => 0))), (q31, .inl (k 2, 80, .inl (upd f18 (Int32.toNatClampNeg 18) (vp_nar .char 0))))]) H := hP
  have hD : va_D (va_A [(o, .inr (3, [.int 0, .int 0, .null, .null, .int 0, .null, .null, .null, .null, .null, .null, .null, .null, .null, .null, .null, .null]))] s.heap.size) ([(o, .inr (3, [.int 0, .int 0, .ref q7, .ref q15, .int 0, .ref q23, .null, .null, .null, .null, .null, .null, .null, .null, .null, .null, .null])), (q7, .inl (k 2, 80, .inl (fun _ => 0))), (q15, .inl (k 0, 80, .inl (fun _ => 0))), (q23, .inl (k 0, 80, .inl (fun _ => 0))), (q31, .inl (k 2, 80, .inl (upd f18 (Int32.toNatClampNeg 18) (vp_nar .char 0))))]) := hD
  obtain ⟨f19, hf19⟩ : ∃ z9 : Nat → Int32, z9 = (upd f18 (Int32.toNatClampNeg 18) (vp_nar .char 0)) := ⟨_, rfl⟩
  rw [← hf19] at hP hD
  refine lv_dup hx hb d_Mod_init_132 rfl ?_
  refine lv_bipush (v := 19) hx hb d_Mod_init_133 (by decide) ?_
  refine lv_iconst (v := 0) hx hb d_Mod_init_135 (by decide) ?_
  refine va_cast hx hb hK hP hD hS 4 2 rfl rfl (by unfold vp_in; decide) d_Mod_init_136 (fun H locs hP hD hS => ?_)
  have hP : va_P Dg classes ([(o, .inr (3, [.int 0, .int 0, .ref q7, .ref q15, .int 0, .ref q23, .null, .null, .null, .null, .null, .null, .null, .null, .null, .null, .null])), (q7, .inl (k 2, 80, .inl (fun _ => 0))), (q15, .inl (k 0, 80, .inl (fun _ => 0))), (q23, .inl (k 0, 80, .inl (fun _ => 0))), (q31, .inl (k 2, 80, .inl (upd f19 (Int32.toNatClampNeg 19) (vp_nar .char 0))))]) H := hP
  have hD : va_D (va_A [(o, .inr (3, [.int 0, .int 0, .null, .null, .int 0, .null, .null, .null, .null, .null, .null, .null, .null, .null, .null, .null, .null]))] s.heap.size) ([(o, .inr (3, [.int 0, .int 0, .ref q7, .ref q15, .int 0, .ref q23, .null, .null, .null, .null, .null, .null, .null, .null, .null, .null, .null])), (q7, .inl (k 2, 80, .inl (fun _ => 0))), (q15, .inl (k 0, 80, .inl (fun _ => 0))), (q23, .inl (k 0, 80, .inl (fun _ => 0))), (q31, .inl (k 2, 80, .inl (upd f19 (Int32.toNatClampNeg 19) (vp_nar .char 0))))]) := hD
  obtain ⟨f20, hf20⟩ : ∃ z9 : Nat → Int32, z9 = (upd f19 (Int32.toNatClampNeg 19) (vp_nar .char 0)) := ⟨_, rfl⟩
  rw [← hf20] at hP hD
  refine lv_dup hx hb d_Mod_init_137 rfl ?_
  refine lv_bipush (v := 20) hx hb d_Mod_init_138 (by decide) ?_
  refine lv_bipush (v := 68) hx hb d_Mod_init_140 (by decide) ?_
  refine va_cast hx hb hK hP hD hS 4 2 rfl rfl (by unfold vp_in; decide) d_Mod_init_142 (fun H locs hP hD hS => ?_)
  have hP : va_P Dg classes ([(o, .inr (3, [.int 0, .int 0, .ref q7, .ref q15, .int 0, .ref q23, .null, .null, .null, .null, .null, .null, .null, .null, .null, .null, .null])), (q7, .inl (k 2, 80, .inl (fun _ => 0))), (q15, .inl (k 0, 80, .inl (fun _ => 0))), (q23, .inl (k 0, 80, .inl (fun _ => 0))), (q31, .inl (k 2, 80, .inl (upd f20 (Int32.toNatClampNeg 20) (vp_nar .char 68))))]) H := hP
  have hD : va_D (va_A [(o, .inr (3, [.int 0, .int 0, .null, .null, .int 0, .null, .null, .null, .null, .null, .null, .null, .null, .null, .null, .null, .null]))] s.heap.size) ([(o, .inr (3, [.int 0, .int 0, .ref q7, .ref q15, .int 0, .ref q23, .null, .null, .null, .null, .null, .null, .null, .null, .null, .null, .null])), (q7, .inl (k 2, 80, .inl (fun _ => 0))), (q15, .inl (k 0, 80, .inl (fun _ => 0))), (q23, .inl (k 0, 80, .inl (fun _ => 0))), (q31, .inl (k 2, 80, .inl (upd f20 (Int32.toNatClampNeg 20) (vp_nar .char 68))))]) := hD
  obtain ⟨f21, hf21⟩ : ∃ z9 : Nat → Int32, z9 = (upd f20 (Int32.toNatClampNeg 20) (vp_nar .char 68)) := ⟨_, rfl⟩
  rw [← hf21] at hP hD
  refine lv_dup hx hb d_Mod_init_143 rfl ?_
  refine lv_bipush (v := 21) hx hb d_Mod_init_144 (by decide) ?_
  refine lv_bipush (v := 88) hx hb d_Mod_init_146 (by decide) ?_
  refine va_cast hx hb hK hP hD hS 4 2 rfl rfl (by unfold vp_in; decide) d_Mod_init_148 (fun H locs hP hD hS => ?_)
  have hP : va_P Dg classes ([(o, .inr (3, [.int 0, .int 0, .ref q7, .ref q15, .int 0, .ref q23, .null, .null, .null, .null, .null, .null, .null, .null, .null, .null, .null])), (q7, .inl (k 2, 80, .inl (fun _ => 0))), (q15, .inl (k 0, 80, .inl (fun _ => 0))), (q23, .inl (k 0, 80, .inl (fun _ => 0))), (q31, .inl (k 2, 80, .inl (upd f21 (Int32.toNatClampNeg 21) (vp_nar .char 88))))]) H := hP
  have hD : va_D (va_A [(o, .inr (3, [.int 0, .int 0, .null, .null, .int 0, .null, .null, .null, .null, .null, .null, .null, .null, .null, .null, .null, .null]))] s.heap.size) ([(o, .inr (3, [.int 0, .int 0, .ref q7, .ref q15, .int 0, .ref q23, .null, .null, .null, .null, .null, .null, .null, .null, .null, .null, .null])), (q7, .inl (k 2, 80, .inl (fun _ => 0))), (q15, .inl (k 0, 80, .inl (fun _ => 0))), (q23, .inl (k 0, 80, .inl (fun _ => 0))), (q31, .inl (k 2, 80, .inl (upd f21 (Int32.toNatClampNeg 21) (vp_nar .char 88))))]) := hD
  obtain ⟨f22, hf22⟩ : ∃ z9 : Nat → Int32, z9 = (upd f21 (Int32.toNatClampNeg 21) (vp_nar .char 88)) := ⟨_, rfl⟩
  rw [← hf22] at hP hD
  refine lv_dup hx hb d_Mod_init_149 rfl ?_
  refine lv_bipush (v := 22) hx hb d_Mod_init_150 (by decide) ?_
  refine lv_iconst (v := 0) hx hb d_Mod_init_152 (by decide) ?_
  refine va_cast hx hb hK hP hD hS 4 2 rfl rfl (by unfold vp_in; decide) d_Mod_init_153 (fun H locs hP hD hS => ?_)
  have hP : va_P Dg classes ([(o, .inr (3, [.int 0, .int 0, .ref q7, .ref q15, .int 0, .ref q23, .null, .null, .null, .null, .null, .null, .null, .null, .null, .null, .null])), (q7, .inl (k 2, 80, .inl (fun _ => 0))), (q15, .inl (k 0, 80, .inl (fun _ => 0))), (q23, .inl (k 0, 80, .inl (fun _ => 0))), (q31, .inl (k 2, 80, .inl (upd f22 (Int32.toNatClampNeg 22) (vp_nar .char 0))))]) H := hP
  have hD : va_D (va_A [(o, .inr (3, [.int 0, .int 0, .null, .null, .int 0, .null, .null, .null, .null, .null, .null, .null, .null, .null, .null, .null, .null]))] s.heap.size) ([(o, .inr (3, [.int 0, .int 0, .ref q7, .ref q15, .int 0, .ref q23, .null, .null, .null, .null, .null, .null, .null, .null, .null, .null, .null])), (q7, .inl (k 2, 80, .inl (fun _ => 0))), (q15, .inl (k 0, 80, .inl (fun _ => 0))), (q23, .inl (k 0, 80, .inl (fun _ => 0))), (q31, .inl (k 2, 80, .inl (upd f22 (Int32.toNatClampNeg 22) (vp_nar .char 0))))]) := hD
  obtain ⟨f23, hf23⟩ : ∃ z9 : Nat → Int32, z9 = (upd f22 (Int32.toNatClampNeg 22) (vp_nar .char 0)) := ⟨_, rfl⟩
  rw [← hf23] at hP hD
  refine lv_dup hx hb d_Mod_init_154 rfl ?_
  refine lv_bipush (v := 23) hx hb d_Mod_init_155 (by decide) ?_
  refine lv_iconst (v := 0) hx hb d_Mod_init_157 (by decide) ?_
  refine va_cast hx hb hK hP hD hS 4 2 rfl rfl (by unfold vp_in; decide) d_Mod_init_158 (fun H locs hP hD hS => ?_)
  have hP : va_P Dg classes ([(o, .inr (3, [.int 0, .int 0, .ref q7, .ref q15, .int 0, .ref q23, .null, .null, .null, .null, .null, .null, .null, .null, .null, .null, .null])), (q7, .inl (k 2, 80, .inl (fun _ => 0))), (q15, .inl (k 0, 80, .inl (fun _ => 0))), (q23, .inl (k 0, 80, .inl (fun _ => 0))), (q31, .inl (k 2, 80, .inl (upd f23 (Int32.toNatClampNeg 23) (vp_nar .char 0))))]) H := hP
  have hD : va_D (va_A [(o, .inr (3, [.int 0, .int 0, .null, .null, .int 0, .null, .null, .null, .null, .null, .null, .null, .null, .null, .null, .null, .null]))] s.heap.size) ([(o, .inr (3, [.int 0, .int 0, .ref q7, .ref q15, .int 0, .ref q23, .null, .null, .null, .null, .null, .null, .null, .null, .null, .null, .null])), (q7, .inl (k 2, 80, .inl (fun _ => 0))), (q15, .inl (k 0, 80, .inl (fun _ => 0))), (q23, .inl (k 0, 80, .inl (fun _ => 0))), (q31, .inl (k 2, 80, .inl (upd f23 (Int32.toNatClampNeg 23) (vp_nar .char 0))))]) := hD
  obtain ⟨f24, hf24⟩ : ∃ z9 : Nat → Int32, z9 = (upd f23 (Int32.toNatClampNeg 23) (vp_nar .char 0)) := ⟨_, rfl⟩
  rw [← hf24] at hP hD
  refine lv_dup hx hb d_Mod_init_159 rfl ?_
  refine lv_bipush (v := 24) hx hb d_Mod_init_160 (by decide) ?_
  refine lv_bipush (v := 68) hx hb d_Mod_init_162 (by decide) ?_
  refine va_cast hx hb hK hP hD hS 4 2 rfl rfl (by unfold vp_in; decide) d_Mod_init_164 (fun H locs hP hD hS => ?_)
  have hP : va_P Dg classes ([(o, .inr (3, [.int 0, .int 0, .ref q7, .ref q15, .int 0, .ref q23, .null, .null, .null, .null, .null, .null, .null, .null, .null, .null, .null])), (q7, .inl (k 2, 80, .inl (fun _ => 0))), (q15, .inl (k 0, 80, .inl (fun _ => 0))), (q23, .inl (k 0, 80, .inl (fun _ => 0))), (q31, .inl (k 2, 80, .inl (upd f24 (Int32.toNatClampNeg 24) (vp_nar .char 68))))]) H := hP
  have hD : va_D (va_A [(o, .inr (3, [.int 0, .int 0, .null, .null, .int 0, .null, .null, .null, .null, .null, .null, .null, .null, .null, .null, .null, .null]))] s.heap.size) ([(o, .inr (3, [.int 0, .int 0, .ref q7, .ref q15, .int 0, .ref q23, .null, .null, .null, .null, .null, .null, .null, .null, .null, .null, .null])), (q7, .inl (k 2, 80, .inl (fun _ => 0))), (q15, .inl (k 0, 80, .inl (fun _ => 0))), (q23, .inl (k 0, 80, .inl (fun _ => 0))), (q31, .inl (k 2, 80, .inl (upd f24 (Int32.toNatClampNeg 24) (vp_nar .char 68))))]) := hD
  obtain ⟨f25, hf25⟩ : ∃ z9 : Nat → Int32, z9 = (upd f24 (Int32.toNatClampNeg 24) (vp_nar .char 68)) := ⟨_, rfl⟩
  rw [← hf25] at hP hD
  refine lv_dup hx hb d_Mod_init_165 rfl ?_
  refine lv_bipush (v := 25) hx hb d_Mod_init_166 (by decide) ?_
  refine lv_bipush (v := 42) hx hb d_Mod_init_168 (by decide) ?_
  refine va_cast hx hb hK hP hD hS 4 2 rfl rfl (by unfold vp_in; decide) d_Mod_init_170 (fun H locs hP hD hS => ?_)
  have hP : va_P Dg classes ([(o, .inr (3, [.int 0, .int 0, .ref q7, .ref q15, .int 0, .ref q23, .null, .null, .null, .null, .null, .null, .null, .null, .null, .null, .null])), (q7, .inl (k 2, 80, .inl (fun _ => 0))), (q15, .inl (k 0, 80, .inl (fun _ => 0))), (q23, .inl (k 0, 80, .inl (fun _ => 0))), (q31, .inl (k 2, 80, .inl (upd f25 (Int32.toNatClampNeg 25) (vp_nar .char 42))))]) H := hP
  have hD : va_D (va_A [(o, .inr (3, [.int 0, .int 0, .null, .null, .int 0, .null, .null, .null, .null, .null, .null, .null, .null, .null, .null, .null, .null]))] s.heap.size) ([(o, .inr (3, [.int 0, .int 0, .ref q7, .ref q15, .int 0, .ref q23, .null, .null, .null, .null, .null, .null, .null, .null, .null, .null, .null])), (q7, .inl (k 2, 80, .inl (fun _ => 0))), (q15, .inl (k 0, 80, .inl (fun _ => 0))), (q23, .inl (k 0, 80, .inl (fun _ => 0))), (q31, .inl (k 2, 80, .inl (upd f25 (Int32.toNatClampNeg 25) (vp_nar .char 42))))]) := hD
  obtain ⟨f26, hf26⟩ : ∃ z9 : Nat → Int32, z9 = (upd f25 (Int32.toNatClampNeg 25) (vp_nar .char 42)) := ⟨_, rfl⟩
  rw [← hf26] at hP hD
  refine lv_dup hx hb d_Mod_init_171 rfl ?_
  refine lv_bipush (v := 26) hx hb d_Mod_init_172 (by decide) ?_
  refine lv_iconst (v := 0) hx hb d_Mod_init_174 (by decide) ?_
  refine va_cast hx hb hK hP hD hS 4 2 rfl rfl (by unfold vp_in; decide) d_Mod_init_175 (fun H locs hP hD hS => ?_)
  have hP : va_P Dg classes ([(o, .inr (3, [.int 0, .int 0, .ref q7, .ref q15, .int 0, .ref q23, .null, .null, .null, .null, .null, .null, .null, .null, .null, .null, .null])), (q7, .inl (k 2, 80, .inl (fun _ => 0))), (q15, .inl (k 0, 80, .inl (fun _ => 0))), (q23, .inl (k 0, 80, .inl (fun _ => 0))), (q31, .inl (k 2, 80, .inl (upd f26 (Int32.toNatClampNeg 26) (vp_nar .char 0))))]) H := hP
  have hD : va_D (va_A [(o, .inr (3, [.int 0, .int 0, .null, .null, .int 0, .null, .null, .null, .null, .null, .null, .null, .null, .null, .null, .null, .null]))] s.heap.size) ([(o, .inr (3, [.int 0, .int 0, .ref q7, .ref q15, .int 0, .ref q23, .null, .null, .null, .null, .null, .null, .null, .null, .null, .null, .null])), (q7, .inl (k 2, 80, .inl (fun _ => 0))), (q15, .inl (k 0, 80, .inl (fun _ => 0))), (q23, .inl (k 0, 80, .inl (fun _ => 0))), (q31, .inl (k 2, 80, .inl (upd f26 (Int32.toNatClampNeg 26) (vp_nar .char 0))))]) := hD
  obtain ⟨f27, hf27⟩ : ∃ z9 : Nat → Int32, z9 = (upd f26 (Int32.toNatClampNeg 26) (vp_nar .char 0)) := ⟨_, rfl⟩
  rw [← hf27] at hP hD
  refine lv_dup hx hb d_Mod_init_176 rfl ?_
  refine lv_bipush (v := 27) hx hb d_Mod_init_177 (by decide) ?_
  refine lv_iconst (v := 0) hx hb d_Mod_init_179 (by decide) ?_
  refine va_cast hx hb hK hP hD hS 4 2 rfl rfl (by unfold vp_in; decide) d_Mod_init_180 (fun H locs hP hD hS => ?_)
  have hP : va_P Dg classes ([(o, .inr (3, [.int 0, .int 0, .ref q7, .ref q15, .int 0, .ref q23, .null, .null, .null, .null, .null, .null, .null, .null, .null, .null, .null])), (q7, .inl (k 2, 80, .inl (fun _ => 0))), (q15, .inl (k 0, 80, .inl (fun _ => 0))), (q23, .inl (k 0, 80, .inl (fun _ => 0))), (q31, .inl (k 2, 80, .inl (upd f27 (Int32.toNatClampNeg 27) (vp_nar .char 0))))]) H := hP
  have hD : va_D (va_A [(o, .inr (3, [.int 0, .int 0, .null, .null, .int 0, .null, .null, .null, .null, .null, .null, .null, .null, .null, .null, .null, .null]))] s.heap.size) ([(o, .inr (3, [.int 0, .int 0, .ref q7, .ref q15, .int 0, .ref q23, .null, .null, .null, .null, .null, .null, .null, .null, .null, .null, .null])), (q7, .inl (k 2, 80, .inl (fun _ => 0))), (q15, .inl (k 0, 80, .inl (fun _ => 0))), (q23, .inl (k 0, 80, .inl (fun _ => 0))), (q31, .inl (k 2, 80, .inl (upd f27 (Int32.toNatClampNeg 27) (vp_nar .char 0))))]) := hD
  obtain ⟨f28, hf28⟩ : ∃ z9 : Nat → Int32, z9 = (upd f27 (Int32.toNatClampNeg 27) (vp_nar .char 0)) := ⟨_, rfl⟩
  rw [← hf28] at hP hD
  refine lv_dup hx hb d_Mod_init_181 rfl ?_
  refine lv_bipush (v := 28) hx hb d_Mod_init_182 (by decide) ?_
  refine lv_bipush (v := 60) hx hb d_Mod_init_184 (by decide) ?_
  refine va_cast hx hb hK hP hD hS 4 2 rfl rfl (by unfold vp_in; decide) d_Mod_init_186 (fun H locs hP hD hS => ?_)
  have hP : va_P Dg classes ([(o, .inr (3, [.int 0, .int 0, .ref q7, .ref q15, .int 0, .ref q23, .null, .null, .null, .null, .null, .null, .null, .null, .null, .null, .null])), (q7, .inl (k 2, 80, .inl (fun _ => 0))), (q15, .inl (k 0, 80, .inl (fun _ => 0))), (q23, .inl (k 0, 80, .inl (fun _ => 0))), (q31, .inl (k 2, 80, .inl (upd f28 (Int32.toNatClampNeg 28) (vp_nar .char 60))))]) H := hP
  have hD : va_D (va_A [(o, .inr (3, [.int 0, .int 0, .null, .null, .int 0, .null, .null, .null, .null, .null, .null, .null, .null, .null, .null, .null, .null]))] s.heap.size) ([(o, .inr (3, [.int 0, .int 0, .ref q7, .ref q15, .int 0, .ref q23, .null, .null, .null, .null, .null, .null, .null, .null, .null, .null, .null])), (q7, .inl (k 2, 80, .inl (fun _ => 0))), (q15, .inl (k 0, 80, .inl (fun _ => 0))), (q23, .inl (k 0, 80, .inl (fun _ => 0))), (q31, .inl (k 2, 80, .inl (upd f28 (Int32.toNatClampNeg 28) (vp_nar .char 60))))]) := hD
  obtain ⟨f29, hf29⟩ : ∃ z9 : Nat → Int32, z9 = (upd f28 (Int32.toNatClampNeg 28) (vp_nar .char 60)) := ⟨_, rfl⟩
  rw [← hf29] at hP hD
  refine lv_dup hx hb d_Mod_init_187 rfl ?_
  refine lv_bipush (v := 29) hx hb d_Mod_init_188 (by decide) ?_
  refine lv_bipush (v := 90) hx hb d_Mod_init_190 (by decide) ?_
  refine va_cast hx hb hK hP hD hS 4 2 rfl rfl (by unfold vp_in; decide) d_Mod_init_192 (fun H locs hP hD hS => ?_)
  have hP : va_P Dg classes ([(o, .inr (3, [.int 0, .int 0, .ref q7, .ref q15, .int 0, .ref q23, .null, .null, .null, .null, .null, .null, .null, .null, .null, .null, .null])), (q7, .inl (k 2, 80, .inl (fun _ => 0))), (q15, .inl (k 0, 80, .inl (fun _ => 0))), (q23, .inl (k 0, 80, .inl (fun _ => 0))), (q31, .inl (k 2, 80, .inl (upd f29 (Int32.toNatClampNeg 29) (vp_nar .char 90))))]) H := hP
  have hD : va_D (va_A [(o, .inr (3, [.int 0, .int 0, .null, .null, .int 0, .null, .null, .null, .null, .null, .null, .null, .null, .null, .null, .null, .null]))] s.heap.size) ([(o, .inr (3, [.int 0, .int 0, .ref q7, .ref q15, .int 0, .ref q23, .null, .null, .null, .null, .null, .null, .null, .null, .null, .null, .null])), (q7, .inl (k 2, 80, .inl (fun _ => 0))), (q15, .inl (k 0, 80, .inl (fun _ => 0))), (q23, .inl (k 0, 80, .inl (fun _ => 0))), (q31, .inl (k 2, 80, .inl (upd f29 (Int32.toNatClampNeg 29) (vp_nar .char 90))))]) := hD
  obtain ⟨f30, hf30⟩ : ∃ z9 : Nat → Int32, z9 = (upd f29 (Int32.toNatClampNeg 29) (vp_nar .char 90)) := ⟨_, rfl⟩
  rw [← hf30] at hP hD
  refine lv_dup hx hb d_Mod_init_193 rfl ?_
  refine lv_bipush (v := 30) hx hb d_Mod_init_194 (by decide) ?_
  refine lv_iconst (v := 0) hx hb d_Mod_init_196 (by decide) ?_
  refine va_cast hx hb hK hP hD hS 4 2 rfl rfl (by unfold vp_in; decide) d_Mod_init_197 (fun H locs hP hD hS => ?_)
  have hP : va_P Dg classes ([(o, .inr (3, [.int 0, .int 0, .ref q7, .ref q15, .int 0, .ref q23, .null, .null, .null, .null, .null, .null, .null, .null, .null, .null, .null])), (q7, .inl (k 2, 80, .inl (fun _ => 0))), (q15, .inl (k 0, 80, .inl (fun _ => 0))), (q23, .inl (k 0, 80, .inl (fun _ => 0))), (q31, .inl (k 2, 80, .inl (upd f30 (Int32.toNatClampNeg 30) (vp_nar .char 0))))]) H := hP
  have hD : va_D (va_A [(o, .inr (3, [.int 0, .int 0, .null, .null, .int 0, .null, .null, .null, .null, .null, .null, .null, .null, .null, .null, .null, .null]))] s.heap.size) ([(o, .inr (3, [.int 0, .int 0, .ref q7, .ref q15, .int 0, .ref q23, .null, .null, .null, .null, .null, .null, .null, .null, .null, .null, .null])), (q7, .inl (k 2, 80, .inl (fun _ => 0))), (q15, .inl (k 0, 80, .inl (fun _ => 0))), (q23, .inl (k 0, 80, .inl (fun _ => 0))), (q31, .inl (k 2, 80, .inl (upd f30 (Int32.toNatClampNeg 30) (vp_nar .char 0))))]) := hD
  obtain ⟨f31, hf31⟩ : ∃ z9 : Nat → Int32, z9 = (upd f30 (Int32.toNatClampNeg 30) (vp_nar .char 0)) := ⟨_, rfl⟩
  rw [← hf31] at hP hD
  refine lv_dup hx hb d_Mod_init_198 rfl ?_
  refine lv_bipush (v := 31) hx hb d_Mod_init_199 (by decide) ?_
  refine lv_iconst (v := 0) hx hb d_Mod_init_201 (by decide) ?_
  refine va_cast hx hb hK hP hD hS 4 2 rfl rfl (by unfold vp_in; decide) d_Mod_init_202 (fun H locs hP hD hS => ?_)
  have hP : va_P Dg classes ([(o, .inr (3, [.int 0, .int 0, .ref q7, .ref q15, .int 0, .ref q23, .null, .null, .null, .null, .null, .null, .null, .null, .null, .null, .null])), (q7, .inl (k 2, 80, .inl (fun _ => 0))), (q15, .inl (k 0, 80, .inl (fun _ => 0))), (q23, .inl (k 0, 80, .inl (fun _ => 0))), (q31, .inl (k 2, 80, .inl (upd f31 (Int32.toNatClampNeg 31) (vp_nar .char 0))))]) H := hP
  have hD : va_D (va_A [(o, .inr (3, [.int 0, .int 0, .null, .null, .int 0, .null, .null, .null, .null, .null, .null, .null, .null, .null, .null, .null, .null]))] s.heap.size) ([(o, .inr (3, [.int 0, .int 0, .ref q7, .ref q15, .int 0, .ref q23, .null, .null, .null, .null, .null, .null, .null, .null, .null, .null, .null])), (q7, .inl (k 2, 80, .inl (fun _ => 0))), (q15, .inl (k 0, 80, .inl (fun _ => 0))), (q23, .inl (k 0, 80, .inl (fun _ => 0))), (q31, .inl (k 2, 80, .inl (upd f31 (Int32.toNatClampNeg 31) (vp_nar .char 0))))]) := hD
  obtain ⟨f32, hf32⟩ : ∃ z9 : Nat → Int32, z9 = (upd f31 (Int32.toNatClampNeg 31) (vp_nar .char 0)) := ⟨_, rfl⟩
  rw [← hf32] at hP hD
  refine lv_dup hx hb d_Mod_init_203 rfl ?_
  refine lv_bipush (v := 32) hx hb d_Mod_init_204 (by decide) ?_
  refine lv_bipush (v := 61) hx hb d_Mod_init_206 (by decide) ?_
  refine va_cast hx hb hK hP hD hS 4 2 rfl rfl (by unfold vp_in; decide) d_Mod_init_208 (fun H locs hP hD hS => ?_)
  have hP : va_P Dg classes ([(o, .inr (3, [.int 0, .int 0, .ref q7, .ref q15, .int 0, .ref q23, .null, .null, .null, .null, .null, .null, .null, .null, .null, .null, .null])), (q7, .inl (k 2, 80, .inl (fun _ => 0))), (q15, .inl (k 0, 80, .inl (fun _ => 0))), (q23, .inl (k 0, 80, .inl (fun _ => 0))), (q31, .inl (k 2, 80, .inl (upd f32 (Int32.toNatClampNeg 32) (vp_nar .char 61))))]) H := hP
  have hD : va_D (va_A [(o, .inr (3, [.int 0, .int 0, .null, .null, .int 0, .null, .null, .null, .null, .null, .null, .null, .null, .null, .null, .null, .null]))] s.heap.size) ([(o, .inr (3, [.int 0, .int 0, .ref q7, .ref q15, .int 0, .ref q23, .null, .null, .null, .null, .null, .null, .null, .null, .null, .null, .null])), (q7, .inl (k 2, 80, .inl (fun _ => 0))), (q15, .inl (k 0, 80, .inl (fun _ => 0))), (q23, .inl (k 0, 80, .inl (fun _ => 0))), (q31, .inl (k 2, 80, .inl (upd f32 (Int32.toNatClampNeg 32) (vp_nar .char 61))))]) := hD
  obtain ⟨f33, hf33⟩ : ∃ z9 : Nat → Int32, z9 = (upd f32 (Int32.toNatClampNeg 32) (vp_nar .char 61)) := ⟨_, rfl⟩
  rw [← hf33] at hP hD
  refine lv_dup hx hb d_Mod_init_209 rfl ?_
  refine lv_bipush (v := 33) hx hb d_Mod_init_210 (by decide) ?_
  refine lv_bipush (v := 90) hx hb d_Mod_init_212 (by decide) ?_
  refine va_cast hx hb hK hP hD hS 4 2 rfl rfl (by unfold vp_in; decide) d_Mod_init_214 (fun H locs hP hD hS => ?_)
  have hP : va_P Dg classes ([(o, .inr (3, [.int 0, .int 0, .ref q7, .ref q15, .int 0, .ref q23, .null, .null, .null, .null, .null, .null, .null, .null, .null, .null, .null])), (q7, .inl (k 2, 80, .inl (fun _ => 0))), (q15, .inl (k 0, 80, .inl (fun _ => 0))), (q23, .inl (k 0, 80, .inl (fun _ => 0))), (q31, .inl (k 2, 80, .inl (upd f33 (Int32.toNatClampNeg 33) (vp_nar .char 90))))]) H := hP
  have hD : va_D (va_A [(o, .inr (3, [.int 0, .int 0, .null, .null, .int 0, .null, .null, .null, .null, .null, .null, .null, .null, .null, .null, .null, .null]))] s.heap.size) ([(o, .inr (3, [.int 0, .int 0, .ref q7, .ref q15, .int 0, .ref q23, .null, .null, .null, .null, .null, .null, .null, .null, .null, .null, .null])), (q7, .inl (k 2, 80, .inl (fun _ => 0))), (q15, .inl (k 0, 80, .inl (fun _ => 0))), (q23, .inl (k 0, 80, .inl (fun _ => 0))), (q31, .inl (k 2, 80, .inl (upd f33 (Int32.toNatClampNeg 33) (vp_nar .char 90))))]) := hD
  obtain ⟨f34, hf34⟩ : ∃ z9 : Nat → Int32, z9 = (upd f33 (Int32.toNatClampNeg 33) (vp_nar .char 90)) := ⟨_, rfl⟩
  rw [← hf34] at hP hD
  refine lv_dup hx hb d_Mod_init_215 rfl ?_
  refine lv_bipush (v := 34) hx hb d_Mod_init_216 (by decide) ?_
  refine lv_iconst (v := 0) hx hb d_Mod_init_218 (by decide) ?_
  refine va_cast hx hb hK hP hD hS 4 2 rfl rfl (by unfold vp_in; decide) d_Mod_init_219 (fun H locs hP hD hS => ?_)
  have hP : va_P Dg classes ([(o, .inr (3, [.int 0, .int 0, .ref q7, .ref q15, .int 0, .ref q23, .null, .null, .null, .null, .null, .null, .null, .null, .null, .null, .null])), (q7, .inl (k 2, 80, .inl (fun _ => 0))), (q15, .inl (k 0, 80, .inl (fun _ => 0))), (q23, .inl (k 0, 80, .inl (fun _ => 0))), (q31, .inl (k 2, 80, .inl (upd f34 (Int32.toNatClampNeg 34) (vp_nar .char 0))))]) H := hP
  have hD : va_D (va_A [(o, .inr (3, [.int 0, .int 0, .null, .null, .int 0, .null, .null, .null, .null, .null, .null, .null, .null, .null, .null, .null, .null]))] s.heap.size) ([(o, .inr (3, [.int 0, .int 0, .ref q7, .ref q15, .int 0, .ref q23, .null, .null, .null, .null, .null, .null, .null, .null, .null, .null, .null])), (q7, .inl (k 2, 80, .inl (fun _ => 0))), (q15, .inl (k 0, 80, .inl (fun _ => 0))), (q23, .inl (k 0, 80, .inl (fun _ => 0))), (q31, .inl (k 2, 80, .inl (upd f34 (Int32.toNatClampNeg 34) (vp_nar .char 0))))]) := hD
  obtain ⟨f35, hf35⟩ : ∃ z9 : Nat → Int32, z9 = (upd f34 (Int32.toNatClampNeg 34) (vp_nar .char 0)) := ⟨_, rfl⟩
  rw [← hf35] at hP hD
  refine lv_dup hx hb d_Mod_init_220 rfl ?_
  refine lv_bipush (v := 35) hx hb d_Mod_init_221 (by decide) ?_
  refine lv_iconst (v := 0) hx hb d_Mod_init_223 (by decide) ?_
  refine va_cast hx hb hK hP hD hS 4 2 rfl rfl (by unfold vp_in; decide) d_Mod_init_224 (fun H locs hP hD hS => ?_)
  have hP : va_P Dg classes ([(o, .inr (3, [.int 0, .int 0, .ref q7, .ref q15, .int 0, .ref q23, .null, .null, .null, .null, .null, .null, .null, .null, .null, .null, .null])), (q7, .inl (k 2, 80, .inl (fun _ => 0))), (q15, .inl (k 0, 80, .inl (fun _ => 0))), (q23, .inl (k 0, 80, .inl (fun _ => 0))), (q31, .inl (k 2, 80, .inl (upd f35 (Int32.toNatClampNeg 35) (vp_nar .char 0))))]) H := hP
  have hD : va_D (va_A [(o, .inr (3, [.int 0, .int 0, .null, .null, .int 0, .null, .null, .null, .null, .null, .null, .null, .null, .null, .null, .null, .null]))] s.heap.size) ([(o, .inr (3, [.int 0, .int 0, .ref q7, .ref q15, .int 0, .ref q23, .null, .null, .null, .null, .null, .null, .null, .null, .null, .null, .null])), (q7, .inl (k 2, 80, .inl (fun _ => 0))), (q15, .inl (k 0, 80, .inl (fun _ => 0))), (q23, .inl (k 0, 80, .inl (fun _ => 0))), (q31, .inl (k 2, 80, .inl (upd f35 (Int32.toNatClampNeg 35) (vp_nar .char 0))))]) := hD
  obtain ⟨f36, hf36⟩ : ∃ z9 : Nat → Int32, z9 = (upd f35 (Int32.toNatClampNeg 35) (vp_nar .char 0)) := ⟨_, rfl⟩
  rw [← hf36] at hP hD
  refine lv_dup hx hb d_Mod_init_225 rfl ?_
  refine lv_bipush (v := 36) hx hb d_Mod_init_226 (by decide) ?_
  refine lv_bipush (v := 83) hx hb d_Mod_init_228 (by decide) ?_
  refine va_cast hx hb hK hP hD hS 4 2 rfl rfl (by unfold vp_in; decide) d_Mod_init_230 (fun H locs hP hD hS => ?_)
  have hP : va_P Dg classes ([(o, .inr (3, [.int 0, .int 0, .ref q7, .ref q15, .int 0, .ref q23, .null, .null, .null, .null, .null, .null, .null, .null, .null, .null, .null])), (q7, .inl (k 2, 80, .inl (fun _ => 0))), (q15, .inl (k 0, 80, .inl (fun _ => 0))), (q23, .inl (k 0, 80, .inl (fun _ => 0))), (q31, .inl (k 2, 80, .inl (upd f36 (Int32.toNatClampNeg 36) (vp_nar .char 83))))]) H := hP
  have hD : va_D (va_A [(o, .inr (3, [.int 0, .int 0, .null, .null, .int 0, .null, .null, .null, .null, .null, .null, .null, .null, .null, .null, .null, .null]))] s.heap.size) ([(o, .inr (3, [.int 0, .int 0, .ref q7, .ref q15, .int 0, .ref q23, .null, .null, .null, .null, .null, .null, .null, .null, .null, .null, .null])), (q7, .inl (k 2, 80, .inl (fun _ => 0))), (q15, .inl (k 0, 80, .inl (fun _ => 0))), (q23, .inl (k 0, 80, .inl (fun _ => 0))), (q31, .inl (k 2, 80, .inl (upd f36 (Int32.toNatClampNeg 36) (vp_nar .char 83))))]) := hD
  obtain ⟨f37, hf37⟩ : ∃ z9 : Nat → Int32, z9 = (upd f36 (Int32.toNatClampNeg 36) (vp_nar .char 83)) := ⟨_, rfl⟩
  rw [← hf37] at hP hD
  refine lv_dup hx hb d_Mod_init_231 rfl ?_
  refine lv_bipush (v := 37) hx hb d_Mod_init_232 (by decide) ?_
  refine lv_bipush (v := 76) hx hb d_Mod_init_234 (by decide) ?_
  refine va_cast hx hb hK hP hD hS 4 2 rfl rfl (by unfold vp_in; decide) d_Mod_init_236 (fun H locs hP hD hS => ?_)
  have hP : va_P Dg classes ([(o, .inr (3, [.int 0, .int 0, .ref q7, .ref q15, .int 0, .ref q23, .null, .null, .null, .null, .null, .null, .null, .null, .null, .null, .null])), (q7, .inl (k 2, 80, .inl (fun _ => 0))), (q15, .inl (k 0, 80, .inl (fun _ => 0))), (q23, .inl (k 0, 80, .inl (fun _ => 0))), (q31, .inl (k 2, 80, .inl (upd f37 (Int32.toNatClampNeg 37) (vp_nar .char 76))))]) H := hP
  have hD : va_D (va_A [(o, .inr (3, [.int 0, .int 0, .null, .null, .int 0, .null, .null, .null, .null, .null, .null, .null, .null, .null, .null, .null, .null]))] s.heap.size) ([(o, .inr (3, [.int 0, .int 0, .ref q7, .ref q15, .int 0, .ref q23, .null, .null, .null, .null, .null, .null, .null, .null, .null, .null, .null])), (q7, .inl (k 2, 80, .inl (fun _ => 0))), (q15, .inl (k 0, 80, .inl (fun _ => 0))), (q23, .inl (k 0, 80, .inl (fun _ => 0))), (q31, .inl (k 2, 80, .inl (upd f37 (Int32.toNatClampNeg 37) (vp_nar .char 76))))]) := hD
  obtain ⟨f38, hf38⟩ : ∃ z9 : Nat → Int32, z9 = (upd f37 (Int32.toNatClampNeg 37) (vp_nar .char 76)) := ⟨_, rfl⟩
  rw [← hf38] at hP hD
  refine lv_dup hx hb d_Mod_init_237 rfl ?_
  refine lv_bipush (v := 38) hx hb d_Mod_init_238 (by decide) ?_
  refine lv_iconst (v := 0) hx hb d_Mod_init_240 (by decide) ?_
  refine va_cast hx hb hK hP hD hS 4 2 rfl rfl (by unfold vp_in; decide) d_Mod_init_241 (fun H locs hP hD hS => ?_)
  have hP : va_P Dg classes ([(o, .inr (3, [.int 0, .int 0, .ref q7, .ref q15, .int 0, .ref q23, .null, .null, .null, .null, .null, .null, .null, .null, .null, .null, .null])), (q7, .inl (k 2, 80, .inl (fun _ => 0))), (q15, .inl (k 0, 80, .inl (fun _ => 0))), (q23, .inl (k 0, 80, .inl (fun _ => 0))), (q31, .inl (k 2, 80, .inl (upd f38 (Int32.toNatClampNeg 38) (vp_nar .char 0))))]) H := hP
  have hD : va_D (va_A [(o, .inr (3, [.int 0, .int 0, .null, .null, .int 0, .null, .null, .null, .null, .null, .null, .null, .null, .null, .null, .null, .null]))] s.heap.size) ([(o, .inr (3, [.int 0, .int 0, .ref q7, .ref q15, .int 0, .ref q23, .null, .null, .null, .null, .null, .null, .null, .null, .null, .null, .null])), (q7, .inl (k 2, 80, .inl (fun _ => 0))), (q15, .inl (k 0, 80, .inl (fun _ => 0))), (q23, .inl (k 0, 80, .inl (fun _ => 0))), (q31, .inl (k 2, 80, .inl (upd f38 (Int32.toNatClampNeg 38) (vp_nar .char 0))))]) := hD
  obtain ⟨f39, hf39⟩ : ∃ z9 : Nat → Int32, z9 = (upd f38 (Int32.toNatClampNeg 38) (vp_nar .char 0)) := ⟨_, rfl⟩
  rw [← hf39] at hP hD
  refine lv_dup hx hb d_Mod_init_242 rfl ?_
  refine lv_bipush (v := 39) hx hb d_Mod_init_243 (by decide) ?_
  refine lv_iconst (v := 0) hx hb d_Mod_init_245 (by decide) ?_
  refine va_cast hx hb hK hP hD hS 4 2 rfl rfl (by unfold vp_in; decide) d_Mod_init_246 (fun H locs hP hD hS => ?_)
  have hP : va_P Dg classes ([(o, .inr (3, [.int 0, .int 0, .ref q7, .ref q15, .int 0, .ref q23, .null, .null, .null, .null, .null, .null, .null, .null, .null, .null, .null])), (q7, .inl (k 2, 80, .inl (fun _ => 0))), (q15, .inl (k 0, 80, .inl (fun _ => 0))), (q23, .inl (k 0, 80, .inl (fun _ => 0))), (q31, .inl (k 2, 80, .inl (upd f39 (Int32.toNatClampNeg 39) (vp_nar .char 0))))]) H := hP
  have hD : va_D (va_A [(o, .inr (3, [.int 0, .int 0, .null, .null, .int 0, .null, .null, .null, .null, .null, .null, .null, .null, .null, .null, .null, .null]))] s.heap.size) ([(o, .inr (3, [.int 0, .int 0, .ref q7, .ref q15, .int 0, .ref q23, .null, .null, .null, .null, .null, .null, .null, .null, .null, .null, .null])), (q7, .inl (k 2, 80, .inl (fun _ => 0))), (q15, .inl (k 0, 80, .inl (fun _ => 0))), (q23, .inl (k 0, 80, .inl (fun _ => 0))), (q31, .inl (k 2, 80, .inl (upd f39 (Int32.toNatClampNeg 39) (vp_nar .char 0))))]) := hD
  obtain ⟨f40, hf40⟩ : ∃ z9 : Nat → Int32, z9 = (upd f39 (Int32.toNatClampNeg 39) (vp_nar .char 0)) := ⟨_, rfl⟩
  rw [← hf40] at hP hD
  refine lv_dup hx hb d_Mod_init_247 rfl ?_
  refine lv_bipush (v := 40) hx hb d_Mod_init_248 (by decide) ?_
  refine lv_bipush (v := 80) hx hb d_Mod_init_250 (by decide) ?_
  refine va_cast hx hb hK hP hD hS 4 2 rfl rfl (by unfold vp_in; decide) d_Mod_init_252 (fun H locs hP hD hS => ?_)
  have hP : va_P Dg classes ([(o, .inr (3, [.int 0, .int 0, .ref q7, .ref q15, .int 0, .ref q23, .null, .null, .null, .null, .null, .null, .null, .null, .null, .null, .null])), (q7, .inl (k 2, 80, .inl (fun _ => 0))), (q15, .inl (k 0, 80, .inl (fun _ => 0))), (q23, .inl (k 0, 80, .inl (fun _ => 0))), (q31, .inl (k 2, 80, .inl (upd f40 (Int32.toNatClampNeg 40) (vp_nar .char 80))))]) H := hP
  have hD : va_D (va_A [(o, .inr (3, [.int 0, .int 0, .null, .null, .int 0, .null, .null, .null, .null, .null, .null, .null, .null, .null, .null, .null, .null]))] s.heap.size) ([(o, .inr (3, [.int 0, .int 0, .ref q7, .ref q15, .int 0, .ref q23, .null, .null, .null, .null, .null, .null, .null, .null, .null, .null, .null])), (q7, .inl (k 2, 80, .inl (fun _ => 0))), (q15, .inl (k 0, 80, .inl (fun _ => 0))), (q23, .inl (k 0, 80, .inl (fun _ => 0))), (q31, .inl (k 2, 80, .inl (upd f40 (Int32.toNatClampNeg 40) (vp_nar .char 80))))]) := hD
  obtain ⟨f41, hf41⟩ : ∃ z9 : Nat → Int32, z9 = (upd f40 (Int32.toNatClampNeg 40) (vp_nar .char 80)) := ⟨_, rfl⟩
  rw [← hf41] at hP hD
  refine lv_dup hx hb d_Mod_init_253 rfl ?_
  refine lv_bipush (v := 41) hx hb d_Mod_init_254 (by decide) ?_
  refine lv_bipush (v := 83) hx hb d_Mod_init_256 (by decide) ?_
  refine va_cast hx hb hK hP hD hS 4 2 rfl rfl (by unfold vp_in; decide) d_Mod_init_258 (fun H locs hP hD hS => ?_)
  have hP : va_P Dg classes ([(o, .inr (3, [.int 0, .int 0, .ref q7, .ref q15, .int 0, .ref q23, .null, .null, .null, .null, .null, .null, .null, .null, .null, .null, .null])), (q7, .inl (k 2, 80, .inl (fun _ => 0))), (q15, .inl (k 0, 80, .inl (fun _ => 0))), (q23, .inl (k 0, 80, .inl (fun _ => 0))), (q31, .inl (k 2, 80, .inl (upd f41 (Int32.toNatClampNeg 41) (vp_nar .char 83))))]) H := hP
  have hD : va_D (va_A [(o, .inr (3, [.int 0, .int 0, .null, .null, .int 0, .null, .null, .null, .null, .null, .null, .null, .null, .null, .null, .null, .null]))] s.heap.size) ([(o, .inr (3, [.int 0, .int 0, .ref q7, .ref q15, .int 0, .ref q23, .null, .null, .null, .null, .null, .null, .null, .null, .null, .null, .null])), (q7, .inl (k 2, 80, .inl (fun _ => 0))), (q15, .inl (k 0, 80, .inl (fun _ => 0))), (q23, .inl (k 0, 80, .inl (fun _ => 0))), (q31, .inl (k 2, 80, .inl (upd f41 (Int32.toNatClampNeg 41) (vp_nar .char 83))))]) := hD
  obtain ⟨f42, hf42⟩ : ∃ z9 : Nat → Int32, z9 = (upd f41 (Int32.toNatClampNeg 41) (vp_nar .char 83)) := ⟨_, rfl⟩
  rw [← hf42] at hP hD
  refine lv_dup hx hb d_Mod_init_259 rfl ?_
  refine lv_bipush (v := 42) hx hb d_Mod_init_260 (by decide) ?_
  refine lv_iconst (v := 0) hx hb d_Mod_init_262 (by decide) ?_
  refine va_cast hx hb hK hP hD hS 4 2 rfl rfl (by unfold vp_in; decide) d_Mod_init_263 (fun H locs hP hD hS => ?_)
  have hP : va_P Dg classes ([(o, .inr (3, [.int 0, .int 0, .ref q7, .ref q15, .int 0, .ref q23, .null, .null, .null, .null, .null, .null, .null, .null, .null, .null, .null])), (q7, .inl (k 2, 80, .inl (fun _ => 0))), (q15, .inl (k 0, 80, .inl (fun _ => 0))), (q23, .inl (k 0, 80, .inl (fun _ => 0))), (q31, .inl (k 2, 80, .inl (upd f42 (Int32.toNatClampNeg 42) (vp_nar .char 0))))]) H := hP
  have hD : va_D (va_A [(o, .inr (3, [.int 0, .int 0, .null, .null, .int 0, .null, .null, .null, .null, .null, .null, .null, .null, .null, .null, .null, .null]))] s.heap.size) ([(o, .inr (3, [.int 0, .int 0, .ref q7, .ref q15, .int 0, .ref q23, .null, .null, .null, .null, .null, .null, .null, .null, .null, .null, .null])), (q7, .inl (k 2, 80, .inl (fun _ => 0))), (q15, .inl (k 0, 80, .inl (fun _ => 0))), (q23, .inl (k 0, 80, .inl (fun _ => 0))), (q31, .inl (k 2, 80, .inl (upd f42 (Int32.toNatClampNeg 42) (vp_nar .char 0))))]) := hD
  obtain ⟨f43, hf43⟩ : ∃ z9 : Nat → Int32, z9 = (upd f42 (Int32.toNatClampNeg 42) (vp_nar .char 0)) := ⟨_, rfl⟩
  rw [← hf43] at hP hD
  refine lv_dup hx hb d_Mod_init_264 rfl ?_
  refine lv_bipush (v := 43) hx hb d_Mod_init_265 (by decide) ?_
  refine lv_iconst (v := 0) hx hb d_Mod_init_267 (by decide) ?_
  refine va_cast hx hb hK hP hD hS 4 2 rfl rfl (by unfold vp_in; decide) d_Mod_init_268 (fun H locs hP hD hS => ?_)
  have hP : va_P Dg classes ([(o, .inr (3, [.int 0, .int 0, .ref q7, .ref q15, .int 0, .ref q23, .null, .null, .null, .null, .null, .null, .null, .null, .null, .null, .null])), (q7, .inl (k 2, 80, .inl (fun _ => 0))), (q15, .inl (k 0, 80, .inl (fun _ => 0))), (q23, .inl (k 0, 80, .inl (fun _ => 0))), (q31, .inl (k 2, 80, .inl (upd f43 (Int32.toNatClampNeg 43) (vp_nar .char 0))))]) H := hP
  have hD : va_D (va_A [(o, .inr (3, [.int 0, .int 0, .null, .null, .int 0, .null, .null, .null, .null, .null, .null, .null, .null, .null, .null, .null, .null]))] s.heap.size) ([(o, .inr (3, [.int 0, .int 0, .ref q7, .ref q15, .int 0, .ref q23, .null, .null, .null, .null, .null, .null, .null, .null, .null, .null, .null])), (q7, .inl (k 2, 80, .inl (fun _ => 0))), (q15, .inl (k 0, 80, .inl (fun _ => 0))), (q23, .inl (k 0, 80, .inl (fun _ => 0))), (q31, .inl (k 2, 80, .inl (upd f43 (Int32.toNatClampNeg 43) (vp_nar .char 0))))]) := hD
  obtain ⟨f44, hf44⟩ : ∃ z9 : Nat → Int32, z9 = (upd f43 (Int32.toNatClampNeg 43) (vp_nar .char 0)) := ⟨_, rfl⟩
  rw [← hf44] at hP hD
  refine lv_dup hx hb d_Mod_init_269 rfl ?_
  refine lv_bipush (v := 44) hx hb d_Mod_init_270 (by decide) ?_
  refine lv_bipush (v := 76) hx hb d_Mod_init_272 (by decide) ?_
  refine va_cast hx hb hK hP hD hS 4 2 rfl rfl (by unfold vp_in; decide) d_Mod_init_274 (fun H locs hP hD hS => ?_)
  have hP : va_P Dg classes ([(o, .inr (3, [.int 0, .int 0, .ref q7, .ref q15, .int 0, .ref q23, .null, .null, .null, .null, .null, .null, .null, .null, .null, .null, .null])), (q7, .inl (k 2, 80, .inl (fun _ => 0))), (q15, .inl (k 0, 80, .inl (fun _ => 0))), (q23, .inl (k 0, 80, .inl (fun _ => 0))), (q31, .inl (k 2, 80, .inl (upd f44 (Int32.toNatClampNeg 44) (vp_nar .char 76))))]) H := hP
  have hD : va_D (va_A [(o, .inr (3, [.int 0, .int 0, .null, .null, .int 0, .null, .null, .null, .null, .null, .null, .null, .null, .null, .null, .null, .null]))] s.heap.size) ([(o, .inr (3, [.int 0, .int 0, .ref q7, .ref q15, .int 0, .ref q23, .null, .null, .null, .null, .null, .null, .null, .null, .null, .null, .null])), (q7, .inl (k 2, 80, .inl (fun _ => 0))), (q15, .inl (k 0, 80, .inl (fun _ => 0))), (q23, .inl (k 0, 80, .inl (fun _ => 0))), (q31, .inl (k 2, 80, .inl (upd f44 (Int32.toNatClampNeg 44) (vp_nar .char 76))))]) := hD
  obtain ⟨f45, hf45⟩ : ∃ z9 : Nat → Int32, z9 = (upd f44 (Int32.toNatClampNeg 44) (vp_nar .char 76)) := ⟨_, rfl⟩
  rw [← hf45] at hP hD
  refine lv_dup hx hb d_Mod_init_275 rfl ?_
  refine lv_bipush (v := 45) hx hb d_Mod_init_276 (by decide) ?_
  refine lv_bipush (v := 76) hx hb d_Mod_init_278 (by decide) ?_
  refine va_cast hx hb hK hP hD hS 4 2 rfl rfl (by unfold vp_in; decide) d_Mod_init_280 (fun H locs hP hD hS => ?_)
  have hP : va_P Dg classes ([(o, .inr (3, [.int 0, .int 0, .ref q7, .ref q15, .int 0, .ref q23, .null, .null, .null, .null, .null, .null, .null, .null, .null, .null, .null])), (q7, .inl (k 2, 80, .inl (fun _ => 0))), (q15, .inl (k 0, 80, .inl (fun _ => 0))), (q23, .inl (k 0, 80, .inl (fun _ => 0))), (q31, .inl (k 2, 80, .inl (upd f45 (Int32.toNatClampNeg 45) (vp_nar .char 76))))]) H := hP
  have hD : va_D (va_A [(o, .inr (3, [.int 0, .int 0, .null, .null, .int 0, .null, .null, .null, .null, .null, .null, .null, .null, .null, .null, .null, .null]))] s.heap.size) ([(o, .inr (3, [.int 0, .int 0, .ref q7, .ref q15, .int 0, .ref q23, .null, .null, .null, .null, .null, .null, .null, .null, .null, .null, .null])), (q7, .inl (k 2, 80, .inl (fun _ => 0))), (q15, .inl (k 0, 80, .inl (fun _ => 0))), (q23, .inl (k 0, 80, .inl (fun _ => 0))), (q31, .inl (k 2, 80, .inl (upd f45 (Int32.toNatClampNeg 45) (vp_nar .char 76))))]) := hD
  obtain ⟨f46, hf46⟩ : ∃ z9 : Nat → Int32, z9 = (upd f45 (Int32.toNatClampNeg 45) (vp_nar .char 76)) := ⟨_, rfl⟩
  rw [← hf46] at hP hD
  refine lv_dup hx hb d_Mod_init_281 rfl ?_
  refine lv_bipush (v := 46) hx hb d_Mod_init_282 (by decide) ?_
  refine lv_bipush (v := 43) hx hb d_Mod_init_284 (by decide) ?_
  refine va_cast hx hb hK hP hD hS 4 2 rfl rfl (by unfold vp_in; decide) d_Mod_init_286 (fun H locs hP hD hS => ?_)
  have hP : va_P Dg classes ([(o, .inr (3, [.int 0, .int 0, .ref q7, .ref q15, .int 0, .ref q23, .null, .null, .null, .null, .null, .null, .null, .null, .null, .null, .null])), (q7, .inl (k 2, 80, .inl (fun _ => 0))), (q15, .inl (k 0, 80, .inl (fun _ => 0))), (q23, .inl (k 0, 80, .inl (fun _ => 0))), (q31, .inl (k 2, 80, .inl (upd f46 (Int32.toNatClampNeg 46) (vp_nar .char 43))))]) H := hP
  have hD : va_D (va_A [(o, .inr (3, [.int 0, .int 0, .null, .null, .int 0, .null, .null, .null, .null, .null, .null, .null, .null, .null, .null, .null, .null]))] s.heap.size) ([(o, .inr (3, [.int 0, .int 0, .ref q7, .ref q15, .int 0, .ref q23, .null, .null, .null, .null, .null, .null, .null, .null, .null, .null, .null])), (q7, .inl (k 2, 80, .inl (fun _ => 0))), (q15, .inl (k 0, 80, .inl (fun _ => 0))), (q23, .inl (k 0, 80, .inl (fun _ => 0))), (q31, .inl (k 2, 80, .inl (upd f46 (Int32.toNatClampNeg 46) (vp_nar .char 43))))]) := hD
  obtain ⟨f47, hf47⟩ : ∃ z9 : Nat → Int32, z9 = (upd f46 (Int32.toNatClampNeg 46) (vp_nar .char 43)) := ⟨_, rfl⟩
  rw [← hf47] at hP hD
  refine lv_dup hx hb d_Mod_init_287 rfl ?_
  refine lv_bipush (v := 47) hx hb d_Mod_init_288 (by decide) ?_
  refine lv_iconst (v := 0) hx hb d_Mod_init_290 (by decide) ?_
  refine va_cast hx hb hK hP hD hS 4 2 rfl rfl (by unfold vp_in; decide) d_Mod_init_291 (fun H locs hP hD hS => ?_)
  have hP : va_P Dg classes ([(o, .inr (3, [.int 0, .int 0, .ref q7, .ref q15, .int 0, .ref q23, .null, .null, .null, .null, .null, .null, .null, .null, .null, .null, .null])), (q7, .inl (k 2, 80, .inl (fun _ => 0))), (q15, .inl (k 0, 80, .inl (fun _ => 0))), (q23, .inl (k 0, 80, .inl (fun _ => 0))), (q31, .inl (k 2, 80, .inl (upd f47 (Int32.toNatClampNeg 47) (vp_nar .char 0))))]) H := hP
  have hD : va_D (va_A [(o, .inr (3, [.int 0, .int 0, .null, .null, .int 0, .null, .null, .null, .null, .null, .null, .null, .null, .null, .null, .null, .null]))] s.heap.size) ([(o, .inr (3, [.int 0, .int 0, .ref q7, .ref q15, .int 0, .ref q23, .null, .null, .null, .null, .null, .null, .null, .null, .null, .null, .null])), (q7, .inl (k 2, 80, .inl (fun _ => 0))), (q15, .inl (k 0, 80, .inl (fun _ => 0))), (q23, .inl (k 0, 80, .inl (fun _ => 0))), (q31, .inl (k 2, 80, .inl (upd f47 (Int32.toNatClampNeg 47) (vp_nar .char 0))))]) := hD
  obtain ⟨f48, hf48⟩ : ∃ z9 : Nat → Int32, z9 = (upd f47 (Int32.toNatClampNeg 47) (vp_nar .char 0)) := ⟨_, rfl⟩
  rw [← hf48] at hP hD
  refine lv_dup hx hb d_Mod_init_292 rfl ?_
  refine lv_bipush (v := 48) hx hb d_Mod_init_293 (by decide) ?_
  refine lv_bipush (v := 76) hx hb d_Mod_init_295 (by decide) ?_
  refine va_cast hx hb hK hP hD hS 4 2 rfl rfl (by unfold vp_in; decide) d_Mod_init_297 (fun H locs hP hD hS => ?_)
  have hP : va_P Dg classes ([(o, .inr (3, [.int 0, .int 0, .ref q7, .ref q15, .int 0, .ref q23, .null, .null, .null, .null, .null, .null, .null, .null, .null, .null, .null])), (q7, .inl (k 2, 80, .inl (fun _ => 0))), (q15, .inl (k 0, 80, .inl (fun _ => 0))), (q23, .inl (k 0, 80, .inl (fun _ => 0))), (q31, .inl (k 2, 80, .inl (upd f48 (Int32.toNatClampNeg 48) (vp_nar .char 76))))]) H := hP
  have hD : va_D (va_A [(o, .inr (3, [.int 0, .int 0, .null, .null, .int 0, .null, .null, .null, .null, .null, .null, .null, .null, .null, .null, .null, .null]))] s.heap.size) ([(o, .inr (3, [.int 0, .int 0, .ref q7, .ref q15, .int 0, .ref q23, .null, .null, .null, .null, .null, .null, .null, .null, .null, .null, .null])), (q7, .inl (k 2, 80, .inl (fun _ => 0))), (q15, .inl (k 0, 80, .inl (fun _ => 0))), (q23, .inl (k 0, 80, .inl (fun _ => 0))), (q31, .inl (k 2, 80, .inl (upd f48 (Int32.toNatClampNeg 48) (vp_nar .char 76))))]) := hD
  obtain ⟨f49, hf49⟩ : ∃ z9 : Nat → Int32, z9 = (upd f48 (Int32.toNatClampNeg 48) (vp_nar .char 76)) := ⟨_, rfl⟩
  rw [← hf49] at hP hD
  refine lv_dup hx hb d_Mod_init_298 rfl ?_
  refine lv_bipush (v := 49) hx hb d_Mod_init_299 (by decide) ?_
  refine lv_bipush (v := 80) hx hb d_Mod_init_301 (by decide) ?_
  refine va_cast hx hb hK hP hD hS 4 2 rfl rfl (by unfold vp_in; decide) d_Mod_init_303 (fun H locs hP hD hS => ?_)
  have hP : va_P Dg classes ([(o, .inr (3, [.int 0, .int 0, .ref q7, .ref q15, .int 0, .ref q23, .null, .null, .null, .null, .null, .null, .null, .null, .null, .null, .null])), (q7, .inl (k 2, 80, .inl (fun _ => 0))), (q15, .inl (k 0, 80, .inl (fun _ => 0))), (q23, .inl (k 0, 80, .inl (fun _ => 0))), (q31, .inl (k 2, 80, .inl (upd f49 (Int32.toNatClampNeg 49) (vp_nar .char 80))))]) H := hP
  have hD : va_D (va_A [(o, .inr (3, [.int 0, .int 0, .null, .null, .int 0, .null, .null, .null, .null, .null, .null, .null, .null, .null, .null, .null, .null]))] s.heap.size) ([(o, .inr (3, [.int 0, .int 0, .ref q7, .ref q15, .int 0, .ref q23, .null, .null, .null, .null, .null, .null, .null, .null, .null, .null, .null])), (q7, .inl (k 2, 80, .inl (fun _ => 0))), (q15, .inl (k 0, 80, .inl (fun _ => 0))), (q23, .inl (k 0, 80, .inl (fun _ => 0))), (q31, .inl (k 2, 80, .inl (upd f49 (Int32.toNatClampNeg 49) (vp_nar .char 80))))]) := hD
  obtain ⟨f50, hf50⟩ : ∃ z9 : Nat → Int32, z9 = (upd f49 (Int32.toNatClampNeg 49) (vp_nar .char 80)) := ⟨_, rfl⟩
  rw [← hf50] at hP hD
  refine lv_dup hx hb d_Mod_init_304 rfl ?_
  refine lv_bipush (v := 50) hx hb d_Mod_init_305 (by decide) ?_
  refine lv_bipush (v := 43) hx hb d_Mod_init_307 (by decide) ?_
  refine va_cast hx hb hK hP hD hS 4 2 rfl rfl (by unfold vp_in; decide) d_Mod_init_309 (fun H locs hP hD hS => ?_)
  have hP : va_P Dg classes ([(o, .inr (3, [.int 0, .int 0, .ref q7, .ref q15, .int 0, .ref q23, .null, .null, .null, .null, .null, .null, .null, .null, .null, .null, .null])), (q7, .inl (k 2, 80, .inl (fun _ => 0))), (q15, .inl (k 0, 80, .inl (fun _ => 0))), (q23, .inl (k 0, 80, .inl (fun _ => 0))), (q31, .inl (k 2, 80, .inl (upd f50 (Int32.toNatClampNeg 50) (vp_nar .char 43))))]) H := hP
  have hD : va_D (va_A [(o, .inr (3, [.int 0, .int 0, .null, .null, .int 0, .null, .null, .null, .null, .null, .null, .null, .null, .null, .null, .null, .null]))] s.heap.size) ([(o, .inr (3, [.int 0, .int 0, .ref q7, .ref q15, .int 0, .ref q23, .null, .null, .null, .null, .null, .null, .null, .null, .null, .null, .null])), (q7, .inl (k 2, 80, .inl (fun _ => 0))), (q15, .inl (k 0, 80, .inl (fun _ => 0))), (q23, .inl (k 0, 80, .inl (fun _ => 0))), (q31, .inl (k 2, 80, .inl (upd f50 (Int32.toNatClampNeg 50) (vp_nar .char 43))))]) := hD
  obtain ⟨f51, hf51⟩ : ∃ z9 : Nat → Int32, z9 = (upd f50 (Int32.toNatClampNeg 50) (vp_nar .char 43)) := ⟨_, rfl⟩
  rw [← hf51] at hP hD
  refine lv_dup hx hb d_Mod_init_310 rfl ?_
  refine lv_bipush (v := 51) hx hb d_Mod_init_311 (by decide) ?_
  refine lv_iconst (v := 0) hx hb d_Mod_init_313 (by decide) ?_
  refine va_cast hx hb hK hP hD hS 4 2 rfl rfl (by unfold vp_in; decide) d_Mod_init_314 (fun H locs hP hD hS => ?_)
  have hP : va_P Dg classes ([(o, .inr (3, [.int 0, .int 0, .ref q7, .ref q15, .int 0, .ref q23, .null, .null, .null, .null, .null, .null, .null, .null, .null, .null, .null])), (q7, .inl (k 2, 80, .inl (fun _ => 0))), (q15, .inl (k 0, 80, .inl (fun _ => 0))), (q23, .inl (k 0, 80, .inl (fun _ => 0))), (q31, .inl (k 2, 80, .inl (upd f51 (Int32.toNatClampNeg 51) (vp_nar .char 0))))]) H := hP
  have hD : va_D (va_A [(o, .inr (3, [.int 0, .int 0, .null, .null, .int 0, .null, .null, .null, .null, .null, .null, .null, .null, .null, .null, .null, .null]))] s.heap.size) ([(o, .inr (3, [.int 0, .int 0, .ref q7, .ref q15, .int 0, .ref q23, .null, .null, .null, .null, .null, .null, .null, .null, .null, .null, .null])), (q7, .inl (k 2, 80, .inl (fun _ => 0))), (q15, .inl (k 0, 80, .inl (fun _ => 0))), (q23, .inl (k 0, 80, .inl (fun _ => 0))), (q31, .inl (k 2, 80, .inl (upd f51 (Int32.toNatClampNeg 51) (vp_nar .char 0))))]) := hD
  obtain ⟨f52, hf52⟩ : ∃ z9 : Nat → Int32, z9 = (upd f51 (Int32.toNatClampNeg 51) (vp_nar .char 0)) := ⟨_, rfl⟩
  rw [← hf52] at hP hD
  refine lv_dup hx hb d_Mod_init_315 rfl ?_
  refine lv_bipush (v := 52) hx hb d_Mod_init_316 (by decide) ?_
  refine lv_bipush (v := 76) hx hb d_Mod_init_318 (by decide) ?_
  refine va_cast hx hb hK hP hD hS 4 2 rfl rfl (by unfold vp_in; decide) d_Mod_init_320 (fun H locs hP hD hS => ?_)
  have hP : va_P Dg classes ([(o, .inr (3, [.int 0, .int 0, .ref q7, .ref q15, .int 0, .ref q23, .null, .null, .null, .null, .null, .null, .null, .null, .null, .null, .null])), (q7, .inl (k 2, 80, .inl (fun _ => 0))), (q15, .inl (k 0, 80, .inl (fun _ => 0))), (q23, .inl (k 0, 80, .inl (fun _ => 0))), (q31, .inl (k 2, 80, .inl (upd f52 (Int32.toNatClampNeg 52) (vp_nar .char 76))))]) H := hP
  have hD : va_D (va_A [(o, .inr (3, [.int 0, .int 0, .null, .null, .int 0, .null, .null, .null, .null, .null, .null, .null, .null, .null, .null, .null, .null]))] s.heap.size) ([(o, .inr (3, [.int 0, .int 0, .ref q7, .ref q15, .int 0, .ref q23, .null, .null, .null, .null, .null, .null, .null, .null, .null, .null, .null])), (q7, .inl (k 2, 80, .inl (fun _ => 0))), (q15, .inl (k 0, 80, .inl (fun _ => 0))), (q23, .inl (k 0, 80, .inl (fun _ => 0))), (q31, .inl (k 2, 80, .inl (upd f52 (Int32.toNatClampNeg 52) (vp_nar .char 76))))]) := hD
  obtain ⟨f53, hf53⟩ : ∃ z9 : Nat → Int32, z9 = (upd f52 (Int32.toNatClampNeg 52) (vp_nar .char 76)) := ⟨_, rfl⟩
  rw [← hf53] at hP hD
  refine lv_dup hx hb d_Mod_init_321 rfl ?_
  refine lv_bipush (v := 53) hx hb d_Mod_init_322 (by decide) ?_
  refine lv_bipush (v := 80) hx hb d_Mod_init_324 (by decide) ?_
  refine va_cast hx hb hK hP hD hS 4 2 rfl rfl (by unfold vp_in; decide) d_Mod_init_326 (fun H locs hP hD hS => ?_)
  have hP : va_P Dg classes ([(o, .inr (3, [.int 0, .int 0, .ref q7, .ref q15, .int 0, .ref q23, .null, .null, .null, .null, .null, .null, .null, .null, .null, .null, .null])), (q7, .inl (k 2, 80, .inl (fun _ => 0))), (q15, .inl (k 0, 80, .inl (fun _ => 0))), (q23, .inl (k 0, 80, .inl (fun _ => 0))), (q31, .inl (k 2, 80, .inl (upd f53 (Int32.toNatClampNeg 53) (vp_nar .char 80))))]) H := hP
  have hD : va_D (va_A [(o, .inr (3, [.int 0, .int 0, .null, .null, .int 0, .null, .null, .null, .null, .null, .null, .null, .null, .null, .null, .null, .null]))] s.heap.size) ([(o, .inr (3, [.int 0, .int 0, .ref q7, .ref q15, .int 0, .ref q23, .null, .null, .null, .null, .null, .null, .null, .null, .null, .null, .null])), (q7, .inl (k 2, 80, .inl (fun _ => 0))), (q15, .inl (k 0, 80, .inl (fun _ => 0))), (q23, .inl (k 0, 80, .inl (fun _ => 0))), (q31, .inl (k 2, 80, .inl (upd f53 (Int32.toNatClampNeg 53) (vp_nar .char 80))))]) := hD
  obtain ⟨f54, hf54⟩ : ∃ z9 : Nat → Int32, z9 = (upd f53 (Int32.toNatClampNeg 53) (vp_nar .char 80)) := ⟨_, rfl⟩
  rw [← hf54] at hP hD
  refine lv_dup hx hb d_Mod_init_327 rfl ?_
  refine lv_bipush (v := 54) hx hb d_Mod_init_328 (by decide) ?_
  refine lv_bipush (v := 60) hx hb d_Mod_init_330 (by decide) ?_
  refine va_cast hx hb hK hP hD hS 4 2 rfl rfl (by unfold vp_in; decide) d_Mod_init_332 (fun H locs hP hD hS => ?_)
  have hP : va_P Dg classes ([(o, .inr (3, [.int 0, .int 0, .ref q7, .ref q15, .int 0, .ref q23, .null, .null, .null, .null, .null, .null, .null, .null, .null, .null, .null])), (q7, .inl (k 2, 80, .inl (fun _ => 0))), (q15, .inl (k 0, 80, .inl (fun _ => 0))), (q23, .inl (k 0, 80, .inl (fun _ => 0))), (q31, .inl (k 2, 80, .inl (upd f54 (Int32.toNatClampNeg 54) (vp_nar .char 60))))]) H := hP
  have hD : va_D (va_A [(o, .inr (3, [.int 0, .int 0, .null, .null, .int 0, .null, .null, .null, .null, .null, .null, .null, .null, .null, .null, .null, .null]))] s.heap.size) ([(o, .inr (3, [.int 0, .int 0, .ref q7, .ref q15, .int 0, .ref q23, .null, .null, .null, .null, .null, .null, .null, .null, .null, .null, .null])), (q7, .inl (k 2, 80, .inl (fun _ => 0))), (q15, .inl (k 0, 80, .inl (fun _ => 0))), (q23, .inl (k 0, 80, .inl (fun _ => 0))), (q31, .inl (k 2, 80, .inl (upd f54 (Int32.toNatClampNeg 54) (vp_nar .char 60))))]) := hD
  obtain ⟨f55, hf55⟩ : ∃ z9 : Nat → Int32, z9 = (upd f54 (Int32.toNatClampNeg 54) (vp_nar .char 60)) := ⟨_, rfl⟩
  rw [← hf55] at hP hD
  refine lv_dup hx hb d_Mod_init_333 rfl ?_
  refine lv_bipush (v := 55) hx hb d_Mod_init_334 (by decide) ?_
  refine lv_bipush (v := 90) hx hb d_Mod_init_336 (by decide) ?_
  refine va_cast hx hb hK hP hD hS 4 2 rfl rfl (by unfold vp_in; decide) d_Mod_init_338 (fun H locs hP hD hS => ?_)
  have hP : va_P Dg classes ([(o, .inr (3, [.int 0, .int 0, .ref q7, .ref q15, .int 0, .ref q23, .null, .null, .null, .null, .null, .null, .null, .null, .null, .null, .null])), (q7, .inl (k 2, 80, .inl (fun _ => 0))), (q15, .inl (k 0, 80, .inl (fun _ => 0))), (q23, .inl (k 0, 80, .inl (fun _ => 0))), (q31, .inl (k 2, 80, .inl (upd f55 (Int32.toNatClampNeg 55) (vp_nar .char 90))))]) H := hP
  have hD : va_D (va_A [(o, .inr (3, [.int 0, .int 0, .null, .null, .int 0, .null, .null, .null, .null, .null, .null, .null, .null, .null, .null, .null, .null]))] s.heap.size) ([(o, .inr (3, [.int 0, .int 0, .ref q7, .ref q15, .int 0, .ref q23, .null, .null, .null, .null, .null, .null, .null, .null, .null, .null, .null])), (q7, .inl (k 2, 80, .inl (fun _ => 0))), (q15, .inl (k 0, 80, .inl (fun _ => 0))), (q23, .inl (k 0, 80, .inl (fun _ => 0))), (q31, .inl (k 2, 80, .inl (upd f55 (Int32.toNatClampNeg 55) (vp_nar .char 90))))]) := hD
  obtain ⟨f56, hf56⟩ : ∃ z9 : Nat → Int32, z9 = (upd f55 (Int32.toNatClampNeg 55) (vp_nar .char 90)) := ⟨_, rfl⟩
  rw [← hf56] at hP hD
  refine lv_dup hx hb d_Mod_init_339 rfl ?_
  refine lv_bipush (v := 56) hx hb d_Mod_init_340 (by decide) ?_
  refine lv_bipush (v := 76) hx hb d_Mod_init_342 (by decide) ?_
  refine va_cast hx hb hK hP hD hS 4 2 rfl rfl (by unfold vp_in; decide) d_Mod_init_344 (fun H locs hP hD hS => ?_)
  have hP : va_P Dg classes ([(o, .inr (3, [.int 0, .int 0, .ref q7, .ref q15, .int 0, .ref q23, .null, .null, .null, .null, .null, .null, .null, .null, .null, .null, .null])), (q7, .inl (k 2, 80, .inl (fun _ => 0))), (q15, .inl (k 0, 80, .inl (fun _ => 0))), (q23, .inl (k 0, 80, .inl (fun _ => 0))), (q31, .inl (k 2, 80, .inl (upd f56 (Int32.toNatClampNeg 56) (vp_nar .char 76))))]) H := hP
  have hD : va_D (va_A [(o, .inr (3, [.int 0, .int 0, .null, .null, .int 0, .null, .null, .null, .null, .null, .null, .null, .null, .null, .null, .null, .null]))] s.heap.size) ([(o, .inr (3, [.int 0, .int 0, .ref q7, .ref q15, .int 0, .ref q23, .null, .null, .null, .null, .null, .null, .null, .null, .null, .null, .null])), (q7, .inl (k 2, 80, .inl (fun _ => 0))), (q15, .inl (k 0, 80, .inl (fun _ => 0))), (q23, .inl (k 0, 80, .inl (fun _ => 0))), (q31, .inl (k 2, 80, .inl (upd f56 (Int32.toNatClampNeg 56) (vp_nar .char 76))))]) := hD
  obtain ⟨f57, hf57⟩ : ∃ z9 : Nat → Int32, z9 = (upd f56 (Int32.toNatClampNeg 56) (vp_nar .char 76)) := ⟨_, rfl⟩
  rw [← hf57] at hP hD
  refine lv_dup hx hb d_Mod_init_345 rfl ?_
  refine lv_bipush (v := 57) hx hb d_Mod_init_346 (by decide) ?_
  refine lv_bipush (v := 80) hx hb d_Mod_init_348 (by decide) ?_
  refine va_cast hx hb hK hP hD hS 4 2 rfl rfl (by unfold vp_in; decide) d_Mod_init_350 (fun H locs hP hD hS => ?_)
  have hP : va_P Dg classes ([(o, .inr (3, [.int 0, .int 0, .ref q7, .ref q15, .int 0, .ref q23, .null, .null, .null, .null, .null, .null, .null, .null, .null, .null, .null])), (q7, .inl (k 2, 80, .inl (fun _ => 0))), (q15, .inl (k 0, 80, .inl (fun _ => 0))), (q23, .inl (k 0, 80, .inl (fun _ => 0))), (q31, .inl (k 2, 80, .inl (upd f57 (Int32.toNatClampNeg 57) (vp_nar .char 80))))]) H := hP
  have hD : va_D (va_A [(o, .inr (3, [.int 0, .int 0, .null, .null, .int 0, .null, .null, .null, .null, .null, .null, .null, .null, .null, .null, .null, .null]))] s.heap.size) ([(o, .inr (3, [.int 0, .int 0, .ref q7, .ref q15, .int 0, .ref q23, .null, .null, .null, .null, .null, .null, .null, .null, .null, .null, .null])), (q7, .inl (k 2, 80, .inl (fun _ => 0))), (q15, .inl (k 0, 80, .inl (fun _ => 0))), (q23, .inl (k 0, 80, .inl (fun _ => 0))), (q31, .inl (k 2, 80, .inl (upd f57 (Int32.toNatClampNeg 57) (vp_nar .char 80))))]) := hD
  obtain ⟨f58, hf58⟩ : ∃ z9 : Nat → Int32, z9 = (upd f57 (Int32.toNatClampNeg 57) (vp_nar .char 80)) := ⟨_, rfl⟩
  rw [← hf58] at hP hD
  refine lv_dup hx hb d_Mod_init_351 rfl ?_
  refine lv_bipush (v := 58) hx hb d_Mod_init_352 (by decide) ?_
  refine lv_bipush (v := 43) hx hb d_Mod_init_354 (by decide) ?_
  refine va_cast hx hb hK hP hD hS 4 2 rfl rfl (by unfold vp_in; decide) d_Mod_init_356 (fun H locs hP hD hS => ?_)
  have hP : va_P Dg classes ([(o, .inr (3, [.int 0, .int 0, .ref q7, .ref q15, .int 0, .ref q23, .null, .null, .null, .null, .null, .null, .null, .null, .null, .null, .null])), (q7, .inl (k 2, 80, .inl (fun _ => 0))), (q15, .inl (k 0, 80, .inl (fun _ => 0))), (q23, .inl (k 0, 80, .inl (fun _ => 0))), (q31, .inl (k 2, 80, .inl (upd f58 (Int32.toNatClampNeg 58) (vp_nar .char 43))))]) H := hP
  have hD : va_D (va_A [(o, .inr (3, [.int 0, .int 0, .null, .null, .int 0, .null, .null, .null, .null, .null, .null, .null, .null, .null, .null, .null, .null]))] s.heap.size) ([(o, .inr (3, [.int 0, .int 0, .ref q7, .ref q15, .int 0, .ref q23, .null, .null, .null, .null, .null, .null, .null, .null, .null, .null, .null])), (q7, .inl (k 2, 80, .inl (fun _ => 0))), (q15, .inl (k 0, 80, .inl (fun _ => 0))), (q23, .inl (k 0, 80, .inl (fun _ => 0))), (q31, .inl (k 2, 80, .inl (upd f58 (Int32.toNatClampNeg 58) (vp_nar .char 43))))]) := hD
  obtain ⟨f59, hf59⟩ : ∃ z9 : Nat → Int32, z9 = (upd f58 (Int32.toNatClampNeg 58) (vp_nar .char 43)) := ⟨_, rfl⟩
  rw [← hf59] at hP hD
  refine lv_dup hx hb d_Mod_init_357 rfl ?_
  refine lv_bipush (v := 59) hx hb d_Mod_init_358 (by decide) ?_
  refine lv_bipush (v := 83) hx hb d_Mod_init_360 (by decide) ?_
  refine va_cast hx hb hK hP hD hS 4 2 rfl rfl (by unfold vp_in; decide) d_Mod_init_362 (fun H locs hP hD hS => ?_)
  have hP : va_P Dg classes ([(o, .inr (3, [.int 0, .int 0, .ref q7, .ref q15, .int 0, .ref q23, .null, .null, .null, .null, .null, .null, .null, .null, .null, .null, .null])), (q7, .inl (k 2, 80, .inl (fun _ => 0))), (q15, .inl (k 0, 80, .inl (fun _ => 0))), (q23, .inl (k 0, 80, .inl (fun _ => 0))), (q31, .inl (k 2, 80, .inl (upd f59 (Int32.toNatClampNeg 59) (vp_nar .char 83))))]) H := hP
  have hD : va_D (va_A [(o, .inr (3, [.int 0, .int 0, .null, .null, .int 0, .null, .null, .null, .null, .null, .null, .null, .null, .null, .null, .null, .null]))] s.heap.size) ([(o, .inr (3, [.int 0, .int 0, .ref q7, .ref q15, .int 0, .ref q23, .null, .null, .null, .null, .null, .null, .null, .null, .null, .null, .null])), (q7, .inl (k 2, 80, .inl (fun _ => 0))), (q15, .inl (k 0, 80, .inl (fun _ => 0))), (q23, .inl (k 0, 80, .inl (fun _ => 0))), (q31, .inl (k 2, 80, .inl (upd f59 (Int32.toNatClampNeg 59) (vp_nar .char 83))))]) := hD
  obtain ⟨f60, hf60⟩ : ∃ z9 : Nat → Int32, z9 = (upd f59 (Int32.toNatClampNeg 59) (vp_nar .char 83)) := ⟨_, rfl⟩
  rw [← hf60] at hP hD
  refine lv_dup hx hb d_Mod_init_363 rfl ?_
  refine lv_bipush (v := 60) hx hb d_Mod_init_364 (by decide) ?_
  refine lv_bipush (v := 76) hx hb d_Mod_init_366 (by decide) ?_
  refine va_cast hx hb hK hP hD hS 4 2 rfl rfl (by unfold vp_in; decide) d_Mod_init_368 (fun H locs hP hD hS => ?_)
  have hP : va_P Dg classes ([(o, .inr (3, [.int 0, .int 0, .ref q7, .ref q15, .int 0, .ref q23, .null, .null, .null, .null, .null, .null, .null, .null, .null, .null, .null])), (q7, .inl (k 2, 80, .inl (fun _ => 0))), (q15, .inl (k 0, 80, .inl (fun _ => 0))), (q23, .inl (k 0, 80, .inl (fun _ => 0))), (q31, .inl (k 2, 80, .inl (upd f60 (Int32.toNatClampNeg 60) (vp_nar .char 76))))]) H := hP
  have hD : va_D (va_A [(o, .inr (3, [.int 0, .int 0, .null, .null, .int 0, .null, .null, .null, .null, .null, .null, .null, .null, .null, .null, .null, .null]))] s.heap.size) ([(o, .inr (3, [.int 0, .int 0, .ref q7, .ref q15, .int 0, .ref q23, .null, .null, .null, .null, .null, .null, .null, .null, .null, .null, .null])), (q7, .inl (k 2, 80, .inl (fun _ => 0))), (q15, .inl (k 0, 80, .inl (fun _ => 0))), (q23, .inl (k 0, 80, .inl (fun _ => 0))), (q31, .inl (k 2, 80, .inl (upd f60 (Int32.toNatClampNeg 60) (vp_nar .char 76))))]) := hD
  obtain ⟨f61, hf61⟩ : ∃ z9 : Nat → Int32, z9 = (upd f60 (Int32.toNatClampNeg 60) (vp_nar .char 76)) := ⟨_, rfl⟩
  rw [← hf61] at hP hD
  refine lv_dup hx hb d_Mod_init_369 rfl ?_
  refine lv_bipush (v := 61) hx hb d_Mod_init_370 (by decide) ?_
  refine lv_bipush (v := 76) hx hb d_Mod_init_372 (by decide) ?_
  refine va_cast hx hb hK hP hD hS 4 2 rfl rfl (by unfold vp_in; decide) d_Mod_init_374 (fun H locs hP hD hS => ?_)
  have hP : va_P Dg classes ([(o, .inr (3, [.int 0, .int 0, .ref q7, .ref q15, .int 0, .ref q23, .null, .null, .null, .null, .null, .null, .null, .null, .null, .null, .null])), (q7, .inl (k 2, 80, .inl (fun _ => 0))), (q15, .inl (k 0, 80, .inl (fun _ => 0))), (q23, .inl (k 0, 80, .inl (fun _ => 0))), (q31, .inl (k 2, 80, .inl (upd f61 (Int32.toNatClampNeg 61) (vp_nar .char 76))))]) H := hP
  have hD : va_D (va_A [(o, .inr (3, [.int 0, .int 0, .null, .null, .int 0, .null, .null, .null, .null, .null, .null, .null, .null, .null, .null, .null, .null]))] s.heap.size) ([(o, .inr (3, [.int 0, .int 0, .ref q7, .ref q15, .int 0, .ref q23, .null, .null, .null, .null, .null, .null, .null, .null, .null, .null, .null])), (q7, .inl (k 2, 80, .inl (fun _ => 0))), (q15, .inl (k 0, 80, .inl (fun _ => 0))), (q23, .inl (k 0, 80, .inl (fun _ => 0))), (q31, .inl (k 2, 80, .inl (upd f61 (Int32.toNatClampNeg 61) (vp_nar .char 76))))]) := hD
  obtain ⟨f62, hf62⟩ : ∃ z9 : Nat → Int32, z9 = (upd f61 (Int32.toNatClampNeg 61) (vp_nar .char 76)) := ⟨_, rfl⟩
  rw [← hf62] at hP hD
  refine lv_dup hx hb d_Mod_init_375 rfl ?_
  refine lv_bipush (v := 62) hx hb d_Mod_init_376 (by decide) ?_
  refine lv_bipush (v := 76) hx hb d_Mod_init_378 (by decide) ?_
  refine va_cast hx hb hK hP hD hS 4 2 rfl rfl (by unfold vp_in; decide) d_Mod_init_380 (fun H locs hP hD hS => ?_)
  have hP : va_P Dg classes ([(o, .inr (3, [.int 0, .int 0, .ref q7, .ref q15, .int 0, .ref q23, .null, .null, .null, .null, .null, .null, .null, .null, .null, .null, .null])), (q7, .inl (k 2, 80, .inl (fun _ => 0))), (q15, .inl (k 0, 80, .inl (fun _ => 0))), (q23, .inl (k 0, 80, .inl (fun _ => 0))), (q31, .inl (k 2, 80, .inl (upd f62 (Int32.toNatClampNeg 62) (vp_nar .char 76))))]) H := hP
  have hD : va_D (va_A [(o, .inr (3, [.int 0, .int 0, .null, .null, .int 0, .null, .null, .null, .null, .null, .null, .null, .null, .null, .null, .null, .null]))] s.heap.size) ([(o, .inr (3, [.int 0, .int 0, .ref q7, .ref q15, .int 0, .ref q23, .null, .null, .null, .null, .null, .null, .null, .null, .null, .null, .null])), (q7, .inl (k 2, 80, .inl (fun _ => 0))), (q15, .inl (k 0, 80, .inl (fun _ => 0))), (q23, .inl (k 0, 80, .inl (fun _ => 0))), (q31, .inl (k 2, 80, .inl (upd f62 (Int32.toNatClampNeg 62) (vp_nar .char 76))))]) := hD
  obtain ⟨f63, hf63⟩ : ∃ z9 : Nat → Int32, z9 = (upd f62 (Int32.toNatClampNeg 62) (vp_nar .char 76)) := ⟨_, rfl⟩
  rw [← hf63] at hP hD
  refine lv_dup hx hb d_Mod_init_381 rfl ?_
  refine lv_bipush (v := 63) hx hb d_Mod_init_382 (by decide) ?_
  refine lv_iconst (v := 0) hx hb d_Mod_init_384 (by decide) ?_
  refine va_cast hx hb hK hP hD hS 4 2 rfl rfl (by unfold vp_in; decide) d_Mod_init_385 (fun H locs hP hD hS => ?_)
  have hP : va_P Dg classes ([(o, .inr (3, [.int 0, .int 0, .ref q7, .ref q15, .int 0, .ref q23, .null, .null, .null, .null, .null, .null, .null, .null, .null, .null, .null])), (q7, .inl (k 2, 80, .inl (fun _ => 0))), (q15, .inl (k 0, 80, .inl (fun _ => 0))), (q23, .inl (k 0, 80, .inl (fun _ => 0))), (q31, .inl (k 2, 80, .inl (upd f63 (Int32.toNatClampNeg 63) (vp_nar .char 0))))]) H := hP
  have hD : va_D (va_A [(o, .inr (3, [.int 0, .int 0, .null, .null, .int 0, .null, .null, .null, .null, .null, .null, .null, .null, .null, .null, .null, .null]))] s.heap.size) ([(o, .inr (3, [.int 0, .int 0, .ref q7, .ref q15, .int 0, .ref q23, .null, .null, .null, .null, .null, .null, .null, .null, .null, .null, .null])), (q7, .inl (k 2, 80, .inl (fun _ => 0))), (q15, .inl (k 0, 80, .inl (fun _ => 0))), (q23, .inl (k 0, 80, .inl (fun _ => 0))), (q31, .inl (k 2, 80, .inl (upd f63 (Int32.toNatClampNeg 63) (vp_nar .char 0))))]) := hD
  obtain ⟨f64, hf64⟩ : ∃ z9 : Nat → Int32, z9 = (upd f63 (Int32.toNatClampNeg 63) (vp_nar .char 0)) := ⟨_, rfl⟩
  rw [← hf64] at hP hD
  refine lv_dup hx hb d_Mod_init_386 rfl ?_
  refine lv_bipush (v := 64) hx hb d_Mod_init_387 (by decide) ?_
  refine lv_bipush (v := 80) hx hb d_Mod_init_389 (by decide) ?_
  refine va_cast hx hb hK hP hD hS 4 2 rfl rfl (by unfold vp_in; decide) d_Mod_init_391 (fun H locs hP hD hS => ?_)
  have hP : va_P Dg classes ([(o, .inr (3, [.int 0, .int 0, .ref q7, .ref q15, .int 0, .ref q23, .null, .null, .null, .null, .null, .null, .null, .null, .null, .null, .null])), (q7, .inl (k 2, 80, .inl (fun _ => 0))), (q15, .inl (k 0, 80, .inl (fun _ => 0))), (q23, .inl (k 0, 80, .inl (fun _ => 0))), (q31, .inl (k 2, 80, .inl (upd f64 (Int32.toNatClampNeg 64) (vp_nar .char 80))))]) H := hP
  have hD : va_D (va_A [(o, .inr (3, [.int 0, .int 0, .null, .null, .int 0, .null, .null, .null, .null, .null, .null, .null, .null, .null, .null, .null, .null]))] s.heap.size) ([(o, .inr (3, [.int 0, .int 0, .ref q7, .ref q15, .int 0, .ref q23, .null, .null, .null, .null, .null, .null, .null, .null, .null, .null, .null])), (q7, .inl (k 2, 80, .inl (fun _ => 0))), (q15, .inl (k 0, 80, .inl (fun _ => 0))), (q23, .inl (k 0, 80, .inl (fun _ => 0))), (q31, .inl (k 2, 80, .inl (upd f64 (Int32.toNatClampNeg 64) (vp_nar .char 80))))]) := hD
  obtain ⟨f65, hf65⟩ : ∃ z9 : Nat → Int32, z9 = (upd f64 (Int32.toNatClampNeg 64) (vp_nar .char 80)) := ⟨_, rfl⟩
  rw [← hf65] at hP hD
  refine lv_dup hx hb d_Mod_init_392 rfl ?_
  refine lv_bipush (v := 65) hx hb d_Mod_init_393 (by decide) ?_
  refine lv_bipush (v := 61) hx hb d_Mod_init_395 (by decide) ?_
  refine va_cast hx hb hK hP hD hS 4 2 rfl rfl (by unfold vp_in; decide) d_Mod_init_397 (fun H locs hP hD hS => ?_)
  have hP : va_P Dg classes ([(o, .inr (3, [.int 0, .int 0, .ref q7, .ref q15, .int 0, .ref q23, .null, .null, .null, .null, .null, .null, .null, .null, .null, .null, .null])), (q7, .inl (k 2, 80, .inl (fun _ => 0))), (q15, .inl (k 0, 80, .inl (fun _ => 0))), (q23, .inl (k 0, 80, .inl (fun _ => 0))), (q31, .inl (k 2, 80, .inl (upd f65 (Int32.toNatClampNeg 65) (vp_nar .char 61))))]) H := hP
  have hD : va_D (va_A [(o, .inr (3, [.int 0, .int 0, .null, .null, .int 0, .null, .null, .null, .null, .null, .null, .null, .null, .null, .null, .null, .null]))] s.heap.size) ([(o, .inr (3, [.int 0, .int 0, .ref q7, .ref q15, .int 0, .ref q23, .null, .null, .null, .null, .null, .null, .null, .null, .null, .null, .null])), (q7, .inl (k 2, 80, .inl (fun _ => 0))), (q15, .inl (k 0, 80, .inl (fun _ => 0))), (q23, .inl (k 0, 80, .inl (fun _ => 0))), (q31, .inl (k 2, 80, .inl (upd f65 (Int32.toNatClampNeg 65) (vp_nar .char 61))))]) := hD
  obtain ⟨f66, hf66⟩ : ∃ z9 : Nat → Int32, z9 = (upd f65 (Int32.toNatClampNeg 65) (vp_nar .char 61)) := ⟨_, rfl⟩
  rw [← hf66] at hP hD
  refine lv_dup hx hb d_Mod_init_398 rfl ?_
  refine lv_bipush (v := 66) hx hb d_Mod_init_399 (by decide) ?_
  refine lv_bipush (v := 90) hx hb d_Mod_init_401 (by decide) ?_
  refine va_cast hx hb hK hP hD hS 4 2 rfl rfl (by unfold vp_in; decide) d_Mod_init_403 (fun H locs hP hD hS => ?_)
  have hP : va_P Dg classes ([(o, .inr (3, [.int 0, .int 0, .ref q7, .ref q15, .int 0, .ref q23, .null, .null, .null, .null, .null, .null, .null, .null, .null, .null, .null])), (q7, .inl (k 2, 80, .inl (fun _ => 0))), (q15, .inl (k 0, 80, .inl (fun _ => 0))), (q23, .inl (k 0, 80, .inl (fun _ => 0))), (q31, .inl (k 2, 80, .inl (upd f66 (Int32.toNatClampNeg 66) (vp_nar .char 90))))]) H := hP
  have hD : va_D (va_A [(o, .inr (3, [.int 0, .int 0, .null, .null, .int 0, .null, .null, .null, .null, .null, .null, .null, .null, .null, .null, .null, .null]))] s.heap.size) ([(o, .inr (3, [.int 0, .int 0, .ref q7, .ref q15, .int 0, .ref q23, .null, .null, .null, .null, .null, .null, .null, .null, .null, .null, .null])), (q7, .inl (k 2, 80, .inl (fun _ => 0))), (q15, .inl (k 0, 80, .inl (fun _ => 0))), (q23, .inl (k 0, 80, .inl (fun _ => 0))), (q31, .inl (k 2, 80, .inl (upd f66 (Int32.toNatClampNeg 66) (vp_nar .char 90))))]) := hD
  obtain ⟨f67, hf67⟩ : ∃ z9 : Nat → Int32, z9 = (upd f66 (Int32.toNatClampNeg 66) (vp_nar .char 90)) := ⟨_, rfl⟩
  rw [← hf67] at hP hD
  refine lv_dup hx hb d_Mod_init_404 rfl ?_
  refine lv_bipush (v := 67) hx hb d_Mod_init_405 (by decide) ?_
  refine lv_iconst (v := 0) hx hb d_Mod_init_407 (by decide) ?_
  refine va_cast hx hb hK hP hD hS 4 2 rfl rfl (by unfold vp_in; decide) d_Mod_init_408 (fun H locs hP hD hS => ?_)
  have hP : va_P Dg classes ([(o, .inr (3, [.int 0, .int 0, .ref q7, .ref q15, .int 0, .ref q23, .null, .null, .null, .null, .null, .null, .null, .null, .null, .null, .null])), (q7, .inl (k 2, 80, .inl (fun _ => 0))), (q15, .inl (k 0, 80, .inl (fun _ => 0))), (q23, .inl (k 0, 80, .inl (fun _ => 0))), (q31, .inl (k 2, 80, .inl (upd f67 (Int32.toNatClampNeg 67) (vp_nar .char 0))))]) H := hP
  have hD : va_D (va_A [(o, .inr (3, [.int 0, .int 0, .null, .null, .int 0, .null, .null, .null, .null, .null, .null, .null, .null, .null, .null, .null, .null]))] s.heap.size) ([(o, .inr (3, [.int 0, .int 0, .ref q7, .ref q15, .int 0, .ref q23, .null, .null, .null, .null, .null, .null, .null, .null, .null, .null, .null])), (q7, .inl (k 2, 80, .inl (fun _ => 0))), (q15, .inl (k 0, 80, .inl (fun _ => 0))), (q23, .inl (k 0, 80, .inl (fun _ => 0))), (q31, .inl (k 2, 80, .inl (upd f67 (Int32.toNatClampNeg 67) (vp_nar .char 0))))]) := hD
  obtain ⟨f68, hf68⟩ : ∃ z9 : Nat → Int32, z9 = (upd f67 (Int32.toNatClampNeg 67) (vp_nar .char 0)) := ⟨_, rfl⟩
  rw [← hf68] at hP hD
  refine lv_dup hx hb d_Mod_init_409 rfl ?_
  refine lv_bipush (v := 68) hx hb d_Mod_init_410 (by decide) ?_
  refine lv_bipush (v := 76) hx hb d_Mod_init_412 (by decide) ?_
  refine va_cast hx hb hK hP hD hS 4 2 rfl rfl (by unfold vp_in; decide) d_Mod_init_414 (fun H locs hP hD hS => ?_)
  have hP : va_P Dg classes ([(o, .inr (3, [.int 0, .int 0, .ref q7, .ref q15, .int 0, .ref q23, .null, .null, .null, .null, .null, .null, .null, .null, .null, .null, .null])), (q7, .inl (k 2, 80, .inl (fun _ => 0))), (q15, .inl (k 0, 80, .inl (fun _ => 0))), (q23, .inl (k 0, 80, .inl (fun _ => 0))), (q31, .inl (k 2, 80, .inl (upd f68 (Int32.toNatClampNeg 68) (vp_nar .char 76))))]) H := hP
  have hD : va_D (va_A [(o, .inr (3, [.int 0, .int 0, .null, .null, .int 0, .null, .null, .null, .null, .null, .null, .null, .null, .null, .null, .null, .null]))] s.heap.size) ([(o, .inr (3, [.int 0, .int 0, .ref q7, .ref q15, .int 0, .ref q23, .null, .null, .null, .null, .null, .null, .null, .null, .null, .null, .null])), (q7, .inl (k 2, 80, .inl (fun _ => 0))), (q15, .inl (k 0, 80, .inl (fun _ => 0))), (q23, .inl (k 0, 80, .inl (fun _ => 0))), (q31, .inl (k 2, 80, .inl (upd f68 (Int32.toNatClampNeg 68) (vp_nar .char 76))))]) := hD
  obtain ⟨f69, hf69⟩ : ∃ z9 : Nat → Int32, z9 = (upd f68 (Int32.toNatClampNeg 68) (vp_nar .char 76)) := ⟨_, rfl⟩
  rw [← hf69] at hP hD
  refine lv_dup hx hb d_Mod_init_415 rfl ?_
  refine lv_bipush (v := 69) hx hb d_Mod_init_416 (by decide) ?_
  refine lv_bipush (v := 45) hx hb d_Mod_init_418 (by decide) ?_
  refine va_cast hx hb hK hP hD hS 4 2 rfl rfl (by unfold vp_in; decide) d_Mod_init_420 (fun H locs hP hD hS => ?_)
  have hP : va_P Dg classes ([(o, .inr (3, [.int 0, .int 0, .ref q7, .ref q15, .int 0, .ref q23, .null, .null, .null, .null, .null, .null, .null, .null, .null, .null, .null])), (q7, .inl (k 2, 80, .inl (fun _ => 0))), (q15, .inl (k 0, 80, .inl (fun _ => 0))), (q23, .inl (k 0, 80, .inl (fun _ => 0))), (q31, .inl (k 2, 80, .inl (upd f69 (Int32.toNatClampNeg 69) (vp_nar .char 45))))]) H := hP
  have hD : va_D (va_A [(o, .inr (3, [.int 0, .int 0, .null, .null, .int 0, .null, .null, .null, .null, .null, .null, .null, .null, .null, .null, .null, .null]))] s.heap.size) ([(o, .inr (3, [.int 0, .int 0, .ref q7, .ref q15, .int 0, .ref q23, .null, .null, .null, .null, .null, .null, .null, .null, .null, .null, .null])), (q7, .inl (k 2, 80, .inl (fun _ => 0))), (q15, .inl (k 0, 80, .inl (fun _ => 0))), (q23, .inl (k 0, 80, .inl (fun _ => 0))), (q31, .inl (k 2, 80, .inl (upd f69 (Int32.toNatClampNeg 69) (vp_nar .char 45))))]) := hD
  obtain ⟨f70, hf70⟩ : ∃ z9 : Nat → Int32, z9 = (upd f69 (Int32.toNatClampNeg 69) (vp_nar .char 45)) := ⟨_, rfl⟩
  rw [← hf70] at hP hD
  refine lv_dup hx hb d_Mod_init_421 rfl ?_
  refine lv_bipush (v := 70) hx hb d_Mod_init_422 (by decide) ?_
  refine lv_iconst (v := 0) hx hb d_Mod_init_424 (by decide) ?_
  refine va_cast hx hb hK hP hD hS 4 2 rfl rfl (by unfold vp_in; decide) d_Mod_init_425 (fun H locs hP hD hS => ?_)
  have hP : va_P Dg classes ([(o, .inr (3, [.int 0, .int 0, .ref q7, .ref q15, .int 0, .ref q23, .null, .null, .null, .null, .null, .null, .null, .null, .null, .null, .null])), (q7, .inl (k 2, 80, .inl (fun _ => 0))), (q15, .inl (k 0, 80, .inl (fun _ => 0))), (q23, .inl (k 0, 80, .inl (fun _ => 0))), (q31, .inl (k 2, 80, .inl (upd f70 (Int32.toNatClampNeg 70) (vp_nar .char 0))))]) H := hP
  have hD : va_D (va_A [(o, .inr (3, [.int 0, .int 0, .null, .null, .int 0, .null, .null, .null, .null, .null, .null, .null, .null, .null, .null, .null, .null]))] s.heap.size) ([(o, .inr (3, [.int 0, .int 0, .ref q7, .ref q15, .int 0, .ref q23, .null, .null, .null, .null, .null, .null, .null, .null, .null, .null, .null])), (q7, .inl (k 2, 80, .inl (fun _ => 0))), (q15, .inl (k 0, 80, .inl (fun _ => 0))), (q23, .inl (k 0, 80, .inl (fun _ => 0))), (q31, .inl (k 2, 80, .inl (upd f70 (Int32.toNatClampNeg 70) (vp_nar .char 0))))]) := hD
  obtain ⟨f71, hf71⟩ : ∃ z9 : Nat → Int32, z9 = (upd f70 (Int32.toNatClampNeg 70) (vp_nar .char 0)) := ⟨_, rfl⟩
  rw [← hf71] at hP hD
  refine lv_dup hx hb d_Mod_init_426 rfl ?_
  refine lv_bipush (v := 71) hx hb d_Mod_init_427 (by decide) ?_
  refine lv_iconst (v := 0) hx hb d_Mod_init_429 (by decide) ?_
  refine va_cast hx hb hK hP hD hS 4 2 rfl rfl (by unfold vp_in; decide) d_Mod_init_430 (fun H locs hP hD hS => ?_)
  have hP : va_P Dg classes ([(o, .inr (3, [.int 0, .int 0, .ref q7, .ref q15, .int 0, .ref q23, .null, .null, .null, .null, .null, .null, .null, .null, .null, .null, .null])), (q7, .inl (k 2, 80, .inl (fun _ => 0))), (q15, .inl (k 0, 80, .inl (fun _ => 0))), (q23, .inl (k 0, 80, .inl (fun _ => 0))), (q31, .inl (k 2, 80, .inl (upd f71 (Int32.toNatClampNeg 71) (vp_nar .char 0))))]) H := hP
  have hD : va_D (va_A [(o, .inr (3, [.int 0, .int 0, .null, .null, .int 0, .null, .null, .null, .null, .null, .null, .null, .null, .null, .null, .null, .null]))] s.heap.size) ([(o, .inr (3, [.int 0, .int 0, .ref q7, .ref q15, .int 0, .ref q23, .null, .null, .null, .null, .null, .null, .null, .null, .null, .null, .null])), (q7, .inl (k 2, 80, .inl (fun _ => 0))), (q15, .inl (k 0, 80, .inl (fun _ => 0))), (q23, .inl (k 0, 80, .inl (fun _ => 0))), (q31, .inl (k 2, 80, .inl (upd f71 (Int32.toNatClampNeg 71) (vp_nar .char 0))))]) := hD
  obtain ⟨f72, hf72⟩ : ∃ z9 : Nat → Int32, z9 = (upd f71 (Int32.toNatClampNeg 71) (vp_nar .char 0)) := ⟨_, rfl⟩
  rw [← hf72] at hP hD
  refine lv_dup hx hb d_Mod_init_431 rfl ?_
  refine lv_bipush (v := 72) hx hb d_Mod_init_432 (by decide) ?_
  refine lv_bipush (v := 86) hx hb d_Mod_init_434 (by decide) ?_
  refine va_cast hx hb hK hP hD hS 4 2 rfl rfl (by unfold vp_in; decide) d_Mod_init_436 (fun H locs hP hD hS => ?_)
  have hP : va_P Dg classes ([(o, .inr (3, [.int 0, .int 0, .ref q7, .ref q15, .int 0, .ref q23, .null, .null, .null, .null, .null, .null, .null, .null, .null, .null, .null])), (q7, .inl (k 2, 80, .inl (fun _ => 0))), (q15, .inl (k 0, 80, .inl (fun _ => 0))), (q23, .inl (k 0, 80, .inl (fun _ => 0))), (q31, .inl (k 2, 80, .inl (upd f72 (Int32.toNatClampNeg 72) (vp_nar .char 86))))]) H := hP
  have hD : va_D (va_A [(o, .inr (3, [.int 0, .int 0, .null, .null, .int 0, .null, .null, .null, .null, .null, .null, .null, .null, .null, .null, .null, .null]))] s.heap.size) ([(o, .inr (3, [.int 0, .int 0, .ref q7, .ref q15, .int 0, .ref q23, .null, .null, .null, .null, .null, .null, .null, .null, .null, .null, .null])), (q7, .inl (k 2, 80, .inl (fun _ => 0))), (q15, .inl (k 0, 80, .inl (fun _ => 0))), (q23, .inl (k 0, 80, .inl (fun _ => 0))), (q31, .inl (k 2, 80, .inl (upd f72 (Int32.toNatClampNeg 72) (vp_nar .char 86))))]) := hD
  obtain ⟨f73, hf73⟩ : ∃ z9 : Nat → Int32, z9 = (upd f72 (Int32.toNatClampNeg 72) (vp_nar .char 86)) := ⟨_, rfl⟩
  rw [← hf73] at hP hD
  refine lv_dup hx hb d_Mod_init_437 rfl ?_
  refine lv_bipush (v := 73) hx hb d_Mod_init_438 (by decide) ?_
  refine lv_bipush (v := 76) hx hb d_Mod_init_440 (by decide) ?_
  refine va_cast hx hb hK hP hD hS 4 2 rfl rfl (by unfold vp_in; decide) d_Mod_init_442 (fun H locs hP hD hS => ?_)
  have hP : va_P Dg classes ([(o, .inr (3, [.int 0, .int 0, .ref q7, .ref q15, .int 0, .ref q23, .null, .null, .null, .null, .null, .null, .null, .null, .null, .null, .null])), (q7, .inl (k 2, 80, .inl (fun _ => 0))), (q15, .inl (k 0, 80, .inl (fun _ => 0))), (q23, .inl (k 0, 80, .inl (fun _ => 0))), (q31, .inl (k 2, 80, .inl (upd f73 (Int32.toNatClampNeg 73) (vp_nar .char 76))))]) H := hP
  have hD : va_D (va_A [(o, .inr (3, [.int 0, .int 0, .null, .null, .int 0, .null, .null, .null, .null, .null, .null, .null, .null, .null, .null, .null, .null]))] s.heap.size) ([(o, .inr (3, [.int 0, .int 0, .ref q7, .ref q15, .int 0, .ref q23, .null, .null, .null, .null, .null, .null, .null, .null, .null, .null, .null])), (q7, .inl (k 2, 80, .inl (fun _ => 0))), (q15, .inl (k 0, 80, .inl (fun _ => 0))), (q23, .inl (k 0, 80, .inl (fun _ => 0))), (q31, .inl (k 2, 80, .inl (upd f73 (Int32.toNatClampNeg 73) (vp_nar .char 76))))]) := hD
  obtain ⟨f74, hf74⟩ : ∃ z9 : Nat → Int32, z9 = (upd f73 (Int32.toNatClampNeg 73) (vp_nar .char 76)) := ⟨_, rfl⟩
  rw [← hf74] at hP hD
  refine lv_dup hx hb d_Mod_init_443 rfl ?_
  refine lv_bipush (v := 74) hx hb d_Mod_init_444 (by decide) ?_
  refine lv_iconst (v := 0) hx hb d_Mod_init_446 (by decide) ?_
  refine va_cast hx hb hK hP hD hS 4 2 rfl rfl (by unfold vp_in; decide) d_Mod_init_447 (fun H locs hP hD hS => ?_)
  have hP : va_P Dg classes ([(o, .inr (3, [.int 0, .int 0, .ref q7, .ref q15, .int 0, .ref q23, .null, .null, .null, .null, .null, .null, .null, .null, .null, .null, .null])), (q7, .inl (k 2, 80, .inl (fun _ => 0))), (q15, .inl (k 0, 80, .inl (fun _ => 0))), (q23, .inl (k 0, 80, .inl (fun _ => 0))), (q31, .inl (k 2, 80, .inl (upd f74 (Int32.toNatClampNeg 74) (vp_nar .char 0))))]) H := hP
  have hD : va_D (va_A [(o, .inr (3, [.int 0, .int 0, .null, .null, .int 0, .null, .null, .null, .null, .null, .null, .null, .null, .null, .null, .null, .null]))] s.heap.size) ([(o, .inr (3, [.int 0, .int 0, .ref q7, .ref q15, .int 0, .ref q23, .null, .null, .null, .null, .null, .null, .null, .null, .null, .null, .null])), (q7, .inl (k 2, 80, .inl (fun _ => 0))), (q15, .inl (k 0, 80, .inl (fun _ => 0))), (q23, .inl (k 0, 80, .inl (fun _ => 0))), (q31, .inl (k 2, 80, .inl (upd f74 (Int32.toNatClampNeg 74) (vp_nar .char 0))))]) := hD
  obtain ⟨f75, hf75⟩ : ∃ z9 : Nat → Int32, z9 = (upd f74 (Int32.toNatClampNeg 74) (vp_nar .char 0)) := ⟨_, rfl⟩
  rw [← hf75] at hP hD
  refine lv_dup hx hb d_Mod_init_448 rfl ?_
  refine lv_bipush (v := 75) hx hb d_Mod_init_449 (by decide) ?_
  refine lv_iconst (v := 0) hx hb d_Mod_init_451 (by decide) ?_
  refine va_cast hx hb hK hP hD hS 4 2 rfl rfl (by unfold vp_in; decide) d_Mod_init_452 (fun H locs hP hD hS => ?_)
  have hP : va_P Dg classes ([(o, .inr (3, [.int 0, .int 0, .ref q7, .ref q15, .int 0, .ref q23, .null, .null, .null, .null, .null, .null, .null, .null, .null, .null, .null])), (q7, .inl (k 2, 80, .inl (fun _ => 0))), (q15, .inl (k 0, 80, .inl (fun _ => 0))), (q23, .inl (k 0, 80, .inl (fun _ => 0))), (q31, .inl (k 2, 80, .inl (upd f75 (Int32.toNatClampNeg 75) (vp_nar .char 0))))]) H := hP
  have hD : va_D (va_A [(o, .inr (3, [.int 0, .int 0, .null, .null, .int 0, .null, .null, .null, .null, .null, .null, .null, .null, .null, .null, .null, .null]))] s.heap.size) ([(o, .inr (3, [.int 0, .int 0, .ref q7, .ref q15, .int 0, .ref q23, .null, .null, .null, .null, .null, .null, .null, .null, .null, .null, .null])), (q7, .inl (k 2, 80, .inl (fun _ => 0))), (q15, .inl (k 0, 80, .inl (fun _ => 0))), (q23, .inl (k 0, 80, .inl (fun _ => 0))), (q31, .inl (k 2, 80, .inl (upd f75 (Int32.toNatClampNeg 75) (vp_nar .char 0))))]) := hD
  obtain ⟨f76, hf76⟩ : ∃ z9 : Nat → Int32, z9 = (upd f75 (Int32.toNatClampNeg 75) (vp_nar .char 0)) := ⟨_, rfl⟩
  rw [← hf76] at hP hD
  refine lv_dup hx hb d_Mod_init_453 rfl ?_
  refine lv_bipush (v := 76) hx hb d_Mod_init_454 (by decide) ?_
  refine lv_bipush (v := 68) hx hb d_Mod_init_456 (by decide) ?_
  refine va_cast hx hb hK hP hD hS 4 2 rfl rfl (by unfold vp_in; decide) d_Mod_init_458 (fun H locs hP hD hS => ?_)
  have hP : va_P Dg classes ([(o, .inr (3, [.int 0, .int 0, .ref q7, .ref q15, .int 0, .ref q23, .null, .null, .null, .null, .null, .null, .null, .null, .null, .null, .null])), (q7, .inl (k 2, 80, .inl (fun _ => 0))), (q15, .inl (k 0, 80, .inl (fun _ => 0))), (q23, .inl (k 0, 80, .inl (fun _ => 0))), (q31, .inl (k 2, 80, .inl (upd f76 (Int32.toNatClampNeg 76) (vp_nar .char 68))))]) H := hP
  have hD : va_D (va_A [(o, .inr (3, [.int 0, .int 0, .null, .null, .int 0, .null, .null, .null, .null, .null, .null, .null, .null, .null, .null, .null, .null]))] s.heap.size) ([(o, .inr (3, [.int 0, .int 0, .ref q7, .ref q15, .int 0, .ref q23, .null, .null, .null, .null, .null, .null, .null, .null, .null, .null, .null])), (q7, .inl (k 2, 80, .inl (fun _ => 0))), (q15, .inl (k 0, 80, .inl (fun _ => 0))), (q23, .inl (k 0, 80, .inl (fun _ => 0))), (q31, .inl (k 2, 80, .inl (upd f76 (Int32.toNatClampNeg 76) (vp_nar .char 68))))]) := hD
  obtain ⟨f77, hf77⟩ : ∃ z9 : Nat → Int32, z9 = (upd f76 (Int32.toNatClampNeg 76) (vp_nar .char 68)) := ⟨_, rfl⟩
  rw [← hf77] at hP hD
  refine lv_dup hx hb d_Mod_init_459 rfl ?_
  refine lv_bipush (v := 77) hx hb d_Mod_init_460 (by decide) ?_
  refine lv_bipush (v := 79) hx hb d_Mod_init_462 (by decide) ?_
  refine va_cast hx hb hK hP hD hS 4 2 rfl rfl (by unfold vp_in; decide) d_Mod_init_464 (fun H locs hP hD hS => ?_)
  have hP : va_P Dg classes ([(o, .inr (3, [.int 0, .int 0, .ref q7, .ref q15, .int 0, .ref q23, .null, .null, .null, .null, .null, .null, .null, .null, .null, .null, .null])), (q7, .inl (k 2, 80, .inl (fun _ => 0))), (q15, .inl (k 0, 80, .inl (fun _ => 0))), (q23, .inl (k 0, 80, .inl (fun _ => 0))), (q31, .inl (k 2, 80, .inl (upd f77 (Int32.toNatClampNeg 77) (vp_nar .char 79))))]) H := hP
  have hD : va_D (va_A [(o, .inr (3, [.int 0, .int 0, .null, .null, .int 0, .null, .null, .null, .null, .null, .null, .null, .null, .null, .null, .null, .null]))] s.heap.size) ([(o, .inr (3, [.int 0, .int 0, .ref q7, .ref q15, .int 0, .ref q23, .null, .null, .null, .null, .null, .null, .null, .null, .null, .null, .null])), (q7, .inl (k 2, 80, .inl (fun _ => 0))), (q15, .inl (k 0, 80, .inl (fun _ => 0))), (q23, .inl (k 0, 80, .inl (fun _ => 0))), (q31, .inl (k 2, 80, .inl (upd f77 (Int32.toNatClampNeg 77) (vp_nar .char 79))))]) := hD
  obtain ⟨f78, hf78⟩ : ∃ z9 : Nat → Int32, z9 = (upd f77 (Int32.toNatClampNeg 77) (vp_nar .char 79)) := ⟨_, rfl⟩
  rw [← hf78] at hP hD
  refine lv_dup hx hb d_Mod_init_465 rfl ?_
  refine lv_bipush (v := 78) hx hb d_Mod_init_466 (by decide) ?_
  refine lv_iconst (v := 0) hx hb d_Mod_init_468 (by decide) ?_
  refine va_cast hx hb hK hP hD hS 4 2 rfl rfl (by unfold vp_in; decide) d_Mod_init_469 (fun H locs hP hD hS => ?_)
  have hP : va_P Dg classes ([(o, .inr (3, [.int 0, .int 0, .ref q7, .ref q15, .int 0, .ref q23, .null, .null, .null, .null, .null, .null, .null, .null, .null, .null, .null])), (q7, .inl (k 2, 80, .inl (fun _ => 0))), (q15, .inl (k 0, 80, .inl (fun _ => 0))), (q23, .inl (k 0, 80, .inl (fun _ => 0))), (q31, .inl (k 2, 80, .inl (upd f78 (Int32.toNatClampNeg 78) (vp_nar .char 0))))]) H := hP
  have hD : va_D (va_A [(o, .inr (3, [.int 0, .int 0, .null, .null, .int 0, .null, .null, .null, .null, .null, .null, .null, .null, .null, .null, .null, .null]))] s.heap.size) ([(o, .inr (3, [.int 0, .int 0, .ref q7, .ref q15, .int 0, .ref q23, .null, .null, .null, .null, .null, .null, .null, .null, .null, .null, .null])), (q7, .inl (k 2, 80, .inl (fun _ => 0))), (q15, .inl (k 0, 80, .inl (fun _ => 0))), (q23, .inl (k 0, 80, .inl (fun _ => 0))), (q31, .inl (k 2, 80, .inl (upd f78 (Int32.toNatClampNeg 78) (vp_nar .char 0))))]) := hD
  obtain ⟨f79, hf79⟩ : ∃ z9 : Nat → Int32, z9 = (upd f78 (Int32.toNatClampNeg 78) (vp_nar .char 0)) := ⟨_, rfl⟩
  rw [← hf79] at hP hD
  refine lv_dup hx hb d_Mod_init_470 rfl ?_
  refine lv_bipush (v := 79) hx hb d_Mod_init_471 (by decide) ?_
  refine lv_iconst (v := 0) hx hb d_Mod_init_473 (by decide) ?_
  refine va_cast hx hb hK hP hD hS 4 2 rfl rfl (by unfold vp_in; decide) d_Mod_init_474 (fun H locs hP hD hS => ?_)
  have hP : va_P Dg classes ([(o, .inr (3, [.int 0, .int 0, .ref q7, .ref q15, .int 0, .ref q23, .null, .null, .null, .null, .null, .null, .null, .null, .null, .null, .null])), (q7, .inl (k 2, 80, .inl (fun _ => 0))), (q15, .inl (k 0, 80, .inl (fun _ => 0))), (q23, .inl (k 0, 80, .inl (fun _ => 0))), (q31, .inl (k 2, 80, .inl (upd f79 (Int32.toNatClampNeg 79) (vp_nar .char 0))))]) H := hP
  have hD : va_D (va_A [(o, .inr (3, [.int 0, .int 0, .null, .null, .int 0, .null, .null, .null, .null, .null, .null, .null, .null, .null, .null, .null, .null]))] s.heap.size) ([(o, .inr (3, [.int 0, .int 0, .ref q7, .ref q15, .int 0, .ref q23, .null, .null, .null, .null, .null, .null, .null, .null, .null, .null, .null])), (q7, .inl (k 2, 80, .inl (fun _ => 0))), (q15, .inl (k 0, 80, .inl (fun _ => 0))), (q23, .inl (k 0, 80, .inl (fun _ => 0))), (q31, .inl (k 2, 80, .inl (upd f79 (Int32.toNatClampNeg 79) (vp_nar .char 0))))]) := hD
  obtain ⟨f80, hf80⟩ : ∃ z9 : Nat → Int32, z9 = (upd f79 (Int32.toNatClampNeg 79) (vp_nar .char 0)) := ⟨_, rfl⟩
  rw [← hf80] at hP hD
  refine va_putF (D := Dg) (ci := 3) (v := .ref q31) (ty := (.array .char)) (C := R_Mod) (T := F_Mod) (N := 17) hx hb hT in_Mod t_Mod t_Mod_ok n_Mod hown hK hP hD hS 0 rfl rfl 6 (by decide) (hT _ tw2_232) (fun _ h9 => h9) rfl hname rfl (by decide +kernel) rfl rfl (Nat.le_of_ble_eq_true rfl) d_Mod_init_475 (fun H locs hP hD hS => ?_)
  have hP : va_P Dg classes ([(o, .inr (3, [.int 0, .int 0, .ref q7, .ref q15, .int 0, .ref q23, .ref q31, .null, .null, .null, .null, .null, .null, .null, .null, .null, .null])), (q7, .inl (k 2, 80, .inl (fun _ => 0))), (q15, .inl (k 0, 80, .inl (fun _ => 0))), (q23, .inl (k 0, 80, .inl (fun _ => 0))), (q31, .inl (k 2, 80, .inl f80))]) H := hP
  have hD : va_D (va_A [(o, .inr (3, [.int 0, .int 0, .null, .null, .int 0, .null, .null, .null, .null, .null, .null, .null, .null, .null, .null, .null, .null]))] s.heap.size) ([(o, .inr (3, [.int 0, .int 0, .ref q7, .ref q15, .int 0, .ref q23, .ref q31, .null, .null, .null, .null, .null, .null, .null, .null, .null, .null])), (q7, .inl (k 2, 80, .inl (fun _ => 0))), (q15, .inl (k 0, 80, .inl (fun _ => 0))), (q23, .inl (k 0, 80, .inl (fun _ => 0))), (q31, .inl (k 2, 80, .inl f80))]) := hD
  refine lv_aload_n hx hb d_Mod_init_478 rfl (lv_at hl 0 rfl) ?_
  refine lv_iconst (v := 2) hx hb d_Mod_init_479 (by decide) ?_
  refine kn_a (n := 2) (N' := 2) (ty := .int) (a0 := (2, .inl (fun _ => 0))) F tw1_59 rfl (fun _ _ h => h) hK 0 rfl hP hD hS hA (fun _ => rfl) (by decide) (by decide) (by decide) (Nat.le_of_ble_eq_true rfl) (Nat.le_of_ble_eq_true rfl) d_Mod_init_480 (fun q480 H hP hD hS => ?_)
  have hP : va_P Dg classes ([(o, .inr (3, [.int 0, .int 0, .ref q7, .ref q15, .int 0, .ref q23, .ref q31, .null, .null, .null, .null, .null, .null, .null, .null, .null, .null])), (q7, .inl (k 2, 80, .inl (fun _ => 0))), (q15, .inl (k 0, 80, .inl (fun _ => 0))), (q23, .inl (k 0, 80, .inl (fun _ => 0))), (q31, .inl (k 2, 80, .inl f80)), (q480, .inl (k 0, 2, .inl (fun _ => 0)))]) H := hP
  have hD : va_D (va_A [(o, .inr (3, [.int 0, .int 0, .null, .null, .int 0, .null, .null, .null, .null, .null, .null, .null, .null, .null, .null, .null, .null]))] s.heap.size) ([(o, .inr (3, [.int 0, .int 0, .ref q7, .ref q15, .int 0, .ref q23, .ref q31, .null, .null, .null, .null, .null, .null, .null, .null, .null, .null])), (q7, .inl (k 2, 80, .inl (fun _ => 0))), (q15, .inl (k 0, 80, .inl (fun _ => 0))), (q23, .inl (k 0, 80, .inl (fun _ => 0))), (q31, .inl (k 2, 80, .inl f80)), (q480, .inl (k 0, 2, .inl (fun _ => 0)))]) := hD
  refine W.widen (k := 5) (n := 322) (Nat.le_of_ble_eq_true rfl) (Nat.le_of_ble_eq_true rfl) ?_
  refine va_putF (D := Dg) (ci := 3) (v := .ref q480) (ty := (.array .int)) (C := R_Mod) (T := F_Mod) (N := 17) hx hb hT in_Mod t_Mod t_Mod_ok n_Mod hown hK hP hD hS 0 rfl rfl 7 (by decide) (hT _ tw2_233) (fun _ h9 => h9) rfl hname rfl (by decide +kernel) rfl rfl (Nat.le_of_ble_eq_true rfl) d_Mod_init_482 (fun H locs hP hD hS => ?_)
  have hP : va_P Dg classes ([(o, .inr (3, [.int 0, .int 0, .ref q7, .ref q15, .int 0, .ref q23, .ref q31, .ref q480, .null, .null, .null, .null, .null, .null, .null, .null, .null])), (q7, .inl (k 2, 80, .inl (fun _ => 0))), (q15, .inl (k 0, 80, .inl (fun _ => 0))), (q23, .inl (k 0, 80, .inl (fun _ => 0))), (q31, .inl (k 2, 80, .inl f80)), (q480, .inl (k 0, 2, .inl (fun _ => 0)))]) H := hP
  have hD : va_D (va_A [(o, .inr (3, [.int 0, .int 0, .null, .null, .int 0, .null, .null, .null, .null, .null, .null, .null, .null, .null, .null, .null, .null]))] s.heap.size) ([(o, .inr (3, [.int 0, .int 0, .ref q7, .ref q15, .int 0, .ref q23, .ref q31, .ref q480, .null, .null, .null, .null, .null, .null, .null, .null, .null])), (q7, .inl (k 2, 80, .inl (fun _ => 0))), (q15, .inl (k 0, 80, .inl (fun _ => 0))), (q23, .inl (k 0, 80, .inl (fun _ => 0))), (q31, .inl (k 2, 80, .inl f80)), (q480, .inl (k 0, 2, .inl (fun _ => 0)))]) := hD
  refine lv_aload_n hx hb d_Mod_init_485 rfl (lv_at hl 0 rfl) ?_
  refine lv_iconst (v := 2) hx hb d_Mod_init_486 (by decide) ?_
  refine kn_a (n := 2) (N' := 2) (ty := .int) (a0 := (2, .inl (fun _ => 0))) F tw1_59 rfl (fun _ _ h => h) hK 0 rfl hP hD hS hA (fun _ => rfl) (by decide) (by decide) (by decide) (Nat.le_of_ble_eq_true rfl) (Nat.le_of_ble_eq_true rfl) d_Mod_init_487 (fun q487 H hP hD hS => ?_)
  have hP : va_P Dg classes ([(o, .inr (3, [.int 0, .int 0, .ref q7, .ref q15, .int 0, .ref q23, .ref q31, .ref q480, .null, .null, .null, .null, .null, .null, .null, .null, .null])), (q7, .inl (k 2, 80, .inl (fun _ => 0))), (q15, .inl (k 0, 80, .inl (fun _ => 0))), (q23, .inl (k 0, 80, .inl (fun _ => 0))), (q31, .inl (k 2, 80, .inl f80)), (q480, .inl (k 0, 2, .inl (fun _ => 0))), (q487, .inl (k 0, 2, .inl (fun _ => 0)))]) H := hP
  have hD : va_D (va_A [(o, .inr (3, [.int 0, .int 0, .null, .null, .int 0, .null, .null, .null, .null, .null, .null, .null, .null, .null, .null, .null, .null]))] s.heap.size) ([(o, .inr (3, [.int 0, .int 0, .ref q7, .ref q15, .int 0, .ref q23, .ref q31, .ref q480, .null, .null, .null, .null, .null, .null, .null, .null, .null])), (q7, .inl (k 2, 80, .inl (fun _ => 0))), (q15, .inl (k 0, 80, .inl (fun _ => 0))), (q23, .inl (k 0, 80, .inl (fun _ => 0))), (q31, .inl (k 2, 80, .inl f80)), (q480, .inl (k 0, 2, .inl (fun _ => 0))), (q487, .inl (k 0, 2, .inl (fun _ => 0)))]) := hD
  refine W.widen (k := 6) (n := 324) (Nat.le_of_ble_eq_true rfl) (Nat.le_of_ble_eq_true rfl) ?_
  refine va_putF (D := Dg) (ci := 3) (v := .ref q487) (ty := (.array .int)) (C := R_Mod) (T := F_Mod) (N := 17) hx hb hT in_Mod t_Mod t_Mod_ok n_Mod hown hK hP hD hS 0 rfl rfl 8 (by decide) (hT _ tw2_234) (fun _ h9 => h9) rfl hname rfl (by decide +kernel) rfl rfl (Nat.le_of_ble_eq_true rfl) d_Mod_init_489 (fun H locs hP hD hS => ?_)
  have hP : va_P Dg classes ([(o, .inr (3, [.int 0, .int 0, .ref q7, .ref q15, .int 0, .ref q23, .ref q31, .ref q480, .ref q487, .null, .null, .null, .null, .null, .null, .null, .null])), (q7, .inl (k 2, 80, .inl (fun _ => 0))), (q15, .inl (k 0, 80, .inl (fun _ => 0))), (q23, .inl (k 0, 80, .inl (fun _ => 0))), (q31, .inl (k 2, 80, .inl f80)), (q480, .inl (k 0, 2, .inl (fun _ => 0))), (q487, .inl (k 0, 2, .inl (fun _ => 0)))]) H := hP
  have hD : va_D (va_A [(o, .inr (3, [.int 0, .int 0, .null, .null, .int 0, .null, .null, .null, .null, .null, .null, .null, .null, .null, .null, .null, .null]))] s.heap.size) ([(o, .inr (3, [.int 0, .int 0, .ref q7, .ref q15, .int 0, .ref q23, .ref q31, .ref q480, .ref q487, .null, .null, .null, .null, .null, .null, .null, .null])), (q7, .inl (k 2, 80, .inl (fun _ => 0))), (q15, .inl (k 0, 80, .inl (fun _ => 0))), (q23, .inl (k 0, 80, .inl (fun _ => 0))), (q31, .inl (k 2, 80, .inl f80)), (q480, .inl (k 0, 2, .inl (fun _ => 0))), (q487, .inl (k 0, 2, .inl (fun _ => 0)))]) := hD
  refine lv_aload_n hx hb d_Mod_init_492 rfl (lv_at hl 0 rfl) ?_
  refine lv_iconst (v := 2) hx hb d_Mod_init_493 (by decide) ?_
  refine kn_a (n := 2) (N' := 2) (ty := .int) (a0 := (2, .inl (fun _ => 0))) F tw1_59 rfl (fun _ _ h => h) hK 0 rfl hP hD hS hA (fun _ => rfl) (by decide) (by decide) (by decide) (Nat.le_of_ble_eq_true rfl) (Nat.le_of_ble_eq_true rfl) d_Mod_init_494 (fun q494 H hP hD hS => ?_)
  have hP : va_P Dg classes ([(o, .inr (3, [.int 0, .int 0, .ref q7, .ref q15, .int 0, .ref q23, .ref q31, .ref q480, .ref q487, .null, .null, .null, .null, .null, .null, .null, .null])), (q7, .inl (k 2, 80, .inl (fun _ => 0))), (q15, .inl (k 0, 80, .inl (fun _ => 0))), (q23, .inl (k 0, 80, .inl (fun _ => 0))), (q31, .inl (k 2, 80, .inl f80)), (q480, .inl (k 0, 2, .inl (fun _ => 0))), (q487, .inl (k 0, 2, .inl (fun _ => 0))), (q494, .inl (k 0, 2, .inl (fun _ => 0)))]) H := hP
  have hD : va_D (va_A [(o, .inr (3, [.int 0, .int 0, .null, .null, .int 0, .null, .null, .null, .null, .null, .null, .null, .null, .null, .null, .null, .null]))] s.heap.size) ([(o, .inr (3, [.int 0, .int 0, .ref q7, .ref q15, .int 0, .ref q23, .ref q31, .ref q480, .ref q487, .null, .null, .null, .null, .null, .null, .null, .null])), (q7, .inl (k 2, 80, .inl (fun _ => 0))), (q15, .inl (k 0, 80, .inl (fun _ => 0))), (q23, .inl (k 0, 80, .inl (fun _ => 0))), (q31, .inl (k 2, 80, .inl f80)), (q480, .inl (k 0, 2, .inl (fun _ => 0))), (q487, .inl (k 0, 2, .inl (fun _ => 0))), (q494, .inl (k 0, 2, .inl (fun _ => 0)))]) := hD
  refine W.widen (k := 7) (n := 326) (Nat.le_of_ble_eq_true rfl) (Nat.le_of_ble_eq_true rfl) ?_
  refine va_putF (D := Dg) (ci := 3) (v := .ref q494) (ty := (.array .int)) (C := R_Mod) (T := F_Mod) (N := 17) hx hb hT in_Mod t_Mod t_Mod_ok n_Mod hown hK hP hD hS 0 rfl rfl 9 (by decide) (hT _ tw2_235) (fun _ h9 => h9) rfl hname rfl (by decide +kernel) rfl rfl (Nat.le_of_ble_eq_true rfl) d_Mod_init_496 (fun H locs hP hD hS => ?_)
  have hP : va_P Dg classes ([(o, .inr (3, [.int 0, .int 0, .ref q7, .ref q15, .int 0, .ref q23, .ref q31, .ref q480, .ref q487, .ref q494, .null, .null, .null, .null, .null, .null, .null])), (q7, .inl (k 2, 80, .inl (fun _ => 0))), (q15, .inl (k 0, 80, .inl (fun _ => 0))), (q23, .inl (k 0, 80, .inl (fun _ => 0))), (q31, .inl (k 2, 80, .inl f80)), (q480, .inl (k 0, 2, .inl (fun _ => 0))), (q487, .inl (k 0, 2, .inl (fun _ => 0))), (q494, .inl (k 0, 2, .inl (fun _ => 0)))]) H := hP
  have hD : va_D (va_A [(o, .inr (3, [.int 0, .int 0, .null, .null, .int 0, .null, .null, .null, .null, .null, .null, .null, .null, .null, .null, .null, .null]))] s.heap.size) ([(o, .inr (3, [.int 0, .int 0, .ref q7, .ref q15, .int 0, .ref q23, .ref q31, .ref q480, .ref q487, .ref q494, .null, .null, .null, .null, .null, .null, .null])), (q7, .inl (k 2, 80, .inl (fun _ => 0))), (q15, .inl (k 0, 80, .inl (fun _ => 0))), (q23, .inl (k 0, 80, .inl (fun _ => 0))), (q31, .inl (k 2, 80, .inl f80)), (q480, .inl (k 0, 2, .inl (fun _ => 0))), (q487, .inl (k 0, 2, .inl (fun _ => 0))), (q494, .inl (k 0, 2, .inl (fun _ => 0)))]) := hD
  refine lv_aload_n hx hb d_Mod_init_499 rfl (lv_at hl 0 rfl) ?_
  refine lv_iconst (v := 2) hx hb d_Mod_init_500 (by decide) ?_
  refine kn_a (n := 2) (N' := 2) (ty := .int) (a0 := (2, .inl (fun _ => 0))) F tw1_59 rfl (fun _ _ h => h) hK 0 rfl hP hD hS hA (fun _ => rfl) (by decide) (by decide) (by decide) (Nat.le_of_ble_eq_true rfl) (Nat.le_of_ble_eq_true rfl) d_Mod_init_501 (fun q501 H hP hD hS => ?_)
  have hP : va_P Dg classes ([(o, .inr (3, [.int 0, .int 0, .ref q7, .ref q15, .int 0, .ref q23, .ref q31, .ref q480, .ref q487, .ref q494, .null, .null, .null, .null, .null, .null, .null])), (q7, .inl (k 2, 80, .inl (fun _ => 0))), (q15, .inl (k 0, 80, .inl (fun _ => 0))), (q23, .inl (k 0, 80, .inl (fun _ => 0))), (q31, .inl (k 2, 80, .inl f80)), (q480, .inl (k 0, 2, .inl (fun _ => 0))), (q487, .inl (k 0, 2, .inl (fun _ => 0))), (q494, .inl (k 0, 2, .inl (fun _ => 0))), (q501, .inl (k 0, 2, .inl (fun _ => 0)))]) H := hP
  have hD : va_D (va_A [(o, .inr (3, [.int 0, .int 0, .null, .null, .int 0, .null, .null, .null, .null, .null, .null, .null, .null, .null, .null, .null, .null]))] s.heap.size) ([(o, .inr (3, [.int 0, .int 0, .ref q7, .ref q15, .int 0, .ref q23, .ref q31, .ref q480, .ref q487, .ref q494, .null, .null, .null, .null, .null, .null, .null])), (q7, .inl (k 2, 80, .inl (fun _ => 0))), (q15, .inl (k 0, 80, .inl (fun _ => 0))), (q23, .inl (k 0, 80, .inl (fun _ => 0))), (q31, .inl (k 2, 80, .inl f80)), (q480, .inl (k 0, 2, .inl (fun _ => 0))), (q487, .inl (k 0, 2, .inl (fun _ => 0))), (q494, .inl (k 0, 2, .inl (fun _ => 0))), (q501, .inl (k 0, 2, .inl (fun _ => 0)))]) := hD
  refine W.widen (k := 8) (n := 328) (Nat.le_of_ble_eq_true rfl) (Nat.le_of_ble_eq_true rfl) ?_
  refine va_putF (D := Dg) (ci := 3) (v := .ref q501) (ty := (.array .int)) (C := R_Mod) (T := F_Mod) (N := 17) hx hb hT in_Mod t_Mod t_Mod_ok n_Mod hown hK hP hD hS 0 rfl rfl 10 (by decide) (hT _ tw2_236) (fun _ h9 => h9) rfl hname rfl (by decide +kernel) rfl rfl (Nat.le_of_ble_eq_true rfl) d_Mod_init_503 (fun H locs hP hD hS => ?_)
  have hP : va_P Dg classes ([(o, .inr (3, [.int 0, .int 0, .ref q7, .ref q15, .int 0, .ref q23, .ref q31, .ref q480, .ref q487, .ref q494, .ref q501, .null, .null, .null, .null, .null, .null])), (q7, .inl (k 2, 80, .inl (fun _ => 0))), (q15, .inl (k 0, 80, .inl (fun _ => 0))), (q23, .inl (k 0, 80, .inl (fun _ => 0))), (q31, .inl (k 2, 80, .inl f80)), (q480, .inl (k 0, 2, .inl (fun _ => 0))), (q487, .inl (k 0, 2, .inl (fun _ => 0))), (q494, .inl (k 0, 2, .inl (fun _ => 0))), (q501, .inl (k 0, 2, .inl (fun _ => 0)))]) H := hP
  have hD : va_D (va_A [(o, .inr (3, [.int 0, .int 0, .null, .null, .int 0, .null, .null, .null, .null, .null, .null, .null, .null, .null, .null, .null, .null]))] s.heap.size) ([(o, .inr (3, [.int 0, .int 0, .ref q7, .ref q15, .int 0, .ref q23, .ref q31, .ref q480, .ref q487, .ref q494, .ref q501, .null, .null, .null, .null, .null, .null])), (q7, .inl (k 2, 80, .inl (fun _ => 0))), (q15, .inl (k 0, 80, .inl (fun _ => 0))), (q23, .inl (k 0, 80, .inl (fun _ => 0))), (q31, .inl (k 2, 80, .inl f80)), (q480, .inl (k 0, 2, .inl (fun _ => 0))), (q487, .inl (k 0, 2, .inl (fun _ => 0))), (q494, .inl (k 0, 2, .inl (fun _ => 0))), (q501, .inl (k 0, 2, .inl (fun _ => 0)))]) := hD
  refine lv_aload_n hx hb d_Mod_init_506 rfl (lv_at hl 0 rfl) ?_
  refine lv_iconst (v := 2) hx hb d_Mod_init_507 (by decide) ?_
  refine kn_a (n := 2) (N' := 2) (ty := .int) (a0 := (2, .inl (fun _ => 0))) F tw1_59 rfl (fun _ _ h => h) hK 0 rfl hP hD hS hA (fun _ => rfl) (by decide) (by decide) (by decide) (Nat.le_of_ble_eq_true rfl) (Nat.le_of_ble_eq_true rfl) d_Mod_init_508 (fun q508 H hP hD hS => ?_)
  have hP : va_P Dg classes ([(o, .inr (3, [.int 0, .int 0, .ref q7, .ref q15, .int 0, .ref q23, .ref q31, .ref q480, .ref q487, .ref q494, .ref q501, .null, .null, .null, .null, .null, .null])), (q7, .inl (k 2, 80, .inl (fun _ => 0))), (q15, .inl (k 0, 80, .inl (fun _ => 0))), (q23, .inl (k 0, 80, .inl (fun _ => 0))), (q31, .inl (k 2, 80, .inl f80)), (q480, .inl (k 0, 2, .inl (fun _ => 0))), (q487, .inl (k 0, 2, .inl (fun _ => 0))), (q494, .inl (k 0, 2, .inl (fun _ => 0))), (q501, .inl (k 0, 2, .inl (fun _ => 0))), (q508, .inl (k 0, 2, .inl (fun _ => 0)))]) H := hP
  have hD : va_D (va_A [(o, .inr (3, [.int 0, .int 0, .null, .null, .int 0, .null, .null, .null, .null, .null, .null, .null, .null, .null, .null, .null, .null]))] s.heap.size) ([(o, .inr (3, [.int 0, .int 0, .ref q7, .ref q15, .int 0, .ref q23, .ref q31, .ref q480, .ref q487, .ref q494, .ref q501, .null, .null, .null, .null, .null, .null])), (q7, .inl (k 2, 80, .inl (fun _ => 0))), (q15, .inl (k 0, 80, .inl (fun _ => 0))), (q23, .inl (k 0, 80, .inl (fun _ => 0))), (q31, .inl (k 2, 80, .inl f80)), (q480, .inl (k 0, 2, .inl (fun _ => 0))), (q487, .inl (k 0, 2, .inl (fun _ => 0))), (q494, .inl (k 0, 2, .inl (fun _ => 0))), (q501, .inl (k 0, 2, .inl (fun _ => 0))), (q508, .inl (k 0, 2, .inl (fun _ => 0)))]) := hD
  refine W.widen (k := 9) (n := 330) (Nat.le_of_ble_eq_true rfl) (Nat.le_of_ble_eq_true rfl) ?_
  refine va_putF (D := Dg) (ci := 3) (v := .ref q508) (ty := (.array .int)) (C := R_Mod) (T := F_Mod) (N := 17) hx hb hT in_Mod t_Mod t_Mod_ok n_Mod hown hK hP hD hS 0 rfl rfl 11 (by decide) (hT _ tw2_237) (fun _ h9 => h9) rfl hname rfl (by decide +kernel) rfl rfl (Nat.le_of_ble_eq_true rfl) d_Mod_init_510 (fun H locs hP hD hS => ?_)
  have hP : va_P Dg classes ([(o, .inr (3, [.int 0, .int 0, .ref q7, .ref q15, .int 0, .ref q23, .ref q31, .ref q480, .ref q487, .ref q494, .ref q501, .ref q508, .null, .null, .null, .null, .null])), (q7, .inl (k 2, 80, .inl (fun _ => 0))), (q15, .inl (k 0, 80, .inl (fun _ => 0))), (q23, .inl (k 0, 80, .inl (fun _ => 0))), (q31, .inl (k 2, 80, .inl f80)), (q480, .inl (k 0, 2, .inl (fun _ => 0))), (q487, .inl (k 0, 2, .inl (fun _ => 0))), (q494, .inl (k 0, 2, .inl (fun _ => 0))), (q501, .inl (k 0, 2, .inl (fun _ => 0))), (q508, .inl (k 0, 2, .inl (fun _ => 0)))]) H := hP
  have hD : va_D (va_A [(o, .inr (3, [.int 0, .int 0, .null, .null, .int 0, .null, .null, .null, .null, .null, .null, .null, .null, .null, .null, .null, .null]))] s.heap.size) ([(o, .inr (3, [.int 0, .int 0, .ref q7, .ref q15, .int 0, .ref q23, .ref q31, .ref q480, .ref q487, .ref q494, .ref q501, .ref q508, .null, .null, .null, .null, .null])), (q7, .inl (k 2, 80, .inl (fun _ => 0))), (q15, .inl (k 0, 80, .inl (fun _ => 0))), (q23, .inl (k 0, 80, .inl (fun _ => 0))), (q31, .inl (k 2, 80, .inl f80)), (q480, .inl (k 0, 2, .inl (fun _ => 0))), (q487, .inl (k 0, 2, .inl (fun _ => 0))), (q494, .inl (k 0, 2, .inl (fun _ => 0))), (q501, .inl (k 0, 2, .inl (fun _ => 0))), (q508, .inl (k 0, 2, .inl (fun _ => 0)))]) := hD
  refine lv_aload_n hx hb d_Mod_init_513 rfl (lv_at hl 0 rfl) ?_
  refine lv_iconst (v := 2) hx hb d_Mod_init_514 (by decide) ?_
  refine kn_a (n := 2) (N' := 2) (ty := .int) (a0 := (2, .inl (fun _ => 0))) F tw1_59 rfl (fun _ _ h => h) hK 0 rfl hP hD hS hA (fun _ => rfl) (by decide) (by decide) (by decide) (Nat.le_of_ble_eq_true rfl) (Nat.le_of_ble_eq_true rfl) d_Mod_init_515 (fun q515 H hP hD hS => ?_)
  have hP : va_P Dg classes ([(o, .inr (3, [.int 0, .int 0, .ref q7, .ref q15, .int 0, .ref q23, .ref q31, .ref q480, .ref q487, .ref q494, .ref q501, .ref q508, .null, .null, .null, .null, .null])), (q7, .inl (k 2, 80, .inl (fun _ => 0))), (q15, .inl (k 0, 80, .inl (fun _ => 0))), (q23, .inl (k 0, 80, .inl (fun _ => 0))), (q31, .inl (k 2, 80, .inl f80)), (q480, .inl (k 0, 2, .inl (fun _ => 0))), (q487, .inl (k 0, 2, .inl (fun _ => 0))), (q494, .inl (k 0, 2, .inl (fun _ => 0))), (q501, .inl (k 0, 2, .inl (fun _ => 0))), (q508, .inl (k 0, 2, .inl (fun _ => 0))), (q515, .inl (k 0, 2, .inl (fun _ => 0)))]) H := hP
  have hD : va_D (va_A [(o, .inr (3, [.int 0, .int 0, .null, .null, .int 0, .null, .null, .null, .null, .null, .null, .null, .null, .null, .null, .null, .null]))] s.heap.size) ([(o, .inr (3, [.int 0, .int 0, .ref q7, .ref q15, .int 0, .ref q23, .ref q31, .ref q480, .ref q487, .ref q494, .ref q501, .ref q508, .null, .null, .null, .null, .null])), (q7, .inl (k 2, 80, .inl (fun _ => 0))), (q15, .inl (k 0, 80, .inl (fun _ => 0))), (q23, .inl (k 0, 80, .inl (fun _ => 0))), (q31, .inl (k 2, 80, .inl f80)), (q480, .inl (k 0, 2, .inl (fun _ => 0))), (q487, .inl (k 0, 2, .inl (fun _ => 0))), (q494, .inl (k 0, 2, .inl (fun _ => 0))), (q501, .inl (k 0, 2, .inl (fun _ => 0))), (q508, .inl (k 0, 2, .inl (fun _ => 0))), (q515, .inl (k 0, 2, .inl (fun _ => 0)))]) := hD
  refine W.widen (k := 10) (n := 332) (Nat.le_of_ble_eq_true rfl) (Nat.le_of_ble_eq_true rfl) ?_
  refine va_putF (D := Dg) (ci := 3) (v := .ref q515) (ty := (.array .int)) (C := R_Mod) (T := F_Mod) (N := 17) hx hb hT in_Mod t_Mod t_Mod_ok n_Mod hown hK hP hD hS 0 rfl rfl 12 (by decide) (hT _ tw2_238) (fun _ h9 => h9) rfl hname rfl (by decide +kernel) rfl rfl (Nat.le_of_ble_eq_true rfl) d_Mod_init_517 (fun H locs hP hD hS => ?_)
  have hP : va_P Dg classes ([(o, .inr (3, [.int 0, .int 0, .ref q7, .ref q15, .int 0, .ref q23, .ref q31, .ref q480, .ref q487, .ref q494, .ref q501, .ref q508, .ref q515, .null, .null, .null, .null])), (q7, .inl (k 2, 80, .inl (fun _ => 0))), (q15, .inl (k 0, 80, .inl (fun _ => 0))), (q23, .inl (k 0, 80, .inl (fun _ => 0))), (q31, .inl (k 2, 80, .inl f80)), (q480, .inl (k 0, 2, .inl (fun _ => 0))), (q487, .inl (k 0, 2, .inl (fun _ => 0))), (q494, .inl (k 0, 2, .inl (fun _ => 0))), (q501, .inl (k 0, 2, .inl (fun _ => 0))), (q508, .inl (k 0, 2, .inl (fun _ => 0))), (q515, .inl (k 0, 2, .inl (fun _ => 0)))]) H := hP
  have hD : va_D (va_A [(o, .inr (3, [.int 0, .int 0, .null, .null, .int 0, .null, .null, .null, .null, .null, .null, .null, .null, .null, .null, .null, .null]))] s.heap.size) ([(o, .inr (3, [.int 0, .int 0, .ref q7, .ref q15, .int 0, .ref q23, .ref q31, .ref q480, .ref q487, .ref q494, .ref q501, .ref q508, .ref q515, .null, .null, .null, .null])), (q7, .inl (k 2, 80, .inl (fun _ => 0))), (q15, .inl (k 0, 80, .inl (fun _ => 0))), (q23, .inl (k 0, 80, .inl (fun _ => 0))), (q31, .inl (k 2, 80, .inl f80)), (q480, .inl (k 0, 2, .inl (fun _ => 0))), (q487, .inl (k 0, 2, .inl (fun _ => 0))), (q494, .inl (k 0, 2, .inl (fun _ => 0))), (q501, .inl (k 0, 2, .inl (fun _ => 0))), (q508, .inl (k 0, 2, .inl (fun _ => 0))), (q515, .inl (k 0, 2, .inl (fun _ => 0)))]) := hD
  refine lv_aload_n hx hb d_Mod_init_520 rfl (lv_at hl 0 rfl) ?_
  refine lv_bipush (v := 80) hx hb d_Mod_init_521 (by decide) ?_
  refine kn_a (n := 80) (N' := 80) (ty := .int) (a0 := (80, .inl (fun _ => 0))) F tw1_59 rfl (fun _ _ h => h) hK 0 rfl hP hD hS hA (fun _ => rfl) (by decide) (by decide) (by decide) (Nat.le_of_ble_eq_true rfl) (Nat.le_of_ble_eq_true rfl) d_Mod_init_523 (fun q523 H hP hD hS => ?_)
  have hP : va_P Dg classes ([(o, .inr (3, [.int 0, .int 0, .ref q7, .ref q15, .int 0, .ref q23, .ref q31, .ref q480, .ref q487, .ref q494, .ref q501, .ref q508, .ref q515, .null, .null, .null, .null])), (q7, .inl (k 2, 80, .inl (fun _ => 0))), (q15, .inl (k 0, 80, .inl (fun _ => 0))), (q23, .inl (k 0, 80, .inl (fun _ => 0))), (q31, .inl (k 2, 80, .inl f80)), (q480, .inl (k 0, 2, .inl (fun _ => 0))), (q487, .inl (k 0, 2, .inl (fun _ => 0))), (q494, .inl (k 0, 2, .inl (fun _ => 0))), (q501, .inl (k 0, 2, .inl (fun _ => 0))), (q508, .inl (k 0, 2, .inl (fun _ => 0))), (q515, .inl (k 0, 2, .inl (fun _ => 0))), (q523, .inl (k 0, 80, .inl (fun _ => 0)))]) H := hP
  have hD : va_D (va_A [(o, .inr (3, [.int 0, .int 0, .null, .null, .int 0, .null, .null, .null, .null, .null, .null, .null, .null, .null, .null, .null, .null]))] s.heap.size) ([(o, .inr (3, [.int 0, .int 0, .ref q7, .ref q15, .int 0, .ref q23, .ref q31, .ref q480, .ref q487, .ref q494, .ref q501, .ref q508, .ref q515, .null, .null, .null, .null])), (q7, .inl (k 2, 80, .inl (fun _ => 0))), (q15, .inl (k 0, 80, .inl (fun _ => 0))), (q23, .inl (k 0, 80, .inl (fun _ => 0))), (q31, .inl (k 2, 80, .inl f80)), (q480, .inl (k 0, 2, .inl (fun _ => 0))), (q487, .inl (k 0, 2, .inl (fun _ => 0))), (q494, .inl (k 0, 2, .inl (fun _ => 0))), (q501, .inl (k 0, 2, .inl (fun _ => 0))), (q508, .inl (k 0, 2, .inl (fun _ => 0))), (q515, .inl (k 0, 2, .inl (fun _ => 0))), (q523, .inl (k 0, 80, .inl (fun _ => 0)))]) := hD
  refine W.widen (k := 11) (n := 412) (Nat.le_of_ble_eq_true rfl) (Nat.le_of_ble_eq_true rfl) ?_
  refine va_putF (D := Dg) (ci := 3) (v := .ref q523) (ty := (.array .int)) (C := R_Mod) (T := F_Mod) (N := 17) hx hb hT in_Mod t_Mod t_Mod_ok n_Mod hown hK hP hD hS 0 rfl rfl 13 (by decide) (hT _ tw2_239) (fun _ h9 => h9) rfl hname rfl (by decide +kernel) rfl rfl (Nat.le_of_ble_eq_true rfl) d_Mod_init_525 (fun H locs hP hD hS => ?_)
  have hP : va_P Dg classes ([(o, .inr (3, [.int 0, .int 0, .ref q7, .ref q15, .int 0, .ref q23, .ref q31, .ref q480, .ref q487, .ref q494, .ref q501, .ref q508, .ref q515, .ref q523, .null, .null, .null])), (q7, .inl (k 2, 80, .inl (fun _ => 0))), (q15, .inl (k 0, 80, .inl (fun _ => 0))), (q23, .inl (k 0, 80, .inl (fun _ => 0))), (q31, .inl (k 2, 80, .inl f80)), (q480, .inl (k 0, 2, .inl (fun _ => 0))), (q487, .inl (k 0, 2, .inl (fun _ => 0))), (q494, .inl (k 0, 2, .inl (fun _ => 0))), (q501, .inl (k 0, 2, .inl (fun _ => 0))), (q508, .inl (k 0, 2, .inl (fun _ => 0))), (q515, .inl (k 0, 2, .inl (fun _ => 0))), (q523, .inl (k 0, 80, .inl (fun _ => 0)))]) H := hP
  have hD : va_D (va_A [(o, .inr (3, [.int 0, .int 0, .null, .null, .int 0, .null, .null, .null, .null, .null, .null, .null, .null, .null, .null, .null, .null]))] s.heap.size) ([(o, .inr (3, [.int 0, .int 0, .ref q7, .ref q15, .int 0, .ref q23, .ref q31, .ref q480, .ref q487, .ref q494, .ref q501, .ref q508, .ref q515, .ref q523, .null, .null, .null])), (q7, .inl (k 2, 80, .inl (fun _ => 0))), (q15, .inl (k 0, 80, .inl (fun _ => 0))), (q23, .inl (k 0, 80, .inl (fun _ => 0))), (q31, .inl (k 2, 80, .inl f80)), (q480, .inl (k 0, 2, .inl (fun _ => 0))), (q487, .inl (k 0, 2, .inl (fun _ => 0))), (q494, .inl (k 0, 2, .inl (fun _ => 0))), (q501, .inl (k 0, 2, .inl (fun _ => 0))), (q508, .inl (k 0, 2, .inl (fun _ => 0))), (q515, .inl (k 0, 2, .inl (fun _ => 0))), (q523, .inl (k 0, 80, .inl (fun _ => 0)))]) := hD
  refine lv_aload_n hx hb d_Mod_init_528 rfl (lv_at hl 0 rfl) ?_
  refine lv_bipush (v := 16) hx hb d_Mod_init_529 (by decide) ?_
  refine kn_a (n := 16) (N' := 16) (ty := .int) (a0 := (16, .inl (fun _ => 0))) F tw1_59 rfl (fun _ _ h => h) hK 0 rfl hP hD hS hA (fun _ => rfl) (by decide) (by decide) (by decide) (Nat.le_of_ble_eq_true rfl) (Nat.le_of_ble_eq_true rfl) d_Mod_init_531 (fun q531 H hP hD hS => ?_)
  have hP : va_P Dg classes ([(o, .inr (3, [.int 0, .int 0, .ref q7, .ref q15, .int 0, .ref q23, .ref q31, .ref q480, .ref q487, .ref q494, .ref q501, .ref q508, .ref q515, .ref q523, .null, .null, .null])), (q7, .inl (k 2, 80, .inl (fun _ => 0))), (q15, .inl (k 0, 80, .inl (fun _ => 0))), (q23, .inl (k 0, 80, .inl (fun _ => 0))), (q31, .inl (k 2, 80, .inl f80)), (q480, .inl (k 0, 2, .inl (fun _ => 0))), (q487, .inl (k 0, 2, .inl (fun _ => 0))), (q494, .inl (k 0, 2, .inl (fun _ => 0))), (q501, .inl (k 0, 2, .inl (fun _ => 0))), (q508, .inl (k 0, 2, .inl (fun _ => 0))), (q515, .inl (k 0, 2, .inl (fun _ => 0))), (q523, .inl (k 0, 80, .inl (fun _ => 0))), (q531, .inl (k 0, 16, .inl (fun _ => 0)))]) H := hP
  have hD : va_D (va_A [(o, .inr (3, [.int 0, .int 0, .null, .null, .int 0, .null, .null, .null, .null, .null, .null, .null, .null, .null, .null, .null, .null]))] s.heap.size) ([(o, .inr (3, [.int 0, .int 0, .ref q7, .ref q15, .int 0, .ref q23, .ref q31, .ref q480, .ref q487, .ref q494, .ref q501, .ref q508, .ref q515, .ref q523, .null, .null, .null])), (q7, .inl (k 2, 80, .inl (fun _ => 0))), (q15, .inl (k 0, 80, .inl (fun _ => 0))), (q23, .inl (k 0, 80, .inl (fun _ => 0))), (q31, .inl (k 2, 80, .inl f80)), (q480, .inl (k 0, 2, .inl (fun _ => 0))), (q487, .inl (k 0, 2, .inl (fun _ => 0))), (q494, .inl (k 0, 2, .inl (fun _ => 0))), (q501, .inl (k 0, 2, .inl (fun _ => 0))), (q508, .inl (k 0, 2, .inl (fun _ => 0))), (q515, .inl (k 0, 2, .inl (fun _ => 0))), (q523, .inl (k 0, 80, .inl (fun _ => 0))), (q531, .inl (k 0, 16, .inl (fun _ => 0)))]) := hD
  refine W.widen (k := 12) (n := 428) (Nat.le_of_ble_eq_true rfl) (Nat.le_of_ble_eq_true rfl) ?_
  refine va_putF (D := Dg) (ci := 3) (v := .ref q531) (ty := (.array .int)) (C := R_Mod) (T := F_Mod) (N := 17) hx hb hT in_Mod t_Mod t_Mod_ok n_Mod hown hK hP hD hS 0 rfl rfl 14 (by decide) (hT _ tw3_0) (fun _ h9 => h9) rfl hname rfl (by decide +kernel) rfl rfl (Nat.le_of_ble_eq_true rfl) d_Mod_init_533 (fun H locs hP hD hS => ?_)
  have hP : va_P Dg classes ([(o, .inr (3, [.int 0, .int 0, .ref q7, .ref q15, .int 0, .ref q23, .ref q31, .ref q480, .ref q487, .ref q494, .ref q501, .ref q508, .ref q515, .ref q523, .ref q531, .null, .null])), (q7, .inl (k 2, 80, .inl (fun _ => 0))), (q15, .inl (k 0, 80, .inl (fun _ => 0))), (q23, .inl (k 0, 80, .inl (fun _ => 0))), (q31, .inl (k 2, 80, .inl f80)), (q480, .inl (k 0, 2, .inl (fun _ => 0))), (q487, .inl (k 0, 2, .inl (fun _ => 0))), (q494, .inl (k 0, 2, .inl (fun _ => 0))), (q501, .inl (k 0, 2, .inl (fun _ => 0))), (q508, .inl (k 0, 2, .inl (fun _ => 0))), (q515, .inl (k 0, 2, .inl (fun _ => 0))), (q523, .inl (k 0, 80, .inl (fun _ => 0))), (q531, .inl (k 0, 16, .inl (fun _ => 0)))]) H := hP
  have hD : va_D (va_A [(o, .inr (3, [.int 0, .int 0, .null, .null, .int 0, .null, .null, .null, .null, .null, .null, .null, .null, .null, .null, .null, .null]))] s.heap.size) ([(o, .inr (3, [.int 0, .int 0, .ref q7, .ref q15, .int 0, .ref q23, .ref q31, .ref q480, .ref q487, .ref q494, .ref q501, .ref q508, .ref q515, .ref q523, .ref q531, .null, .null])), (q7, .inl (k 2, 80, .inl (fun _ => 0))), (q15, .inl (k 0, 80, .inl (fun _ => 0))), (q23, .inl (k 0, 80, .inl (fun _ => 0))), (q31, .inl (k 2, 80, .inl f80)), (q480, .inl (k 0, 2, .inl (fun _ => 0))), (q487, .inl (k 0, 2, .inl (fun _ => 0))), (q494, .inl (k 0, 2, .inl (fun _ => 0))), (q501, .inl (k 0, 2, .inl (fun _ => 0))), (q508, .inl (k 0, 2, .inl (fun _ => 0))), (q515, .inl (k 0, 2, .inl (fun _ => 0))), (q523, .inl (k 0, 80, .inl (fun _ => 0))), (q531, .inl (k 0, 16, .inl (fun _ => 0)))]) := hD
  refine lv_aload_n hx hb d_Mod_init_536 rfl (lv_at hl 0 rfl) ?_
  refine lv_bipush (v := 20) hx hb d_Mod_init_537 (by decide) ?_
  refine kn_a (n := 20) (N' := 20) (ty := .int) (a0 := (20, .inl (fun _ => 0))) F tw1_59 rfl (fun _ _ h => h) hK 0 rfl hP hD hS hA (fun _ => rfl) (by decide) (by decide) (by decide) (Nat.le_of_ble_eq_true rfl) (Nat.le_of_ble_eq_true rfl) d_Mod_init_539 (fun q539 H hP hD hS => ?_)
  have hP : va_P Dg classes ([(o, .inr (3, [.int 0, .int 0, .ref q7, .ref q15, .int 0, .ref q23, .ref q31, .ref q480, .ref q487, .ref q494, .ref q501, .ref q508, .ref q515, .ref q523, .ref q531, .null, .null])), (q7, .inl (k 2, 80, .inl (fun _ => 0))), (q15, .inl (k 0, 80, .inl (fun _ => 0))), (q23, .inl (k 0, 80, .inl (fun _ => 0))), (q31, .inl (k 2, 80, .inl f80)), (q480, .inl (k 0, 2, .inl (fun _ => 0))), (q487, .inl (k 0, 2, .inl (fun _ => 0))), (q494, .inl (k 0, 2, .inl (fun _ => 0))), (q501, .inl (k 0, 2, .inl (fun _ => 0))), (q508, .inl (k 0, 2, .inl (fun _ => 0))), (q515, .inl (k 0, 2, .inl (fun _ => 0))), (q523, .inl (k 0, 80, .inl (fun _ => 0))), (q531, .inl (k 0, 16, .inl (fun _ => 0))), (q539, .inl (k 0, 20, .inl (fun _ => 0)))]) H := hP
  have hD : va_D (va_A [(o, .inr (3, [.int 0, .int 0, .null, .null, .int 0, .null, .null, .null, .null, .null, .null, .null, .null, .null, .null, .null, .null]))] s.heap.size) ([(o, .inr (3, [.int 0, .int 0, .ref q7, .ref q15, .int 0, .ref q23, .ref q31, .ref q480, .ref q487, .ref q494, .ref q501, .ref q508, .ref q515, .ref q523, .ref q531, .null, .null])), (q7, .inl (k 2, 80, .inl (fun _ => 0))), (q15, .inl (k 0, 80, .inl (fun _ => 0))), (q23, .inl (k 0, 80, .inl (fun _ => 0))), (q31, .inl (k 2, 80, .inl f80)), (q480, .inl (k 0, 2, .inl (fun _ => 0))), (q487, .inl (k 0, 2, .inl (fun _ => 0))), (q494, .inl (k 0, 2, .inl (fun _ => 0))), (q501, .inl (k 0, 2, .inl (fun _ => 0))), (q508, .inl (k 0, 2, .inl (fun _ => 0))), (q515, .inl (k 0, 2, .inl (fun _ => 0))), (q523, .inl (k 0, 80, .inl (fun _ => 0))), (q531, .inl (k 0, 16, .inl (fun _ => 0))), (q539, .inl (k 0, 20, .inl (fun _ => 0)))]) := hD
  refine W.widen (k := 13) (n := 448) (Nat.le_of_ble_eq_true rfl) (Nat.le_of_ble_eq_true rfl) ?_
  refine va_putF (D := Dg) (ci := 3) (v := .ref q539) (ty := (.array .int)) (C := R_Mod) (T := F_Mod) (N := 17) hx hb hT in_Mod t_Mod t_Mod_ok n_Mod hown hK hP hD hS 0 rfl rfl 15 (by decide) (hT _ tw3_1) (fun _ h9 => h9) rfl hname rfl (by decide +kernel) rfl rfl (Nat.le_of_ble_eq_true rfl) d_Mod_init_541 (fun H locs hP hD hS => ?_)
  have hP : va_P Dg classes ([(o, .inr (3, [.int 0, .int 0, .ref q7, .ref q15, .int 0, .ref q23, .ref q31, .ref q480, .ref q487, .ref q494, .ref q501, .ref q508, .ref q515, .ref q523, .ref q531, .ref q539, .null])), (q7, .inl (k 2, 80, .inl (fun _ => 0))), (q15, .inl (k 0, 80, .inl (fun _ => 0))), (q23, .inl (k 0, 80, .inl (fun _ => 0))), (q31, .inl (k 2, 80, .inl f80)), (q480, .inl (k 0, 2, .inl (fun _ => 0))), (q487, .inl (k 0, 2, .inl (fun _ => 0))), (q494, .inl (k 0, 2, .inl (fun _ => 0))), (q501, .inl (k 0, 2, .inl (fun _ => 0))), (q508, .inl (k 0, 2, .inl (fun _ => 0))), (q515, .inl (k 0, 2, .inl (fun _ => 0))), (q523, .inl (k 0, 80, .inl (fun _ => 0))), (q531, .inl (k 0, 16, .inl (fun _ => 0))), (q539, .inl (k 0, 20, .inl (fun _ => 0)))]) H := hP
  have hD : va_D (va_A [(o, .inr (3, [.int 0, .int 0, .null, .null, .int 0, .null, .null, .null, .null, .null, .null, .null, .null, .null, .null, .null, .null]))] s.heap.size) ([(o, .inr (3, [.int 0, .int 0, .ref q7, .ref q15, .int 0, .ref q23, .ref q31, .ref q480, .ref q487, .ref q494, .ref q501, .ref q508, .ref q515, .ref q523, .ref q531, .ref q539, .null])), (q7, .inl (k 2, 80, .inl (fun _ => 0))), (q15, .inl (k 0, 80, .inl (fun _ => 0))), (q23, .inl (k 0, 80, .inl (fun _ => 0))), (q31, .inl (k 2, 80, .inl f80)), (q480, .inl (k 0, 2, .inl (fun _ => 0))), (q487, .inl (k 0, 2, .inl (fun _ => 0))), (q494, .inl (k 0, 2, .inl (fun _ => 0))), (q501, .inl (k 0, 2, .inl (fun _ => 0))), (q508, .inl (k 0, 2, .inl (fun _ => 0))), (q515, .inl (k 0, 2, .inl (fun _ => 0))), (q523, .inl (k 0, 80, .inl (fun _ => 0))), (q531, .inl (k 0, 16, .inl (fun _ => 0))), (q539, .inl (k 0, 20, .inl (fun _ => 0)))]) := hD
  refine lv_aload_n hx hb d_Mod_init_544 rfl (lv_at hl 0 rfl) ?_
  refine lv_bipush (v := 120) hx hb d_Mod_init_545 (by decide) ?_
  refine kn_a (n := 120) (N' := 120) (ty := .int) (a0 := (120, .inl (fun _ => 0))) F tw1_59 rfl (fun _ _ h => h) hK 0 rfl hP hD hS hA (fun _ => rfl) (by decide) (by decide) (by decide) (Nat.le_of_ble_eq_true rfl) (Nat.le_of_ble_eq_true rfl) d_Mod_init_547 (fun q547 H hP hD hS => ?_)
  have hP : va_P Dg classes ([(o, .inr (3, [.int 0, .int 0, .ref q7, .ref q15, .int 0, .ref q23, .ref q31, .ref q480, .ref q487, .ref q494, .ref q501, .ref q508, .ref q515, .ref q523, .ref q531, .ref q539, .null])), (q7, .inl (k 2, 80, .inl (fun _ => 0))), (q15, .inl (k 0, 80, .inl (fun _ => 0))), (q23, .inl (k 0, 80, .inl (fun _ => 0))), (q31, .inl (k 2, 80, .inl f80)), (q480, .inl (k 0, 2, .inl (fun _ => 0))), (q487, .inl (k 0, 2, .inl (fun _ => 0))), (q494, .inl (k 0, 2, .inl (fun _ => 0))), (q501, .inl (k 0, 2, .inl (fun _ => 0))), (q508, .inl (k 0, 2, .inl (fun _ => 0))), (q515, .inl (k 0, 2, .inl (fun _ => 0))), (q523, .inl (k 0, 80, .inl (fun _ => 0))), (q531, .inl (k 0, 16, .inl (fun _ => 0))), (q539, .inl (k 0, 20, .inl (fun _ => 0))), (q547, .inl (k 0, 120, .inl (fun _ => 0)))]) H := hP
  have hD : va_D (va_A [(o, .inr (3, [.int 0, .int 0, .null, .null, .int 0, .null, .null, .null, .null, .null, .null, .null, .null, .null, .null, .null, .null]))] s.heap.size) ([(o, .inr (3, [.int 0, .int 0, .ref q7, .ref q15, .int 0, .ref q23, .ref q31, .ref q480, .ref q487, .ref q494, .ref q501, .ref q508, .ref q515, .ref q523, .ref q531, .ref q539, .null])), (q7, .inl (k 2, 80, .inl (fun _ => 0))), (q15, .inl (k 0, 80, .inl (fun _ => 0))), (q23, .inl (k 0, 80, .inl (fun _ => 0))), (q31, .inl (k 2, 80, .inl f80)), (q480, .inl (k 0, 2, .inl (fun _ => 0))), (q487, .inl (k 0, 2, .inl (fun _ => 0))), (q494, .inl (k 0, 2, .inl (fun _ => 0))), (q501, .inl (k 0, 2, .inl (fun _ => 0))), (q508, .inl (k 0, 2, .inl (fun _ => 0))), (q515, .inl (k 0, 2, .inl (fun _ => 0))), (q523, .inl (k 0, 80, .inl (fun _ => 0))), (q531, .inl (k 0, 16, .inl (fun _ => 0))), (q539, .inl (k 0, 20, .inl (fun _ => 0))), (q547, .inl (k 0, 120, .inl (fun _ => 0)))]) := hD
  refine W.widen (k := 14) (n := 568) (Nat.le_of_ble_eq_true rfl) (Nat.le_of_ble_eq_true rfl) ?_
  refine va_putF (D := Dg) (ci := 3) (v := .ref q547) (ty := (.array .int)) (C := R_Mod) (T := F_Mod) (N := 17) hx hb hT in_Mod t_Mod t_Mod_ok n_Mod hown hK hP hD hS 0 rfl rfl 16 (by decide) (hT _ tw3_2) (fun _ h9 => h9) rfl hname rfl (by decide +kernel) rfl rfl (Nat.le_of_ble_eq_true rfl) d_Mod_init_549 (fun H locs hP hD hS => ?_)
  have hP : va_P Dg classes ([(o, .inr (3, [.int 0, .int 0, .ref q7, .ref q15, .int 0, .ref q23, .ref q31, .ref q480, .ref q487, .ref q494, .ref q501, .ref q508, .ref q515, .ref q523, .ref q531, .ref q539, .ref q547])), (q7, .inl (k 2, 80, .inl (fun _ => 0))), (q15, .inl (k 0, 80, .inl (fun _ => 0))), (q23, .inl (k 0, 80, .inl (fun _ => 0))), (q31, .inl (k 2, 80, .inl f80)), (q480, .inl (k 0, 2, .inl (fun _ => 0))), (q487, .inl (k 0, 2, .inl (fun _ => 0))), (q494, .inl (k 0, 2, .inl (fun _ => 0))), (q501, .inl (k 0, 2, .inl (fun _ => 0))), (q508, .inl (k 0, 2, .inl (fun _ => 0))), (q515, .inl (k 0, 2, .inl (fun _ => 0))), (q523, .inl (k 0, 80, .inl (fun _ => 0))), (q531, .inl (k 0, 16, .inl (fun _ => 0))), (q539, .inl (k 0, 20, .inl (fun _ => 0))), (q547, .inl (k 0, 120, .inl (fun _ => 0)))]) H := hP
  have hD : va_D (va_A [(o, .inr (3, [.int 0, .int 0, .null, .null, .int 0, .null, .null, .null, .null, .null, .null, .null, .null, .null, .null, .null, .null]))] s.heap.size) ([(o, .inr (3, [.int 0, .int 0, .ref q7, .ref q15, .int 0, .ref q23, .ref q31, .ref q480, .ref q487, .ref q494, .ref q501, .ref q508, .ref q515, .ref q523, .ref q531, .ref q539, .ref q547])), (q7, .inl (k 2, 80, .inl (fun _ => 0))), (q15, .inl (k 0, 80, .inl (fun _ => 0))), (q23, .inl (k 0, 80, .inl (fun _ => 0))), (q31, .inl (k 2, 80, .inl f80)), (q480, .inl (k 0, 2, .inl (fun _ => 0))), (q487, .inl (k 0, 2, .inl (fun _ => 0))), (q494, .inl (k 0, 2, .inl (fun _ => 0))), (q501, .inl (k 0, 2, .inl (fun _ => 0))), (q508, .inl (k 0, 2, .inl (fun _ => 0))), (q515, .inl (k 0, 2, .inl (fun _ => 0))), (q523, .inl (k 0, 80, .inl (fun _ => 0))), (q531, .inl (k 0, 16, .inl (fun _ => 0))), (q539, .inl (k 0, 20, .inl (fun _ => 0))), (q547, .inl (k 0, 120, .inl (fun _ => 0)))]) := hD
  have hrm : ∀ j, j < 80 → f80 j = rm j := by rw [hf80, hf79, hf78, hf77, hf76, hf75, hf74, hf73, hf72, hf71, hf70, hf69, hf68, hf67, hf66, hf65, hf64, hf63, hf62, hf61, hf60, hf59, hf58, hf57, hf56, hf55, hf54, hf53, hf52, hf51, hf50, hf49, hf48, hf47, hf46, hf45, hf44, hf43, hf42, hf41, hf40, hf39, hf38, hf37, hf36, hf35, hf34, hf33, hf32, hf31, hf30, hf29, hf28, hf27, hf26, hf25, hf24, hf23, hf22, hf21, hf20, hf19, hf18, hf17, hf16, hf15, hf14, hf13, hf12, hf11, hf10, hf9, hf8, hf7, hf6, hf5, hf4, hf3, hf2, hf1]; decide +kernel
  exact kc_v (kL [o, q7, q15, q23, q31, q480, q487, q494, q501, q508, q515, q523, q531, q539, q547], fun i => if i = 3 then f80 else fun _ => 0) ⟨rfl, hrm, fun r hr => if_neg hr⟩ F hlocks hret hP hD hS d_Mod_init_552 rfl
