set_option maxRecDepth 100000 in
set_option maxHeartbeats 4000000 in
theorem c_Mac_init (l : Launch) (Dg : va_G) (k : Nat → ClassId) (o : Nat) (H : Heap) (hP : va_P Dg classes [(o, .inr (1, [.null, .null, .null, .null, .int 0, .int 0, .int 0, .int 0, .int 0, .int 0]))] H) (hD : va_D (fun _ => True) [(o, .inr (1, [.null, .null, .null, .null, .int 0, .int 0, .int 0, .int 0, .int 0, .int 0]))]) : kCv l y_Mac_init b_Mac_init 1 1 4 118 12 [.ref o] H (va_K Dg classes (kTy k)) Dg [(o, .inr (1, [.null, .null, .null, .null, .int 0, .int 0, .int 0, .int 0, .int 0, .int 0]))] (fun a : Nat → Nat => a 0 = o) (fun a => wM a k vZ) := by
  refine k_of (by decide) (Nat.le_of_ble_eq_true rfl) ?_
  intro p e s m below meth cd ls F hlocks hret hname hh hX hl
  subst hh
  obtain ⟨hx, hb, hml, hown, hT⟩ := id F
  have hK : va_K Dg classes (kTy k) s := hX
  have hA : ∀ q : Nat, s.heap.size ≤ q → va_A [(o, .inr (1, [.null, .null, .null, .null, .int 0, .int 0, .int 0, .int 0, .int 0, .int 0]))] s.heap.size q := fun q h => Or.inr h
  have hD := hD.self (sz := s.heap.size)
  have hS : va_S (va_A [(o, .inr (1, [.null, .null, .null, .null, .int 0, .int 0, .int 0, .int 0, .int 0, .int 0]))] s.heap.size) s.heap s.heap [] := va_S.rf
  have hl : lv_has ls 1 [(0, .ref o)] := hl
  refine lv_aload_n hx hb d_Mac_init_0 rfl (lv_at hl 0 rfl) ?_
  refine W.objInit hx hb hown (hT _ tw1_66) (hT _ tw1_24) (hT _ tw1_25) rfl (by rw [hml]; exact hl.1) rfl d_Mac_init_1 (Nat.le_of_ble_eq_true rfl) (Nat.le_of_ble_eq_true rfl) ?_
  refine W.eq (g2 := F0 m 4 ls []) rfl ?_
  refine lv_aload_n hx hb d_Mac_init_4 rfl (lv_at hl 0 rfl) ?_
  refine lv_bipush (v := 40) hx hb d_Mac_init_5 (by decide) ?_
  refine kn_a (n := 40) (N' := 40) (ty := .int) (a0 := (40, .inl (fun _ => 0))) F tw1_59 rfl (fun _ _ h => h) hK 0 rfl hP hD hS hA (fun _ => rfl) (by decide) (by decide) (by decide) (Nat.le_of_ble_eq_true rfl) (Nat.le_of_ble_eq_true rfl) d_Mac_init_7 (fun q7 H hP hD hS => ?_)
  have hP : va_P Dg classes ([(o, .inr (1, [.null, .null, .null, .null, .int 0, .int 0, .int 0, .int 0, .int 0, .int 0])), (q7, .inl (k 0, 40, .inl (fun _ => 0)))]) H := hP
  have hD : va_D (va_A [(o, .inr (1, [.null, .null, .null, .null, .int 0, .int 0, .int 0, .int 0, .int 0, .int 0]))] s.heap.size) ([(o, .inr (1, [.null, .null, .null, .null, .int 0, .int 0, .int 0, .int 0, .int 0, .int 0])), (q7, .inl (k 0, 40, .inl (fun _ => 0)))]) := hD
  refine W.widen (k := 1) (n := 40) (Nat.le_of_ble_eq_true rfl) (Nat.le_of_ble_eq_true rfl) ?_
  refine va_putF (D := Dg) (ci := 1) (v := .ref q7) (ty := (.array .int)) (C := R_Mac) (T := F_Mac) (N := 10) hx hb hT in_Mac t_Mac t_Mac_ok n_Mac hown hK hP hD hS 0 rfl rfl 0 (by decide) (hT _ tw1_67) (fun _ h9 => h9) rfl hname rfl (by decide +kernel) rfl rfl (Nat.le_of_ble_eq_true rfl) d_Mac_init_9 (fun H locs hP hD hS => ?_)
  have hP : va_P Dg classes ([(o, .inr (1, [.ref q7, .null, .null, .null, .int 0, .int 0, .int 0, .int 0, .int 0, .int 0])), (q7, .inl (k 0, 40, .inl (fun _ => 0)))]) H := hP
  have hD : va_D (va_A [(o, .inr (1, [.null, .null, .null, .null, .int 0, .int 0, .int 0, .int 0, .int 0, .int 0]))] s.heap.size) ([(o, .inr (1, [.ref q7, .null, .null, .null, .int 0, .int 0, .int 0, .int 0, .int 0, .int 0])), (q7, .inl (k 0, 40, .inl (fun _ => 0)))]) := hD
  refine lv_aload_n hx hb d_Mac_init_12 rfl (lv_at hl 0 rfl) ?_
  refine lv_bipush (v := 8) hx hb d_Mac_init_13 (by decide) ?_
  refine kn_a (n := 8) (N' := 8) (ty := .int) (a0 := (8, .inl (fun _ => 0))) F tw1_59 rfl (fun _ _ h => h) hK 0 rfl hP hD hS hA (fun _ => rfl) (by decide) (by decide) (by decide) (Nat.le_of_ble_eq_true rfl) (Nat.le_of_ble_eq_true rfl) d_Mac_init_15 (fun q15 H hP hD hS => ?_)
  have hP : va_P Dg classes ([(o, .inr (1, [.ref q7, .null, .null, .null, .int 0, .int 0, .int 0, .int 0, .int 0, .int 0])), (q7, .inl (k 0, 40, .inl (fun _ => 0))), (q15, .inl (k 0, 8, .inl (fun _ => 0)))]) H := hP
  have hD : va_D (va_A [(o, .inr (1, [.null, .null, .null, .null, .int 0, .int 0, .int 0, .int 0, .int 0, .int 0]))] s.heap.size) ([(o, .inr (1, [.ref q7, .null, .null, .null, .int 0, .int 0, .int 0, .int 0, .int 0, .int 0])), (q7, .inl (k 0, 40, .inl (fun _ => 0))), (q15, .inl (k 0, 8, .inl (fun _ => 0)))]) := hD
  refine W.widen (k := 2) (n := 48) (Nat.le_of_ble_eq_true rfl) (Nat.le_of_ble_eq_true rfl) ?_
  refine va_putF (D := Dg) (ci := 1) (v := .ref q15) (ty := (.array .int)) (C := R_Mac) (T := F_Mac) (N := 10) hx hb hT in_Mac t_Mac t_Mac_ok n_Mac hown hK hP hD hS 0 rfl rfl 1 (by decide) (hT _ tw1_69) (fun _ h9 => h9) rfl hname rfl (by decide +kernel) rfl rfl (Nat.le_of_ble_eq_true rfl) d_Mac_init_17 (fun H locs hP hD hS => ?_)
  have hP : va_P Dg classes ([(o, .inr (1, [.ref q7, .ref q15, .null, .null, .int 0, .int 0, .int 0, .int 0, .int 0, .int 0])), (q7, .inl (k 0, 40, .inl (fun _ => 0))), (q15, .inl (k 0, 8, .inl (fun _ => 0)))]) H := hP
  have hD : va_D (va_A [(o, .inr (1, [.null, .null, .null, .null, .int 0, .int 0, .int 0, .int 0, .int 0, .int 0]))] s.heap.size) ([(o, .inr (1, [.ref q7, .ref q15, .null, .null, .int 0, .int 0, .int 0, .int 0, .int 0, .int 0])), (q7, .inl (k 0, 40, .inl (fun _ => 0))), (q15, .inl (k 0, 8, .inl (fun _ => 0)))]) := hD
  refine lv_aload_n hx hb d_Mac_init_20 rfl (lv_at hl 0 rfl) ?_
  refine lv_bipush (v := 60) hx hb d_Mac_init_21 (by decide) ?_
  refine kn_a (n := 60) (N' := 60) (ty := .int) (a0 := (60, .inl (fun _ => 0))) F tw1_59 rfl (fun _ _ h => h) hK 0 rfl hP hD hS hA (fun _ => rfl) (by decide) (by decide) (by decide) (Nat.le_of_ble_eq_true rfl) (Nat.le_of_ble_eq_true rfl) d_Mac_init_23 (fun q23 H hP hD hS => ?_)
  have hP : va_P Dg classes ([(o, .inr (1, [.ref q7, .ref q15, .null, .null, .int 0, .int 0, .int 0, .int 0, .int 0, .int 0])), (q7, .inl (k 0, 40, .inl (fun _ => 0))), (q15, .inl (k 0, 8, .inl (fun _ => 0))), (q23, .inl (k 0, 60, .inl (fun _ => 0)))]) H := hP
  have hD : va_D (va_A [(o, .inr (1, [.null, .null, .null, .null, .int 0, .int 0, .int 0, .int 0, .int 0, .int 0]))] s.heap.size) ([(o, .inr (1, [.ref q7, .ref q15, .null, .null, .int 0, .int 0, .int 0, .int 0, .int 0, .int 0])), (q7, .inl (k 0, 40, .inl (fun _ => 0))), (q15, .inl (k 0, 8, .inl (fun _ => 0))), (q23, .inl (k 0, 60, .inl (fun _ => 0)))]) := hD
  refine W.widen (k := 3) (n := 108) (Nat.le_of_ble_eq_true rfl) (Nat.le_of_ble_eq_true rfl) ?_
  refine va_putF (D := Dg) (ci := 1) (v := .ref q23) (ty := (.array .int)) (C := R_Mac) (T := F_Mac) (N := 10) hx hb hT in_Mac t_Mac t_Mac_ok n_Mac hown hK hP hD hS 0 rfl rfl 2 (by decide) (hT _ tw1_71) (fun _ h9 => h9) rfl hname rfl (by decide +kernel) rfl rfl (Nat.le_of_ble_eq_true rfl) d_Mac_init_25 (fun H locs hP hD hS => ?_)
  have hP : va_P Dg classes ([(o, .inr (1, [.ref q7, .ref q15, .ref q23, .null, .int 0, .int 0, .int 0, .int 0, .int 0, .int 0])), (q7, .inl (k 0, 40, .inl (fun _ => 0))), (q15, .inl (k 0, 8, .inl (fun _ => 0))), (q23, .inl (k 0, 60, .inl (fun _ => 0)))]) H := hP
  have hD : va_D (va_A [(o, .inr (1, [.null, .null, .null, .null, .int 0, .int 0, .int 0, .int 0, .int 0, .int 0]))] s.heap.size) ([(o, .inr (1, [.ref q7, .ref q15, .ref q23, .null, .int 0, .int 0, .int 0, .int 0, .int 0, .int 0])), (q7, .inl (k 0, 40, .inl (fun _ => 0))), (q15, .inl (k 0, 8, .inl (fun _ => 0))), (q23, .inl (k 0, 60, .inl (fun _ => 0)))]) := hD
  refine lv_aload_n hx hb d_Mac_init_28 rfl (lv_at hl 0 rfl) ?_
  refine lv_bipush (v := 10) hx hb d_Mac_init_29 (by decide) ?_
  refine kn_a (n := 10) (N' := 10) (ty := .int) (a0 := (10, .inl (fun _ => 0))) F tw1_59 rfl (fun _ _ h => h) hK 0 rfl hP hD hS hA (fun _ => rfl) (by decide) (by decide) (by decide) (Nat.le_of_ble_eq_true rfl) (Nat.le_of_ble_eq_true rfl) d_Mac_init_31 (fun q31 H hP hD hS => ?_)
  have hP : va_P Dg classes ([(o, .inr (1, [.ref q7, .ref q15, .ref q23, .null, .int 0, .int 0, .int 0, .int 0, .int 0, .int 0])), (q7, .inl (k 0, 40, .inl (fun _ => 0))), (q15, .inl (k 0, 8, .inl (fun _ => 0))), (q23, .inl (k 0, 60, .inl (fun _ => 0))), (q31, .inl (k 0, 10, .inl (fun _ => 0)))]) H := hP
  have hD : va_D (va_A [(o, .inr (1, [.null, .null, .null, .null, .int 0, .int 0, .int 0, .int 0, .int 0, .int 0]))] s.heap.size) ([(o, .inr (1, [.ref q7, .ref q15, .ref q23, .null, .int 0, .int 0, .int 0, .int 0, .int 0, .int 0])), (q7, .inl (k 0, 40, .inl (fun _ => 0))), (q15, .inl (k 0, 8, .inl (fun _ => 0))), (q23, .inl (k 0, 60, .inl (fun _ => 0))), (q31, .inl (k 0, 10, .inl (fun _ => 0)))]) := hD
  refine W.widen (k := 4) (n := 118) (Nat.le_of_ble_eq_true rfl) (Nat.le_of_ble_eq_true rfl) ?_
  refine va_putF (D := Dg) (ci := 1) (v := .ref q31) (ty := (.array .int)) (C := R_Mac) (T := F_Mac) (N := 10) hx hb hT in_Mac t_Mac t_Mac_ok n_Mac hown hK hP hD hS 0 rfl rfl 3 (by decide) (hT _ tw1_73) (fun _ h9 => h9) rfl hname rfl (by decide +kernel) rfl rfl (Nat.le_of_ble_eq_true rfl) d_Mac_init_33 (fun H locs hP hD hS => ?_)
  have hP : va_P Dg classes ([(o, .inr (1, [.ref q7, .ref q15, .ref q23, .ref q31, .int 0, .int 0, .int 0, .int 0, .int 0, .int 0])), (q7, .inl (k 0, 40, .inl (fun _ => 0))), (q15, .inl (k 0, 8, .inl (fun _ => 0))), (q23, .inl (k 0, 60, .inl (fun _ => 0))), (q31, .inl (k 0, 10, .inl (fun _ => 0)))]) H := hP
  have hD : va_D (va_A [(o, .inr (1, [.null, .null, .null, .null, .int 0, .int 0, .int 0, .int 0, .int 0, .int 0]))] s.heap.size) ([(o, .inr (1, [.ref q7, .ref q15, .ref q23, .ref q31, .int 0, .int 0, .int 0, .int 0, .int 0, .int 0])), (q7, .inl (k 0, 40, .inl (fun _ => 0))), (q15, .inl (k 0, 8, .inl (fun _ => 0))), (q23, .inl (k 0, 60, .inl (fun _ => 0))), (q31, .inl (k 0, 10, .inl (fun _ => 0)))]) := hD
  exact kc_v (kL [o, q7, q15, q23, q31]) rfl F hlocks hret hP hD hS d_Mac_init_36 rfl

set_option maxRecDepth 100000 in
set_option maxHeartbeats 4000000 in
theorem c_Prg_init (l : Launch) (Dg : va_G) (k : Nat → ClassId) (o : Nat) (H : Heap) (hP : va_P Dg classes [(o, .inr (2, [.null, .null, .null, .null, .null, .int 0, .int 0]))] H) (hD : va_D (fun _ => True) [(o, .inr (2, [.null, .null, .null, .null, .null, .int 0, .int 0]))]) : kCv l y_Prg_init b_Prg_init 1 1 5 400 12 [.ref o] H (va_K Dg classes (kTy k)) Dg [(o, .inr (2, [.null, .null, .null, .null, .null, .int 0, .int 0]))] (fun a : Nat → Nat => a 0 = o) (fun a => wP a k vZ) := by
  refine k_of (by decide) (Nat.le_of_ble_eq_true rfl) ?_
  intro p e s m below meth cd ls F hlocks hret hname hh hX hl
  subst hh
  obtain ⟨hx, hb, hml, hown, hT⟩ := id F
  have hK : va_K Dg classes (kTy k) s := hX
  have hA : ∀ q : Nat, s.heap.size ≤ q → va_A [(o, .inr (2, [.null, .null, .null, .null, .null, .int 0, .int 0]))] s.heap.size q := fun q h => Or.inr h
  have hD := hD.self (sz := s.heap.size)
  have hS : va_S (va_A [(o, .inr (2, [.null, .null, .null, .null, .null, .int 0, .int 0]))] s.heap.size) s.heap s.heap [] := va_S.rf
  have hl : lv_has ls 1 [(0, .ref o)] := hl
  refine lv_aload_n hx hb d_Prg_init_0 rfl (lv_at hl 0 rfl) ?_
  refine W.objInit hx hb hown (hT _ tw1_31) (hT _ tw1_24) (hT _ tw1_25) rfl (by rw [hml]; exact hl.1) rfl d_Prg_init_1 (Nat.le_of_ble_eq_true rfl) (Nat.le_of_ble_eq_true rfl) ?_
  refine W.eq (g2 := F0 m 4 ls []) rfl ?_
  refine lv_aload_n hx hb d_Prg_init_4 rfl (lv_at hl 0 rfl) ?_
  refine lv_bipush (v := 80) hx hb d_Prg_init_5 (by decide) ?_
  refine kn_a (n := 80) (N' := 80) (ty := .int) (a0 := (80, .inl (fun _ => 0))) F tw1_59 rfl (fun _ _ h => h) hK 0 rfl hP hD hS hA (fun _ => rfl) (by decide) (by decide) (by decide) (Nat.le_of_ble_eq_true rfl) (Nat.le_of_ble_eq_true rfl) d_Prg_init_7 (fun q7 H hP hD hS => ?_)
  have hP : va_P Dg classes ([(o, .inr (2, [.null, .null, .null, .null, .null, .int 0, .int 0])), (q7, .inl (k 0, 80, .inl (fun _ => 0)))]) H := hP
  have hD : va_D (va_A [(o, .inr (2, [.null, .null, .null, .null, .null, .int 0, .int 0]))] s.heap.size) ([(o, .inr (2, [.null, .null, .null, .null, .null, .int 0, .int 0])), (q7, .inl (k 0, 80, .inl (fun _ => 0)))]) := hD
  refine W.widen (k := 1) (n := 80) (Nat.le_of_ble_eq_true rfl) (Nat.le_of_ble_eq_true rfl) ?_
  refine va_putF (D := Dg) (ci := 2) (v := .ref q7) (ty := (.array .int)) (C := R_Prg) (T := F_Prg) (N := 7) hx hb hT in_Prg t_Prg t_Prg_ok n_Prg hown hK hP hD hS 0 rfl rfl 0 (by decide) (hT _ tw1_32) (fun _ h9 => h9) rfl hname rfl (by decide +kernel) rfl rfl (Nat.le_of_ble_eq_true rfl) d_Prg_init_9 (fun H locs hP hD hS => ?_)
  have hP : va_P Dg classes ([(o, .inr (2, [.ref q7, .null, .null, .null, .null, .int 0, .int 0])), (q7, .inl (k 0, 80, .inl (fun _ => 0)))]) H := hP
  have hD : va_D (va_A [(o, .inr (2, [.null, .null, .null, .null, .null, .int 0, .int 0]))] s.heap.size) ([(o, .inr (2, [.ref q7, .null, .null, .null, .null, .int 0, .int 0])), (q7, .inl (k 0, 80, .inl (fun _ => 0)))]) := hD
  refine lv_aload_n hx hb d_Prg_init_12 rfl (lv_at hl 0 rfl) ?_
  refine lv_bipush (v := 80) hx hb d_Prg_init_13 (by decide) ?_
  refine kn_a (n := 80) (N' := 80) (ty := .int) (a0 := (80, .inl (fun _ => 0))) F tw1_59 rfl (fun _ _ h => h) hK 0 rfl hP hD hS hA (fun _ => rfl) (by decide) (by decide) (by decide) (Nat.le_of_ble_eq_true rfl) (Nat.le_of_ble_eq_true rfl) d_Prg_init_15 (fun q15 H hP hD hS => ?_)
  have hP : va_P Dg classes ([(o, .inr (2, [.ref q7, .null, .null, .null, .null, .int 0, .int 0])), (q7, .inl (k 0, 80, .inl (fun _ => 0))), (q15, .inl (k 0, 80, .inl (fun _ => 0)))]) H := hP
  have hD : va_D (va_A [(o, .inr (2, [.null, .null, .null, .null, .null, .int 0, .int 0]))] s.heap.size) ([(o, .inr (2, [.ref q7, .null, .null, .null, .null, .int 0, .int 0])), (q7, .inl (k 0, 80, .inl (fun _ => 0))), (q15, .inl (k 0, 80, .inl (fun _ => 0)))]) := hD
  refine W.widen (k := 2) (n := 160) (Nat.le_of_ble_eq_true rfl) (Nat.le_of_ble_eq_true rfl) ?_
  refine va_putF (D := Dg) (ci := 2) (v := .ref q15) (ty := (.array .int)) (C := R_Prg) (T := F_Prg) (N := 7) hx hb hT in_Prg t_Prg t_Prg_ok n_Prg hown hK hP hD hS 0 rfl rfl 1 (by decide) (hT _ tw1_34) (fun _ h9 => h9) rfl hname rfl (by decide +kernel) rfl rfl (Nat.le_of_ble_eq_true rfl) d_Prg_init_17 (fun H locs hP hD hS => ?_)
  have hP : va_P Dg classes ([(o, .inr (2, [.ref q7, .ref q15, .null, .null, .null, .int 0, .int 0])), (q7, .inl (k 0, 80, .inl (fun _ => 0))), (q15, .inl (k 0, 80, .inl (fun _ => 0)))]) H := hP
  have hD : va_D (va_A [(o, .inr (2, [.null, .null, .null, .null, .null, .int 0, .int 0]))] s.heap.size) ([(o, .inr (2, [.ref q7, .ref q15, .null, .null, .null, .int 0, .int 0])), (q7, .inl (k 0, 80, .inl (fun _ => 0))), (q15, .inl (k 0, 80, .inl (fun _ => 0)))]) := hD
  refine lv_aload_n hx hb d_Prg_init_20 rfl (lv_at hl 0 rfl) ?_
  refine lv_bipush (v := 80) hx hb d_Prg_init_21 (by decide) ?_
  refine kn_a (n := 80) (N' := 80) (ty := .boolean) (a0 := (80, .inl (fun _ => 0))) F tw1_60 rfl (fun _ _ h => h) hK 1 rfl hP hD hS hA (fun _ => rfl) (by decide) (by decide) (by decide) (Nat.le_of_ble_eq_true rfl) (Nat.le_of_ble_eq_true rfl) d_Prg_init_23 (fun q23 H hP hD hS => ?_)
  have hP : va_P Dg classes ([(o, .inr (2, [.ref q7, .ref q15, .null, .null, .null, .int 0, .int 0])), (q7, .inl (k 0, 80, .inl (fun _ => 0))), (q15, .inl (k 0, 80, .inl (fun _ => 0))), (q23, .inl (k 1, 80, .inl (fun _ => 0)))]) H := hP
  have hD : va_D (va_A [(o, .inr (2, [.null, .null, .null, .null, .null, .int 0, .int 0]))] s.heap.size) ([(o, .inr (2, [.ref q7, .ref q15, .null, .null, .null, .int 0, .int 0])), (q7, .inl (k 0, 80, .inl (fun _ => 0))), (q15, .inl (k 0, 80, .inl (fun _ => 0))), (q23, .inl (k 1, 80, .inl (fun _ => 0)))]) := hD
  refine W.widen (k := 3) (n := 240) (Nat.le_of_ble_eq_true rfl) (Nat.le_of_ble_eq_true rfl) ?_
  refine va_putF (D := Dg) (ci := 2) (v := .ref q23) (ty := (.array .boolean)) (C := R_Prg) (T := F_Prg) (N := 7) hx hb hT in_Prg t_Prg t_Prg_ok n_Prg hown hK hP hD hS 0 rfl rfl 2 (by decide) (hT _ tw1_36) (fun _ h9 => h9) rfl hname rfl (by decide +kernel) rfl rfl (Nat.le_of_ble_eq_true rfl) d_Prg_init_25 (fun H locs hP hD hS => ?_)
  have hP : va_P Dg classes ([(o, .inr (2, [.ref q7, .ref q15, .ref q23, .null, .null, .int 0, .int 0])), (q7, .inl (k 0, 80, .inl (fun _ => 0))), (q15, .inl (k 0, 80, .inl (fun _ => 0))), (q23, .inl (k 1, 80, .inl (fun _ => 0)))]) H := hP
  have hD : va_D (va_A [(o, .inr (2, [.null, .null, .null, .null, .null, .int 0, .int 0]))] s.heap.size) ([(o, .inr (2, [.ref q7, .ref q15, .ref q23, .null, .null, .int 0, .int 0])), (q7, .inl (k 0, 80, .inl (fun _ => 0))), (q15, .inl (k 0, 80, .inl (fun _ => 0))), (q23, .inl (k 1, 80, .inl (fun _ => 0)))]) := hD
  refine lv_aload_n hx hb d_Prg_init_28 rfl (lv_at hl 0 rfl) ?_
  refine lv_bipush (v := 80) hx hb d_Prg_init_29 (by decide) ?_
  refine kn_a (n := 80) (N' := 80) (ty := .int) (a0 := (80, .inl (fun _ => 0))) F tw1_59 rfl (fun _ _ h => h) hK 0 rfl hP hD hS hA (fun _ => rfl) (by decide) (by decide) (by decide) (Nat.le_of_ble_eq_true rfl) (Nat.le_of_ble_eq_true rfl) d_Prg_init_31 (fun q31 H hP hD hS => ?_)
  have hP : va_P Dg classes ([(o, .inr (2, [.ref q7, .ref q15, .ref q23, .null, .null, .int 0, .int 0])), (q7, .inl (k 0, 80, .inl (fun _ => 0))), (q15, .inl (k 0, 80, .inl (fun _ => 0))), (q23, .inl (k 1, 80, .inl (fun _ => 0))), (q31, .inl (k 0, 80, .inl (fun _ => 0)))]) H := hP
  have hD : va_D (va_A [(o, .inr (2, [.null, .null, .null, .null, .null, .int 0, .int 0]))] s.heap.size) ([(o, .inr (2, [.ref q7, .ref q15, .ref q23, .null, .null, .int 0, .int 0])), (q7, .inl (k 0, 80, .inl (fun _ => 0))), (q15, .inl (k 0, 80, .inl (fun _ => 0))), (q23, .inl (k 1, 80, .inl (fun _ => 0))), (q31, .inl (k 0, 80, .inl (fun _ => 0)))]) := hD
  refine W.widen (k := 4) (n := 320) (Nat.le_of_ble_eq_true rfl) (Nat.le_of_ble_eq_true rfl) ?_
  refine va_putF (D := Dg) (ci := 2) (v := .ref q31) (ty := (.array .int)) (C := R_Prg) (T := F_Prg) (N := 7) hx hb hT in_Prg t_Prg t_Prg_ok n_Prg hown hK hP hD hS 0 rfl rfl 3 (by decide) (hT _ tw1_37) (fun _ h9 => h9) rfl hname rfl (by decide +kernel) rfl rfl (Nat.le_of_ble_eq_true rfl) d_Prg_init_33 (fun H locs hP hD hS => ?_)
  have hP : va_P Dg classes ([(o, .inr (2, [.ref q7, .ref q15, .ref q23, .ref q31, .null, .int 0, .int 0])), (q7, .inl (k 0, 80, .inl (fun _ => 0))), (q15, .inl (k 0, 80, .inl (fun _ => 0))), (q23, .inl (k 1, 80, .inl (fun _ => 0))), (q31, .inl (k 0, 80, .inl (fun _ => 0)))]) H := hP
  have hD : va_D (va_A [(o, .inr (2, [.null, .null, .null, .null, .null, .int 0, .int 0]))] s.heap.size) ([(o, .inr (2, [.ref q7, .ref q15, .ref q23, .ref q31, .null, .int 0, .int 0])), (q7, .inl (k 0, 80, .inl (fun _ => 0))), (q15, .inl (k 0, 80, .inl (fun _ => 0))), (q23, .inl (k 1, 80, .inl (fun _ => 0))), (q31, .inl (k 0, 80, .inl (fun _ => 0)))]) := hD
  refine lv_aload_n hx hb d_Prg_init_36 rfl (lv_at hl 0 rfl) ?_
  refine lv_bipush (v := 80) hx hb d_Prg_init_37 (by decide) ?_
  refine kn_a (n := 80) (N' := 80) (ty := .int) (a0 := (80, .inl (fun _ => 0))) F tw1_59 rfl (fun _ _ h => h) hK 0 rfl hP hD hS hA (fun _ => rfl) (by decide) (by decide) (by decide) (Nat.le_of_ble_eq_true rfl) (Nat.le_of_ble_eq_true rfl) d_Prg_init_39 (fun q39 H hP hD hS => ?_)
  have hP : va_P Dg classes ([(o, .inr (2, [.ref q7, .ref q15, .ref q23, .ref q31, .null, .int 0, .int 0])), (q7, .inl (k 0, 80, .inl (fun _ => 0))), (q15, .inl (k 0, 80, .inl (fun _ => 0))), (q23, .inl (k 1, 80, .inl (fun _ => 0))), (q31, .inl (k 0, 80, .inl (fun _ => 0))), (q39, .inl (k 0, 80, .inl (fun _ => 0)))]) H := hP
  have hD : va_D (va_A [(o, .inr (2, [.null, .null, .null, .null, .null, .int 0, .int 0]))] s.heap.size) ([(o, .inr (2, [.ref q7, .ref q15, .ref q23, .ref q31, .null, .int 0, .int 0])), (q7, .inl (k 0, 80, .inl (fun _ => 0))), (q15, .inl (k 0, 80, .inl (fun _ => 0))), (q23, .inl (k 1, 80, .inl (fun _ => 0))), (q31, .inl (k 0, 80, .inl (fun _ => 0))), (q39, .inl (k 0, 80, .inl (fun _ => 0)))]) := hD
  refine W.widen (k := 5) (n := 400) (Nat.le_of_ble_eq_true rfl) (Nat.le_of_ble_eq_true rfl) ?_
  refine va_putF (D := Dg) (ci := 2) (v := .ref q39) (ty := (.array .int)) (C := R_Prg) (T := F_Prg) (N := 7) hx hb hT in_Prg t_Prg t_Prg_ok n_Prg hown hK hP hD hS 0 rfl rfl 4 (by decide) (hT _ tw1_38) (fun _ h9 => h9) rfl hname rfl (by decide +kernel) rfl rfl (Nat.le_of_ble_eq_true rfl) d_Prg_init_41 (fun H locs hP hD hS => ?_)
  have hP : va_P Dg classes ([(o, .inr (2, [.ref q7, .ref q15, .ref q23, .ref q31, .ref q39, .int 0, .int 0])), (q7, .inl (k 0, 80, .inl (fun _ => 0))), (q15, .inl (k 0, 80, .inl (fun _ => 0))), (q23, .inl (k 1, 80, .inl (fun _ => 0))), (q31, .inl (k 0, 80, .inl (fun _ => 0))), (q39, .inl (k 0, 80, .inl (fun _ => 0)))]) H := hP
  have hD : va_D (va_A [(o, .inr (2, [.null, .null, .null, .null, .null, .int 0, .int 0]))] s.heap.size) ([(o, .inr (2, [.ref q7, .ref q15, .ref q23, .ref q31, .ref q39, .int 0, .int 0])), (q7, .inl (k 0, 80, .inl (fun _ => 0))), (q15, .inl (k 0, 80, .inl (fun _ => 0))), (q23, .inl (k 1, 80, .inl (fun _ => 0))), (q31, .inl (k 0, 80, .inl (fun _ => 0))), (q39, .inl (k 0, 80, .inl (fun _ => 0)))]) := hD
  exact kc_v (kL [o, q7, q15, q23, q31, q39]) rfl F hlocks hret hP hD hS d_Prg_init_44 rfl

set_option maxRecDepth 100000 in
set_option maxHeartbeats 4000000 in
theorem c_Eng_init (l : Launch) (Dg : va_G) (k : Nat → ClassId) (o : Nat) (H : Heap) (hP : va_P Dg classes [(o, .inr (0, [.null, .null, .null]))] H) (hD : va_D (fun _ => True) [(o, .inr (0, [.null, .null, .null]))]) : kCv l y_Eng_init b_Eng_init 1 2 16 663 32 [.ref o] H (fun U => va_K Dg classes (kTy k) U ∧ va_Nw (.methodLinkNest "FusedEngine" 9 ⟨"FusedEngine$Program", "<init>", "()V"⟩ "FusedEngine") U ∧ va_Nw (.methodLinkNest "FusedEngine" 18 ⟨"FusedEngine$Machine", "<init>", "()V"⟩ "FusedEngine") U) Dg [(o, .inr (0, [.null, .null, .null]))] (fun a : (Nat → Nat) × (Nat → Nat) × (Nat → Nat) × (Nat → Nat) => a.1 0 = o) (fun a => w4 a.1 a.2.1 a.2.2.1 a.2.2.2 k vZ vZ vZ) := by
  refine k_of (by decide) (Nat.le_of_ble_eq_true rfl) ?_
  intro p e s m below meth cd ls F hlocks hret hname hh hX hl
  subst hh
  obtain ⟨hx, hb, hml, hown, hT⟩ := id F
  have hK : va_K Dg classes (kTy k) s := hX.1
  have hA : ∀ q : Nat, s.heap.size ≤ q → va_A [(o, .inr (0, [.null, .null, .null]))] s.heap.size q := fun q h => Or.inr h
  have hD := hD.self (sz := s.heap.size)
  have hS : va_S (va_A [(o, .inr (0, [.null, .null, .null]))] s.heap.size) s.heap s.heap [] := va_S.rf
  have hl : lv_has ls 1 [(0, .ref o)] := hl
  refine lv_aload_n hx hb d_Eng_init_0 rfl (lv_at hl 0 rfl) ?_
  refine W.objInit hx hb hown (hT _ tw1_23) (hT _ tw1_24) (hT _ tw1_25) rfl (by rw [hml]; exact hl.1) rfl d_Eng_init_1 (Nat.le_of_ble_eq_true rfl) (Nat.le_of_ble_eq_true rfl) ?_
  refine W.eq (g2 := F0 m 4 ls []) rfl ?_
  refine lv_aload_n hx hb d_Eng_init_4 rfl (lv_at hl 0 rfl) ?_
  refine va_new (D := Dg) (ci := 2) (fs := [.null, .null, .null, .null, .null, .int 0, .int 0]) (C := R_Prg) (T := F_Prg) (N := 7) hx hb hT in_Prg t_Prg t_Prg_ok hown (hT _ tw1_26) (hT _ tw1_27) (hT _ tw1_2) hK hP hD hS hA rfl (by intro j hj; have hj2 : j < 7 := hj; rcases (show j = 0 ∨ j = 1 ∨ j = 2 ∨ j = 3 ∨ j = 4 ∨ j = 5 ∨ j = 6 by omega) with rfl | rfl | rfl | rfl | rfl | rfl | rfl <;> rfl) (Nat.le_of_ble_eq_true rfl) (Nat.le_of_ble_eq_true rfl) d_Eng_init_5 (fun q5 H hP hD hS => ?_)
  have hP : va_P Dg classes ([(o, .inr (0, [.null, .null, .null])), (q5, .inr (2, [.null, .null, .null, .null, .null, .int 0, .int 0]))]) H := hP
  have hD : va_D (va_A [(o, .inr (0, [.null, .null, .null]))] s.heap.size) ([(o, .inr (0, [.null, .null, .null])), (q5, .inr (2, [.null, .null, .null, .null, .null, .int 0, .int 0]))]) := hD
  refine W.widen (k := 1) (n := 7) (Nat.le_of_ble_eq_true rfl) (Nat.le_of_ble_eq_true rfl) ?_
  refine lv_dup hx hb d_Eng_init_8 rfl ?_
  refine kc_IN (wr := [(o, .inr (0, [.null, .null, .null]))]) F (c_Prg_init l Dg k q5 _ (hP.sub (ws' := [(q5, .inr (2, [.null, .null, .null, .null, .null, .int 0, .int 0]))]) [1] rfl) ((hD.sub (ws' := [(q5, .inr (2, [.null, .null, .null, .null, .null, .int 0, .int 0]))]) [1] (by decide) rfl).weaken (fun _ _ _ _ => trivial))) kx_K hK tw1_30 tw1_2 ⟨by decide, by decide⟩ (by decide +kernel) hX.2.1 tw1_29 rfl hP hD hS hA [1] [0] rfl rfl (by decide) (by decide) d_Eng_init_9 ⟨⟨Nat.le_of_ble_eq_true rfl, Nat.le_of_ble_eq_true rfl⟩, Nat.le_of_ble_eq_true rfl, Nat.le_of_ble_eq_true rfl⟩ rfl hl.1 rfl (Nat.le_of_ble_eq_true rfl) (fun u9 H locs ho9 hP hD hS => ?_)
  have hP : va_P Dg classes ([(o, .inr (0, [.null, .null, .null]))] ++ wP u9 k vZ) H := hP
  have hD : va_D (va_A [(o, .inr (0, [.null, .null, .null]))] s.heap.size) ([(o, .inr (0, [.null, .null, .null]))] ++ wP u9 k vZ) := hD
  refine W.widen (k := 6) (n := 407) (Nat.le_of_ble_eq_true rfl) (Nat.le_of_ble_eq_true rfl) ?_
  rw [← ho9]
  refine va_putF (D := Dg) (ci := 0) (v := .ref (u9 0)) (ty := (.object "FusedEngine$Program")) (C := R_Eng) (T := F_Eng) (N := 3) hx hb hT in_Eng t_Eng t_Eng_ok n_Eng hown hK hP hD hS 0 rfl rfl 0 (by decide) (hT _ tw1_102) (fun _ h9 => h9) rfl hname rfl (by decide +kernel) rfl rfl (Nat.le_of_ble_eq_true rfl) d_Eng_init_12 (fun H locs hP hD hS => ?_)
  have hP : va_P Dg classes ([(o, .inr (0, [.ref (u9 0), .null, .null]))] ++ wP u9 k vZ) H := hP
  have hD : va_D (va_A [(o, .inr (0, [.null, .null, .null]))] s.heap.size) ([(o, .inr (0, [.ref (u9 0), .null, .null]))] ++ wP u9 k vZ) := hD
  refine lv_aload_n hx hb d_Eng_init_15 rfl (lv_at hl 0 rfl) ?_
  refine va_new (D := Dg) (ci := 1) (fs := [.null, .null, .null, .null, .int 0, .int 0, .int 0, .int 0, .int 0, .int 0]) (C := R_Mac) (T := F_Mac) (N := 10) hx hb hT in_Mac t_Mac t_Mac_ok hown (hT _ tw1_61) (hT _ tw1_62) (hT _ tw1_3) hK hP hD hS hA rfl (by intro j hj; have hj2 : j < 10 := hj; rcases (show j = 0 ∨ j = 1 ∨ j = 2 ∨ j = 3 ∨ j = 4 ∨ j = 5 ∨ j = 6 ∨ j = 7 ∨ j = 8 ∨ j = 9 by omega) with rfl | rfl | rfl | rfl | rfl | rfl | rfl | rfl | rfl | rfl <;> rfl) (Nat.le_of_ble_eq_true rfl) (Nat.le_of_ble_eq_true rfl) d_Eng_init_16 (fun q16 H hP hD hS => ?_)
  have hP : va_P Dg classes ([(o, .inr (0, [.ref (u9 0), .null, .null]))] ++ wP u9 k vZ ++ [(q16, .inr (1, [.null, .null, .null, .null, .int 0, .int 0, .int 0, .int 0, .int 0, .int 0]))]) H := hP
  have hD : va_D (va_A [(o, .inr (0, [.null, .null, .null]))] s.heap.size) ([(o, .inr (0, [.ref (u9 0), .null, .null]))] ++ wP u9 k vZ ++ [(q16, .inr (1, [.null, .null, .null, .null, .int 0, .int 0, .int 0, .int 0, .int 0, .int 0]))]) := hD
  refine W.widen (k := 7) (n := 417) (Nat.le_of_ble_eq_true rfl) (Nat.le_of_ble_eq_true rfl) ?_
  refine lv_dup hx hb d_Eng_init_19 rfl ?_
  refine kc_IN (wr := [(o, .inr (0, [.ref (u9 0), .null, .null]))] ++ wP u9 k vZ) F (c_Mac_init l Dg k q16 _ (hP.sub (ws' := [(q16, .inr (1, [.null, .null, .null, .null, .int 0, .int 0, .int 0, .int 0, .int 0, .int 0]))]) [7] rfl) ((hD.sub (ws' := [(q16, .inr (1, [.null, .null, .null, .null, .int 0, .int 0, .int 0, .int 0, .int 0, .int 0]))]) [7] (by decide) rfl).weaken (fun _ _ _ _ => trivial))) kx_K hK tw1_65 tw1_3 ⟨by decide, by decide⟩ (by decide +kernel) hX.2.2 tw1_64 rfl hP hD hS hA [7] [0, 1, 2, 3, 4, 5, 6] rfl rfl (by decide) (by decide) d_Eng_init_20 ⟨⟨Nat.le_of_ble_eq_true rfl, Nat.le_of_ble_eq_true rfl⟩, Nat.le_of_ble_eq_true rfl, Nat.le_of_ble_eq_true rfl⟩ rfl hl.1 rfl (Nat.le_of_ble_eq_true rfl) (fun u20 H locs ho20 hP hD hS => ?_)
  have hP : va_P Dg classes ([(o, .inr (0, [.ref (u9 0), .null, .null]))] ++ wP u9 k vZ ++ wM u20 k vZ) H := hP
  have hD : va_D (va_A [(o, .inr (0, [.null, .null, .null]))] s.heap.size) ([(o, .inr (0, [.ref (u9 0), .null, .null]))] ++ wP u9 k vZ ++ wM u20 k vZ) := hD
  refine W.widen (k := 11) (n := 535) (Nat.le_of_ble_eq_true rfl) (Nat.le_of_ble_eq_true rfl) ?_
  rw [← ho20]
  refine va_putF (D := Dg) (ci := 0) (v := .ref (u20 0)) (ty := (.object "FusedEngine$Machine")) (C := R_Eng) (T := F_Eng) (N := 3) hx hb hT in_Eng t_Eng t_Eng_ok n_Eng hown hK hP hD hS 0 rfl rfl 1 (by decide) (hT _ tw1_103) (fun _ h9 => h9) rfl hname rfl (by decide +kernel) rfl rfl (Nat.le_of_ble_eq_true rfl) d_Eng_init_23 (fun H locs hP hD hS => ?_)
  have hP : va_P Dg classes ([(o, .inr (0, [.ref (u9 0), .ref (u20 0), .null]))] ++ wP u9 k vZ ++ wM u20 k vZ) H := hP
  have hD : va_D (va_A [(o, .inr (0, [.null, .null, .null]))] s.heap.size) ([(o, .inr (0, [.ref (u9 0), .ref (u20 0), .null]))] ++ wP u9 k vZ ++ wM u20 k vZ) := hD
  refine lv_aload_n hx hb d_Eng_init_26 rfl (lv_at hl 0 rfl) ?_
  refine va_new (D := Dg) (ci := 1) (fs := [.null, .null, .null, .null, .int 0, .int 0, .int 0, .int 0, .int 0, .int 0]) (C := R_Mac) (T := F_Mac) (N := 10) hx hb hT in_Mac t_Mac t_Mac_ok hown (hT _ tw1_61) (hT _ tw1_62) (hT _ tw1_3) hK hP hD hS hA rfl (by intro j hj; have hj2 : j < 10 := hj; rcases (show j = 0 ∨ j = 1 ∨ j = 2 ∨ j = 3 ∨ j = 4 ∨ j = 5 ∨ j = 6 ∨ j = 7 ∨ j = 8 ∨ j = 9 by omega) with rfl | rfl | rfl | rfl | rfl | rfl | rfl | rfl | rfl | rfl <;> rfl) (Nat.le_of_ble_eq_true rfl) (Nat.le_of_ble_eq_true rfl) d_Eng_init_27 (fun q27 H hP hD hS => ?_)
  have hP : va_P Dg classes ([(o, .inr (0, [.ref (u9 0), .ref (u20 0), .null]))] ++ wP u9 k vZ ++ wM u20 k vZ ++ [(q27, .inr (1, [.null, .null, .null, .null, .int 0, .int 0, .int 0, .int 0, .int 0, .int 0]))]) H := hP
  have hD : va_D (va_A [(o, .inr (0, [.null, .null, .null]))] s.heap.size) ([(o, .inr (0, [.ref (u9 0), .ref (u20 0), .null]))] ++ wP u9 k vZ ++ wM u20 k vZ ++ [(q27, .inr (1, [.null, .null, .null, .null, .int 0, .int 0, .int 0, .int 0, .int 0, .int 0]))]) := hD
  refine W.widen (k := 12) (n := 545) (Nat.le_of_ble_eq_true rfl) (Nat.le_of_ble_eq_true rfl) ?_
  refine lv_dup hx hb d_Eng_init_30 rfl ?_
  refine kc_IN (wr := [(o, .inr (0, [.ref (u9 0), .ref (u20 0), .null]))] ++ wP u9 k vZ ++ wM u20 k vZ) F (c_Mac_init l Dg k q27 _ (hP.sub (ws' := [(q27, .inr (1, [.null, .null, .null, .null, .int 0, .int 0, .int 0, .int 0, .int 0, .int 0]))]) [12] rfl) ((hD.sub (ws' := [(q27, .inr (1, [.null, .null, .null, .null, .int 0, .int 0, .int 0, .int 0, .int 0, .int 0]))]) [12] (by decide) rfl).weaken (fun _ _ _ _ => trivial))) kx_K hK tw1_65 tw1_3 ⟨by decide, by decide⟩ (by decide +kernel) hX.2.2 tw1_64 rfl hP hD hS hA [12] [0, 1, 2, 3, 4, 5, 6, 7, 8, 9, 10, 11] rfl rfl (by decide) (by decide) d_Eng_init_31 ⟨⟨Nat.le_of_ble_eq_true rfl, Nat.le_of_ble_eq_true rfl⟩, Nat.le_of_ble_eq_true rfl, Nat.le_of_ble_eq_true rfl⟩ rfl hl.1 rfl (Nat.le_of_ble_eq_true rfl) (fun u31 H locs ho31 hP hD hS => ?_)
  have hP : va_P Dg classes ([(o, .inr (0, [.ref (u9 0), .ref (u20 0), .null]))] ++ wP u9 k vZ ++ wM u20 k vZ ++ wM u31 k vZ) H := hP
  have hD : va_D (va_A [(o, .inr (0, [.null, .null, .null]))] s.heap.size) ([(o, .inr (0, [.ref (u9 0), .ref (u20 0), .null]))] ++ wP u9 k vZ ++ wM u20 k vZ ++ wM u31 k vZ) := hD
  refine W.widen (k := 16) (n := 663) (Nat.le_of_ble_eq_true rfl) (Nat.le_of_ble_eq_true rfl) ?_
  rw [← ho31]
  refine va_putF (D := Dg) (ci := 0) (v := .ref (u31 0)) (ty := (.object "FusedEngine$Machine")) (C := R_Eng) (T := F_Eng) (N := 3) hx hb hT in_Eng t_Eng t_Eng_ok n_Eng hown hK hP hD hS 0 rfl rfl 2 (by decide) (hT _ tw1_104) (fun _ h9 => h9) rfl hname rfl (by decide +kernel) rfl rfl (Nat.le_of_ble_eq_true rfl) d_Eng_init_34 (fun H locs hP hD hS => ?_)
  have hP : va_P Dg classes ([(o, .inr (0, [.ref (u9 0), .ref (u20 0), .ref (u31 0)]))] ++ wP u9 k vZ ++ wM u20 k vZ ++ wM u31 k vZ) H := hP
  have hD : va_D (va_A [(o, .inr (0, [.null, .null, .null]))] s.heap.size) ([(o, .inr (0, [.ref (u9 0), .ref (u20 0), .ref (u31 0)]))] ++ wP u9 k vZ ++ wM u20 k vZ ++ wM u31 k vZ) := hD
  exact kc_v (kL [o], u9, u20, u31) rfl F hlocks hret hP hD hS d_Eng_init_37 rfl
