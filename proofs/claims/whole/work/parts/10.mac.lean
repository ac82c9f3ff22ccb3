set_option maxRecDepth 100000 in
set_option maxHeartbeats 4000000 in
theorem c_Mac_push (l : Launch) (Dg : va_G) (a : Nat → Nat) (k : Nat → ClassId) (M : vSt) (v : Int32) (H : Heap) (hP : va_P Dg classes (wM a k M) H) (hD : va_D (fun _ => True) (wM a k M)) (h0 : vp_in (M 4 0) 40) : kMv l y_Mac_push b_Mac_push 2 0 0 [.ref (a 0), .int v] H (va_K Dg classes (kTy k)) Dg (wM a k M) (wM a k (sPush M v)) := by
  refine k_of (by decide) (Nat.le_of_ble_eq_true rfl) ?_
  intro p e s m below meth cd ls F hlocks hret hname hh hX hl
  subst hh
  obtain ⟨hx, hb, hml, hown, hT⟩ := id F
  have hK : va_K Dg classes (kTy k) s := hX
  have hA : ∀ q : Nat, s.heap.size ≤ q → va_A (wM a k M) s.heap.size q := fun q h => Or.inr h
  have hD := hD.self (sz := s.heap.size)
  have hS : va_S (va_A (wM a k M) s.heap.size) s.heap s.heap [] := va_S.rf
  have hl : lv_has ls 2 [(0, .ref (a 0)), (1, .int v)] := hl
  refine lv_aload_n hx hb d_Mac_push_0 rfl (lv_at hl 0 rfl) ?_
  refine va_get (D := Dg) (ci := 1) (v := .ref (a 1)) (C := R_Mac) (T := F_Mac) (N := 10) hx hb hT in_Mac hown hK hP 0 rfl rfl 0 (by decide) (hT _ tw1_67) (fun _ h9 => h9) rfl d_Mac_push_1 ?_
  refine lv_aload_n hx hb d_Mac_push_4 rfl (lv_at hl 0 rfl) ?_
  refine va_get (D := Dg) (ci := 1) (v := .int (M 4 0)) (C := R_Mac) (T := F_Mac) (N := 10) hx hb hT in_Mac hown hK hP 0 rfl rfl 4 (by decide) (hT _ tw1_74) (fun _ h9 => h9) rfl d_Mac_push_5 ?_
  refine lv_iload_n hx hb d_Mac_push_8 rfl (lv_at hl 1 rfl) ?_
  refine va_iast hx hb hK hP hD hS 1 0 rfl rfl h0 d_Mac_push_9 (fun H locs hP hD hS => ?_)
  have hP : va_P Dg classes (wM a k (u2 M 0 (M 4 0).toNatClampNeg v)) H := hP
  have hD : va_D (va_A (wM a k M) s.heap.size) (wM a k (u2 M 0 (M 4 0).toNatClampNeg v)) := hD
  obtain ⟨Ms1, hMs1⟩ : ∃ z, z = (u2 M 0 (M 4 0).toNatClampNeg v) := ⟨_, rfl⟩
  rw [← hMs1] at hP hD
  refine lv_aload_n hx hb d_Mac_push_10 rfl (lv_at hl 0 rfl) ?_
  refine lv_dup hx hb d_Mac_push_11 rfl ?_
  refine va_get (D := Dg) (ci := 1) (v := .int (M 4 0)) (C := R_Mac) (T := F_Mac) (N := 10) hx hb hT in_Mac hown hK hP 0 rfl rfl 4 (by decide) (hT _ tw1_74) (fun _ h9 => h9) (by rw [hMs1]; rfl) d_Mac_push_12 ?_
  refine lv_iconst (v := 1) hx hb d_Mac_push_15 (by decide) ?_
  refine lv_iadd hx hb d_Mac_push_16 ?_
  refine va_put (D := Dg) (ci := 1) (v := .int ((M 4 0) + 1)) (ty := .int) (C := R_Mac) (T := F_Mac) (N := 10) hx hb hT in_Mac t_Mac t_Mac_ok n_Mac hown hK hP hD hS 0 rfl rfl 4 (by decide) (hT _ tw1_74) (fun _ h9 => h9) rfl (by decide +kernel) rfl rfl (Nat.le_of_ble_eq_true rfl) d_Mac_push_17 (fun H locs hP hD hS => ?_)
  have hP : va_P Dg classes (wM a k (u2 Ms1 4 0 ((M 4 0) + 1))) H := hP
  have hD : va_D (va_A (wM a k M) s.heap.size) (wM a k (u2 Ms1 4 0 ((M 4 0) + 1))) := hD
  obtain ⟨Ms2, hMs2⟩ : ∃ z, z = (u2 Ms1 4 0 ((M 4 0) + 1)) := ⟨_, rfl⟩
  rw [← hMs2] at hP hD
  exact km_v F hlocks hret hP hD hS d_Mac_push_20 (by subst hMs2 hMs1; rfl)

set_option maxRecDepth 100000 in
set_option maxHeartbeats 4000000 in
theorem c_Mac_pop (l : Launch) (Dg : va_G) (a : Nat → Nat) (k : Nat → ClassId) (M : vSt) (H : Heap) (hP : va_P Dg classes (wM a k M) H) (hD : va_D (fun _ => True) (wM a k M)) (h0 : vp_in (M 4 0 - 1) 40) : kMi l y_Mac_pop b_Mac_pop 1 (some FieldType.int) 0 0 [.ref (a 0)] H (va_K Dg classes (kTy k)) Dg (wM a k M) (wM a k (sPop M)) (sTop M) := by
  refine k_of (by decide) (Nat.le_of_ble_eq_true rfl) ?_
  intro p e s m below meth cd ls F hlocks hret hname hh hX hl
  subst hh
  obtain ⟨hx, hb, hml, hown, hT⟩ := id F
  have hK : va_K Dg classes (kTy k) s := hX
  have hA : ∀ q : Nat, s.heap.size ≤ q → va_A (wM a k M) s.heap.size q := fun q h => Or.inr h
  have hD := hD.self (sz := s.heap.size)
  have hS : va_S (va_A (wM a k M) s.heap.size) s.heap s.heap [] := va_S.rf
  have hl : lv_has ls 1 [(0, .ref (a 0))] := hl
  refine lv_aload_n hx hb d_Mac_pop_0 rfl (lv_at hl 0 rfl) ?_
  refine lv_dup hx hb d_Mac_pop_1 rfl ?_
  refine va_get (D := Dg) (ci := 1) (v := .int (M 4 0)) (C := R_Mac) (T := F_Mac) (N := 10) hx hb hT in_Mac hown hK hP 0 rfl rfl 4 (by decide) (hT _ tw1_74) (fun _ h9 => h9) rfl d_Mac_pop_2 ?_
  refine lv_iconst (v := 1) hx hb d_Mac_pop_5 (by decide) ?_
  refine lv_isub hx hb d_Mac_pop_6 ?_
  refine va_put (D := Dg) (ci := 1) (v := .int ((M 4 0) - 1)) (ty := .int) (C := R_Mac) (T := F_Mac) (N := 10) hx hb hT in_Mac t_Mac t_Mac_ok n_Mac hown hK hP hD hS 0 rfl rfl 4 (by decide) (hT _ tw1_74) (fun _ h9 => h9) rfl (by decide +kernel) rfl rfl (Nat.le_of_ble_eq_true rfl) d_Mac_pop_7 (fun H locs hP hD hS => ?_)
  have hP : va_P Dg classes (wM a k (u2 M 4 0 ((M 4 0) - 1))) H := hP
  have hD : va_D (va_A (wM a k M) s.heap.size) (wM a k (u2 M 4 0 ((M 4 0) - 1))) := hD
  obtain ⟨Ms1, hMs1⟩ : ∃ z, z = (u2 M 4 0 ((M 4 0) - 1)) := ⟨_, rfl⟩
  rw [← hMs1] at hP hD
  refine lv_aload_n hx hb d_Mac_pop_10 rfl (lv_at hl 0 rfl) ?_
  refine va_get (D := Dg) (ci := 1) (v := .ref (a 1)) (C := R_Mac) (T := F_Mac) (N := 10) hx hb hT in_Mac hown hK hP 0 rfl rfl 0 (by decide) (hT _ tw1_67) (fun _ h9 => h9) rfl d_Mac_pop_11 ?_
  refine lv_aload_n hx hb d_Mac_pop_14 rfl (lv_at hl 0 rfl) ?_
  refine va_get (D := Dg) (ci := 1) (v := .int ((M 4 0) - 1)) (C := R_Mac) (T := F_Mac) (N := 10) hx hb hT in_Mac hown hK hP 0 rfl rfl 4 (by decide) (hT _ tw1_74) (fun _ h9 => h9) (by rw [hMs1]; rfl) d_Mac_pop_15 ?_
  refine va_iald (f := (M 0)) hx hb hK hP 1 0 (by rw [hMs1]; rfl) rfl h0 d_Mac_pop_18 ?_
  exact km_i F hlocks hret hP hD hS d_Mac_pop_19 rfl (by subst hMs1; rfl)

set_option maxRecDepth 100000 in
set_option maxHeartbeats 4000000 in
theorem c_Mac_exchange (l : Launch) (Dg : va_G) (a : Nat → Nat) (k : Nat → ClassId) (M : vSt) (H : Heap) (hP : va_P Dg classes (wM a k M) H) (hD : va_D (fun _ => True) (wM a k M)) (h1 : vp_in (M 4 0 - 1) 40) (h2 : vp_in (M 4 0 - 2) 40) : kMv l y_Mac_exchange b_Mac_exchange 2 0 0 [.ref (a 0)] H (va_K Dg classes (kTy k)) Dg (wM a k M) (wM a k (sExch M)) := by
  refine k_of (by decide) (Nat.le_of_ble_eq_true rfl) ?_
  intro p e s m below meth cd ls F hlocks hret hname hh hX hl
  subst hh
  obtain ⟨hx, hb, hml, hown, hT⟩ := id F
  have hK : va_K Dg classes (kTy k) s := hX
  have hA : ∀ q : Nat, s.heap.size ≤ q → va_A (wM a k M) s.heap.size q := fun q h => Or.inr h
  have hD := hD.self (sz := s.heap.size)
  have hS : va_S (va_A (wM a k M) s.heap.size) s.heap s.heap [] := va_S.rf
  have hl : lv_has ls 2 [(0, .ref (a 0))] := hl
  refine lv_aload_n hx hb d_Mac_exchange_0 rfl (lv_at hl 0 rfl) ?_
  refine va_get (D := Dg) (ci := 1) (v := .ref (a 1)) (C := R_Mac) (T := F_Mac) (N := 10) hx hb hT in_Mac hown hK hP 0 rfl rfl 0 (by decide) (hT _ tw1_67) (fun _ h9 => h9) rfl d_Mac_exchange_1 ?_
  refine lv_aload_n hx hb d_Mac_exchange_4 rfl (lv_at hl 0 rfl) ?_
  refine va_get (D := Dg) (ci := 1) (v := .int (M 4 0)) (C := R_Mac) (T := F_Mac) (N := 10) hx hb hT in_Mac hown hK hP 0 rfl rfl 4 (by decide) (hT _ tw1_74) (fun _ h9 => h9) rfl d_Mac_exchange_5 ?_
  refine lv_iconst (v := 1) hx hb d_Mac_exchange_8 (by decide) ?_
  refine lv_isub hx hb d_Mac_exchange_9 ?_
  refine lv_topi (fun i9 e9 => ?_)
  refine va_iald (f := (M 0)) hx hb hK hP 1 0 rfl rfl (e9 ▸ h1) d_Mac_exchange_10 ?_
  refine lv_topi (fun i10 e10 => ?_)
  refine lv_istore_n hx hb d_Mac_exchange_11 rfl hl (by decide) rfl (fun ls hl => ?_)
  have hl : lv_has ls 2 [(1, .int i10), (0, .ref (a 0))] := hl
  refine lv_aload_n hx hb d_Mac_exchange_12 rfl (lv_at hl 1 rfl) ?_
  refine va_get (D := Dg) (ci := 1) (v := .ref (a 1)) (C := R_Mac) (T := F_Mac) (N := 10) hx hb hT in_Mac hown hK hP 0 rfl rfl 0 (by decide) (hT _ tw1_67) (fun _ h9 => h9) rfl d_Mac_exchange_13 ?_
  refine lv_aload_n hx hb d_Mac_exchange_16 rfl (lv_at hl 1 rfl) ?_
  refine va_get (D := Dg) (ci := 1) (v := .int (M 4 0)) (C := R_Mac) (T := F_Mac) (N := 10) hx hb hT in_Mac hown hK hP 0 rfl rfl 4 (by decide) (hT _ tw1_74) (fun _ h9 => h9) rfl d_Mac_exchange_17 ?_
  refine lv_iconst (v := 1) hx hb d_Mac_exchange_20 (by decide) ?_
  refine lv_isub hx hb d_Mac_exchange_21 ?_
  refine lv_topi (fun i21 e21 => ?_)
  refine lv_aload_n hx hb d_Mac_exchange_22 rfl (lv_at hl 1 rfl) ?_
  refine va_get (D := Dg) (ci := 1) (v := .ref (a 1)) (C := R_Mac) (T := F_Mac) (N := 10) hx hb hT in_Mac hown hK hP 0 rfl rfl 0 (by decide) (hT _ tw1_67) (fun _ h9 => h9) rfl d_Mac_exchange_23 ?_
  refine lv_aload_n hx hb d_Mac_exchange_26 rfl (lv_at hl 1 rfl) ?_
  refine va_get (D := Dg) (ci := 1) (v := .int (M 4 0)) (C := R_Mac) (T := F_Mac) (N := 10) hx hb hT in_Mac hown hK hP 0 rfl rfl 4 (by decide) (hT _ tw1_74) (fun _ h9 => h9) rfl d_Mac_exchange_27 ?_
  refine lv_iconst (v := 2) hx hb d_Mac_exchange_30 (by decide) ?_
  refine lv_isub hx hb d_Mac_exchange_31 ?_
  refine lv_topi (fun i31 e31 => ?_)
  refine va_iald (f := (M 0)) hx hb hK hP 1 0 rfl rfl (e31 ▸ h2) d_Mac_exchange_32 ?_
  refine lv_topi (fun i32 e32 => ?_)
  refine va_iast hx hb hK hP hD hS 1 0 rfl rfl (e21 ▸ h1) d_Mac_exchange_33 (fun H locs hP hD hS => ?_)
  have hP : va_P Dg classes (wM a k (u2 M 0 i21.toNatClampNeg i32)) H := hP
  have hD : va_D (va_A (wM a k M) s.heap.size) (wM a k (u2 M 0 i21.toNatClampNeg i32)) := hD
  obtain ⟨Ms1, hMs1⟩ : ∃ z, z = (u2 M 0 i21.toNatClampNeg i32) := ⟨_, rfl⟩
  rw [← hMs1] at hP hD
  refine lv_aload_n hx hb d_Mac_exchange_34 rfl (lv_at hl 1 rfl) ?_
  refine va_get (D := Dg) (ci := 1) (v := .ref (a 1)) (C := R_Mac) (T := F_Mac) (N := 10) hx hb hT in_Mac hown hK hP 0 rfl rfl 0 (by decide) (hT _ tw1_67) (fun _ h9 => h9) rfl d_Mac_exchange_35 ?_
  refine lv_aload_n hx hb d_Mac_exchange_38 rfl (lv_at hl 1 rfl) ?_
  refine va_get (D := Dg) (ci := 1) (v := .int (M 4 0)) (C := R_Mac) (T := F_Mac) (N := 10) hx hb hT in_Mac hown hK hP 0 rfl rfl 4 (by decide) (hT _ tw1_74) (fun _ h9 => h9) (by rw [hMs1]; rfl) d_Mac_exchange_39 ?_
  refine lv_iconst (v := 2) hx hb d_Mac_exchange_42 (by decide) ?_
  refine lv_isub hx hb d_Mac_exchange_43 ?_
  refine lv_topi (fun i43 e43 => ?_)
  refine lv_iload_n hx hb d_Mac_exchange_44 rfl (lv_at hl 0 rfl) ?_
  refine va_iast hx hb hK hP hD hS 1 0 rfl rfl (e43 ▸ h2) d_Mac_exchange_45 (fun H locs hP hD hS => ?_)
  have hP : va_P Dg classes (wM a k (u2 Ms1 0 i43.toNatClampNeg i10)) H := hP
  have hD : va_D (va_A (wM a k M) s.heap.size) (wM a k (u2 Ms1 0 i43.toNatClampNeg i10)) := hD
  obtain ⟨Ms2, hMs2⟩ : ∃ z, z = (u2 Ms1 0 i43.toNatClampNeg i10) := ⟨_, rfl⟩
  rw [← hMs2] at hP hD
  exact km_v F hlocks hret hP hD hS d_Mac_exchange_46 (by subst hMs2 hMs1 e43 e32 e31 e21 e10 e9; rfl)

set_option maxRecDepth 100000 in
set_option maxHeartbeats 4000000 in
theorem c_Mac_putOut (l : Launch) (Dg : va_G) (a : Nat → Nat) (k : Nat → ClassId) (M : vSt) (v : Int32) (H : Heap) (hP : va_P Dg classes (wM a k M) H) (hD : va_D (fun _ => True) (wM a k M)) (h0 : ¬ 60 ≤ M 4 2 → vp_in (M 4 2) 60) : kMv l y_Mac_putOut b_Mac_putOut 2 0 0 [.ref (a 0), .int v] H (va_K Dg classes (kTy k)) Dg (wM a k M) (wM a k (sOut M v)) := by
  refine k_of (by decide) (Nat.le_of_ble_eq_true rfl) ?_
  intro p e s m below meth cd ls F hlocks hret hname hh hX hl
  subst hh
  obtain ⟨hx, hb, hml, hown, hT⟩ := id F
  have hK : va_K Dg classes (kTy k) s := hX
  have hA : ∀ q : Nat, s.heap.size ≤ q → va_A (wM a k M) s.heap.size q := fun q h => Or.inr h
  have hD := hD.self (sz := s.heap.size)
  have hS : va_S (va_A (wM a k M) s.heap.size) s.heap s.heap [] := va_S.rf
  have hl : lv_has ls 2 [(0, .ref (a 0)), (1, .int v)] := hl
  refine lv_aload_n hx hb d_Mac_putOut_0 rfl (lv_at hl 0 rfl) ?_
  refine va_get (D := Dg) (ci := 1) (v := .int (M 4 2)) (C := R_Mac) (T := F_Mac) (N := 10) hx hb hT in_Mac hown hK hP 0 rfl rfl 6 (by decide) (hT _ tw1_77) (fun _ h9 => h9) rfl d_Mac_putOut_1 ?_
  refine lv_bipush (v := 60) hx hb d_Mac_putOut_4 (by decide) ?_
  refine lv_icmp_ge (tgt := 19) hx hb d_Mac_putOut_6 (by decide) (fun h6 => ?_) (fun h6 => ?_)
  · refine lv_aload_n hx hb d_Mac_putOut_19 rfl (lv_at hl 0 rfl) ?_
    refine lv_dup hx hb d_Mac_putOut_20 rfl ?_
    refine va_get (D := Dg) (ci := 1) (v := .int (M 4 2)) (C := R_Mac) (T := F_Mac) (N := 10) hx hb hT in_Mac hown hK hP 0 rfl rfl 6 (by decide) (hT _ tw1_77) (fun _ h9 => h9) rfl d_Mac_putOut_21 ?_
    refine lv_iconst (v := 1) hx hb d_Mac_putOut_24 (by decide) ?_
    refine lv_iadd hx hb d_Mac_putOut_25 ?_
    refine va_put (D := Dg) (ci := 1) (v := .int ((M 4 2) + 1)) (ty := .int) (C := R_Mac) (T := F_Mac) (N := 10) hx hb hT in_Mac t_Mac t_Mac_ok n_Mac hown hK hP hD hS 0 rfl rfl 6 (by decide) (hT _ tw1_77) (fun _ h9 => h9) rfl (by decide +kernel) rfl rfl (Nat.le_of_ble_eq_true rfl) d_Mac_putOut_26 (fun H locs hP hD hS => ?_)
    have hP : va_P Dg classes (wM a k (u2 M 4 2 ((M 4 2) + 1))) H := hP
    have hD : va_D (va_A (wM a k M) s.heap.size) (wM a k (u2 M 4 2 ((M 4 2) + 1))) := hD
    obtain ⟨Ms1, hMs1⟩ : ∃ z, z = (u2 M 4 2 ((M 4 2) + 1)) := ⟨_, rfl⟩
    rw [← hMs1] at hP hD
    exact km_v F hlocks hret hP hD hS d_Mac_putOut_29 (by subst hMs1; unfold sOut; rw [if_pos h6])
  · refine lv_aload_n hx hb d_Mac_putOut_9 rfl (lv_at hl 0 rfl) ?_
    refine va_get (D := Dg) (ci := 1) (v := .ref (a 3)) (C := R_Mac) (T := F_Mac) (N := 10) hx hb hT in_Mac hown hK hP 0 rfl rfl 2 (by decide) (hT _ tw1_71) (fun _ h9 => h9) rfl d_Mac_putOut_10 ?_
    refine lv_aload_n hx hb d_Mac_putOut_13 rfl (lv_at hl 0 rfl) ?_
    refine va_get (D := Dg) (ci := 1) (v := .int (M 4 2)) (C := R_Mac) (T := F_Mac) (N := 10) hx hb hT in_Mac hown hK hP 0 rfl rfl 6 (by decide) (hT _ tw1_77) (fun _ h9 => h9) rfl d_Mac_putOut_14 ?_
    refine lv_iload_n hx hb d_Mac_putOut_17 rfl (lv_at hl 1 rfl) ?_
    refine va_iast hx hb hK hP hD hS 3 0 rfl rfl (h0 h6) d_Mac_putOut_18 (fun H locs hP hD hS => ?_)
    have hP : va_P Dg classes (wM a k (u2 M 2 (M 4 2).toNatClampNeg v)) H := hP
    have hD : va_D (va_A (wM a k M) s.heap.size) (wM a k (u2 M 2 (M 4 2).toNatClampNeg v)) := hD
    obtain ⟨Ms2, hMs2⟩ : ∃ z, z = (u2 M 2 (M 4 2).toNatClampNeg v) := ⟨_, rfl⟩
    rw [← hMs2] at hP hD
    refine lv_aload_n hx hb d_Mac_putOut_19 rfl (lv_at hl 0 rfl) ?_
    refine lv_dup hx hb d_Mac_putOut_20 rfl ?_
    refine va_get (D := Dg) (ci := 1) (v := .int (M 4 2)) (C := R_Mac) (T := F_Mac) (N := 10) hx hb hT in_Mac hown hK hP 0 rfl rfl 6 (by decide) (hT _ tw1_77) (fun _ h9 => h9) (by rw [hMs2]; rfl) d_Mac_putOut_21 ?_
    refine lv_iconst (v := 1) hx hb d_Mac_putOut_24 (by decide) ?_
    refine lv_iadd hx hb d_Mac_putOut_25 ?_
    refine va_put (D := Dg) (ci := 1) (v := .int ((M 4 2) + 1)) (ty := .int) (C := R_Mac) (T := F_Mac) (N := 10) hx hb hT in_Mac t_Mac t_Mac_ok n_Mac hown hK hP hD hS 0 rfl rfl 6 (by decide) (hT _ tw1_77) (fun _ h9 => h9) rfl (by decide +kernel) rfl rfl (Nat.le_of_ble_eq_true rfl) d_Mac_putOut_26 (fun H locs hP hD hS => ?_)
    have hP : va_P Dg classes (wM a k (u2 Ms2 4 2 ((M 4 2) + 1))) H := hP
    have hD : va_D (va_A (wM a k M) s.heap.size) (wM a k (u2 Ms2 4 2 ((M 4 2) + 1))) := hD
    obtain ⟨Ms3, hMs3⟩ : ∃ z, z = (u2 Ms2 4 2 ((M 4 2) + 1)) := ⟨_, rfl⟩
    rw [← hMs3] at hP hD
    exact km_v F hlocks hret hP hD hS d_Mac_putOut_29 (by subst hMs3 hMs2; unfold sOut; rw [if_neg h6])

set_option maxRecDepth 100000 in
set_option maxHeartbeats 4000000 in
theorem c_Mac_resultOf (l : Launch) (Dg : va_G) (k : Nat → ClassId) (c x y : Int32) (H : Heap) (hc : c = 43 ∨ c = 45 ∨ c = 42 ∨ c = 47 ∨ c = 60 ∨ c = 61) (hz : c = 47 → ¬ y = 0) : kPu l y_Mac_resultOf b_Mac_resultOf 3 (some FieldType.int) 0 0 [.int c, .int x, .int y] H (va_K Dg classes (kTy k)) (sRes c x y) := by
  refine k_of (by decide) (Nat.le_of_ble_eq_true rfl) ?_
  intro p e s m below meth cd ls F hlocks hret hname hh hX hl
  subst hh
  obtain ⟨hx, hb, hml, hown, hT⟩ := id F
  have hK : va_K Dg classes (kTy k) s := hX
  have hS : va_S (fun _ => False) s.heap s.heap [] := va_S.rf
  have hl : lv_has ls 3 [(0, .int c), (1, .int x), (2, .int y)] := hl
  rcases hc with rfl | rfl | rfl | rfl | rfl | rfl
  · refine lv_iload_n hx hb d_Mac_resultOf_0 rfl (lv_at hl 0 rfl) ?_
    refine lv_lookup (x := 43) (off := 51) (tgt := 52) hx hb d_Mac_resultOf_1 (by decide) (by decide) (by decide) ?_
    refine lv_iload_n hx hb d_Mac_resultOf_52 rfl (lv_at hl 1 rfl) ?_
    refine lv_iload_n hx hb d_Mac_resultOf_53 rfl (lv_at hl 2 rfl) ?_
    refine lv_iadd hx hb d_Mac_resultOf_54 ?_
    exact kp_i F hlocks hret hS d_Mac_resultOf_55 (by unfold sRes; rw [if_pos rfl])
  · refine lv_iload_n hx hb d_Mac_resultOf_0 rfl (lv_at hl 0 rfl) ?_
    refine lv_lookup (x := 45) (off := 55) (tgt := 56) hx hb d_Mac_resultOf_1 (by decide) (by decide) (by decide) ?_
    refine lv_iload_n hx hb d_Mac_resultOf_56 rfl (lv_at hl 1 rfl) ?_
    refine lv_iload_n hx hb d_Mac_resultOf_57 rfl (lv_at hl 2 rfl) ?_
    refine lv_isub hx hb d_Mac_resultOf_58 ?_
    exact kp_i F hlocks hret hS d_Mac_resultOf_59 (by unfold sRes; rw [if_neg (by decide), if_pos rfl])
  · refine lv_iload_n hx hb d_Mac_resultOf_0 rfl (lv_at hl 0 rfl) ?_
    refine lv_lookup (x := 42) (off := 59) (tgt := 60) hx hb d_Mac_resultOf_1 (by decide) (by decide) (by decide) ?_
    refine lv_iload_n hx hb d_Mac_resultOf_60 rfl (lv_at hl 1 rfl) ?_
    refine lv_iload_n hx hb d_Mac_resultOf_61 rfl (lv_at hl 2 rfl) ?_
    refine lv_imul hx hb d_Mac_resultOf_62 ?_
    exact kp_i F hlocks hret hS d_Mac_resultOf_63 (by unfold sRes; rw [if_neg (by decide), if_neg (by decide), if_pos rfl])
  · refine lv_iload_n hx hb d_Mac_resultOf_0 rfl (lv_at hl 0 rfl) ?_
    refine lv_lookup (x := 47) (off := 63) (tgt := 64) hx hb d_Mac_resultOf_1 (by decide) (by decide) (by decide) ?_
    refine lv_iload_n hx hb d_Mac_resultOf_64 rfl (lv_at hl 1 rfl) ?_
    refine lv_iload_n hx hb d_Mac_resultOf_65 rfl (lv_at hl 2 rfl) ?_
    refine lv_idiv hx hb d_Mac_resultOf_66 (hz rfl) ?_
    exact kp_i F hlocks hret hS d_Mac_resultOf_67 (by unfold sRes; rw [if_neg (by decide), if_neg (by decide), if_neg (by decide), if_pos rfl])
  · refine lv_iload_n hx hb d_Mac_resultOf_0 rfl (lv_at hl 0 rfl) ?_
    refine lv_lookup (x := 60) (off := 67) (tgt := 68) hx hb d_Mac_resultOf_1 (by decide) (by decide) (by decide) ?_
    refine lv_iload_n hx hb d_Mac_resultOf_68 rfl (lv_at hl 1 rfl) ?_
    refine lv_iload_n hx hb d_Mac_resultOf_69 rfl (lv_at hl 2 rfl) ?_
    refine lv_icmp_ge (tgt := 77) hx hb d_Mac_resultOf_70 (by decide) (fun h70 => ?_) (fun h70 => ?_)
    · refine lv_iconst (v := 0) hx hb d_Mac_resultOf_77 (by decide) ?_
      exact kp_i F hlocks hret hS d_Mac_resultOf_78 (by unfold sRes; rw [if_neg (by decide), if_neg (by decide), if_neg (by decide), if_neg (by decide), if_pos rfl, if_pos h70])
    · refine lv_iconst (v := 1) hx hb d_Mac_resultOf_73 (by decide) ?_
      refine lv_goto (tgt := 78) hx hb d_Mac_resultOf_74 (by decide) ?_
      exact kp_i F hlocks hret hS d_Mac_resultOf_78 (by unfold sRes; rw [if_neg (by decide), if_neg (by decide), if_neg (by decide), if_neg (by decide), if_pos rfl, if_neg h70])
  · refine lv_iload_n hx hb d_Mac_resultOf_0 rfl (lv_at hl 0 rfl) ?_
    refine lv_lookup (x := 61) (off := 78) (tgt := 79) hx hb d_Mac_resultOf_1 (by decide) (by decide) (by decide) ?_
    refine lv_iload_n hx hb d_Mac_resultOf_79 rfl (lv_at hl 1 rfl) ?_
    refine lv_iload_n hx hb d_Mac_resultOf_80 rfl (lv_at hl 2 rfl) ?_
    refine lv_icmp_ne (tgt := 88) hx hb d_Mac_resultOf_81 (by decide) (fun h81 => ?_) (fun h81 => ?_)
    · refine lv_iconst (v := 0) hx hb d_Mac_resultOf_88 (by decide) ?_
      exact kp_i F hlocks hret hS d_Mac_resultOf_89 (by unfold sRes; rw [if_neg (by decide), if_neg (by decide), if_neg (by decide), if_neg (by decide), if_neg (by decide), if_neg h81])
    · refine lv_iconst (v := 1) hx hb d_Mac_resultOf_84 (by decide) ?_
      refine lv_goto (tgt := 89) hx hb d_Mac_resultOf_85 (by decide) ?_
      exact kp_i F hlocks hret hS d_Mac_resultOf_89 (by unfold sRes; rw [if_neg (by decide), if_neg (by decide), if_neg (by decide), if_neg (by decide), if_neg (by decide), if_pos h81])

set_option maxRecDepth 100000 in
set_option maxHeartbeats 4000000 in
theorem c_Mac_combine (l : Launch) (Dg : va_G) (a : Nat → Nat) (k : Nat → ClassId) (M : vSt) (c : Int32) (H : Heap) (hP : va_P Dg classes (wM a k M) H) (hD : va_D (fun _ => True) (wM a k M)) (hc : c = 43 ∨ c = 45 ∨ c = 42 ∨ c = 47 ∨ c = 60 ∨ c = 61) (h1 : vp_in (M 4 0 - 1) 40) (h2 : vp_in (M 4 0 - 1 - 1) 40) (hz : c = 47 → ¬ sTop M = 0) : kMv l y_Mac_combine b_Mac_combine 4 1 22 [.ref (a 0), .int c] H (va_K Dg classes (kTy k)) Dg (wM a k M) (wM a k (sComb M c)) := by
  refine k_of (by decide) (Nat.le_of_ble_eq_true rfl) ?_
  intro p e s m below meth cd ls F hlocks hret hname hh hX hl
  subst hh
  obtain ⟨hx, hb, hml, hown, hT⟩ := id F
  have hK : va_K Dg classes (kTy k) s := hX
  have hA : ∀ q : Nat, s.heap.size ≤ q → va_A (wM a k M) s.heap.size q := fun q h => Or.inr h
  have hD := hD.self (sz := s.heap.size)
  have hS : va_S (va_A (wM a k M) s.heap.size) s.heap s.heap [] := va_S.rf
  have hl : lv_has ls 4 [(0, .ref (a 0)), (1, .int c)] := hl
  refine lv_aload_n hx hb d_Mac_combine_0 rfl (lv_at hl 0 rfl) ?_
  refine km_Vi (wr := []) F (c_Mac_pop l Dg a k M  _ hP (hD.weaken (fun _ _ _ _ => trivial)) h1) kx_K hK kw_Mac_92 tw2_175 ts_11 (va_recv (ci := 1) (q0 := 0) hK hP rfl rfl) hP hD hS hA [0, 1, 2, 3, 4] [] rfl rfl (by decide) (by decide) d_Mac_combine_1 ⟨⟨by decide, by decide⟩, Nat.le_refl _, Nat.le_refl _⟩ rfl hl.1 rfl (Nat.le_of_ble_eq_true rfl) (fun H locs hP hD hS => ?_)
  have hP : va_P Dg classes (wM a k (sPop M)) H := hP
  have hD : va_D (va_A (wM a k M) s.heap.size) (wM a k (sPop M)) := hD
  obtain ⟨Ms1, hMs1⟩ : ∃ z, z = (sPop M) := ⟨_, rfl⟩
  rw [← hMs1] at hP hD
  refine lv_istore_n hx hb d_Mac_combine_4 rfl hl (by decide) rfl (fun ls hl => ?_)
  have hl : lv_has ls 4 [(2, .int (sTop M)), (0, .ref (a 0)), (1, .int c)] := hl
  refine lv_aload_n hx hb d_Mac_combine_5 rfl (lv_at hl 1 rfl) ?_
  refine km_Vi (wr := []) F (c_Mac_pop l Dg a k Ms1  _ hP (hD.weaken (fun _ _ _ _ => trivial)) (by rw [hMs1]; exact h2)) kx_K hK kw_Mac_92 tw2_175 ts_11 (va_recv (ci := 1) (q0 := 0) hK hP rfl rfl) hP hD hS hA [0, 1, 2, 3, 4] [] rfl rfl (by decide) (by decide) d_Mac_combine_6 ⟨⟨by decide, by decide⟩, Nat.le_refl _, Nat.le_refl _⟩ rfl hl.1 rfl (Nat.le_of_ble_eq_true rfl) (fun H locs hP hD hS => ?_)
  have hP : va_P Dg classes (wM a k (sPop Ms1)) H := hP
  have hD : va_D (va_A (wM a k M) s.heap.size) (wM a k (sPop Ms1)) := hD
  obtain ⟨Ms2, hMs2⟩ : ∃ z, z = (sPop Ms1) := ⟨_, rfl⟩
  rw [← hMs2] at hP hD
  refine lv_istore_n hx hb d_Mac_combine_9 rfl hl (by decide) rfl (fun ls hl => ?_)
  have hl : lv_has ls 4 [(3, .int (sTop Ms1)), (2, .int (sTop M)), (0, .ref (a 0)), (1, .int c)] := hl
  refine lv_aload_n hx hb d_Mac_combine_10 rfl (lv_at hl 2 rfl) ?_
  refine lv_iload_n hx hb d_Mac_combine_11 rfl (lv_at hl 3 rfl) ?_
  refine lv_iload_n hx hb d_Mac_combine_12 rfl (lv_at hl 0 rfl) ?_
  refine lv_iload_n hx hb d_Mac_combine_13 rfl (lv_at hl 1 rfl) ?_
  refine kp_S F (c_Mac_resultOf l Dg k c (sTop Ms1) (sTop M) _ hc hz) kx_K hK kw_Mac_105 tw2_190 hS d_Mac_combine_14 ⟨⟨by decide, by decide⟩, Nat.le_refl _, Nat.le_refl _⟩ rfl hl.1 rfl (Nat.le_of_ble_eq_true rfl) (fun locs hS => ?_)
  refine km_Vv (wr := []) F (c_Mac_push l Dg a k Ms2 (sRes c (sTop Ms1) (sTop M)) _ hP (hD.weaken (fun _ _ _ _ => trivial)) (by rw [hMs2, hMs1]; exact h2)) kx_K hK kw_Mac_88 tw2_171 ts_10 (va_recv (ci := 1) (q0 := 0) hK hP rfl rfl) hP hD hS hA [0, 1, 2, 3, 4] [] rfl rfl (by decide) (by decide) d_Mac_combine_17 ⟨⟨by decide, by decide⟩, Nat.le_refl _, Nat.le_refl _⟩ rfl hl.1 rfl (Nat.le_of_ble_eq_true rfl) (fun H locs hP hD hS => ?_)
  have hP : va_P Dg classes (wM a k (sPush Ms2 (sRes c (sTop Ms1) (sTop M)))) H := hP
  have hD : va_D (va_A (wM a k M) s.heap.size) (wM a k (sPush Ms2 (sRes c (sTop Ms1) (sTop M)))) := hD
  obtain ⟨Ms3, hMs3⟩ : ∃ z, z = (sPush Ms2 (sRes c (sTop Ms1) (sTop M))) := ⟨_, rfl⟩
  rw [← hMs3] at hP hD
  exact km_v F hlocks hret hP hD hS d_Mac_combine_20 (by subst hMs3 hMs2 hMs1; rfl)

set_option maxRecDepth 100000 in
set_option maxHeartbeats 4000000 in
theorem c_Mac_neededValues (l : Launch) (Dg : va_G) (k : Nat → ClassId) (c : Int32) (H : Heap) (hc : okC c) : kPu l y_Mac_neededValues b_Mac_neededValues 1 (some FieldType.int) 0 0 [.int c] H (va_K Dg classes (kTy k)) (sNeed c) := by
  refine k_of (by decide) (Nat.le_of_ble_eq_true rfl) ?_
  intro p e s m below meth cd ls F hlocks hret hname hh hX hl
  subst hh
  obtain ⟨hx, hb, hml, hown, hT⟩ := id F
  have hK : va_K Dg classes (kTy k) s := hX
  have hS : va_S (fun _ => False) s.heap s.heap [] := va_S.rf
  have hl : lv_has ls 1 [(0, .int c)] := hl
  rcases hc with rfl | rfl | rfl | rfl | rfl | rfl | rfl | rfl | rfl | rfl | rfl | rfl | rfl | rfl | rfl | rfl | rfl | rfl
  · refine lv_iload_n hx hb d_Mac_neededValues_0 rfl (lv_at hl 0 rfl) ?_
    refine lv_tableIn (x := 80) (off := 215) (tgt := 216) hx hb d_Mac_neededValues_1 (by decide) (by decide) rfl (by decide) ?_
    refine lv_iconst (v := 0) hx hb d_Mac_neededValues_216 (by decide) ?_
    exact kp_i F hlocks hret hS d_Mac_neededValues_217 (by decide)
  · refine lv_iload_n hx hb d_Mac_neededValues_0 rfl (lv_at hl 0 rfl) ?_
    refine lv_tableIn (x := 76) (off := 215) (tgt := 216) hx hb d_Mac_neededValues_1 (by decide) (by decide) rfl (by decide) ?_
    refine lv_iconst (v := 0) hx hb d_Mac_neededValues_216 (by decide) ?_
    exact kp_i F hlocks hret hS d_Mac_neededValues_217 (by decide)
  · refine lv_iload_n hx hb d_Mac_neededValues_0 rfl (lv_at hl 0 rfl) ?_
    refine lv_tableIn (x := 83) (off := 213) (tgt := 214) hx hb d_Mac_neededValues_1 (by decide) (by decide) rfl (by decide) ?_
    refine lv_iconst (v := 1) hx hb d_Mac_neededValues_214 (by decide) ?_
    exact kp_i F hlocks hret hS d_Mac_neededValues_215 (by decide)
  · refine lv_iload_n hx hb d_Mac_neededValues_0 rfl (lv_at hl 0 rfl) ?_
    refine lv_tableIn (x := 43) (off := 211) (tgt := 212) hx hb d_Mac_neededValues_1 (by decide) (by decide) rfl (by decide) ?_
    refine lv_iconst (v := 2) hx hb d_Mac_neededValues_212 (by decide) ?_
    exact kp_i F hlocks hret hS d_Mac_neededValues_213 (by decide)
  · refine lv_iload_n hx hb d_Mac_neededValues_0 rfl (lv_at hl 0 rfl) ?_
    refine lv_tableIn (x := 45) (off := 211) (tgt := 212) hx hb d_Mac_neededValues_1 (by decide) (by decide) rfl (by decide) ?_
    refine lv_iconst (v := 2) hx hb d_Mac_neededValues_212 (by decide) ?_
    exact kp_i F hlocks hret hS d_Mac_neededValues_213 (by decide)
  · refine lv_iload_n hx hb d_Mac_neededValues_0 rfl (lv_at hl 0 rfl) ?_
    refine lv_tableIn (x := 42) (off := 211) (tgt := 212) hx hb d_Mac_neededValues_1 (by decide) (by decide) rfl (by decide) ?_
    refine lv_iconst (v := 2) hx hb d_Mac_neededValues_212 (by decide) ?_
    exact kp_i F hlocks hret hS d_Mac_neededValues_213 (by decide)
  · refine lv_iload_n hx hb d_Mac_neededValues_0 rfl (lv_at hl 0 rfl) ?_
    refine lv_tableIn (x := 47) (off := 211) (tgt := 212) hx hb d_Mac_neededValues_1 (by decide) (by decide) rfl (by decide) ?_
    refine lv_iconst (v := 2) hx hb d_Mac_neededValues_212 (by decide) ?_
    exact kp_i F hlocks hret hS d_Mac_neededValues_213 (by decide)
  · refine lv_iload_n hx hb d_Mac_neededValues_0 rfl (lv_at hl 0 rfl) ?_
    refine lv_tableIn (x := 60) (off := 211) (tgt := 212) hx hb d_Mac_neededValues_1 (by decide) (by decide) rfl (by decide) ?_
    refine lv_iconst (v := 2) hx hb d_Mac_neededValues_212 (by decide) ?_
    exact kp_i F hlocks hret hS d_Mac_neededValues_213 (by decide)
  · refine lv_iload_n hx hb d_Mac_neededValues_0 rfl (lv_at hl 0 rfl) ?_
    refine lv_tableIn (x := 61) (off := 211) (tgt := 212) hx hb d_Mac_neededValues_1 (by decide) (by decide) rfl (by decide) ?_
    refine lv_iconst (v := 2) hx hb d_Mac_neededValues_212 (by decide) ?_
    exact kp_i F hlocks hret hS d_Mac_neededValues_213 (by decide)
  · refine lv_iload_n hx hb d_Mac_neededValues_0 rfl (lv_at hl 0 rfl) ?_
    refine lv_tableIn (x := 68) (off := 213) (tgt := 214) hx hb d_Mac_neededValues_1 (by decide) (by decide) rfl (by decide) ?_
    refine lv_iconst (v := 1) hx hb d_Mac_neededValues_214 (by decide) ?_
    exact kp_i F hlocks hret hS d_Mac_neededValues_215 (by decide)
  · refine lv_iload_n hx hb d_Mac_neededValues_0 rfl (lv_at hl 0 rfl) ?_
    refine lv_tableIn (x := 88) (off := 211) (tgt := 212) hx hb d_Mac_neededValues_1 (by decide) (by decide) rfl (by decide) ?_
    refine lv_iconst (v := 2) hx hb d_Mac_neededValues_212 (by decide) ?_
    exact kp_i F hlocks hret hS d_Mac_neededValues_213 (by decide)
  · refine lv_iload_n hx hb d_Mac_neededValues_0 rfl (lv_at hl 0 rfl) ?_
    refine lv_tableIn (x := 79) (off := 213) (tgt := 214) hx hb d_Mac_neededValues_1 (by decide) (by decide) rfl (by decide) ?_
    refine lv_iconst (v := 1) hx hb d_Mac_neededValues_214 (by decide) ?_
    exact kp_i F hlocks hret hS d_Mac_neededValues_215 (by decide)
  · refine lv_iload_n hx hb d_Mac_neededValues_0 rfl (lv_at hl 0 rfl) ?_
    refine lv_tableIn (x := 86) (off := 213) (tgt := 214) hx hb d_Mac_neededValues_1 (by decide) (by decide) rfl (by decide) ?_
    refine lv_iconst (v := 1) hx hb d_Mac_neededValues_214 (by decide) ?_
    exact kp_i F hlocks hret hS d_Mac_neededValues_215 (by decide)
  · refine lv_iload_n hx hb d_Mac_neededValues_0 rfl (lv_at hl 0 rfl) ?_
    refine lv_tableIn (x := 74) (off := 215) (tgt := 216) hx hb d_Mac_neededValues_1 (by decide) (by decide) rfl (by decide) ?_
    refine lv_iconst (v := 0) hx hb d_Mac_neededValues_216 (by decide) ?_
    exact kp_i F hlocks hret hS d_Mac_neededValues_217 (by decide)
  · refine lv_iload_n hx hb d_Mac_neededValues_0 rfl (lv_at hl 0 rfl) ?_
    refine lv_tableIn (x := 90) (off := 213) (tgt := 214) hx hb d_Mac_neededValues_1 (by decide) (by decide) rfl (by decide) ?_
    refine lv_iconst (v := 1) hx hb d_Mac_neededValues_214 (by decide) ?_
    exact kp_i F hlocks hret hS d_Mac_neededValues_215 (by decide)
  · refine lv_iload_n hx hb d_Mac_neededValues_0 rfl (lv_at hl 0 rfl) ?_
    refine lv_tableIn (x := 67) (off := 215) (tgt := 216) hx hb d_Mac_neededValues_1 (by decide) (by decide) rfl (by decide) ?_
    refine lv_iconst (v := 0) hx hb d_Mac_neededValues_216 (by decide) ?_
    exact kp_i F hlocks hret hS d_Mac_neededValues_217 (by decide)
  · refine lv_iload_n hx hb d_Mac_neededValues_0 rfl (lv_at hl 0 rfl) ?_
    refine lv_tableIn (x := 82) (off := 215) (tgt := 216) hx hb d_Mac_neededValues_1 (by decide) (by decide) rfl (by decide) ?_
    refine lv_iconst (v := 0) hx hb d_Mac_neededValues_216 (by decide) ?_
    exact kp_i F hlocks hret hS d_Mac_neededValues_217 (by decide)
  · refine lv_iload_n hx hb d_Mac_neededValues_0 rfl (lv_at hl 0 rfl) ?_
    refine lv_tableIn (x := 72) (off := 215) (tgt := 216) hx hb d_Mac_neededValues_1 (by decide) (by decide) rfl (by decide) ?_
    refine lv_iconst (v := 0) hx hb d_Mac_neededValues_216 (by decide) ?_
    exact kp_i F hlocks hret hS d_Mac_neededValues_217 (by decide)

set_option maxRecDepth 100000 in
set_option maxHeartbeats 4000000 in
theorem c_Mac_putsOneMore (l : Launch) (Dg : va_G) (k : Nat → ClassId) (c : Int32) (H : Heap) : kPu l y_Mac_putsOneMore b_Mac_putsOneMore 1 (some FieldType.boolean) 0 0 [.int c] H (va_K Dg classes (kTy k)) (sPuts c) := by
  refine k_of (by decide) (Nat.le_of_ble_eq_true rfl) ?_
  intro p e s m below meth cd ls F hlocks hret hname hh hX hl
  subst hh
  obtain ⟨hx, hb, hml, hown, hT⟩ := id F
  have hK : va_K Dg classes (kTy k) s := hX
  have hS : va_S (fun _ => False) s.heap s.heap [] := va_S.rf
  have hl : lv_has ls 1 [(0, .int c)] := hl
  refine lv_iload_n hx hb d_Mac_putsOneMore_0 rfl (lv_at hl 0 rfl) ?_
  refine lv_bipush (v := 80) hx hb d_Mac_putsOneMore_1 (by decide) ?_
  refine lv_icmp_eq (tgt := 18) hx hb d_Mac_putsOneMore_3 (by decide) (fun h3 => ?_) (fun h3 => ?_)
  · refine lv_iconst (v := 1) hx hb d_Mac_putsOneMore_18 (by decide) ?_
    refine lv_goto (tgt := 23) hx hb d_Mac_putsOneMore_19 (by decide) ?_
    exact kp_z F hlocks hret hS d_Mac_putsOneMore_23 rfl (by unfold sPuts; rw [if_pos (Or.inl h3)])
  · refine lv_iload_n hx hb d_Mac_putsOneMore_6 rfl (lv_at hl 0 rfl) ?_
    refine lv_bipush (v := 76) hx hb d_Mac_putsOneMore_7 (by decide) ?_
    refine lv_icmp_eq (tgt := 18) hx hb d_Mac_putsOneMore_9 (by decide) (fun h9 => ?_) (fun h9 => ?_)
    · refine lv_iconst (v := 1) hx hb d_Mac_putsOneMore_18 (by decide) ?_
      refine lv_goto (tgt := 23) hx hb d_Mac_putsOneMore_19 (by decide) ?_
      exact kp_z F hlocks hret hS d_Mac_putsOneMore_23 rfl (by unfold sPuts; rw [if_pos (Or.inr (Or.inl h9))])
    · refine lv_iload_n hx hb d_Mac_putsOneMore_12 rfl (lv_at hl 0 rfl) ?_
      refine lv_bipush (v := 68) hx hb d_Mac_putsOneMore_13 (by decide) ?_
      refine lv_icmp_ne (tgt := 22) hx hb d_Mac_putsOneMore_15 (by decide) (fun h15 => ?_) (fun h15 => ?_)
      · refine lv_iconst (v := 0) hx hb d_Mac_putsOneMore_22 (by decide) ?_
        exact kp_z F hlocks hret hS d_Mac_putsOneMore_23 rfl (by unfold sPuts; rw [if_neg (fun z => z.elim h3 (fun z => z.elim h9 h15))])
      · refine lv_iconst (v := 1) hx hb d_Mac_putsOneMore_18 (by decide) ?_
        refine lv_goto (tgt := 23) hx hb d_Mac_putsOneMore_19 (by decide) ?_
        exact kp_z F hlocks hret hS d_Mac_putsOneMore_23 rfl (by unfold sPuts; rw [if_pos (Or.inr (Or.inr h15))])

theorem tr_div {M : vSt} {c : Int32} (hm : mOk M) (hc : c = 47) (hn : ¬ M 4 0 < sNeed c) : vp_in (M 4 0 - 1) 40 := by
  obtain ⟨h, r, o, e0, e1, e2, b0, b1, b2⟩ := hm
  rw [hc, e0] at hn
  have := tr_n (d := 2) (by decide) hn
  exact in_1 e0 (by omega) b0 (by decide)

set_option maxRecDepth 100000 in
set_option maxHeartbeats 4000000 in
theorem c_Mac_trapOf (l : Launch) (Dg : va_G) (a : Nat → Nat) (k : Nat → ClassId) (M : vSt) (c : Int32) (H : Heap) (hP : va_P Dg classes (wM a k M) H) (hc : okC c) (hm : mOk M) : kPu l y_Mac_trapOf b_Mac_trapOf 2 (some FieldType.int) 1 20 [.ref (a 0), .int c] H (va_K Dg classes (kTy k)) (sTrap M c) := by
  refine k_of (by decide) (Nat.le_of_ble_eq_true rfl) ?_
  intro p e s m below meth cd ls F hlocks hret hname hh hX hl
  subst hh
  obtain ⟨hx, hb, hml, hown, hT⟩ := id F
  have hK : va_K Dg classes (kTy k) s := hX
  have hS : va_S (fun _ => False) s.heap s.heap [] := va_S.rf
  have hl : lv_has ls 2 [(0, .ref (a 0)), (1, .int c)] := hl
  refine lv_aload_n hx hb d_Mac_trapOf_0 rfl (lv_at hl 0 rfl) ?_
  refine va_get (D := Dg) (ci := 1) (v := .int (M 4 0)) (C := R_Mac) (T := F_Mac) (N := 10) hx hb hT in_Mac hown hK hP 0 rfl rfl 4 (by decide) (hT _ tw1_74) (fun _ h9 => h9) rfl d_Mac_trapOf_1 ?_
  refine lv_iload_n hx hb d_Mac_trapOf_4 rfl (lv_at hl 1 rfl) ?_
  refine kp_S F (c_Mac_neededValues l Dg k c _ hc) kx_K hK kw_Mac_82 tw2_160 hS d_Mac_trapOf_5 ⟨⟨by decide, by decide⟩, Nat.le_refl _, Nat.le_refl _⟩ rfl hl.1 rfl (Nat.le_of_ble_eq_true rfl) (fun locs hS => ?_)
  refine lv_icmp_lt (tgt := 24) hx hb d_Mac_trapOf_8 (by decide) (fun h8 => ?_) (fun h8 => ?_)
  · refine lv_iconst (v := 1) hx hb d_Mac_trapOf_24 (by decide) ?_
    exact kp_i F hlocks hret hS d_Mac_trapOf_25 (by unfold sTrap; rw [if_pos h8])
  · refine lv_iload_n hx hb d_Mac_trapOf_11 rfl (lv_at hl 1 rfl) ?_
    refine lv_bipush (v := 82) hx hb d_Mac_trapOf_12 (by decide) ?_
    refine lv_icmp_ne (tgt := 26) hx hb d_Mac_trapOf_14 (by decide) (fun h14 => ?_) (fun h14 => ?_)
    · refine lv_iload_n hx hb d_Mac_trapOf_26 rfl (lv_at hl 1 rfl) ?_
      refine kp_S F (c_Mac_putsOneMore l Dg k c _) kx_K hK kw_Mac_85 tw2_163 hS d_Mac_trapOf_27 ⟨⟨by decide, by decide⟩, Nat.le_refl _, Nat.le_refl _⟩ rfl hl.1 rfl (Nat.le_of_ble_eq_true rfl) (fun locs hS => ?_)
      refine lv_if_eq (tgt := 42) hx hb d_Mac_trapOf_30 (by decide) (fun h30 => ?_) (fun h30 => ?_)
      · refine lv_iload_n hx hb d_Mac_trapOf_42 rfl (lv_at hl 1 rfl) ?_
        refine lv_bipush (v := 67) hx hb d_Mac_trapOf_43 (by decide) ?_
        refine lv_icmp_ne (tgt := 59) hx hb d_Mac_trapOf_45 (by decide) (fun h45 => ?_) (fun h45 => ?_)
        · refine lv_iload_n hx hb d_Mac_trapOf_59 rfl (lv_at hl 1 rfl) ?_
          refine lv_bipush (v := 47) hx hb d_Mac_trapOf_60 (by decide) ?_
          refine lv_icmp_ne (tgt := 81) hx hb d_Mac_trapOf_62 (by decide) (fun h62 => ?_) (fun h62 => ?_)
          · refine lv_iconst (v := 0) hx hb d_Mac_trapOf_81 (by decide) ?_
            exact kp_i F hlocks hret hS d_Mac_trapOf_82 (by unfold sTrap; rw [if_neg h8, if_neg (fun z => h14 z.1), if_neg (fun z => z.1 h30), if_neg (fun z => h45 z.1), if_neg (fun z => h62 z.1)])
          · refine lv_aload_n hx hb d_Mac_trapOf_65 rfl (lv_at hl 0 rfl) ?_
            refine va_get (D := Dg) (ci := 1) (v := .ref (a 1)) (C := R_Mac) (T := F_Mac) (N := 10) hx hb hT in_Mac hown hK hP 0 rfl rfl 0 (by decide) (hT _ tw1_67) (fun _ h9 => h9) rfl d_Mac_trapOf_66 ?_
            refine lv_aload_n hx hb d_Mac_trapOf_69 rfl (lv_at hl 0 rfl) ?_
            refine va_get (D := Dg) (ci := 1) (v := .int (M 4 0)) (C := R_Mac) (T := F_Mac) (N := 10) hx hb hT in_Mac hown hK hP 0 rfl rfl 4 (by decide) (hT _ tw1_74) (fun _ h9 => h9) rfl d_Mac_trapOf_70 ?_
            refine lv_iconst (v := 1) hx hb d_Mac_trapOf_73 (by decide) ?_
            refine lv_isub hx hb d_Mac_trapOf_74 ?_
            refine va_iald (f := (M 0)) hx hb hK hP 1 0 rfl rfl (tr_div hm h62 h8) d_Mac_trapOf_75 ?_
            refine lv_if_ne (tgt := 81) hx hb d_Mac_trapOf_76 (by decide) (fun h76 => ?_) (fun h76 => ?_)
            · refine lv_iconst (v := 0) hx hb d_Mac_trapOf_81 (by decide) ?_
              exact kp_i F hlocks hret hS d_Mac_trapOf_82 (by unfold sTrap; rw [if_neg h8, if_neg (fun z => h14 z.1), if_neg (fun z => z.1 h30), if_neg (fun z => h45 z.1), if_neg (fun z => h76 z.2)])
            · refine lv_iconst (v := 3) hx hb d_Mac_trapOf_79 (by decide) ?_
              exact kp_i F hlocks hret hS d_Mac_trapOf_80 (by unfold sTrap; rw [if_neg h8, if_neg (fun z => h14 z.1), if_neg (fun z => z.1 h30), if_neg (fun z => h45 z.1), if_pos ⟨h62, h76⟩])
        · refine lv_aload_n hx hb d_Mac_trapOf_48 rfl (lv_at hl 0 rfl) ?_
          refine va_get (D := Dg) (ci := 1) (v := .int (M 4 1)) (C := R_Mac) (T := F_Mac) (N := 10) hx hb hT in_Mac hown hK hP 0 rfl rfl 5 (by decide) (hT _ tw1_76) (fun _ h9 => h9) rfl d_Mac_trapOf_49 ?_
          refine lv_bipush (v := 10) hx hb d_Mac_trapOf_52 (by decide) ?_
          refine lv_icmp_ne (tgt := 59) hx hb d_Mac_trapOf_54 (by decide) (fun h54 => ?_) (fun h54 => ?_)
          · refine lv_iload_n hx hb d_Mac_trapOf_59 rfl (lv_at hl 1 rfl) ?_
            refine lv_bipush (v := 47) hx hb d_Mac_trapOf_60 (by decide) ?_
            refine lv_icmp_ne (tgt := 81) hx hb d_Mac_trapOf_62 (by decide) (fun h62 => ?_) (fun h62 => ?_)
            · refine lv_iconst (v := 0) hx hb d_Mac_trapOf_81 (by decide) ?_
              exact kp_i F hlocks hret hS d_Mac_trapOf_82 (by unfold sTrap; rw [if_neg h8, if_neg (fun z => h14 z.1), if_neg (fun z => z.1 h30), if_neg (fun z => h54 z.2), if_neg (fun z => h62 z.1)])
            · refine lv_aload_n hx hb d_Mac_trapOf_65 rfl (lv_at hl 0 rfl) ?_
              refine va_get (D := Dg) (ci := 1) (v := .ref (a 1)) (C := R_Mac) (T := F_Mac) (N := 10) hx hb hT in_Mac hown hK hP 0 rfl rfl 0 (by decide) (hT _ tw1_67) (fun _ h9 => h9) rfl d_Mac_trapOf_66 ?_
              refine lv_aload_n hx hb d_Mac_trapOf_69 rfl (lv_at hl 0 rfl) ?_
              refine va_get (D := Dg) (ci := 1) (v := .int (M 4 0)) (C := R_Mac) (T := F_Mac) (N := 10) hx hb hT in_Mac hown hK hP 0 rfl rfl 4 (by decide) (hT _ tw1_74) (fun _ h9 => h9) rfl d_Mac_trapOf_70 ?_
              refine lv_iconst (v := 1) hx hb d_Mac_trapOf_73 (by decide) ?_
              refine lv_isub hx hb d_Mac_trapOf_74 ?_
              refine va_iald (f := (M 0)) hx hb hK hP 1 0 rfl rfl (tr_div hm h62 h8) d_Mac_trapOf_75 ?_
              refine lv_if_ne (tgt := 81) hx hb d_Mac_trapOf_76 (by decide) (fun h76 => ?_) (fun h76 => ?_)
              · refine lv_iconst (v := 0) hx hb d_Mac_trapOf_81 (by decide) ?_
                exact kp_i F hlocks hret hS d_Mac_trapOf_82 (by unfold sTrap; rw [if_neg h8, if_neg (fun z => h14 z.1), if_neg (fun z => z.1 h30), if_neg (fun z => h54 z.2), if_neg (fun z => h76 z.2)])
              · refine lv_iconst (v := 3) hx hb d_Mac_trapOf_79 (by decide) ?_
                exact kp_i F hlocks hret hS d_Mac_trapOf_80 (by unfold sTrap; rw [if_neg h8, if_neg (fun z => h14 z.1), if_neg (fun z => z.1 h30), if_neg (fun z => h54 z.2), if_pos ⟨h62, h76⟩])
          · refine lv_iconst (v := 2) hx hb d_Mac_trapOf_57 (by decide) ?_
            exact kp_i F hlocks hret hS d_Mac_trapOf_58 (by unfold sTrap; rw [if_neg h8, if_neg (fun z => h14 z.1), if_neg (fun z => z.1 h30), if_pos ⟨h45, h54⟩])
      · refine lv_aload_n hx hb d_Mac_trapOf_33 rfl (lv_at hl 0 rfl) ?_
        refine va_get (D := Dg) (ci := 1) (v := .int (M 4 0)) (C := R_Mac) (T := F_Mac) (N := 10) hx hb hT in_Mac hown hK hP 0 rfl rfl 4 (by decide) (hT _ tw1_74) (fun _ h9 => h9) rfl d_Mac_trapOf_34 ?_
        refine lv_bipush (v := 40) hx hb d_Mac_trapOf_37 (by decide) ?_
        refine lv_icmp_eq (tgt := 57) hx hb d_Mac_trapOf_39 (by decide) (fun h39 => ?_) (fun h39 => ?_)
        · refine lv_iconst (v := 2) hx hb d_Mac_trapOf_57 (by decide) ?_
          exact kp_i F hlocks hret hS d_Mac_trapOf_58 (by unfold sTrap; rw [if_neg h8, if_neg (fun z => h14 z.1), if_pos ⟨h30, h39⟩])
        · refine lv_iload_n hx hb d_Mac_trapOf_42 rfl (lv_at hl 1 rfl) ?_
          refine lv_bipush (v := 67) hx hb d_Mac_trapOf_43 (by decide) ?_
          refine lv_icmp_ne (tgt := 59) hx hb d_Mac_trapOf_45 (by decide) (fun h45 => ?_) (fun h45 => ?_)
          · refine lv_iload_n hx hb d_Mac_trapOf_59 rfl (lv_at hl 1 rfl) ?_
            refine lv_bipush (v := 47) hx hb d_Mac_trapOf_60 (by decide) ?_
            refine lv_icmp_ne (tgt := 81) hx hb d_Mac_trapOf_62 (by decide) (fun h62 => ?_) (fun h62 => ?_)
            · refine lv_iconst (v := 0) hx hb d_Mac_trapOf_81 (by decide) ?_
              exact kp_i F hlocks hret hS d_Mac_trapOf_82 (by unfold sTrap; rw [if_neg h8, if_neg (fun z => h14 z.1), if_neg (fun z => h39 z.2), if_neg (fun z => h45 z.1), if_neg (fun z => h62 z.1)])
            · refine lv_aload_n hx hb d_Mac_trapOf_65 rfl (lv_at hl 0 rfl) ?_
              refine va_get (D := Dg) (ci := 1) (v := .ref (a 1)) (C := R_Mac) (T := F_Mac) (N := 10) hx hb hT in_Mac hown hK hP 0 rfl rfl 0 (by decide) (hT _ tw1_67) (fun _ h9 => h9) rfl d_Mac_trapOf_66 ?_
              refine lv_aload_n hx hb d_Mac_trapOf_69 rfl (lv_at hl 0 rfl) ?_
              refine va_get (D := Dg) (ci := 1) (v := .int (M 4 0)) (C := R_Mac) (T := F_Mac) (N := 10) hx hb hT in_Mac hown hK hP 0 rfl rfl 4 (by decide) (hT _ tw1_74) (fun _ h9 => h9) rfl d_Mac_trapOf_70 ?_
              refine lv_iconst (v := 1) hx hb d_Mac_trapOf_73 (by decide) ?_
              refine lv_isub hx hb d_Mac_trapOf_74 ?_
              refine va_iald (f := (M 0)) hx hb hK hP 1 0 rfl rfl (tr_div hm h62 h8) d_Mac_trapOf_75 ?_
              refine lv_if_ne (tgt := 81) hx hb d_Mac_trapOf_76 (by decide) (fun h76 => ?_) (fun h76 => ?_)
              · refine lv_iconst (v := 0) hx hb d_Mac_trapOf_81 (by decide) ?_
                exact kp_i F hlocks hret hS d_Mac_trapOf_82 (by unfold sTrap; rw [if_neg h8, if_neg (fun z => h14 z.1), if_neg (fun z => h39 z.2), if_neg (fun z => h45 z.1), if_neg (fun z => h76 z.2)])
              · refine lv_iconst (v := 3) hx hb d_Mac_trapOf_79 (by decide) ?_
                exact kp_i F hlocks hret hS d_Mac_trapOf_80 (by unfold sTrap; rw [if_neg h8, if_neg (fun z => h14 z.1), if_neg (fun z => h39 z.2), if_neg (fun z => h45 z.1), if_pos ⟨h62, h76⟩])
          · refine lv_aload_n hx hb d_Mac_trapOf_48 rfl (lv_at hl 0 rfl) ?_
            refine va_get (D := Dg) (ci := 1) (v := .int (M 4 1)) (C := R_Mac) (T := F_Mac) (N := 10) hx hb hT in_Mac hown hK hP 0 rfl rfl 5 (by decide) (hT _ tw1_76) (fun _ h9 => h9) rfl d_Mac_trapOf_49 ?_
            refine lv_bipush (v := 10) hx hb d_Mac_trapOf_52 (by decide) ?_
            refine lv_icmp_ne (tgt := 59) hx hb d_Mac_trapOf_54 (by decide) (fun h54 => ?_) (fun h54 => ?_)
            · refine lv_iload_n hx hb d_Mac_trapOf_59 rfl (lv_at hl 1 rfl) ?_
              refine lv_bipush (v := 47) hx hb d_Mac_trapOf_60 (by decide) ?_
              refine lv_icmp_ne (tgt := 81) hx hb d_Mac_trapOf_62 (by decide) (fun h62 => ?_) (fun h62 => ?_)
              · refine lv_iconst (v := 0) hx hb d_Mac_trapOf_81 (by decide) ?_
                exact kp_i F hlocks hret hS d_Mac_trapOf_82 (by unfold sTrap; rw [if_neg h8, if_neg (fun z => h14 z.1), if_neg (fun z => h39 z.2), if_neg (fun z => h54 z.2), if_neg (fun z => h62 z.1)])
              · refine lv_aload_n hx hb d_Mac_trapOf_65 rfl (lv_at hl 0 rfl) ?_
                refine va_get (D := Dg) (ci := 1) (v := .ref (a 1)) (C := R_Mac) (T := F_Mac) (N := 10) hx hb hT in_Mac hown hK hP 0 rfl rfl 0 (by decide) (hT _ tw1_67) (fun _ h9 => h9) rfl d_Mac_trapOf_66 ?_
                refine lv_aload_n hx hb d_Mac_trapOf_69 rfl (lv_at hl 0 rfl) ?_
                refine va_get (D := Dg) (ci := 1) (v := .int (M 4 0)) (C := R_Mac) (T := F_Mac) (N := 10) hx hb hT in_Mac hown hK hP 0 rfl rfl 4 (by decide) (hT _ tw1_74) (fun _ h9 => h9) rfl d_Mac_trapOf_70 ?_
                refine lv_iconst (v := 1) hx hb d_Mac_trapOf_73 (by decide) ?_
                refine lv_isub hx hb d_Mac_trapOf_74 ?_
                refine va_iald (f := (M 0)) hx hb hK hP 1 0 rfl rfl (tr_div hm h62 h8) d_Mac_trapOf_75 ?_
                refine lv_if_ne (tgt := 81) hx hb d_Mac_trapOf_76 (by decide) (fun h76 => ?_) (fun h76 => ?_)
                · refine lv_iconst (v := 0) hx hb d_Mac_trapOf_81 (by decide) ?_
                  exact kp_i F hlocks hret hS d_Mac_trapOf_82 (by unfold sTrap; rw [if_neg h8, if_neg (fun z => h14 z.1), if_neg (fun z => h39 z.2), if_neg (fun z => h54 z.2), if_neg (fun z => h76 z.2)])
                · refine lv_iconst (v := 3) hx hb d_Mac_trapOf_79 (by decide) ?_
                  exact kp_i F hlocks hret hS d_Mac_trapOf_80 (by unfold sTrap; rw [if_neg h8, if_neg (fun z => h14 z.1), if_neg (fun z => h39 z.2), if_neg (fun z => h54 z.2), if_pos ⟨h62, h76⟩])
            · refine lv_iconst (v := 2) hx hb d_Mac_trapOf_57 (by decide) ?_
              exact kp_i F hlocks hret hS d_Mac_trapOf_58 (by unfold sTrap; rw [if_neg h8, if_neg (fun z => h14 z.1), if_neg (fun z => h39 z.2), if_pos ⟨h45, h54⟩])
    · refine lv_aload_n hx hb d_Mac_trapOf_17 rfl (lv_at hl 0 rfl) ?_
      refine va_get (D := Dg) (ci := 1) (v := .int (M 4 1)) (C := R_Mac) (T := F_Mac) (N := 10) hx hb hT in_Mac hown hK hP 0 rfl rfl 5 (by decide) (hT _ tw1_76) (fun _ h9 => h9) rfl d_Mac_trapOf_18 ?_
      refine lv_if_ne (tgt := 26) hx hb d_Mac_trapOf_21 (by decide) (fun h21 => ?_) (fun h21 => ?_)
      · refine lv_iload_n hx hb d_Mac_trapOf_26 rfl (lv_at hl 1 rfl) ?_
        refine kp_S F (c_Mac_putsOneMore l Dg k c _) kx_K hK kw_Mac_85 tw2_163 hS d_Mac_trapOf_27 ⟨⟨by decide, by decide⟩, Nat.le_refl _, Nat.le_refl _⟩ rfl hl.1 rfl (Nat.le_of_ble_eq_true rfl) (fun locs hS => ?_)
        refine lv_if_eq (tgt := 42) hx hb d_Mac_trapOf_30 (by decide) (fun h30 => ?_) (fun h30 => ?_)
        · refine lv_iload_n hx hb d_Mac_trapOf_42 rfl (lv_at hl 1 rfl) ?_
          refine lv_bipush (v := 67) hx hb d_Mac_trapOf_43 (by decide) ?_
          refine lv_icmp_ne (tgt := 59) hx hb d_Mac_trapOf_45 (by decide) (fun h45 => ?_) (fun h45 => ?_)
          · refine lv_iload_n hx hb d_Mac_trapOf_59 rfl (lv_at hl 1 rfl) ?_
            refine lv_bipush (v := 47) hx hb d_Mac_trapOf_60 (by decide) ?_
            refine lv_icmp_ne (tgt := 81) hx hb d_Mac_trapOf_62 (by decide) (fun h62 => ?_) (fun h62 => ?_)
            · refine lv_iconst (v := 0) hx hb d_Mac_trapOf_81 (by decide) ?_
              exact kp_i F hlocks hret hS d_Mac_trapOf_82 (by unfold sTrap; rw [if_neg h8, if_neg (fun z => h21 z.2), if_neg (fun z => z.1 h30), if_neg (fun z => h45 z.1), if_neg (fun z => h62 z.1)])
            · refine lv_aload_n hx hb d_Mac_trapOf_65 rfl (lv_at hl 0 rfl) ?_
              refine va_get (D := Dg) (ci := 1) (v := .ref (a 1)) (C := R_Mac) (T := F_Mac) (N := 10) hx hb hT in_Mac hown hK hP 0 rfl rfl 0 (by decide) (hT _ tw1_67) (fun _ h9 => h9) rfl d_Mac_trapOf_66 ?_
              refine lv_aload_n hx hb d_Mac_trapOf_69 rfl (lv_at hl 0 rfl) ?_
              refine va_get (D := Dg) (ci := 1) (v := .int (M 4 0)) (C := R_Mac) (T := F_Mac) (N := 10) hx hb hT in_Mac hown hK hP 0 rfl rfl 4 (by decide) (hT _ tw1_74) (fun _ h9 => h9) rfl d_Mac_trapOf_70 ?_
              refine lv_iconst (v := 1) hx hb d_Mac_trapOf_73 (by decide) ?_
              refine lv_isub hx hb d_Mac_trapOf_74 ?_
              refine va_iald (f := (M 0)) hx hb hK hP 1 0 rfl rfl (tr_div hm h62 h8) d_Mac_trapOf_75 ?_
              refine lv_if_ne (tgt := 81) hx hb d_Mac_trapOf_76 (by decide) (fun h76 => ?_) (fun h76 => ?_)
              · refine lv_iconst (v := 0) hx hb d_Mac_trapOf_81 (by decide) ?_
                exact kp_i F hlocks hret hS d_Mac_trapOf_82 (by unfold sTrap; rw [if_neg h8, if_neg (fun z => h21 z.2), if_neg (fun z => z.1 h30), if_neg (fun z => h45 z.1), if_neg (fun z => h76 z.2)])
              · refine lv_iconst (v := 3) hx hb d_Mac_trapOf_79 (by decide) ?_
                exact kp_i F hlocks hret hS d_Mac_trapOf_80 (by unfold sTrap; rw [if_neg h8, if_neg (fun z => h21 z.2), if_neg (fun z => z.1 h30), if_neg (fun z => h45 z.1), if_pos ⟨h62, h76⟩])
          · refine lv_aload_n hx hb d_Mac_trapOf_48 rfl (lv_at hl 0 rfl) ?_
            refine va_get (D := Dg) (ci := 1) (v := .int (M 4 1)) (C := R_Mac) (T := F_Mac) (N := 10) hx hb hT in_Mac hown hK hP 0 rfl rfl 5 (by decide) (hT _ tw1_76) (fun _ h9 => h9) rfl d_Mac_trapOf_49 ?_
            refine lv_bipush (v := 10) hx hb d_Mac_trapOf_52 (by decide) ?_
            refine lv_icmp_ne (tgt := 59) hx hb d_Mac_trapOf_54 (by decide) (fun h54 => ?_) (fun h54 => ?_)
            · refine lv_iload_n hx hb d_Mac_trapOf_59 rfl (lv_at hl 1 rfl) ?_
              refine lv_bipush (v := 47) hx hb d_Mac_trapOf_60 (by decide) ?_
              refine lv_icmp_ne (tgt := 81) hx hb d_Mac_trapOf_62 (by decide) (fun h62 => ?_) (fun h62 => ?_)
              · refine lv_iconst (v := 0) hx hb d_Mac_trapOf_81 (by decide) ?_
                exact kp_i F hlocks hret hS d_Mac_trapOf_82 (by unfold sTrap; rw [if_neg h8, if_neg (fun z => h21 z.2), if_neg (fun z => z.1 h30), if_neg (fun z => h54 z.2), if_neg (fun z => h62 z.1)])
              · refine lv_aload_n hx hb d_Mac_trapOf_65 rfl (lv_at hl 0 rfl) ?_
                refine va_get (D := Dg) (ci := 1) (v := .ref (a 1)) (C := R_Mac) (T := F_Mac) (N := 10) hx hb hT in_Mac hown hK hP 0 rfl rfl 0 (by decide) (hT _ tw1_67) (fun _ h9 => h9) rfl d_Mac_trapOf_66 ?_
                refine lv_aload_n hx hb d_Mac_trapOf_69 rfl (lv_at hl 0 rfl) ?_
                refine va_get (D := Dg) (ci := 1) (v := .int (M 4 0)) (C := R_Mac) (T := F_Mac) (N := 10) hx hb hT in_Mac hown hK hP 0 rfl rfl 4 (by decide) (hT _ tw1_74) (fun _ h9 => h9) rfl d_Mac_trapOf_70 ?_
                refine lv_iconst (v := 1) hx hb d_Mac_trapOf_73 (by decide) ?_
                refine lv_isub hx hb d_Mac_trapOf_74 ?_
                refine va_iald (f := (M 0)) hx hb hK hP 1 0 rfl rfl (tr_div hm h62 h8) d_Mac_trapOf_75 ?_
                refine lv_if_ne (tgt := 81) hx hb d_Mac_trapOf_76 (by decide) (fun h76 => ?_) (fun h76 => ?_)
                · refine lv_iconst (v := 0) hx hb d_Mac_trapOf_81 (by decide) ?_
                  exact kp_i F hlocks hret hS d_Mac_trapOf_82 (by unfold sTrap; rw [if_neg h8, if_neg (fun z => h21 z.2), if_neg (fun z => z.1 h30), if_neg (fun z => h54 z.2), if_neg (fun z => h76 z.2)])
                · refine lv_iconst (v := 3) hx hb d_Mac_trapOf_79 (by decide) ?_
                  exact kp_i F hlocks hret hS d_Mac_trapOf_80 (by unfold sTrap; rw [if_neg h8, if_neg (fun z => h21 z.2), if_neg (fun z => z.1 h30), if_neg (fun z => h54 z.2), if_pos ⟨h62, h76⟩])
            · refine lv_iconst (v := 2) hx hb d_Mac_trapOf_57 (by decide) ?_
              exact kp_i F hlocks hret hS d_Mac_trapOf_58 (by unfold sTrap; rw [if_neg h8, if_neg (fun z => h21 z.2), if_neg (fun z => z.1 h30), if_pos ⟨h45, h54⟩])
        · refine lv_aload_n hx hb d_Mac_trapOf_33 rfl (lv_at hl 0 rfl) ?_
          refine va_get (D := Dg) (ci := 1) (v := .int (M 4 0)) (C := R_Mac) (T := F_Mac) (N := 10) hx hb hT in_Mac hown hK hP 0 rfl rfl 4 (by decide) (hT _ tw1_74) (fun _ h9 => h9) rfl d_Mac_trapOf_34 ?_
          refine lv_bipush (v := 40) hx hb d_Mac_trapOf_37 (by decide) ?_
          refine lv_icmp_eq (tgt := 57) hx hb d_Mac_trapOf_39 (by decide) (fun h39 => ?_) (fun h39 => ?_)
          · refine lv_iconst (v := 2) hx hb d_Mac_trapOf_57 (by decide) ?_
            exact kp_i F hlocks hret hS d_Mac_trapOf_58 (by unfold sTrap; rw [if_neg h8, if_neg (fun z => h21 z.2), if_pos ⟨h30, h39⟩])
          · refine lv_iload_n hx hb d_Mac_trapOf_42 rfl (lv_at hl 1 rfl) ?_
            refine lv_bipush (v := 67) hx hb d_Mac_trapOf_43 (by decide) ?_
            refine lv_icmp_ne (tgt := 59) hx hb d_Mac_trapOf_45 (by decide) (fun h45 => ?_) (fun h45 => ?_)
            · refine lv_iload_n hx hb d_Mac_trapOf_59 rfl (lv_at hl 1 rfl) ?_
              refine lv_bipush (v := 47) hx hb d_Mac_trapOf_60 (by decide) ?_
              refine lv_icmp_ne (tgt := 81) hx hb d_Mac_trapOf_62 (by decide) (fun h62 => ?_) (fun h62 => ?_)
              · refine lv_iconst (v := 0) hx hb d_Mac_trapOf_81 (by decide) ?_
                exact kp_i F hlocks hret hS d_Mac_trapOf_82 (by unfold sTrap; rw [if_neg h8, if_neg (fun z => h21 z.2), if_neg (fun z => h39 z.2), if_neg (fun z => h45 z.1), if_neg (fun z => h62 z.1)])
              · refine lv_aload_n hx hb d_Mac_trapOf_65 rfl (lv_at hl 0 rfl) ?_
                refine va_get (D := Dg) (ci := 1) (v := .ref (a 1)) (C := R_Mac) (T := F_Mac) (N := 10) hx hb hT in_Mac hown hK hP 0 rfl rfl 0 (by decide) (hT _ tw1_67) (fun _ h9 => h9) rfl d_Mac_trapOf_66 ?_
                refine lv_aload_n hx hb d_Mac_trapOf_69 rfl (lv_at hl 0 rfl) ?_
                refine va_get (D := Dg) (ci := 1) (v := .int (M 4 0)) (C := R_Mac) (T := F_Mac) (N := 10) hx hb hT in_Mac hown hK hP 0 rfl rfl 4 (by decide) (hT _ tw1_74) (fun _ h9 => h9) rfl d_Mac_trapOf_70 ?_
                refine lv_iconst (v := 1) hx hb d_Mac_trapOf_73 (by decide) ?_
                refine lv_isub hx hb d_Mac_trapOf_74 ?_
                refine va_iald (f := (M 0)) hx hb hK hP 1 0 rfl rfl (tr_div hm h62 h8) d_Mac_trapOf_75 ?_
                refine lv_if_ne (tgt := 81) hx hb d_Mac_trapOf_76 (by decide) (fun h76 => ?_) (fun h76 => ?_)
                · refine lv_iconst (v := 0) hx hb d_Mac_trapOf_81 (by decide) ?_
                  exact kp_i F hlocks hret hS d_Mac_trapOf_82 (by unfold sTrap; rw [if_neg h8, if_neg (fun z => h21 z.2), if_neg (fun z => h39 z.2), if_neg (fun z => h45 z.1), if_neg (fun z => h76 z.2)])
                · refine lv_iconst (v := 3) hx hb d_Mac_trapOf_79 (by decide) ?_
                  exact kp_i F hlocks hret hS d_Mac_trapOf_80 (by unfold sTrap; rw [if_neg h8, if_neg (fun z => h21 z.2), if_neg (fun z => h39 z.2), if_neg (fun z => h45 z.1), if_pos ⟨h62, h76⟩])
            · refine lv_aload_n hx hb d_Mac_trapOf_48 rfl (lv_at hl 0 rfl) ?_
              refine va_get (D := Dg) (ci := 1) (v := .int (M 4 1)) (C := R_Mac) (T := F_Mac) (N := 10) hx hb hT in_Mac hown hK hP 0 rfl rfl 5 (by decide) (hT _ tw1_76) (fun _ h9 => h9) rfl d_Mac_trapOf_49 ?_
              refine lv_bipush (v := 10) hx hb d_Mac_trapOf_52 (by decide) ?_
              refine lv_icmp_ne (tgt := 59) hx hb d_Mac_trapOf_54 (by decide) (fun h54 => ?_) (fun h54 => ?_)
              · refine lv_iload_n hx hb d_Mac_trapOf_59 rfl (lv_at hl 1 rfl) ?_
                refine lv_bipush (v := 47) hx hb d_Mac_trapOf_60 (by decide) ?_
                refine lv_icmp_ne (tgt := 81) hx hb d_Mac_trapOf_62 (by decide) (fun h62 => ?_) (fun h62 => ?_)
                · refine lv_iconst (v := 0) hx hb d_Mac_trapOf_81 (by decide) ?_
                  exact kp_i F hlocks hret hS d_Mac_trapOf_82 (by unfold sTrap; rw [if_neg h8, if_neg (fun z => h21 z.2), if_neg (fun z => h39 z.2), if_neg (fun z => h54 z.2), if_neg (fun z => h62 z.1)])
                · refine lv_aload_n hx hb d_Mac_trapOf_65 rfl (lv_at hl 0 rfl) ?_
                  refine va_get (D := Dg) (ci := 1) (v := .ref (a 1)) (C := R_Mac) (T := F_Mac) (N := 10) hx hb hT in_Mac hown hK hP 0 rfl rfl 0 (by decide) (hT _ tw1_67) (fun _ h9 => h9) rfl d_Mac_trapOf_66 ?_
                  refine lv_aload_n hx hb d_Mac_trapOf_69 rfl (lv_at hl 0 rfl) ?_
                  refine va_get (D := Dg) (ci := 1) (v := .int (M 4 0)) (C := R_Mac) (T := F_Mac) (N := 10) hx hb hT in_Mac hown hK hP 0 rfl rfl 4 (by decide) (hT _ tw1_74) (fun _ h9 => h9) rfl d_Mac_trapOf_70 ?_
                  refine lv_iconst (v := 1) hx hb d_Mac_trapOf_73 (by decide) ?_
                  refine lv_isub hx hb d_Mac_trapOf_74 ?_
                  refine va_iald (f := (M 0)) hx hb hK hP 1 0 rfl rfl (tr_div hm h62 h8) d_Mac_trapOf_75 ?_
                  refine lv_if_ne (tgt := 81) hx hb d_Mac_trapOf_76 (by decide) (fun h76 => ?_) (fun h76 => ?_)
                  · refine lv_iconst (v := 0) hx hb d_Mac_trapOf_81 (by decide) ?_
                    exact kp_i F hlocks hret hS d_Mac_trapOf_82 (by unfold sTrap; rw [if_neg h8, if_neg (fun z => h21 z.2), if_neg (fun z => h39 z.2), if_neg (fun z => h54 z.2), if_neg (fun z => h76 z.2)])
                  · refine lv_iconst (v := 3) hx hb d_Mac_trapOf_79 (by decide) ?_
                    exact kp_i F hlocks hret hS d_Mac_trapOf_80 (by unfold sTrap; rw [if_neg h8, if_neg (fun z => h21 z.2), if_neg (fun z => h39 z.2), if_neg (fun z => h54 z.2), if_pos ⟨h62, h76⟩])
              · refine lv_iconst (v := 2) hx hb d_Mac_trapOf_57 (by decide) ?_
                exact kp_i F hlocks hret hS d_Mac_trapOf_58 (by unfold sTrap; rw [if_neg h8, if_neg (fun z => h21 z.2), if_neg (fun z => h39 z.2), if_pos ⟨h45, h54⟩])
      · refine lv_iconst (v := 1) hx hb d_Mac_trapOf_24 (by decide) ?_
        exact kp_i F hlocks hret hS d_Mac_trapOf_25 (by unfold sTrap; rw [if_neg h8, if_pos ⟨h14, h21⟩])

set_option maxRecDepth 100000 in
set_option maxHeartbeats 4000000 in
theorem c_Mac_act (l : Launch) (Dg : va_G) (a : Nat → Nat) (k : Nat → ClassId) (M : vSt) (c n : Int32) (H : Heap) (hP : va_P Dg classes (wM a k M) H) (hD : va_D (fun _ => True) (wM a k M)) (hc : okC c) (hm : mOk M) (ht : sTrap M c = 0) (hn : c = 76 ∨ c = 83 → vp_in n 8) : kMv l y_Mac_act b_Mac_act 4 2 45 [.ref (a 0), .int c, .int n] H (va_K Dg classes (kTy k)) Dg (wM a k M) (wM a k (sAct M c n)) := by
  refine k_of (by decide) (Nat.le_of_ble_eq_true rfl) ?_
  intro p e s m below meth cd ls F hlocks hret hname hh hX hl
  subst hh
  obtain ⟨hx, hb, hml, hown, hT⟩ := id F
  have hK : va_K Dg classes (kTy k) s := hX
  have hA : ∀ q : Nat, s.heap.size ≤ q → va_A (wM a k M) s.heap.size q := fun q h => Or.inr h
  have hD := hD.self (sz := s.heap.size)
  have hS : va_S (va_A (wM a k M) s.heap.size) s.heap s.heap [] := va_S.rf
  have hl : lv_has ls 4 [(0, .ref (a 0)), (1, .int c), (2, .int n)] := hl
  rcases hc with rfl | rfl | rfl | rfl | rfl | rfl | rfl | rfl | rfl | rfl | rfl | rfl | rfl | rfl | rfl | rfl | rfl | rfl
  · obtain ⟨h, r, o, e0, e1, e2, b0, b1, b2, c1, c2, c3, c4, c5⟩ := tr_all hm ht
    have h40 : h < 40 := by rcases Nat.lt_or_ge h 40 with q | q; exact q; exact absurd ⟨by decide, by omega⟩ c3
    refine lv_aload_n hx hb d_Mac_act_0 rfl (lv_at hl 0 rfl) ?_
    refine va_get (D := Dg) (ci := 1) (v := .int (M 4 3)) (C := R_Mac) (T := F_Mac) (N := 10) hx hb hT in_Mac hown hK hP 0 rfl rfl 7 (by decide) (hT _ tw1_78) (fun _ h9 => h9) rfl d_Mac_act_1 ?_
    refine lv_iconst (v := 1) hx hb d_Mac_act_4 (by decide) ?_
    refine lv_iadd hx hb d_Mac_act_5 ?_
    refine lv_istore_n hx hb d_Mac_act_6 rfl hl (by decide) rfl (fun ls hl => ?_)
    have hl : lv_has ls 4 [(3, .int ((M 4 3) + 1)), (0, .ref (a 0)), (1, .int 80), (2, .int n)] := hl
    refine lv_iload_n hx hb d_Mac_act_7 rfl (lv_at hl 2 rfl) ?_
    refine lv_tableIn (x := 80) (off := 112) (tgt := 120) hx hb d_Mac_act_8 (by decide) (by decide) rfl (by decide) ?_
    refine lv_aload_n hx hb d_Mac_act_120 rfl (lv_at hl 1 rfl) ?_
    refine lv_iload_n hx hb d_Mac_act_121 rfl (lv_at hl 3 rfl) ?_
    refine km_Vv (wr := []) F (c_Mac_push l Dg a k M n _ hP (hD.weaken (fun _ _ _ _ => trivial)) (in_0 e0 h40 (by decide))) kx_K hK kw_Mac_88 tw2_171 ts_10 (va_recv (ci := 1) (q0 := 0) hK hP rfl rfl) hP hD hS hA [0, 1, 2, 3, 4] [] rfl rfl (by decide) (by decide) d_Mac_act_122 ⟨⟨by decide, by decide⟩, Nat.le_refl _, Nat.le_refl _⟩ rfl hl.1 rfl (Nat.le_of_ble_eq_true rfl) (fun H locs hP hD hS => ?_)
    have hP : va_P Dg classes (wM a k (sPush M n)) H := hP
    have hD : va_D (va_A (wM a k M) s.heap.size) (wM a k (sPush M n)) := hD
    obtain ⟨Ms1, hMs1⟩ : ∃ z, z = (sPush M n) := ⟨_, rfl⟩
    rw [← hMs1] at hP hD
    refine lv_goto (tgt := 285) hx hb d_Mac_act_125 (by decide) ?_
    refine lv_aload_n hx hb d_Mac_act_285 rfl (lv_at hl 1 rfl) ?_
    refine lv_iload_n hx hb d_Mac_act_286 rfl (lv_at hl 0 rfl) ?_
    refine va_put (D := Dg) (ci := 1) (v := .int ((M 4 3) + 1)) (ty := .int) (C := R_Mac) (T := F_Mac) (N := 10) hx hb hT in_Mac t_Mac t_Mac_ok n_Mac hown hK hP hD hS 0 rfl rfl 7 (by decide) (hT _ tw1_78) (fun _ h9 => h9) rfl (by decide +kernel) rfl rfl (Nat.le_of_ble_eq_true rfl) d_Mac_act_287 (fun H locs hP hD hS => ?_)
    have hP : va_P Dg classes (wM a k (u2 Ms1 4 3 ((M 4 3) + 1))) H := hP
    have hD : va_D (va_A (wM a k M) s.heap.size) (wM a k (u2 Ms1 4 3 ((M 4 3) + 1))) := hD
    obtain ⟨Ms2, hMs2⟩ : ∃ z, z = (u2 Ms1 4 3 ((M 4 3) + 1)) := ⟨_, rfl⟩
    rw [← hMs2] at hP hD
    exact km_v F hlocks hret hP hD hS d_Mac_act_290 (by subst hMs2 hMs1; rfl)
  · obtain ⟨h, r, o, e0, e1, e2, b0, b1, b2, c1, c2, c3, c4, c5⟩ := tr_all hm ht
    have h40 : h < 40 := by rcases Nat.lt_or_ge h 40 with q | q; exact q; exact absurd ⟨by decide, by omega⟩ c3
    refine lv_aload_n hx hb d_Mac_act_0 rfl (lv_at hl 0 rfl) ?_
    refine va_get (D := Dg) (ci := 1) (v := .int (M 4 3)) (C := R_Mac) (T := F_Mac) (N := 10) hx hb hT in_Mac hown hK hP 0 rfl rfl 7 (by decide) (hT _ tw1_78) (fun _ h9 => h9) rfl d_Mac_act_1 ?_
    refine lv_iconst (v := 1) hx hb d_Mac_act_4 (by decide) ?_
    refine lv_iadd hx hb d_Mac_act_5 ?_
    refine lv_istore_n hx hb d_Mac_act_6 rfl hl (by decide) rfl (fun ls hl => ?_)
    have hl : lv_has ls 4 [(3, .int ((M 4 3) + 1)), (0, .ref (a 0)), (1, .int 76), (2, .int n)] := hl
    refine lv_iload_n hx hb d_Mac_act_7 rfl (lv_at hl 2 rfl) ?_
    refine lv_tableIn (x := 76) (off := 120) (tgt := 128) hx hb d_Mac_act_8 (by decide) (by decide) rfl (by decide) ?_
    refine lv_aload_n hx hb d_Mac_act_128 rfl (lv_at hl 1 rfl) ?_
    refine lv_aload_n hx hb d_Mac_act_129 rfl (lv_at hl 1 rfl) ?_
    refine va_get (D := Dg) (ci := 1) (v := .ref (a 2)) (C := R_Mac) (T := F_Mac) (N := 10) hx hb hT in_Mac hown hK hP 0 rfl rfl 1 (by decide) (hT _ tw1_69) (fun _ h9 => h9) rfl d_Mac_act_130 ?_
    refine lv_iload_n hx hb d_Mac_act_133 rfl (lv_at hl 3 rfl) ?_
    refine va_iald (f := (M 1)) hx hb hK hP 2 0 rfl rfl (hn (Or.inl rfl)) d_Mac_act_134 ?_
    refine km_Vv (wr := []) F (c_Mac_push l Dg a k M ((M 1) n.toNatClampNeg) _ hP (hD.weaken (fun _ _ _ _ => trivial)) (in_0 e0 h40 (by decide))) kx_K hK kw_Mac_88 tw2_171 ts_10 (va_recv (ci := 1) (q0 := 0) hK hP rfl rfl) hP hD hS hA [0, 1, 2, 3, 4] [] rfl rfl (by decide) (by decide) d_Mac_act_135 ⟨⟨by decide, by decide⟩, Nat.le_refl _, Nat.le_refl _⟩ rfl hl.1 rfl (Nat.le_of_ble_eq_true rfl) (fun H locs hP hD hS => ?_)
    have hP : va_P Dg classes (wM a k (sPush M ((M 1) n.toNatClampNeg))) H := hP
    have hD : va_D (va_A (wM a k M) s.heap.size) (wM a k (sPush M ((M 1) n.toNatClampNeg))) := hD
    obtain ⟨Ms3, hMs3⟩ : ∃ z, z = (sPush M ((M 1) n.toNatClampNeg)) := ⟨_, rfl⟩
    rw [← hMs3] at hP hD
    refine lv_goto (tgt := 285) hx hb d_Mac_act_138 (by decide) ?_
    refine lv_aload_n hx hb d_Mac_act_285 rfl (lv_at hl 1 rfl) ?_
    refine lv_iload_n hx hb d_Mac_act_286 rfl (lv_at hl 0 rfl) ?_
    refine va_put (D := Dg) (ci := 1) (v := .int ((M 4 3) + 1)) (ty := .int) (C := R_Mac) (T := F_Mac) (N := 10) hx hb hT in_Mac t_Mac t_Mac_ok n_Mac hown hK hP hD hS 0 rfl rfl 7 (by decide) (hT _ tw1_78) (fun _ h9 => h9) rfl (by decide +kernel) rfl rfl (Nat.le_of_ble_eq_true rfl) d_Mac_act_287 (fun H locs hP hD hS => ?_)
    have hP : va_P Dg classes (wM a k (u2 Ms3 4 3 ((M 4 3) + 1))) H := hP
    have hD : va_D (va_A (wM a k M) s.heap.size) (wM a k (u2 Ms3 4 3 ((M 4 3) + 1))) := hD
    obtain ⟨Ms4, hMs4⟩ : ∃ z, z = (u2 Ms3 4 3 ((M 4 3) + 1)) := ⟨_, rfl⟩
    rw [← hMs4] at hP hD
    exact km_v F hlocks hret hP hD hS d_Mac_act_290 (by subst hMs4 hMs3; rfl)
  · obtain ⟨h, r, o, e0, e1, e2, b0, b1, b2, c1, c2, c3, c4, c5⟩ := tr_all hm ht
    have hd := tr_n (d := 1) (by decide) c1
    refine lv_aload_n hx hb d_Mac_act_0 rfl (lv_at hl 0 rfl) ?_
    refine va_get (D := Dg) (ci := 1) (v := .int (M 4 3)) (C := R_Mac) (T := F_Mac) (N := 10) hx hb hT in_Mac hown hK hP 0 rfl rfl 7 (by decide) (hT _ tw1_78) (fun _ h9 => h9) rfl d_Mac_act_1 ?_
    refine lv_iconst (v := 1) hx hb d_Mac_act_4 (by decide) ?_
    refine lv_iadd hx hb d_Mac_act_5 ?_
    refine lv_istore_n hx hb d_Mac_act_6 rfl hl (by decide) rfl (fun ls hl => ?_)
    have hl : lv_has ls 4 [(3, .int ((M 4 3) + 1)), (0, .ref (a 0)), (1, .int 83), (2, .int n)] := hl
    refine lv_iload_n hx hb d_Mac_act_7 rfl (lv_at hl 2 rfl) ?_
    refine lv_tableIn (x := 83) (off := 133) (tgt := 141) hx hb d_Mac_act_8 (by decide) (by decide) rfl (by decide) ?_
    refine lv_aload_n hx hb d_Mac_act_141 rfl (lv_at hl 1 rfl) ?_
    refine va_get (D := Dg) (ci := 1) (v := .ref (a 2)) (C := R_Mac) (T := F_Mac) (N := 10) hx hb hT in_Mac hown hK hP 0 rfl rfl 1 (by decide) (hT _ tw1_69) (fun _ h9 => h9) rfl d_Mac_act_142 ?_
    refine lv_iload_n hx hb d_Mac_act_145 rfl (lv_at hl 3 rfl) ?_
    refine lv_aload_n hx hb d_Mac_act_146 rfl (lv_at hl 1 rfl) ?_
    refine km_Vi (wr := []) F (c_Mac_pop l Dg a k M  _ hP (hD.weaken (fun _ _ _ _ => trivial)) (in_1 e0 hd b0 (by decide))) kx_K hK kw_Mac_92 tw2_175 ts_11 (va_recv (ci := 1) (q0 := 0) hK hP rfl rfl) hP hD hS hA [0, 1, 2, 3, 4] [] rfl rfl (by decide) (by decide) d_Mac_act_147 ⟨⟨by decide, by decide⟩, Nat.le_refl _, Nat.le_refl _⟩ rfl hl.1 rfl (Nat.le_of_ble_eq_true rfl) (fun H locs hP hD hS => ?_)
    have hP : va_P Dg classes (wM a k (sPop M)) H := hP
    have hD : va_D (va_A (wM a k M) s.heap.size) (wM a k (sPop M)) := hD
    obtain ⟨Ms5, hMs5⟩ : ∃ z, z = (sPop M) := ⟨_, rfl⟩
    rw [← hMs5] at hP hD
    refine va_iast hx hb hK hP hD hS 2 0 rfl rfl (hn (Or.inr rfl)) d_Mac_act_150 (fun H locs hP hD hS => ?_)
    have hP : va_P Dg classes (wM a k (u2 Ms5 1 n.toNatClampNeg (sTop M))) H := hP
    have hD : va_D (va_A (wM a k M) s.heap.size) (wM a k (u2 Ms5 1 n.toNatClampNeg (sTop M))) := hD
    obtain ⟨Ms6, hMs6⟩ : ∃ z, z = (u2 Ms5 1 n.toNatClampNeg (sTop M)) := ⟨_, rfl⟩
    rw [← hMs6] at hP hD
    refine lv_goto (tgt := 285) hx hb d_Mac_act_151 (by decide) ?_
    refine lv_aload_n hx hb d_Mac_act_285 rfl (lv_at hl 1 rfl) ?_
    refine lv_iload_n hx hb d_Mac_act_286 rfl (lv_at hl 0 rfl) ?_
    refine va_put (D := Dg) (ci := 1) (v := .int ((M 4 3) + 1)) (ty := .int) (C := R_Mac) (T := F_Mac) (N := 10) hx hb hT in_Mac t_Mac t_Mac_ok n_Mac hown hK hP hD hS 0 rfl rfl 7 (by decide) (hT _ tw1_78) (fun _ h9 => h9) rfl (by decide +kernel) rfl rfl (Nat.le_of_ble_eq_true rfl) d_Mac_act_287 (fun H locs hP hD hS => ?_)
    have hP : va_P Dg classes (wM a k (u2 Ms6 4 3 ((M 4 3) + 1))) H := hP
    have hD : va_D (va_A (wM a k M) s.heap.size) (wM a k (u2 Ms6 4 3 ((M 4 3) + 1))) := hD
    obtain ⟨Ms7, hMs7⟩ : ∃ z, z = (u2 Ms6 4 3 ((M 4 3) + 1)) := ⟨_, rfl⟩
    rw [← hMs7] at hP hD
    exact km_v F hlocks hret hP hD hS d_Mac_act_290 (by subst hMs7 hMs6 hMs5; rfl)
  · obtain ⟨h, r, o, e0, e1, e2, b0, b1, b2, c1, c2, c3, c4, c5⟩ := tr_all hm ht
    have hd := tr_n (d := 2) (by decide) c1
    have c5q : (43 : Int32) = 47 → ¬ sTop M = 0 := fun z w => c5 ⟨z, w⟩
    refine lv_aload_n hx hb d_Mac_act_0 rfl (lv_at hl 0 rfl) ?_
    refine va_get (D := Dg) (ci := 1) (v := .int (M 4 3)) (C := R_Mac) (T := F_Mac) (N := 10) hx hb hT in_Mac hown hK hP 0 rfl rfl 7 (by decide) (hT _ tw1_78) (fun _ h9 => h9) rfl d_Mac_act_1 ?_
    refine lv_iconst (v := 1) hx hb d_Mac_act_4 (by decide) ?_
    refine lv_iadd hx hb d_Mac_act_5 ?_
    refine lv_istore_n hx hb d_Mac_act_6 rfl hl (by decide) rfl (fun ls hl => ?_)
    have hl : lv_has ls 4 [(3, .int ((M 4 3) + 1)), (0, .ref (a 0)), (1, .int 43), (2, .int n)] := hl
    refine lv_iload_n hx hb d_Mac_act_7 rfl (lv_at hl 2 rfl) ?_
    refine lv_tableOut (x := 43) (tgt := 280) hx hb d_Mac_act_8 (by decide) (by decide) ?_
    refine lv_aload_n hx hb d_Mac_act_280 rfl (lv_at hl 1 rfl) ?_
    refine lv_iload_n hx hb d_Mac_act_281 rfl (lv_at hl 2 rfl) ?_
    refine km_Vv (wr := []) F (c_Mac_combine l Dg a k M 43 _ hP (hD.weaken (fun _ _ _ _ => trivial)) (by decide) (in_1 e0 (by omega) b0 (by decide)) (in_11 e0 hd b0 (by decide)) (fun z => c5q z)) kx_K hK kw_Mac_102 tw2_187 ts_14 (va_recv (ci := 1) (q0 := 0) hK hP rfl rfl) hP hD hS hA [0, 1, 2, 3, 4] [] rfl rfl (by decide) (by decide) d_Mac_act_282 ⟨⟨by decide, by decide⟩, Nat.le_refl _, Nat.le_refl _⟩ rfl hl.1 rfl (Nat.le_of_ble_eq_true rfl) (fun H locs hP hD hS => ?_)
    have hP : va_P Dg classes (wM a k (sComb M 43)) H := hP
    have hD : va_D (va_A (wM a k M) s.heap.size) (wM a k (sComb M 43)) := hD
    obtain ⟨Ms8, hMs8⟩ : ∃ z, z = (sComb M 43) := ⟨_, rfl⟩
    rw [← hMs8] at hP hD
    refine lv_aload_n hx hb d_Mac_act_285 rfl (lv_at hl 1 rfl) ?_
    refine lv_iload_n hx hb d_Mac_act_286 rfl (lv_at hl 0 rfl) ?_
    refine va_put (D := Dg) (ci := 1) (v := .int ((M 4 3) + 1)) (ty := .int) (C := R_Mac) (T := F_Mac) (N := 10) hx hb hT in_Mac t_Mac t_Mac_ok n_Mac hown hK hP hD hS 0 rfl rfl 7 (by decide) (hT _ tw1_78) (fun _ h9 => h9) rfl (by decide +kernel) rfl rfl (Nat.le_of_ble_eq_true rfl) d_Mac_act_287 (fun H locs hP hD hS => ?_)
    have hP : va_P Dg classes (wM a k (u2 Ms8 4 3 ((M 4 3) + 1))) H := hP
    have hD : va_D (va_A (wM a k M) s.heap.size) (wM a k (u2 Ms8 4 3 ((M 4 3) + 1))) := hD
    obtain ⟨Ms9, hMs9⟩ : ∃ z, z = (u2 Ms8 4 3 ((M 4 3) + 1)) := ⟨_, rfl⟩
    rw [← hMs9] at hP hD
    exact km_v F hlocks hret hP hD hS d_Mac_act_290 (by subst hMs9 hMs8; rfl)
  · obtain ⟨h, r, o, e0, e1, e2, b0, b1, b2, c1, c2, c3, c4, c5⟩ := tr_all hm ht
    have hd := tr_n (d := 2) (by decide) c1
    have c5q : (45 : Int32) = 47 → ¬ sTop M = 0 := fun z w => c5 ⟨z, w⟩
    refine lv_aload_n hx hb d_Mac_act_0 rfl (lv_at hl 0 rfl) ?_
    refine va_get (D := Dg) (ci := 1) (v := .int (M 4 3)) (C := R_Mac) (T := F_Mac) (N := 10) hx hb hT in_Mac hown hK hP 0 rfl rfl 7 (by decide) (hT _ tw1_78) (fun _ h9 => h9) rfl d_Mac_act_1 ?_
    refine lv_iconst (v := 1) hx hb d_Mac_act_4 (by decide) ?_
    refine lv_iadd hx hb d_Mac_act_5 ?_
    refine lv_istore_n hx hb d_Mac_act_6 rfl hl (by decide) rfl (fun ls hl => ?_)
    have hl : lv_has ls 4 [(3, .int ((M 4 3) + 1)), (0, .ref (a 0)), (1, .int 45), (2, .int n)] := hl
    refine lv_iload_n hx hb d_Mac_act_7 rfl (lv_at hl 2 rfl) ?_
    refine lv_tableOut (x := 45) (tgt := 280) hx hb d_Mac_act_8 (by decide) (by decide) ?_
    refine lv_aload_n hx hb d_Mac_act_280 rfl (lv_at hl 1 rfl) ?_
    refine lv_iload_n hx hb d_Mac_act_281 rfl (lv_at hl 2 rfl) ?_
    refine km_Vv (wr := []) F (c_Mac_combine l Dg a k M 45 _ hP (hD.weaken (fun _ _ _ _ => trivial)) (by decide) (in_1 e0 (by omega) b0 (by decide)) (in_11 e0 hd b0 (by decide)) (fun z => c5q z)) kx_K hK kw_Mac_102 tw2_187 ts_14 (va_recv (ci := 1) (q0 := 0) hK hP rfl rfl) hP hD hS hA [0, 1, 2, 3, 4] [] rfl rfl (by decide) (by decide) d_Mac_act_282 ⟨⟨by decide, by decide⟩, Nat.le_refl _, Nat.le_refl _⟩ rfl hl.1 rfl (Nat.le_of_ble_eq_true rfl) (fun H locs hP hD hS => ?_)
    have hP : va_P Dg classes (wM a k (sComb M 45)) H := hP
    have hD : va_D (va_A (wM a k M) s.heap.size) (wM a k (sComb M 45)) := hD
    obtain ⟨Ms10, hMs10⟩ : ∃ z, z = (sComb M 45) := ⟨_, rfl⟩
    rw [← hMs10] at hP hD
    refine lv_aload_n hx hb d_Mac_act_285 rfl (lv_at hl 1 rfl) ?_
    refine lv_iload_n hx hb d_Mac_act_286 rfl (lv_at hl 0 rfl) ?_
    refine va_put (D := Dg) (ci := 1) (v := .int ((M 4 3) + 1)) (ty := .int) (C := R_Mac) (T := F_Mac) (N := 10) hx hb hT in_Mac t_Mac t_Mac_ok n_Mac hown hK hP hD hS 0 rfl rfl 7 (by decide) (hT _ tw1_78) (fun _ h9 => h9) rfl (by decide +kernel) rfl rfl (Nat.le_of_ble_eq_true rfl) d_Mac_act_287 (fun H locs hP hD hS => ?_)
    have hP : va_P Dg classes (wM a k (u2 Ms10 4 3 ((M 4 3) + 1))) H := hP
    have hD : va_D (va_A (wM a k M) s.heap.size) (wM a k (u2 Ms10 4 3 ((M 4 3) + 1))) := hD
    obtain ⟨Ms11, hMs11⟩ : ∃ z, z = (u2 Ms10 4 3 ((M 4 3) + 1)) := ⟨_, rfl⟩
    rw [← hMs11] at hP hD
    exact km_v F hlocks hret hP hD hS d_Mac_act_290 (by subst hMs11 hMs10; rfl)
  · obtain ⟨h, r, o, e0, e1, e2, b0, b1, b2, c1, c2, c3, c4, c5⟩ := tr_all hm ht
    have hd := tr_n (d := 2) (by decide) c1
    have c5q : (42 : Int32) = 47 → ¬ sTop M = 0 := fun z w => c5 ⟨z, w⟩
    refine lv_aload_n hx hb d_Mac_act_0 rfl (lv_at hl 0 rfl) ?_
    refine va_get (D := Dg) (ci := 1) (v := .int (M 4 3)) (C := R_Mac) (T := F_Mac) (N := 10) hx hb hT in_Mac hown hK hP 0 rfl rfl 7 (by decide) (hT _ tw1_78) (fun _ h9 => h9) rfl d_Mac_act_1 ?_
    refine lv_iconst (v := 1) hx hb d_Mac_act_4 (by decide) ?_
    refine lv_iadd hx hb d_Mac_act_5 ?_
    refine lv_istore_n hx hb d_Mac_act_6 rfl hl (by decide) rfl (fun ls hl => ?_)
    have hl : lv_has ls 4 [(3, .int ((M 4 3) + 1)), (0, .ref (a 0)), (1, .int 42), (2, .int n)] := hl
    refine lv_iload_n hx hb d_Mac_act_7 rfl (lv_at hl 2 rfl) ?_
    refine lv_tableOut (x := 42) (tgt := 280) hx hb d_Mac_act_8 (by decide) (by decide) ?_
    refine lv_aload_n hx hb d_Mac_act_280 rfl (lv_at hl 1 rfl) ?_
    refine lv_iload_n hx hb d_Mac_act_281 rfl (lv_at hl 2 rfl) ?_
    refine km_Vv (wr := []) F (c_Mac_combine l Dg a k M 42 _ hP (hD.weaken (fun _ _ _ _ => trivial)) (by decide) (in_1 e0 (by omega) b0 (by decide)) (in_11 e0 hd b0 (by decide)) (fun z => c5q z)) kx_K hK kw_Mac_102 tw2_187 ts_14 (va_recv (ci := 1) (q0 := 0) hK hP rfl rfl) hP hD hS hA [0, 1, 2, 3, 4] [] rfl rfl (by decide) (by decide) d_Mac_act_282 ⟨⟨by decide, by decide⟩, Nat.le_refl _, Nat.le_refl _⟩ rfl hl.1 rfl (Nat.le_of_ble_eq_true rfl) (fun H locs hP hD hS => ?_)
    have hP : va_P Dg classes (wM a k (sComb M 42)) H := hP
    have hD : va_D (va_A (wM a k M) s.heap.size) (wM a k (sComb M 42)) := hD
    obtain ⟨Ms12, hMs12⟩ : ∃ z, z = (sComb M 42) := ⟨_, rfl⟩
    rw [← hMs12] at hP hD
    refine lv_aload_n hx hb d_Mac_act_285 rfl (lv_at hl 1 rfl) ?_
    refine lv_iload_n hx hb d_Mac_act_286 rfl (lv_at hl 0 rfl) ?_
    refine va_put (D := Dg) (ci := 1) (v := .int ((M 4 3) + 1)) (ty := .int) (C := R_Mac) (T := F_Mac) (N := 10) hx hb hT in_Mac t_Mac t_Mac_ok n_Mac hown hK hP hD hS 0 rfl rfl 7 (by decide) (hT _ tw1_78) (fun _ h9 => h9) rfl (by decide +kernel) rfl rfl (Nat.le_of_ble_eq_true rfl) d_Mac_act_287 (fun H locs hP hD hS => ?_)
    have hP : va_P Dg classes (wM a k (u2 Ms12 4 3 ((M 4 3) + 1))) H := hP
    have hD : va_D (va_A (wM a k M) s.heap.size) (wM a k (u2 Ms12 4 3 ((M 4 3) + 1))) := hD
    obtain ⟨Ms13, hMs13⟩ : ∃ z, z = (u2 Ms12 4 3 ((M 4 3) + 1)) := ⟨_, rfl⟩
    rw [← hMs13] at hP hD
    exact km_v F hlocks hret hP hD hS d_Mac_act_290 (by subst hMs13 hMs12; rfl)
  · obtain ⟨h, r, o, e0, e1, e2, b0, b1, b2, c1, c2, c3, c4, c5⟩ := tr_all hm ht
    have hd := tr_n (d := 2) (by decide) c1
    have c5q : (47 : Int32) = 47 → ¬ sTop M = 0 := fun z w => c5 ⟨z, w⟩
    refine lv_aload_n hx hb d_Mac_act_0 rfl (lv_at hl 0 rfl) ?_
    refine va_get (D := Dg) (ci := 1) (v := .int (M 4 3)) (C := R_Mac) (T := F_Mac) (N := 10) hx hb hT in_Mac hown hK hP 0 rfl rfl 7 (by decide) (hT _ tw1_78) (fun _ h9 => h9) rfl d_Mac_act_1 ?_
    refine lv_iconst (v := 1) hx hb d_Mac_act_4 (by decide) ?_
    refine lv_iadd hx hb d_Mac_act_5 ?_
    refine lv_istore_n hx hb d_Mac_act_6 rfl hl (by decide) rfl (fun ls hl => ?_)
    have hl : lv_has ls 4 [(3, .int ((M 4 3) + 1)), (0, .ref (a 0)), (1, .int 47), (2, .int n)] := hl
    refine lv_iload_n hx hb d_Mac_act_7 rfl (lv_at hl 2 rfl) ?_
    refine lv_tableOut (x := 47) (tgt := 280) hx hb d_Mac_act_8 (by decide) (by decide) ?_
    refine lv_aload_n hx hb d_Mac_act_280 rfl (lv_at hl 1 rfl) ?_
    refine lv_iload_n hx hb d_Mac_act_281 rfl (lv_at hl 2 rfl) ?_
    refine km_Vv (wr := []) F (c_Mac_combine l Dg a k M 47 _ hP (hD.weaken (fun _ _ _ _ => trivial)) (by decide) (in_1 e0 (by omega) b0 (by decide)) (in_11 e0 hd b0 (by decide)) (fun z => c5q z)) kx_K hK kw_Mac_102 tw2_187 ts_14 (va_recv (ci := 1) (q0 := 0) hK hP rfl rfl) hP hD hS hA [0, 1, 2, 3, 4] [] rfl rfl (by decide) (by decide) d_Mac_act_282 ⟨⟨by decide, by decide⟩, Nat.le_refl _, Nat.le_refl _⟩ rfl hl.1 rfl (Nat.le_of_ble_eq_true rfl) (fun H locs hP hD hS => ?_)
    have hP : va_P Dg classes (wM a k (sComb M 47)) H := hP
    have hD : va_D (va_A (wM a k M) s.heap.size) (wM a k (sComb M 47)) := hD
    obtain ⟨Ms14, hMs14⟩ : ∃ z, z = (sComb M 47) := ⟨_, rfl⟩
    rw [← hMs14] at hP hD
    refine lv_aload_n hx hb d_Mac_act_285 rfl (lv_at hl 1 rfl) ?_
    refine lv_iload_n hx hb d_Mac_act_286 rfl (lv_at hl 0 rfl) ?_
    refine va_put (D := Dg) (ci := 1) (v := .int ((M 4 3) + 1)) (ty := .int) (C := R_Mac) (T := F_Mac) (N := 10) hx hb hT in_Mac t_Mac t_Mac_ok n_Mac hown hK hP hD hS 0 rfl rfl 7 (by decide) (hT _ tw1_78) (fun _ h9 => h9) rfl (by decide +kernel) rfl rfl (Nat.le_of_ble_eq_true rfl) d_Mac_act_287 (fun H locs hP hD hS => ?_)
    have hP : va_P Dg classes (wM a k (u2 Ms14 4 3 ((M 4 3) + 1))) H := hP
    have hD : va_D (va_A (wM a k M) s.heap.size) (wM a k (u2 Ms14 4 3 ((M 4 3) + 1))) := hD
    obtain ⟨Ms15, hMs15⟩ : ∃ z, z = (u2 Ms14 4 3 ((M 4 3) + 1)) := ⟨_, rfl⟩
    rw [← hMs15] at hP hD
    exact km_v F hlocks hret hP hD hS d_Mac_act_290 (by subst hMs15 hMs14; rfl)
  · obtain ⟨h, r, o, e0, e1, e2, b0, b1, b2, c1, c2, c3, c4, c5⟩ := tr_all hm ht
    have hd := tr_n (d := 2) (by decide) c1
    have c5q : (60 : Int32) = 47 → ¬ sTop M = 0 := fun z w => c5 ⟨z, w⟩
    refine lv_aload_n hx hb d_Mac_act_0 rfl (lv_at hl 0 rfl) ?_
    refine va_get (D := Dg) (ci := 1) (v := .int (M 4 3)) (C := R_Mac) (T := F_Mac) (N := 10) hx hb hT in_Mac hown hK hP 0 rfl rfl 7 (by decide) (hT _ tw1_78) (fun _ h9 => h9) rfl d_Mac_act_1 ?_
    refine lv_iconst (v := 1) hx hb d_Mac_act_4 (by decide) ?_
    refine lv_iadd hx hb d_Mac_act_5 ?_
    refine lv_istore_n hx hb d_Mac_act_6 rfl hl (by decide) rfl (fun ls hl => ?_)
    have hl : lv_has ls 4 [(3, .int ((M 4 3) + 1)), (0, .ref (a 0)), (1, .int 60), (2, .int n)] := hl
    refine lv_iload_n hx hb d_Mac_act_7 rfl (lv_at hl 2 rfl) ?_
    refine lv_tableOut (x := 60) (tgt := 280) hx hb d_Mac_act_8 (by decide) (by decide) ?_
    refine lv_aload_n hx hb d_Mac_act_280 rfl (lv_at hl 1 rfl) ?_
    refine lv_iload_n hx hb d_Mac_act_281 rfl (lv_at hl 2 rfl) ?_
    refine km_Vv (wr := []) F (c_Mac_combine l Dg a k M 60 _ hP (hD.weaken (fun _ _ _ _ => trivial)) (by decide) (in_1 e0 (by omega) b0 (by decide)) (in_11 e0 hd b0 (by decide)) (fun z => c5q z)) kx_K hK kw_Mac_102 tw2_187 ts_14 (va_recv (ci := 1) (q0 := 0) hK hP rfl rfl) hP hD hS hA [0, 1, 2, 3, 4] [] rfl rfl (by decide) (by decide) d_Mac_act_282 ⟨⟨by decide, by decide⟩, Nat.le_refl _, Nat.le_refl _⟩ rfl hl.1 rfl (Nat.le_of_ble_eq_true rfl) (fun H locs hP hD hS => ?_)
    have hP : va_P Dg classes (wM a k (sComb M 60)) H := hP
    have hD : va_D (va_A (wM a k M) s.heap.size) (wM a k (sComb M 60)) := hD
    obtain ⟨Ms16, hMs16⟩ : ∃ z, z = (sComb M 60) := ⟨_, rfl⟩
    rw [← hMs16] at hP hD
    refine lv_aload_n hx hb d_Mac_act_285 rfl (lv_at hl 1 rfl) ?_
    refine lv_iload_n hx hb d_Mac_act_286 rfl (lv_at hl 0 rfl) ?_
    refine va_put (D := Dg) (ci := 1) (v := .int ((M 4 3) + 1)) (ty := .int) (C := R_Mac) (T := F_Mac) (N := 10) hx hb hT in_Mac t_Mac t_Mac_ok n_Mac hown hK hP hD hS 0 rfl rfl 7 (by decide) (hT _ tw1_78) (fun _ h9 => h9) rfl (by decide +kernel) rfl rfl (Nat.le_of_ble_eq_true rfl) d_Mac_act_287 (fun H locs hP hD hS => ?_)
    have hP : va_P Dg classes (wM a k (u2 Ms16 4 3 ((M 4 3) + 1))) H := hP
    have hD : va_D (va_A (wM a k M) s.heap.size) (wM a k (u2 Ms16 4 3 ((M 4 3) + 1))) := hD
    obtain ⟨Ms17, hMs17⟩ : ∃ z, z = (u2 Ms16 4 3 ((M 4 3) + 1)) := ⟨_, rfl⟩
    rw [← hMs17] at hP hD
    exact km_v F hlocks hret hP hD hS d_Mac_act_290 (by subst hMs17 hMs16; rfl)
  · obtain ⟨h, r, o, e0, e1, e2, b0, b1, b2, c1, c2, c3, c4, c5⟩ := tr_all hm ht
    have hd := tr_n (d := 2) (by decide) c1
    have c5q : (61 : Int32) = 47 → ¬ sTop M = 0 := fun z w => c5 ⟨z, w⟩
    refine lv_aload_n hx hb d_Mac_act_0 rfl (lv_at hl 0 rfl) ?_
    refine va_get (D := Dg) (ci := 1) (v := .int (M 4 3)) (C := R_Mac) (T := F_Mac) (N := 10) hx hb hT in_Mac hown hK hP 0 rfl rfl 7 (by decide) (hT _ tw1_78) (fun _ h9 => h9) rfl d_Mac_act_1 ?_
    refine lv_iconst (v := 1) hx hb d_Mac_act_4 (by decide) ?_
    refine lv_iadd hx hb d_Mac_act_5 ?_
    refine lv_istore_n hx hb d_Mac_act_6 rfl hl (by decide) rfl (fun ls hl => ?_)
    have hl : lv_has ls 4 [(3, .int ((M 4 3) + 1)), (0, .ref (a 0)), (1, .int 61), (2, .int n)] := hl
    refine lv_iload_n hx hb d_Mac_act_7 rfl (lv_at hl 2 rfl) ?_
    refine lv_tableOut (x := 61) (tgt := 280) hx hb d_Mac_act_8 (by decide) (by decide) ?_
    refine lv_aload_n hx hb d_Mac_act_280 rfl (lv_at hl 1 rfl) ?_
    refine lv_iload_n hx hb d_Mac_act_281 rfl (lv_at hl 2 rfl) ?_
    refine km_Vv (wr := []) F (c_Mac_combine l Dg a k M 61 _ hP (hD.weaken (fun _ _ _ _ => trivial)) (by decide) (in_1 e0 (by omega) b0 (by decide)) (in_11 e0 hd b0 (by decide)) (fun z => c5q z)) kx_K hK kw_Mac_102 tw2_187 ts_14 (va_recv (ci := 1) (q0 := 0) hK hP rfl rfl) hP hD hS hA [0, 1, 2, 3, 4] [] rfl rfl (by decide) (by decide) d_Mac_act_282 ⟨⟨by decide, by decide⟩, Nat.le_refl _, Nat.le_refl _⟩ rfl hl.1 rfl (Nat.le_of_ble_eq_true rfl) (fun H locs hP hD hS => ?_)
    have hP : va_P Dg classes (wM a k (sComb M 61)) H := hP
    have hD : va_D (va_A (wM a k M) s.heap.size) (wM a k (sComb M 61)) := hD
    obtain ⟨Ms18, hMs18⟩ : ∃ z, z = (sComb M 61) := ⟨_, rfl⟩
    rw [← hMs18] at hP hD
    refine lv_aload_n hx hb d_Mac_act_285 rfl (lv_at hl 1 rfl) ?_
    refine lv_iload_n hx hb d_Mac_act_286 rfl (lv_at hl 0 rfl) ?_
    refine va_put (D := Dg) (ci := 1) (v := .int ((M 4 3) + 1)) (ty := .int) (C := R_Mac) (T := F_Mac) (N := 10) hx hb hT in_Mac t_Mac t_Mac_ok n_Mac hown hK hP hD hS 0 rfl rfl 7 (by decide) (hT _ tw1_78) (fun _ h9 => h9) rfl (by decide +kernel) rfl rfl (Nat.le_of_ble_eq_true rfl) d_Mac_act_287 (fun H locs hP hD hS => ?_)
    have hP : va_P Dg classes (wM a k (u2 Ms18 4 3 ((M 4 3) + 1))) H := hP
    have hD : va_D (va_A (wM a k M) s.heap.size) (wM a k (u2 Ms18 4 3 ((M 4 3) + 1))) := hD
    obtain ⟨Ms19, hMs19⟩ : ∃ z, z = (u2 Ms18 4 3 ((M 4 3) + 1)) := ⟨_, rfl⟩
    rw [← hMs19] at hP hD
    exact km_v F hlocks hret hP hD hS d_Mac_act_290 (by subst hMs19 hMs18; rfl)
  · obtain ⟨h, r, o, e0, e1, e2, b0, b1, b2, c1, c2, c3, c4, c5⟩ := tr_all hm ht
    have hd := tr_n (d := 1) (by decide) c1
    have h40 : h < 40 := by rcases Nat.lt_or_ge h 40 with q | q; exact q; exact absurd ⟨by decide, by omega⟩ c3
    refine lv_aload_n hx hb d_Mac_act_0 rfl (lv_at hl 0 rfl) ?_
    refine va_get (D := Dg) (ci := 1) (v := .int (M 4 3)) (C := R_Mac) (T := F_Mac) (N := 10) hx hb hT in_Mac hown hK hP 0 rfl rfl 7 (by decide) (hT _ tw1_78) (fun _ h9 => h9) rfl d_Mac_act_1 ?_
    refine lv_iconst (v := 1) hx hb d_Mac_act_4 (by decide) ?_
    refine lv_iadd hx hb d_Mac_act_5 ?_
    refine lv_istore_n hx hb d_Mac_act_6 rfl hl (by decide) rfl (fun ls hl => ?_)
    have hl : lv_has ls 4 [(3, .int ((M 4 3) + 1)), (0, .ref (a 0)), (1, .int 68), (2, .int n)] := hl
    refine lv_iload_n hx hb d_Mac_act_7 rfl (lv_at hl 2 rfl) ?_
    refine lv_tableIn (x := 68) (off := 146) (tgt := 154) hx hb d_Mac_act_8 (by decide) (by decide) rfl (by decide) ?_
    refine lv_aload_n hx hb d_Mac_act_154 rfl (lv_at hl 1 rfl) ?_
    refine lv_aload_n hx hb d_Mac_act_155 rfl (lv_at hl 1 rfl) ?_
    refine va_get (D := Dg) (ci := 1) (v := .ref (a 1)) (C := R_Mac) (T := F_Mac) (N := 10) hx hb hT in_Mac hown hK hP 0 rfl rfl 0 (by decide) (hT _ tw1_67) (fun _ h9 => h9) rfl d_Mac_act_156 ?_
    refine lv_aload_n hx hb d_Mac_act_159 rfl (lv_at hl 1 rfl) ?_
    refine va_get (D := Dg) (ci := 1) (v := .int (M 4 0)) (C := R_Mac) (T := F_Mac) (N := 10) hx hb hT in_Mac hown hK hP 0 rfl rfl 4 (by decide) (hT _ tw1_74) (fun _ h9 => h9) rfl d_Mac_act_160 ?_
    refine lv_iconst (v := 1) hx hb d_Mac_act_163 (by decide) ?_
    refine lv_isub hx hb d_Mac_act_164 ?_
    refine va_iald (f := (M 0)) hx hb hK hP 1 0 rfl rfl (in_1 e0 hd b0 (by decide)) d_Mac_act_165 ?_
    refine km_Vv (wr := []) F (c_Mac_push l Dg a k M ((M 0) ((M 4 0) - 1).toNatClampNeg) _ hP (hD.weaken (fun _ _ _ _ => trivial)) (in_0 e0 h40 (by decide))) kx_K hK kw_Mac_88 tw2_171 ts_10 (va_recv (ci := 1) (q0 := 0) hK hP rfl rfl) hP hD hS hA [0, 1, 2, 3, 4] [] rfl rfl (by decide) (by decide) d_Mac_act_166 ⟨⟨by decide, by decide⟩, Nat.le_refl _, Nat.le_refl _⟩ rfl hl.1 rfl (Nat.le_of_ble_eq_true rfl) (fun H locs hP hD hS => ?_)
    have hP : va_P Dg classes (wM a k (sPush M ((M 0) ((M 4 0) - 1).toNatClampNeg))) H := hP
    have hD : va_D (va_A (wM a k M) s.heap.size) (wM a k (sPush M ((M 0) ((M 4 0) - 1).toNatClampNeg))) := hD
    obtain ⟨Ms20, hMs20⟩ : ∃ z, z = (sPush M ((M 0) ((M 4 0) - 1).toNatClampNeg)) := ⟨_, rfl⟩
    rw [← hMs20] at hP hD
    refine lv_goto (tgt := 285) hx hb d_Mac_act_169 (by decide) ?_
    refine lv_aload_n hx hb d_Mac_act_285 rfl (lv_at hl 1 rfl) ?_
    refine lv_iload_n hx hb d_Mac_act_286 rfl (lv_at hl 0 rfl) ?_
    refine va_put (D := Dg) (ci := 1) (v := .int ((M 4 3) + 1)) (ty := .int) (C := R_Mac) (T := F_Mac) (N := 10) hx hb hT in_Mac t_Mac t_Mac_ok n_Mac hown hK hP hD hS 0 rfl rfl 7 (by decide) (hT _ tw1_78) (fun _ h9 => h9) rfl (by decide +kernel) rfl rfl (Nat.le_of_ble_eq_true rfl) d_Mac_act_287 (fun H locs hP hD hS => ?_)
    have hP : va_P Dg classes (wM a k (u2 Ms20 4 3 ((M 4 3) + 1))) H := hP
    have hD : va_D (va_A (wM a k M) s.heap.size) (wM a k (u2 Ms20 4 3 ((M 4 3) + 1))) := hD
    obtain ⟨Ms21, hMs21⟩ : ∃ z, z = (u2 Ms20 4 3 ((M 4 3) + 1)) := ⟨_, rfl⟩
    rw [← hMs21] at hP hD
    exact km_v F hlocks hret hP hD hS d_Mac_act_290 (by subst hMs21 hMs20; rfl)
  · obtain ⟨h, r, o, e0, e1, e2, b0, b1, b2, c1, c2, c3, c4, c5⟩ := tr_all hm ht
    have hd := tr_n (d := 2) (by decide) c1
    refine lv_aload_n hx hb d_Mac_act_0 rfl (lv_at hl 0 rfl) ?_
    refine va_get (D := Dg) (ci := 1) (v := .int (M 4 3)) (C := R_Mac) (T := F_Mac) (N := 10) hx hb hT in_Mac hown hK hP 0 rfl rfl 7 (by decide) (hT _ tw1_78) (fun _ h9 => h9) rfl d_Mac_act_1 ?_
    refine lv_iconst (v := 1) hx hb d_Mac_act_4 (by decide) ?_
    refine lv_iadd hx hb d_Mac_act_5 ?_
    refine lv_istore_n hx hb d_Mac_act_6 rfl hl (by decide) rfl (fun ls hl => ?_)
    have hl : lv_has ls 4 [(3, .int ((M 4 3) + 1)), (0, .ref (a 0)), (1, .int 88), (2, .int n)] := hl
    refine lv_iload_n hx hb d_Mac_act_7 rfl (lv_at hl 2 rfl) ?_
    refine lv_tableIn (x := 88) (off := 164) (tgt := 172) hx hb d_Mac_act_8 (by decide) (by decide) rfl (by decide) ?_
    refine lv_aload_n hx hb d_Mac_act_172 rfl (lv_at hl 1 rfl) ?_
    refine km_Vv (wr := []) F (c_Mac_exchange l Dg a k M  _ hP (hD.weaken (fun _ _ _ _ => trivial)) (in_1 e0 (by omega) b0 (by decide)) (in_2 e0 hd b0 (by decide))) kx_K hK kw_Mac_96 tw2_179 ts_12 (va_recv (ci := 1) (q0 := 0) hK hP rfl rfl) hP hD hS hA [0, 1, 2, 3, 4] [] rfl rfl (by decide) (by decide) d_Mac_act_173 ⟨⟨by decide, by decide⟩, Nat.le_refl _, Nat.le_refl _⟩ rfl hl.1 rfl (Nat.le_of_ble_eq_true rfl) (fun H locs hP hD hS => ?_)
    have hP : va_P Dg classes (wM a k (sExch M)) H := hP
    have hD : va_D (va_A (wM a k M) s.heap.size) (wM a k (sExch M)) := hD
    obtain ⟨Ms22, hMs22⟩ : ∃ z, z = (sExch M) := ⟨_, rfl⟩
    rw [← hMs22] at hP hD
    refine lv_goto (tgt := 285) hx hb d_Mac_act_176 (by decide) ?_
    refine lv_aload_n hx hb d_Mac_act_285 rfl (lv_at hl 1 rfl) ?_
    refine lv_iload_n hx hb d_Mac_act_286 rfl (lv_at hl 0 rfl) ?_
    refine va_put (D := Dg) (ci := 1) (v := .int ((M 4 3) + 1)) (ty := .int) (C := R_Mac) (T := F_Mac) (N := 10) hx hb hT in_Mac t_Mac t_Mac_ok n_Mac hown hK hP hD hS 0 rfl rfl 7 (by decide) (hT _ tw1_78) (fun _ h9 => h9) rfl (by decide +kernel) rfl rfl (Nat.le_of_ble_eq_true rfl) d_Mac_act_287 (fun H locs hP hD hS => ?_)
    have hP : va_P Dg classes (wM a k (u2 Ms22 4 3 ((M 4 3) + 1))) H := hP
    have hD : va_D (va_A (wM a k M) s.heap.size) (wM a k (u2 Ms22 4 3 ((M 4 3) + 1))) := hD
    obtain ⟨Ms23, hMs23⟩ : ∃ z, z = (u2 Ms22 4 3 ((M 4 3) + 1)) := ⟨_, rfl⟩
    rw [← hMs23] at hP hD
    exact km_v F hlocks hret hP hD hS d_Mac_act_290 (by subst hMs23 hMs22; rfl)
  · obtain ⟨h, r, o, e0, e1, e2, b0, b1, b2, c1, c2, c3, c4, c5⟩ := tr_all hm ht
    have hd := tr_n (d := 1) (by decide) c1
    refine lv_aload_n hx hb d_Mac_act_0 rfl (lv_at hl 0 rfl) ?_
    refine va_get (D := Dg) (ci := 1) (v := .int (M 4 3)) (C := R_Mac) (T := F_Mac) (N := 10) hx hb hT in_Mac hown hK hP 0 rfl rfl 7 (by decide) (hT _ tw1_78) (fun _ h9 => h9) rfl d_Mac_act_1 ?_
    refine lv_iconst (v := 1) hx hb d_Mac_act_4 (by decide) ?_
    refine lv_iadd hx hb d_Mac_act_5 ?_
    refine lv_istore_n hx hb d_Mac_act_6 rfl hl (by decide) rfl (fun ls hl => ?_)
    have hl : lv_has ls 4 [(3, .int ((M 4 3) + 1)), (0, .ref (a 0)), (1, .int 79), (2, .int n)] := hl
    refine lv_iload_n hx hb d_Mac_act_7 rfl (lv_at hl 2 rfl) ?_
    refine lv_tableIn (x := 79) (off := 171) (tgt := 179) hx hb d_Mac_act_8 (by decide) (by decide) rfl (by decide) ?_
    refine lv_aload_n hx hb d_Mac_act_179 rfl (lv_at hl 1 rfl) ?_
    refine lv_aload_n hx hb d_Mac_act_180 rfl (lv_at hl 1 rfl) ?_
    refine km_Vi (wr := []) F (c_Mac_pop l Dg a k M  _ hP (hD.weaken (fun _ _ _ _ => trivial)) (in_1 e0 hd b0 (by decide))) kx_K hK kw_Mac_92 tw2_175 ts_11 (va_recv (ci := 1) (q0 := 0) hK hP rfl rfl) hP hD hS hA [0, 1, 2, 3, 4] [] rfl rfl (by decide) (by decide) d_Mac_act_181 ⟨⟨by decide, by decide⟩, Nat.le_refl _, Nat.le_refl _⟩ rfl hl.1 rfl (Nat.le_of_ble_eq_true rfl) (fun H locs hP hD hS => ?_)
    have hP : va_P Dg classes (wM a k (sPop M)) H := hP
    have hD : va_D (va_A (wM a k M) s.heap.size) (wM a k (sPop M)) := hD
    obtain ⟨Ms24, hMs24⟩ : ∃ z, z = (sPop M) := ⟨_, rfl⟩
    rw [← hMs24] at hP hD
    refine km_Vv (wr := []) F (c_Mac_putOut l Dg a k Ms24 (sTop M) _ hP (hD.weaken (fun _ _ _ _ => trivial)) (by rw [hMs24]; exact (fun z => in_0 e2 (by rcases Nat.lt_or_ge o 60 with q | q; exact q; exact absurd (show (60 : Int32) ≤ M 4 2 by rw [e2]; exact nI_le (a := 60) q (by omega)) z) (by decide)))) kx_K hK kw_Mac_99 tw2_183 ts_13 (va_recv (ci := 1) (q0 := 0) hK hP rfl rfl) hP hD hS hA [0, 1, 2, 3, 4] [] rfl rfl (by decide) (by decide) d_Mac_act_184 ⟨⟨by decide, by decide⟩, Nat.le_refl _, Nat.le_refl _⟩ rfl hl.1 rfl (Nat.le_of_ble_eq_true rfl) (fun H locs hP hD hS => ?_)
    have hP : va_P Dg classes (wM a k (sOut Ms24 (sTop M))) H := hP
    have hD : va_D (va_A (wM a k M) s.heap.size) (wM a k (sOut Ms24 (sTop M))) := hD
    obtain ⟨Ms25, hMs25⟩ : ∃ z, z = (sOut Ms24 (sTop M)) := ⟨_, rfl⟩
    rw [← hMs25] at hP hD
    refine lv_goto (tgt := 285) hx hb d_Mac_act_187 (by decide) ?_
    refine lv_aload_n hx hb d_Mac_act_285 rfl (lv_at hl 1 rfl) ?_
    refine lv_iload_n hx hb d_Mac_act_286 rfl (lv_at hl 0 rfl) ?_
    refine va_put (D := Dg) (ci := 1) (v := .int ((M 4 3) + 1)) (ty := .int) (C := R_Mac) (T := F_Mac) (N := 10) hx hb hT in_Mac t_Mac t_Mac_ok n_Mac hown hK hP hD hS 0 rfl rfl 7 (by decide) (hT _ tw1_78) (fun _ h9 => h9) rfl (by decide +kernel) rfl rfl (Nat.le_of_ble_eq_true rfl) d_Mac_act_287 (fun H locs hP hD hS => ?_)
    have hP : va_P Dg classes (wM a k (u2 Ms25 4 3 ((M 4 3) + 1))) H := hP
    have hD : va_D (va_A (wM a k M) s.heap.size) (wM a k (u2 Ms25 4 3 ((M 4 3) + 1))) := hD
    obtain ⟨Ms26, hMs26⟩ : ∃ z, z = (u2 Ms25 4 3 ((M 4 3) + 1)) := ⟨_, rfl⟩
    rw [← hMs26] at hP hD
    exact km_v F hlocks hret hP hD hS d_Mac_act_290 (by subst hMs26 hMs25 hMs24; rfl)
  · obtain ⟨h, r, o, e0, e1, e2, b0, b1, b2, c1, c2, c3, c4, c5⟩ := tr_all hm ht
    have hd := tr_n (d := 1) (by decide) c1
    refine lv_aload_n hx hb d_Mac_act_0 rfl (lv_at hl 0 rfl) ?_
    refine va_get (D := Dg) (ci := 1) (v := .int (M 4 3)) (C := R_Mac) (T := F_Mac) (N := 10) hx hb hT in_Mac hown hK hP 0 rfl rfl 7 (by decide) (hT _ tw1_78) (fun _ h9 => h9) rfl d_Mac_act_1 ?_
    refine lv_iconst (v := 1) hx hb d_Mac_act_4 (by decide) ?_
    refine lv_iadd hx hb d_Mac_act_5 ?_
    refine lv_istore_n hx hb d_Mac_act_6 rfl hl (by decide) rfl (fun ls hl => ?_)
    have hl : lv_has ls 4 [(3, .int ((M 4 3) + 1)), (0, .ref (a 0)), (1, .int 86), (2, .int n)] := hl
    refine lv_iload_n hx hb d_Mac_act_7 rfl (lv_at hl 2 rfl) ?_
    refine lv_tableIn (x := 86) (off := 182) (tgt := 190) hx hb d_Mac_act_8 (by decide) (by decide) rfl (by decide) ?_
    refine lv_aload_n hx hb d_Mac_act_190 rfl (lv_at hl 1 rfl) ?_
    refine km_Vi (wr := []) F (c_Mac_pop l Dg a k M  _ hP (hD.weaken (fun _ _ _ _ => trivial)) (in_1 e0 hd b0 (by decide))) kx_K hK kw_Mac_92 tw2_175 ts_11 (va_recv (ci := 1) (q0 := 0) hK hP rfl rfl) hP hD hS hA [0, 1, 2, 3, 4] [] rfl rfl (by decide) (by decide) d_Mac_act_191 ⟨⟨by decide, by decide⟩, Nat.le_refl _, Nat.le_refl _⟩ rfl hl.1 rfl (Nat.le_of_ble_eq_true rfl) (fun H locs hP hD hS => ?_)
    have hP : va_P Dg classes (wM a k (sPop M)) H := hP
    have hD : va_D (va_A (wM a k M) s.heap.size) (wM a k (sPop M)) := hD
    obtain ⟨Ms27, hMs27⟩ : ∃ z, z = (sPop M) := ⟨_, rfl⟩
    rw [← hMs27] at hP hD
    refine lv_pop hx hb d_Mac_act_194 rfl ?_
    refine lv_goto (tgt := 285) hx hb d_Mac_act_195 (by decide) ?_
    refine lv_aload_n hx hb d_Mac_act_285 rfl (lv_at hl 1 rfl) ?_
    refine lv_iload_n hx hb d_Mac_act_286 rfl (lv_at hl 0 rfl) ?_
    refine va_put (D := Dg) (ci := 1) (v := .int ((M 4 3) + 1)) (ty := .int) (C := R_Mac) (T := F_Mac) (N := 10) hx hb hT in_Mac t_Mac t_Mac_ok n_Mac hown hK hP hD hS 0 rfl rfl 7 (by decide) (hT _ tw1_78) (fun _ h9 => h9) rfl (by decide +kernel) rfl rfl (Nat.le_of_ble_eq_true rfl) d_Mac_act_287 (fun H locs hP hD hS => ?_)
    have hP : va_P Dg classes (wM a k (u2 Ms27 4 3 ((M 4 3) + 1))) H := hP
    have hD : va_D (va_A (wM a k M) s.heap.size) (wM a k (u2 Ms27 4 3 ((M 4 3) + 1))) := hD
    obtain ⟨Ms28, hMs28⟩ : ∃ z, z = (u2 Ms27 4 3 ((M 4 3) + 1)) := ⟨_, rfl⟩
    rw [← hMs28] at hP hD
    exact km_v F hlocks hret hP hD hS d_Mac_act_290 (by subst hMs28 hMs27; rfl)
  · obtain ⟨h, r, o, e0, e1, e2, b0, b1, b2, c1, c2, c3, c4, c5⟩ := tr_all hm ht
    refine lv_aload_n hx hb d_Mac_act_0 rfl (lv_at hl 0 rfl) ?_
    refine va_get (D := Dg) (ci := 1) (v := .int (M 4 3)) (C := R_Mac) (T := F_Mac) (N := 10) hx hb hT in_Mac hown hK hP 0 rfl rfl 7 (by decide) (hT _ tw1_78) (fun _ h9 => h9) rfl d_Mac_act_1 ?_
    refine lv_iconst (v := 1) hx hb d_Mac_act_4 (by decide) ?_
    refine lv_iadd hx hb d_Mac_act_5 ?_
    refine lv_istore_n hx hb d_Mac_act_6 rfl hl (by decide) rfl (fun ls hl => ?_)
    have hl : lv_has ls 4 [(3, .int ((M 4 3) + 1)), (0, .ref (a 0)), (1, .int 74), (2, .int n)] := hl
    refine lv_iload_n hx hb d_Mac_act_7 rfl (lv_at hl 2 rfl) ?_
    refine lv_tableIn (x := 74) (off := 190) (tgt := 198) hx hb d_Mac_act_8 (by decide) (by decide) rfl (by decide) ?_
    refine lv_iload_n hx hb d_Mac_act_198 rfl (lv_at hl 3 rfl) ?_
    refine lv_istore_n hx hb d_Mac_act_199 rfl hl (by decide) rfl (fun ls hl => ?_)
    have hl : lv_has ls 4 [(3, .int n), (0, .ref (a 0)), (1, .int 74), (2, .int n)] := hl
    refine lv_goto (tgt := 285) hx hb d_Mac_act_200 (by decide) ?_
    refine lv_aload_n hx hb d_Mac_act_285 rfl (lv_at hl 1 rfl) ?_
    refine lv_iload_n hx hb d_Mac_act_286 rfl (lv_at hl 0 rfl) ?_
    refine va_put (D := Dg) (ci := 1) (v := .int n) (ty := .int) (C := R_Mac) (T := F_Mac) (N := 10) hx hb hT in_Mac t_Mac t_Mac_ok n_Mac hown hK hP hD hS 0 rfl rfl 7 (by decide) (hT _ tw1_78) (fun _ h9 => h9) rfl (by decide +kernel) rfl rfl (Nat.le_of_ble_eq_true rfl) d_Mac_act_287 (fun H locs hP hD hS => ?_)
    have hP : va_P Dg classes (wM a k (u2 M 4 3 n)) H := hP
    have hD : va_D (va_A (wM a k M) s.heap.size) (wM a k (u2 M 4 3 n)) := hD
    obtain ⟨Ms29, hMs29⟩ : ∃ z, z = (u2 M 4 3 n) := ⟨_, rfl⟩
    rw [← hMs29] at hP hD
    exact km_v F hlocks hret hP hD hS d_Mac_act_290 (by subst hMs29; rfl)
  · obtain ⟨h, r, o, e0, e1, e2, b0, b1, b2, c1, c2, c3, c4, c5⟩ := tr_all hm ht
    have hd := tr_n (d := 1) (by decide) c1
    refine lv_aload_n hx hb d_Mac_act_0 rfl (lv_at hl 0 rfl) ?_
    refine va_get (D := Dg) (ci := 1) (v := .int (M 4 3)) (C := R_Mac) (T := F_Mac) (N := 10) hx hb hT in_Mac hown hK hP 0 rfl rfl 7 (by decide) (hT _ tw1_78) (fun _ h9 => h9) rfl d_Mac_act_1 ?_
    refine lv_iconst (v := 1) hx hb d_Mac_act_4 (by decide) ?_
    refine lv_iadd hx hb d_Mac_act_5 ?_
    refine lv_istore_n hx hb d_Mac_act_6 rfl hl (by decide) rfl (fun ls hl => ?_)
    have hl : lv_has ls 4 [(3, .int ((M 4 3) + 1)), (0, .ref (a 0)), (1, .int 90), (2, .int n)] := hl
    refine lv_iload_n hx hb d_Mac_act_7 rfl (lv_at hl 2 rfl) ?_
    refine lv_tableIn (x := 90) (off := 195) (tgt := 203) hx hb d_Mac_act_8 (by decide) (by decide) rfl (by decide) ?_
    refine lv_aload_n hx hb d_Mac_act_203 rfl (lv_at hl 1 rfl) ?_
    refine km_Vi (wr := []) F (c_Mac_pop l Dg a k M  _ hP (hD.weaken (fun _ _ _ _ => trivial)) (in_1 e0 hd b0 (by decide))) kx_K hK kw_Mac_92 tw2_175 ts_11 (va_recv (ci := 1) (q0 := 0) hK hP rfl rfl) hP hD hS hA [0, 1, 2, 3, 4] [] rfl rfl (by decide) (by decide) d_Mac_act_204 ⟨⟨by decide, by decide⟩, Nat.le_refl _, Nat.le_refl _⟩ rfl hl.1 rfl (Nat.le_of_ble_eq_true rfl) (fun H locs hP hD hS => ?_)
    have hP : va_P Dg classes (wM a k (sPop M)) H := hP
    have hD : va_D (va_A (wM a k M) s.heap.size) (wM a k (sPop M)) := hD
    obtain ⟨Ms30, hMs30⟩ : ∃ z, z = (sPop M) := ⟨_, rfl⟩
    rw [← hMs30] at hP hD
    refine lv_if_ne (tgt := 214) hx hb d_Mac_act_207 (by decide) (fun h207 => ?_) (fun h207 => ?_)
    · refine lv_iload_n hx hb d_Mac_act_214 rfl (lv_at hl 0 rfl) ?_
      refine lv_istore_n hx hb d_Mac_act_215 rfl hl (by decide) rfl (fun ls hl => ?_)
      have hl : lv_has ls 4 [(3, .int ((M 4 3) + 1)), (0, .ref (a 0)), (1, .int 90), (2, .int n)] := hl
      refine lv_goto (tgt := 285) hx hb d_Mac_act_216 (by decide) ?_
      refine lv_aload_n hx hb d_Mac_act_285 rfl (lv_at hl 1 rfl) ?_
      refine lv_iload_n hx hb d_Mac_act_286 rfl (lv_at hl 0 rfl) ?_
      refine va_put (D := Dg) (ci := 1) (v := .int ((M 4 3) + 1)) (ty := .int) (C := R_Mac) (T := F_Mac) (N := 10) hx hb hT in_Mac t_Mac t_Mac_ok n_Mac hown hK hP hD hS 0 rfl rfl 7 (by decide) (hT _ tw1_78) (fun _ h9 => h9) rfl (by decide +kernel) rfl rfl (Nat.le_of_ble_eq_true rfl) d_Mac_act_287 (fun H locs hP hD hS => ?_)
      have hP : va_P Dg classes (wM a k (u2 Ms30 4 3 ((M 4 3) + 1))) H := hP
      have hD : va_D (va_A (wM a k M) s.heap.size) (wM a k (u2 Ms30 4 3 ((M 4 3) + 1))) := hD
      obtain ⟨Ms31, hMs31⟩ : ∃ z, z = (u2 Ms30 4 3 ((M 4 3) + 1)) := ⟨_, rfl⟩
      rw [← hMs31] at hP hD
      exact km_v F hlocks hret hP hD hS d_Mac_act_290 (by subst hMs31 hMs30; refine congrArg (wM a k) ?_; show _ = u2 (sPop M) 4 3 (if sTop M = 0 then n else M 4 3 + 1); rw [if_neg h207])
    · refine lv_iload_n hx hb d_Mac_act_210 rfl (lv_at hl 3 rfl) ?_
      refine lv_goto (tgt := 215) hx hb d_Mac_act_211 (by decide) ?_
      refine lv_istore_n hx hb d_Mac_act_215 rfl hl (by decide) rfl (fun ls hl => ?_)
      have hl : lv_has ls 4 [(3, .int n), (0, .ref (a 0)), (1, .int 90), (2, .int n)] := hl
      refine lv_goto (tgt := 285) hx hb d_Mac_act_216 (by decide) ?_
      refine lv_aload_n hx hb d_Mac_act_285 rfl (lv_at hl 1 rfl) ?_
      refine lv_iload_n hx hb d_Mac_act_286 rfl (lv_at hl 0 rfl) ?_
      refine va_put (D := Dg) (ci := 1) (v := .int n) (ty := .int) (C := R_Mac) (T := F_Mac) (N := 10) hx hb hT in_Mac t_Mac t_Mac_ok n_Mac hown hK hP hD hS 0 rfl rfl 7 (by decide) (hT _ tw1_78) (fun _ h9 => h9) rfl (by decide +kernel) rfl rfl (Nat.le_of_ble_eq_true rfl) d_Mac_act_287 (fun H locs hP hD hS => ?_)
      have hP : va_P Dg classes (wM a k (u2 Ms30 4 3 n)) H := hP
      have hD : va_D (va_A (wM a k M) s.heap.size) (wM a k (u2 Ms30 4 3 n)) := hD
      obtain ⟨Ms32, hMs32⟩ : ∃ z, z = (u2 Ms30 4 3 n) := ⟨_, rfl⟩
      rw [← hMs32] at hP hD
      exact km_v F hlocks hret hP hD hS d_Mac_act_290 (by subst hMs32 hMs30; refine congrArg (wM a k) ?_; show _ = u2 (sPop M) 4 3 (if sTop M = 0 then n else M 4 3 + 1); rw [if_pos h207])
  · obtain ⟨h, r, o, e0, e1, e2, b0, b1, b2, c1, c2, c3, c4, c5⟩ := tr_all hm ht
    have h10 : r < 10 := by rcases Nat.lt_or_ge r 10 with q | q; exact q; exact absurd ⟨rfl, by omega⟩ c4
    refine lv_aload_n hx hb d_Mac_act_0 rfl (lv_at hl 0 rfl) ?_
    refine va_get (D := Dg) (ci := 1) (v := .int (M 4 3)) (C := R_Mac) (T := F_Mac) (N := 10) hx hb hT in_Mac hown hK hP 0 rfl rfl 7 (by decide) (hT _ tw1_78) (fun _ h9 => h9) rfl d_Mac_act_1 ?_
    refine lv_iconst (v := 1) hx hb d_Mac_act_4 (by decide) ?_
    refine lv_iadd hx hb d_Mac_act_5 ?_
    refine lv_istore_n hx hb d_Mac_act_6 rfl hl (by decide) rfl (fun ls hl => ?_)
    have hl : lv_has ls 4 [(3, .int ((M 4 3) + 1)), (0, .ref (a 0)), (1, .int 67), (2, .int n)] := hl
    refine lv_iload_n hx hb d_Mac_act_7 rfl (lv_at hl 2 rfl) ?_
    refine lv_tableIn (x := 67) (off := 211) (tgt := 219) hx hb d_Mac_act_8 (by decide) (by decide) rfl (by decide) ?_
    refine lv_aload_n hx hb d_Mac_act_219 rfl (lv_at hl 1 rfl) ?_
    refine va_get (D := Dg) (ci := 1) (v := .ref (a 4)) (C := R_Mac) (T := F_Mac) (N := 10) hx hb hT in_Mac hown hK hP 0 rfl rfl 3 (by decide) (hT _ tw1_73) (fun _ h9 => h9) rfl d_Mac_act_220 ?_
    refine lv_aload_n hx hb d_Mac_act_223 rfl (lv_at hl 1 rfl) ?_
    refine va_get (D := Dg) (ci := 1) (v := .int (M 4 1)) (C := R_Mac) (T := F_Mac) (N := 10) hx hb hT in_Mac hown hK hP 0 rfl rfl 5 (by decide) (hT _ tw1_76) (fun _ h9 => h9) rfl d_Mac_act_224 ?_
    refine lv_iload_n hx hb d_Mac_act_227 rfl (lv_at hl 0 rfl) ?_
    refine va_iast hx hb hK hP hD hS 4 0 rfl rfl (in_0 e1 h10 (by decide)) d_Mac_act_228 (fun H locs hP hD hS => ?_)
    have hP : va_P Dg classes (wM a k (u2 M 3 (M 4 1).toNatClampNeg ((M 4 3) + 1))) H := hP
    have hD : va_D (va_A (wM a k M) s.heap.size) (wM a k (u2 M 3 (M 4 1).toNatClampNeg ((M 4 3) + 1))) := hD
    obtain ⟨Ms33, hMs33⟩ : ∃ z, z = (u2 M 3 (M 4 1).toNatClampNeg ((M 4 3) + 1)) := ⟨_, rfl⟩
    rw [← hMs33] at hP hD
    refine lv_aload_n hx hb d_Mac_act_229 rfl (lv_at hl 1 rfl) ?_
    refine lv_dup hx hb d_Mac_act_230 rfl ?_
    refine va_get (D := Dg) (ci := 1) (v := .int (M 4 1)) (C := R_Mac) (T := F_Mac) (N := 10) hx hb hT in_Mac hown hK hP 0 rfl rfl 5 (by decide) (hT _ tw1_76) (fun _ h9 => h9) (by rw [hMs33]; rfl) d_Mac_act_231 ?_
    refine lv_iconst (v := 1) hx hb d_Mac_act_234 (by decide) ?_
    refine lv_iadd hx hb d_Mac_act_235 ?_
    refine va_put (D := Dg) (ci := 1) (v := .int ((M 4 1) + 1)) (ty := .int) (C := R_Mac) (T := F_Mac) (N := 10) hx hb hT in_Mac t_Mac t_Mac_ok n_Mac hown hK hP hD hS 0 rfl rfl 5 (by decide) (hT _ tw1_76) (fun _ h9 => h9) rfl (by decide +kernel) rfl rfl (Nat.le_of_ble_eq_true rfl) d_Mac_act_236 (fun H locs hP hD hS => ?_)
    have hP : va_P Dg classes (wM a k (u2 Ms33 4 1 ((M 4 1) + 1))) H := hP
    have hD : va_D (va_A (wM a k M) s.heap.size) (wM a k (u2 Ms33 4 1 ((M 4 1) + 1))) := hD
    obtain ⟨Ms34, hMs34⟩ : ∃ z, z = (u2 Ms33 4 1 ((M 4 1) + 1)) := ⟨_, rfl⟩
    rw [← hMs34] at hP hD
    refine lv_iload_n hx hb d_Mac_act_239 rfl (lv_at hl 3 rfl) ?_
    refine lv_istore_n hx hb d_Mac_act_240 rfl hl (by decide) rfl (fun ls hl => ?_)
    have hl : lv_has ls 4 [(3, .int n), (0, .ref (a 0)), (1, .int 67), (2, .int n)] := hl
    refine lv_goto (tgt := 285) hx hb d_Mac_act_241 (by decide) ?_
    refine lv_aload_n hx hb d_Mac_act_285 rfl (lv_at hl 1 rfl) ?_
    refine lv_iload_n hx hb d_Mac_act_286 rfl (lv_at hl 0 rfl) ?_
    refine va_put (D := Dg) (ci := 1) (v := .int n) (ty := .int) (C := R_Mac) (T := F_Mac) (N := 10) hx hb hT in_Mac t_Mac t_Mac_ok n_Mac hown hK hP hD hS 0 rfl rfl 7 (by decide) (hT _ tw1_78) (fun _ h9 => h9) rfl (by decide +kernel) rfl rfl (Nat.le_of_ble_eq_true rfl) d_Mac_act_287 (fun H locs hP hD hS => ?_)
    have hP : va_P Dg classes (wM a k (u2 Ms34 4 3 n)) H := hP
    have hD : va_D (va_A (wM a k M) s.heap.size) (wM a k (u2 Ms34 4 3 n)) := hD
    obtain ⟨Ms35, hMs35⟩ : ∃ z, z = (u2 Ms34 4 3 n) := ⟨_, rfl⟩
    rw [← hMs35] at hP hD
    exact km_v F hlocks hret hP hD hS d_Mac_act_290 (by subst hMs35 hMs34 hMs33; rfl)
  · obtain ⟨h, r, o, e0, e1, e2, b0, b1, b2, c1, c2, c3, c4, c5⟩ := tr_all hm ht
    have h10 : 1 ≤ r := by rcases Nat.lt_or_ge 0 r with q | q; exact q; exact absurd ⟨rfl, by omega⟩ c2
    refine lv_aload_n hx hb d_Mac_act_0 rfl (lv_at hl 0 rfl) ?_
    refine va_get (D := Dg) (ci := 1) (v := .int (M 4 3)) (C := R_Mac) (T := F_Mac) (N := 10) hx hb hT in_Mac hown hK hP 0 rfl rfl 7 (by decide) (hT _ tw1_78) (fun _ h9 => h9) rfl d_Mac_act_1 ?_
    refine lv_iconst (v := 1) hx hb d_Mac_act_4 (by decide) ?_
    refine lv_iadd hx hb d_Mac_act_5 ?_
    refine lv_istore_n hx hb d_Mac_act_6 rfl hl (by decide) rfl (fun ls hl => ?_)
    have hl : lv_has ls 4 [(3, .int ((M 4 3) + 1)), (0, .ref (a 0)), (1, .int 82), (2, .int n)] := hl
    refine lv_iload_n hx hb d_Mac_act_7 rfl (lv_at hl 2 rfl) ?_
    refine lv_tableIn (x := 82) (off := 236) (tgt := 244) hx hb d_Mac_act_8 (by decide) (by decide) rfl (by decide) ?_
    refine lv_aload_n hx hb d_Mac_act_244 rfl (lv_at hl 1 rfl) ?_
    refine lv_dup hx hb d_Mac_act_245 rfl ?_
    refine va_get (D := Dg) (ci := 1) (v := .int (M 4 1)) (C := R_Mac) (T := F_Mac) (N := 10) hx hb hT in_Mac hown hK hP 0 rfl rfl 5 (by decide) (hT _ tw1_76) (fun _ h9 => h9) rfl d_Mac_act_246 ?_
    refine lv_iconst (v := 1) hx hb d_Mac_act_249 (by decide) ?_
    refine lv_isub hx hb d_Mac_act_250 ?_
    refine va_put (D := Dg) (ci := 1) (v := .int ((M 4 1) - 1)) (ty := .int) (C := R_Mac) (T := F_Mac) (N := 10) hx hb hT in_Mac t_Mac t_Mac_ok n_Mac hown hK hP hD hS 0 rfl rfl 5 (by decide) (hT _ tw1_76) (fun _ h9 => h9) rfl (by decide +kernel) rfl rfl (Nat.le_of_ble_eq_true rfl) d_Mac_act_251 (fun H locs hP hD hS => ?_)
    have hP : va_P Dg classes (wM a k (u2 M 4 1 ((M 4 1) - 1))) H := hP
    have hD : va_D (va_A (wM a k M) s.heap.size) (wM a k (u2 M 4 1 ((M 4 1) - 1))) := hD
    obtain ⟨Ms36, hMs36⟩ : ∃ z, z = (u2 M 4 1 ((M 4 1) - 1)) := ⟨_, rfl⟩
    rw [← hMs36] at hP hD
    refine lv_aload_n hx hb d_Mac_act_254 rfl (lv_at hl 1 rfl) ?_
    refine va_get (D := Dg) (ci := 1) (v := .ref (a 4)) (C := R_Mac) (T := F_Mac) (N := 10) hx hb hT in_Mac hown hK hP 0 rfl rfl 3 (by decide) (hT _ tw1_73) (fun _ h9 => h9) rfl d_Mac_act_255 ?_
    refine lv_aload_n hx hb d_Mac_act_258 rfl (lv_at hl 1 rfl) ?_
    refine va_get (D := Dg) (ci := 1) (v := .int ((M 4 1) - 1)) (C := R_Mac) (T := F_Mac) (N := 10) hx hb hT in_Mac hown hK hP 0 rfl rfl 5 (by decide) (hT _ tw1_76) (fun _ h9 => h9) (by rw [hMs36]; rfl) d_Mac_act_259 ?_
    refine va_iald (f := (M 3)) hx hb hK hP 4 0 (by rw [hMs36]; rfl) rfl (in_1 e1 h10 b1 (by decide)) d_Mac_act_262 ?_
    refine lv_istore_n hx hb d_Mac_act_263 rfl hl (by decide) rfl (fun ls hl => ?_)
    have hl : lv_has ls 4 [(3, .int ((M 3) ((M 4 1) - 1).toNatClampNeg)), (0, .ref (a 0)), (1, .int 82), (2, .int n)] := hl
    refine lv_goto (tgt := 285) hx hb d_Mac_act_264 (by decide) ?_
    refine lv_aload_n hx hb d_Mac_act_285 rfl (lv_at hl 1 rfl) ?_
    refine lv_iload_n hx hb d_Mac_act_286 rfl (lv_at hl 0 rfl) ?_
    refine va_put (D := Dg) (ci := 1) (v := .int ((M 3) ((M 4 1) - 1).toNatClampNeg)) (ty := .int) (C := R_Mac) (T := F_Mac) (N := 10) hx hb hT in_Mac t_Mac t_Mac_ok n_Mac hown hK hP hD hS 0 rfl rfl 7 (by decide) (hT _ tw1_78) (fun _ h9 => h9) rfl (by decide +kernel) rfl rfl (Nat.le_of_ble_eq_true rfl) d_Mac_act_287 (fun H locs hP hD hS => ?_)
    have hP : va_P Dg classes (wM a k (u2 Ms36 4 3 ((M 3) ((M 4 1) - 1).toNatClampNeg))) H := hP
    have hD : va_D (va_A (wM a k M) s.heap.size) (wM a k (u2 Ms36 4 3 ((M 3) ((M 4 1) - 1).toNatClampNeg))) := hD
    obtain ⟨Ms37, hMs37⟩ : ∃ z, z = (u2 Ms36 4 3 ((M 3) ((M 4 1) - 1).toNatClampNeg)) := ⟨_, rfl⟩
    rw [← hMs37] at hP hD
    exact km_v F hlocks hret hP hD hS d_Mac_act_290 (by subst hMs37 hMs36; rfl)
  · obtain ⟨h, r, o, e0, e1, e2, b0, b1, b2, c1, c2, c3, c4, c5⟩ := tr_all hm ht
    refine lv_aload_n hx hb d_Mac_act_0 rfl (lv_at hl 0 rfl) ?_
    refine va_get (D := Dg) (ci := 1) (v := .int (M 4 3)) (C := R_Mac) (T := F_Mac) (N := 10) hx hb hT in_Mac hown hK hP 0 rfl rfl 7 (by decide) (hT _ tw1_78) (fun _ h9 => h9) rfl d_Mac_act_1 ?_
    refine lv_iconst (v := 1) hx hb d_Mac_act_4 (by decide) ?_
    refine lv_iadd hx hb d_Mac_act_5 ?_
    refine lv_istore_n hx hb d_Mac_act_6 rfl hl (by decide) rfl (fun ls hl => ?_)
    have hl : lv_has ls 4 [(3, .int ((M 4 3) + 1)), (0, .ref (a 0)), (1, .int 72), (2, .int n)] := hl
    refine lv_iload_n hx hb d_Mac_act_7 rfl (lv_at hl 2 rfl) ?_
    refine lv_tableIn (x := 72) (off := 259) (tgt := 267) hx hb d_Mac_act_8 (by decide) (by decide) rfl (by decide) ?_
    refine lv_aload_n hx hb d_Mac_act_267 rfl (lv_at hl 1 rfl) ?_
    refine lv_iconst (v := 5) hx hb d_Mac_act_268 (by decide) ?_
    refine va_put (D := Dg) (ci := 1) (v := .int 5) (ty := .int) (C := R_Mac) (T := F_Mac) (N := 10) hx hb hT in_Mac t_Mac t_Mac_ok n_Mac hown hK hP hD hS 0 rfl rfl 8 (by decide) (hT _ tw1_79) (fun _ h9 => h9) rfl (by decide +kernel) rfl rfl (Nat.le_of_ble_eq_true rfl) d_Mac_act_269 (fun H locs hP hD hS => ?_)
    have hP : va_P Dg classes (wM a k (u2 M 4 4 5)) H := hP
    have hD : va_D (va_A (wM a k M) s.heap.size) (wM a k (u2 M 4 4 5)) := hD
    obtain ⟨Ms38, hMs38⟩ : ∃ z, z = (u2 M 4 4 5) := ⟨_, rfl⟩
    rw [← hMs38] at hP hD
    refine lv_aload_n hx hb d_Mac_act_272 rfl (lv_at hl 1 rfl) ?_
    refine va_get (D := Dg) (ci := 1) (v := .int (M 4 3)) (C := R_Mac) (T := F_Mac) (N := 10) hx hb hT in_Mac hown hK hP 0 rfl rfl 7 (by decide) (hT _ tw1_78) (fun _ h9 => h9) (by rw [hMs38]; rfl) d_Mac_act_273 ?_
    refine lv_istore_n hx hb d_Mac_act_276 rfl hl (by decide) rfl (fun ls hl => ?_)
    have hl : lv_has ls 4 [(3, .int (M 4 3)), (0, .ref (a 0)), (1, .int 72), (2, .int n)] := hl
    refine lv_goto (tgt := 285) hx hb d_Mac_act_277 (by decide) ?_
    refine lv_aload_n hx hb d_Mac_act_285 rfl (lv_at hl 1 rfl) ?_
    refine lv_iload_n hx hb d_Mac_act_286 rfl (lv_at hl 0 rfl) ?_
    refine va_put (D := Dg) (ci := 1) (v := .int (M 4 3)) (ty := .int) (C := R_Mac) (T := F_Mac) (N := 10) hx hb hT in_Mac t_Mac t_Mac_ok n_Mac hown hK hP hD hS 0 rfl rfl 7 (by decide) (hT _ tw1_78) (fun _ h9 => h9) rfl (by decide +kernel) rfl rfl (Nat.le_of_ble_eq_true rfl) d_Mac_act_287 (fun H locs hP hD hS => ?_)
    have hP : va_P Dg classes (wM a k (u2 Ms38 4 3 (M 4 3))) H := hP
    have hD : va_D (va_A (wM a k M) s.heap.size) (wM a k (u2 Ms38 4 3 (M 4 3))) := hD
    obtain ⟨Ms39, hMs39⟩ : ∃ z, z = (u2 Ms38 4 3 (M 4 3)) := ⟨_, rfl⟩
    rw [← hMs39] at hP hD
    exact km_v F hlocks hret hP hD hS d_Mac_act_290 (by subst hMs39 hMs38; rfl)
