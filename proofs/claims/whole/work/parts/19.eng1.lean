set_option maxRecDepth 100000 in
set_option maxHeartbeats 4000000 in
theorem c_Eng_machineOf (l : Launch) (Dg : va_G) (a b u v : Nat → Nat) (k : Nat → ClassId) (G M N : vSt) (z : Int32) (H : Heap) (hP : va_P Dg classes ((wE a b u v) ++ (wP b k G) ++ (wM u k M) ++ (wM v k N)) H) : kPr l y_Eng_machineOf b_Eng_machineOf 2 (some (FieldType.object "FusedEngine$Machine")) 0 0 [.ref (a 0), .int z] H (va_K Dg classes (kTy k)) (if z = 0 then u 0 else v 0) := by
  refine k_of (by decide) (Nat.le_of_ble_eq_true rfl) ?_
  intro p e s m below meth cd ls F hlocks hret hname hh hX hl
  subst hh
  obtain ⟨hx, hb, hml, hown, hT⟩ := id F
  have hK : va_K Dg classes (kTy k) s := hX
  have hS : va_S (fun _ => False) s.heap s.heap [] := va_S.rf
  have hl : lv_has ls 2 [(0, .ref (a 0)), (1, .int z)] := hl
  refine lv_iload_n hx hb d_Eng_machineOf_0 rfl (lv_at hl 1 rfl) ?_
  refine lv_if_eq (tgt := 11) hx hb d_Eng_machineOf_1 (by decide) (fun h1 => ?_) (fun h1 => ?_)
  · refine lv_aload_n hx hb d_Eng_machineOf_11 rfl (lv_at hl 0 rfl) ?_
    refine va_get (D := Dg) (ci := 0) (v := .ref (u 0)) (C := R_Eng) (T := F_Eng) (N := 3) hx hb hT in_Eng hown hK hP 0 rfl rfl 1 (by decide) (hT _ tw1_103) (fun _ h9 => h9) rfl d_Eng_machineOf_12 ?_
    rw [if_pos h1]
    exact kp_a F hlocks hret hS d_Eng_machineOf_15
  · refine lv_aload_n hx hb d_Eng_machineOf_4 rfl (lv_at hl 0 rfl) ?_
    refine va_get (D := Dg) (ci := 0) (v := .ref (v 0)) (C := R_Eng) (T := F_Eng) (N := 3) hx hb hT in_Eng hown hK hP 0 rfl rfl 2 (by decide) (hT _ tw1_104) (fun _ h9 => h9) rfl d_Eng_machineOf_5 ?_
    refine lv_goto (tgt := 15) hx hb d_Eng_machineOf_8 (by decide) ?_
    rw [if_neg h1]
    exact kp_a F hlocks hret hS d_Eng_machineOf_15

set_option maxRecDepth 100000 in
set_option maxHeartbeats 4000000 in
theorem c_Eng_beginBoth (l : Launch) (Dg : va_G) (a b u v : Nat → Nat) (k : Nat → ClassId) (G M N : vSt) (H : Heap) (hP : va_P Dg classes ((wE a b u v) ++ (wP b k G) ++ (wM u k M) ++ (wM v k N)) H) (hD : va_D (fun _ => True) ((wE a b u v) ++ (wP b k G) ++ (wM u k M) ++ (wM v k N))) : kMv l y_Eng_beginBoth b_Eng_beginBoth 1 2 43 [.ref (a 0)] H (va_K Dg classes (kTy k)) Dg ((wE a b u v) ++ (wP b k G) ++ (wM u k M) ++ (wM v k N)) (wE a b u v ++ wP b k G ++ wM u k (sBegin M) ++ wM v k (sBegin N)) := by
  refine k_of (by decide) (Nat.le_of_ble_eq_true rfl) ?_
  intro p e s m below meth cd ls F hlocks hret hname hh hX hl
  subst hh
  obtain ⟨hx, hb, hml, hown, hT⟩ := id F
  have hK : va_K Dg classes (kTy k) s := hX
  have hA : ∀ q : Nat, s.heap.size ≤ q → va_A ((wE a b u v) ++ (wP b k G) ++ (wM u k M) ++ (wM v k N)) s.heap.size q := fun q h => Or.inr h
  have hD := hD.self (sz := s.heap.size)
  have hS : va_S (va_A ((wE a b u v) ++ (wP b k G) ++ (wM u k M) ++ (wM v k N)) s.heap.size) s.heap s.heap [] := va_S.rf
  have hl : lv_has ls 1 [(0, .ref (a 0))] := hl
  refine lv_aload_n hx hb d_Eng_beginBoth_0 rfl (lv_at hl 0 rfl) ?_
  refine va_get (D := Dg) (ci := 0) (v := .ref (u 0)) (C := R_Eng) (T := F_Eng) (N := 3) hx hb hT in_Eng hown hK hP 0 rfl rfl 1 (by decide) (hT _ tw1_103) (fun _ h9 => h9) rfl d_Eng_beginBoth_1 ?_
  refine km_Vv (wr := ((wE a b u v) ++ (wP b k G) ++ (wM v k N))) F (c_Mac_begin l Dg u k M _ (hP.sub (ws' := (wM u k M)) [7, 8, 9, 10, 11] rfl) ((hD.sub (ws' := (wM u k M)) [7, 8, 9, 10, 11] (by decide) rfl).weaken (fun _ _ _ _ => trivial))) kx_K hK kw_Eng_117 tw1_125 tw1_126 (va_recv (ci := 1) (q0 := 7) hK hP rfl rfl) hP hD hS hA [7, 8, 9, 10, 11] [0, 1, 2, 3, 4, 5, 6, 12, 13, 14, 15, 16] rfl rfl (by decide) (by decide) d_Eng_beginBoth_4 ⟨⟨by decide, by decide⟩, Nat.le_refl _, Nat.le_refl _⟩ rfl hl.1 rfl (Nat.le_of_ble_eq_true rfl) (fun H locs hP hD hS => ?_)
  have hP : va_P Dg classes ((wE a b u v) ++ (wP b k G) ++ (wM v k N) ++ (wM u k (sBegin M))) H := hP
  have hD : va_D (va_A ((wE a b u v) ++ (wP b k G) ++ (wM u k M) ++ (wM v k N)) s.heap.size) ((wE a b u v) ++ (wP b k G) ++ (wM v k N) ++ (wM u k (sBegin M))) := hD
  obtain ⟨Ms1, hMs1⟩ : ∃ z9, z9 = (sBegin M) := ⟨_, rfl⟩
  rw [← hMs1] at hP hD
  refine lv_aload_n hx hb d_Eng_beginBoth_7 rfl (lv_at hl 0 rfl) ?_
  refine va_get (D := Dg) (ci := 0) (v := .ref (v 0)) (C := R_Eng) (T := F_Eng) (N := 3) hx hb hT in_Eng hown hK hP 0 rfl rfl 2 (by decide) (hT _ tw1_104) (fun _ h9 => h9) rfl d_Eng_beginBoth_8 ?_
  refine km_Vv (wr := ((wE a b u v) ++ (wP b k G) ++ (wM u k Ms1))) F (c_Mac_begin l Dg v k N _ (hP.sub (ws' := (wM v k N)) [7, 8, 9, 10, 11] rfl) ((hD.sub (ws' := (wM v k N)) [7, 8, 9, 10, 11] (by decide) rfl).weaken (fun _ _ _ _ => trivial))) kx_K hK kw_Eng_117 tw1_125 tw1_126 (va_recv (ci := 1) (q0 := 7) hK hP rfl rfl) hP hD hS hA [7, 8, 9, 10, 11] [0, 1, 2, 3, 4, 5, 6, 12, 13, 14, 15, 16] rfl rfl (by decide) (by decide) d_Eng_beginBoth_11 ⟨⟨by decide, by decide⟩, Nat.le_refl _, Nat.le_refl _⟩ rfl hl.1 rfl (Nat.le_of_ble_eq_true rfl) (fun H locs hP hD hS => ?_)
  have hP : va_P Dg classes ((wE a b u v) ++ (wP b k G) ++ (wM u k Ms1) ++ (wM v k (sBegin N))) H := hP
  have hD : va_D (va_A ((wE a b u v) ++ (wP b k G) ++ (wM u k M) ++ (wM v k N)) s.heap.size) ((wE a b u v) ++ (wP b k G) ++ (wM u k Ms1) ++ (wM v k (sBegin N))) := hD
  obtain ⟨Ns2, hNs2⟩ : ∃ z9, z9 = (sBegin N) := ⟨_, rfl⟩
  rw [← hNs2] at hP hD
  exact km_v F hlocks hret hP hD hS d_Eng_beginBoth_14 (by subst hMs1 hNs2; rfl)

set_option maxRecDepth 100000 in
set_option maxHeartbeats 4000000 in
theorem c_Eng_restart (l : Launch) (Dg : va_G) (a b u v : Nat → Nat) (k : Nat → ClassId) (G M N : vSt) (H : Heap) (hP : va_P Dg classes ((wE a b u v) ++ (wP b k G) ++ (wM u k M) ++ (wM v k N)) H) (hD : va_D (fun _ => True) ((wE a b u v) ++ (wP b k G) ++ (wM u k M) ++ (wM v k N))) : kMv l y_Eng_restart b_Eng_restart 1 3 63 [.ref (a 0)] H (va_K Dg classes (kTy k)) Dg ((wE a b u v) ++ (wP b k G) ++ (wM u k M) ++ (wM v k N)) (wE a b u v ++ wP b k G ++ wM u k (sBegin M) ++ wM v k (sBegin N)) := by
  refine k_of (by decide) (Nat.le_of_ble_eq_true rfl) ?_
  intro p e s m below meth cd ls F hlocks hret hname hh hX hl
  subst hh
  obtain ⟨hx, hb, hml, hown, hT⟩ := id F
  have hK : va_K Dg classes (kTy k) s := hX
  have hA : ∀ q : Nat, s.heap.size ≤ q → va_A ((wE a b u v) ++ (wP b k G) ++ (wM u k M) ++ (wM v k N)) s.heap.size q := fun q h => Or.inr h
  have hD := hD.self (sz := s.heap.size)
  have hS : va_S (va_A ((wE a b u v) ++ (wP b k G) ++ (wM u k M) ++ (wM v k N)) s.heap.size) s.heap s.heap [] := va_S.rf
  have hl : lv_has ls 1 [(0, .ref (a 0))] := hl
  refine lv_aload_n hx hb d_Eng_restart_0 rfl (lv_at hl 0 rfl) ?_
  refine km_Vv (wr := []) F (c_Eng_beginBoth l Dg a b u v k G M N _ hP (hD.weaken (fun _ _ _ _ => trivial))) kx_K hK kw_Eng_50 tw1_122 ts_0 (va_recv (ci := 0) (q0 := 0) hK hP rfl rfl) hP hD hS hA [0, 1, 2, 3, 4, 5, 6, 7, 8, 9, 10, 11, 12, 13, 14, 15, 16] [] rfl rfl (by decide) (by decide) d_Eng_restart_1 ⟨⟨by decide, by decide⟩, Nat.le_refl _, Nat.le_refl _⟩ rfl hl.1 rfl (Nat.le_of_ble_eq_true rfl) (fun H locs hP hD hS => ?_)
  have hP : va_P Dg classes ((wE a b u v) ++ (wP b k G) ++ (wM u k (sBegin M)) ++ (wM v k (sBegin N))) H := hP
  have hD : va_D (va_A ((wE a b u v) ++ (wP b k G) ++ (wM u k M) ++ (wM v k N)) s.heap.size) ((wE a b u v) ++ (wP b k G) ++ (wM u k (sBegin M)) ++ (wM v k (sBegin N))) := hD
  obtain ⟨Ms1, hMs1⟩ : ∃ z9, z9 = (sBegin M) := ⟨_, rfl⟩
  rw [← hMs1] at hP hD
  obtain ⟨Ns2, hNs2⟩ : ∃ z9, z9 = (sBegin N) := ⟨_, rfl⟩
  rw [← hNs2] at hP hD
  exact km_v F hlocks hret hP hD hS d_Eng_restart_4 (by subst hMs1 hNs2; rfl)

set_option maxRecDepth 100000 in
set_option maxHeartbeats 4000000 in
theorem c_Eng_clear (l : Launch) (Dg : va_G) (a b u v : Nat → Nat) (k : Nat → ClassId) (G M N : vSt) (H : Heap) (hP : va_P Dg classes ((wE a b u v) ++ (wP b k G) ++ (wM u k M) ++ (wM v k N)) H) (hD : va_D (fun _ => True) ((wE a b u v) ++ (wP b k G) ++ (wM u k M) ++ (wM v k N))) : kMv l y_Eng_clear b_Eng_clear 1 3 63 [.ref (a 0)] H (va_K Dg classes (kTy k)) Dg ((wE a b u v) ++ (wP b k G) ++ (wM u k M) ++ (wM v k N)) (wE a b u v ++ wP b k (sNone G) ++ wM u k (sBegin M) ++ wM v k (sBegin N)) := by
  refine k_of (by decide) (Nat.le_of_ble_eq_true rfl) ?_
  intro p e s m below meth cd ls F hlocks hret hname hh hX hl
  subst hh
  obtain ⟨hx, hb, hml, hown, hT⟩ := id F
  have hK : va_K Dg classes (kTy k) s := hX
  have hA : ∀ q : Nat, s.heap.size ≤ q → va_A ((wE a b u v) ++ (wP b k G) ++ (wM u k M) ++ (wM v k N)) s.heap.size q := fun q h => Or.inr h
  have hD := hD.self (sz := s.heap.size)
  have hS : va_S (va_A ((wE a b u v) ++ (wP b k G) ++ (wM u k M) ++ (wM v k N)) s.heap.size) s.heap s.heap [] := va_S.rf
  have hl : lv_has ls 1 [(0, .ref (a 0))] := hl
  refine lv_aload_n hx hb d_Eng_clear_0 rfl (lv_at hl 0 rfl) ?_
  refine va_get (D := Dg) (ci := 0) (v := .ref (b 0)) (C := R_Eng) (T := F_Eng) (N := 3) hx hb hT in_Eng hown hK hP 0 rfl rfl 0 (by decide) (hT _ tw1_102) (fun _ h9 => h9) rfl d_Eng_clear_1 ?_
  refine km_Vv (wr := ((wE a b u v) ++ (wM u k M) ++ (wM v k N))) F (c_Prg_removeAll l Dg b k G  _ (hP.sub (ws' := (wP b k G)) [1, 2, 3, 4, 5, 6] rfl) ((hD.sub (ws' := (wP b k G)) [1, 2, 3, 4, 5, 6] (by decide) rfl).weaken (fun _ _ _ _ => trivial)) ) kx_K hK kw_Eng_66 tw1_117 tw1_118 (va_recv (ci := 2) (q0 := 1) hK hP rfl rfl) hP hD hS hA [1, 2, 3, 4, 5, 6] [0, 7, 8, 9, 10, 11, 12, 13, 14, 15, 16] rfl rfl (by decide) (by decide) d_Eng_clear_4 ⟨⟨by decide, by decide⟩, Nat.le_refl _, Nat.le_refl _⟩ rfl hl.1 rfl (Nat.le_of_ble_eq_true rfl) (fun H locs hP hD hS => ?_)
  have hP : va_P Dg classes ((wE a b u v) ++ (wM u k M) ++ (wM v k N) ++ (wP b k (sNone G))) H := hP
  have hD : va_D (va_A ((wE a b u v) ++ (wP b k G) ++ (wM u k M) ++ (wM v k N)) s.heap.size) ((wE a b u v) ++ (wM u k M) ++ (wM v k N) ++ (wP b k (sNone G))) := hD
  obtain ⟨Gs1, hGs1⟩ : ∃ z9, z9 = (sNone G) := ⟨_, rfl⟩
  rw [← hGs1] at hP hD
  refine lv_aload_n hx hb d_Eng_clear_7 rfl (lv_at hl 0 rfl) ?_
  refine km_Vv (wr := []) F (c_Eng_beginBoth l Dg a b u v k Gs1 M N _ (hP.sub (ws' := ((wE a b u v) ++ (wP b k Gs1) ++ (wM u k M) ++ (wM v k N))) [0, 11, 12, 13, 14, 15, 16, 1, 2, 3, 4, 5, 6, 7, 8, 9, 10] rfl) ((hD.sub (ws' := ((wE a b u v) ++ (wP b k Gs1) ++ (wM u k M) ++ (wM v k N))) [0, 11, 12, 13, 14, 15, 16, 1, 2, 3, 4, 5, 6, 7, 8, 9, 10] (by decide) rfl).weaken (fun _ _ _ _ => trivial))) kx_K hK kw_Eng_50 tw1_122 ts_0 (va_recv (ci := 0) (q0 := 0) hK hP rfl rfl) hP hD hS hA [0, 11, 12, 13, 14, 15, 16, 1, 2, 3, 4, 5, 6, 7, 8, 9, 10] [] rfl rfl (by decide) (by decide) d_Eng_clear_8 ⟨⟨by decide, by decide⟩, Nat.le_refl _, Nat.le_refl _⟩ rfl hl.1 rfl (Nat.le_of_ble_eq_true rfl) (fun H locs hP hD hS => ?_)
  have hP : va_P Dg classes ((wE a b u v) ++ (wP b k Gs1) ++ (wM u k (sBegin M)) ++ (wM v k (sBegin N))) H := hP
  have hD : va_D (va_A ((wE a b u v) ++ (wP b k G) ++ (wM u k M) ++ (wM v k N)) s.heap.size) ((wE a b u v) ++ (wP b k Gs1) ++ (wM u k (sBegin M)) ++ (wM v k (sBegin N))) := hD
  obtain ⟨Ms2, hMs2⟩ : ∃ z9, z9 = (sBegin M) := ⟨_, rfl⟩
  rw [← hMs2] at hP hD
  obtain ⟨Ns3, hNs3⟩ : ∃ z9, z9 = (sBegin N) := ⟨_, rfl⟩
  rw [← hNs3] at hP hD
  exact km_v F hlocks hret hP hD hS d_Eng_clear_11 (by subst hGs1 hMs2 hNs3; rfl)

set_option maxRecDepth 100000 in
set_option maxHeartbeats 4000000 in
theorem c_Eng_fuse (l : Launch) (Dg : va_G) (a b u v : Nat → Nat) (k : Nat → ClassId) (G M N : vSt) (tL : Nat) (H : Heap) (hP : va_P Dg classes ((wE a b u v) ++ (wP b k G) ++ (wM u k M) ++ (wM v k N)) H) (hD : va_D (fun _ => True) ((wE a b u v) ++ (wP b k G) ++ (wM u k M) ++ (wM v k N))) (hp : pOk G) : kMi l y_Eng_fuse b_Eng_fuse 2 (some FieldType.int) 4 94 [.ref (a 0)] H (fun U => va_K Dg classes (kTy k) U ∧ rlX (va_A (wE a b u v ++ wP b k G ++ wM u k M ++ wM v k N) H.size) tL H U) Dg ((wE a b u v) ++ (wP b k G) ++ (wM u k M) ++ (wM v k N)) (wE a b u v ++ wP b k (sFuM G) ++ wM u k (sBegin M) ++ wM v k (sBegin N)) (sFuR G) := by
  refine k_of (by decide) (Nat.le_of_ble_eq_true rfl) ?_
  intro p e s m below meth cd ls F hlocks hret hname hh hX hl
  subst hh
  obtain ⟨hx, hb, hml, hown, hT⟩ := id F
  have hK : va_K Dg classes (kTy k) s := hX.1
  have hA : ∀ q : Nat, s.heap.size ≤ q → va_A ((wE a b u v) ++ (wP b k G) ++ (wM u k M) ++ (wM v k N)) s.heap.size q := fun q h => Or.inr h
  have hD := hD.self (sz := s.heap.size)
  have hS : va_S (va_A ((wE a b u v) ++ (wP b k G) ++ (wM u k M) ++ (wM v k N)) s.heap.size) s.heap s.heap [] := va_S.rf
  have hl : lv_has ls 2 [(0, .ref (a 0))] := hl
  refine lv_aload_n hx hb d_Eng_fuse_0 rfl (lv_at hl 0 rfl) ?_
  refine va_get (D := Dg) (ci := 0) (v := .ref (b 0)) (C := R_Eng) (T := F_Eng) (N := 3) hx hb hT in_Eng hown hK hP 0 rfl rfl 0 (by decide) (hT _ tw1_102) (fun _ h9 => h9) rfl d_Eng_fuse_1 ?_
  refine km_Vi (wr := ((wE a b u v) ++ (wM u k M) ++ (wM v k N))) F (c_Prg_fuseRows l Dg b k G tL _ (hP.sub (ws' := (wP b k G)) [1, 2, 3, 4, 5, 6] rfl) ((hD.sub (ws' := (wP b k G)) [1, 2, 3, 4, 5, 6] (by decide) rfl).weaken (fun _ _ _ _ => trivial)) hp) (kx_and kx_K rlX_m) ⟨hK, hX.2.narrow (va_free (wc := wP b k G) hD hS hA [1, 2, 3, 4, 5, 6] rfl)⟩ kw_Eng_69 tw1_136 tw1_137 (va_recv (ci := 2) (q0 := 1) hK hP rfl rfl) hP hD hS hA [1, 2, 3, 4, 5, 6] [0, 7, 8, 9, 10, 11, 12, 13, 14, 15, 16] rfl rfl (by decide) (by decide) d_Eng_fuse_4 ⟨⟨by decide, by decide⟩, Nat.le_refl _, Nat.le_refl _⟩ rfl hl.1 rfl (Nat.le_of_ble_eq_true rfl) (fun H locs hP hD hS => ?_)
  have hP : va_P Dg classes ((wE a b u v) ++ (wM u k M) ++ (wM v k N) ++ (wP b k (sFuM G))) H := hP
  have hD : va_D (va_A ((wE a b u v) ++ (wP b k G) ++ (wM u k M) ++ (wM v k N)) s.heap.size) ((wE a b u v) ++ (wM u k M) ++ (wM v k N) ++ (wP b k (sFuM G))) := hD
  obtain ⟨Gs1, hGs1⟩ : ∃ z9, z9 = (sFuM G) := ⟨_, rfl⟩
  rw [← hGs1] at hP hD
  refine lv_istore_n hx hb d_Eng_fuse_7 rfl hl (by decide) rfl (fun ls hl => ?_)
  have hl : lv_has ls 2 [(1, .int (sFuR G)), (0, .ref (a 0))] := hl
  refine lv_aload_n hx hb d_Eng_fuse_8 rfl (lv_at hl 1 rfl) ?_
  refine km_Vv (wr := []) F (c_Eng_beginBoth l Dg a b u v k Gs1 M N _ (hP.sub (ws' := ((wE a b u v) ++ (wP b k Gs1) ++ (wM u k M) ++ (wM v k N))) [0, 11, 12, 13, 14, 15, 16, 1, 2, 3, 4, 5, 6, 7, 8, 9, 10] rfl) ((hD.sub (ws' := ((wE a b u v) ++ (wP b k Gs1) ++ (wM u k M) ++ (wM v k N))) [0, 11, 12, 13, 14, 15, 16, 1, 2, 3, 4, 5, 6, 7, 8, 9, 10] (by decide) rfl).weaken (fun _ _ _ _ => trivial))) kx_K hK kw_Eng_50 tw1_122 ts_0 (va_recv (ci := 0) (q0 := 0) hK hP rfl rfl) hP hD hS hA [0, 11, 12, 13, 14, 15, 16, 1, 2, 3, 4, 5, 6, 7, 8, 9, 10] [] rfl rfl (by decide) (by decide) d_Eng_fuse_9 ⟨⟨by decide, by decide⟩, Nat.le_refl _, Nat.le_refl _⟩ rfl hl.1 rfl (Nat.le_of_ble_eq_true rfl) (fun H locs hP hD hS => ?_)
  have hP : va_P Dg classes ((wE a b u v) ++ (wP b k Gs1) ++ (wM u k (sBegin M)) ++ (wM v k (sBegin N))) H := hP
  have hD : va_D (va_A ((wE a b u v) ++ (wP b k G) ++ (wM u k M) ++ (wM v k N)) s.heap.size) ((wE a b u v) ++ (wP b k Gs1) ++ (wM u k (sBegin M)) ++ (wM v k (sBegin N))) := hD
  obtain ⟨Ms2, hMs2⟩ : ∃ z9, z9 = (sBegin M) := ⟨_, rfl⟩
  rw [← hMs2] at hP hD
  obtain ⟨Ns3, hNs3⟩ : ∃ z9, z9 = (sBegin N) := ⟨_, rfl⟩
  rw [← hNs3] at hP hD
  refine lv_iload_n hx hb d_Eng_fuse_12 rfl (lv_at hl 0 rfl) ?_
  exact km_i F hlocks hret hP hD hS d_Eng_fuse_13 rfl (by subst hGs1 hMs2 hNs3; rfl)

set_option maxRecDepth 100000 in
set_option maxHeartbeats 4000000 in
theorem c_Eng_add (l : Launch) (Dg : va_G) (a b u v : Nat → Nat) (k : Nat → ClassId) (G M N : vSt) (q vB : Nat) (c n : Int32) (H : Heap) (hP : va_P Dg classes ((wE a b u v) ++ (wP b k G) ++ (wM u k M) ++ (wM v k N)) H) (hD : va_D (fun _ => True) ((wE a b u v) ++ (wP b k G) ++ (wM u k M) ++ (wM v k N))) (hal : ¬ sAllow c n = 0) (hp : ∃ z : Nat, z < 80 ∧ G 5 0 = nI z) : kMi l y_Eng_add b_Eng_add 4 (some FieldType.int) 5 110 [.ref (a 0), .int c, .int n] H (kaX Dg k q vB H) Dg ((wE a b u v) ++ (wP b k G) ++ (wM u k M) ++ (wM v k N)) (wE a b u v ++ wP b k (sApp G c n) ++ wM u k (sBegin M) ++ wM v k (sBegin N)) ((G 5 0)) := by
  refine k_of (by decide) (Nat.le_of_ble_eq_true rfl) ?_
  intro p e s m below meth cd ls F hlocks hret hname hh hX hl
  subst hh
  obtain ⟨hx, hb, hml, hown, hT⟩ := id F
  have hK : va_K Dg classes (kTy k) s := hX.1
  have hA : ∀ q : Nat, s.heap.size ≤ q → va_A ((wE a b u v) ++ (wP b k G) ++ (wM u k M) ++ (wM v k N)) s.heap.size q := fun q h => Or.inr h
  have hD := hD.self (sz := s.heap.size)
  have hS : va_S (va_A ((wE a b u v) ++ (wP b k G) ++ (wM u k M) ++ (wM v k N)) s.heap.size) s.heap s.heap [] := va_S.rf
  have hl : lv_has ls 4 [(0, .ref (a 0)), (1, .int c), (2, .int n)] := hl
  refine lv_iload_n hx hb d_Eng_add_0 rfl (lv_at hl 1 rfl) ?_
  refine lv_iload_n hx hb d_Eng_add_1 rfl (lv_at hl 2 rfl) ?_
  refine kp_S F (c_Prg_allows l q vB c n _) aX_m hX.2 kw_Eng_26 tw1_182 hS d_Eng_add_2 ⟨⟨by decide, by decide⟩, Nat.le_refl _, Nat.le_refl _⟩ rfl hl.1 rfl (Nat.le_of_ble_eq_true rfl) (fun locs hS => ?_)
  refine lv_if_ne (tgt := 18) hx hb d_Eng_add_5 (by decide) (fun _ => ?_) (fun h9 => absurd h9 hal)
  refine lv_aload_n hx hb d_Eng_add_18 rfl (lv_at hl 0 rfl) ?_
  refine va_get (D := Dg) (ci := 0) (v := .ref (b 0)) (C := R_Eng) (T := F_Eng) (N := 3) hx hb hT in_Eng hown hK hP 0 rfl rfl 0 (by decide) (hT _ tw1_102) (fun _ h9 => h9) rfl d_Eng_add_19 ?_
  refine va_get (D := Dg) (ci := 2) (v := .int (G 5 0)) (C := R_Prg) (T := F_Prg) (N := 7) hx hb hT in_Prg hown hK hP 1 rfl rfl 5 (by decide) (hT _ tw1_40) (fun _ h9 => h9) rfl d_Eng_add_22 ?_
  refine lv_bipush (v := 80) hx hb d_Eng_add_25 (by decide) ?_
  refine lv_icmp_ne (tgt := 40) hx hb d_Eng_add_27 (by decide) (fun _ => ?_) (fun h9 => absurd h9 (fun z9 => by obtain ⟨z, h1, h2⟩ := hp; rw [h2] at z9; have := (nI_eq (by omega) (by decide)).mp (show nI z = nI 80 from z9); omega))
  refine lv_aload_n hx hb d_Eng_add_40 rfl (lv_at hl 0 rfl) ?_
  refine va_get (D := Dg) (ci := 0) (v := .ref (b 0)) (C := R_Eng) (T := F_Eng) (N := 3) hx hb hT in_Eng hown hK hP 0 rfl rfl 0 (by decide) (hT _ tw1_102) (fun _ h9 => h9) rfl d_Eng_add_41 ?_
  refine lv_iload_n hx hb d_Eng_add_44 rfl (lv_at hl 1 rfl) ?_
  refine lv_iload_n hx hb d_Eng_add_45 rfl (lv_at hl 2 rfl) ?_
  refine km_Vi (wr := ((wE a b u v) ++ (wM u k M) ++ (wM v k N))) F (c_Prg_append l Dg b k G c n _ (hP.sub (ws' := (wP b k G)) [1, 2, 3, 4, 5, 6] rfl) ((hD.sub (ws' := (wP b k G)) [1, 2, 3, 4, 5, 6] (by decide) rfl).weaken (fun _ _ _ _ => trivial)) hp) kx_K hK kw_Eng_46 tw2_78 tw2_79 (va_recv (ci := 2) (q0 := 1) hK hP rfl rfl) hP hD hS hA [1, 2, 3, 4, 5, 6] [0, 7, 8, 9, 10, 11, 12, 13, 14, 15, 16] rfl rfl (by decide) (by decide) d_Eng_add_46 ⟨⟨by decide, by decide⟩, Nat.le_refl _, Nat.le_refl _⟩ rfl hl.1 rfl (Nat.le_of_ble_eq_true rfl) (fun H locs hP hD hS => ?_)
  have hP : va_P Dg classes ((wE a b u v) ++ (wM u k M) ++ (wM v k N) ++ (wP b k (sApp G c n))) H := hP
  have hD : va_D (va_A ((wE a b u v) ++ (wP b k G) ++ (wM u k M) ++ (wM v k N)) s.heap.size) ((wE a b u v) ++ (wM u k M) ++ (wM v k N) ++ (wP b k (sApp G c n))) := hD
  obtain ⟨Gs1, hGs1⟩ : ∃ z9, z9 = (sApp G c n) := ⟨_, rfl⟩
  rw [← hGs1] at hP hD
  refine lv_istore_n hx hb d_Eng_add_49 rfl hl (by decide) rfl (fun ls hl => ?_)
  have hl : lv_has ls 4 [(3, .int (G 5 0)), (0, .ref (a 0)), (1, .int c), (2, .int n)] := hl
  refine lv_aload_n hx hb d_Eng_add_50 rfl (lv_at hl 1 rfl) ?_
  refine km_Vv (wr := []) F (c_Eng_beginBoth l Dg a b u v k Gs1 M N _ (hP.sub (ws' := ((wE a b u v) ++ (wP b k Gs1) ++ (wM u k M) ++ (wM v k N))) [0, 11, 12, 13, 14, 15, 16, 1, 2, 3, 4, 5, 6, 7, 8, 9, 10] rfl) ((hD.sub (ws' := ((wE a b u v) ++ (wP b k Gs1) ++ (wM u k M) ++ (wM v k N))) [0, 11, 12, 13, 14, 15, 16, 1, 2, 3, 4, 5, 6, 7, 8, 9, 10] (by decide) rfl).weaken (fun _ _ _ _ => trivial))) kx_K hK kw_Eng_50 tw1_122 ts_0 (va_recv (ci := 0) (q0 := 0) hK hP rfl rfl) hP hD hS hA [0, 11, 12, 13, 14, 15, 16, 1, 2, 3, 4, 5, 6, 7, 8, 9, 10] [] rfl rfl (by decide) (by decide) d_Eng_add_51 ⟨⟨by decide, by decide⟩, Nat.le_refl _, Nat.le_refl _⟩ rfl hl.1 rfl (Nat.le_of_ble_eq_true rfl) (fun H locs hP hD hS => ?_)
  have hP : va_P Dg classes ((wE a b u v) ++ (wP b k Gs1) ++ (wM u k (sBegin M)) ++ (wM v k (sBegin N))) H := hP
  have hD : va_D (va_A ((wE a b u v) ++ (wP b k G) ++ (wM u k M) ++ (wM v k N)) s.heap.size) ((wE a b u v) ++ (wP b k Gs1) ++ (wM u k (sBegin M)) ++ (wM v k (sBegin N))) := hD
  obtain ⟨Ms2, hMs2⟩ : ∃ z9, z9 = (sBegin M) := ⟨_, rfl⟩
  rw [← hMs2] at hP hD
  obtain ⟨Ns3, hNs3⟩ : ∃ z9, z9 = (sBegin N) := ⟨_, rfl⟩
  rw [← hNs3] at hP hD
  refine lv_iload_n hx hb d_Eng_add_54 rfl (lv_at hl 0 rfl) ?_
  exact km_i F hlocks hret hP hD hS d_Eng_add_55 rfl (by subst hGs1 hMs2 hNs3; rfl)

set_option maxRecDepth 100000 in
set_option maxHeartbeats 4000000 in
theorem c_Eng_change (l : Launch) (Dg : va_G) (a b u v : Nat → Nat) (k : Nat → ClassId) (G M N : vSt) (q vB : Nat) (pl c n : Int32) (H : Heap) (hP : va_P Dg classes ((wE a b u v) ++ (wP b k G) ++ (wM u k M) ++ (wM v k N)) H) (hD : va_D (fun _ => True) ((wE a b u v) ++ (wP b k G) ++ (wM u k M) ++ (wM v k N))) (hha : ¬ sHas G pl = 0) (hal : ¬ sAllow c n = 0) (hp : pOk G) : kMv l y_Eng_change b_Eng_change 4 5 107 [.ref (a 0), .int pl, .int c, .int n] H (kaX Dg k q vB H) Dg ((wE a b u v) ++ (wP b k G) ++ (wM u k M) ++ (wM v k N)) (wE a b u v ++ wP b k (sRepl G pl c n) ++ wM u k (sBegin M) ++ wM v k (sBegin N)) := by
  refine k_of (by decide) (Nat.le_of_ble_eq_true rfl) ?_
  intro p e s m below meth cd ls F hlocks hret hname hh hX hl
  subst hh
  obtain ⟨hx, hb, hml, hown, hT⟩ := id F
  have hK : va_K Dg classes (kTy k) s := hX.1
  have hA : ∀ q : Nat, s.heap.size ≤ q → va_A ((wE a b u v) ++ (wP b k G) ++ (wM u k M) ++ (wM v k N)) s.heap.size q := fun q h => Or.inr h
  have hD := hD.self (sz := s.heap.size)
  have hS : va_S (va_A ((wE a b u v) ++ (wP b k G) ++ (wM u k M) ++ (wM v k N)) s.heap.size) s.heap s.heap [] := va_S.rf
  have hl : lv_has ls 4 [(0, .ref (a 0)), (1, .int pl), (2, .int c), (3, .int n)] := hl
  refine lv_aload_n hx hb d_Eng_change_0 rfl (lv_at hl 0 rfl) ?_
  refine va_get (D := Dg) (ci := 0) (v := .ref (b 0)) (C := R_Eng) (T := F_Eng) (N := 3) hx hb hT in_Eng hown hK hP 0 rfl rfl 0 (by decide) (hT _ tw1_102) (fun _ h9 => h9) rfl d_Eng_change_1 ?_
  refine lv_iload_n hx hb d_Eng_change_4 rfl (lv_at hl 1 rfl) ?_
  refine kp_V F (c_Prg_has l Dg b k G pl _ (hP.sub (ws' := (wP b k G)) [1, 2, 3, 4, 5, 6] rfl) ) kx_K hK kw_Eng_53 tw2_94 tw2_95 (va_recv (ci := 2) (q0 := 1) hK hP rfl rfl) hS d_Eng_change_5 ⟨⟨by decide, by decide⟩, Nat.le_refl _, Nat.le_refl _⟩ rfl hl.1 rfl (Nat.le_of_ble_eq_true rfl) (fun locs hS => ?_)
  refine lv_if_ne (tgt := 21) hx hb d_Eng_change_8 (by decide) (fun _ => ?_) (fun h9 => absurd h9 hha)
  refine lv_iload_n hx hb d_Eng_change_21 rfl (lv_at hl 2 rfl) ?_
  refine lv_iload_n hx hb d_Eng_change_22 rfl (lv_at hl 3 rfl) ?_
  refine kp_S F (c_Prg_allows l q vB c n _) aX_m hX.2 kw_Eng_26 tw1_182 hS d_Eng_change_23 ⟨⟨by decide, by decide⟩, Nat.le_refl _, Nat.le_refl _⟩ rfl hl.1 rfl (Nat.le_of_ble_eq_true rfl) (fun locs hS => ?_)
  refine lv_if_ne (tgt := 39) hx hb d_Eng_change_26 (by decide) (fun _ => ?_) (fun h9 => absurd h9 hal)
  refine lv_aload_n hx hb d_Eng_change_39 rfl (lv_at hl 0 rfl) ?_
  refine va_get (D := Dg) (ci := 0) (v := .ref (b 0)) (C := R_Eng) (T := F_Eng) (N := 3) hx hb hT in_Eng hown hK hP 0 rfl rfl 0 (by decide) (hT _ tw1_102) (fun _ h9 => h9) rfl d_Eng_change_40 ?_
  refine lv_iload_n hx hb d_Eng_change_43 rfl (lv_at hl 1 rfl) ?_
  refine lv_iload_n hx hb d_Eng_change_44 rfl (lv_at hl 2 rfl) ?_
  refine lv_iload_n hx hb d_Eng_change_45 rfl (lv_at hl 3 rfl) ?_
  refine km_Vv (wr := ((wE a b u v) ++ (wM u k M) ++ (wM v k N))) F (c_Prg_replace l Dg b k G pl c n _ (hP.sub (ws' := (wP b k G)) [1, 2, 3, 4, 5, 6] rfl) ((hD.sub (ws' := (wP b k G)) [1, 2, 3, 4, 5, 6] (by decide) rfl).weaken (fun _ _ _ _ => trivial)) hp (has_in hp hha)) kx_K hK kw_Eng_62 tw2_82 tw2_83 (va_recv (ci := 2) (q0 := 1) hK hP rfl rfl) hP hD hS hA [1, 2, 3, 4, 5, 6] [0, 7, 8, 9, 10, 11, 12, 13, 14, 15, 16] rfl rfl (by decide) (by decide) d_Eng_change_46 ⟨⟨by decide, by decide⟩, Nat.le_refl _, Nat.le_refl _⟩ rfl hl.1 rfl (Nat.le_of_ble_eq_true rfl) (fun H locs hP hD hS => ?_)
  have hP : va_P Dg classes ((wE a b u v) ++ (wM u k M) ++ (wM v k N) ++ (wP b k (sRepl G pl c n))) H := hP
  have hD : va_D (va_A ((wE a b u v) ++ (wP b k G) ++ (wM u k M) ++ (wM v k N)) s.heap.size) ((wE a b u v) ++ (wM u k M) ++ (wM v k N) ++ (wP b k (sRepl G pl c n))) := hD
  obtain ⟨Gs1, hGs1⟩ : ∃ z9, z9 = (sRepl G pl c n) := ⟨_, rfl⟩
  rw [← hGs1] at hP hD
  refine lv_aload_n hx hb d_Eng_change_49 rfl (lv_at hl 0 rfl) ?_
  refine km_Vv (wr := []) F (c_Eng_beginBoth l Dg a b u v k Gs1 M N _ (hP.sub (ws' := ((wE a b u v) ++ (wP b k Gs1) ++ (wM u k M) ++ (wM v k N))) [0, 11, 12, 13, 14, 15, 16, 1, 2, 3, 4, 5, 6, 7, 8, 9, 10] rfl) ((hD.sub (ws' := ((wE a b u v) ++ (wP b k Gs1) ++ (wM u k M) ++ (wM v k N))) [0, 11, 12, 13, 14, 15, 16, 1, 2, 3, 4, 5, 6, 7, 8, 9, 10] (by decide) rfl).weaken (fun _ _ _ _ => trivial))) kx_K hK kw_Eng_50 tw1_122 ts_0 (va_recv (ci := 0) (q0 := 0) hK hP rfl rfl) hP hD hS hA [0, 11, 12, 13, 14, 15, 16, 1, 2, 3, 4, 5, 6, 7, 8, 9, 10] [] rfl rfl (by decide) (by decide) d_Eng_change_50 ⟨⟨by decide, by decide⟩, Nat.le_refl _, Nat.le_refl _⟩ rfl hl.1 rfl (Nat.le_of_ble_eq_true rfl) (fun H locs hP hD hS => ?_)
  have hP : va_P Dg classes ((wE a b u v) ++ (wP b k Gs1) ++ (wM u k (sBegin M)) ++ (wM v k (sBegin N))) H := hP
  have hD : va_D (va_A ((wE a b u v) ++ (wP b k G) ++ (wM u k M) ++ (wM v k N)) s.heap.size) ((wE a b u v) ++ (wP b k Gs1) ++ (wM u k (sBegin M)) ++ (wM v k (sBegin N))) := hD
  obtain ⟨Ms2, hMs2⟩ : ∃ z9, z9 = (sBegin M) := ⟨_, rfl⟩
  rw [← hMs2] at hP hD
  obtain ⟨Ns3, hNs3⟩ : ∃ z9, z9 = (sBegin N) := ⟨_, rfl⟩
  rw [← hNs3] at hP hD
  exact km_v F hlocks hret hP hD hS d_Eng_change_53 (by subst hGs1 hMs2 hNs3; rfl)

set_option maxRecDepth 100000 in
set_option maxHeartbeats 4000000 in
theorem c_Eng_about (l : Launch) (Dg : va_G) (a b u v : Nat → Nat) (k : Nat → ClassId) (G M N : vSt) (z w : Int32) (H : Heap) (hP : va_P Dg classes ((wE a b u v) ++ (wP b k G) ++ (wM u k M) ++ (wM v k N)) H) : kPu l y_Eng_about b_Eng_about 3 (some FieldType.int) 1 21 [.ref (a 0), .int z, .int w] H (va_K Dg classes (kTy k)) (sFact (if z = 0 then M else N) w) := by
  refine k_of (by decide) (Nat.le_of_ble_eq_true rfl) ?_
  intro p e s m below meth cd ls F hlocks hret hname hh hX hl
  subst hh
  obtain ⟨hx, hb, hml, hown, hT⟩ := id F
  have hK : va_K Dg classes (kTy k) s := hX
  have hS : va_S (fun _ => False) s.heap s.heap [] := va_S.rf
  have hl : lv_has ls 3 [(0, .ref (a 0)), (1, .int z), (2, .int w)] := hl
  by_cases hz : z = 0
  · refine lv_aload_n hx hb d_Eng_about_0 rfl (lv_at hl 0 rfl) ?_
    refine lv_iload_n hx hb d_Eng_about_1 rfl (lv_at hl 1 rfl) ?_
    refine kp_Vr F (c_Eng_machineOf l Dg a b u v k G M N z _ hP) kx_K hK kw_Eng_84 tw1_166 ts_3 (va_recv (ci := 0) (q0 := 0) hK hP rfl rfl) hS d_Eng_about_2 ⟨⟨by decide, by decide⟩, Nat.zero_le _, Nat.zero_le _⟩ rfl hl.1 rfl (Nat.le_of_ble_eq_true rfl) (fun locs hS => ?_)
    rw [show (if z = 0 then u 0 else v 0) = u 0 from if_pos hz]
    refine lv_iload_n hx hb d_Eng_about_5 rfl (lv_at hl 2 rfl) ?_
    refine kp_V F (c_Mac_factOf l Dg u k M w _ (hP.sub (ws' := (wM u k M)) [7, 8, 9, 10, 11] rfl) ) kx_K hK kw_Eng_92 tw1_169 tw1_170 (va_recv (ci := 1) (q0 := 7) hK hP rfl rfl) hS d_Eng_about_6 ⟨⟨by decide, by decide⟩, Nat.le_refl _, Nat.le_refl _⟩ rfl hl.1 rfl (Nat.le_of_ble_eq_true rfl) (fun locs hS => ?_)
    exact kp_i F hlocks hret hS d_Eng_about_9 (by rw [if_pos hz])
  · refine lv_aload_n hx hb d_Eng_about_0 rfl (lv_at hl 0 rfl) ?_
    refine lv_iload_n hx hb d_Eng_about_1 rfl (lv_at hl 1 rfl) ?_
    refine kp_Vr F (c_Eng_machineOf l Dg a b u v k G M N z _ hP) kx_K hK kw_Eng_84 tw1_166 ts_3 (va_recv (ci := 0) (q0 := 0) hK hP rfl rfl) hS d_Eng_about_2 ⟨⟨by decide, by decide⟩, Nat.zero_le _, Nat.zero_le _⟩ rfl hl.1 rfl (Nat.le_of_ble_eq_true rfl) (fun locs hS => ?_)
    rw [show (if z = 0 then u 0 else v 0) = v 0 from if_neg hz]
    refine lv_iload_n hx hb d_Eng_about_5 rfl (lv_at hl 2 rfl) ?_
    refine kp_V F (c_Mac_factOf l Dg v k N w _ (hP.sub (ws' := (wM v k N)) [12, 13, 14, 15, 16] rfl) ) kx_K hK kw_Eng_92 tw1_169 tw1_170 (va_recv (ci := 1) (q0 := 12) hK hP rfl rfl) hS d_Eng_about_6 ⟨⟨by decide, by decide⟩, Nat.le_refl _, Nat.le_refl _⟩ rfl hl.1 rfl (Nat.le_of_ble_eq_true rfl) (fun locs hS => ?_)
    exact kp_i F hlocks hret hS d_Eng_about_9 (by rw [if_neg hz])

set_option maxRecDepth 100000 in
set_option maxHeartbeats 4000000 in
theorem c_Eng_run (l : Launch) (Dg : va_G) (a b u v : Nat → Nat) (k : Nat → ClassId) (G M N : vSt) (z n : Int32) (H : Heap) (hP : va_P Dg classes ((wE a b u v) ++ (wP b k G) ++ (wM u k M) ++ (wM v k N)) H) (hD : va_D (fun _ => True) ((wE a b u v) ++ (wP b k G) ++ (wM u k M) ++ (wM v k N))) (hfu : z = 0 ∨ ¬ G 5 1 = 0) (hro : runOk G z (sMost n) (if z = 0 then M else N)) : kMi l y_Eng_run b_Eng_run 3 (some FieldType.int) 5 118 [.ref (a 0), .int z, .int n] H (va_K Dg classes (kTy k)) Dg ((wE a b u v) ++ (wP b k G) ++ (wM u k M) ++ (wM v k N)) (wE a b u v ++ wP b k G ++ wM u k (if z = 0 then sRunM G M z n else M) ++ wM v k (if z = 0 then N else sRunM G N z n)) (sRunR G (if z = 0 then M else N) z n) := by
  refine k_of (by decide) (Nat.le_of_ble_eq_true rfl) ?_
  intro p e s m below meth cd ls F hlocks hret hname hh hX hl
  subst hh
  obtain ⟨hx, hb, hml, hown, hT⟩ := id F
  have hK : va_K Dg classes (kTy k) s := hX
  have hA : ∀ q : Nat, s.heap.size ≤ q → va_A ((wE a b u v) ++ (wP b k G) ++ (wM u k M) ++ (wM v k N)) s.heap.size q := fun q h => Or.inr h
  have hD := hD.self (sz := s.heap.size)
  have hS : va_S (va_A ((wE a b u v) ++ (wP b k G) ++ (wM u k M) ++ (wM v k N)) s.heap.size) s.heap s.heap [] := va_S.rf
  have hl : lv_has ls 3 [(0, .ref (a 0)), (1, .int z), (2, .int n)] := hl
  by_cases hz : z = 0
  · refine lv_iload_n hx hb d_Eng_run_0 rfl (lv_at hl 1 rfl) ?_
    refine lv_if_eq (tgt := 24) hx hb d_Eng_run_1 (by decide) (fun _ => ?_) (fun h9 => absurd hz h9)
    refine lv_aload_n hx hb d_Eng_run_24 rfl (lv_at hl 0 rfl) ?_
    refine lv_iload_n hx hb d_Eng_run_25 rfl (lv_at hl 1 rfl) ?_
    refine kp_Vr F (c_Eng_machineOf l Dg a b u v k G M N z _ hP) kx_K hK kw_Eng_84 tw1_166 ts_3 (va_recv (ci := 0) (q0 := 0) hK hP rfl rfl) hS d_Eng_run_26 ⟨⟨by decide, by decide⟩, Nat.zero_le _, Nat.zero_le _⟩ rfl hl.1 rfl (Nat.le_of_ble_eq_true rfl) (fun locs hS => ?_)
    rw [show (if z = 0 then u 0 else v 0) = u 0 from if_pos hz]
    refine lv_aload_n hx hb d_Eng_run_29 rfl (lv_at hl 0 rfl) ?_
    refine va_get (D := Dg) (ci := 0) (v := .ref (b 0)) (C := R_Eng) (T := F_Eng) (N := 3) hx hb hT in_Eng hown hK hP 0 rfl rfl 0 (by decide) (hT _ tw1_102) (fun _ h9 => h9) rfl d_Eng_run_30 ?_
    refine lv_iload_n hx hb d_Eng_run_33 rfl (lv_at hl 1 rfl) ?_
    refine lv_iload_n hx hb d_Eng_run_34 rfl (lv_at hl 2 rfl) ?_
    refine km_Vi (wr := ((wE a b u v) ++ (wM v k N))) F (c_Mac_goOn l Dg u b k M G z n _ (hP.sub (ws' := ((wM u k M) ++ (wP b k G))) [7, 8, 9, 10, 11, 1, 2, 3, 4, 5, 6] rfl) ((hD.sub (ws' := ((wM u k M) ++ (wP b k G))) [7, 8, 9, 10, 11, 1, 2, 3, 4, 5, 6] (by decide) rfl).weaken (fun _ _ _ _ => trivial)) (by rw [if_pos hz] at hro; exact hro)) kx_K hK kw_Eng_88 tw2_144 tw2_145 (va_recv (ci := 1) (q0 := 7) hK hP rfl rfl) hP hD hS hA [7, 8, 9, 10, 11, 1, 2, 3, 4, 5, 6] [0, 12, 13, 14, 15, 16] rfl rfl (by decide) (by decide) d_Eng_run_35 ⟨⟨by decide, by decide⟩, Nat.le_refl _, Nat.le_refl _⟩ rfl hl.1 rfl (Nat.le_of_ble_eq_true rfl) (fun H locs hP hD hS => ?_)
    have hP : va_P Dg classes ((wE a b u v) ++ (wM v k N) ++ (wM u k (sRunM G M z n)) ++ (wP b k G)) H := hP
    have hD : va_D (va_A ((wE a b u v) ++ (wP b k G) ++ (wM u k M) ++ (wM v k N)) s.heap.size) ((wE a b u v) ++ (wM v k N) ++ (wM u k (sRunM G M z n)) ++ (wP b k G)) := hD
    obtain ⟨Ms1, hMs1⟩ : ∃ z9, z9 = (sRunM G M z n) := ⟨_, rfl⟩
    rw [← hMs1] at hP hD
    have hP := hP.sub (ws' := (wE a b u v) ++ (wP b k G) ++ (wM u k Ms1) ++ (wM v k N)) [0, 11, 12, 13, 14, 15, 16, 6, 7, 8, 9, 10, 1, 2, 3, 4, 5] rfl
    have hD := hD.sub (ws' := (wE a b u v) ++ (wP b k G) ++ (wM u k Ms1) ++ (wM v k N)) [0, 11, 12, 13, 14, 15, 16, 6, 7, 8, 9, 10, 1, 2, 3, 4, 5] (by decide) rfl
    exact km_i F hlocks hret hP hD hS d_Eng_run_38 (by rw [if_pos hz]) (by subst hMs1; rw [if_pos hz, if_pos hz])
  · refine lv_iload_n hx hb d_Eng_run_0 rfl (lv_at hl 1 rfl) ?_
    refine lv_if_eq (tgt := 24) hx hb d_Eng_run_1 (by decide) (fun h9 => absurd h9 hz) (fun _ => ?_)
    refine lv_aload_n hx hb d_Eng_run_4 rfl (lv_at hl 0 rfl) ?_
    refine va_get (D := Dg) (ci := 0) (v := .ref (b 0)) (C := R_Eng) (T := F_Eng) (N := 3) hx hb hT in_Eng hown hK hP 0 rfl rfl 0 (by decide) (hT _ tw1_102) (fun _ h9 => h9) rfl d_Eng_run_5 ?_
    refine va_get (D := Dg) (ci := 2) (v := .int (G 5 1)) (C := R_Prg) (T := F_Prg) (N := 7) hx hb hT in_Prg hown hK hP 1 rfl rfl 6 (by decide) (hT _ tw1_43) (fun _ h9 => h9) rfl d_Eng_run_8 ?_
    refine lv_if_ne (tgt := 24) hx hb d_Eng_run_11 (by decide) (fun _ => ?_) (fun h9 => absurd h9 (hfu.resolve_left hz))
    refine lv_aload_n hx hb d_Eng_run_24 rfl (lv_at hl 0 rfl) ?_
    refine lv_iload_n hx hb d_Eng_run_25 rfl (lv_at hl 1 rfl) ?_
    refine kp_Vr F (c_Eng_machineOf l Dg a b u v k G M N z _ hP) kx_K hK kw_Eng_84 tw1_166 ts_3 (va_recv (ci := 0) (q0 := 0) hK hP rfl rfl) hS d_Eng_run_26 ⟨⟨by decide, by decide⟩, Nat.zero_le _, Nat.zero_le _⟩ rfl hl.1 rfl (Nat.le_of_ble_eq_true rfl) (fun locs hS => ?_)
    rw [show (if z = 0 then u 0 else v 0) = v 0 from if_neg hz]
    refine lv_aload_n hx hb d_Eng_run_29 rfl (lv_at hl 0 rfl) ?_
    refine va_get (D := Dg) (ci := 0) (v := .ref (b 0)) (C := R_Eng) (T := F_Eng) (N := 3) hx hb hT in_Eng hown hK hP 0 rfl rfl 0 (by decide) (hT _ tw1_102) (fun _ h9 => h9) rfl d_Eng_run_30 ?_
    refine lv_iload_n hx hb d_Eng_run_33 rfl (lv_at hl 1 rfl) ?_
    refine lv_iload_n hx hb d_Eng_run_34 rfl (lv_at hl 2 rfl) ?_
    refine km_Vi (wr := ((wE a b u v) ++ (wM u k M))) F (c_Mac_goOn l Dg v b k N G z n _ (hP.sub (ws' := ((wM v k N) ++ (wP b k G))) [12, 13, 14, 15, 16, 1, 2, 3, 4, 5, 6] rfl) ((hD.sub (ws' := ((wM v k N) ++ (wP b k G))) [12, 13, 14, 15, 16, 1, 2, 3, 4, 5, 6] (by decide) rfl).weaken (fun _ _ _ _ => trivial)) (by rw [if_neg hz] at hro; exact hro)) kx_K hK kw_Eng_88 tw2_144 tw2_145 (va_recv (ci := 1) (q0 := 12) hK hP rfl rfl) hP hD hS hA [12, 13, 14, 15, 16, 1, 2, 3, 4, 5, 6] [0, 7, 8, 9, 10, 11] rfl rfl (by decide) (by decide) d_Eng_run_35 ⟨⟨by decide, by decide⟩, Nat.le_refl _, Nat.le_refl _⟩ rfl hl.1 rfl (Nat.le_of_ble_eq_true rfl) (fun H locs hP hD hS => ?_)
    have hP : va_P Dg classes ((wE a b u v) ++ (wM u k M) ++ (wM v k (sRunM G N z n)) ++ (wP b k G)) H := hP
    have hD : va_D (va_A ((wE a b u v) ++ (wP b k G) ++ (wM u k M) ++ (wM v k N)) s.heap.size) ((wE a b u v) ++ (wM u k M) ++ (wM v k (sRunM G N z n)) ++ (wP b k G)) := hD
    obtain ⟨Ns2, hNs2⟩ : ∃ z9, z9 = (sRunM G N z n) := ⟨_, rfl⟩
    rw [← hNs2] at hP hD
    have hP := hP.sub (ws' := (wE a b u v) ++ (wP b k G) ++ (wM u k M) ++ (wM v k Ns2)) [0, 11, 12, 13, 14, 15, 16, 1, 2, 3, 4, 5, 6, 7, 8, 9, 10] rfl
    have hD := hD.sub (ws' := (wE a b u v) ++ (wP b k G) ++ (wM u k M) ++ (wM v k Ns2)) [0, 11, 12, 13, 14, 15, 16, 1, 2, 3, 4, 5, 6, 7, 8, 9, 10] (by decide) rfl
    exact km_i F hlocks hret hP hD hS d_Eng_run_38 (by rw [if_neg hz]) (by subst hNs2; rw [if_neg hz, if_neg hz])

set_option maxRecDepth 100000 in
set_option maxHeartbeats 4000000 in
theorem c_Eng_look (l : Launch) (Dg : va_G) (a b u v : Nat → Nat) (k : Nat → ClassId) (G M N : vSt) (pl w : Int32) (H : Heap) (hP : va_P Dg classes ((wE a b u v) ++ (wP b k G) ++ (wM u k M) ++ (wM v k N)) H) (hha : ¬ sHas G pl = 0) (hw0 : ¬ w < 0) (hw3 : w ≤ 3) (hfu : w = 2 → ¬ G 5 1 = 0) (hp : pOk G) : kPu l y_Eng_look b_Eng_look 3 (some FieldType.int) 1 22 [.ref (a 0), .int pl, .int w] H (va_K Dg classes (kTy k)) (sPFact G pl w) := by
  refine k_of (by decide) (Nat.le_of_ble_eq_true rfl) ?_
  intro p e s m below meth cd ls F hlocks hret hname hh hX hl
  subst hh
  obtain ⟨hx, hb, hml, hown, hT⟩ := id F
  have hK : va_K Dg classes (kTy k) s := hX
  have hS : va_S (fun _ => False) s.heap s.heap [] := va_S.rf
  have hl : lv_has ls 3 [(0, .ref (a 0)), (1, .int pl), (2, .int w)] := hl
  refine lv_aload_n hx hb d_Eng_look_0 rfl (lv_at hl 0 rfl) ?_
  refine va_get (D := Dg) (ci := 0) (v := .ref (b 0)) (C := R_Eng) (T := F_Eng) (N := 3) hx hb hT in_Eng hown hK hP 0 rfl rfl 0 (by decide) (hT _ tw1_102) (fun _ h9 => h9) rfl d_Eng_look_1 ?_
  refine lv_iload_n hx hb d_Eng_look_4 rfl (lv_at hl 1 rfl) ?_
  refine kp_V F (c_Prg_has l Dg b k G pl _ (hP.sub (ws' := (wP b k G)) [1, 2, 3, 4, 5, 6] rfl) ) kx_K hK kw_Eng_53 tw2_94 tw2_95 (va_recv (ci := 2) (q0 := 1) hK hP rfl rfl) hS d_Eng_look_5 ⟨⟨by decide, by decide⟩, Nat.le_refl _, Nat.le_refl _⟩ rfl hl.1 rfl (Nat.le_of_ble_eq_true rfl) (fun locs hS => ?_)
  refine lv_if_ne (tgt := 21) hx hb d_Eng_look_8 (by decide) (fun _ => ?_) (fun h9 => absurd h9 hha)
  refine lv_iload_n hx hb d_Eng_look_21 rfl (lv_at hl 2 rfl) ?_
  refine lv_if_lt (tgt := 30) hx hb d_Eng_look_22 (by decide) (fun h9 => absurd h9 hw0) (fun _ => ?_)
  refine lv_iload_n hx hb d_Eng_look_25 rfl (lv_at hl 2 rfl) ?_
  refine lv_iconst (v := 3) hx hb d_Eng_look_26 (by decide) ?_
  refine lv_icmp_le (tgt := 40) hx hb d_Eng_look_27 (by decide) (fun _ => ?_) (fun h9 => absurd hw3 h9)
  refine lv_iload_n hx hb d_Eng_look_40 rfl (lv_at hl 2 rfl) ?_
  refine lv_iconst (v := 2) hx hb d_Eng_look_41 (by decide) ?_
  refine lv_icmp_ne (tgt := 65) hx hb d_Eng_look_42 (by decide) (fun h42 => ?_) (fun h42 => ?_)
  · refine lv_aload_n hx hb d_Eng_look_65 rfl (lv_at hl 0 rfl) ?_
    refine va_get (D := Dg) (ci := 0) (v := .ref (b 0)) (C := R_Eng) (T := F_Eng) (N := 3) hx hb hT in_Eng hown hK hP 0 rfl rfl 0 (by decide) (hT _ tw1_102) (fun _ h9 => h9) rfl d_Eng_look_66 ?_
    refine lv_iload_n hx hb d_Eng_look_69 rfl (lv_at hl 1 rfl) ?_
    refine lv_iload_n hx hb d_Eng_look_70 rfl (lv_at hl 2 rfl) ?_
    refine kp_V F (c_Prg_factOf l Dg b k G pl w _ (hP.sub (ws' := (wP b k G)) [1, 2, 3, 4, 5, 6] rfl) (has_in hp hha)) kx_K hK kw_Eng_81 tw2_133 tw2_134 (va_recv (ci := 2) (q0 := 1) hK hP rfl rfl) hS d_Eng_look_71 ⟨⟨by decide, by decide⟩, Nat.le_refl _, Nat.le_refl _⟩ rfl hl.1 rfl (Nat.le_of_ble_eq_true rfl) (fun locs hS => ?_)
    exact kp_i F hlocks hret hS d_Eng_look_74 rfl
  · refine lv_aload_n hx hb d_Eng_look_45 rfl (lv_at hl 0 rfl) ?_
    refine va_get (D := Dg) (ci := 0) (v := .ref (b 0)) (C := R_Eng) (T := F_Eng) (N := 3) hx hb hT in_Eng hown hK hP 0 rfl rfl 0 (by decide) (hT _ tw1_102) (fun _ h9 => h9) rfl d_Eng_look_46 ?_
    refine va_get (D := Dg) (ci := 2) (v := .int (G 5 1)) (C := R_Prg) (T := F_Prg) (N := 7) hx hb hT in_Prg hown hK hP 1 rfl rfl 6 (by decide) (hT _ tw1_43) (fun _ h9 => h9) rfl d_Eng_look_49 ?_
    refine lv_if_ne (tgt := 65) hx hb d_Eng_look_52 (by decide) (fun _ => ?_) (fun h9 => absurd h9 (hfu h42))
    refine lv_aload_n hx hb d_Eng_look_65 rfl (lv_at hl 0 rfl) ?_
    refine va_get (D := Dg) (ci := 0) (v := .ref (b 0)) (C := R_Eng) (T := F_Eng) (N := 3) hx hb hT in_Eng hown hK hP 0 rfl rfl 0 (by decide) (hT _ tw1_102) (fun _ h9 => h9) rfl d_Eng_look_66 ?_
    refine lv_iload_n hx hb d_Eng_look_69 rfl (lv_at hl 1 rfl) ?_
    refine lv_iload_n hx hb d_Eng_look_70 rfl (lv_at hl 2 rfl) ?_
    refine kp_V F (c_Prg_factOf l Dg b k G pl w _ (hP.sub (ws' := (wP b k G)) [1, 2, 3, 4, 5, 6] rfl) (has_in hp hha)) kx_K hK kw_Eng_81 tw2_133 tw2_134 (va_recv (ci := 2) (q0 := 1) hK hP rfl rfl) hS d_Eng_look_71 ⟨⟨by decide, by decide⟩, Nat.le_refl _, Nat.le_refl _⟩ rfl hl.1 rfl (Nat.le_of_ble_eq_true rfl) (fun locs hS => ?_)
    exact kp_i F hlocks hret hS d_Eng_look_74 rfl

set_option maxRecDepth 100000 in
set_option maxHeartbeats 4000000 in
theorem c_Eng_stack (l : Launch) (Dg : va_G) (a b u v : Nat → Nat) (k : Nat → ClassId) (G M N : vSt) (z i : Int32) (H : Heap) (hP : va_P Dg classes ((wE a b u v) ++ (wP b k G) ++ (wM u k M) ++ (wM v k N)) H) (h0 : ¬ i < 0) (h1 : i < (if z = 0 then M else N) 4 0) (hin : vp_in i 40) : kPu l y_Eng_stack b_Eng_stack 4 (some FieldType.int) 1 21 [.ref (a 0), .int z, .int i] H (va_K Dg classes (kTy k)) ((if z = 0 then M else N) 0 i.toNatClampNeg) := by
  refine k_of (by decide) (Nat.le_of_ble_eq_true rfl) ?_
  intro p e s m below meth cd ls F hlocks hret hname hh hX hl
  subst hh
  obtain ⟨hx, hb, hml, hown, hT⟩ := id F
  have hK : va_K Dg classes (kTy k) s := hX
  have hS : va_S (fun _ => False) s.heap s.heap [] := va_S.rf
  have hl : lv_has ls 4 [(0, .ref (a 0)), (1, .int z), (2, .int i)] := hl
  by_cases hz : z = 0
  · refine lv_aload_n hx hb d_Eng_stack_0 rfl (lv_at hl 0 rfl) ?_
    refine lv_iload_n hx hb d_Eng_stack_1 rfl (lv_at hl 1 rfl) ?_
    refine kp_Vr F (c_Eng_machineOf l Dg a b u v k G M N z _ hP) kx_K hK kw_Eng_84 tw1_166 ts_3 (va_recv (ci := 0) (q0 := 0) hK hP rfl rfl) hS d_Eng_stack_2 ⟨⟨by decide, by decide⟩, Nat.zero_le _, Nat.zero_le _⟩ rfl hl.1 rfl (Nat.le_of_ble_eq_true rfl) (fun locs hS => ?_)
    rw [show (if z = 0 then u 0 else v 0) = u 0 from if_pos hz]
    refine lv_astore_n hx hb d_Eng_stack_5 rfl hl (by decide) rfl (fun ls hl => ?_)
    have hl : lv_has ls 4 [(3, .ref (u 0)), (0, .ref (a 0)), (1, .int z), (2, .int i)] := hl
    refine lv_iload_n hx hb d_Eng_stack_6 rfl (lv_at hl 3 rfl) ?_
    refine lv_if_lt (tgt := 18) hx hb d_Eng_stack_7 (by decide) (fun h9 => absurd h9 h0) (fun _ => ?_)
    refine lv_iload_n hx hb d_Eng_stack_10 rfl (lv_at hl 3 rfl) ?_
    refine lv_aload_n hx hb d_Eng_stack_11 rfl (lv_at hl 0 rfl) ?_
    refine va_get (D := Dg) (ci := 1) (v := .int (M 4 0)) (C := R_Mac) (T := F_Mac) (N := 10) hx hb hT in_Mac hown hK hP 7 rfl rfl 4 (by decide) (hT _ tw1_75) (fun _ h9 => h9) rfl d_Eng_stack_12 ?_
    refine lv_icmp_lt (tgt := 28) hx hb d_Eng_stack_15 (by decide) (fun _ => ?_) (fun h9 => absurd (by rw [if_pos hz] at h1; exact h1) h9)
    refine lv_aload_n hx hb d_Eng_stack_28 rfl (lv_at hl 0 rfl) ?_
    refine va_get (D := Dg) (ci := 1) (v := .ref (u 1)) (C := R_Mac) (T := F_Mac) (N := 10) hx hb hT in_Mac hown hK hP 7 rfl rfl 0 (by decide) (hT _ tw1_68) (fun _ h9 => h9) rfl d_Eng_stack_29 ?_
    refine lv_iload_n hx hb d_Eng_stack_32 rfl (lv_at hl 3 rfl) ?_
    refine va_iald (f := (M 0)) hx hb hK hP 8 0 rfl rfl hin d_Eng_stack_33 ?_
    exact kp_i F hlocks hret hS d_Eng_stack_34 (by rw [if_pos hz])
  · refine lv_aload_n hx hb d_Eng_stack_0 rfl (lv_at hl 0 rfl) ?_
    refine lv_iload_n hx hb d_Eng_stack_1 rfl (lv_at hl 1 rfl) ?_
    refine kp_Vr F (c_Eng_machineOf l Dg a b u v k G M N z _ hP) kx_K hK kw_Eng_84 tw1_166 ts_3 (va_recv (ci := 0) (q0 := 0) hK hP rfl rfl) hS d_Eng_stack_2 ⟨⟨by decide, by decide⟩, Nat.zero_le _, Nat.zero_le _⟩ rfl hl.1 rfl (Nat.le_of_ble_eq_true rfl) (fun locs hS => ?_)
    rw [show (if z = 0 then u 0 else v 0) = v 0 from if_neg hz]
    refine lv_astore_n hx hb d_Eng_stack_5 rfl hl (by decide) rfl (fun ls hl => ?_)
    have hl : lv_has ls 4 [(3, .ref (v 0)), (0, .ref (a 0)), (1, .int z), (2, .int i)] := hl
    refine lv_iload_n hx hb d_Eng_stack_6 rfl (lv_at hl 3 rfl) ?_
    refine lv_if_lt (tgt := 18) hx hb d_Eng_stack_7 (by decide) (fun h9 => absurd h9 h0) (fun _ => ?_)
    refine lv_iload_n hx hb d_Eng_stack_10 rfl (lv_at hl 3 rfl) ?_
    refine lv_aload_n hx hb d_Eng_stack_11 rfl (lv_at hl 0 rfl) ?_
    refine va_get (D := Dg) (ci := 1) (v := .int (N 4 0)) (C := R_Mac) (T := F_Mac) (N := 10) hx hb hT in_Mac hown hK hP 12 rfl rfl 4 (by decide) (hT _ tw1_75) (fun _ h9 => h9) rfl d_Eng_stack_12 ?_
    refine lv_icmp_lt (tgt := 28) hx hb d_Eng_stack_15 (by decide) (fun _ => ?_) (fun h9 => absurd (by rw [if_neg hz] at h1; exact h1) h9)
    refine lv_aload_n hx hb d_Eng_stack_28 rfl (lv_at hl 0 rfl) ?_
    refine va_get (D := Dg) (ci := 1) (v := .ref (v 1)) (C := R_Mac) (T := F_Mac) (N := 10) hx hb hT in_Mac hown hK hP 12 rfl rfl 0 (by decide) (hT _ tw1_68) (fun _ h9 => h9) rfl d_Eng_stack_29 ?_
    refine lv_iload_n hx hb d_Eng_stack_32 rfl (lv_at hl 3 rfl) ?_
    refine va_iald (f := (N 0)) hx hb hK hP 13 0 rfl rfl hin d_Eng_stack_33 ?_
    exact kp_i F hlocks hret hS d_Eng_stack_34 (by rw [if_neg hz])

set_option maxRecDepth 100000 in
set_option maxHeartbeats 4000000 in
theorem c_Eng_local (l : Launch) (Dg : va_G) (a b u v : Nat → Nat) (k : Nat → ClassId) (G M N : vSt) (z i : Int32) (H : Heap) (hP : va_P Dg classes ((wE a b u v) ++ (wP b k G) ++ (wM u k M) ++ (wM v k N)) H) (h0 : ¬ i < 0) (h1 : i < 8) (hin : vp_in i 8) : kPu l y_Eng_local b_Eng_local 3 (some FieldType.int) 1 21 [.ref (a 0), .int z, .int i] H (va_K Dg classes (kTy k)) ((if z = 0 then M else N) 1 i.toNatClampNeg) := by
  refine k_of (by decide) (Nat.le_of_ble_eq_true rfl) ?_
  intro p e s m below meth cd ls F hlocks hret hname hh hX hl
  subst hh
  obtain ⟨hx, hb, hml, hown, hT⟩ := id F
  have hK : va_K Dg classes (kTy k) s := hX
  have hS : va_S (fun _ => False) s.heap s.heap [] := va_S.rf
  have hl : lv_has ls 3 [(0, .ref (a 0)), (1, .int z), (2, .int i)] := hl
  by_cases hz : z = 0
  · refine lv_iload_n hx hb d_Eng_local_0 rfl (lv_at hl 2 rfl) ?_
    refine lv_if_lt (tgt := 10) hx hb d_Eng_local_1 (by decide) (fun h9 => absurd h9 h0) (fun _ => ?_)
    refine lv_iload_n hx hb d_Eng_local_4 rfl (lv_at hl 2 rfl) ?_
    refine lv_bipush (v := 8) hx hb d_Eng_local_5 (by decide) ?_
    refine lv_icmp_lt (tgt := 20) hx hb d_Eng_local_7 (by decide) (fun _ => ?_) (fun h9 => absurd h1 h9)
    refine lv_aload_n hx hb d_Eng_local_20 rfl (lv_at hl 0 rfl) ?_
    refine lv_iload_n hx hb d_Eng_local_21 rfl (lv_at hl 1 rfl) ?_
    refine kp_Vr F (c_Eng_machineOf l Dg a b u v k G M N z _ hP) kx_K hK kw_Eng_84 tw1_166 ts_3 (va_recv (ci := 0) (q0 := 0) hK hP rfl rfl) hS d_Eng_local_22 ⟨⟨by decide, by decide⟩, Nat.zero_le _, Nat.zero_le _⟩ rfl hl.1 rfl (Nat.le_of_ble_eq_true rfl) (fun locs hS => ?_)
    rw [show (if z = 0 then u 0 else v 0) = u 0 from if_pos hz]
    refine va_get (D := Dg) (ci := 1) (v := .ref (u 2)) (C := R_Mac) (T := F_Mac) (N := 10) hx hb hT in_Mac hown hK hP 7 rfl rfl 1 (by decide) (hT _ tw1_70) (fun _ h9 => h9) rfl d_Eng_local_25 ?_
    refine lv_iload_n hx hb d_Eng_local_28 rfl (lv_at hl 2 rfl) ?_
    refine va_iald (f := (M 1)) hx hb hK hP 9 0 rfl rfl hin d_Eng_local_29 ?_
    exact kp_i F hlocks hret hS d_Eng_local_30 (by rw [if_pos hz])
  · refine lv_iload_n hx hb d_Eng_local_0 rfl (lv_at hl 2 rfl) ?_
    refine lv_if_lt (tgt := 10) hx hb d_Eng_local_1 (by decide) (fun h9 => absurd h9 h0) (fun _ => ?_)
    refine lv_iload_n hx hb d_Eng_local_4 rfl (lv_at hl 2 rfl) ?_
    refine lv_bipush (v := 8) hx hb d_Eng_local_5 (by decide) ?_
    refine lv_icmp_lt (tgt := 20) hx hb d_Eng_local_7 (by decide) (fun _ => ?_) (fun h9 => absurd h1 h9)
    refine lv_aload_n hx hb d_Eng_local_20 rfl (lv_at hl 0 rfl) ?_
    refine lv_iload_n hx hb d_Eng_local_21 rfl (lv_at hl 1 rfl) ?_
    refine kp_Vr F (c_Eng_machineOf l Dg a b u v k G M N z _ hP) kx_K hK kw_Eng_84 tw1_166 ts_3 (va_recv (ci := 0) (q0 := 0) hK hP rfl rfl) hS d_Eng_local_22 ⟨⟨by decide, by decide⟩, Nat.zero_le _, Nat.zero_le _⟩ rfl hl.1 rfl (Nat.le_of_ble_eq_true rfl) (fun locs hS => ?_)
    rw [show (if z = 0 then u 0 else v 0) = v 0 from if_neg hz]
    refine va_get (D := Dg) (ci := 1) (v := .ref (v 2)) (C := R_Mac) (T := F_Mac) (N := 10) hx hb hT in_Mac hown hK hP 12 rfl rfl 1 (by decide) (hT _ tw1_70) (fun _ h9 => h9) rfl d_Eng_local_25 ?_
    refine lv_iload_n hx hb d_Eng_local_28 rfl (lv_at hl 2 rfl) ?_
    refine va_iald (f := (N 1)) hx hb hK hP 14 0 rfl rfl hin d_Eng_local_29 ?_
    exact kp_i F hlocks hret hS d_Eng_local_30 (by rw [if_neg hz])

set_option maxRecDepth 100000 in
set_option maxHeartbeats 4000000 in
theorem c_Eng_out (l : Launch) (Dg : va_G) (a b u v : Nat → Nat) (k : Nat → ClassId) (G M N : vSt) (z i : Int32) (H : Heap) (hP : va_P Dg classes ((wE a b u v) ++ (wP b k G) ++ (wM u k M) ++ (wM v k N)) H) (h0 : ¬ i < 0) (h1 : i < sMin ((if z = 0 then M else N) 4 2) 60) (hin : vp_in i 60) : kPu l y_Eng_out b_Eng_out 4 (some FieldType.int) 2 54 [.ref (a 0), .int z, .int i] H (va_K Dg classes (kTy k)) ((if z = 0 then M else N) 2 i.toNatClampNeg) := by
  refine k_of (by decide) (Nat.le_of_ble_eq_true rfl) ?_
  intro p e s m below meth cd ls F hlocks hret hname hh hX hl
  subst hh
  obtain ⟨hx, hb, hml, hown, hT⟩ := id F
  have hK : va_K Dg classes (kTy k) s := hX
  have hS : va_S (fun _ => False) s.heap s.heap [] := va_S.rf
  have hl : lv_has ls 4 [(0, .ref (a 0)), (1, .int z), (2, .int i)] := hl
  by_cases hz : z = 0
  · refine lv_aload_n hx hb d_Eng_out_0 rfl (lv_at hl 0 rfl) ?_
    refine lv_iload_n hx hb d_Eng_out_1 rfl (lv_at hl 1 rfl) ?_
    refine kp_Vr F (c_Eng_machineOf l Dg a b u v k G M N z _ hP) kx_K hK kw_Eng_84 tw1_166 ts_3 (va_recv (ci := 0) (q0 := 0) hK hP rfl rfl) hS d_Eng_out_2 ⟨⟨by decide, by decide⟩, Nat.zero_le _, Nat.zero_le _⟩ rfl hl.1 rfl (Nat.le_of_ble_eq_true rfl) (fun locs hS => ?_)
    rw [show (if z = 0 then u 0 else v 0) = u 0 from if_pos hz]
    refine lv_astore_n hx hb d_Eng_out_5 rfl hl (by decide) rfl (fun ls hl => ?_)
    have hl : lv_has ls 4 [(3, .ref (u 0)), (0, .ref (a 0)), (1, .int z), (2, .int i)] := hl
    refine lv_iload_n hx hb d_Eng_out_6 rfl (lv_at hl 3 rfl) ?_
    refine lv_if_lt (tgt := 18) hx hb d_Eng_out_7 (by decide) (fun h9 => absurd h9 h0) (fun _ => ?_)
    refine lv_iload_n hx hb d_Eng_out_10 rfl (lv_at hl 3 rfl) ?_
    refine lv_aload_n hx hb d_Eng_out_11 rfl (lv_at hl 0 rfl) ?_
    refine kp_V F (c_Mac_keptOutputs l Dg u k M  _ (hP.sub (ws' := (wM u k M)) [7, 8, 9, 10, 11] rfl) ) kx_K hK kw_Eng_109 tw2_216 tw2_217 (va_recv (ci := 1) (q0 := 7) hK hP rfl rfl) hS d_Eng_out_12 ⟨⟨by decide, by decide⟩, Nat.le_refl _, Nat.le_refl _⟩ rfl hl.1 rfl (Nat.le_of_ble_eq_true rfl) (fun locs hS => ?_)
    refine lv_icmp_lt (tgt := 28) hx hb d_Eng_out_15 (by decide) (fun _ => ?_) (fun h9 => absurd (by rw [if_pos hz] at h1; exact h1) h9)
    refine lv_aload_n hx hb d_Eng_out_28 rfl (lv_at hl 0 rfl) ?_
    refine va_get (D := Dg) (ci := 1) (v := .ref (u 3)) (C := R_Mac) (T := F_Mac) (N := 10) hx hb hT in_Mac hown hK hP 7 rfl rfl 2 (by decide) (hT _ tw1_72) (fun _ h9 => h9) rfl d_Eng_out_29 ?_
    refine lv_iload_n hx hb d_Eng_out_32 rfl (lv_at hl 3 rfl) ?_
    refine va_iald (f := (M 2)) hx hb hK hP 10 0 rfl rfl hin d_Eng_out_33 ?_
    exact kp_i F hlocks hret hS d_Eng_out_34 (by rw [if_pos hz])
  · refine lv_aload_n hx hb d_Eng_out_0 rfl (lv_at hl 0 rfl) ?_
    refine lv_iload_n hx hb d_Eng_out_1 rfl (lv_at hl 1 rfl) ?_
    refine kp_Vr F (c_Eng_machineOf l Dg a b u v k G M N z _ hP) kx_K hK kw_Eng_84 tw1_166 ts_3 (va_recv (ci := 0) (q0 := 0) hK hP rfl rfl) hS d_Eng_out_2 ⟨⟨by decide, by decide⟩, Nat.zero_le _, Nat.zero_le _⟩ rfl hl.1 rfl (Nat.le_of_ble_eq_true rfl) (fun locs hS => ?_)
    rw [show (if z = 0 then u 0 else v 0) = v 0 from if_neg hz]
    refine lv_astore_n hx hb d_Eng_out_5 rfl hl (by decide) rfl (fun ls hl => ?_)
    have hl : lv_has ls 4 [(3, .ref (v 0)), (0, .ref (a 0)), (1, .int z), (2, .int i)] := hl
    refine lv_iload_n hx hb d_Eng_out_6 rfl (lv_at hl 3 rfl) ?_
    refine lv_if_lt (tgt := 18) hx hb d_Eng_out_7 (by decide) (fun h9 => absurd h9 h0) (fun _ => ?_)
    refine lv_iload_n hx hb d_Eng_out_10 rfl (lv_at hl 3 rfl) ?_
    refine lv_aload_n hx hb d_Eng_out_11 rfl (lv_at hl 0 rfl) ?_
    refine kp_V F (c_Mac_keptOutputs l Dg v k N  _ (hP.sub (ws' := (wM v k N)) [12, 13, 14, 15, 16] rfl) ) kx_K hK kw_Eng_109 tw2_216 tw2_217 (va_recv (ci := 1) (q0 := 12) hK hP rfl rfl) hS d_Eng_out_12 ⟨⟨by decide, by decide⟩, Nat.le_refl _, Nat.le_refl _⟩ rfl hl.1 rfl (Nat.le_of_ble_eq_true rfl) (fun locs hS => ?_)
    refine lv_icmp_lt (tgt := 28) hx hb d_Eng_out_15 (by decide) (fun _ => ?_) (fun h9 => absurd (by rw [if_neg hz] at h1; exact h1) h9)
    refine lv_aload_n hx hb d_Eng_out_28 rfl (lv_at hl 0 rfl) ?_
    refine va_get (D := Dg) (ci := 1) (v := .ref (v 3)) (C := R_Mac) (T := F_Mac) (N := 10) hx hb hT in_Mac hown hK hP 12 rfl rfl 2 (by decide) (hT _ tw1_72) (fun _ h9 => h9) rfl d_Eng_out_29 ?_
    refine lv_iload_n hx hb d_Eng_out_32 rfl (lv_at hl 3 rfl) ?_
    refine va_iald (f := (N 2)) hx hb hK hP 15 0 rfl rfl hin d_Eng_out_33 ?_
    exact kp_i F hlocks hret hS d_Eng_out_34 (by rw [if_neg hz])
