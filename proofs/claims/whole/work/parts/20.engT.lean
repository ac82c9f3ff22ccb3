set_option maxRecDepth 100000 in
set_option maxHeartbeats 4000000 in
theorem t_Eng_add_IA (l : Launch) (hl0 : l.stackTraces = false) (Dg : va_G) (a b u v : Nat → Nat) (k : Nat → ClassId) (G M N : vSt) (q vB B : Nat) (c n : Int32) (H : Heap) (hP : va_P Dg classes ((wE a b u v) ++ (wP b k G) ++ (wM u k M) ++ (wM v k N)) H) (hal : sAllow c n = 0) : kTh l y_Eng_add b_Eng_add 4 (some FieldType.int) 6 107 [.ref (a 0), .int c, .int n] H (taX Dg k q vB B H) xIA := by
  refine kt_of (by decide) (Nat.le_of_ble_eq_true rfl) ?_
  intro p e s m below meth cd ls F hlocks hex hh hX hl
  subst hh
  obtain ⟨hx, hb, hml, hown, hT⟩ := id F
  have hK : va_K Dg classes (kTy k) s := hX.1
  have hS : va_S (fun _ => False) s.heap s.heap [] := va_S.rf
  have hl : lv_has ls 4 [(0, .ref (a 0)), (1, .int c), (2, .int n)] := hl
  obtain ⟨-, ⟨htz, hms⟩, hax⟩ := id hX
  refine lv_iload_n hx hb d_Eng_add_0 rfl (lv_at hl 1 rfl) ?_
  refine lv_iload_n hx hb d_Eng_add_1 rfl (lv_at hl 2 rfl) ?_
  refine kp_S F (c_Prg_allows l q vB c n _) aX_m hax kw_Eng_26 tw1_182 hS d_Eng_add_2 ⟨⟨by decide, by decide⟩, Nat.zero_le _, Nat.zero_le _⟩ rfl hl.1 rfl (Nat.le_of_ble_eq_true rfl) (fun locs hS => ?_)
  refine lv_if_ne (tgt := 18) hx hb d_Eng_add_5 (by decide) (fun h9 => absurd hal h9) (fun _ => ?_)
  obtain ⟨zq, hzq⟩ := hms.1
  exact kt_throwN (cls := xIA) (Y := thY) (names := thN) F hlocks hex hl0 htz own_IA (by decide +kernel) (by decide +kernel) fit_N (by decide +kernel) (by decide +kernel) (by decide +kernel) (by decide +kernel) tw1_233 tw1_234 tw1_12 hzq hS hl.1 ⟨by decide, Nat.le_of_ble_eq_true rfl, by decide, by decide⟩ d_Eng_add_8 d_Eng_add_11 d_Eng_add_12 d_Eng_add_14 d_Eng_add_17

set_option maxRecDepth 100000 in
set_option maxHeartbeats 4000000 in
theorem t_Eng_add_IS (l : Launch) (hl0 : l.stackTraces = false) (Dg : va_G) (a b u v : Nat → Nat) (k : Nat → ClassId) (G M N : vSt) (q vB B : Nat) (c n : Int32) (H : Heap) (hP : va_P Dg classes ((wE a b u v) ++ (wP b k G) ++ (wM u k M) ++ (wM v k N)) H) (hal : ¬ sAllow c n = 0) (hsz : G 5 0 = 80) : kTh l y_Eng_add b_Eng_add 4 (some FieldType.int) 6 107 [.ref (a 0), .int c, .int n] H (taX Dg k q vB B H) xIS := by
  refine kt_of (by decide) (Nat.le_of_ble_eq_true rfl) ?_
  intro p e s m below meth cd ls F hlocks hex hh hX hl
  subst hh
  obtain ⟨hx, hb, hml, hown, hT⟩ := id F
  have hK : va_K Dg classes (kTy k) s := hX.1
  have hS : va_S (fun _ => False) s.heap s.heap [] := va_S.rf
  have hl : lv_has ls 4 [(0, .ref (a 0)), (1, .int c), (2, .int n)] := hl
  obtain ⟨-, ⟨htz, hms⟩, hax⟩ := id hX
  refine lv_iload_n hx hb d_Eng_add_0 rfl (lv_at hl 1 rfl) ?_
  refine lv_iload_n hx hb d_Eng_add_1 rfl (lv_at hl 2 rfl) ?_
  refine kp_S F (c_Prg_allows l q vB c n _) aX_m hax kw_Eng_26 tw1_182 hS d_Eng_add_2 ⟨⟨by decide, by decide⟩, Nat.zero_le _, Nat.zero_le _⟩ rfl hl.1 rfl (Nat.le_of_ble_eq_true rfl) (fun locs hS => ?_)
  refine lv_if_ne (tgt := 18) hx hb d_Eng_add_5 (by decide) (fun _ => ?_) (fun h9 => absurd h9 hal)
  refine lv_aload_n hx hb d_Eng_add_18 rfl (lv_at hl 0 rfl) ?_
  refine va_get (D := Dg) (ci := 0) (v := .ref (b 0)) (C := R_Eng) (T := F_Eng) (N := 3) hx hb hT in_Eng hown hK hP 0 rfl rfl 0 (by decide) (hT _ tw1_102) (fun _ h9 => h9) rfl d_Eng_add_19 ?_
  refine va_get (D := Dg) (ci := 2) (v := .int (G 5 0)) (C := R_Prg) (T := F_Prg) (N := 7) hx hb hT in_Prg hown hK hP 1 rfl rfl 5 (by decide) (hT _ tw1_40) (fun _ h9 => h9) rfl d_Eng_add_22 ?_
  refine lv_bipush (v := 80) hx hb d_Eng_add_25 (by decide) ?_
  refine lv_icmp_ne (tgt := 40) hx hb d_Eng_add_27 (by decide) (fun h9 => absurd hsz h9) (fun _ => ?_)
  obtain ⟨zq, hzq⟩ := hms.2.1
  exact kt_throwN (cls := xIS) (Y := thY) (names := thN) F hlocks hex hl0 htz own_IS (by decide +kernel) (by decide +kernel) fit_N (by decide +kernel) (by decide +kernel) (by decide +kernel) (by decide +kernel) tw2_61 tw2_62 tw1_13 hzq hS hl.1 ⟨by decide, Nat.le_of_ble_eq_true rfl, by decide, by decide⟩ d_Eng_add_30 d_Eng_add_33 d_Eng_add_34 d_Eng_add_36 d_Eng_add_39

set_option maxRecDepth 100000 in
set_option maxHeartbeats 4000000 in
theorem t_Eng_change_NS (l : Launch) (hl0 : l.stackTraces = false) (Dg : va_G) (a b u v : Nat → Nat) (k : Nat → ClassId) (G M N : vSt) (B : Nat) (pl c n : Int32) (H : Heap) (hP : va_P Dg classes ((wE a b u v) ++ (wP b k G) ++ (wM u k M) ++ (wM v k N)) H) (hha : sHas G pl = 0) : kTh l y_Eng_change b_Eng_change 4 none 6 100 [.ref (a 0), .int pl, .int c, .int n] H (tX Dg k B H) xNS := by
  refine kt_of (by decide) (Nat.le_of_ble_eq_true rfl) ?_
  intro p e s m below meth cd ls F hlocks hex hh hX hl
  subst hh
  obtain ⟨hx, hb, hml, hown, hT⟩ := id F
  have hK : va_K Dg classes (kTy k) s := hX.1
  have hS : va_S (fun _ => False) s.heap s.heap [] := va_S.rf
  have hl : lv_has ls 4 [(0, .ref (a 0)), (1, .int pl), (2, .int c), (3, .int n)] := hl
  obtain ⟨-, htz, hms⟩ := id hX
  refine lv_aload_n hx hb d_Eng_change_0 rfl (lv_at hl 0 rfl) ?_
  refine va_get (D := Dg) (ci := 0) (v := .ref (b 0)) (C := R_Eng) (T := F_Eng) (N := 3) hx hb hT in_Eng hown hK hP 0 rfl rfl 0 (by decide) (hT _ tw1_102) (fun _ h9 => h9) rfl d_Eng_change_1 ?_
  refine lv_iload_n hx hb d_Eng_change_4 rfl (lv_at hl 1 rfl) ?_
  refine kp_V F (c_Prg_has l Dg b k G pl _ (hP.sub (ws' := (wP b k G)) [1, 2, 3, 4, 5, 6] rfl) ) kx_K hK kw_Eng_53 tw2_94 tw2_95 (va_recv (ci := 2) (q0 := 1) hK hP rfl rfl) hS d_Eng_change_5 ⟨⟨by decide, by decide⟩, Nat.zero_le _, Nat.zero_le _⟩ rfl hl.1 rfl (Nat.le_of_ble_eq_true rfl) (fun locs hS => ?_)
  refine lv_if_ne (tgt := 21) hx hb d_Eng_change_8 (by decide) (fun h9 => absurd hha h9) (fun _ => ?_)
  obtain ⟨zq, hzq⟩ := hms.2.2.1
  exact kt_throwN (cls := xNS) (Y := thY) (names := thN) F hlocks hex hl0 htz own_NS (by decide +kernel) (by decide +kernel) fit_N (by decide +kernel) (by decide +kernel) (by decide +kernel) (by decide +kernel) tw2_106 tw2_107 tw1_15 hzq hS hl.1 ⟨by decide, Nat.le_of_ble_eq_true rfl, by decide, by decide⟩ d_Eng_change_11 d_Eng_change_14 d_Eng_change_15 d_Eng_change_17 d_Eng_change_20

set_option maxRecDepth 100000 in
set_option maxHeartbeats 4000000 in
theorem t_Eng_change_IA (l : Launch) (hl0 : l.stackTraces = false) (Dg : va_G) (a b u v : Nat → Nat) (k : Nat → ClassId) (G M N : vSt) (q vB B : Nat) (pl c n : Int32) (H : Heap) (hP : va_P Dg classes ((wE a b u v) ++ (wP b k G) ++ (wM u k M) ++ (wM v k N)) H) (hha : ¬ sHas G pl = 0) (hal : sAllow c n = 0) : kTh l y_Eng_change b_Eng_change 4 none 6 107 [.ref (a 0), .int pl, .int c, .int n] H (taX Dg k q vB B H) xIA := by
  refine kt_of (by decide) (Nat.le_of_ble_eq_true rfl) ?_
  intro p e s m below meth cd ls F hlocks hex hh hX hl
  subst hh
  obtain ⟨hx, hb, hml, hown, hT⟩ := id F
  have hK : va_K Dg classes (kTy k) s := hX.1
  have hS : va_S (fun _ => False) s.heap s.heap [] := va_S.rf
  have hl : lv_has ls 4 [(0, .ref (a 0)), (1, .int pl), (2, .int c), (3, .int n)] := hl
  obtain ⟨-, ⟨htz, hms⟩, hax⟩ := id hX
  refine lv_aload_n hx hb d_Eng_change_0 rfl (lv_at hl 0 rfl) ?_
  refine va_get (D := Dg) (ci := 0) (v := .ref (b 0)) (C := R_Eng) (T := F_Eng) (N := 3) hx hb hT in_Eng hown hK hP 0 rfl rfl 0 (by decide) (hT _ tw1_102) (fun _ h9 => h9) rfl d_Eng_change_1 ?_
  refine lv_iload_n hx hb d_Eng_change_4 rfl (lv_at hl 1 rfl) ?_
  refine kp_V F (c_Prg_has l Dg b k G pl _ (hP.sub (ws' := (wP b k G)) [1, 2, 3, 4, 5, 6] rfl) ) kx_K hK kw_Eng_53 tw2_94 tw2_95 (va_recv (ci := 2) (q0 := 1) hK hP rfl rfl) hS d_Eng_change_5 ⟨⟨by decide, by decide⟩, Nat.zero_le _, Nat.zero_le _⟩ rfl hl.1 rfl (Nat.le_of_ble_eq_true rfl) (fun locs hS => ?_)
  refine lv_if_ne (tgt := 21) hx hb d_Eng_change_8 (by decide) (fun _ => ?_) (fun h9 => absurd h9 hha)
  refine lv_iload_n hx hb d_Eng_change_21 rfl (lv_at hl 2 rfl) ?_
  refine lv_iload_n hx hb d_Eng_change_22 rfl (lv_at hl 3 rfl) ?_
  refine kp_S F (c_Prg_allows l q vB c n _) aX_m hax kw_Eng_26 tw1_182 hS d_Eng_change_23 ⟨⟨by decide, by decide⟩, Nat.zero_le _, Nat.zero_le _⟩ rfl hl.1 rfl (Nat.le_of_ble_eq_true rfl) (fun locs hS => ?_)
  refine lv_if_ne (tgt := 39) hx hb d_Eng_change_26 (by decide) (fun h9 => absurd hal h9) (fun _ => ?_)
  obtain ⟨zq, hzq⟩ := hms.1
  exact kt_throwN (cls := xIA) (Y := thY) (names := thN) F hlocks hex hl0 htz own_IA (by decide +kernel) (by decide +kernel) fit_N (by decide +kernel) (by decide +kernel) (by decide +kernel) (by decide +kernel) tw1_233 tw1_234 tw1_12 hzq hS hl.1 ⟨by decide, Nat.le_of_ble_eq_true rfl, by decide, by decide⟩ d_Eng_change_29 d_Eng_change_32 d_Eng_change_33 d_Eng_change_35 d_Eng_change_38

set_option maxRecDepth 100000 in
set_option maxHeartbeats 4000000 in
theorem t_Eng_run_IS (l : Launch) (hl0 : l.stackTraces = false) (Dg : va_G) (a b u v : Nat → Nat) (k : Nat → ClassId) (G M N : vSt) (B : Nat) (z n : Int32) (H : Heap) (hP : va_P Dg classes ((wE a b u v) ++ (wP b k G) ++ (wM u k M) ++ (wM v k N)) H) (hz : ¬ z = 0) (hfu : G 5 1 = 0) : kTh l y_Eng_run b_Eng_run 3 (some FieldType.int) 6 100 [.ref (a 0), .int z, .int n] H (tX Dg k B H) xIS := by
  refine kt_of (by decide) (Nat.le_of_ble_eq_true rfl) ?_
  intro p e s m below meth cd ls F hlocks hex hh hX hl
  subst hh
  obtain ⟨hx, hb, hml, hown, hT⟩ := id F
  have hK : va_K Dg classes (kTy k) s := hX.1
  have hS : va_S (fun _ => False) s.heap s.heap [] := va_S.rf
  have hl : lv_has ls 3 [(0, .ref (a 0)), (1, .int z), (2, .int n)] := hl
  obtain ⟨-, htz, hms⟩ := id hX
  refine lv_iload_n hx hb d_Eng_run_0 rfl (lv_at hl 1 rfl) ?_
  refine lv_if_eq (tgt := 24) hx hb d_Eng_run_1 (by decide) (fun h9 => absurd h9 hz) (fun _ => ?_)
  refine lv_aload_n hx hb d_Eng_run_4 rfl (lv_at hl 0 rfl) ?_
  refine va_get (D := Dg) (ci := 0) (v := .ref (b 0)) (C := R_Eng) (T := F_Eng) (N := 3) hx hb hT in_Eng hown hK hP 0 rfl rfl 0 (by decide) (hT _ tw1_102) (fun _ h9 => h9) rfl d_Eng_run_5 ?_
  refine va_get (D := Dg) (ci := 2) (v := .int (G 5 1)) (C := R_Prg) (T := F_Prg) (N := 7) hx hb hT in_Prg hown hK hP 1 rfl rfl 6 (by decide) (hT _ tw1_43) (fun _ h9 => h9) rfl d_Eng_run_8 ?_
  refine lv_if_ne (tgt := 24) hx hb d_Eng_run_11 (by decide) (fun h9 => absurd hfu h9) (fun _ => ?_)
  obtain ⟨zq, hzq⟩ := hms.2.2.2.2.1
  exact kt_throwN (cls := xIS) (Y := thY) (names := thN) F hlocks hex hl0 htz own_IS (by decide +kernel) (by decide +kernel) fit_N (by decide +kernel) (by decide +kernel) (by decide +kernel) (by decide +kernel) tw2_61 tw2_62 tw1_13 hzq hS hl.1 ⟨by decide, Nat.le_of_ble_eq_true rfl, by decide, by decide⟩ d_Eng_run_14 d_Eng_run_17 d_Eng_run_18 d_Eng_run_20 d_Eng_run_23

set_option maxRecDepth 100000 in
set_option maxHeartbeats 4000000 in
theorem t_Eng_look_NS1 (l : Launch) (hl0 : l.stackTraces = false) (Dg : va_G) (a b u v : Nat → Nat) (k : Nat → ClassId) (G M N : vSt) (B : Nat) (pl w : Int32) (H : Heap) (hP : va_P Dg classes ((wE a b u v) ++ (wP b k G) ++ (wM u k M) ++ (wM v k N)) H) (hha : sHas G pl = 0) : kTh l y_Eng_look b_Eng_look 3 (some FieldType.int) 6 100 [.ref (a 0), .int pl, .int w] H (tX Dg k B H) xNS := by
  refine kt_of (by decide) (Nat.le_of_ble_eq_true rfl) ?_
  intro p e s m below meth cd ls F hlocks hex hh hX hl
  subst hh
  obtain ⟨hx, hb, hml, hown, hT⟩ := id F
  have hK : va_K Dg classes (kTy k) s := hX.1
  have hS : va_S (fun _ => False) s.heap s.heap [] := va_S.rf
  have hl : lv_has ls 3 [(0, .ref (a 0)), (1, .int pl), (2, .int w)] := hl
  obtain ⟨-, htz, hms⟩ := id hX
  refine lv_aload_n hx hb d_Eng_look_0 rfl (lv_at hl 0 rfl) ?_
  refine va_get (D := Dg) (ci := 0) (v := .ref (b 0)) (C := R_Eng) (T := F_Eng) (N := 3) hx hb hT in_Eng hown hK hP 0 rfl rfl 0 (by decide) (hT _ tw1_102) (fun _ h9 => h9) rfl d_Eng_look_1 ?_
  refine lv_iload_n hx hb d_Eng_look_4 rfl (lv_at hl 1 rfl) ?_
  refine kp_V F (c_Prg_has l Dg b k G pl _ (hP.sub (ws' := (wP b k G)) [1, 2, 3, 4, 5, 6] rfl) ) kx_K hK kw_Eng_53 tw2_94 tw2_95 (va_recv (ci := 2) (q0 := 1) hK hP rfl rfl) hS d_Eng_look_5 ⟨⟨by decide, by decide⟩, Nat.zero_le _, Nat.zero_le _⟩ rfl hl.1 rfl (Nat.le_of_ble_eq_true rfl) (fun locs hS => ?_)
  refine lv_if_ne (tgt := 21) hx hb d_Eng_look_8 (by decide) (fun h9 => absurd hha h9) (fun _ => ?_)
  obtain ⟨zq, hzq⟩ := hms.2.2.1
  exact kt_throwN (cls := xNS) (Y := thY) (names := thN) F hlocks hex hl0 htz own_NS (by decide +kernel) (by decide +kernel) fit_N (by decide +kernel) (by decide +kernel) (by decide +kernel) (by decide +kernel) tw2_106 tw2_107 tw1_15 hzq hS hl.1 ⟨by decide, Nat.le_of_ble_eq_true rfl, by decide, by decide⟩ d_Eng_look_11 d_Eng_look_14 d_Eng_look_15 d_Eng_look_17 d_Eng_look_20

set_option maxRecDepth 100000 in
set_option maxHeartbeats 4000000 in
theorem t_Eng_look_NS2 (l : Launch) (hl0 : l.stackTraces = false) (Dg : va_G) (a b u v : Nat → Nat) (k : Nat → ClassId) (G M N : vSt) (B : Nat) (pl w : Int32) (H : Heap) (hP : va_P Dg classes ((wE a b u v) ++ (wP b k G) ++ (wM u k M) ++ (wM v k N)) H) (hha : ¬ sHas G pl = 0) (hw : w < 0 ∨ ¬ w ≤ 3) : kTh l y_Eng_look b_Eng_look 3 (some FieldType.int) 6 100 [.ref (a 0), .int pl, .int w] H (tX Dg k B H) xNS := by
  refine kt_of (by decide) (Nat.le_of_ble_eq_true rfl) ?_
  intro p e s m below meth cd ls F hlocks hex hh hX hl
  subst hh
  obtain ⟨hx, hb, hml, hown, hT⟩ := id F
  have hK : va_K Dg classes (kTy k) s := hX.1
  have hS : va_S (fun _ => False) s.heap s.heap [] := va_S.rf
  have hl : lv_has ls 3 [(0, .ref (a 0)), (1, .int pl), (2, .int w)] := hl
  obtain ⟨-, htz, hms⟩ := id hX
  refine lv_aload_n hx hb d_Eng_look_0 rfl (lv_at hl 0 rfl) ?_
  refine va_get (D := Dg) (ci := 0) (v := .ref (b 0)) (C := R_Eng) (T := F_Eng) (N := 3) hx hb hT in_Eng hown hK hP 0 rfl rfl 0 (by decide) (hT _ tw1_102) (fun _ h9 => h9) rfl d_Eng_look_1 ?_
  refine lv_iload_n hx hb d_Eng_look_4 rfl (lv_at hl 1 rfl) ?_
  refine kp_V F (c_Prg_has l Dg b k G pl _ (hP.sub (ws' := (wP b k G)) [1, 2, 3, 4, 5, 6] rfl) ) kx_K hK kw_Eng_53 tw2_94 tw2_95 (va_recv (ci := 2) (q0 := 1) hK hP rfl rfl) hS d_Eng_look_5 ⟨⟨by decide, by decide⟩, Nat.zero_le _, Nat.zero_le _⟩ rfl hl.1 rfl (Nat.le_of_ble_eq_true rfl) (fun locs hS => ?_)
  refine lv_if_ne (tgt := 21) hx hb d_Eng_look_8 (by decide) (fun _ => ?_) (fun h9 => absurd h9 hha)
  refine lv_iload_n hx hb d_Eng_look_21 rfl (lv_at hl 2 rfl) ?_
  refine lv_if_lt (tgt := 30) hx hb d_Eng_look_22 (by decide) (fun h22 => ?_) (fun h22 => ?_)
  · obtain ⟨zq, hzq⟩ := hms.2.2.2.1
    exact kt_throwN (cls := xNS) (Y := thY) (names := thN) F hlocks hex hl0 htz own_NS (by decide +kernel) (by decide +kernel) fit_N (by decide +kernel) (by decide +kernel) (by decide +kernel) (by decide +kernel) tw2_106 tw2_107 tw1_15 hzq hS hl.1 ⟨by decide, Nat.le_of_ble_eq_true rfl, by decide, by decide⟩ d_Eng_look_30 d_Eng_look_33 d_Eng_look_34 d_Eng_look_36 d_Eng_look_39
  · refine lv_iload_n hx hb d_Eng_look_25 rfl (lv_at hl 2 rfl) ?_
    refine lv_iconst (v := 3) hx hb d_Eng_look_26 (by decide) ?_
    refine lv_icmp_le (tgt := 40) hx hb d_Eng_look_27 (by decide) (fun h9 => absurd h9 (hw.resolve_left h22)) (fun _ => ?_)
    obtain ⟨zq, hzq⟩ := hms.2.2.2.1
    exact kt_throwN (cls := xNS) (Y := thY) (names := thN) F hlocks hex hl0 htz own_NS (by decide +kernel) (by decide +kernel) fit_N (by decide +kernel) (by decide +kernel) (by decide +kernel) (by decide +kernel) tw2_106 tw2_107 tw1_15 hzq hS hl.1 ⟨by decide, Nat.le_of_ble_eq_true rfl, by decide, by decide⟩ d_Eng_look_30 d_Eng_look_33 d_Eng_look_34 d_Eng_look_36 d_Eng_look_39

set_option maxRecDepth 100000 in
set_option maxHeartbeats 4000000 in
theorem t_Eng_look_NS3 (l : Launch) (hl0 : l.stackTraces = false) (Dg : va_G) (a b u v : Nat → Nat) (k : Nat → ClassId) (G M N : vSt) (B : Nat) (pl : Int32) (H : Heap) (hP : va_P Dg classes ((wE a b u v) ++ (wP b k G) ++ (wM u k M) ++ (wM v k N)) H) (hha : ¬ sHas G pl = 0) (hfu : G 5 1 = 0) : kTh l y_Eng_look b_Eng_look 3 (some FieldType.int) 6 100 [.ref (a 0), .int pl, .int 2] H (tX Dg k B H) xNS := by
  refine kt_of (by decide) (Nat.le_of_ble_eq_true rfl) ?_
  intro p e s m below meth cd ls F hlocks hex hh hX hl
  subst hh
  obtain ⟨hx, hb, hml, hown, hT⟩ := id F
  have hK : va_K Dg classes (kTy k) s := hX.1
  have hS : va_S (fun _ => False) s.heap s.heap [] := va_S.rf
  have hl : lv_has ls 3 [(0, .ref (a 0)), (1, .int pl), (2, .int 2)] := hl
  obtain ⟨-, htz, hms⟩ := id hX
  refine lv_aload_n hx hb d_Eng_look_0 rfl (lv_at hl 0 rfl) ?_
  refine va_get (D := Dg) (ci := 0) (v := .ref (b 0)) (C := R_Eng) (T := F_Eng) (N := 3) hx hb hT in_Eng hown hK hP 0 rfl rfl 0 (by decide) (hT _ tw1_102) (fun _ h9 => h9) rfl d_Eng_look_1 ?_
  refine lv_iload_n hx hb d_Eng_look_4 rfl (lv_at hl 1 rfl) ?_
  refine kp_V F (c_Prg_has l Dg b k G pl _ (hP.sub (ws' := (wP b k G)) [1, 2, 3, 4, 5, 6] rfl) ) kx_K hK kw_Eng_53 tw2_94 tw2_95 (va_recv (ci := 2) (q0 := 1) hK hP rfl rfl) hS d_Eng_look_5 ⟨⟨by decide, by decide⟩, Nat.zero_le _, Nat.zero_le _⟩ rfl hl.1 rfl (Nat.le_of_ble_eq_true rfl) (fun locs hS => ?_)
  refine lv_if_ne (tgt := 21) hx hb d_Eng_look_8 (by decide) (fun _ => ?_) (fun h9 => absurd h9 hha)
  refine lv_iload_n hx hb d_Eng_look_21 rfl (lv_at hl 2 rfl) ?_
  refine lv_if_lt (tgt := 30) hx hb d_Eng_look_22 (by decide) (fun h9 => absurd h9 (by decide)) (fun _ => ?_)
  refine lv_iload_n hx hb d_Eng_look_25 rfl (lv_at hl 2 rfl) ?_
  refine lv_iconst (v := 3) hx hb d_Eng_look_26 (by decide) ?_
  refine lv_icmp_le (tgt := 40) hx hb d_Eng_look_27 (by decide) (fun _ => ?_) (fun h9 => absurd (by decide) h9)
  refine lv_iload_n hx hb d_Eng_look_40 rfl (lv_at hl 2 rfl) ?_
  refine lv_iconst (v := 2) hx hb d_Eng_look_41 (by decide) ?_
  refine lv_icmp_ne (tgt := 65) hx hb d_Eng_look_42 (by decide) (fun h9 => absurd (by decide) h9) (fun _ => ?_)
  refine lv_aload_n hx hb d_Eng_look_45 rfl (lv_at hl 0 rfl) ?_
  refine va_get (D := Dg) (ci := 0) (v := .ref (b 0)) (C := R_Eng) (T := F_Eng) (N := 3) hx hb hT in_Eng hown hK hP 0 rfl rfl 0 (by decide) (hT _ tw1_102) (fun _ h9 => h9) rfl d_Eng_look_46 ?_
  refine va_get (D := Dg) (ci := 2) (v := .int (G 5 1)) (C := R_Prg) (T := F_Prg) (N := 7) hx hb hT in_Prg hown hK hP 1 rfl rfl 6 (by decide) (hT _ tw1_43) (fun _ h9 => h9) rfl d_Eng_look_49 ?_
  refine lv_if_ne (tgt := 65) hx hb d_Eng_look_52 (by decide) (fun h9 => absurd hfu h9) (fun _ => ?_)
  obtain ⟨zq, hzq⟩ := hms.2.2.2.2.1
  exact kt_throwN (cls := xNS) (Y := thY) (names := thN) F hlocks hex hl0 htz own_NS (by decide +kernel) (by decide +kernel) fit_N (by decide +kernel) (by decide +kernel) (by decide +kernel) (by decide +kernel) tw2_106 tw2_107 tw1_15 hzq hS hl.1 ⟨by decide, Nat.le_of_ble_eq_true rfl, by decide, by decide⟩ d_Eng_look_55 d_Eng_look_58 d_Eng_look_59 d_Eng_look_61 d_Eng_look_64

set_option maxRecDepth 100000 in
set_option maxHeartbeats 4000000 in
theorem t_Eng_stack_NS (l : Launch) (hl0 : l.stackTraces = false) (Dg : va_G) (a b u v : Nat → Nat) (k : Nat → ClassId) (G M N : vSt) (B : Nat) (z i : Int32) (H : Heap) (hP : va_P Dg classes ((wE a b u v) ++ (wP b k G) ++ (wM u k M) ++ (wM v k N)) H) (hno : i < 0 ∨ ¬ i < (if z = 0 then M else N) 4 0) : kTh l y_Eng_stack b_Eng_stack 4 (some FieldType.int) 6 100 [.ref (a 0), .int z, .int i] H (tX Dg k B H) xNS := by
  refine kt_of (by decide) (Nat.le_of_ble_eq_true rfl) ?_
  intro p e s m below meth cd ls F hlocks hex hh hX hl
  subst hh
  obtain ⟨hx, hb, hml, hown, hT⟩ := id F
  have hK : va_K Dg classes (kTy k) s := hX.1
  have hS : va_S (fun _ => False) s.heap s.heap [] := va_S.rf
  have hl : lv_has ls 4 [(0, .ref (a 0)), (1, .int z), (2, .int i)] := hl
  obtain ⟨-, htz, hms⟩ := id hX
  by_cases hz : z = 0
  · refine lv_aload_n hx hb d_Eng_stack_0 rfl (lv_at hl 0 rfl) ?_
    refine lv_iload_n hx hb d_Eng_stack_1 rfl (lv_at hl 1 rfl) ?_
    refine kp_Vr F (c_Eng_machineOf l Dg a b u v k G M N z _ hP) kx_K hK kw_Eng_84 tw1_166 ts_3 (va_recv (ci := 0) (q0 := 0) hK hP rfl rfl) hS d_Eng_stack_2 ⟨⟨by decide, by decide⟩, Nat.zero_le _, Nat.zero_le _⟩ rfl hl.1 rfl (Nat.le_of_ble_eq_true rfl) (fun locs hS => ?_)
    rw [show (if z = 0 then u 0 else v 0) = u 0 from if_pos hz]
    refine lv_astore_n hx hb d_Eng_stack_5 rfl hl (by decide) rfl (fun ls hl => ?_)
    have hl : lv_has ls 4 [(3, .ref (u 0)), (0, .ref (a 0)), (1, .int z), (2, .int i)] := hl
    refine lv_iload_n hx hb d_Eng_stack_6 rfl (lv_at hl 3 rfl) ?_
    refine lv_if_lt (tgt := 18) hx hb d_Eng_stack_7 (by decide) (fun h7 => ?_) (fun h7 => ?_)
    · obtain ⟨zq, hzq⟩ := hms.2.2.2.2.2.1
      exact kt_throwN (cls := xNS) (Y := thY) (names := thN) F hlocks hex hl0 htz own_NS (by decide +kernel) (by decide +kernel) fit_N (by decide +kernel) (by decide +kernel) (by decide +kernel) (by decide +kernel) tw2_106 tw2_107 tw1_15 hzq hS hl.1 ⟨by decide, Nat.le_of_ble_eq_true rfl, by decide, by decide⟩ d_Eng_stack_18 d_Eng_stack_21 d_Eng_stack_22 d_Eng_stack_24 d_Eng_stack_27
    · refine lv_iload_n hx hb d_Eng_stack_10 rfl (lv_at hl 3 rfl) ?_
      refine lv_aload_n hx hb d_Eng_stack_11 rfl (lv_at hl 0 rfl) ?_
      refine va_get (D := Dg) (ci := 1) (v := .int (M 4 0)) (C := R_Mac) (T := F_Mac) (N := 10) hx hb hT in_Mac hown hK hP 7 rfl rfl 4 (by decide) (hT _ tw1_75) (fun _ h9 => h9) rfl d_Eng_stack_12 ?_
      refine lv_icmp_lt (tgt := 28) hx hb d_Eng_stack_15 (by decide) (fun h9 => absurd h9 (by rw [if_pos hz] at hno; exact hno.resolve_left h7)) (fun _ => ?_)
      obtain ⟨zq, hzq⟩ := hms.2.2.2.2.2.1
      exact kt_throwN (cls := xNS) (Y := thY) (names := thN) F hlocks hex hl0 htz own_NS (by decide +kernel) (by decide +kernel) fit_N (by decide +kernel) (by decide +kernel) (by decide +kernel) (by decide +kernel) tw2_106 tw2_107 tw1_15 hzq hS hl.1 ⟨by decide, Nat.le_of_ble_eq_true rfl, by decide, by decide⟩ d_Eng_stack_18 d_Eng_stack_21 d_Eng_stack_22 d_Eng_stack_24 d_Eng_stack_27
  · refine lv_aload_n hx hb d_Eng_stack_0 rfl (lv_at hl 0 rfl) ?_
    refine lv_iload_n hx hb d_Eng_stack_1 rfl (lv_at hl 1 rfl) ?_
    refine kp_Vr F (c_Eng_machineOf l Dg a b u v k G M N z _ hP) kx_K hK kw_Eng_84 tw1_166 ts_3 (va_recv (ci := 0) (q0 := 0) hK hP rfl rfl) hS d_Eng_stack_2 ⟨⟨by decide, by decide⟩, Nat.zero_le _, Nat.zero_le _⟩ rfl hl.1 rfl (Nat.le_of_ble_eq_true rfl) (fun locs hS => ?_)
    rw [show (if z = 0 then u 0 else v 0) = v 0 from if_neg hz]
    refine lv_astore_n hx hb d_Eng_stack_5 rfl hl (by decide) rfl (fun ls hl => ?_)
    have hl : lv_has ls 4 [(3, .ref (v 0)), (0, .ref (a 0)), (1, .int z), (2, .int i)] := hl
    refine lv_iload_n hx hb d_Eng_stack_6 rfl (lv_at hl 3 rfl) ?_
    refine lv_if_lt (tgt := 18) hx hb d_Eng_stack_7 (by decide) (fun h7 => ?_) (fun h7 => ?_)
    · obtain ⟨zq, hzq⟩ := hms.2.2.2.2.2.1
      exact kt_throwN (cls := xNS) (Y := thY) (names := thN) F hlocks hex hl0 htz own_NS (by decide +kernel) (by decide +kernel) fit_N (by decide +kernel) (by decide +kernel) (by decide +kernel) (by decide +kernel) tw2_106 tw2_107 tw1_15 hzq hS hl.1 ⟨by decide, Nat.le_of_ble_eq_true rfl, by decide, by decide⟩ d_Eng_stack_18 d_Eng_stack_21 d_Eng_stack_22 d_Eng_stack_24 d_Eng_stack_27
    · refine lv_iload_n hx hb d_Eng_stack_10 rfl (lv_at hl 3 rfl) ?_
      refine lv_aload_n hx hb d_Eng_stack_11 rfl (lv_at hl 0 rfl) ?_
      refine va_get (D := Dg) (ci := 1) (v := .int (N 4 0)) (C := R_Mac) (T := F_Mac) (N := 10) hx hb hT in_Mac hown hK hP 12 rfl rfl 4 (by decide) (hT _ tw1_75) (fun _ h9 => h9) rfl d_Eng_stack_12 ?_
      refine lv_icmp_lt (tgt := 28) hx hb d_Eng_stack_15 (by decide) (fun h9 => absurd h9 (by rw [if_neg hz] at hno; exact hno.resolve_left h7)) (fun _ => ?_)
      obtain ⟨zq, hzq⟩ := hms.2.2.2.2.2.1
      exact kt_throwN (cls := xNS) (Y := thY) (names := thN) F hlocks hex hl0 htz own_NS (by decide +kernel) (by decide +kernel) fit_N (by decide +kernel) (by decide +kernel) (by decide +kernel) (by decide +kernel) tw2_106 tw2_107 tw1_15 hzq hS hl.1 ⟨by decide, Nat.le_of_ble_eq_true rfl, by decide, by decide⟩ d_Eng_stack_18 d_Eng_stack_21 d_Eng_stack_22 d_Eng_stack_24 d_Eng_stack_27

set_option maxRecDepth 100000 in
set_option maxHeartbeats 4000000 in
theorem t_Eng_out_NS (l : Launch) (hl0 : l.stackTraces = false) (Dg : va_G) (a b u v : Nat → Nat) (k : Nat → ClassId) (G M N : vSt) (B : Nat) (z i : Int32) (H : Heap) (hP : va_P Dg classes ((wE a b u v) ++ (wP b k G) ++ (wM u k M) ++ (wM v k N)) H) (hno : i < 0 ∨ ¬ i < sMin ((if z = 0 then M else N) 4 2) 60) : kTh l y_Eng_out b_Eng_out 4 (some FieldType.int) 6 100 [.ref (a 0), .int z, .int i] H (tX Dg k B H) xNS := by
  refine kt_of (by decide) (Nat.le_of_ble_eq_true rfl) ?_
  intro p e s m below meth cd ls F hlocks hex hh hX hl
  subst hh
  obtain ⟨hx, hb, hml, hown, hT⟩ := id F
  have hK : va_K Dg classes (kTy k) s := hX.1
  have hS : va_S (fun _ => False) s.heap s.heap [] := va_S.rf
  have hl : lv_has ls 4 [(0, .ref (a 0)), (1, .int z), (2, .int i)] := hl
  obtain ⟨-, htz, hms⟩ := id hX
  by_cases hz : z = 0
  · refine lv_aload_n hx hb d_Eng_out_0 rfl (lv_at hl 0 rfl) ?_
    refine lv_iload_n hx hb d_Eng_out_1 rfl (lv_at hl 1 rfl) ?_
    refine kp_Vr F (c_Eng_machineOf l Dg a b u v k G M N z _ hP) kx_K hK kw_Eng_84 tw1_166 ts_3 (va_recv (ci := 0) (q0 := 0) hK hP rfl rfl) hS d_Eng_out_2 ⟨⟨by decide, by decide⟩, Nat.zero_le _, Nat.zero_le _⟩ rfl hl.1 rfl (Nat.le_of_ble_eq_true rfl) (fun locs hS => ?_)
    rw [show (if z = 0 then u 0 else v 0) = u 0 from if_pos hz]
    refine lv_astore_n hx hb d_Eng_out_5 rfl hl (by decide) rfl (fun ls hl => ?_)
    have hl : lv_has ls 4 [(3, .ref (u 0)), (0, .ref (a 0)), (1, .int z), (2, .int i)] := hl
    refine lv_iload_n hx hb d_Eng_out_6 rfl (lv_at hl 3 rfl) ?_
    refine lv_if_lt (tgt := 18) hx hb d_Eng_out_7 (by decide) (fun h7 => ?_) (fun h7 => ?_)
    · obtain ⟨zq, hzq⟩ := hms.2.2.2.2.2.2.2
      exact kt_throwN (cls := xNS) (Y := thY) (names := thN) F hlocks hex hl0 htz own_NS (by decide +kernel) (by decide +kernel) fit_N (by decide +kernel) (by decide +kernel) (by decide +kernel) (by decide +kernel) tw2_106 tw2_107 tw1_15 hzq hS hl.1 ⟨by decide, Nat.le_of_ble_eq_true rfl, by decide, by decide⟩ d_Eng_out_18 d_Eng_out_21 d_Eng_out_22 d_Eng_out_24 d_Eng_out_27
    · refine lv_iload_n hx hb d_Eng_out_10 rfl (lv_at hl 3 rfl) ?_
      refine lv_aload_n hx hb d_Eng_out_11 rfl (lv_at hl 0 rfl) ?_
      refine kp_V F (c_Mac_keptOutputs l Dg u k M  _ (hP.sub (ws' := (wM u k M)) [7, 8, 9, 10, 11] rfl) ) kx_K hK kw_Eng_109 tw2_216 tw2_217 (va_recv (ci := 1) (q0 := 7) hK hP rfl rfl) hS d_Eng_out_12 ⟨⟨by decide, by decide⟩, Nat.zero_le _, Nat.zero_le _⟩ rfl hl.1 rfl (Nat.le_of_ble_eq_true rfl) (fun locs hS => ?_)
      refine lv_icmp_lt (tgt := 28) hx hb d_Eng_out_15 (by decide) (fun h9 => absurd h9 (by rw [if_pos hz] at hno; exact hno.resolve_left h7)) (fun _ => ?_)
      obtain ⟨zq, hzq⟩ := hms.2.2.2.2.2.2.2
      exact kt_throwN (cls := xNS) (Y := thY) (names := thN) F hlocks hex hl0 htz own_NS (by decide +kernel) (by decide +kernel) fit_N (by decide +kernel) (by decide +kernel) (by decide +kernel) (by decide +kernel) tw2_106 tw2_107 tw1_15 hzq hS hl.1 ⟨by decide, Nat.le_of_ble_eq_true rfl, by decide, by decide⟩ d_Eng_out_18 d_Eng_out_21 d_Eng_out_22 d_Eng_out_24 d_Eng_out_27
  · refine lv_aload_n hx hb d_Eng_out_0 rfl (lv_at hl 0 rfl) ?_
    refine lv_iload_n hx hb d_Eng_out_1 rfl (lv_at hl 1 rfl) ?_
    refine kp_Vr F (c_Eng_machineOf l Dg a b u v k G M N z _ hP) kx_K hK kw_Eng_84 tw1_166 ts_3 (va_recv (ci := 0) (q0 := 0) hK hP rfl rfl) hS d_Eng_out_2 ⟨⟨by decide, by decide⟩, Nat.zero_le _, Nat.zero_le _⟩ rfl hl.1 rfl (Nat.le_of_ble_eq_true rfl) (fun locs hS => ?_)
    rw [show (if z = 0 then u 0 else v 0) = v 0 from if_neg hz]
    refine lv_astore_n hx hb d_Eng_out_5 rfl hl (by decide) rfl (fun ls hl => ?_)
    have hl : lv_has ls 4 [(3, .ref (v 0)), (0, .ref (a 0)), (1, .int z), (2, .int i)] := hl
    refine lv_iload_n hx hb d_Eng_out_6 rfl (lv_at hl 3 rfl) ?_
    refine lv_if_lt (tgt := 18) hx hb d_Eng_out_7 (by decide) (fun h7 => ?_) (fun h7 => ?_)
    · obtain ⟨zq, hzq⟩ := hms.2.2.2.2.2.2.2
      exact kt_throwN (cls := xNS) (Y := thY) (names := thN) F hlocks hex hl0 htz own_NS (by decide +kernel) (by decide +kernel) fit_N (by decide +kernel) (by decide +kernel) (by decide +kernel) (by decide +kernel) tw2_106 tw2_107 tw1_15 hzq hS hl.1 ⟨by decide, Nat.le_of_ble_eq_true rfl, by decide, by decide⟩ d_Eng_out_18 d_Eng_out_21 d_Eng_out_22 d_Eng_out_24 d_Eng_out_27
    · refine lv_iload_n hx hb d_Eng_out_10 rfl (lv_at hl 3 rfl) ?_
      refine lv_aload_n hx hb d_Eng_out_11 rfl (lv_at hl 0 rfl) ?_
      refine kp_V F (c_Mac_keptOutputs l Dg v k N  _ (hP.sub (ws' := (wM v k N)) [12, 13, 14, 15, 16] rfl) ) kx_K hK kw_Eng_109 tw2_216 tw2_217 (va_recv (ci := 1) (q0 := 12) hK hP rfl rfl) hS d_Eng_out_12 ⟨⟨by decide, by decide⟩, Nat.zero_le _, Nat.zero_le _⟩ rfl hl.1 rfl (Nat.le_of_ble_eq_true rfl) (fun locs hS => ?_)
      refine lv_icmp_lt (tgt := 28) hx hb d_Eng_out_15 (by decide) (fun h9 => absurd h9 (by rw [if_neg hz] at hno; exact hno.resolve_left h7)) (fun _ => ?_)
      obtain ⟨zq, hzq⟩ := hms.2.2.2.2.2.2.2
      exact kt_throwN (cls := xNS) (Y := thY) (names := thN) F hlocks hex hl0 htz own_NS (by decide +kernel) (by decide +kernel) fit_N (by decide +kernel) (by decide +kernel) (by decide +kernel) (by decide +kernel) tw2_106 tw2_107 tw1_15 hzq hS hl.1 ⟨by decide, Nat.le_of_ble_eq_true rfl, by decide, by decide⟩ d_Eng_out_18 d_Eng_out_21 d_Eng_out_22 d_Eng_out_24 d_Eng_out_27

set_option maxRecDepth 100000 in
set_option maxHeartbeats 4000000 in
theorem t_Eng_local_NS (l : Launch) (hl0 : l.stackTraces = false) (Dg : va_G) (a b u v : Nat → Nat) (k : Nat → ClassId) (G M N : vSt) (B : Nat) (z i : Int32) (H : Heap) (hP : va_P Dg classes ((wE a b u v) ++ (wP b k G) ++ (wM u k M) ++ (wM v k N)) H) (hno : i < 0 ∨ ¬ i < 8) : kTh l y_Eng_local b_Eng_local 3 (some FieldType.int) 6 100 [.ref (a 0), .int z, .int i] H (tX Dg k B H) xNS := by
  refine kt_of (by decide) (Nat.le_of_ble_eq_true rfl) ?_
  intro p e s m below meth cd ls F hlocks hex hh hX hl
  subst hh
  obtain ⟨hx, hb, hml, hown, hT⟩ := id F
  have hK : va_K Dg classes (kTy k) s := hX.1
  have hS : va_S (fun _ => False) s.heap s.heap [] := va_S.rf
  have hl : lv_has ls 3 [(0, .ref (a 0)), (1, .int z), (2, .int i)] := hl
  obtain ⟨-, htz, hms⟩ := id hX
  refine lv_iload_n hx hb d_Eng_local_0 rfl (lv_at hl 2 rfl) ?_
  refine lv_if_lt (tgt := 10) hx hb d_Eng_local_1 (by decide) (fun h1 => ?_) (fun h1 => ?_)
  · obtain ⟨zq, hzq⟩ := hms.2.2.2.2.2.2.1
    exact kt_throwN (cls := xNS) (Y := thY) (names := thN) F hlocks hex hl0 htz own_NS (by decide +kernel) (by decide +kernel) fit_N (by decide +kernel) (by decide +kernel) (by decide +kernel) (by decide +kernel) tw2_106 tw2_107 tw1_15 hzq hS hl.1 ⟨by decide, Nat.le_of_ble_eq_true rfl, by decide, by decide⟩ d_Eng_local_10 d_Eng_local_13 d_Eng_local_14 d_Eng_local_16 d_Eng_local_19
  · refine lv_iload_n hx hb d_Eng_local_4 rfl (lv_at hl 2 rfl) ?_
    refine lv_bipush (v := 8) hx hb d_Eng_local_5 (by decide) ?_
    refine lv_icmp_lt (tgt := 20) hx hb d_Eng_local_7 (by decide) (fun h9 => absurd h9 (hno.resolve_left h1)) (fun _ => ?_)
    obtain ⟨zq, hzq⟩ := hms.2.2.2.2.2.2.1
    exact kt_throwN (cls := xNS) (Y := thY) (names := thN) F hlocks hex hl0 htz own_NS (by decide +kernel) (by decide +kernel) fit_N (by decide +kernel) (by decide +kernel) (by decide +kernel) (by decide +kernel) tw2_106 tw2_107 tw1_15 hzq hS hl.1 ⟨by decide, Nat.le_of_ble_eq_true rfl, by decide, by decide⟩ d_Eng_local_10 d_Eng_local_13 d_Eng_local_14 d_Eng_local_16 d_Eng_local_19
