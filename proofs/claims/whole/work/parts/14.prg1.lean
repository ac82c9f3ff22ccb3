set_option maxRecDepth 100000 in
set_option maxHeartbeats 4000000 in
theorem c_Prg_removeAll (l : Launch) (Dg : va_G) (b : Nat → Nat) (k : Nat → ClassId) (G : vSt) (H : Heap) (hP : va_P Dg classes (wP b k G) H) (hD : va_D (fun _ => True) (wP b k G)) : kMv l y_Prg_removeAll b_Prg_removeAll 1 0 0 [.ref (b 0)] H (va_K Dg classes (kTy k)) Dg (wP b k G) (wP b k (sNone G)) := by
  refine k_of (by decide) (Nat.le_of_ble_eq_true rfl) ?_
  intro p e s m below meth cd ls F hlocks hret hname hh hX hl
  subst hh
  obtain ⟨hx, hb, hml, hown, hT⟩ := id F
  have hK : va_K Dg classes (kTy k) s := hX
  have hA : ∀ q : Nat, s.heap.size ≤ q → va_A (wP b k G) s.heap.size q := fun q h => Or.inr h
  have hD := hD.self (sz := s.heap.size)
  have hS : va_S (va_A (wP b k G) s.heap.size) s.heap s.heap [] := va_S.rf
  have hl : lv_has ls 1 [(0, .ref (b 0))] := hl
  refine lv_aload_n hx hb d_Prg_removeAll_0 rfl (lv_at hl 0 rfl) ?_
  refine lv_iconst (v := 0) hx hb d_Prg_removeAll_1 (by decide) ?_
  refine va_put (D := Dg) (ci := 2) (v := .int 0) (ty := .int) (C := R_Prg) (T := F_Prg) (N := 7) hx hb hT in_Prg t_Prg t_Prg_ok n_Prg hown hK hP hD hS 0 rfl rfl 5 (by decide) (hT _ tw1_41) (fun _ h9 => h9) rfl (by decide +kernel) rfl rfl (Nat.le_of_ble_eq_true rfl) d_Prg_removeAll_2 (fun H locs hP hD hS => ?_)
  have hP : va_P Dg classes (wP b k (u2 G 5 0 0)) H := hP
  have hD : va_D (va_A (wP b k G) s.heap.size) (wP b k (u2 G 5 0 0)) := hD
  obtain ⟨Gs1, hGs1⟩ : ∃ z, z = (u2 G 5 0 0) := ⟨_, rfl⟩
  rw [← hGs1] at hP hD
  refine lv_aload_n hx hb d_Prg_removeAll_5 rfl (lv_at hl 0 rfl) ?_
  refine lv_iconst (v := 0) hx hb d_Prg_removeAll_6 (by decide) ?_
  refine va_put (D := Dg) (ci := 2) (v := .int 0) (ty := .boolean) (C := R_Prg) (T := F_Prg) (N := 7) hx hb hT in_Prg t_Prg t_Prg_ok n_Prg hown hK hP hD hS 0 rfl rfl 6 (by decide) (hT _ tw1_42) (fun _ h9 => h9) rfl (by decide +kernel) rfl rfl (Nat.le_of_ble_eq_true rfl) d_Prg_removeAll_7 (fun H locs hP hD hS => ?_)
  have hP : va_P Dg classes (wP b k (u2 Gs1 5 1 0)) H := hP
  have hD : va_D (va_A (wP b k G) s.heap.size) (wP b k (u2 Gs1 5 1 0)) := hD
  obtain ⟨Gs2, hGs2⟩ : ∃ z, z = (u2 Gs1 5 1 0) := ⟨_, rfl⟩
  rw [← hGs2] at hP hD
  exact km_v F hlocks hret hP hD hS d_Prg_removeAll_10 (by subst hGs2 hGs1; rfl)

set_option maxRecDepth 100000 in
set_option maxHeartbeats 4000000 in
theorem c_Prg_markTarget (l : Launch) (Dg : va_G) (b : Nat → Nat) (k : Nat → ClassId) (G : vSt) (q : Int32) (H : Heap) (hP : va_P Dg classes (wP b k G) H) (hD : va_D (fun _ => True) (wP b k G)) (hp : pOk G) : kMv l y_Prg_markTarget b_Prg_markTarget 2 1 21 [.ref (b 0), .int q] H (va_K Dg classes (kTy k)) Dg (wP b k G) (wP b k (sMark G q)) := by
  refine k_of (by decide) (Nat.le_of_ble_eq_true rfl) ?_
  intro p e s m below meth cd ls F hlocks hret hname hh hX hl
  subst hh
  obtain ⟨hx, hb, hml, hown, hT⟩ := id F
  have hK : va_K Dg classes (kTy k) s := hX
  have hA : ∀ q : Nat, s.heap.size ≤ q → va_A (wP b k G) s.heap.size q := fun q h => Or.inr h
  have hD := hD.self (sz := s.heap.size)
  have hS : va_S (va_A (wP b k G) s.heap.size) s.heap s.heap [] := va_S.rf
  have hl : lv_has ls 2 [(0, .ref (b 0)), (1, .int q)] := hl
  refine lv_aload_n hx hb d_Prg_markTarget_0 rfl (lv_at hl 0 rfl) ?_
  refine lv_iload_n hx hb d_Prg_markTarget_1 rfl (lv_at hl 1 rfl) ?_
  refine kp_V F (c_Prg_has l Dg b k G q _ hP ) kx_K hK kw_Prg_61 tw2_94 tw2_95 (va_recv (ci := 2) (q0 := 0) hK hP rfl rfl) hS d_Prg_markTarget_2 ⟨⟨by decide, by decide⟩, Nat.le_refl _, Nat.le_refl _⟩ rfl hl.1 rfl (Nat.le_of_ble_eq_true rfl) (fun locs hS => ?_)
  refine lv_if_eq (tgt := 15) hx hb d_Prg_markTarget_5 (by decide) (fun h5 => ?_) (fun h5 => ?_)
  · exact km_v F hlocks hret hP hD hS d_Prg_markTarget_15 (by unfold sMark; rw [if_pos h5])
  · refine lv_aload_n hx hb d_Prg_markTarget_8 rfl (lv_at hl 0 rfl) ?_
    refine va_get (D := Dg) (ci := 2) (v := .ref (b 3)) (C := R_Prg) (T := F_Prg) (N := 7) hx hb hT in_Prg hown hK hP 0 rfl rfl 2 (by decide) (hT _ tw1_36) (fun _ h9 => h9) rfl d_Prg_markTarget_9 ?_
    refine lv_iload_n hx hb d_Prg_markTarget_12 rfl (lv_at hl 1 rfl) ?_
    refine lv_iconst (v := 1) hx hb d_Prg_markTarget_13 (by decide) ?_
    refine va_zast hx hb hK hP hD hS 3 1 rfl rfl (has_in hp h5) d_Prg_markTarget_14 (fun H locs hP hD hS => ?_)
    have hP : va_P Dg classes (wP b k (u2 G 2 q.toNatClampNeg 1)) H := hP
    have hD : va_D (va_A (wP b k G) s.heap.size) (wP b k (u2 G 2 q.toNatClampNeg 1)) := hD
    obtain ⟨Gs1, hGs1⟩ : ∃ z, z = (u2 G 2 q.toNatClampNeg 1) := ⟨_, rfl⟩
    rw [← hGs1] at hP hD
    exact km_v F hlocks hret hP hD hS d_Prg_markTarget_15 (by subst hGs1; unfold sMark; rw [if_neg h5])

set_option maxRecDepth 100000 in
set_option maxHeartbeats 4000000 in
theorem c_Prg_findTargets (l : Launch) (Dg : va_G) (b : Nat → Nat) (k : Nat → ClassId) (G : vSt) (H : Heap) (hP : va_P Dg classes (wP b k G) H) (hD : va_D (fun _ => True) (wP b k G)) (hp : pOk G) : kMv l y_Prg_findTargets b_Prg_findTargets 3 2 42 [.ref (b 0)] H (va_K Dg classes (kTy k)) Dg (wP b k G) (wP b k (sTgts G)) := by
  refine k_of (by decide) (Nat.le_of_ble_eq_true rfl) ?_
  intro p e s m below meth cd ls F hlocks hret hname hh hX hl
  subst hh
  obtain ⟨hx, hb, hml, hown, hT⟩ := id F
  have hK : va_K Dg classes (kTy k) s := hX
  have hA : ∀ q : Nat, s.heap.size ≤ q → va_A (wP b k G) s.heap.size q := fun q h => Or.inr h
  have hD := hD.self (sz := s.heap.size)
  have hS : va_S (va_A (wP b k G) s.heap.size) s.heap s.heap [] := va_S.rf
  have hl : lv_has ls 3 [(0, .ref (b 0))] := hl
  obtain ⟨z, hz80, ez⟩ := hp
  have etg : sTgts G = sMk (sClr G z) z := by unfold sTgts; rw [ez, nI_clamp (by omega)]
  refine lv_iconst (v := 0) hx hb d_Prg_findTargets_0 (by decide) ?_
  refine lv_istore_n hx hb d_Prg_findTargets_1 rfl hl (by decide) rfl (fun ls hl => ?_)
  have hl : lv_has ls 3 [(1, .int 0), (0, .ref (b 0))] := hl
  refine k_while (σ := Nat × vSt) (fun f x H locs ls => x.1 + f = z ∧ x.2 = sClr G x.1 ∧ lv_has ls 3 [(1, .int (nI x.1)), (0, .ref (b 0))] ∧ va_P Dg classes (wP b k x.2) H ∧ va_D (va_A (wP b k G) s.heap.size) (wP b k x.2) ∧ va_S (va_A (wP b k G) s.heap.size) s.heap H locs) ?_ z (0, G) ⟨by show 0 + z = z; omega, rfl, (lv_sub hl [0, 1] rfl), hP, hD, hS⟩
  rintro f ⟨i, Gi⟩ H locs ls ⟨hif, hGi, hl, hP, hD, hS⟩ ih
  have hl : lv_has ls 3 [(1, .int (nI i)), (0, .ref (b 0))] := hl
  have hP : va_P Dg classes (wP b k Gi) H := hP
  have hD : va_D (va_A (wP b k G) s.heap.size) (wP b k Gi) := hD
  have hif : i + f = z := hif
  have hGi : Gi = sClr G i := hGi
  have hsz : Gi 5 0 = nI z := by rw [hGi, sClr_5]; exact ez
  refine lv_iload_n hx hb d_Prg_findTargets_2 rfl (lv_at hl 0 rfl) ?_
  refine lv_aload_n hx hb d_Prg_findTargets_3 rfl (lv_at hl 1 rfl) ?_
  refine va_get (D := Dg) (ci := 2) (v := .int (Gi 5 0)) (C := R_Prg) (T := F_Prg) (N := 7) hx hb hT in_Prg hown hK hP 0 rfl rfl 5 (by decide) (hT _ tw1_41) (fun _ h9 => h9) rfl d_Prg_findTargets_4 ?_
  refine lv_icmp_ge (tgt := 23) hx hb d_Prg_findTargets_7 (by decide) (fun h7 => ?_) (fun h7 => ?_)
  · have hiz : i = z := by have := (nI_leI (by omega) (by omega)).mp (hsz ▸ h7); omega
    rw [hiz] at hGi
    refine lv_iconst (v := 0) hx hb d_Prg_findTargets_23 (by decide) ?_
    refine lv_istore_n hx hb d_Prg_findTargets_24 rfl hl (by decide) rfl (fun ls hl => ?_)
    have hl : lv_has ls 3 [(1, .int 0), (0, .ref (b 0))] := hl
    refine k_while (σ := Nat × vSt) (fun f x H locs ls => x.1 + f = z ∧ x.2 = sMk (sClr G z) x.1 ∧ lv_has ls 3 [(1, .int (nI x.1)), (0, .ref (b 0))] ∧ va_P Dg classes (wP b k x.2) H ∧ va_D (va_A (wP b k G) s.heap.size) (wP b k x.2) ∧ va_S (va_A (wP b k G) s.heap.size) s.heap H locs) ?_ z (0, Gi) ⟨by show 0 + z = z; omega, hGi, (lv_sub hl [0, 1] rfl), hP, hD, hS⟩
    rintro f ⟨i, Gi⟩ H locs ls ⟨hif, hGi, hl, hP, hD, hS⟩ ih
    have hl : lv_has ls 3 [(1, .int (nI i)), (0, .ref (b 0))] := hl
    have hP : va_P Dg classes (wP b k Gi) H := hP
    have hD : va_D (va_A (wP b k G) s.heap.size) (wP b k Gi) := hD
    have hif : i + f = z := hif
    have hGi : Gi = sMk (sClr G z) i := hGi
    have hsz : Gi 5 0 = nI z := by rw [hGi, sMk_5, sClr_5]; exact ez
    refine lv_iload_n hx hb d_Prg_findTargets_25 rfl (lv_at hl 0 rfl) ?_
    refine lv_aload_n hx hb d_Prg_findTargets_26 rfl (lv_at hl 1 rfl) ?_
    refine va_get (D := Dg) (ci := 2) (v := .int (Gi 5 0)) (C := R_Prg) (T := F_Prg) (N := 7) hx hb hT in_Prg hown hK hP 0 rfl rfl 5 (by decide) (hT _ tw1_41) (fun _ h9 => h9) rfl d_Prg_findTargets_27 ?_
    refine lv_icmp_ge (tgt := 87) hx hb d_Prg_findTargets_30 (by decide) (fun h30 => ?_) (fun h30 => ?_)
    · exact km_v F hlocks hret hP hD hS d_Prg_findTargets_87 (by rw [etg, hGi, show i = z by have := (nI_leI (by omega) (by omega)).mp (hsz ▸ h30); omega])
    · have hi : i < z := by rcases Nat.lt_or_ge i z with y | y; exact y; exact absurd (by rw [hsz]; exact nI_le y (by omega)) h30
      obtain ⟨f, rfl⟩ : ∃ g, f = g + 1 := ⟨f - 1, by omega⟩
      refine lv_aload_n hx hb d_Prg_findTargets_33 rfl (lv_at hl 1 rfl) ?_
      refine va_get (D := Dg) (ci := 2) (v := .ref (b 1)) (C := R_Prg) (T := F_Prg) (N := 7) hx hb hT in_Prg hown hK hP 0 rfl rfl 0 (by decide) (hT _ tw1_32) (fun _ h9 => h9) rfl d_Prg_findTargets_34 ?_
      refine lv_iload_n hx hb d_Prg_findTargets_37 rfl (lv_at hl 0 rfl) ?_
      refine va_iald (f := (Gi 0)) hx hb hK hP 1 0 rfl rfl (vp_in_nI (by omega) (by decide)) d_Prg_findTargets_38 ?_
      refine lv_istore_n hx hb d_Prg_findTargets_39 rfl hl (by decide) rfl (fun ls hl => ?_)
      have hl : lv_has ls 3 [(2, .int ((Gi 0) (nI i).toNatClampNeg)), (1, .int (nI i)), (0, .ref (b 0))] := hl
      refine lv_iload_n hx hb d_Prg_findTargets_40 rfl (lv_at hl 0 rfl) ?_
      refine lv_bipush (v := 74) hx hb d_Prg_findTargets_41 (by decide) ?_
      refine lv_icmp_eq (tgt := 58) hx hb d_Prg_findTargets_43 (by decide) (fun h43 => ?_) (fun h43 => ?_)
      · refine lv_aload_n hx hb d_Prg_findTargets_58 rfl (lv_at hl 2 rfl) ?_
        refine lv_aload_n hx hb d_Prg_findTargets_59 rfl (lv_at hl 2 rfl) ?_
        refine va_get (D := Dg) (ci := 2) (v := .ref (b 2)) (C := R_Prg) (T := F_Prg) (N := 7) hx hb hT in_Prg hown hK hP 0 rfl rfl 1 (by decide) (hT _ tw1_34) (fun _ h9 => h9) rfl d_Prg_findTargets_60 ?_
        refine lv_iload_n hx hb d_Prg_findTargets_63 rfl (lv_at hl 1 rfl) ?_
        refine va_iald (f := (Gi 1)) hx hb hK hP 2 0 rfl rfl (vp_in_nI (by omega) (by decide)) d_Prg_findTargets_64 ?_
        refine km_Vv (wr := []) F (c_Prg_markTarget l Dg b k Gi ((Gi 1) (nI i).toNatClampNeg) _ hP (hD.weaken (fun _ _ _ _ => trivial)) ⟨z, hz80, hsz⟩) kx_K hK kw_Prg_57 tw2_91 ts_6 (va_recv (ci := 2) (q0 := 0) hK hP rfl rfl) hP hD hS hA [0, 1, 2, 3, 4, 5] [] rfl rfl (by decide) (by decide) d_Prg_findTargets_65 ⟨⟨by decide, by decide⟩, Nat.le_refl _, Nat.le_refl _⟩ rfl hl.1 rfl (Nat.le_of_ble_eq_true rfl) (fun H locs hP hD hS => ?_)
        have hP : va_P Dg classes (wP b k (sMark Gi ((Gi 1) (nI i).toNatClampNeg))) H := hP
        have hD : va_D (va_A (wP b k G) s.heap.size) (wP b k (sMark Gi ((Gi 1) (nI i).toNatClampNeg))) := hD
        obtain ⟨Gs1, hGs1⟩ : ∃ z, z = (sMark Gi ((Gi 1) (nI i).toNatClampNeg)) := ⟨_, rfl⟩
        rw [← hGs1] at hP hD
        refine lv_iload_n hx hb d_Prg_findTargets_68 rfl (lv_at hl 0 rfl) ?_
        refine lv_bipush (v := 67) hx hb d_Prg_findTargets_69 (by decide) ?_
        refine lv_icmp_ne (tgt := 81) hx hb d_Prg_findTargets_71 (by decide) (fun _ => ?_) (fun h9 => absurd h9 (by rw [h43]; decide))
        refine lv_iinc (k := 1) (v := (nI (i + 1))) hx hb d_Prg_findTargets_81 hl rfl (nI_succ _).symm (by decide) rfl (fun ls hl => ?_)
        have hl : lv_has ls 3 [(1, .int (nI (i + 1))), (2, .int ((Gi 0) (nI i).toNatClampNeg)), (0, .ref (b 0))] := hl
        refine lv_goto (tgt := 25) hx hb d_Prg_findTargets_84 (by decide) ?_
        exact ih f (i + 1, Gs1) H locs ls (by omega) ⟨by show i + 1 + f = z; omega, by show Gs1 = sMk1 (sMk (sClr G z) i) i; rw [← hGi]; unfold sMk1; rw [if_neg (by rw [h43]; decide), if_pos (Or.inl h43), hGs1], (lv_sub hl [0, 2] rfl), hP, hD, hS⟩
      · refine lv_iload_n hx hb d_Prg_findTargets_46 rfl (lv_at hl 0 rfl) ?_
        refine lv_bipush (v := 90) hx hb d_Prg_findTargets_47 (by decide) ?_
        refine lv_icmp_eq (tgt := 58) hx hb d_Prg_findTargets_49 (by decide) (fun h49 => ?_) (fun h49 => ?_)
        · refine lv_aload_n hx hb d_Prg_findTargets_58 rfl (lv_at hl 2 rfl) ?_
          refine lv_aload_n hx hb d_Prg_findTargets_59 rfl (lv_at hl 2 rfl) ?_
          refine va_get (D := Dg) (ci := 2) (v := .ref (b 2)) (C := R_Prg) (T := F_Prg) (N := 7) hx hb hT in_Prg hown hK hP 0 rfl rfl 1 (by decide) (hT _ tw1_34) (fun _ h9 => h9) rfl d_Prg_findTargets_60 ?_
          refine lv_iload_n hx hb d_Prg_findTargets_63 rfl (lv_at hl 1 rfl) ?_
          refine va_iald (f := (Gi 1)) hx hb hK hP 2 0 rfl rfl (vp_in_nI (by omega) (by decide)) d_Prg_findTargets_64 ?_
          refine km_Vv (wr := []) F (c_Prg_markTarget l Dg b k Gi ((Gi 1) (nI i).toNatClampNeg) _ hP (hD.weaken (fun _ _ _ _ => trivial)) ⟨z, hz80, hsz⟩) kx_K hK kw_Prg_57 tw2_91 ts_6 (va_recv (ci := 2) (q0 := 0) hK hP rfl rfl) hP hD hS hA [0, 1, 2, 3, 4, 5] [] rfl rfl (by decide) (by decide) d_Prg_findTargets_65 ⟨⟨by decide, by decide⟩, Nat.le_refl _, Nat.le_refl _⟩ rfl hl.1 rfl (Nat.le_of_ble_eq_true rfl) (fun H locs hP hD hS => ?_)
          have hP : va_P Dg classes (wP b k (sMark Gi ((Gi 1) (nI i).toNatClampNeg))) H := hP
          have hD : va_D (va_A (wP b k G) s.heap.size) (wP b k (sMark Gi ((Gi 1) (nI i).toNatClampNeg))) := hD
          obtain ⟨Gs2, hGs2⟩ : ∃ z, z = (sMark Gi ((Gi 1) (nI i).toNatClampNeg)) := ⟨_, rfl⟩
          rw [← hGs2] at hP hD
          refine lv_iload_n hx hb d_Prg_findTargets_68 rfl (lv_at hl 0 rfl) ?_
          refine lv_bipush (v := 67) hx hb d_Prg_findTargets_69 (by decide) ?_
          refine lv_icmp_ne (tgt := 81) hx hb d_Prg_findTargets_71 (by decide) (fun _ => ?_) (fun h9 => absurd h9 (by rw [h49]; decide))
          refine lv_iinc (k := 1) (v := (nI (i + 1))) hx hb d_Prg_findTargets_81 hl rfl (nI_succ _).symm (by decide) rfl (fun ls hl => ?_)
          have hl : lv_has ls 3 [(1, .int (nI (i + 1))), (2, .int ((Gi 0) (nI i).toNatClampNeg)), (0, .ref (b 0))] := hl
          refine lv_goto (tgt := 25) hx hb d_Prg_findTargets_84 (by decide) ?_
          exact ih f (i + 1, Gs2) H locs ls (by omega) ⟨by show i + 1 + f = z; omega, by show Gs2 = sMk1 (sMk (sClr G z) i) i; rw [← hGi]; unfold sMk1; rw [if_neg (by rw [h49]; decide), if_pos (Or.inr h49), hGs2], (lv_sub hl [0, 2] rfl), hP, hD, hS⟩
        · refine lv_iload_n hx hb d_Prg_findTargets_52 rfl (lv_at hl 0 rfl) ?_
          refine lv_bipush (v := 67) hx hb d_Prg_findTargets_53 (by decide) ?_
          refine lv_icmp_ne (tgt := 68) hx hb d_Prg_findTargets_55 (by decide) (fun h55 => ?_) (fun h55 => ?_)
          · refine lv_iload_n hx hb d_Prg_findTargets_68 rfl (lv_at hl 0 rfl) ?_
            refine lv_bipush (v := 67) hx hb d_Prg_findTargets_69 (by decide) ?_
            refine lv_icmp_ne (tgt := 81) hx hb d_Prg_findTargets_71 (by decide) (fun _ => ?_) (fun h9 => absurd h9 h55)
            refine lv_iinc (k := 1) (v := (nI (i + 1))) hx hb d_Prg_findTargets_81 hl rfl (nI_succ _).symm (by decide) rfl (fun ls hl => ?_)
            have hl : lv_has ls 3 [(1, .int (nI (i + 1))), (2, .int ((Gi 0) (nI i).toNatClampNeg)), (0, .ref (b 0))] := hl
            refine lv_goto (tgt := 25) hx hb d_Prg_findTargets_84 (by decide) ?_
            exact ih f (i + 1, Gi) H locs ls (by omega) ⟨by show i + 1 + f = z; omega, by show Gi = sMk1 (sMk (sClr G z) i) i; rw [← hGi]; unfold sMk1; rw [if_neg h55, if_neg (fun y => y.elim h43 h49)], (lv_sub hl [0, 2] rfl), hP, hD, hS⟩
          · refine lv_aload_n hx hb d_Prg_findTargets_58 rfl (lv_at hl 2 rfl) ?_
            refine lv_aload_n hx hb d_Prg_findTargets_59 rfl (lv_at hl 2 rfl) ?_
            refine va_get (D := Dg) (ci := 2) (v := .ref (b 2)) (C := R_Prg) (T := F_Prg) (N := 7) hx hb hT in_Prg hown hK hP 0 rfl rfl 1 (by decide) (hT _ tw1_34) (fun _ h9 => h9) rfl d_Prg_findTargets_60 ?_
            refine lv_iload_n hx hb d_Prg_findTargets_63 rfl (lv_at hl 1 rfl) ?_
            refine va_iald (f := (Gi 1)) hx hb hK hP 2 0 rfl rfl (vp_in_nI (by omega) (by decide)) d_Prg_findTargets_64 ?_
            refine km_Vv (wr := []) F (c_Prg_markTarget l Dg b k Gi ((Gi 1) (nI i).toNatClampNeg) _ hP (hD.weaken (fun _ _ _ _ => trivial)) ⟨z, hz80, hsz⟩) kx_K hK kw_Prg_57 tw2_91 ts_6 (va_recv (ci := 2) (q0 := 0) hK hP rfl rfl) hP hD hS hA [0, 1, 2, 3, 4, 5] [] rfl rfl (by decide) (by decide) d_Prg_findTargets_65 ⟨⟨by decide, by decide⟩, Nat.le_refl _, Nat.le_refl _⟩ rfl hl.1 rfl (Nat.le_of_ble_eq_true rfl) (fun H locs hP hD hS => ?_)
            have hP : va_P Dg classes (wP b k (sMark Gi ((Gi 1) (nI i).toNatClampNeg))) H := hP
            have hD : va_D (va_A (wP b k G) s.heap.size) (wP b k (sMark Gi ((Gi 1) (nI i).toNatClampNeg))) := hD
            obtain ⟨Gs3, hGs3⟩ : ∃ z, z = (sMark Gi ((Gi 1) (nI i).toNatClampNeg)) := ⟨_, rfl⟩
            rw [← hGs3] at hP hD
            refine lv_iload_n hx hb d_Prg_findTargets_68 rfl (lv_at hl 0 rfl) ?_
            refine lv_bipush (v := 67) hx hb d_Prg_findTargets_69 (by decide) ?_
            refine lv_icmp_ne (tgt := 81) hx hb d_Prg_findTargets_71 (by decide) (fun h9 => absurd h55 h9) (fun _ => ?_)
            refine lv_aload_n hx hb d_Prg_findTargets_74 rfl (lv_at hl 2 rfl) ?_
            refine lv_iload_n hx hb d_Prg_findTargets_75 rfl (lv_at hl 1 rfl) ?_
            refine lv_iconst (v := 1) hx hb d_Prg_findTargets_76 (by decide) ?_
            refine lv_iadd hx hb d_Prg_findTargets_77 ?_
            refine km_Vv (wr := []) F (c_Prg_markTarget l Dg b k Gs3 ((nI i) + 1) _ hP (hD.weaken (fun _ _ _ _ => trivial)) ⟨z, hz80, by rw [hGs3, sMark_5]; exact hsz⟩) kx_K hK kw_Prg_57 tw2_91 ts_6 (va_recv (ci := 2) (q0 := 0) hK hP rfl rfl) hP hD hS hA [0, 1, 2, 3, 4, 5] [] rfl rfl (by decide) (by decide) d_Prg_findTargets_78 ⟨⟨by decide, by decide⟩, Nat.le_refl _, Nat.le_refl _⟩ rfl hl.1 rfl (Nat.le_of_ble_eq_true rfl) (fun H locs hP hD hS => ?_)
            have hP : va_P Dg classes (wP b k (sMark Gs3 ((nI i) + 1))) H := hP
            have hD : va_D (va_A (wP b k G) s.heap.size) (wP b k (sMark Gs3 ((nI i) + 1))) := hD
            obtain ⟨Gs4, hGs4⟩ : ∃ z, z = (sMark Gs3 ((nI i) + 1)) := ⟨_, rfl⟩
            rw [← hGs4] at hP hD
            refine lv_iinc (k := 1) (v := (nI (i + 1))) hx hb d_Prg_findTargets_81 hl rfl (nI_succ _).symm (by decide) rfl (fun ls hl => ?_)
            have hl : lv_has ls 3 [(1, .int (nI (i + 1))), (2, .int ((Gi 0) (nI i).toNatClampNeg)), (0, .ref (b 0))] := hl
            refine lv_goto (tgt := 25) hx hb d_Prg_findTargets_84 (by decide) ?_
            exact ih f (i + 1, Gs4) H locs ls (by omega) ⟨by show i + 1 + f = z; omega, by show Gs4 = sMk1 (sMk (sClr G z) i) i; rw [← hGi]; unfold sMk1; rw [if_pos h55, hGs4, hGs3], (lv_sub hl [0, 2] rfl), hP, hD, hS⟩
  · have hi : i < z := by rcases Nat.lt_or_ge i z with y | y; exact y; exact absurd (by rw [hsz]; exact nI_le y (by omega)) h7
    obtain ⟨f, rfl⟩ : ∃ g, f = g + 1 := ⟨f - 1, by omega⟩
    refine lv_aload_n hx hb d_Prg_findTargets_10 rfl (lv_at hl 1 rfl) ?_
    refine va_get (D := Dg) (ci := 2) (v := .ref (b 3)) (C := R_Prg) (T := F_Prg) (N := 7) hx hb hT in_Prg hown hK hP 0 rfl rfl 2 (by decide) (hT _ tw1_36) (fun _ h9 => h9) rfl d_Prg_findTargets_11 ?_
    refine lv_iload_n hx hb d_Prg_findTargets_14 rfl (lv_at hl 0 rfl) ?_
    refine lv_iconst (v := 0) hx hb d_Prg_findTargets_15 (by decide) ?_
    refine va_zast hx hb hK hP hD hS 3 1 rfl rfl (vp_in_nI (by omega) (by decide)) d_Prg_findTargets_16 (fun H locs hP hD hS => ?_)
    have hP : va_P Dg classes (wP b k (u2 Gi 2 (nI i).toNatClampNeg 0)) H := hP
    have hD : va_D (va_A (wP b k G) s.heap.size) (wP b k (u2 Gi 2 (nI i).toNatClampNeg 0)) := hD
    obtain ⟨Gs5, hGs5⟩ : ∃ z, z = (u2 Gi 2 (nI i).toNatClampNeg 0) := ⟨_, rfl⟩
    rw [← hGs5] at hP hD
    refine lv_iinc (k := 0) (v := (nI (i + 1))) hx hb d_Prg_findTargets_17 hl rfl (nI_succ _).symm (by decide) rfl (fun ls hl => ?_)
    have hl : lv_has ls 3 [(1, .int (nI (i + 1))), (0, .ref (b 0))] := hl
    refine lv_goto (tgt := 2) hx hb d_Prg_findTargets_20 (by decide) ?_
    exact ih f (i + 1, Gs5) H locs ls (by omega) ⟨by show i + 1 + f = z; omega, by show Gs5 = sClr G (i + 1); rw [hGs5, hGi]; rfl, (lv_sub hl [0, 1] rfl), hP, hD, hS⟩

set_option maxRecDepth 100000 in
set_option maxHeartbeats 4000000 in
theorem c_Prg_replace (l : Launch) (Dg : va_G) (b : Nat → Nat) (k : Nat → ClassId) (G : vSt) (q c n : Int32) (H : Heap) (hP : va_P Dg classes (wP b k G) H) (hD : va_D (fun _ => True) (wP b k G)) (hp : pOk G) (hq : vp_in q 80) : kMv l y_Prg_replace b_Prg_replace 4 3 64 [.ref (b 0), .int q, .int c, .int n] H (va_K Dg classes (kTy k)) Dg (wP b k G) (wP b k (sRepl G q c n)) := by
  refine k_of (by decide) (Nat.le_of_ble_eq_true rfl) ?_
  intro p e s m below meth cd ls F hlocks hret hname hh hX hl
  subst hh
  obtain ⟨hx, hb, hml, hown, hT⟩ := id F
  have hK : va_K Dg classes (kTy k) s := hX
  have hA : ∀ q : Nat, s.heap.size ≤ q → va_A (wP b k G) s.heap.size q := fun q h => Or.inr h
  have hD := hD.self (sz := s.heap.size)
  have hS : va_S (va_A (wP b k G) s.heap.size) s.heap s.heap [] := va_S.rf
  have hl : lv_has ls 4 [(0, .ref (b 0)), (1, .int q), (2, .int c), (3, .int n)] := hl
  refine lv_aload_n hx hb d_Prg_replace_0 rfl (lv_at hl 0 rfl) ?_
  refine va_get (D := Dg) (ci := 2) (v := .ref (b 1)) (C := R_Prg) (T := F_Prg) (N := 7) hx hb hT in_Prg hown hK hP 0 rfl rfl 0 (by decide) (hT _ tw1_32) (fun _ h9 => h9) rfl d_Prg_replace_1 ?_
  refine lv_iload_n hx hb d_Prg_replace_4 rfl (lv_at hl 1 rfl) ?_
  refine lv_iload_n hx hb d_Prg_replace_5 rfl (lv_at hl 2 rfl) ?_
  refine va_iast hx hb hK hP hD hS 1 0 rfl rfl hq d_Prg_replace_6 (fun H locs hP hD hS => ?_)
  have hP : va_P Dg classes (wP b k (u2 G 0 q.toNatClampNeg c)) H := hP
  have hD : va_D (va_A (wP b k G) s.heap.size) (wP b k (u2 G 0 q.toNatClampNeg c)) := hD
  obtain ⟨Gs1, hGs1⟩ : ∃ z, z = (u2 G 0 q.toNatClampNeg c) := ⟨_, rfl⟩
  rw [← hGs1] at hP hD
  refine lv_aload_n hx hb d_Prg_replace_7 rfl (lv_at hl 0 rfl) ?_
  refine va_get (D := Dg) (ci := 2) (v := .ref (b 2)) (C := R_Prg) (T := F_Prg) (N := 7) hx hb hT in_Prg hown hK hP 0 rfl rfl 1 (by decide) (hT _ tw1_34) (fun _ h9 => h9) rfl d_Prg_replace_8 ?_
  refine lv_iload_n hx hb d_Prg_replace_11 rfl (lv_at hl 1 rfl) ?_
  refine lv_iload_n hx hb d_Prg_replace_12 rfl (lv_at hl 3 rfl) ?_
  refine va_iast hx hb hK hP hD hS 2 0 rfl rfl hq d_Prg_replace_13 (fun H locs hP hD hS => ?_)
  have hP : va_P Dg classes (wP b k (u2 Gs1 1 q.toNatClampNeg n)) H := hP
  have hD : va_D (va_A (wP b k G) s.heap.size) (wP b k (u2 Gs1 1 q.toNatClampNeg n)) := hD
  obtain ⟨Gs2, hGs2⟩ : ∃ z, z = (u2 Gs1 1 q.toNatClampNeg n) := ⟨_, rfl⟩
  rw [← hGs2] at hP hD
  refine lv_aload_n hx hb d_Prg_replace_14 rfl (lv_at hl 0 rfl) ?_
  refine lv_iconst (v := 0) hx hb d_Prg_replace_15 (by decide) ?_
  refine va_put (D := Dg) (ci := 2) (v := .int 0) (ty := .boolean) (C := R_Prg) (T := F_Prg) (N := 7) hx hb hT in_Prg t_Prg t_Prg_ok n_Prg hown hK hP hD hS 0 rfl rfl 6 (by decide) (hT _ tw1_42) (fun _ h9 => h9) rfl (by decide +kernel) rfl rfl (Nat.le_of_ble_eq_true rfl) d_Prg_replace_16 (fun H locs hP hD hS => ?_)
  have hP : va_P Dg classes (wP b k (u2 Gs2 5 1 0)) H := hP
  have hD : va_D (va_A (wP b k G) s.heap.size) (wP b k (u2 Gs2 5 1 0)) := hD
  obtain ⟨Gs3, hGs3⟩ : ∃ z, z = (u2 Gs2 5 1 0) := ⟨_, rfl⟩
  rw [← hGs3] at hP hD
  refine lv_aload_n hx hb d_Prg_replace_19 rfl (lv_at hl 0 rfl) ?_
  refine km_Vv (wr := []) F (c_Prg_findTargets l Dg b k Gs3  _ hP (hD.weaken (fun _ _ _ _ => trivial)) (by rw [hGs3, hGs2, hGs1]; exact hp)) kx_K hK kw_Prg_54 tw2_87 ts_5 (va_recv (ci := 2) (q0 := 0) hK hP rfl rfl) hP hD hS hA [0, 1, 2, 3, 4, 5] [] rfl rfl (by decide) (by decide) d_Prg_replace_20 ⟨⟨by decide, by decide⟩, Nat.le_refl _, Nat.le_refl _⟩ rfl hl.1 rfl (Nat.le_of_ble_eq_true rfl) (fun H locs hP hD hS => ?_)
  have hP : va_P Dg classes (wP b k (sTgts Gs3)) H := hP
  have hD : va_D (va_A (wP b k G) s.heap.size) (wP b k (sTgts Gs3)) := hD
  obtain ⟨Gs4, hGs4⟩ : ∃ z, z = (sTgts Gs3) := ⟨_, rfl⟩
  rw [← hGs4] at hP hD
  exact km_v F hlocks hret hP hD hS d_Prg_replace_23 (by subst hGs4 hGs3 hGs2 hGs1; rfl)

set_option maxRecDepth 100000 in
set_option maxHeartbeats 4000000 in
theorem c_Prg_append (l : Launch) (Dg : va_G) (b : Nat → Nat) (k : Nat → ClassId) (G : vSt) (c n : Int32) (H : Heap) (hP : va_P Dg classes (wP b k G) H) (hD : va_D (fun _ => True) (wP b k G)) (hp : ∃ z : Nat, z < 80 ∧ G 5 0 = nI z) : kMi l y_Prg_append b_Prg_append 4 (some FieldType.int) 4 87 [.ref (b 0), .int c, .int n] H (va_K Dg classes (kTy k)) Dg (wP b k G) (wP b k (sApp G c n)) ((G 5 0)) := by
  refine k_of (by decide) (Nat.le_of_ble_eq_true rfl) ?_
  intro p e s m below meth cd ls F hlocks hret hname hh hX hl
  subst hh
  obtain ⟨hx, hb, hml, hown, hT⟩ := id F
  have hK : va_K Dg classes (kTy k) s := hX
  have hA : ∀ q : Nat, s.heap.size ≤ q → va_A (wP b k G) s.heap.size q := fun q h => Or.inr h
  have hD := hD.self (sz := s.heap.size)
  have hS : va_S (va_A (wP b k G) s.heap.size) s.heap s.heap [] := va_S.rf
  have hl : lv_has ls 4 [(0, .ref (b 0)), (1, .int c), (2, .int n)] := hl
  obtain ⟨z, hz80, ez⟩ := hp
  refine lv_aload_n hx hb d_Prg_append_0 rfl (lv_at hl 0 rfl) ?_
  refine va_get (D := Dg) (ci := 2) (v := .int (G 5 0)) (C := R_Prg) (T := F_Prg) (N := 7) hx hb hT in_Prg hown hK hP 0 rfl rfl 5 (by decide) (hT _ tw1_41) (fun _ h9 => h9) rfl d_Prg_append_1 ?_
  refine lv_istore_n hx hb d_Prg_append_4 rfl hl (by decide) rfl (fun ls hl => ?_)
  have hl : lv_has ls 4 [(3, .int (G 5 0)), (0, .ref (b 0)), (1, .int c), (2, .int n)] := hl
  refine lv_aload_n hx hb d_Prg_append_5 rfl (lv_at hl 1 rfl) ?_
  refine lv_dup hx hb d_Prg_append_6 rfl ?_
  refine va_get (D := Dg) (ci := 2) (v := .int (G 5 0)) (C := R_Prg) (T := F_Prg) (N := 7) hx hb hT in_Prg hown hK hP 0 rfl rfl 5 (by decide) (hT _ tw1_41) (fun _ h9 => h9) rfl d_Prg_append_7 ?_
  refine lv_iconst (v := 1) hx hb d_Prg_append_10 (by decide) ?_
  refine lv_iadd hx hb d_Prg_append_11 ?_
  refine va_put (D := Dg) (ci := 2) (v := .int ((G 5 0) + 1)) (ty := .int) (C := R_Prg) (T := F_Prg) (N := 7) hx hb hT in_Prg t_Prg t_Prg_ok n_Prg hown hK hP hD hS 0 rfl rfl 5 (by decide) (hT _ tw1_41) (fun _ h9 => h9) rfl (by decide +kernel) rfl rfl (Nat.le_of_ble_eq_true rfl) d_Prg_append_12 (fun H locs hP hD hS => ?_)
  have hP : va_P Dg classes (wP b k (u2 G 5 0 ((G 5 0) + 1))) H := hP
  have hD : va_D (va_A (wP b k G) s.heap.size) (wP b k (u2 G 5 0 ((G 5 0) + 1))) := hD
  obtain ⟨Gs1, hGs1⟩ : ∃ z, z = (u2 G 5 0 ((G 5 0) + 1)) := ⟨_, rfl⟩
  rw [← hGs1] at hP hD
  refine lv_aload_n hx hb d_Prg_append_15 rfl (lv_at hl 1 rfl) ?_
  refine lv_iload_n hx hb d_Prg_append_16 rfl (lv_at hl 0 rfl) ?_
  refine lv_iload_n hx hb d_Prg_append_17 rfl (lv_at hl 2 rfl) ?_
  refine lv_iload_n hx hb d_Prg_append_18 rfl (lv_at hl 3 rfl) ?_
  refine km_Vv (wr := []) F (c_Prg_replace l Dg b k Gs1 (G 5 0) c n _ hP (hD.weaken (fun _ _ _ _ => trivial)) ⟨z + 1, by omega, by rw [hGs1]; show G 5 0 + 1 = _; rw [ez]; exact (nI_succ z).symm⟩ (by rw [ez]; exact vp_in_nI hz80 (by decide))) kx_K hK kw_Prg_46 tw2_82 tw2_83 (va_recv (ci := 2) (q0 := 0) hK hP rfl rfl) hP hD hS hA [0, 1, 2, 3, 4, 5] [] rfl rfl (by decide) (by decide) d_Prg_append_19 ⟨⟨by decide, by decide⟩, Nat.le_refl _, Nat.le_refl _⟩ rfl hl.1 rfl (Nat.le_of_ble_eq_true rfl) (fun H locs hP hD hS => ?_)
  have hP : va_P Dg classes (wP b k (sRepl Gs1 (G 5 0) c n)) H := hP
  have hD : va_D (va_A (wP b k G) s.heap.size) (wP b k (sRepl Gs1 (G 5 0) c n)) := hD
  obtain ⟨Gs2, hGs2⟩ : ∃ z, z = (sRepl Gs1 (G 5 0) c n) := ⟨_, rfl⟩
  rw [← hGs2] at hP hD
  refine lv_iload_n hx hb d_Prg_append_22 rfl (lv_at hl 0 rfl) ?_
  exact km_i F hlocks hret hP hD hS d_Prg_append_23 rfl (by subst hGs2 hGs1; rfl)

set_option maxRecDepth 100000 in
set_option maxHeartbeats 4000000 in
theorem c_Prg_factOf (l : Launch) (Dg : va_G) (b : Nat → Nat) (k : Nat → ClassId) (G : vSt) (q w : Int32) (H : Heap) (hP : va_P Dg classes (wP b k G) H) (hq : vp_in q 80) : kPu l y_Prg_factOf b_Prg_factOf 3 (some FieldType.int) 0 0 [.ref (b 0), .int q, .int w] H (va_K Dg classes (kTy k)) (sPFact G q w) := by
  refine k_of (by decide) (Nat.le_of_ble_eq_true rfl) ?_
  intro p e s m below meth cd ls F hlocks hret hname hh hX hl
  subst hh
  obtain ⟨hx, hb, hml, hown, hT⟩ := id F
  have hK : va_K Dg classes (kTy k) s := hX
  have hS : va_S (fun _ => False) s.heap s.heap [] := va_S.rf
  have hl : lv_has ls 3 [(0, .ref (b 0)), (1, .int q), (2, .int w)] := hl
  rcases sw_2 w with rfl | rfl | rfl | hsw
  · refine lv_iload_n hx hb d_Prg_factOf_0 rfl (lv_at hl 2 rfl) ?_
    refine lv_tableIn (x := 0) (off := 27) (tgt := 28) hx hb d_Prg_factOf_1 (by decide) (by decide) rfl (by decide) ?_
    refine lv_aload_n hx hb d_Prg_factOf_28 rfl (lv_at hl 0 rfl) ?_
    refine va_get (D := Dg) (ci := 2) (v := .ref (b 1)) (C := R_Prg) (T := F_Prg) (N := 7) hx hb hT in_Prg hown hK hP 0 rfl rfl 0 (by decide) (hT _ tw1_32) (fun _ h9 => h9) rfl d_Prg_factOf_29 ?_
    refine lv_iload_n hx hb d_Prg_factOf_32 rfl (lv_at hl 1 rfl) ?_
    refine va_iald (f := (G 0)) hx hb hK hP 1 0 rfl rfl hq d_Prg_factOf_33 ?_
    exact kp_i F hlocks hret hS d_Prg_factOf_34 rfl
  · refine lv_iload_n hx hb d_Prg_factOf_0 rfl (lv_at hl 2 rfl) ?_
    refine lv_tableIn (x := 1) (off := 34) (tgt := 35) hx hb d_Prg_factOf_1 (by decide) (by decide) rfl (by decide) ?_
    refine lv_aload_n hx hb d_Prg_factOf_35 rfl (lv_at hl 0 rfl) ?_
    refine va_get (D := Dg) (ci := 2) (v := .ref (b 2)) (C := R_Prg) (T := F_Prg) (N := 7) hx hb hT in_Prg hown hK hP 0 rfl rfl 1 (by decide) (hT _ tw1_34) (fun _ h9 => h9) rfl d_Prg_factOf_36 ?_
    refine lv_iload_n hx hb d_Prg_factOf_39 rfl (lv_at hl 1 rfl) ?_
    refine va_iald (f := (G 1)) hx hb hK hP 2 0 rfl rfl hq d_Prg_factOf_40 ?_
    exact kp_i F hlocks hret hS d_Prg_factOf_41 rfl
  · refine lv_iload_n hx hb d_Prg_factOf_0 rfl (lv_at hl 2 rfl) ?_
    refine lv_tableIn (x := 2) (off := 41) (tgt := 42) hx hb d_Prg_factOf_1 (by decide) (by decide) rfl (by decide) ?_
    refine lv_aload_n hx hb d_Prg_factOf_42 rfl (lv_at hl 0 rfl) ?_
    refine va_get (D := Dg) (ci := 2) (v := .ref (b 4)) (C := R_Prg) (T := F_Prg) (N := 7) hx hb hT in_Prg hown hK hP 0 rfl rfl 3 (by decide) (hT _ tw1_37) (fun _ h9 => h9) rfl d_Prg_factOf_43 ?_
    refine lv_iload_n hx hb d_Prg_factOf_46 rfl (lv_at hl 1 rfl) ?_
    refine va_iald (f := (G 3)) hx hb hK hP 4 0 rfl rfl hq d_Prg_factOf_47 ?_
    exact kp_i F hlocks hret hS d_Prg_factOf_48 rfl
  · refine lv_iload_n hx hb d_Prg_factOf_0 rfl (lv_at hl 2 rfl) ?_
    refine lv_tableOut (tgt := 49) hx hb d_Prg_factOf_1 hsw (by decide) ?_
    refine lv_aload_n hx hb d_Prg_factOf_49 rfl (lv_at hl 0 rfl) ?_
    refine va_get (D := Dg) (ci := 2) (v := .ref (b 3)) (C := R_Prg) (T := F_Prg) (N := 7) hx hb hT in_Prg hown hK hP 0 rfl rfl 2 (by decide) (hT _ tw1_36) (fun _ h9 => h9) rfl d_Prg_factOf_50 ?_
    refine lv_iload_n hx hb d_Prg_factOf_53 rfl (lv_at hl 1 rfl) ?_
    refine va_zald (f := (G 2)) hx hb hK hP 3 1 rfl rfl hq d_Prg_factOf_54 ?_
    refine lv_if_eq (tgt := 62) hx hb d_Prg_factOf_55 (by decide) (fun h55 => ?_) (fun h55 => ?_)
    · refine lv_iconst (v := 0) hx hb d_Prg_factOf_62 (by decide) ?_
      exact kp_i F hlocks hret hS d_Prg_factOf_63 (by unfold sPFact; rw [if_neg (ne_of_out hsw 0 (by decide) (by decide)), if_neg (ne_of_out hsw 1 (by decide) (by decide)), if_neg (ne_of_out hsw 2 (by decide) (by decide)), if_pos h55])
    · refine lv_iconst (v := 1) hx hb d_Prg_factOf_58 (by decide) ?_
      refine lv_goto (tgt := 63) hx hb d_Prg_factOf_59 (by decide) ?_
      exact kp_i F hlocks hret hS d_Prg_factOf_63 (by unfold sPFact; rw [if_neg (ne_of_out hsw 0 (by decide) (by decide)), if_neg (ne_of_out hsw 1 (by decide) (by decide)), if_neg (ne_of_out hsw 2 (by decide) (by decide)), if_neg h55])
