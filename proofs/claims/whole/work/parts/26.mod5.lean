theorem alkF_le (D : vSt) (r q : Nat) : ∀ f n, alkF D r q f n ≤ n + f := by
  intro f
  induction f with
  | zero => intro n; exact Nat.le_refl _
  | succ f ih =>
    intro n
    unfold alkF
    have := ih (n + 1)
    split
    · omega
    · split
      · split
        · omega
        · split
          · omega
          · omega
      · omega
theorem dAlk_le (D : vSt) (r q : Nat) : dAlk D r q ≤ 4 := by have := alkF_le D r q 4 0; unfold dAlk; omega
theorem m1_eq (x : Int32) : x + -1 = x - 1 := (Int32.sub_eq_add_neg x 1).symm

set_option maxRecDepth 100000 in
set_option maxHeartbeats 4000000 in
theorem c_Mod_rowAt (l : Launch) (Dg : va_G) (a : Nat → Nat) (k : Nat → ClassId) (D : vSt) (q : Nat) (H : Heap) (hP : va_P Dg classes (wD a k D) H) (hsz : dSz D) (hrw : dRows D) (hq : q < 80) : kPu l y_Mod_rowAt b_Mod_rowAt 5 (some FieldType.int) 3 66 [.ref (a 0), .int (nI q)] H (va_K Dg classes (kTy k)) (dRa D q) := by
  refine k_of (by decide) (Nat.le_of_ble_eq_true rfl) ?_
  intro p e s m below meth cd ls F hlocks hret hname hh hX hl
  subst hh
  obtain ⟨hx, hb, hml, hown, hT⟩ := id F
  have hK : va_K Dg classes (kTy k) s := hX
  have hS : va_S (fun _ => False) s.heap s.heap [] := va_S.rf
  have hl : lv_has ls 5 [(0, .ref (a 0)), (1, .int (nI q))] := hl
  refine lv_iconst (v := (-1)) hx hb d_Mod_rowAt_0 (by decide) ?_
  refine lv_istore_n hx hb d_Mod_rowAt_1 rfl hl (by decide) rfl (fun ls hl => ?_)
  have hl : lv_has ls 5 [(2, .int (-1)), (0, .ref (a 0)), (1, .int (nI q))] := hl
  refine lv_bipush (v := 19) hx hb d_Mod_rowAt_2 (by decide) ?_
  refine lv_istore_n hx hb d_Mod_rowAt_4 rfl hl (by decide) rfl (fun ls hl => ?_)
  have hl : lv_has ls 5 [(3, .int 19), (2, .int (-1)), (0, .ref (a 0)), (1, .int (nI q))] := hl
  refine k_while (σ := Int32 × Int32) (fun f x H locs ls => f ≤ 20 ∧ x.1 = nI f - 1 ∧ (x.2 = -1 ∨ ∃ j, j < 20 ∧ x.2 = nI j) ∧ dRaF D q f x.2 = dRa D q ∧ H = s.heap ∧ lv_has ls 5 [(3, .int x.1), (2, .int x.2), (0, .ref (a 0)), (1, .int (nI q))] ∧ va_S (fun _ => False) s.heap H locs) ?_ 20 (19, -1) ⟨by decide, by decide, Or.inl rfl, rfl, rfl, (lv_sub hl [0, 1, 2, 3] rfl), hS⟩
  rintro f ⟨rw, best⟩ H locs ls ⟨hif, erw, hbo, hra, rfl, hl, hS⟩ ih
  have hl : lv_has ls 5 [(3, .int rw), (2, .int best), (0, .ref (a 0)), (1, .int (nI q))] := hl
  have hif : f ≤ 20 := hif
  have erw : rw = nI f - 1 := erw
  have hbo : best = -1 ∨ ∃ j, j < 20 ∧ best = nI j := hbo
  have hra : dRaF D q f best = dRa D q := hra
  refine lv_iload_n hx hb d_Mod_rowAt_5 rfl (lv_at hl 0 rfl) ?_
  refine lv_if_lt (tgt := 61) hx hb d_Mod_rowAt_6 (by decide) (fun h6 => ?_) (fun h6 => ?_)
  · refine lv_iload_n hx hb d_Mod_rowAt_61 rfl (lv_at hl 1 rfl) ?_
    exact kp_i F hlocks hret hS d_Mod_rowAt_62 (by rw [← hra, show f = 0 by rcases Nat.eq_zero_or_pos f with y | y; exact y; exact absurd (show rw < 0 from h6) (by rw [erw, show nI f - 1 = nI (f - 1) from pk_sub (b := 1) (by omega)]; exact nI_pos (by omega))]; rfl)
  · obtain ⟨r, rfl⟩ : ∃ g, f = g + 1 := by rcases Nat.eq_zero_or_pos f with y | y; exact absurd (by rw [erw, y]; decide) h6; exact ⟨f - 1, by omega⟩
    have erw : rw = nI r := by rw [erw]; exact nI_pred r
    subst erw
    have era : dRaF D q (r + 1) best = (if dAlk D r q = rn r then (if best = -1 then dRaF D q r (nI r) else if nI (rn r) < nI (rn best.toNatClampNeg) then dRaF D q r best else dRaF D q r (nI r)) else dRaF D q r best) := rfl
    have hr4 := rn_le r (by omega)
    have halk4 : dAlk D r q < 2 ^ 31 := Nat.lt_of_le_of_lt (dAlk_le D r q) (by decide)
    refine lv_aload_n hx hb d_Mod_rowAt_9 rfl (lv_at hl 2 rfl) ?_
    refine lv_iload_n hx hb d_Mod_rowAt_10 rfl (lv_at hl 0 rfl) ?_
    refine lv_iload_n hx hb d_Mod_rowAt_11 rfl (lv_at hl 3 rfl) ?_
    refine kp_V F (c_Mod_alike l Dg a k D r q _ hP hsz (by omega) hq) kx_K hK kw_Mod_92 tw3_85 ts_18 (va_recv (ci := 3) (q0 := 0) hK hP rfl rfl) hS d_Mod_rowAt_12 ⟨⟨by decide, by decide⟩, Nat.le_refl _, Nat.le_refl _⟩ rfl hl.1 rfl (Nat.le_of_ble_eq_true rfl) (fun locs hS => ?_)
    refine lv_aload_n hx hb d_Mod_rowAt_15 rfl (lv_at hl 2 rfl) ?_
    refine lv_iload_n hx hb d_Mod_rowAt_16 rfl (lv_at hl 0 rfl) ?_
    refine kp_V F (c_Mod_lengthOf l Dg a k D (nI r) _ hP hrw ⟨r, by omega, rfl⟩) kx_K hK kw_Mod_96 tw3_96 ts_20 (va_recv (ci := 3) (q0 := 0) hK hP rfl rfl) hS d_Mod_rowAt_17 ⟨⟨by decide, by decide⟩, Nat.le_refl _, Nat.le_refl _⟩ rfl hl.1 rfl (Nat.le_of_ble_eq_true rfl) (fun locs hS => ?_)
    rw [nI_clamp (show r < 2 ^ 31 by omega)]
    refine lv_icmp_ne (tgt := 27) hx hb d_Mod_rowAt_20 (by decide) (fun h20 => ?_) (fun h20 => ?_)
    · refine lv_iconst (v := 0) hx hb d_Mod_rowAt_27 (by decide) ?_
      refine lv_istore hx hb d_Mod_rowAt_28 hl (by decide) rfl (fun ls hl => ?_)
      have hl : lv_has ls 5 [(4, .int 0), (3, .int (nI r)), (2, .int best), (0, .ref (a 0)), (1, .int (nI q))] := hl
      refine lv_iload hx hb d_Mod_rowAt_30 (lv_at hl 0 rfl) ?_
      refine lv_if_eq (tgt := 55) hx hb d_Mod_rowAt_32 (by decide) (fun _ => ?_) (fun h9 => absurd (by decide) h9)
      refine lv_iinc (k := 1) (v := ((nI r) + (-1))) hx hb d_Mod_rowAt_55 hl rfl (by rfl) (by decide) rfl (fun ls hl => ?_)
      have hl : lv_has ls 5 [(3, .int ((nI r) + (-1))), (4, .int 0), (2, .int best), (0, .ref (a 0)), (1, .int (nI q))] := hl
      refine lv_goto (tgt := 5) hx hb d_Mod_rowAt_58 (by decide) ?_
      exact ih r (nI r + -1, best) _ locs ls (by omega) ⟨by omega, m1_eq (nI r), hbo, by show dRaF D q r best = _; rw [← hra, era, if_neg (fun y => h20 (by rw [y]))], rfl, (lv_sub hl [0, 2, 3, 4] rfl), hS⟩
    · refine lv_iconst (v := 1) hx hb d_Mod_rowAt_23 (by decide) ?_
      refine lv_goto (tgt := 28) hx hb d_Mod_rowAt_24 (by decide) ?_
      refine lv_istore hx hb d_Mod_rowAt_28 hl (by decide) rfl (fun ls hl => ?_)
      have hl : lv_has ls 5 [(4, .int 1), (3, .int (nI r)), (2, .int best), (0, .ref (a 0)), (1, .int (nI q))] := hl
      refine lv_iload hx hb d_Mod_rowAt_30 (lv_at hl 0 rfl) ?_
      refine lv_if_eq (tgt := 55) hx hb d_Mod_rowAt_32 (by decide) (fun h9 => absurd h9 (by decide)) (fun _ => ?_)
      refine lv_iload_n hx hb d_Mod_rowAt_35 rfl (lv_at hl 2 rfl) ?_
      refine lv_iconst (v := (-1)) hx hb d_Mod_rowAt_36 (by decide) ?_
      refine lv_icmp_eq (tgt := 53) hx hb d_Mod_rowAt_37 (by decide) (fun h37 => ?_) (fun h37 => ?_)
      · refine lv_iload_n hx hb d_Mod_rowAt_53 rfl (lv_at hl 1 rfl) ?_
        refine lv_istore_n hx hb d_Mod_rowAt_54 rfl hl (by decide) rfl (fun ls hl => ?_)
        have hl : lv_has ls 5 [(2, .int (nI r)), (4, .int 1), (3, .int (nI r)), (0, .ref (a 0)), (1, .int (nI q))] := hl
        refine lv_iinc (k := 2) (v := ((nI r) + (-1))) hx hb d_Mod_rowAt_55 hl rfl (by rfl) (by decide) rfl (fun ls hl => ?_)
        have hl : lv_has ls 5 [(3, .int ((nI r) + (-1))), (2, .int (nI r)), (4, .int 1), (0, .ref (a 0)), (1, .int (nI q))] := hl
        refine lv_goto (tgt := 5) hx hb d_Mod_rowAt_58 (by decide) ?_
        exact ih r (nI r + -1, (nI r)) _ locs ls (by omega) ⟨by omega, m1_eq (nI r), Or.inr ⟨r, by omega, rfl⟩, by show dRaF D q r (nI r) = _; rw [← hra, era, if_pos ((nI_eq halk4 (by omega)).mp h20), if_pos h37], rfl, (lv_sub hl [0, 1, 3, 4] rfl), hS⟩
      · refine lv_aload_n hx hb d_Mod_rowAt_40 rfl (lv_at hl 3 rfl) ?_
        refine lv_iload_n hx hb d_Mod_rowAt_41 rfl (lv_at hl 1 rfl) ?_
        refine kp_V F (c_Mod_lengthOf l Dg a k D (nI r) _ hP hrw ⟨r, by omega, rfl⟩) kx_K hK kw_Mod_96 tw3_96 ts_20 (va_recv (ci := 3) (q0 := 0) hK hP rfl rfl) hS d_Mod_rowAt_42 ⟨⟨by decide, by decide⟩, Nat.le_refl _, Nat.le_refl _⟩ rfl hl.1 rfl (Nat.le_of_ble_eq_true rfl) (fun locs hS => ?_)
        rw [nI_clamp (show r < 2 ^ 31 by omega)]
        refine lv_aload_n hx hb d_Mod_rowAt_45 rfl (lv_at hl 3 rfl) ?_
        refine lv_iload_n hx hb d_Mod_rowAt_46 rfl (lv_at hl 2 rfl) ?_
        refine kp_V F (c_Mod_lengthOf l Dg a k D best _ hP hrw (hbo.resolve_left h37)) kx_K hK kw_Mod_96 tw3_96 ts_20 (va_recv (ci := 3) (q0 := 0) hK hP rfl rfl) hS d_Mod_rowAt_47 ⟨⟨by decide, by decide⟩, Nat.le_refl _, Nat.le_refl _⟩ rfl hl.1 rfl (Nat.le_of_ble_eq_true rfl) (fun locs hS => ?_)
        refine lv_icmp_lt (tgt := 55) hx hb d_Mod_rowAt_50 (by decide) (fun h50 => ?_) (fun h50 => ?_)
        · refine lv_iinc (k := 1) (v := ((nI r) + (-1))) hx hb d_Mod_rowAt_55 hl rfl (by rfl) (by decide) rfl (fun ls hl => ?_)
          have hl : lv_has ls 5 [(3, .int ((nI r) + (-1))), (4, .int 1), (2, .int best), (0, .ref (a 0)), (1, .int (nI q))] := hl
          refine lv_goto (tgt := 5) hx hb d_Mod_rowAt_58 (by decide) ?_
          exact ih r (nI r + -1, best) _ locs ls (by omega) ⟨by omega, m1_eq (nI r), hbo, by show dRaF D q r best = _; rw [← hra, era, if_pos ((nI_eq halk4 (by omega)).mp h20), if_neg h37, if_pos h50], rfl, (lv_sub hl [0, 2, 3, 4] rfl), hS⟩
        · refine lv_iload_n hx hb d_Mod_rowAt_53 rfl (lv_at hl 1 rfl) ?_
          refine lv_istore_n hx hb d_Mod_rowAt_54 rfl hl (by decide) rfl (fun ls hl => ?_)
          have hl : lv_has ls 5 [(2, .int (nI r)), (4, .int 1), (3, .int (nI r)), (0, .ref (a 0)), (1, .int (nI q))] := hl
          refine lv_iinc (k := 2) (v := ((nI r) + (-1))) hx hb d_Mod_rowAt_55 hl rfl (by rfl) (by decide) rfl (fun ls hl => ?_)
          have hl : lv_has ls 5 [(3, .int ((nI r) + (-1))), (2, .int (nI r)), (4, .int 1), (0, .ref (a 0)), (1, .int (nI q))] := hl
          refine lv_goto (tgt := 5) hx hb d_Mod_rowAt_58 (by decide) ?_
          exact ih r (nI r + -1, (nI r)) _ locs ls (by omega) ⟨by omega, m1_eq (nI r), Or.inr ⟨r, by omega, rfl⟩, by show dRaF D q r (nI r) = _; rw [← hra, era, if_pos ((nI_eq halk4 (by omega)).mp h20), if_neg h37, if_neg h50], rfl, (lv_sub hl [0, 1, 3, 4] rfl), hS⟩

set_option maxRecDepth 100000 in
set_option maxHeartbeats 4000000 in
theorem c_Mod_fuse (l : Launch) (Dg : va_G) (a : Nat → Nat) (k : Nat → ClassId) (D : vSt) (H : Heap) (hP : va_P Dg classes (wD a k D) H) (hD : va_D (fun _ => True) (wD a k D)) (hsz : dSz D) (hrw : dRows D) : kMi l y_Mod_fuse b_Mod_fuse 5 (some FieldType.int) 4 90 [.ref (a 0)] H (va_K Dg classes (kTy k)) Dg (wD a k D) (wD a k (dFuM D)) (dFuR D) := by
  refine k_of (by decide) (Nat.le_of_ble_eq_true rfl) ?_
  intro p e s m below meth cd ls F hlocks hret hname hh hX hl
  subst hh
  obtain ⟨hx, hb, hml, hown, hT⟩ := id F
  have hK : va_K Dg classes (kTy k) s := hX
  have hA : ∀ q : Nat, s.heap.size ≤ q → va_A (wD a k D) s.heap.size q := fun q h => Or.inr h
  have hD := hD.self (sz := s.heap.size)
  have hS : va_S (va_A (wD a k D) s.heap.size) s.heap s.heap [] := va_S.rf
  have hl : lv_has ls 5 [(0, .ref (a 0))] := hl
  obtain ⟨z, hz80, ez⟩ := id hsz
  have efu : (dFuS (u2 D 14 0 0) (D 14 1).toNatClampNeg) = dFuS (u2 D 14 0 0) z := by rw [ez, nI_clamp (by omega)]
  refine lv_aload_n hx hb d_Mod_fuse_0 rfl (lv_at hl 0 rfl) ?_
  refine lv_iconst (v := 0) hx hb d_Mod_fuse_1 (by decide) ?_
  refine va_put (D := Dg) (ci := 3) (v := .int 0) (ty := .int) (C := R_Mod) (T := F_Mod) (N := 17) hx hb hT in_Mod t_Mod t_Mod_ok n_Mod hown hK hP hD hS 0 rfl rfl 0 (by decide) (hT _ tw2_226) (fun _ h9 => h9) rfl (by decide +kernel) rfl rfl (Nat.le_of_ble_eq_true rfl) d_Mod_fuse_2 (fun H locs hP hD hS => ?_)
  have hP : va_P Dg classes (wD a k (u2 D 14 0 0)) H := hP
  have hD : va_D (va_A (wD a k D) s.heap.size) (wD a k (u2 D 14 0 0)) := hD
  obtain ⟨Ds1, hDs1⟩ : ∃ z9, z9 = (u2 D 14 0 0) := ⟨_, rfl⟩
  rw [← hDs1] at hP hD
  refine lv_iconst (v := 0) hx hb d_Mod_fuse_5 (by decide) ?_
  refine lv_istore_n hx hb d_Mod_fuse_6 rfl hl (by decide) rfl (fun ls hl => ?_)
  have hl : lv_has ls 5 [(1, .int 0), (0, .ref (a 0))] := hl
  refine lv_iconst (v := 0) hx hb d_Mod_fuse_7 (by decide) ?_
  refine lv_istore_n hx hb d_Mod_fuse_8 rfl hl (by decide) rfl (fun ls hl => ?_)
  have hl : lv_has ls 5 [(2, .int 0), (1, .int 0), (0, .ref (a 0))] := hl
  refine lv_iconst (v := 0) hx hb d_Mod_fuse_9 (by decide) ?_
  refine lv_istore_n hx hb d_Mod_fuse_10 rfl hl (by decide) rfl (fun ls hl => ?_)
  have hl : lv_has ls 5 [(3, .int 0), (2, .int 0), (1, .int 0), (0, .ref (a 0))] := hl
  refine k_while (σ := Nat × vSt × Int32 × Int32) (fun f x H locs ls => x.1 + f = z ∧ x.2 = dFuS (u2 D 14 0 0) x.1 ∧ lv_has ls 5 [(3, .int (nI x.1)), (2, .int x.2.2.2), (1, .int x.2.2.1), (0, .ref (a 0))] ∧ va_P Dg classes (wD a k x.2.1) H ∧ va_D (va_A (wD a k D) s.heap.size) (wD a k x.2.1) ∧ va_S (va_A (wD a k D) s.heap.size) s.heap H locs) ?_ z (0, u2 D 14 0 0, 0, 0) ⟨by show 0 + z = z; omega, rfl, (lv_sub hl [0, 1, 2, 3] rfl), by rw [hDs1] at hP; exact hP, by rw [hDs1] at hD; exact hD, hS⟩
  rintro f ⟨i, Di, cn, wi⟩ H locs ls ⟨hif, hDi, hl, hP, hD, hS⟩ ih
  have hl : lv_has ls 5 [(3, .int (nI i)), (2, .int wi), (1, .int cn), (0, .ref (a 0))] := hl
  have hP : va_P Dg classes (wD a k Di) H := hP
  have hD : va_D (va_A (wD a k D) s.heap.size) (wD a k Di) := hD
  have hif : i + f = z := hif
  have hDi : (Di, cn, wi) = dFuS (u2 D 14 0 0) i := hDi
  have hD1 : Di = (dFuS (u2 D 14 0 0) i).1 := congrArg Prod.fst hDi
  have hszi : Di 14 1 = nI z := by rw [hD1, dFuS_r _ 14 (by decide)]; exact ez
  have hrwi : dRows Di := by intro j hj; rw [hD1, dFuS_r _ 3 (by decide)]; exact hrw j hj
  refine lv_iload_n hx hb d_Mod_fuse_11 rfl (lv_at hl 0 rfl) ?_
  refine lv_aload_n hx hb d_Mod_fuse_12 rfl (lv_at hl 3 rfl) ?_
  refine va_get (D := Dg) (ci := 3) (v := .int (Di 14 1)) (C := R_Mod) (T := F_Mod) (N := 17) hx hb hT in_Mod hown hK hP 0 rfl rfl 1 (by decide) (hT _ tw2_227) (fun _ h9 => h9) rfl d_Mod_fuse_13 ?_
  refine lv_icmp_ge (tgt := 90) hx hb d_Mod_fuse_16 (by decide) (fun h16 => ?_) (fun h16 => ?_)
  · have hiz : i = z := by have := (nI_leI (by omega) (by omega)).mp (hszi ▸ h16); omega
    refine lv_aload_n hx hb d_Mod_fuse_90 rfl (lv_at hl 3 rfl) ?_
    refine lv_iconst (v := 1) hx hb d_Mod_fuse_91 (by decide) ?_
    refine va_put (D := Dg) (ci := 3) (v := .int 1) (ty := .boolean) (C := R_Mod) (T := F_Mod) (N := 17) hx hb hT in_Mod t_Mod t_Mod_ok n_Mod hown hK hP hD hS 0 rfl rfl 4 (by decide) (hT _ tw2_230) (fun _ h9 => h9) rfl (by decide +kernel) rfl rfl (Nat.le_of_ble_eq_true rfl) d_Mod_fuse_92 (fun H locs hP hD hS => ?_)
    have hP : va_P Dg classes (wD a k (u2 Di 14 2 1)) H := hP
    have hD : va_D (va_A (wD a k D) s.heap.size) (wD a k (u2 Di 14 2 1)) := hD
    obtain ⟨Ds2, hDs2⟩ : ∃ z9, z9 = (u2 Di 14 2 1) := ⟨_, rfl⟩
    rw [← hDs2] at hP hD
    refine lv_aload_n hx hb d_Mod_fuse_95 rfl (lv_at hl 3 rfl) ?_
    refine km_Vv (wr := []) F (c_Mod_begin l Dg a k Ds2  _ hP (hD.weaken (fun _ _ _ _ => trivial)) ) kx_K hK kw_Mod_72 tw3_65 ts_16 (va_recv (ci := 3) (q0 := 0) hK hP rfl rfl) hP hD hS hA [0, 1, 2, 3, 4, 5, 6, 7, 8, 9, 10, 11, 12, 13, 14] [] rfl rfl (by decide) (by decide) d_Mod_fuse_96 ⟨⟨by decide, by decide⟩, Nat.le_refl _, Nat.le_refl _⟩ rfl hl.1 rfl (Nat.le_of_ble_eq_true rfl) (fun H locs hP hD hS => ?_)
    have hP : va_P Dg classes (wD a k (dBeg Ds2)) H := hP
    have hD : va_D (va_A (wD a k D) s.heap.size) (wD a k (dBeg Ds2)) := hD
    obtain ⟨Ds3, hDs3⟩ : ∃ z9, z9 = (dBeg Ds2) := ⟨_, rfl⟩
    rw [← hDs3] at hP hD
    refine lv_iload_n hx hb d_Mod_fuse_99 rfl (lv_at hl 2 rfl) ?_
    exact km_i F hlocks hret hP hD hS d_Mod_fuse_100 (by unfold dFuR; rw [efu, ← hiz, ← hDi]) (by subst hDs3 hDs2; unfold dFuM; rw [efu, ← hiz, ← hDi])
  · have hi : i < z := by rcases Nat.lt_or_ge i z with y | y; exact y; exact absurd (by rw [hszi]; exact nI_le y (by omega)) h16
    obtain ⟨f, rfl⟩ : ∃ g, f = g + 1 := ⟨f - 1, by omega⟩
    have hin : vp_in (nI i) 80 := vp_in_nI (by omega) (by decide)
    refine lv_iload_n hx hb d_Mod_fuse_19 rfl (lv_at hl 1 rfl) ?_
    refine lv_if_le (tgt := 28) hx hb d_Mod_fuse_20 (by decide) (fun h20 => ?_) (fun h20 => ?_)
    · refine lv_aload_n hx hb d_Mod_fuse_28 rfl (lv_at hl 3 rfl) ?_
      refine lv_iload_n hx hb d_Mod_fuse_29 rfl (lv_at hl 0 rfl) ?_
      refine kp_V F (c_Mod_rowAt l Dg a k Di i _ hP ⟨z, hz80, hszi⟩ hrwi (by omega)) kx_K hK kw_Mod_100 tw3_81 ts_17 (va_recv (ci := 3) (q0 := 0) hK hP rfl rfl) hS d_Mod_fuse_30 ⟨⟨by decide, by decide⟩, Nat.le_refl _, Nat.le_refl _⟩ rfl hl.1 rfl (Nat.le_of_ble_eq_true rfl) (fun locs hS => ?_)
      refine lv_istore hx hb d_Mod_fuse_33 hl (by decide) rfl (fun ls hl => ?_)
      have hl : lv_has ls 5 [(4, .int (dRa Di i)), (3, .int (nI i)), (2, .int wi), (1, .int cn), (0, .ref (a 0))] := hl
      refine lv_aload_n hx hb d_Mod_fuse_35 rfl (lv_at hl 4 rfl) ?_
      refine va_get (D := Dg) (ci := 3) (v := .ref (a 3)) (C := R_Mod) (T := F_Mod) (N := 17) hx hb hT in_Mod hown hK hP 0 rfl rfl 5 (by decide) (hT _ tw2_231) (fun _ h9 => h9) rfl d_Mod_fuse_36 ?_
      refine lv_iload_n hx hb d_Mod_fuse_39 rfl (lv_at hl 1 rfl) ?_
      refine lv_iload hx hb d_Mod_fuse_40 (lv_at hl 0 rfl) ?_
      refine va_iast hx hb hK hP hD hS 3 0 rfl rfl hin d_Mod_fuse_42 (fun H locs hP hD hS => ?_)
      have hP : va_P Dg classes (wD a k (u2 Di 2 (nI i).toNatClampNeg (dRa Di i))) H := hP
      have hD : va_D (va_A (wD a k D) s.heap.size) (wD a k (u2 Di 2 (nI i).toNatClampNeg (dRa Di i))) := hD
      obtain ⟨Ds4, hDs4⟩ : ∃ z9, z9 = (u2 Di 2 (nI i).toNatClampNeg (dRa Di i)) := ⟨_, rfl⟩
      rw [← hDs4] at hP hD
      refine lv_iload_n hx hb d_Mod_fuse_43 rfl (lv_at hl 2 rfl) ?_
      refine lv_if_le (tgt := 51) hx hb d_Mod_fuse_44 (by decide) (fun _ => ?_) (fun h9 => absurd h20 h9)
      refine lv_iload_n hx hb d_Mod_fuse_51 rfl (lv_at hl 3 rfl) ?_
      refine lv_iconst (v := 1) hx hb d_Mod_fuse_52 (by decide) ?_
      refine lv_iadd hx hb d_Mod_fuse_53 ?_
      refine lv_istore_n hx hb d_Mod_fuse_54 rfl hl (by decide) rfl (fun ls hl => ?_)
      have hl : lv_has ls 5 [(1, .int (cn + 1)), (4, .int (dRa Di i)), (3, .int (nI i)), (2, .int wi), (0, .ref (a 0))] := hl
      refine lv_iload_n hx hb d_Mod_fuse_55 rfl (lv_at hl 3 rfl) ?_
      refine lv_if_le (tgt := 65) hx hb d_Mod_fuse_56 (by decide) (fun _ => ?_) (fun h9 => absurd h20 h9)
      refine lv_iload hx hb d_Mod_fuse_65 (lv_at hl 1 rfl) ?_
      refine lv_iconst (v := (-1)) hx hb d_Mod_fuse_67 (by decide) ?_
      refine lv_icmp_ne (tgt := 75) hx hb d_Mod_fuse_68 (by decide) (fun h68 => ?_) (fun h68 => ?_)
      · refine lv_aload_n hx hb d_Mod_fuse_75 rfl (lv_at hl 4 rfl) ?_
        refine lv_iload hx hb d_Mod_fuse_76 (lv_at hl 1 rfl) ?_
        refine kp_V F (c_Mod_lengthOf l Dg a k Ds4 (dRa Di i) _ hP (by intro j hj; rw [hDs4]; exact hrwi j hj) ((dRa_or Di i).resolve_left h68)) kx_K hK kw_Mod_96 tw3_96 ts_20 (va_recv (ci := 3) (q0 := 0) hK hP rfl rfl) hS d_Mod_fuse_78 ⟨⟨by decide, by decide⟩, Nat.le_refl _, Nat.le_refl _⟩ rfl hl.1 rfl (Nat.le_of_ble_eq_true rfl) (fun locs hS => ?_)
        refine lv_iconst (v := 1) hx hb d_Mod_fuse_81 (by decide) ?_
        refine lv_isub hx hb d_Mod_fuse_82 ?_
        refine lv_istore_n hx hb d_Mod_fuse_83 rfl hl (by decide) rfl (fun ls hl => ?_)
        have hl : lv_has ls 5 [(2, .int ((nI (rn (dRa Di i).toNatClampNeg)) - 1)), (1, .int (cn + 1)), (4, .int (dRa Di i)), (3, .int (nI i)), (0, .ref (a 0))] := hl
        refine lv_iinc (k := 3) (v := (nI (i + 1))) hx hb d_Mod_fuse_84 hl rfl (nI_succ _).symm (by decide) rfl (fun ls hl => ?_)
        have hl : lv_has ls 5 [(3, .int (nI (i + 1))), (2, .int ((nI (rn (dRa Di i).toNatClampNeg)) - 1)), (1, .int (cn + 1)), (4, .int (dRa Di i)), (0, .ref (a 0))] := hl
        refine lv_goto (tgt := 11) hx hb d_Mod_fuse_87 (by decide) ?_
        exact ih f (i + 1, Ds4, (cn + 1), ((nI (rn (dRa Di i).toNatClampNeg)) - 1)) H locs ls (by omega) ⟨by show i + 1 + f = z; omega, by show (Ds4, (cn + 1), ((nI (rn (dRa Di i).toNatClampNeg)) - 1)) = dFu1 (dFuS (u2 D 14 0 0) i) i; rw [← hDi]; clear hP hD; subst hDs4; unfold dFu1; rw [if_pos h20, if_neg h68], (lv_sub hl [0, 1, 2, 4] rfl), hP, hD, hS⟩
      · refine lv_iconst (v := 0) hx hb d_Mod_fuse_71 (by decide) ?_
        refine lv_goto (tgt := 83) hx hb d_Mod_fuse_72 (by decide) ?_
        refine lv_istore_n hx hb d_Mod_fuse_83 rfl hl (by decide) rfl (fun ls hl => ?_)
        have hl : lv_has ls 5 [(2, .int 0), (1, .int (cn + 1)), (4, .int (dRa Di i)), (3, .int (nI i)), (0, .ref (a 0))] := hl
        refine lv_iinc (k := 3) (v := (nI (i + 1))) hx hb d_Mod_fuse_84 hl rfl (nI_succ _).symm (by decide) rfl (fun ls hl => ?_)
        have hl : lv_has ls 5 [(3, .int (nI (i + 1))), (2, .int 0), (1, .int (cn + 1)), (4, .int (dRa Di i)), (0, .ref (a 0))] := hl
        refine lv_goto (tgt := 11) hx hb d_Mod_fuse_87 (by decide) ?_
        exact ih f (i + 1, Ds4, (cn + 1), 0) H locs ls (by omega) ⟨by show i + 1 + f = z; omega, by show (Ds4, (cn + 1), 0) = dFu1 (dFuS (u2 D 14 0 0) i) i; rw [← hDi]; clear hP hD; subst hDs4; unfold dFu1; rw [if_pos h20, if_pos h68], (lv_sub hl [0, 1, 2, 4] rfl), hP, hD, hS⟩
    · refine lv_bipush (v := (-2)) hx hb d_Mod_fuse_23 (by decide) ?_
      refine lv_goto (tgt := 33) hx hb d_Mod_fuse_25 (by decide) ?_
      refine lv_istore hx hb d_Mod_fuse_33 hl (by decide) rfl (fun ls hl => ?_)
      have hl : lv_has ls 5 [(4, .int (-2)), (3, .int (nI i)), (2, .int wi), (1, .int cn), (0, .ref (a 0))] := hl
      refine lv_aload_n hx hb d_Mod_fuse_35 rfl (lv_at hl 4 rfl) ?_
      refine va_get (D := Dg) (ci := 3) (v := .ref (a 3)) (C := R_Mod) (T := F_Mod) (N := 17) hx hb hT in_Mod hown hK hP 0 rfl rfl 5 (by decide) (hT _ tw2_231) (fun _ h9 => h9) rfl d_Mod_fuse_36 ?_
      refine lv_iload_n hx hb d_Mod_fuse_39 rfl (lv_at hl 1 rfl) ?_
      refine lv_iload hx hb d_Mod_fuse_40 (lv_at hl 0 rfl) ?_
      refine va_iast hx hb hK hP hD hS 3 0 rfl rfl hin d_Mod_fuse_42 (fun H locs hP hD hS => ?_)
      have hP : va_P Dg classes (wD a k (u2 Di 2 (nI i).toNatClampNeg (-2))) H := hP
      have hD : va_D (va_A (wD a k D) s.heap.size) (wD a k (u2 Di 2 (nI i).toNatClampNeg (-2))) := hD
      obtain ⟨Ds5, hDs5⟩ : ∃ z9, z9 = (u2 Di 2 (nI i).toNatClampNeg (-2)) := ⟨_, rfl⟩
      rw [← hDs5] at hP hD
      refine lv_iload_n hx hb d_Mod_fuse_43 rfl (lv_at hl 2 rfl) ?_
      refine lv_if_le (tgt := 51) hx hb d_Mod_fuse_44 (by decide) (fun h9 => absurd h9 h20) (fun _ => ?_)
      refine lv_iload_n hx hb d_Mod_fuse_47 rfl (lv_at hl 3 rfl) ?_
      refine lv_goto (tgt := 54) hx hb d_Mod_fuse_48 (by decide) ?_
      refine lv_istore_n hx hb d_Mod_fuse_54 rfl hl (by decide) rfl (fun ls hl => ?_)
      have hl : lv_has ls 5 [(1, .int cn), (4, .int (-2)), (3, .int (nI i)), (2, .int wi), (0, .ref (a 0))] := hl
      refine lv_iload_n hx hb d_Mod_fuse_55 rfl (lv_at hl 3 rfl) ?_
      refine lv_if_le (tgt := 65) hx hb d_Mod_fuse_56 (by decide) (fun h9 => absurd h9 h20) (fun _ => ?_)
      refine lv_iload_n hx hb d_Mod_fuse_59 rfl (lv_at hl 3 rfl) ?_
      refine lv_iconst (v := 1) hx hb d_Mod_fuse_60 (by decide) ?_
      refine lv_isub hx hb d_Mod_fuse_61 ?_
      refine lv_goto (tgt := 83) hx hb d_Mod_fuse_62 (by decide) ?_
      refine lv_istore_n hx hb d_Mod_fuse_83 rfl hl (by decide) rfl (fun ls hl => ?_)
      have hl : lv_has ls 5 [(2, .int (wi - 1)), (1, .int cn), (4, .int (-2)), (3, .int (nI i)), (0, .ref (a 0))] := hl
      refine lv_iinc (k := 3) (v := (nI (i + 1))) hx hb d_Mod_fuse_84 hl rfl (nI_succ _).symm (by decide) rfl (fun ls hl => ?_)
      have hl : lv_has ls 5 [(3, .int (nI (i + 1))), (2, .int (wi - 1)), (1, .int cn), (4, .int (-2)), (0, .ref (a 0))] := hl
      refine lv_goto (tgt := 11) hx hb d_Mod_fuse_87 (by decide) ?_
      exact ih f (i + 1, Ds5, cn, (wi - 1)) H locs ls (by omega) ⟨by show i + 1 + f = z; omega, by show (Ds5, cn, (wi - 1)) = dFu1 (dFuS (u2 D 14 0 0) i) i; rw [← hDi]; clear hP hD; subst hDs5; unfold dFu1; rw [if_neg h20], (lv_sub hl [0, 1, 2, 4] rfl), hP, hD, hS⟩

set_option maxRecDepth 100000 in
set_option maxHeartbeats 4000000 in
theorem c_Mod_look (l : Launch) (Dg : va_G) (a : Nat → Nat) (k : Nat → ClassId) (D : vSt) (q w : Int32) (H : Heap) (hP : va_P Dg classes (wD a k D) H) (hD : va_D (fun _ => True) (wD a k D)) (hsz : dSz D) : kMi l y_Mod_look b_Mod_look 3 (some FieldType.int) 2 43 [.ref (a 0), .int q, .int w] H (va_K Dg classes (kTy k)) Dg (wD a k D) (wD a k (u2 D 14 0 (dLookC D q w))) (dLookR D q w) := by
  refine k_of (by decide) (Nat.le_of_ble_eq_true rfl) ?_
  intro p e s m below meth cd ls F hlocks hret hname hh hX hl
  subst hh
  obtain ⟨hx, hb, hml, hown, hT⟩ := id F
  have hK : va_K Dg classes (kTy k) s := hX
  have hA : ∀ q : Nat, s.heap.size ≤ q → va_A (wD a k D) s.heap.size q := fun q h => Or.inr h
  have hD := hD.self (sz := s.heap.size)
  have hS : va_S (va_A (wD a k D) s.heap.size) s.heap s.heap [] := va_S.rf
  have hl : lv_has ls 3 [(0, .ref (a 0)), (1, .int q), (2, .int w)] := hl
  obtain ⟨z, hz80, ez⟩ := hsz
  refine lv_iload_n hx hb d_Mod_look_0 rfl (lv_at hl 1 rfl) ?_
  refine lv_iconst (v := 0) hx hb d_Mod_look_1 (by decide) ?_
  refine lv_aload_n hx hb d_Mod_look_2 rfl (lv_at hl 0 rfl) ?_
  refine va_get (D := Dg) (ci := 3) (v := .int (D 14 1)) (C := R_Mod) (T := F_Mod) (N := 17) hx hb hT in_Mod hown hK hP 0 rfl rfl 1 (by decide) (hT _ tw2_227) (fun _ h9 => h9) rfl d_Mod_look_3 ?_
  refine lv_iconst (v := 1) hx hb d_Mod_look_6 (by decide) ?_
  refine lv_isub hx hb d_Mod_look_7 ?_
  refine kp_S F (c_Mod_outside l Dg k q 0 ((D 14 1) - 1) _ ) kx_K hK kw_Mod_64 tw3_57 hS d_Mod_look_8 ⟨⟨by decide, by decide⟩, Nat.le_refl _, Nat.le_refl _⟩ rfl hl.1 rfl (Nat.le_of_ble_eq_true rfl) (fun locs hS => ?_)
  refine lv_if_ne (tgt := 35) hx hb d_Mod_look_11 (by decide) (fun h11 => ?_) (fun h11 => ?_)
  · refine lv_aload_n hx hb d_Mod_look_35 rfl (lv_at hl 0 rfl) ?_
    refine lv_iconst (v := 1) hx hb d_Mod_look_36 (by decide) ?_
    refine km_Vi (wr := []) F (c_Mod_refuse l Dg a k D 1 _ hP (hD.weaken (fun _ _ _ _ => trivial)) ) kx_K hK kw_Mod_103 tw3_104 ts_21 (va_recv (ci := 3) (q0 := 0) hK hP rfl rfl) hP hD hS hA [0, 1, 2, 3, 4, 5, 6, 7, 8, 9, 10, 11, 12, 13, 14] [] rfl rfl (by decide) (by decide) d_Mod_look_37 ⟨⟨by decide, by decide⟩, Nat.le_refl _, Nat.le_refl _⟩ rfl hl.1 rfl (Nat.le_of_ble_eq_true rfl) (fun H locs hP hD hS => ?_)
    have hP : va_P Dg classes (wD a k (u2 D 14 0 1)) H := hP
    have hD : va_D (va_A (wD a k D) s.heap.size) (wD a k (u2 D 14 0 1)) := hD
    obtain ⟨Ds1, hDs1⟩ : ∃ z9, z9 = (u2 D 14 0 1) := ⟨_, rfl⟩
    rw [← hDs1] at hP hD
    exact km_i F hlocks hret hP hD hS d_Mod_look_40 (by unfold dLookR dLookC; rw [if_neg h11, if_neg (by decide)]) (by subst hDs1; unfold dLookC; rw [if_neg h11])
  · refine lv_iload_n hx hb d_Mod_look_14 rfl (lv_at hl 2 rfl) ?_
    refine lv_iconst (v := 0) hx hb d_Mod_look_15 (by decide) ?_
    refine lv_iconst (v := 3) hx hb d_Mod_look_16 (by decide) ?_
    refine kp_S F (c_Mod_outside l Dg k w 0 3 _ ) kx_K hK kw_Mod_64 tw3_57 hS d_Mod_look_17 ⟨⟨by decide, by decide⟩, Nat.le_refl _, Nat.le_refl _⟩ rfl hl.1 rfl (Nat.le_of_ble_eq_true rfl) (fun locs hS => ?_)
    refine lv_if_ne (tgt := 35) hx hb d_Mod_look_20 (by decide) (fun h20 => ?_) (fun h20 => ?_)
    · refine lv_aload_n hx hb d_Mod_look_35 rfl (lv_at hl 0 rfl) ?_
      refine lv_iconst (v := 1) hx hb d_Mod_look_36 (by decide) ?_
      refine km_Vi (wr := []) F (c_Mod_refuse l Dg a k D 1 _ hP (hD.weaken (fun _ _ _ _ => trivial)) ) kx_K hK kw_Mod_103 tw3_104 ts_21 (va_recv (ci := 3) (q0 := 0) hK hP rfl rfl) hP hD hS hA [0, 1, 2, 3, 4, 5, 6, 7, 8, 9, 10, 11, 12, 13, 14] [] rfl rfl (by decide) (by decide) d_Mod_look_37 ⟨⟨by decide, by decide⟩, Nat.le_refl _, Nat.le_refl _⟩ rfl hl.1 rfl (Nat.le_of_ble_eq_true rfl) (fun H locs hP hD hS => ?_)
      have hP : va_P Dg classes (wD a k (u2 D 14 0 1)) H := hP
      have hD : va_D (va_A (wD a k D) s.heap.size) (wD a k (u2 D 14 0 1)) := hD
      obtain ⟨Ds2, hDs2⟩ : ∃ z9, z9 = (u2 D 14 0 1) := ⟨_, rfl⟩
      rw [← hDs2] at hP hD
      exact km_i F hlocks hret hP hD hS d_Mod_look_40 (by unfold dLookR dLookC; rw [if_pos h11, if_neg h20, if_neg (by decide)]) (by subst hDs2; unfold dLookC; rw [if_pos h11, if_neg h20])
    · refine lv_iload_n hx hb d_Mod_look_23 rfl (lv_at hl 2 rfl) ?_
      refine lv_iconst (v := 2) hx hb d_Mod_look_24 (by decide) ?_
      refine lv_icmp_ne (tgt := 41) hx hb d_Mod_look_25 (by decide) (fun h25 => ?_) (fun h25 => ?_)
      · have hin : vp_in q 80 := by rw [ez] at h11; exact pOut_in hz80 h11
        refine lv_aload_n hx hb d_Mod_look_41 rfl (lv_at hl 0 rfl) ?_
        refine lv_iconst (v := 0) hx hb d_Mod_look_42 (by decide) ?_
        refine va_put (D := Dg) (ci := 3) (v := .int 0) (ty := .int) (C := R_Mod) (T := F_Mod) (N := 17) hx hb hT in_Mod t_Mod t_Mod_ok n_Mod hown hK hP hD hS 0 rfl rfl 0 (by decide) (hT _ tw2_226) (fun _ h9 => h9) rfl (by decide +kernel) rfl rfl (Nat.le_of_ble_eq_true rfl) d_Mod_look_43 (fun H locs hP hD hS => ?_)
        have hP : va_P Dg classes (wD a k (u2 D 14 0 0)) H := hP
        have hD : va_D (va_A (wD a k D) s.heap.size) (wD a k (u2 D 14 0 0)) := hD
        obtain ⟨Ds3, hDs3⟩ : ∃ z9, z9 = (u2 D 14 0 0) := ⟨_, rfl⟩
        rw [← hDs3] at hP hD
        refine lv_iload_n hx hb d_Mod_look_46 rfl (lv_at hl 2 rfl) ?_
        refine lv_if_ne (tgt := 59) hx hb d_Mod_look_47 (by decide) (fun h47 => ?_) (fun h47 => ?_)
        · refine lv_iload_n hx hb d_Mod_look_59 rfl (lv_at hl 2 rfl) ?_
          refine lv_iconst (v := 1) hx hb d_Mod_look_60 (by decide) ?_
          refine lv_icmp_ne (tgt := 73) hx hb d_Mod_look_61 (by decide) (fun h61 => ?_) (fun h61 => ?_)
          · refine lv_iload_n hx hb d_Mod_look_73 rfl (lv_at hl 2 rfl) ?_
            refine lv_iconst (v := 2) hx hb d_Mod_look_74 (by decide) ?_
            refine lv_icmp_ne (tgt := 87) hx hb d_Mod_look_75 (by decide) (fun h75 => ?_) (fun h75 => ?_)
            · refine lv_aload_n hx hb d_Mod_look_87 rfl (lv_at hl 0 rfl) ?_
              refine lv_iload_n hx hb d_Mod_look_88 rfl (lv_at hl 1 rfl) ?_
              refine kp_V F (c_Mod_target l Dg a k Ds3 q _ hP ⟨z, hz80, by rw [hDs3]; exact ez⟩ hin) kx_K hK kw_Mod_89 tw3_89 ts_19 (va_recv (ci := 3) (q0 := 0) hK hP rfl rfl) hS d_Mod_look_89 ⟨⟨by decide, by decide⟩, Nat.le_refl _, Nat.le_refl _⟩ rfl hl.1 rfl (Nat.le_of_ble_eq_true rfl) (fun locs hS => ?_)
              refine lv_if_eq (tgt := 99) hx hb d_Mod_look_92 (by decide) (fun h92 => ?_) (fun h92 => ?_)
              · refine lv_iconst (v := 0) hx hb d_Mod_look_99 (by decide) ?_
                exact km_i F hlocks hret hP hD hS d_Mod_look_100 (by subst hDs3; unfold dLookR dLookC; rw [if_pos h11, if_pos h20, if_neg h25, if_pos rfl, if_neg h47, if_neg h61, if_neg h75, if_pos h92]) (by subst hDs3; unfold dLookC; rw [if_pos h11, if_pos h20, if_neg h25])
              · refine lv_iconst (v := 1) hx hb d_Mod_look_95 (by decide) ?_
                refine lv_goto (tgt := 100) hx hb d_Mod_look_96 (by decide) ?_
                exact km_i F hlocks hret hP hD hS d_Mod_look_100 (by subst hDs3; unfold dLookR dLookC; rw [if_pos h11, if_pos h20, if_neg h25, if_pos rfl, if_neg h47, if_neg h61, if_neg h75, if_neg h92]) (by subst hDs3; unfold dLookC; rw [if_pos h11, if_pos h20, if_neg h25])
            · refine lv_aload_n hx hb d_Mod_look_78 rfl (lv_at hl 0 rfl) ?_
              refine va_get (D := Dg) (ci := 3) (v := .ref (a 3)) (C := R_Mod) (T := F_Mod) (N := 17) hx hb hT in_Mod hown hK hP 0 rfl rfl 5 (by decide) (hT _ tw2_231) (fun _ h9 => h9) rfl d_Mod_look_79 ?_
              refine lv_iload_n hx hb d_Mod_look_82 rfl (lv_at hl 1 rfl) ?_
              refine va_iald (f := (D 2)) hx hb hK hP 3 0 (by rw [hDs3]; rfl) rfl hin d_Mod_look_83 ?_
              refine lv_goto (tgt := 100) hx hb d_Mod_look_84 (by decide) ?_
              exact km_i F hlocks hret hP hD hS d_Mod_look_100 (by subst hDs3; unfold dLookR dLookC; rw [if_pos h11, if_pos h20, if_neg h25, if_pos rfl, if_neg h47, if_neg h61, if_pos h75]) (by subst hDs3; unfold dLookC; rw [if_pos h11, if_pos h20, if_neg h25])
          · refine lv_aload_n hx hb d_Mod_look_64 rfl (lv_at hl 0 rfl) ?_
            refine va_get (D := Dg) (ci := 3) (v := .ref (a 2)) (C := R_Mod) (T := F_Mod) (N := 17) hx hb hT in_Mod hown hK hP 0 rfl rfl 3 (by decide) (hT _ tw2_229) (fun _ h9 => h9) rfl d_Mod_look_65 ?_
            refine lv_iload_n hx hb d_Mod_look_68 rfl (lv_at hl 1 rfl) ?_
            refine va_iald (f := (D 1)) hx hb hK hP 2 0 (by rw [hDs3]; rfl) rfl hin d_Mod_look_69 ?_
            refine lv_goto (tgt := 100) hx hb d_Mod_look_70 (by decide) ?_
            exact km_i F hlocks hret hP hD hS d_Mod_look_100 (by subst hDs3; unfold dLookR dLookC; rw [if_pos h11, if_pos h20, if_neg h25, if_pos rfl, if_neg h47, if_pos h61]) (by subst hDs3; unfold dLookC; rw [if_pos h11, if_pos h20, if_neg h25])
        · refine lv_aload_n hx hb d_Mod_look_50 rfl (lv_at hl 0 rfl) ?_
          refine va_get (D := Dg) (ci := 3) (v := .ref (a 1)) (C := R_Mod) (T := F_Mod) (N := 17) hx hb hT in_Mod hown hK hP 0 rfl rfl 2 (by decide) (hT _ tw2_228) (fun _ h9 => h9) rfl d_Mod_look_51 ?_
          refine lv_iload_n hx hb d_Mod_look_54 rfl (lv_at hl 1 rfl) ?_
          refine va_cald (f := (D 0)) hx hb hK hP 1 2 (by rw [hDs3]; rfl) rfl hin d_Mod_look_55 ?_
          refine lv_goto (tgt := 100) hx hb d_Mod_look_56 (by decide) ?_
          exact km_i F hlocks hret hP hD hS d_Mod_look_100 (by subst hDs3; unfold dLookR dLookC; rw [if_pos h11, if_pos h20, if_neg h25, if_pos rfl, if_pos h47]) (by subst hDs3; unfold dLookC; rw [if_pos h11, if_pos h20, if_neg h25])
      · refine lv_aload_n hx hb d_Mod_look_28 rfl (lv_at hl 0 rfl) ?_
        refine va_get (D := Dg) (ci := 3) (v := .int (D 14 2)) (C := R_Mod) (T := F_Mod) (N := 17) hx hb hT in_Mod hown hK hP 0 rfl rfl 4 (by decide) (hT _ tw2_230) (fun _ h9 => h9) rfl d_Mod_look_29 ?_
        refine lv_if_ne (tgt := 41) hx hb d_Mod_look_32 (by decide) (fun h32 => ?_) (fun h32 => ?_)
        · have hin : vp_in q 80 := by rw [ez] at h11; exact pOut_in hz80 h11
          refine lv_aload_n hx hb d_Mod_look_41 rfl (lv_at hl 0 rfl) ?_
          refine lv_iconst (v := 0) hx hb d_Mod_look_42 (by decide) ?_
          refine va_put (D := Dg) (ci := 3) (v := .int 0) (ty := .int) (C := R_Mod) (T := F_Mod) (N := 17) hx hb hT in_Mod t_Mod t_Mod_ok n_Mod hown hK hP hD hS 0 rfl rfl 0 (by decide) (hT _ tw2_226) (fun _ h9 => h9) rfl (by decide +kernel) rfl rfl (Nat.le_of_ble_eq_true rfl) d_Mod_look_43 (fun H locs hP hD hS => ?_)
          have hP : va_P Dg classes (wD a k (u2 D 14 0 0)) H := hP
          have hD : va_D (va_A (wD a k D) s.heap.size) (wD a k (u2 D 14 0 0)) := hD
          obtain ⟨Ds4, hDs4⟩ : ∃ z9, z9 = (u2 D 14 0 0) := ⟨_, rfl⟩
          rw [← hDs4] at hP hD
          refine lv_iload_n hx hb d_Mod_look_46 rfl (lv_at hl 2 rfl) ?_
          refine lv_if_ne (tgt := 59) hx hb d_Mod_look_47 (by decide) (fun h47 => ?_) (fun h47 => ?_)
          · refine lv_iload_n hx hb d_Mod_look_59 rfl (lv_at hl 2 rfl) ?_
            refine lv_iconst (v := 1) hx hb d_Mod_look_60 (by decide) ?_
            refine lv_icmp_ne (tgt := 73) hx hb d_Mod_look_61 (by decide) (fun h61 => ?_) (fun h61 => ?_)
            · refine lv_iload_n hx hb d_Mod_look_73 rfl (lv_at hl 2 rfl) ?_
              refine lv_iconst (v := 2) hx hb d_Mod_look_74 (by decide) ?_
              refine lv_icmp_ne (tgt := 87) hx hb d_Mod_look_75 (by decide) (fun h75 => ?_) (fun h75 => ?_)
              · refine lv_aload_n hx hb d_Mod_look_87 rfl (lv_at hl 0 rfl) ?_
                refine lv_iload_n hx hb d_Mod_look_88 rfl (lv_at hl 1 rfl) ?_
                refine kp_V F (c_Mod_target l Dg a k Ds4 q _ hP ⟨z, hz80, by rw [hDs4]; exact ez⟩ hin) kx_K hK kw_Mod_89 tw3_89 ts_19 (va_recv (ci := 3) (q0 := 0) hK hP rfl rfl) hS d_Mod_look_89 ⟨⟨by decide, by decide⟩, Nat.le_refl _, Nat.le_refl _⟩ rfl hl.1 rfl (Nat.le_of_ble_eq_true rfl) (fun locs hS => ?_)
                refine lv_if_eq (tgt := 99) hx hb d_Mod_look_92 (by decide) (fun h92 => ?_) (fun h92 => ?_)
                · refine lv_iconst (v := 0) hx hb d_Mod_look_99 (by decide) ?_
                  exact km_i F hlocks hret hP hD hS d_Mod_look_100 (by subst hDs4; unfold dLookR dLookC; rw [if_pos h11, if_pos h20, if_pos h25, if_neg h32, if_pos rfl, if_neg h47, if_neg h61, if_neg h75, if_pos h92]) (by subst hDs4; unfold dLookC; rw [if_pos h11, if_pos h20, if_pos h25, if_neg h32])
                · refine lv_iconst (v := 1) hx hb d_Mod_look_95 (by decide) ?_
                  refine lv_goto (tgt := 100) hx hb d_Mod_look_96 (by decide) ?_
                  exact km_i F hlocks hret hP hD hS d_Mod_look_100 (by subst hDs4; unfold dLookR dLookC; rw [if_pos h11, if_pos h20, if_pos h25, if_neg h32, if_pos rfl, if_neg h47, if_neg h61, if_neg h75, if_neg h92]) (by subst hDs4; unfold dLookC; rw [if_pos h11, if_pos h20, if_pos h25, if_neg h32])
              · refine lv_aload_n hx hb d_Mod_look_78 rfl (lv_at hl 0 rfl) ?_
                refine va_get (D := Dg) (ci := 3) (v := .ref (a 3)) (C := R_Mod) (T := F_Mod) (N := 17) hx hb hT in_Mod hown hK hP 0 rfl rfl 5 (by decide) (hT _ tw2_231) (fun _ h9 => h9) rfl d_Mod_look_79 ?_
                refine lv_iload_n hx hb d_Mod_look_82 rfl (lv_at hl 1 rfl) ?_
                refine va_iald (f := (D 2)) hx hb hK hP 3 0 (by rw [hDs4]; rfl) rfl hin d_Mod_look_83 ?_
                refine lv_goto (tgt := 100) hx hb d_Mod_look_84 (by decide) ?_
                exact km_i F hlocks hret hP hD hS d_Mod_look_100 (by subst hDs4; unfold dLookR dLookC; rw [if_pos h11, if_pos h20, if_pos h25, if_neg h32, if_pos rfl, if_neg h47, if_neg h61, if_pos h75]) (by subst hDs4; unfold dLookC; rw [if_pos h11, if_pos h20, if_pos h25, if_neg h32])
            · refine lv_aload_n hx hb d_Mod_look_64 rfl (lv_at hl 0 rfl) ?_
              refine va_get (D := Dg) (ci := 3) (v := .ref (a 2)) (C := R_Mod) (T := F_Mod) (N := 17) hx hb hT in_Mod hown hK hP 0 rfl rfl 3 (by decide) (hT _ tw2_229) (fun _ h9 => h9) rfl d_Mod_look_65 ?_
              refine lv_iload_n hx hb d_Mod_look_68 rfl (lv_at hl 1 rfl) ?_
              refine va_iald (f := (D 1)) hx hb hK hP 2 0 (by rw [hDs4]; rfl) rfl hin d_Mod_look_69 ?_
              refine lv_goto (tgt := 100) hx hb d_Mod_look_70 (by decide) ?_
              exact km_i F hlocks hret hP hD hS d_Mod_look_100 (by subst hDs4; unfold dLookR dLookC; rw [if_pos h11, if_pos h20, if_pos h25, if_neg h32, if_pos rfl, if_neg h47, if_pos h61]) (by subst hDs4; unfold dLookC; rw [if_pos h11, if_pos h20, if_pos h25, if_neg h32])
          · refine lv_aload_n hx hb d_Mod_look_50 rfl (lv_at hl 0 rfl) ?_
            refine va_get (D := Dg) (ci := 3) (v := .ref (a 1)) (C := R_Mod) (T := F_Mod) (N := 17) hx hb hT in_Mod hown hK hP 0 rfl rfl 2 (by decide) (hT _ tw2_228) (fun _ h9 => h9) rfl d_Mod_look_51 ?_
            refine lv_iload_n hx hb d_Mod_look_54 rfl (lv_at hl 1 rfl) ?_
            refine va_cald (f := (D 0)) hx hb hK hP 1 2 (by rw [hDs4]; rfl) rfl hin d_Mod_look_55 ?_
            refine lv_goto (tgt := 100) hx hb d_Mod_look_56 (by decide) ?_
            exact km_i F hlocks hret hP hD hS d_Mod_look_100 (by subst hDs4; unfold dLookR dLookC; rw [if_pos h11, if_pos h20, if_pos h25, if_neg h32, if_pos rfl, if_pos h47]) (by subst hDs4; unfold dLookC; rw [if_pos h11, if_pos h20, if_pos h25, if_neg h32])
        · refine lv_aload_n hx hb d_Mod_look_35 rfl (lv_at hl 0 rfl) ?_
          refine lv_iconst (v := 1) hx hb d_Mod_look_36 (by decide) ?_
          refine km_Vi (wr := []) F (c_Mod_refuse l Dg a k D 1 _ hP (hD.weaken (fun _ _ _ _ => trivial)) ) kx_K hK kw_Mod_103 tw3_104 ts_21 (va_recv (ci := 3) (q0 := 0) hK hP rfl rfl) hP hD hS hA [0, 1, 2, 3, 4, 5, 6, 7, 8, 9, 10, 11, 12, 13, 14] [] rfl rfl (by decide) (by decide) d_Mod_look_37 ⟨⟨by decide, by decide⟩, Nat.le_refl _, Nat.le_refl _⟩ rfl hl.1 rfl (Nat.le_of_ble_eq_true rfl) (fun H locs hP hD hS => ?_)
          have hP : va_P Dg classes (wD a k (u2 D 14 0 1)) H := hP
          have hD : va_D (va_A (wD a k D) s.heap.size) (wD a k (u2 D 14 0 1)) := hD
          obtain ⟨Ds5, hDs5⟩ : ∃ z9, z9 = (u2 D 14 0 1) := ⟨_, rfl⟩
          rw [← hDs5] at hP hD
          exact km_i F hlocks hret hP hD hS d_Mod_look_40 (by unfold dLookR dLookC; rw [if_pos h11, if_pos h20, if_pos h25, if_pos h32, if_neg (by decide)]) (by subst hDs5; unfold dLookC; rw [if_pos h11, if_pos h20, if_pos h25, if_pos h32])
