theorem dTgF_01 (D : vSt) (p : Int32) : ∀ i, dTgF D p i = 0 ∨ dTgF D p i = 1 := by
  intro i
  cases i with
  | zero =>
    unfold dTgF
    split
    · exact Or.inl rfl
    · split
      · exact Or.inr rfl
      · exact Or.inl rfl
  | succ i =>
    unfold dTgF
    split
    · split
      · exact Or.inl rfl
      · split
        · exact Or.inr rfl
        · exact Or.inl rfl
    · exact Or.inr rfl
theorem nar_01 {x : Int32} (h : x = 0 ∨ x = 1) : narrow .boolean (.int x) = .int x := by
  rcases h with h | h <;> rw [h] <;> rfl

set_option maxRecDepth 100000 in
set_option maxHeartbeats 4000000 in
theorem c_Mod_target (l : Launch) (Dg : va_G) (a : Nat → Nat) (k : Nat → ClassId) (D : vSt) (q : Int32) (H : Heap) (hP : va_P Dg classes (wD a k D) H) (hsz : dSz D) (hq : vp_in q 80) : kPu l y_Mod_target b_Mod_target 4 (some FieldType.boolean) 1 20 [.ref (a 0), .int q] H (va_K Dg classes (kTy k)) (dTg D q) := by
  refine k_of (by decide) (Nat.le_of_ble_eq_true rfl) ?_
  intro p e s m below meth cd ls F hlocks hret hname hh hX hl
  subst hh
  obtain ⟨hx, hb, hml, hown, hT⟩ := id F
  have hK : va_K Dg classes (kTy k) s := hX
  have hS : va_S (fun _ => False) s.heap s.heap [] := va_S.rf
  have hl : lv_has ls 4 [(0, .ref (a 0)), (1, .int q)] := hl
  obtain ⟨z, hz80, ez⟩ := hsz
  obtain ⟨j, hj, ej⟩ := vp_in_of hq (by decide)
  refine lv_iload_n hx hb d_Mod_target_0 rfl (lv_at hl 1 rfl) ?_
  refine lv_if_le (tgt := 21) hx hb d_Mod_target_1 (by decide) (fun h1 => ?_) (fun h1 => ?_)
  · refine lv_iconst (v := 0) hx hb d_Mod_target_21 (by decide) ?_
    refine lv_istore_n hx hb d_Mod_target_22 rfl hl (by decide) rfl (fun ls hl => ?_)
    have hl : lv_has ls 4 [(2, .int 0), (0, .ref (a 0)), (1, .int q)] := hl
    refine lv_iconst (v := 0) hx hb d_Mod_target_23 (by decide) ?_
    refine lv_istore_n hx hb d_Mod_target_24 rfl hl (by decide) rfl (fun ls hl => ?_)
    have hl : lv_has ls 4 [(3, .int 0), (2, .int 0), (0, .ref (a 0)), (1, .int q)] := hl
    refine k_while (σ := Nat) (fun f x H locs ls => x + f = z ∧ H = s.heap ∧ lv_has ls 4 [(3, .int (nI x)), (2, .int (dTgF D q x)), (0, .ref (a 0)), (1, .int q)] ∧ va_S (fun _ => False) s.heap H locs) ?_ z 0 ⟨by omega, rfl, by rw [← (show (0 : Int32) = dTgF D q 0 by unfold dTgF; rw [if_pos h1])]; exact (lv_sub hl [0, 1, 2, 3] rfl), hS⟩
    rintro f i H locs ls ⟨hif, rfl, hl, hS⟩ ih
    have hl : lv_has ls 4 [(3, .int (nI i)), (2, .int (dTgF D q i)), (0, .ref (a 0)), (1, .int q)] := hl
    refine lv_iload_n hx hb d_Mod_target_25 rfl (lv_at hl 0 rfl) ?_
    refine lv_aload_n hx hb d_Mod_target_26 rfl (lv_at hl 2 rfl) ?_
    refine va_get (D := Dg) (ci := 3) (v := .int (D 14 1)) (C := R_Mod) (T := F_Mod) (N := 17) hx hb hT in_Mod hown hK hP 0 rfl rfl 1 (by decide) (hT _ tw2_227) (fun _ h9 => h9) rfl d_Mod_target_27 ?_
    refine lv_icmp_ge (tgt := 71) hx hb d_Mod_target_30 (by decide) (fun h30 => ?_) (fun h30 => ?_)
    · refine lv_iload_n hx hb d_Mod_target_71 rfl (lv_at hl 1 rfl) ?_
      exact kp_z F hlocks hret hS d_Mod_target_72 (nar_01 (dTgF_01 D q i)) (by unfold dTg; rw [ez, nI_clamp (by omega), show i = z by have := (nI_leI (by omega) (by omega)).mp (ez ▸ h30); omega])
    · have hi : i < z := by rcases Nat.lt_or_ge i z with y | y; exact y; exact absurd (by rw [ez]; exact nI_le y (by omega)) h30
      refine lv_iload_n hx hb d_Mod_target_33 rfl (lv_at hl 1 rfl) ?_
      refine lv_if_ne (tgt := 59) hx hb d_Mod_target_34 (by decide) (fun h34 => ?_) (fun h34 => ?_)
      · refine lv_iconst (v := 1) hx hb d_Mod_target_59 (by decide) ?_
        refine lv_goto (tgt := 64) hx hb d_Mod_target_60 (by decide) ?_
        refine lv_istore_n hx hb d_Mod_target_64 rfl hl (by decide) rfl (fun ls hl => ?_)
        have hl : lv_has ls 4 [(2, .int 1), (3, .int (nI i)), (0, .ref (a 0)), (1, .int q)] := hl
        refine lv_iinc (k := 1) (v := (nI (i + 1))) hx hb d_Mod_target_65 hl rfl (nI_succ _).symm (by decide) rfl (fun ls hl => ?_)
        have hl : lv_has ls 4 [(3, .int (nI (i + 1))), (2, .int 1), (0, .ref (a 0)), (1, .int q)] := hl
        refine lv_goto (tgt := 25) hx hb d_Mod_target_68 (by decide) ?_
        exact ih (f - 1) (i + 1) _ locs ls (by omega) ⟨by omega, rfl, by rw [show dTgF D q (i + 1) = 1 by show (if dTgF D q i = 0 then _ else _) = _; rw [if_neg h34]]; exact (lv_sub hl [0, 1, 2, 3] rfl), hS⟩
      · refine lv_aload_n hx hb d_Mod_target_37 rfl (lv_at hl 2 rfl) ?_
        refine va_get (D := Dg) (ci := 3) (v := .ref (a 1)) (C := R_Mod) (T := F_Mod) (N := 17) hx hb hT in_Mod hown hK hP 0 rfl rfl 2 (by decide) (hT _ tw2_228) (fun _ h9 => h9) rfl d_Mod_target_38 ?_
        refine lv_iload_n hx hb d_Mod_target_41 rfl (lv_at hl 0 rfl) ?_
        refine va_cald (f := (D 0)) hx hb hK hP 1 2 rfl rfl (vp_in_nI (by omega) (by decide)) d_Mod_target_42 ?_
        refine kp_S F (c_Mod_leads l Dg k ((D 0) (nI i).toNatClampNeg) _ ) kx_K hK kw_Mod_86 tw3_92 hS d_Mod_target_43 ⟨⟨by decide, by decide⟩, Nat.le_refl _, Nat.le_refl _⟩ rfl hl.1 rfl (Nat.le_of_ble_eq_true rfl) (fun locs hS => ?_)
        refine lv_if_eq (tgt := 63) hx hb d_Mod_target_46 (by decide) (fun h46 => ?_) (fun h46 => ?_)
        · refine lv_iconst (v := 0) hx hb d_Mod_target_63 (by decide) ?_
          refine lv_istore_n hx hb d_Mod_target_64 rfl hl (by decide) rfl (fun ls hl => ?_)
          have hl : lv_has ls 4 [(2, .int 0), (3, .int (nI i)), (0, .ref (a 0)), (1, .int q)] := hl
          refine lv_iinc (k := 1) (v := (nI (i + 1))) hx hb d_Mod_target_65 hl rfl (nI_succ _).symm (by decide) rfl (fun ls hl => ?_)
          have hl : lv_has ls 4 [(3, .int (nI (i + 1))), (2, .int 0), (0, .ref (a 0)), (1, .int q)] := hl
          refine lv_goto (tgt := 25) hx hb d_Mod_target_68 (by decide) ?_
          exact ih (f - 1) (i + 1) _ locs ls (by omega) ⟨by omega, rfl, by rw [show dTgF D q (i + 1) = 0 by show (if dTgF D q i = 0 then _ else _) = _; rw [if_pos h34, if_pos h46]]; exact (lv_sub hl [0, 1, 2, 3] rfl), hS⟩
        · refine lv_aload_n hx hb d_Mod_target_49 rfl (lv_at hl 2 rfl) ?_
          refine va_get (D := Dg) (ci := 3) (v := .ref (a 2)) (C := R_Mod) (T := F_Mod) (N := 17) hx hb hT in_Mod hown hK hP 0 rfl rfl 3 (by decide) (hT _ tw2_229) (fun _ h9 => h9) rfl d_Mod_target_50 ?_
          refine lv_iload_n hx hb d_Mod_target_53 rfl (lv_at hl 0 rfl) ?_
          refine va_iald (f := (D 1)) hx hb hK hP 2 0 rfl rfl (vp_in_nI (by omega) (by decide)) d_Mod_target_54 ?_
          refine lv_iload_n hx hb d_Mod_target_55 rfl (lv_at hl 3 rfl) ?_
          refine lv_icmp_ne (tgt := 63) hx hb d_Mod_target_56 (by decide) (fun h56 => ?_) (fun h56 => ?_)
          · refine lv_iconst (v := 0) hx hb d_Mod_target_63 (by decide) ?_
            refine lv_istore_n hx hb d_Mod_target_64 rfl hl (by decide) rfl (fun ls hl => ?_)
            have hl : lv_has ls 4 [(2, .int 0), (3, .int (nI i)), (0, .ref (a 0)), (1, .int q)] := hl
            refine lv_iinc (k := 1) (v := (nI (i + 1))) hx hb d_Mod_target_65 hl rfl (nI_succ _).symm (by decide) rfl (fun ls hl => ?_)
            have hl : lv_has ls 4 [(3, .int (nI (i + 1))), (2, .int 0), (0, .ref (a 0)), (1, .int q)] := hl
            refine lv_goto (tgt := 25) hx hb d_Mod_target_68 (by decide) ?_
            exact ih (f - 1) (i + 1) _ locs ls (by omega) ⟨by omega, rfl, by rw [show dTgF D q (i + 1) = 0 by show (if dTgF D q i = 0 then _ else _) = _; rw [if_pos h34, if_neg h46, if_neg h56]]; exact (lv_sub hl [0, 1, 2, 3] rfl), hS⟩
          · refine lv_iconst (v := 1) hx hb d_Mod_target_59 (by decide) ?_
            refine lv_goto (tgt := 64) hx hb d_Mod_target_60 (by decide) ?_
            refine lv_istore_n hx hb d_Mod_target_64 rfl hl (by decide) rfl (fun ls hl => ?_)
            have hl : lv_has ls 4 [(2, .int 1), (3, .int (nI i)), (0, .ref (a 0)), (1, .int q)] := hl
            refine lv_iinc (k := 1) (v := (nI (i + 1))) hx hb d_Mod_target_65 hl rfl (nI_succ _).symm (by decide) rfl (fun ls hl => ?_)
            have hl : lv_has ls 4 [(3, .int (nI (i + 1))), (2, .int 1), (0, .ref (a 0)), (1, .int q)] := hl
            refine lv_goto (tgt := 25) hx hb d_Mod_target_68 (by decide) ?_
            exact ih (f - 1) (i + 1) _ locs ls (by omega) ⟨by omega, rfl, by rw [show dTgF D q (i + 1) = 1 by show (if dTgF D q i = 0 then _ else _) = _; rw [if_pos h34, if_neg h46, if_pos h56]]; exact (lv_sub hl [0, 1, 2, 3] rfl), hS⟩
  · refine lv_aload_n hx hb d_Mod_target_4 rfl (lv_at hl 0 rfl) ?_
    refine va_get (D := Dg) (ci := 3) (v := .ref (a 1)) (C := R_Mod) (T := F_Mod) (N := 17) hx hb hT in_Mod hown hK hP 0 rfl rfl 2 (by decide) (hT _ tw2_228) (fun _ h9 => h9) rfl d_Mod_target_5 ?_
    refine lv_iload_n hx hb d_Mod_target_8 rfl (lv_at hl 1 rfl) ?_
    refine lv_iconst (v := 1) hx hb d_Mod_target_9 (by decide) ?_
    refine lv_isub hx hb d_Mod_target_10 ?_
    refine va_cald (f := (D 0)) hx hb hK hP 1 2 rfl rfl (by rw [ej] at h1 ⊢; exact in_1 (h := j) rfl (by rcases Nat.lt_or_ge 0 j with y | y; exact y; exact absurd (nI_le (b := 0) (by omega) (by decide)) h1) (by omega) (by decide)) d_Mod_target_11 ?_
    refine lv_bipush (v := 67) hx hb d_Mod_target_12 (by decide) ?_
    refine lv_icmp_ne (tgt := 21) hx hb d_Mod_target_14 (by decide) (fun h14 => ?_) (fun h14 => ?_)
    · refine lv_iconst (v := 0) hx hb d_Mod_target_21 (by decide) ?_
      refine lv_istore_n hx hb d_Mod_target_22 rfl hl (by decide) rfl (fun ls hl => ?_)
      have hl : lv_has ls 4 [(2, .int 0), (0, .ref (a 0)), (1, .int q)] := hl
      refine lv_iconst (v := 0) hx hb d_Mod_target_23 (by decide) ?_
      refine lv_istore_n hx hb d_Mod_target_24 rfl hl (by decide) rfl (fun ls hl => ?_)
      have hl : lv_has ls 4 [(3, .int 0), (2, .int 0), (0, .ref (a 0)), (1, .int q)] := hl
      refine k_while (σ := Nat) (fun f x H locs ls => x + f = z ∧ H = s.heap ∧ lv_has ls 4 [(3, .int (nI x)), (2, .int (dTgF D q x)), (0, .ref (a 0)), (1, .int q)] ∧ va_S (fun _ => False) s.heap H locs) ?_ z 0 ⟨by omega, rfl, by rw [← (show (0 : Int32) = dTgF D q 0 by unfold dTgF; rw [if_neg h1, if_neg h14])]; exact (lv_sub hl [0, 1, 2, 3] rfl), hS⟩
      rintro f i H locs ls ⟨hif, rfl, hl, hS⟩ ih
      have hl : lv_has ls 4 [(3, .int (nI i)), (2, .int (dTgF D q i)), (0, .ref (a 0)), (1, .int q)] := hl
      refine lv_iload_n hx hb d_Mod_target_25 rfl (lv_at hl 0 rfl) ?_
      refine lv_aload_n hx hb d_Mod_target_26 rfl (lv_at hl 2 rfl) ?_
      refine va_get (D := Dg) (ci := 3) (v := .int (D 14 1)) (C := R_Mod) (T := F_Mod) (N := 17) hx hb hT in_Mod hown hK hP 0 rfl rfl 1 (by decide) (hT _ tw2_227) (fun _ h9 => h9) rfl d_Mod_target_27 ?_
      refine lv_icmp_ge (tgt := 71) hx hb d_Mod_target_30 (by decide) (fun h30 => ?_) (fun h30 => ?_)
      · refine lv_iload_n hx hb d_Mod_target_71 rfl (lv_at hl 1 rfl) ?_
        exact kp_z F hlocks hret hS d_Mod_target_72 (nar_01 (dTgF_01 D q i)) (by unfold dTg; rw [ez, nI_clamp (by omega), show i = z by have := (nI_leI (by omega) (by omega)).mp (ez ▸ h30); omega])
      · have hi : i < z := by rcases Nat.lt_or_ge i z with y | y; exact y; exact absurd (by rw [ez]; exact nI_le y (by omega)) h30
        refine lv_iload_n hx hb d_Mod_target_33 rfl (lv_at hl 1 rfl) ?_
        refine lv_if_ne (tgt := 59) hx hb d_Mod_target_34 (by decide) (fun h34 => ?_) (fun h34 => ?_)
        · refine lv_iconst (v := 1) hx hb d_Mod_target_59 (by decide) ?_
          refine lv_goto (tgt := 64) hx hb d_Mod_target_60 (by decide) ?_
          refine lv_istore_n hx hb d_Mod_target_64 rfl hl (by decide) rfl (fun ls hl => ?_)
          have hl : lv_has ls 4 [(2, .int 1), (3, .int (nI i)), (0, .ref (a 0)), (1, .int q)] := hl
          refine lv_iinc (k := 1) (v := (nI (i + 1))) hx hb d_Mod_target_65 hl rfl (nI_succ _).symm (by decide) rfl (fun ls hl => ?_)
          have hl : lv_has ls 4 [(3, .int (nI (i + 1))), (2, .int 1), (0, .ref (a 0)), (1, .int q)] := hl
          refine lv_goto (tgt := 25) hx hb d_Mod_target_68 (by decide) ?_
          exact ih (f - 1) (i + 1) _ locs ls (by omega) ⟨by omega, rfl, by rw [show dTgF D q (i + 1) = 1 by show (if dTgF D q i = 0 then _ else _) = _; rw [if_neg h34]]; exact (lv_sub hl [0, 1, 2, 3] rfl), hS⟩
        · refine lv_aload_n hx hb d_Mod_target_37 rfl (lv_at hl 2 rfl) ?_
          refine va_get (D := Dg) (ci := 3) (v := .ref (a 1)) (C := R_Mod) (T := F_Mod) (N := 17) hx hb hT in_Mod hown hK hP 0 rfl rfl 2 (by decide) (hT _ tw2_228) (fun _ h9 => h9) rfl d_Mod_target_38 ?_
          refine lv_iload_n hx hb d_Mod_target_41 rfl (lv_at hl 0 rfl) ?_
          refine va_cald (f := (D 0)) hx hb hK hP 1 2 rfl rfl (vp_in_nI (by omega) (by decide)) d_Mod_target_42 ?_
          refine kp_S F (c_Mod_leads l Dg k ((D 0) (nI i).toNatClampNeg) _ ) kx_K hK kw_Mod_86 tw3_92 hS d_Mod_target_43 ⟨⟨by decide, by decide⟩, Nat.le_refl _, Nat.le_refl _⟩ rfl hl.1 rfl (Nat.le_of_ble_eq_true rfl) (fun locs hS => ?_)
          refine lv_if_eq (tgt := 63) hx hb d_Mod_target_46 (by decide) (fun h46 => ?_) (fun h46 => ?_)
          · refine lv_iconst (v := 0) hx hb d_Mod_target_63 (by decide) ?_
            refine lv_istore_n hx hb d_Mod_target_64 rfl hl (by decide) rfl (fun ls hl => ?_)
            have hl : lv_has ls 4 [(2, .int 0), (3, .int (nI i)), (0, .ref (a 0)), (1, .int q)] := hl
            refine lv_iinc (k := 1) (v := (nI (i + 1))) hx hb d_Mod_target_65 hl rfl (nI_succ _).symm (by decide) rfl (fun ls hl => ?_)
            have hl : lv_has ls 4 [(3, .int (nI (i + 1))), (2, .int 0), (0, .ref (a 0)), (1, .int q)] := hl
            refine lv_goto (tgt := 25) hx hb d_Mod_target_68 (by decide) ?_
            exact ih (f - 1) (i + 1) _ locs ls (by omega) ⟨by omega, rfl, by rw [show dTgF D q (i + 1) = 0 by show (if dTgF D q i = 0 then _ else _) = _; rw [if_pos h34, if_pos h46]]; exact (lv_sub hl [0, 1, 2, 3] rfl), hS⟩
          · refine lv_aload_n hx hb d_Mod_target_49 rfl (lv_at hl 2 rfl) ?_
            refine va_get (D := Dg) (ci := 3) (v := .ref (a 2)) (C := R_Mod) (T := F_Mod) (N := 17) hx hb hT in_Mod hown hK hP 0 rfl rfl 3 (by decide) (hT _ tw2_229) (fun _ h9 => h9) rfl d_Mod_target_50 ?_
            refine lv_iload_n hx hb d_Mod_target_53 rfl (lv_at hl 0 rfl) ?_
            refine va_iald (f := (D 1)) hx hb hK hP 2 0 rfl rfl (vp_in_nI (by omega) (by decide)) d_Mod_target_54 ?_
            refine lv_iload_n hx hb d_Mod_target_55 rfl (lv_at hl 3 rfl) ?_
            refine lv_icmp_ne (tgt := 63) hx hb d_Mod_target_56 (by decide) (fun h56 => ?_) (fun h56 => ?_)
            · refine lv_iconst (v := 0) hx hb d_Mod_target_63 (by decide) ?_
              refine lv_istore_n hx hb d_Mod_target_64 rfl hl (by decide) rfl (fun ls hl => ?_)
              have hl : lv_has ls 4 [(2, .int 0), (3, .int (nI i)), (0, .ref (a 0)), (1, .int q)] := hl
              refine lv_iinc (k := 1) (v := (nI (i + 1))) hx hb d_Mod_target_65 hl rfl (nI_succ _).symm (by decide) rfl (fun ls hl => ?_)
              have hl : lv_has ls 4 [(3, .int (nI (i + 1))), (2, .int 0), (0, .ref (a 0)), (1, .int q)] := hl
              refine lv_goto (tgt := 25) hx hb d_Mod_target_68 (by decide) ?_
              exact ih (f - 1) (i + 1) _ locs ls (by omega) ⟨by omega, rfl, by rw [show dTgF D q (i + 1) = 0 by show (if dTgF D q i = 0 then _ else _) = _; rw [if_pos h34, if_neg h46, if_neg h56]]; exact (lv_sub hl [0, 1, 2, 3] rfl), hS⟩
            · refine lv_iconst (v := 1) hx hb d_Mod_target_59 (by decide) ?_
              refine lv_goto (tgt := 64) hx hb d_Mod_target_60 (by decide) ?_
              refine lv_istore_n hx hb d_Mod_target_64 rfl hl (by decide) rfl (fun ls hl => ?_)
              have hl : lv_has ls 4 [(2, .int 1), (3, .int (nI i)), (0, .ref (a 0)), (1, .int q)] := hl
              refine lv_iinc (k := 1) (v := (nI (i + 1))) hx hb d_Mod_target_65 hl rfl (nI_succ _).symm (by decide) rfl (fun ls hl => ?_)
              have hl : lv_has ls 4 [(3, .int (nI (i + 1))), (2, .int 1), (0, .ref (a 0)), (1, .int q)] := hl
              refine lv_goto (tgt := 25) hx hb d_Mod_target_68 (by decide) ?_
              exact ih (f - 1) (i + 1) _ locs ls (by omega) ⟨by omega, rfl, by rw [show dTgF D q (i + 1) = 1 by show (if dTgF D q i = 0 then _ else _) = _; rw [if_pos h34, if_neg h46, if_pos h56]]; exact (lv_sub hl [0, 1, 2, 3] rfl), hS⟩
    · refine lv_iconst (v := 1) hx hb d_Mod_target_17 (by decide) ?_
      refine lv_goto (tgt := 22) hx hb d_Mod_target_18 (by decide) ?_
      refine lv_istore_n hx hb d_Mod_target_22 rfl hl (by decide) rfl (fun ls hl => ?_)
      have hl : lv_has ls 4 [(2, .int 1), (0, .ref (a 0)), (1, .int q)] := hl
      refine lv_iconst (v := 0) hx hb d_Mod_target_23 (by decide) ?_
      refine lv_istore_n hx hb d_Mod_target_24 rfl hl (by decide) rfl (fun ls hl => ?_)
      have hl : lv_has ls 4 [(3, .int 0), (2, .int 1), (0, .ref (a 0)), (1, .int q)] := hl
      refine k_while (σ := Nat) (fun f x H locs ls => x + f = z ∧ H = s.heap ∧ lv_has ls 4 [(3, .int (nI x)), (2, .int (dTgF D q x)), (0, .ref (a 0)), (1, .int q)] ∧ va_S (fun _ => False) s.heap H locs) ?_ z 0 ⟨by omega, rfl, by rw [← (show (1 : Int32) = dTgF D q 0 by unfold dTgF; rw [if_neg h1, if_pos h14])]; exact (lv_sub hl [0, 1, 2, 3] rfl), hS⟩
      rintro f i H locs ls ⟨hif, rfl, hl, hS⟩ ih
      have hl : lv_has ls 4 [(3, .int (nI i)), (2, .int (dTgF D q i)), (0, .ref (a 0)), (1, .int q)] := hl
      refine lv_iload_n hx hb d_Mod_target_25 rfl (lv_at hl 0 rfl) ?_
      refine lv_aload_n hx hb d_Mod_target_26 rfl (lv_at hl 2 rfl) ?_
      refine va_get (D := Dg) (ci := 3) (v := .int (D 14 1)) (C := R_Mod) (T := F_Mod) (N := 17) hx hb hT in_Mod hown hK hP 0 rfl rfl 1 (by decide) (hT _ tw2_227) (fun _ h9 => h9) rfl d_Mod_target_27 ?_
      refine lv_icmp_ge (tgt := 71) hx hb d_Mod_target_30 (by decide) (fun h30 => ?_) (fun h30 => ?_)
      · refine lv_iload_n hx hb d_Mod_target_71 rfl (lv_at hl 1 rfl) ?_
        exact kp_z F hlocks hret hS d_Mod_target_72 (nar_01 (dTgF_01 D q i)) (by unfold dTg; rw [ez, nI_clamp (by omega), show i = z by have := (nI_leI (by omega) (by omega)).mp (ez ▸ h30); omega])
      · have hi : i < z := by rcases Nat.lt_or_ge i z with y | y; exact y; exact absurd (by rw [ez]; exact nI_le y (by omega)) h30
        refine lv_iload_n hx hb d_Mod_target_33 rfl (lv_at hl 1 rfl) ?_
        refine lv_if_ne (tgt := 59) hx hb d_Mod_target_34 (by decide) (fun h34 => ?_) (fun h34 => ?_)
        · refine lv_iconst (v := 1) hx hb d_Mod_target_59 (by decide) ?_
          refine lv_goto (tgt := 64) hx hb d_Mod_target_60 (by decide) ?_
          refine lv_istore_n hx hb d_Mod_target_64 rfl hl (by decide) rfl (fun ls hl => ?_)
          have hl : lv_has ls 4 [(2, .int 1), (3, .int (nI i)), (0, .ref (a 0)), (1, .int q)] := hl
          refine lv_iinc (k := 1) (v := (nI (i + 1))) hx hb d_Mod_target_65 hl rfl (nI_succ _).symm (by decide) rfl (fun ls hl => ?_)
          have hl : lv_has ls 4 [(3, .int (nI (i + 1))), (2, .int 1), (0, .ref (a 0)), (1, .int q)] := hl
          refine lv_goto (tgt := 25) hx hb d_Mod_target_68 (by decide) ?_
          exact ih (f - 1) (i + 1) _ locs ls (by omega) ⟨by omega, rfl, by rw [show dTgF D q (i + 1) = 1 by show (if dTgF D q i = 0 then _ else _) = _; rw [if_neg h34]]; exact (lv_sub hl [0, 1, 2, 3] rfl), hS⟩
        · refine lv_aload_n hx hb d_Mod_target_37 rfl (lv_at hl 2 rfl) ?_
          refine va_get (D := Dg) (ci := 3) (v := .ref (a 1)) (C := R_Mod) (T := F_Mod) (N := 17) hx hb hT in_Mod hown hK hP 0 rfl rfl 2 (by decide) (hT _ tw2_228) (fun _ h9 => h9) rfl d_Mod_target_38 ?_
          refine lv_iload_n hx hb d_Mod_target_41 rfl (lv_at hl 0 rfl) ?_
          refine va_cald (f := (D 0)) hx hb hK hP 1 2 rfl rfl (vp_in_nI (by omega) (by decide)) d_Mod_target_42 ?_
          refine kp_S F (c_Mod_leads l Dg k ((D 0) (nI i).toNatClampNeg) _ ) kx_K hK kw_Mod_86 tw3_92 hS d_Mod_target_43 ⟨⟨by decide, by decide⟩, Nat.le_refl _, Nat.le_refl _⟩ rfl hl.1 rfl (Nat.le_of_ble_eq_true rfl) (fun locs hS => ?_)
          refine lv_if_eq (tgt := 63) hx hb d_Mod_target_46 (by decide) (fun h46 => ?_) (fun h46 => ?_)
          · refine lv_iconst (v := 0) hx hb d_Mod_target_63 (by decide) ?_
            refine lv_istore_n hx hb d_Mod_target_64 rfl hl (by decide) rfl (fun ls hl => ?_)
            have hl : lv_has ls 4 [(2, .int 0), (3, .int (nI i)), (0, .ref (a 0)), (1, .int q)] := hl
            refine lv_iinc (k := 1) (v := (nI (i + 1))) hx hb d_Mod_target_65 hl rfl (nI_succ _).symm (by decide) rfl (fun ls hl => ?_)
            have hl : lv_has ls 4 [(3, .int (nI (i + 1))), (2, .int 0), (0, .ref (a 0)), (1, .int q)] := hl
            refine lv_goto (tgt := 25) hx hb d_Mod_target_68 (by decide) ?_
            exact ih (f - 1) (i + 1) _ locs ls (by omega) ⟨by omega, rfl, by rw [show dTgF D q (i + 1) = 0 by show (if dTgF D q i = 0 then _ else _) = _; rw [if_pos h34, if_pos h46]]; exact (lv_sub hl [0, 1, 2, 3] rfl), hS⟩
          · refine lv_aload_n hx hb d_Mod_target_49 rfl (lv_at hl 2 rfl) ?_
            refine va_get (D := Dg) (ci := 3) (v := .ref (a 2)) (C := R_Mod) (T := F_Mod) (N := 17) hx hb hT in_Mod hown hK hP 0 rfl rfl 3 (by decide) (hT _ tw2_229) (fun _ h9 => h9) rfl d_Mod_target_50 ?_
            refine lv_iload_n hx hb d_Mod_target_53 rfl (lv_at hl 0 rfl) ?_
            refine va_iald (f := (D 1)) hx hb hK hP 2 0 rfl rfl (vp_in_nI (by omega) (by decide)) d_Mod_target_54 ?_
            refine lv_iload_n hx hb d_Mod_target_55 rfl (lv_at hl 3 rfl) ?_
            refine lv_icmp_ne (tgt := 63) hx hb d_Mod_target_56 (by decide) (fun h56 => ?_) (fun h56 => ?_)
            · refine lv_iconst (v := 0) hx hb d_Mod_target_63 (by decide) ?_
              refine lv_istore_n hx hb d_Mod_target_64 rfl hl (by decide) rfl (fun ls hl => ?_)
              have hl : lv_has ls 4 [(2, .int 0), (3, .int (nI i)), (0, .ref (a 0)), (1, .int q)] := hl
              refine lv_iinc (k := 1) (v := (nI (i + 1))) hx hb d_Mod_target_65 hl rfl (nI_succ _).symm (by decide) rfl (fun ls hl => ?_)
              have hl : lv_has ls 4 [(3, .int (nI (i + 1))), (2, .int 0), (0, .ref (a 0)), (1, .int q)] := hl
              refine lv_goto (tgt := 25) hx hb d_Mod_target_68 (by decide) ?_
              exact ih (f - 1) (i + 1) _ locs ls (by omega) ⟨by omega, rfl, by rw [show dTgF D q (i + 1) = 0 by show (if dTgF D q i = 0 then _ else _) = _; rw [if_pos h34, if_neg h46, if_neg h56]]; exact (lv_sub hl [0, 1, 2, 3] rfl), hS⟩
            · refine lv_iconst (v := 1) hx hb d_Mod_target_59 (by decide) ?_
              refine lv_goto (tgt := 64) hx hb d_Mod_target_60 (by decide) ?_
              refine lv_istore_n hx hb d_Mod_target_64 rfl hl (by decide) rfl (fun ls hl => ?_)
              have hl : lv_has ls 4 [(2, .int 1), (3, .int (nI i)), (0, .ref (a 0)), (1, .int q)] := hl
              refine lv_iinc (k := 1) (v := (nI (i + 1))) hx hb d_Mod_target_65 hl rfl (nI_succ _).symm (by decide) rfl (fun ls hl => ?_)
              have hl : lv_has ls 4 [(3, .int (nI (i + 1))), (2, .int 1), (0, .ref (a 0)), (1, .int q)] := hl
              refine lv_goto (tgt := 25) hx hb d_Mod_target_68 (by decide) ?_
              exact ih (f - 1) (i + 1) _ locs ls (by omega) ⟨by omega, rfl, by rw [show dTgF D q (i + 1) = 1 by show (if dTgF D q i = 0 then _ else _) = _; rw [if_pos h34, if_neg h46, if_pos h56]]; exact (lv_sub hl [0, 1, 2, 3] rfl), hS⟩

theorem rm_in : ∀ r, r < 20 → ∀ i, i < rn r → ¬ rm (4 * r + i) = 0 := by decide
theorem rm_out : ∀ r, r < 20 → rn r < 4 → rm (4 * r + rn r) = 0 := by decide

set_option maxRecDepth 100000 in
set_option maxHeartbeats 4000000 in
theorem c_Mod_lengthOf (l : Launch) (Dg : va_G) (a : Nat → Nat) (k : Nat → ClassId) (D : vSt) (x : Int32) (H : Heap) (hP : va_P Dg classes (wD a k D) H) (hrw : dRows D) (hx0 : ∃ r, r < 20 ∧ x = nI r) : kPu l y_Mod_lengthOf b_Mod_lengthOf 3 (some FieldType.int) 0 0 [.ref (a 0), .int x] H (va_K Dg classes (kTy k)) (nI (rn x.toNatClampNeg)) := by
  refine k_of (by decide) (Nat.le_of_ble_eq_true rfl) ?_
  intro p e s m below meth cd ls F hlocks hret hname hh hX hl
  subst hh
  obtain ⟨hx, hb, hml, hown, hT⟩ := id F
  have hK : va_K Dg classes (kTy k) s := hX
  have hS : va_S (fun _ => False) s.heap s.heap [] := va_S.rf
  have hl : lv_has ls 3 [(0, .ref (a 0)), (1, .int x)] := hl
  obtain ⟨r, hr, rfl⟩ := hx0
  have h44 := rn_le r hr
  refine lv_iconst (v := 0) hx hb d_Mod_lengthOf_0 (by decide) ?_
  refine lv_istore_n hx hb d_Mod_lengthOf_1 rfl hl (by decide) rfl (fun ls hl => ?_)
  have hl : lv_has ls 3 [(2, .int 0), (0, .ref (a 0)), (1, .int (nI r))] := hl
  refine k_while (σ := Nat) (fun f x H locs ls => x + f = rn r ∧ H = s.heap ∧ lv_has ls 3 [(2, .int (nI x)), (0, .ref (a 0)), (1, .int (nI r))] ∧ va_S (fun _ => False) s.heap H locs) ?_ (rn r) 0 ⟨by omega, rfl, (lv_sub hl [0, 1, 2] rfl), hS⟩
  rintro f i H locs ls ⟨hif, rfl, hl, hS⟩ ih
  have hl : lv_has ls 3 [(2, .int (nI i)), (0, .ref (a 0)), (1, .int (nI r))] := hl
  refine lv_iload_n hx hb d_Mod_lengthOf_2 rfl (lv_at hl 0 rfl) ?_
  refine lv_iconst (v := 4) hx hb d_Mod_lengthOf_3 (by decide) ?_
  refine lv_icmp_ge (tgt := 26) hx hb d_Mod_lengthOf_4 (by decide) (fun h4 => ?_) (fun h4 => ?_)
  · refine lv_iload_n hx hb d_Mod_lengthOf_26 rfl (lv_at hl 0 rfl) ?_
    exact kp_i F hlocks hret hS d_Mod_lengthOf_27 (by have := (nI_leI (a := 4) (by decide) (by omega)).mp h4; rw [nI_clamp (by omega), show i = rn r by omega])
  · have hi4 : i < 4 := by rcases Nat.lt_or_ge i 4 with y | y; exact y; exact absurd (nI_le (a := 4) y (by omega)) h4
    have eix : 4 * nI r + nI i = nI (4 * r + i) := by rw [show (4 : Int32) = nI 4 from rfl, pk_mul, nI_add]
    have eD : D 3 (4 * nI r + nI i).toNatClampNeg = rm (4 * r + i) := by rw [eix, nI_clamp (by omega)]; exact hrw _ (by omega)
    refine lv_aload_n hx hb d_Mod_lengthOf_7 rfl (lv_at hl 1 rfl) ?_
    refine va_get (D := Dg) (ci := 3) (v := .ref (a 4)) (C := R_Mod) (T := F_Mod) (N := 17) hx hb hT in_Mod hown hK hP 0 rfl rfl 6 (by decide) (hT _ tw2_232) (fun _ h9 => h9) rfl d_Mod_lengthOf_8 ?_
    refine lv_iconst (v := 4) hx hb d_Mod_lengthOf_11 (by decide) ?_
    refine lv_iload_n hx hb d_Mod_lengthOf_12 rfl (lv_at hl 2 rfl) ?_
    refine lv_imul hx hb d_Mod_lengthOf_13 ?_
    refine lv_iload_n hx hb d_Mod_lengthOf_14 rfl (lv_at hl 0 rfl) ?_
    refine lv_iadd hx hb d_Mod_lengthOf_15 ?_
    refine va_cald (f := (D 3)) hx hb hK hP 4 2 rfl rfl (by rw [eix]; exact vp_in_nI (by omega) (by decide)) d_Mod_lengthOf_16 ?_
    refine lv_if_eq (tgt := 26) hx hb d_Mod_lengthOf_17 (by decide) (fun h17 => ?_) (fun h17 => ?_)
    · refine lv_iload_n hx hb d_Mod_lengthOf_26 rfl (lv_at hl 0 rfl) ?_
      exact kp_i F hlocks hret hS d_Mod_lengthOf_27 (by rw [nI_clamp (by omega), show i = rn r by rcases Nat.lt_or_ge i (rn r) with y | y; exact absurd (eD ▸ h17) (rm_in r hr i y); omega])
    · have hi : i < rn r := by rcases Nat.lt_or_ge i (rn r) with y | y; exact y; exact absurd (by rw [eD, show i = rn r by omega]; exact rm_out r hr (by omega)) h17
      refine lv_iinc (k := 0) (v := (nI (i + 1))) hx hb d_Mod_lengthOf_20 hl rfl (nI_succ _).symm (by decide) rfl (fun ls hl => ?_)
      have hl : lv_has ls 3 [(2, .int (nI (i + 1))), (0, .ref (a 0)), (1, .int (nI r))] := hl
      refine lv_goto (tgt := 2) hx hb d_Mod_lengthOf_23 (by decide) ?_
      exact ih (f - 1) (i + 1) _ locs ls (by omega) ⟨by omega, rfl, (lv_sub hl [0, 1, 2] rfl), hS⟩

set_option maxRecDepth 100000 in
set_option maxHeartbeats 4000000 in
theorem c_Mod_alike (l : Launch) (Dg : va_G) (a : Nat → Nat) (k : Nat → ClassId) (D : vSt) (r q : Nat) (H : Heap) (hP : va_P Dg classes (wD a k D) H) (hsz : dSz D) (hr : r < 20) (hq : q < 80) : kPu l y_Mod_alike b_Mod_alike 4 (some FieldType.int) 2 43 [.ref (a 0), .int (nI r), .int (nI q)] H (va_K Dg classes (kTy k)) (nI (dAlk D r q)) := by
  refine k_of (by decide) (Nat.le_of_ble_eq_true rfl) ?_
  intro p e s m below meth cd ls F hlocks hret hname hh hX hl
  subst hh
  obtain ⟨hx, hb, hml, hown, hT⟩ := id F
  have hK : va_K Dg classes (kTy k) s := hX
  have hS : va_S (fun _ => False) s.heap s.heap [] := va_S.rf
  have hl : lv_has ls 4 [(0, .ref (a 0)), (1, .int (nI r)), (2, .int (nI q))] := hl
  obtain ⟨z, hz80, ez⟩ := id hsz
  refine lv_iconst (v := 0) hx hb d_Mod_alike_0 (by decide) ?_
  refine lv_istore_n hx hb d_Mod_alike_1 rfl hl (by decide) rfl (fun ls hl => ?_)
  have hl : lv_has ls 4 [(3, .int 0), (0, .ref (a 0)), (1, .int (nI r)), (2, .int (nI q))] := hl
  refine k_while (σ := Nat) (fun f x H locs ls => x + f = 4 ∧ alkF D r q f x = dAlk D r q ∧ H = s.heap ∧ lv_has ls 4 [(3, .int (nI x)), (0, .ref (a 0)), (1, .int (nI r)), (2, .int (nI q))] ∧ va_S (fun _ => False) s.heap H locs) ?_ 4 0 ⟨rfl, rfl, rfl, (lv_sub hl [0, 1, 2, 3] rfl), hS⟩
  rintro f i H locs ls ⟨hif, halk, rfl, hl, hS⟩ ih
  have hl : lv_has ls 4 [(3, .int (nI i)), (0, .ref (a 0)), (1, .int (nI r)), (2, .int (nI q))] := hl
  refine lv_iload_n hx hb d_Mod_alike_2 rfl (lv_at hl 0 rfl) ?_
  refine lv_iconst (v := 4) hx hb d_Mod_alike_3 (by decide) ?_
  refine lv_icmp_ge (tgt := 58) hx hb d_Mod_alike_4 (by decide) (fun h4 => ?_) (fun h4 => ?_)
  · refine lv_iload_n hx hb d_Mod_alike_58 rfl (lv_at hl 0 rfl) ?_
    exact kp_i F hlocks hret hS d_Mod_alike_59 (by rw [← halk, show f = 0 by have := (nI_leI (a := 4) (by decide) (by omega)).mp h4; omega]; rfl)
  · have hi4 : i < 4 := by rcases Nat.lt_or_ge i 4 with y | y; exact y; exact absurd (nI_le (a := 4) y (by omega)) h4
    obtain ⟨f, rfl⟩ : ∃ g, f = g + 1 := ⟨f - 1, by omega⟩
    have ealk : alkF D r q (f + 1) i = (if D 14 1 ≤ nI q + nI i then i else if D 0 (nI q + nI i).toNatClampNeg = D 3 (4 * nI r + nI i).toNatClampNeg then (if i = 0 then alkF D r q f (i + 1) else if dTg D (nI q + nI i) = 0 then alkF D r q f (i + 1) else i) else i) := rfl
    refine lv_iload_n hx hb d_Mod_alike_7 rfl (lv_at hl 3 rfl) ?_
    refine lv_iload_n hx hb d_Mod_alike_8 rfl (lv_at hl 0 rfl) ?_
    refine lv_iadd hx hb d_Mod_alike_9 ?_
    refine lv_aload_n hx hb d_Mod_alike_10 rfl (lv_at hl 1 rfl) ?_
    refine va_get (D := Dg) (ci := 3) (v := .int (D 14 1)) (C := R_Mod) (T := F_Mod) (N := 17) hx hb hT in_Mod hown hK hP 0 rfl rfl 1 (by decide) (hT _ tw2_227) (fun _ h9 => h9) rfl d_Mod_alike_11 ?_
    refine lv_icmp_ge (tgt := 58) hx hb d_Mod_alike_14 (by decide) (fun h14 => ?_) (fun h14 => ?_)
    · refine lv_iload_n hx hb d_Mod_alike_58 rfl (lv_at hl 0 rfl) ?_
      exact kp_i F hlocks hret hS d_Mod_alike_59 (by rw [← halk, ealk, if_pos h14])
    · have hqi : q + i < z := by rcases Nat.lt_or_ge (q + i) z with y | y; exact y; exact absurd (by rw [ez, nI_add]; exact nI_le y (by omega)) h14
      have hin1 : vp_in (nI q + nI i) 80 := by rw [nI_add]; exact vp_in_nI (by omega) (by decide)
      have hin2 : vp_in (4 * nI r + nI i) 80 := by rw [show (4 : Int32) = nI 4 from rfl, pk_mul, nI_add]; exact vp_in_nI (by omega) (by decide)
      refine lv_aload_n hx hb d_Mod_alike_17 rfl (lv_at hl 1 rfl) ?_
      refine va_get (D := Dg) (ci := 3) (v := .ref (a 1)) (C := R_Mod) (T := F_Mod) (N := 17) hx hb hT in_Mod hown hK hP 0 rfl rfl 2 (by decide) (hT _ tw2_228) (fun _ h9 => h9) rfl d_Mod_alike_18 ?_
      refine lv_iload_n hx hb d_Mod_alike_21 rfl (lv_at hl 3 rfl) ?_
      refine lv_iload_n hx hb d_Mod_alike_22 rfl (lv_at hl 0 rfl) ?_
      refine lv_iadd hx hb d_Mod_alike_23 ?_
      refine va_cald (f := (D 0)) hx hb hK hP 1 2 rfl rfl hin1 d_Mod_alike_24 ?_
      refine lv_aload_n hx hb d_Mod_alike_25 rfl (lv_at hl 1 rfl) ?_
      refine va_get (D := Dg) (ci := 3) (v := .ref (a 4)) (C := R_Mod) (T := F_Mod) (N := 17) hx hb hT in_Mod hown hK hP 0 rfl rfl 6 (by decide) (hT _ tw2_232) (fun _ h9 => h9) rfl d_Mod_alike_26 ?_
      refine lv_iconst (v := 4) hx hb d_Mod_alike_29 (by decide) ?_
      refine lv_iload_n hx hb d_Mod_alike_30 rfl (lv_at hl 2 rfl) ?_
      refine lv_imul hx hb d_Mod_alike_31 ?_
      refine lv_iload_n hx hb d_Mod_alike_32 rfl (lv_at hl 0 rfl) ?_
      refine lv_iadd hx hb d_Mod_alike_33 ?_
      refine va_cald (f := (D 3)) hx hb hK hP 4 2 rfl rfl hin2 d_Mod_alike_34 ?_
      refine lv_icmp_ne (tgt := 58) hx hb d_Mod_alike_35 (by decide) (fun h35 => ?_) (fun h35 => ?_)
      · refine lv_iload_n hx hb d_Mod_alike_58 rfl (lv_at hl 0 rfl) ?_
        exact kp_i F hlocks hret hS d_Mod_alike_59 (by rw [← halk, ealk, if_neg h14, if_neg h35])
      · refine lv_iload_n hx hb d_Mod_alike_38 rfl (lv_at hl 0 rfl) ?_
        refine lv_if_eq (tgt := 52) hx hb d_Mod_alike_39 (by decide) (fun h39 => ?_) (fun h39 => ?_)
        · refine lv_iinc (k := 0) (v := (nI (i + 1))) hx hb d_Mod_alike_52 hl rfl (nI_succ _).symm (by decide) rfl (fun ls hl => ?_)
          have hl : lv_has ls 4 [(3, .int (nI (i + 1))), (0, .ref (a 0)), (1, .int (nI r)), (2, .int (nI q))] := hl
          refine lv_goto (tgt := 2) hx hb d_Mod_alike_55 (by decide) ?_
          exact ih f (i + 1) _ locs ls (by omega) ⟨by omega, by rw [← halk, ealk, if_neg h14, if_pos h35, if_pos (show i = 0 from (nI_eq (b := 0) (by omega) (by decide)).mp h39)], rfl, (lv_sub hl [0, 1, 2, 3] rfl), hS⟩
        · refine lv_aload_n hx hb d_Mod_alike_42 rfl (lv_at hl 1 rfl) ?_
          refine lv_iload_n hx hb d_Mod_alike_43 rfl (lv_at hl 3 rfl) ?_
          refine lv_iload_n hx hb d_Mod_alike_44 rfl (lv_at hl 0 rfl) ?_
          refine lv_iadd hx hb d_Mod_alike_45 ?_
          refine kp_V F (c_Mod_target l Dg a k D ((nI q) + (nI i)) _ hP hsz hin1) kx_K hK kw_Mod_89 tw3_89 ts_19 (va_recv (ci := 3) (q0 := 0) hK hP rfl rfl) hS d_Mod_alike_46 ⟨⟨by decide, by decide⟩, Nat.le_refl _, Nat.le_refl _⟩ rfl hl.1 rfl (Nat.le_of_ble_eq_true rfl) (fun locs hS => ?_)
          refine lv_if_ne (tgt := 58) hx hb d_Mod_alike_49 (by decide) (fun h49 => ?_) (fun h49 => ?_)
          · refine lv_iload_n hx hb d_Mod_alike_58 rfl (lv_at hl 0 rfl) ?_
            exact kp_i F hlocks hret hS d_Mod_alike_59 (by rw [← halk, ealk, if_neg h14, if_pos h35, if_neg (fun y => h39 (by rw [y]; rfl)), if_neg h49])
          · refine lv_iinc (k := 0) (v := (nI (i + 1))) hx hb d_Mod_alike_52 hl rfl (nI_succ _).symm (by decide) rfl (fun ls hl => ?_)
            have hl : lv_has ls 4 [(3, .int (nI (i + 1))), (0, .ref (a 0)), (1, .int (nI r)), (2, .int (nI q))] := hl
            refine lv_goto (tgt := 2) hx hb d_Mod_alike_55 (by decide) ?_
            exact ih f (i + 1) _ locs ls (by omega) ⟨by omega, by rw [← halk, ealk, if_neg h14, if_pos h35, if_neg (fun y => h39 (by rw [y]; rfl)), if_pos h49], rfl, (lv_sub hl [0, 1, 2, 3] rfl), hS⟩
