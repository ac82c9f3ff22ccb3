set_option maxRecDepth 100000 in
set_option maxHeartbeats 4000000 in
theorem c_Mod_thrown (l : Launch) (Dg : va_G) (a : Nat → Nat) (k : Nat → ClassId) (D : vSt) (H : Heap) (hP : va_P Dg classes (wD a k D) H) : kPu l y_Mod_thrown b_Mod_thrown 1 (some FieldType.int) 0 0 [.ref (a 0)] H (va_K Dg classes (kTy k)) (D 14 0) := by
  refine k_of (by decide) (Nat.le_of_ble_eq_true rfl) ?_
  intro p e s m below meth cd ls F hlocks hret hname hh hX hl
  subst hh
  obtain ⟨hx, hb, hml, hown, hT⟩ := id F
  have hK : va_K Dg classes (kTy k) s := hX
  have hS : va_S (fun _ => False) s.heap s.heap [] := va_S.rf
  have hl : lv_has ls 1 [(0, .ref (a 0))] := hl
  refine lv_aload_n hx hb d_Mod_thrown_0 rfl (lv_at hl 0 rfl) ?_
  refine va_get (D := Dg) (ci := 3) (v := .int (D 14 0)) (C := R_Mod) (T := F_Mod) (N := 17) hx hb hT in_Mod hown hK hP 0 rfl rfl 0 (by decide) (hT _ tw2_226) (fun _ h9 => h9) rfl d_Mod_thrown_1 ?_
  exact kp_i F hlocks hret hS d_Mod_thrown_4 rfl

set_option maxRecDepth 100000 in
set_option maxHeartbeats 4000000 in
theorem c_Mod_refuse (l : Launch) (Dg : va_G) (a : Nat → Nat) (k : Nat → ClassId) (D : vSt) (w : Int32) (H : Heap) (hP : va_P Dg classes (wD a k D) H) (hD : va_D (fun _ => True) (wD a k D)) : kMi l y_Mod_refuse b_Mod_refuse 2 (some FieldType.int) 0 0 [.ref (a 0), .int w] H (va_K Dg classes (kTy k)) Dg (wD a k D) (wD a k (u2 D 14 0 w)) (0) := by
  refine k_of (by decide) (Nat.le_of_ble_eq_true rfl) ?_
  intro p e s m below meth cd ls F hlocks hret hname hh hX hl
  subst hh
  obtain ⟨hx, hb, hml, hown, hT⟩ := id F
  have hK : va_K Dg classes (kTy k) s := hX
  have hA : ∀ q : Nat, s.heap.size ≤ q → va_A (wD a k D) s.heap.size q := fun q h => Or.inr h
  have hD := hD.self (sz := s.heap.size)
  have hS : va_S (va_A (wD a k D) s.heap.size) s.heap s.heap [] := va_S.rf
  have hl : lv_has ls 2 [(0, .ref (a 0)), (1, .int w)] := hl
  refine lv_aload_n hx hb d_Mod_refuse_0 rfl (lv_at hl 0 rfl) ?_
  refine lv_iload_n hx hb d_Mod_refuse_1 rfl (lv_at hl 1 rfl) ?_
  refine va_put (D := Dg) (ci := 3) (v := .int w) (ty := .int) (C := R_Mod) (T := F_Mod) (N := 17) hx hb hT in_Mod t_Mod t_Mod_ok n_Mod hown hK hP hD hS 0 rfl rfl 0 (by decide) (hT _ tw2_226) (fun _ h9 => h9) rfl (by decide +kernel) rfl rfl (Nat.le_of_ble_eq_true rfl) d_Mod_refuse_2 (fun H locs hP hD hS => ?_)
  have hP : va_P Dg classes (wD a k (u2 D 14 0 w)) H := hP
  have hD : va_D (va_A (wD a k D) s.heap.size) (wD a k (u2 D 14 0 w)) := hD
  obtain ⟨Ds1, hDs1⟩ : ∃ z9, z9 = (u2 D 14 0 w) := ⟨_, rfl⟩
  rw [← hDs1] at hP hD
  refine lv_iconst (v := 0) hx hb d_Mod_refuse_5 (by decide) ?_
  exact km_i F hlocks hret hP hD hS d_Mod_refuse_6 rfl (by subst hDs1; rfl)

set_option maxRecDepth 100000 in
set_option maxHeartbeats 4000000 in
theorem c_Mod_outside (l : Launch) (Dg : va_G) (k : Nat → ClassId) (x lo hi : Int32) (H : Heap) : kPu l y_Mod_outside b_Mod_outside 3 (some FieldType.boolean) 0 0 [.int x, .int lo, .int hi] H (va_K Dg classes (kTy k)) (pOut x lo hi) := by
  refine k_of (by decide) (Nat.le_of_ble_eq_true rfl) ?_
  intro p e s m below meth cd ls F hlocks hret hname hh hX hl
  subst hh
  obtain ⟨hx, hb, hml, hown, hT⟩ := id F
  have hK : va_K Dg classes (kTy k) s := hX
  have hS : va_S (fun _ => False) s.heap s.heap [] := va_S.rf
  have hl : lv_has ls 3 [(0, .int x), (1, .int lo), (2, .int hi)] := hl
  refine lv_iload_n hx hb d_Mod_outside_0 rfl (lv_at hl 0 rfl) ?_
  refine lv_iload_n hx hb d_Mod_outside_1 rfl (lv_at hl 1 rfl) ?_
  refine lv_icmp_lt (tgt := 10) hx hb d_Mod_outside_2 (by decide) (fun h2 => ?_) (fun h2 => ?_)
  · refine lv_iconst (v := 1) hx hb d_Mod_outside_10 (by decide) ?_
    refine lv_goto (tgt := 15) hx hb d_Mod_outside_11 (by decide) ?_
    exact kp_z F hlocks hret hS d_Mod_outside_15 rfl (by unfold pOut; rw [if_pos h2])
  · refine lv_iload_n hx hb d_Mod_outside_5 rfl (lv_at hl 0 rfl) ?_
    refine lv_iload_n hx hb d_Mod_outside_6 rfl (lv_at hl 2 rfl) ?_
    refine lv_icmp_le (tgt := 14) hx hb d_Mod_outside_7 (by decide) (fun h7 => ?_) (fun h7 => ?_)
    · refine lv_iconst (v := 0) hx hb d_Mod_outside_14 (by decide) ?_
      exact kp_z F hlocks hret hS d_Mod_outside_15 rfl (by unfold pOut; rw [if_neg h2, if_pos h7])
    · refine lv_iconst (v := 1) hx hb d_Mod_outside_10 (by decide) ?_
      refine lv_goto (tgt := 15) hx hb d_Mod_outside_11 (by decide) ?_
      exact kp_z F hlocks hret hS d_Mod_outside_15 rfl (by unfold pOut; rw [if_neg h2, if_neg h7])

set_option maxRecDepth 100000 in
set_option maxHeartbeats 4000000 in
theorem c_Mod_isPlain (l : Launch) (Dg : va_G) (k : Nat → ClassId) (c : Int32) (H : Heap) : kPu l y_Mod_isPlain b_Mod_isPlain 1 (some FieldType.boolean) 0 0 [.int c] H (va_K Dg classes (kTy k)) (pIsP c) := by
  refine k_of (by decide) (Nat.le_of_ble_eq_true rfl) ?_
  intro p e s m below meth cd ls F hlocks hret hname hh hX hl
  subst hh
  obtain ⟨hx, hb, hml, hown, hT⟩ := id F
  have hK : va_K Dg classes (kTy k) s := hX
  have hS : va_S (fun _ => False) s.heap s.heap [] := va_S.rf
  have hl : lv_has ls 1 [(0, .int c)] := hl
  refine lv_iload_n hx hb d_Mod_isPlain_0 rfl (lv_at hl 0 rfl) ?_
  refine lv_bipush (v := 43) hx hb d_Mod_isPlain_1 (by decide) ?_
  refine lv_icmp_eq (tgt := 36) hx hb d_Mod_isPlain_3 (by decide) (fun h3 => ?_) (fun h3 => ?_)
  · refine lv_iconst (v := 1) hx hb d_Mod_isPlain_36 (by decide) ?_
    refine lv_goto (tgt := 41) hx hb d_Mod_isPlain_37 (by decide) ?_
    exact kp_z F hlocks hret hS d_Mod_isPlain_41 rfl (by unfold pIsP; rw [if_pos h3])
  · refine lv_iload_n hx hb d_Mod_isPlain_6 rfl (lv_at hl 0 rfl) ?_
    refine lv_bipush (v := 45) hx hb d_Mod_isPlain_7 (by decide) ?_
    refine lv_icmp_eq (tgt := 36) hx hb d_Mod_isPlain_9 (by decide) (fun h9 => ?_) (fun h9 => ?_)
    · refine lv_iconst (v := 1) hx hb d_Mod_isPlain_36 (by decide) ?_
      refine lv_goto (tgt := 41) hx hb d_Mod_isPlain_37 (by decide) ?_
      exact kp_z F hlocks hret hS d_Mod_isPlain_41 rfl (by unfold pIsP; rw [if_neg h3, if_pos h9])
    · refine lv_iload_n hx hb d_Mod_isPlain_12 rfl (lv_at hl 0 rfl) ?_
      refine lv_bipush (v := 42) hx hb d_Mod_isPlain_13 (by decide) ?_
      refine lv_icmp_eq (tgt := 36) hx hb d_Mod_isPlain_15 (by decide) (fun h15 => ?_) (fun h15 => ?_)
      · refine lv_iconst (v := 1) hx hb d_Mod_isPlain_36 (by decide) ?_
        refine lv_goto (tgt := 41) hx hb d_Mod_isPlain_37 (by decide) ?_
        exact kp_z F hlocks hret hS d_Mod_isPlain_41 rfl (by unfold pIsP; rw [if_neg h3, if_neg h9, if_pos h15])
      · refine lv_iload_n hx hb d_Mod_isPlain_18 rfl (lv_at hl 0 rfl) ?_
        refine lv_bipush (v := 47) hx hb d_Mod_isPlain_19 (by decide) ?_
        refine lv_icmp_eq (tgt := 36) hx hb d_Mod_isPlain_21 (by decide) (fun h21 => ?_) (fun h21 => ?_)
        · refine lv_iconst (v := 1) hx hb d_Mod_isPlain_36 (by decide) ?_
          refine lv_goto (tgt := 41) hx hb d_Mod_isPlain_37 (by decide) ?_
          exact kp_z F hlocks hret hS d_Mod_isPlain_41 rfl (by unfold pIsP; rw [if_neg h3, if_neg h9, if_neg h15, if_pos h21])
        · refine lv_iload_n hx hb d_Mod_isPlain_24 rfl (lv_at hl 0 rfl) ?_
          refine lv_bipush (v := 60) hx hb d_Mod_isPlain_25 (by decide) ?_
          refine lv_icmp_eq (tgt := 36) hx hb d_Mod_isPlain_27 (by decide) (fun h27 => ?_) (fun h27 => ?_)
          · refine lv_iconst (v := 1) hx hb d_Mod_isPlain_36 (by decide) ?_
            refine lv_goto (tgt := 41) hx hb d_Mod_isPlain_37 (by decide) ?_
            exact kp_z F hlocks hret hS d_Mod_isPlain_41 rfl (by unfold pIsP; rw [if_neg h3, if_neg h9, if_neg h15, if_neg h21, if_pos h27])
          · refine lv_iload_n hx hb d_Mod_isPlain_30 rfl (lv_at hl 0 rfl) ?_
            refine lv_bipush (v := 61) hx hb d_Mod_isPlain_31 (by decide) ?_
            refine lv_icmp_ne (tgt := 40) hx hb d_Mod_isPlain_33 (by decide) (fun h33 => ?_) (fun h33 => ?_)
            · refine lv_iconst (v := 0) hx hb d_Mod_isPlain_40 (by decide) ?_
              exact kp_z F hlocks hret hS d_Mod_isPlain_41 rfl (by unfold pIsP; rw [if_neg h3, if_neg h9, if_neg h15, if_neg h21, if_neg h27, if_neg h33])
            · refine lv_iconst (v := 1) hx hb d_Mod_isPlain_36 (by decide) ?_
              refine lv_goto (tgt := 41) hx hb d_Mod_isPlain_37 (by decide) ?_
              exact kp_z F hlocks hret hS d_Mod_isPlain_41 rfl (by unfold pIsP; rw [if_neg h3, if_neg h9, if_neg h15, if_neg h21, if_neg h27, if_pos h33])

set_option maxRecDepth 100000 in
set_option maxHeartbeats 4000000 in
theorem c_Mod_isLetter (l : Launch) (Dg : va_G) (k : Nat → ClassId) (c : Int32) (H : Heap) : kPu l y_Mod_isLetter b_Mod_isLetter 1 (some FieldType.boolean) 1 20 [.int c] H (va_K Dg classes (kTy k)) (pIsL c) := by
  refine k_of (by decide) (Nat.le_of_ble_eq_true rfl) ?_
  intro p e s m below meth cd ls F hlocks hret hname hh hX hl
  subst hh
  obtain ⟨hx, hb, hml, hown, hT⟩ := id F
  have hK : va_K Dg classes (kTy k) s := hX
  have hS : va_S (fun _ => False) s.heap s.heap [] := va_S.rf
  have hl : lv_has ls 1 [(0, .int c)] := hl
  refine lv_iload_n hx hb d_Mod_isLetter_0 rfl (lv_at hl 0 rfl) ?_
  refine kp_S F (c_Mod_isPlain l Dg k c _ ) kx_K hK kw_Mod_57 tw3_54 hS d_Mod_isLetter_1 ⟨⟨by decide, by decide⟩, Nat.le_refl _, Nat.le_refl _⟩ rfl hl.1 rfl (Nat.le_of_ble_eq_true rfl) (fun locs hS => ?_)
  refine lv_if_ne (tgt := 79) hx hb d_Mod_isLetter_4 (by decide) (fun h4 => ?_) (fun h4 => ?_)
  · refine lv_iconst (v := 1) hx hb d_Mod_isLetter_79 (by decide) ?_
    refine lv_goto (tgt := 84) hx hb d_Mod_isLetter_80 (by decide) ?_
    exact kp_z F hlocks hret hS d_Mod_isLetter_84 rfl (by unfold pIsL; rw [if_neg h4])
  · refine lv_iload_n hx hb d_Mod_isLetter_7 rfl (lv_at hl 0 rfl) ?_
    refine lv_bipush (v := 80) hx hb d_Mod_isLetter_8 (by decide) ?_
    refine lv_icmp_eq (tgt := 79) hx hb d_Mod_isLetter_10 (by decide) (fun h10 => ?_) (fun h10 => ?_)
    · refine lv_iconst (v := 1) hx hb d_Mod_isLetter_79 (by decide) ?_
      refine lv_goto (tgt := 84) hx hb d_Mod_isLetter_80 (by decide) ?_
      exact kp_z F hlocks hret hS d_Mod_isLetter_84 rfl (by unfold pIsL; rw [if_pos h4, if_pos h10])
    · refine lv_iload_n hx hb d_Mod_isLetter_13 rfl (lv_at hl 0 rfl) ?_
      refine lv_bipush (v := 76) hx hb d_Mod_isLetter_14 (by decide) ?_
      refine lv_icmp_eq (tgt := 79) hx hb d_Mod_isLetter_16 (by decide) (fun h16 => ?_) (fun h16 => ?_)
      · refine lv_iconst (v := 1) hx hb d_Mod_isLetter_79 (by decide) ?_
        refine lv_goto (tgt := 84) hx hb d_Mod_isLetter_80 (by decide) ?_
        exact kp_z F hlocks hret hS d_Mod_isLetter_84 rfl (by unfold pIsL; rw [if_pos h4, if_neg h10, if_pos h16])
      · refine lv_iload_n hx hb d_Mod_isLetter_19 rfl (lv_at hl 0 rfl) ?_
        refine lv_bipush (v := 83) hx hb d_Mod_isLetter_20 (by decide) ?_
        refine lv_icmp_eq (tgt := 79) hx hb d_Mod_isLetter_22 (by decide) (fun h22 => ?_) (fun h22 => ?_)
        · refine lv_iconst (v := 1) hx hb d_Mod_isLetter_79 (by decide) ?_
          refine lv_goto (tgt := 84) hx hb d_Mod_isLetter_80 (by decide) ?_
          exact kp_z F hlocks hret hS d_Mod_isLetter_84 rfl (by unfold pIsL; rw [if_pos h4, if_neg h10, if_neg h16, if_pos h22])
        · refine lv_iload_n hx hb d_Mod_isLetter_25 rfl (lv_at hl 0 rfl) ?_
          refine lv_bipush (v := 68) hx hb d_Mod_isLetter_26 (by decide) ?_
          refine lv_icmp_eq (tgt := 79) hx hb d_Mod_isLetter_28 (by decide) (fun h28 => ?_) (fun h28 => ?_)
          · refine lv_iconst (v := 1) hx hb d_Mod_isLetter_79 (by decide) ?_
            refine lv_goto (tgt := 84) hx hb d_Mod_isLetter_80 (by decide) ?_
            exact kp_z F hlocks hret hS d_Mod_isLetter_84 rfl (by unfold pIsL; rw [if_pos h4, if_neg h10, if_neg h16, if_neg h22, if_pos h28])
          · refine lv_iload_n hx hb d_Mod_isLetter_31 rfl (lv_at hl 0 rfl) ?_
            refine lv_bipush (v := 88) hx hb d_Mod_isLetter_32 (by decide) ?_
            refine lv_icmp_eq (tgt := 79) hx hb d_Mod_isLetter_34 (by decide) (fun h34 => ?_) (fun h34 => ?_)
            · refine lv_iconst (v := 1) hx hb d_Mod_isLetter_79 (by decide) ?_
              refine lv_goto (tgt := 84) hx hb d_Mod_isLetter_80 (by decide) ?_
              exact kp_z F hlocks hret hS d_Mod_isLetter_84 rfl (by unfold pIsL; rw [if_pos h4, if_neg h10, if_neg h16, if_neg h22, if_neg h28, if_pos h34])
            · refine lv_iload_n hx hb d_Mod_isLetter_37 rfl (lv_at hl 0 rfl) ?_
              refine lv_bipush (v := 79) hx hb d_Mod_isLetter_38 (by decide) ?_
              refine lv_icmp_eq (tgt := 79) hx hb d_Mod_isLetter_40 (by decide) (fun h40 => ?_) (fun h40 => ?_)
              · refine lv_iconst (v := 1) hx hb d_Mod_isLetter_79 (by decide) ?_
                refine lv_goto (tgt := 84) hx hb d_Mod_isLetter_80 (by decide) ?_
                exact kp_z F hlocks hret hS d_Mod_isLetter_84 rfl (by unfold pIsL; rw [if_pos h4, if_neg h10, if_neg h16, if_neg h22, if_neg h28, if_neg h34, if_pos h40])
              · refine lv_iload_n hx hb d_Mod_isLetter_43 rfl (lv_at hl 0 rfl) ?_
                refine lv_bipush (v := 86) hx hb d_Mod_isLetter_44 (by decide) ?_
                refine lv_icmp_eq (tgt := 79) hx hb d_Mod_isLetter_46 (by decide) (fun h46 => ?_) (fun h46 => ?_)
                · refine lv_iconst (v := 1) hx hb d_Mod_isLetter_79 (by decide) ?_
                  refine lv_goto (tgt := 84) hx hb d_Mod_isLetter_80 (by decide) ?_
                  exact kp_z F hlocks hret hS d_Mod_isLetter_84 rfl (by unfold pIsL; rw [if_pos h4, if_neg h10, if_neg h16, if_neg h22, if_neg h28, if_neg h34, if_neg h40, if_pos h46])
                · refine lv_iload_n hx hb d_Mod_isLetter_49 rfl (lv_at hl 0 rfl) ?_
                  refine lv_bipush (v := 74) hx hb d_Mod_isLetter_50 (by decide) ?_
                  refine lv_icmp_eq (tgt := 79) hx hb d_Mod_isLetter_52 (by decide) (fun h52 => ?_) (fun h52 => ?_)
                  · refine lv_iconst (v := 1) hx hb d_Mod_isLetter_79 (by decide) ?_
                    refine lv_goto (tgt := 84) hx hb d_Mod_isLetter_80 (by decide) ?_
                    exact kp_z F hlocks hret hS d_Mod_isLetter_84 rfl (by unfold pIsL; rw [if_pos h4, if_neg h10, if_neg h16, if_neg h22, if_neg h28, if_neg h34, if_neg h40, if_neg h46, if_pos h52])
                  · refine lv_iload_n hx hb d_Mod_isLetter_55 rfl (lv_at hl 0 rfl) ?_
                    refine lv_bipush (v := 90) hx hb d_Mod_isLetter_56 (by decide) ?_
                    refine lv_icmp_eq (tgt := 79) hx hb d_Mod_isLetter_58 (by decide) (fun h58 => ?_) (fun h58 => ?_)
                    · refine lv_iconst (v := 1) hx hb d_Mod_isLetter_79 (by decide) ?_
                      refine lv_goto (tgt := 84) hx hb d_Mod_isLetter_80 (by decide) ?_
                      exact kp_z F hlocks hret hS d_Mod_isLetter_84 rfl (by unfold pIsL; rw [if_pos h4, if_neg h10, if_neg h16, if_neg h22, if_neg h28, if_neg h34, if_neg h40, if_neg h46, if_neg h52, if_pos h58])
                    · refine lv_iload_n hx hb d_Mod_isLetter_61 rfl (lv_at hl 0 rfl) ?_
                      refine lv_bipush (v := 67) hx hb d_Mod_isLetter_62 (by decide) ?_
                      refine lv_icmp_eq (tgt := 79) hx hb d_Mod_isLetter_64 (by decide) (fun h64 => ?_) (fun h64 => ?_)
                      · refine lv_iconst (v := 1) hx hb d_Mod_isLetter_79 (by decide) ?_
                        refine lv_goto (tgt := 84) hx hb d_Mod_isLetter_80 (by decide) ?_
                        exact kp_z F hlocks hret hS d_Mod_isLetter_84 rfl (by unfold pIsL; rw [if_pos h4, if_neg h10, if_neg h16, if_neg h22, if_neg h28, if_neg h34, if_neg h40, if_neg h46, if_neg h52, if_neg h58, if_pos h64])
                      · refine lv_iload_n hx hb d_Mod_isLetter_67 rfl (lv_at hl 0 rfl) ?_
                        refine lv_bipush (v := 82) hx hb d_Mod_isLetter_68 (by decide) ?_
                        refine lv_icmp_eq (tgt := 79) hx hb d_Mod_isLetter_70 (by decide) (fun h70 => ?_) (fun h70 => ?_)
                        · refine lv_iconst (v := 1) hx hb d_Mod_isLetter_79 (by decide) ?_
                          refine lv_goto (tgt := 84) hx hb d_Mod_isLetter_80 (by decide) ?_
                          exact kp_z F hlocks hret hS d_Mod_isLetter_84 rfl (by unfold pIsL; rw [if_pos h4, if_neg h10, if_neg h16, if_neg h22, if_neg h28, if_neg h34, if_neg h40, if_neg h46, if_neg h52, if_neg h58, if_neg h64, if_pos h70])
                        · refine lv_iload_n hx hb d_Mod_isLetter_73 rfl (lv_at hl 0 rfl) ?_
                          refine lv_bipush (v := 72) hx hb d_Mod_isLetter_74 (by decide) ?_
                          refine lv_icmp_ne (tgt := 83) hx hb d_Mod_isLetter_76 (by decide) (fun h76 => ?_) (fun h76 => ?_)
                          · refine lv_iconst (v := 0) hx hb d_Mod_isLetter_83 (by decide) ?_
                            exact kp_z F hlocks hret hS d_Mod_isLetter_84 rfl (by unfold pIsL; rw [if_pos h4, if_neg h10, if_neg h16, if_neg h22, if_neg h28, if_neg h34, if_neg h40, if_neg h46, if_neg h52, if_neg h58, if_neg h64, if_neg h70, if_neg h76])
                          · refine lv_iconst (v := 1) hx hb d_Mod_isLetter_79 (by decide) ?_
                            refine lv_goto (tgt := 84) hx hb d_Mod_isLetter_80 (by decide) ?_
                            exact kp_z F hlocks hret hS d_Mod_isLetter_84 rfl (by unfold pIsL; rw [if_pos h4, if_neg h10, if_neg h16, if_neg h22, if_neg h28, if_neg h34, if_neg h40, if_neg h46, if_neg h52, if_neg h58, if_neg h64, if_neg h70, if_pos h76])

set_option maxRecDepth 100000 in
set_option maxHeartbeats 4000000 in
theorem c_Mod_leads (l : Launch) (Dg : va_G) (k : Nat → ClassId) (c : Int32) (H : Heap) : kPu l y_Mod_leads b_Mod_leads 1 (some FieldType.boolean) 0 0 [.int c] H (va_K Dg classes (kTy k)) (pLead c) := by
  refine k_of (by decide) (Nat.le_of_ble_eq_true rfl) ?_
  intro p e s m below meth cd ls F hlocks hret hname hh hX hl
  subst hh
  obtain ⟨hx, hb, hml, hown, hT⟩ := id F
  have hK : va_K Dg classes (kTy k) s := hX
  have hS : va_S (fun _ => False) s.heap s.heap [] := va_S.rf
  have hl : lv_has ls 1 [(0, .int c)] := hl
  refine lv_iload_n hx hb d_Mod_leads_0 rfl (lv_at hl 0 rfl) ?_
  refine lv_bipush (v := 74) hx hb d_Mod_leads_1 (by decide) ?_
  refine lv_icmp_eq (tgt := 18) hx hb d_Mod_leads_3 (by decide) (fun h3 => ?_) (fun h3 => ?_)
  · refine lv_iconst (v := 1) hx hb d_Mod_leads_18 (by decide) ?_
    refine lv_goto (tgt := 23) hx hb d_Mod_leads_19 (by decide) ?_
    exact kp_z F hlocks hret hS d_Mod_leads_23 rfl (by unfold pLead; rw [if_pos h3])
  · refine lv_iload_n hx hb d_Mod_leads_6 rfl (lv_at hl 0 rfl) ?_
    refine lv_bipush (v := 90) hx hb d_Mod_leads_7 (by decide) ?_
    refine lv_icmp_eq (tgt := 18) hx hb d_Mod_leads_9 (by decide) (fun h9 => ?_) (fun h9 => ?_)
    · refine lv_iconst (v := 1) hx hb d_Mod_leads_18 (by decide) ?_
      refine lv_goto (tgt := 23) hx hb d_Mod_leads_19 (by decide) ?_
      exact kp_z F hlocks hret hS d_Mod_leads_23 rfl (by unfold pLead; rw [if_neg h3, if_pos h9])
    · refine lv_iload_n hx hb d_Mod_leads_12 rfl (lv_at hl 0 rfl) ?_
      refine lv_bipush (v := 67) hx hb d_Mod_leads_13 (by decide) ?_
      refine lv_icmp_ne (tgt := 22) hx hb d_Mod_leads_15 (by decide) (fun h15 => ?_) (fun h15 => ?_)
      · refine lv_iconst (v := 0) hx hb d_Mod_leads_22 (by decide) ?_
        exact kp_z F hlocks hret hS d_Mod_leads_23 rfl (by unfold pLead; rw [if_neg h3, if_neg h9, if_neg h15])
      · refine lv_iconst (v := 1) hx hb d_Mod_leads_18 (by decide) ?_
        refine lv_goto (tgt := 23) hx hb d_Mod_leads_19 (by decide) ?_
        exact kp_z F hlocks hret hS d_Mod_leads_23 rfl (by unfold pLead; rw [if_neg h3, if_neg h9, if_pos h15])

set_option maxRecDepth 100000 in
set_option maxHeartbeats 4000000 in
theorem c_Mod_fits (l : Launch) (Dg : va_G) (k : Nat → ClassId) (c n : Int32) (H : Heap) : kPu l y_Mod_fits b_Mod_fits 2 (some FieldType.boolean) 2 40 [.int c, .int n] H (va_K Dg classes (kTy k)) (pFits c n) := by
  refine k_of (by decide) (Nat.le_of_ble_eq_true rfl) ?_
  intro p e s m below meth cd ls F hlocks hret hname hh hX hl
  subst hh
  obtain ⟨hx, hb, hml, hown, hT⟩ := id F
  have hK : va_K Dg classes (kTy k) s := hX
  have hS : va_S (fun _ => False) s.heap s.heap [] := va_S.rf
  have hl : lv_has ls 2 [(0, .int c), (1, .int n)] := hl
  refine lv_iload_n hx hb d_Mod_fits_0 rfl (lv_at hl 0 rfl) ?_
  refine kp_S F (c_Mod_isLetter l Dg k c _ ) kx_K hK kw_Mod_61 tw3_51 hS d_Mod_fits_1 ⟨⟨by decide, by decide⟩, Nat.le_refl _, Nat.le_refl _⟩ rfl hl.1 rfl (Nat.le_of_ble_eq_true rfl) (fun locs hS => ?_)
  refine lv_if_eq (tgt := 33) hx hb d_Mod_fits_4 (by decide) (fun h4 => ?_) (fun h4 => ?_)
  · refine lv_iconst (v := 0) hx hb d_Mod_fits_33 (by decide) ?_
    exact kp_z F hlocks hret hS d_Mod_fits_34 rfl (by unfold pFits; rw [if_pos h4])
  · refine lv_iload_n hx hb d_Mod_fits_7 rfl (lv_at hl 0 rfl) ?_
    refine lv_bipush (v := 76) hx hb d_Mod_fits_8 (by decide) ?_
    refine lv_icmp_eq (tgt := 19) hx hb d_Mod_fits_10 (by decide) (fun h10 => ?_) (fun h10 => ?_)
    · refine lv_iload_n hx hb d_Mod_fits_19 rfl (lv_at hl 1 rfl) ?_
      refine lv_iconst (v := 0) hx hb d_Mod_fits_20 (by decide) ?_
      refine lv_bipush (v := 7) hx hb d_Mod_fits_21 (by decide) ?_
      refine kp_S F (c_Mod_outside l Dg k n 0 7 _ ) kx_K hK kw_Mod_64 tw3_57 hS d_Mod_fits_23 ⟨⟨by decide, by decide⟩, Nat.le_refl _, Nat.le_refl _⟩ rfl hl.1 rfl (Nat.le_of_ble_eq_true rfl) (fun locs hS => ?_)
      refine lv_if_ne (tgt := 33) hx hb d_Mod_fits_26 (by decide) (fun h26 => ?_) (fun h26 => ?_)
      · refine lv_iconst (v := 0) hx hb d_Mod_fits_33 (by decide) ?_
        exact kp_z F hlocks hret hS d_Mod_fits_34 rfl (by unfold pFits; rw [if_neg h4, if_pos h10, if_neg h26])
      · refine lv_iconst (v := 1) hx hb d_Mod_fits_29 (by decide) ?_
        refine lv_goto (tgt := 34) hx hb d_Mod_fits_30 (by decide) ?_
        exact kp_z F hlocks hret hS d_Mod_fits_34 rfl (by unfold pFits; rw [if_neg h4, if_pos h10, if_pos h26])
    · refine lv_iload_n hx hb d_Mod_fits_13 rfl (lv_at hl 0 rfl) ?_
      refine lv_bipush (v := 83) hx hb d_Mod_fits_14 (by decide) ?_
      refine lv_icmp_ne (tgt := 29) hx hb d_Mod_fits_16 (by decide) (fun h16 => ?_) (fun h16 => ?_)
      · refine lv_iconst (v := 1) hx hb d_Mod_fits_29 (by decide) ?_
        refine lv_goto (tgt := 34) hx hb d_Mod_fits_30 (by decide) ?_
        exact kp_z F hlocks hret hS d_Mod_fits_34 rfl (by unfold pFits; rw [if_neg h4, if_neg h10, if_neg h16])
      · refine lv_iload_n hx hb d_Mod_fits_19 rfl (lv_at hl 1 rfl) ?_
        refine lv_iconst (v := 0) hx hb d_Mod_fits_20 (by decide) ?_
        refine lv_bipush (v := 7) hx hb d_Mod_fits_21 (by decide) ?_
        refine kp_S F (c_Mod_outside l Dg k n 0 7 _ ) kx_K hK kw_Mod_64 tw3_57 hS d_Mod_fits_23 ⟨⟨by decide, by decide⟩, Nat.le_refl _, Nat.le_refl _⟩ rfl hl.1 rfl (Nat.le_of_ble_eq_true rfl) (fun locs hS => ?_)
        refine lv_if_ne (tgt := 33) hx hb d_Mod_fits_26 (by decide) (fun h26 => ?_) (fun h26 => ?_)
        · refine lv_iconst (v := 0) hx hb d_Mod_fits_33 (by decide) ?_
          exact kp_z F hlocks hret hS d_Mod_fits_34 rfl (by unfold pFits; rw [if_neg h4, if_neg h10, if_pos h16, if_neg h26])
        · refine lv_iconst (v := 1) hx hb d_Mod_fits_29 (by decide) ?_
          refine lv_goto (tgt := 34) hx hb d_Mod_fits_30 (by decide) ?_
          exact kp_z F hlocks hret hS d_Mod_fits_34 rfl (by unfold pFits; rw [if_neg h4, if_neg h10, if_pos h16, if_pos h26])

theorem dm_in {D : vSt} {m : Int32} (h : dOk D m) : vp_in m 2 := by
  obtain ⟨i, h, r, o, hi, em, -⟩ := h
  rw [em]; exact vp_in_nI hi (by decide)
theorem ix_40 {m x : Int32} {i h c N : Nat} (cc : Int32) (hc : cc = nI c) (em : m = nI i) (ex : x = nI h) (hlt : c * i + h < N) (hN : N < 2 ^ 31) : vp_in (cc * m + x) N := by
  rw [hc, em, ex, pk_mul, nI_add]; exact vp_in_nI hlt hN

set_option maxRecDepth 100000 in
set_option maxHeartbeats 4000000 in
theorem c_Mod_push (l : Launch) (Dg : va_G) (a : Nat → Nat) (k : Nat → ClassId) (D : vSt) (mm x : Int32) (H : Heap) (hP : va_P Dg classes (wD a k D) H) (hD : va_D (fun _ => True) (wD a k D)) (hm : vp_in mm 2) (h0 : vp_in (40 * mm + D 5 (tn mm)) 80) : kMv l y_Mod_push b_Mod_push 3 0 0 [.ref (a 0), .int mm, .int x] H (va_K Dg classes (kTy k)) Dg (wD a k D) (wD a k (dPush D mm x)) := by
  refine k_of (by decide) (Nat.le_of_ble_eq_true rfl) ?_
  intro p e s m below meth cd ls F hlocks hret hname hh hX hl
  subst hh
  obtain ⟨hx, hb, hml, hown, hT⟩ := id F
  have hK : va_K Dg classes (kTy k) s := hX
  have hA : ∀ q : Nat, s.heap.size ≤ q → va_A (wD a k D) s.heap.size q := fun q h => Or.inr h
  have hD := hD.self (sz := s.heap.size)
  have hS : va_S (va_A (wD a k D) s.heap.size) s.heap s.heap [] := va_S.rf
  have hl : lv_has ls 3 [(0, .ref (a 0)), (1, .int mm), (2, .int x)] := hl
  refine lv_aload_n hx hb d_Mod_push_0 rfl (lv_at hl 0 rfl) ?_
  refine va_get (D := Dg) (ci := 3) (v := .ref (a 11)) (C := R_Mod) (T := F_Mod) (N := 17) hx hb hT in_Mod hown hK hP 0 rfl rfl 13 (by decide) (hT _ tw2_239) (fun _ h9 => h9) rfl d_Mod_push_1 ?_
  refine lv_bipush (v := 40) hx hb d_Mod_push_4 (by decide) ?_
  refine lv_iload_n hx hb d_Mod_push_6 rfl (lv_at hl 1 rfl) ?_
  refine lv_imul hx hb d_Mod_push_7 ?_
  refine lv_aload_n hx hb d_Mod_push_8 rfl (lv_at hl 0 rfl) ?_
  refine va_get (D := Dg) (ci := 3) (v := .ref (a 6)) (C := R_Mod) (T := F_Mod) (N := 17) hx hb hT in_Mod hown hK hP 0 rfl rfl 8 (by decide) (hT _ tw2_234) (fun _ h9 => h9) rfl d_Mod_push_9 ?_
  refine lv_iload_n hx hb d_Mod_push_12 rfl (lv_at hl 1 rfl) ?_
  refine va_iald (f := (D 5)) hx hb hK hP 6 0 rfl rfl hm d_Mod_push_13 ?_
  refine lv_iadd hx hb d_Mod_push_14 ?_
  refine lv_iload_n hx hb d_Mod_push_15 rfl (lv_at hl 2 rfl) ?_
  refine va_iast hx hb hK hP hD hS 11 0 rfl rfl h0 d_Mod_push_16 (fun H locs hP hD hS => ?_)
  have hP : va_P Dg classes (wD a k (u2 D 10 ((40 * mm) + ((D 5) mm.toNatClampNeg)).toNatClampNeg x)) H := hP
  have hD : va_D (va_A (wD a k D) s.heap.size) (wD a k (u2 D 10 ((40 * mm) + ((D 5) mm.toNatClampNeg)).toNatClampNeg x)) := hD
  obtain ⟨Ds1, hDs1⟩ : ∃ z9, z9 = (u2 D 10 ((40 * mm) + ((D 5) mm.toNatClampNeg)).toNatClampNeg x) := ⟨_, rfl⟩
  rw [← hDs1] at hP hD
  refine lv_aload_n hx hb d_Mod_push_17 rfl (lv_at hl 0 rfl) ?_
  refine va_get (D := Dg) (ci := 3) (v := .ref (a 6)) (C := R_Mod) (T := F_Mod) (N := 17) hx hb hT in_Mod hown hK hP 0 rfl rfl 8 (by decide) (hT _ tw2_234) (fun _ h9 => h9) rfl d_Mod_push_18 ?_
  refine lv_iload_n hx hb d_Mod_push_21 rfl (lv_at hl 1 rfl) ?_
  refine lv_dup2_11 hx hb d_Mod_push_22 rfl rfl ?_
  refine va_iald (f := (D 5)) hx hb hK hP 6 0 (by rw [hDs1]; rfl) rfl hm d_Mod_push_23 ?_
  refine lv_iconst (v := 1) hx hb d_Mod_push_24 (by decide) ?_
  refine lv_iadd hx hb d_Mod_push_25 ?_
  refine va_iast hx hb hK hP hD hS 6 0 rfl rfl hm d_Mod_push_26 (fun H locs hP hD hS => ?_)
  have hP : va_P Dg classes (wD a k (u2 Ds1 5 mm.toNatClampNeg (((D 5) mm.toNatClampNeg) + 1))) H := hP
  have hD : va_D (va_A (wD a k D) s.heap.size) (wD a k (u2 Ds1 5 mm.toNatClampNeg (((D 5) mm.toNatClampNeg) + 1))) := hD
  obtain ⟨Ds2, hDs2⟩ : ∃ z9, z9 = (u2 Ds1 5 mm.toNatClampNeg (((D 5) mm.toNatClampNeg) + 1)) := ⟨_, rfl⟩
  rw [← hDs2] at hP hD
  exact km_v F hlocks hret hP hD hS d_Mod_push_27 (by subst hDs2 hDs1; rfl)

set_option maxRecDepth 100000 in
set_option maxHeartbeats 4000000 in
theorem c_Mod_pop (l : Launch) (Dg : va_G) (a : Nat → Nat) (k : Nat → ClassId) (D : vSt) (mm : Int32) (H : Heap) (hP : va_P Dg classes (wD a k D) H) (hD : va_D (fun _ => True) (wD a k D)) (hm : vp_in mm 2) (h0 : vp_in (40 * mm + (dPop D mm) 5 (tn mm)) 80) : kMi l y_Mod_pop b_Mod_pop 2 (some FieldType.int) 0 0 [.ref (a 0), .int mm] H (va_K Dg classes (kTy k)) Dg (wD a k D) (wD a k (dPop D mm)) (dTop D mm) := by
  refine k_of (by decide) (Nat.le_of_ble_eq_true rfl) ?_
  intro p e s m below meth cd ls F hlocks hret hname hh hX hl
  subst hh
  obtain ⟨hx, hb, hml, hown, hT⟩ := id F
  have hK : va_K Dg classes (kTy k) s := hX
  have hA : ∀ q : Nat, s.heap.size ≤ q → va_A (wD a k D) s.heap.size q := fun q h => Or.inr h
  have hD := hD.self (sz := s.heap.size)
  have hS : va_S (va_A (wD a k D) s.heap.size) s.heap s.heap [] := va_S.rf
  have hl : lv_has ls 2 [(0, .ref (a 0)), (1, .int mm)] := hl
  refine lv_aload_n hx hb d_Mod_pop_0 rfl (lv_at hl 0 rfl) ?_
  refine va_get (D := Dg) (ci := 3) (v := .ref (a 6)) (C := R_Mod) (T := F_Mod) (N := 17) hx hb hT in_Mod hown hK hP 0 rfl rfl 8 (by decide) (hT _ tw2_234) (fun _ h9 => h9) rfl d_Mod_pop_1 ?_
  refine lv_iload_n hx hb d_Mod_pop_4 rfl (lv_at hl 1 rfl) ?_
  refine lv_dup2_11 hx hb d_Mod_pop_5 rfl rfl ?_
  refine va_iald (f := (D 5)) hx hb hK hP 6 0 rfl rfl hm d_Mod_pop_6 ?_
  refine lv_iconst (v := 1) hx hb d_Mod_pop_7 (by decide) ?_
  refine lv_isub hx hb d_Mod_pop_8 ?_
  refine va_iast hx hb hK hP hD hS 6 0 rfl rfl hm d_Mod_pop_9 (fun H locs hP hD hS => ?_)
  have hP : va_P Dg classes (wD a k (u2 D 5 mm.toNatClampNeg (((D 5) mm.toNatClampNeg) - 1))) H := hP
  have hD : va_D (va_A (wD a k D) s.heap.size) (wD a k (u2 D 5 mm.toNatClampNeg (((D 5) mm.toNatClampNeg) - 1))) := hD
  obtain ⟨Ds1, hDs1⟩ : ∃ z9, z9 = (u2 D 5 mm.toNatClampNeg (((D 5) mm.toNatClampNeg) - 1)) := ⟨_, rfl⟩
  rw [← hDs1] at hP hD
  refine lv_aload_n hx hb d_Mod_pop_10 rfl (lv_at hl 0 rfl) ?_
  refine va_get (D := Dg) (ci := 3) (v := .ref (a 11)) (C := R_Mod) (T := F_Mod) (N := 17) hx hb hT in_Mod hown hK hP 0 rfl rfl 13 (by decide) (hT _ tw2_239) (fun _ h9 => h9) rfl d_Mod_pop_11 ?_
  refine lv_bipush (v := 40) hx hb d_Mod_pop_14 (by decide) ?_
  refine lv_iload_n hx hb d_Mod_pop_16 rfl (lv_at hl 1 rfl) ?_
  refine lv_imul hx hb d_Mod_pop_17 ?_
  refine lv_aload_n hx hb d_Mod_pop_18 rfl (lv_at hl 0 rfl) ?_
  refine va_get (D := Dg) (ci := 3) (v := .ref (a 6)) (C := R_Mod) (T := F_Mod) (N := 17) hx hb hT in_Mod hown hK hP 0 rfl rfl 8 (by decide) (hT _ tw2_234) (fun _ h9 => h9) rfl d_Mod_pop_19 ?_
  refine lv_iload_n hx hb d_Mod_pop_22 rfl (lv_at hl 1 rfl) ?_
  refine va_iald (f := (Ds1 5)) hx hb hK hP 6 0 rfl rfl hm d_Mod_pop_23 ?_
  refine lv_iadd hx hb d_Mod_pop_24 ?_
  refine va_iald (f := (D 10)) hx hb hK hP 11 0 (by rw [hDs1]; rfl) rfl (by rw [hDs1]; exact h0) d_Mod_pop_25 ?_
  exact km_i F hlocks hret hP hD hS d_Mod_pop_26 (by rw [hDs1]; rfl) (by subst hDs1; rfl)

set_option maxRecDepth 100000 in
set_option maxHeartbeats 4000000 in
theorem c_Mod_say (l : Launch) (Dg : va_G) (a : Nat → Nat) (k : Nat → ClassId) (D : vSt) (mm x : Int32) (H : Heap) (hP : va_P Dg classes (wD a k D) H) (hD : va_D (fun _ => True) (wD a k D)) (hm : vp_in mm 2) (h0 : ¬ 60 ≤ D 7 (tn mm) → vp_in (60 * mm + D 7 (tn mm)) 120) : kMv l y_Mod_say b_Mod_say 3 0 0 [.ref (a 0), .int mm, .int x] H (va_K Dg classes (kTy k)) Dg (wD a k D) (wD a k (dSay D mm x)) := by
  refine k_of (by decide) (Nat.le_of_ble_eq_true rfl) ?_
  intro p e s m below meth cd ls F hlocks hret hname hh hX hl
  subst hh
  obtain ⟨hx, hb, hml, hown, hT⟩ := id F
  have hK : va_K Dg classes (kTy k) s := hX
  have hA : ∀ q : Nat, s.heap.size ≤ q → va_A (wD a k D) s.heap.size q := fun q h => Or.inr h
  have hD := hD.self (sz := s.heap.size)
  have hS : va_S (va_A (wD a k D) s.heap.size) s.heap s.heap [] := va_S.rf
  have hl : lv_has ls 3 [(0, .ref (a 0)), (1, .int mm), (2, .int x)] := hl
  refine lv_aload_n hx hb d_Mod_say_0 rfl (lv_at hl 0 rfl) ?_
  refine va_get (D := Dg) (ci := 3) (v := .ref (a 8)) (C := R_Mod) (T := F_Mod) (N := 17) hx hb hT in_Mod hown hK hP 0 rfl rfl 10 (by decide) (hT _ tw2_236) (fun _ h9 => h9) rfl d_Mod_say_1 ?_
  refine lv_iload_n hx hb d_Mod_say_4 rfl (lv_at hl 1 rfl) ?_
  refine va_iald (f := (D 7)) hx hb hK hP 8 0 rfl rfl hm d_Mod_say_5 ?_
  refine lv_bipush (v := 60) hx hb d_Mod_say_6 (by decide) ?_
  refine lv_icmp_ge (tgt := 28) hx hb d_Mod_say_8 (by decide) (fun h8 => ?_) (fun h8 => ?_)
  · refine lv_aload_n hx hb d_Mod_say_28 rfl (lv_at hl 0 rfl) ?_
    refine va_get (D := Dg) (ci := 3) (v := .ref (a 8)) (C := R_Mod) (T := F_Mod) (N := 17) hx hb hT in_Mod hown hK hP 0 rfl rfl 10 (by decide) (hT _ tw2_236) (fun _ h9 => h9) rfl d_Mod_say_29 ?_
    refine lv_iload_n hx hb d_Mod_say_32 rfl (lv_at hl 1 rfl) ?_
    refine lv_dup2_11 hx hb d_Mod_say_33 rfl rfl ?_
    refine va_iald (f := (D 7)) hx hb hK hP 8 0 rfl rfl hm d_Mod_say_34 ?_
    refine lv_iconst (v := 1) hx hb d_Mod_say_35 (by decide) ?_
    refine lv_iadd hx hb d_Mod_say_36 ?_
    refine va_iast hx hb hK hP hD hS 8 0 rfl rfl hm d_Mod_say_37 (fun H locs hP hD hS => ?_)
    have hP : va_P Dg classes (wD a k (u2 D 7 mm.toNatClampNeg (((D 7) mm.toNatClampNeg) + 1))) H := hP
    have hD : va_D (va_A (wD a k D) s.heap.size) (wD a k (u2 D 7 mm.toNatClampNeg (((D 7) mm.toNatClampNeg) + 1))) := hD
    obtain ⟨Ds1, hDs1⟩ : ∃ z9, z9 = (u2 D 7 mm.toNatClampNeg (((D 7) mm.toNatClampNeg) + 1)) := ⟨_, rfl⟩
    rw [← hDs1] at hP hD
    exact km_v F hlocks hret hP hD hS d_Mod_say_38 (by subst hDs1; unfold dSay; rw [if_pos h8])
  · refine lv_aload_n hx hb d_Mod_say_11 rfl (lv_at hl 0 rfl) ?_
    refine va_get (D := Dg) (ci := 3) (v := .ref (a 14)) (C := R_Mod) (T := F_Mod) (N := 17) hx hb hT in_Mod hown hK hP 0 rfl rfl 16 (by decide) (hT _ tw3_2) (fun _ h9 => h9) rfl d_Mod_say_12 ?_
    refine lv_bipush (v := 60) hx hb d_Mod_say_15 (by decide) ?_
    refine lv_iload_n hx hb d_Mod_say_17 rfl (lv_at hl 1 rfl) ?_
    refine lv_imul hx hb d_Mod_say_18 ?_
    refine lv_aload_n hx hb d_Mod_say_19 rfl (lv_at hl 0 rfl) ?_
    refine va_get (D := Dg) (ci := 3) (v := .ref (a 8)) (C := R_Mod) (T := F_Mod) (N := 17) hx hb hT in_Mod hown hK hP 0 rfl rfl 10 (by decide) (hT _ tw2_236) (fun _ h9 => h9) rfl d_Mod_say_20 ?_
    refine lv_iload_n hx hb d_Mod_say_23 rfl (lv_at hl 1 rfl) ?_
    refine va_iald (f := (D 7)) hx hb hK hP 8 0 rfl rfl hm d_Mod_say_24 ?_
    refine lv_iadd hx hb d_Mod_say_25 ?_
    refine lv_iload_n hx hb d_Mod_say_26 rfl (lv_at hl 2 rfl) ?_
    refine va_iast hx hb hK hP hD hS 14 0 rfl rfl (h0 h8) d_Mod_say_27 (fun H locs hP hD hS => ?_)
    have hP : va_P Dg classes (wD a k (u2 D 13 ((60 * mm) + ((D 7) mm.toNatClampNeg)).toNatClampNeg x)) H := hP
    have hD : va_D (va_A (wD a k D) s.heap.size) (wD a k (u2 D 13 ((60 * mm) + ((D 7) mm.toNatClampNeg)).toNatClampNeg x)) := hD
    obtain ⟨Ds2, hDs2⟩ : ∃ z9, z9 = (u2 D 13 ((60 * mm) + ((D 7) mm.toNatClampNeg)).toNatClampNeg x) := ⟨_, rfl⟩
    rw [← hDs2] at hP hD
    refine lv_aload_n hx hb d_Mod_say_28 rfl (lv_at hl 0 rfl) ?_
    refine va_get (D := Dg) (ci := 3) (v := .ref (a 8)) (C := R_Mod) (T := F_Mod) (N := 17) hx hb hT in_Mod hown hK hP 0 rfl rfl 10 (by decide) (hT _ tw2_236) (fun _ h9 => h9) rfl d_Mod_say_29 ?_
    refine lv_iload_n hx hb d_Mod_say_32 rfl (lv_at hl 1 rfl) ?_
    refine lv_dup2_11 hx hb d_Mod_say_33 rfl rfl ?_
    refine va_iald (f := (D 7)) hx hb hK hP 8 0 (by rw [hDs2]; rfl) rfl hm d_Mod_say_34 ?_
    refine lv_iconst (v := 1) hx hb d_Mod_say_35 (by decide) ?_
    refine lv_iadd hx hb d_Mod_say_36 ?_
    refine va_iast hx hb hK hP hD hS 8 0 rfl rfl hm d_Mod_say_37 (fun H locs hP hD hS => ?_)
    have hP : va_P Dg classes (wD a k (u2 Ds2 7 mm.toNatClampNeg (((D 7) mm.toNatClampNeg) + 1))) H := hP
    have hD : va_D (va_A (wD a k D) s.heap.size) (wD a k (u2 Ds2 7 mm.toNatClampNeg (((D 7) mm.toNatClampNeg) + 1))) := hD
    obtain ⟨Ds3, hDs3⟩ : ∃ z9, z9 = (u2 Ds2 7 mm.toNatClampNeg (((D 7) mm.toNatClampNeg) + 1)) := ⟨_, rfl⟩
    rw [← hDs3] at hP hD
    exact km_v F hlocks hret hP hD hS d_Mod_say_38 (by subst hDs3 hDs2; unfold dSay; rw [if_neg h8])

set_option maxRecDepth 100000 in
set_option maxHeartbeats 4000000 in
theorem c_Mod_reckon (l : Launch) (Dg : va_G) (k : Nat → ClassId) (c x y : Int32) (H : Heap) (hc : c = 43 ∨ c = 45 ∨ c = 42 ∨ c = 47 ∨ c = 60 ∨ c = 61) (hz : c = 47 → ¬ y = 0) : kPu l y_Mod_reckon b_Mod_reckon 3 (some FieldType.int) 0 0 [.int c, .int x, .int y] H (va_K Dg classes (kTy k)) (sRes c x y) := by
  refine k_of (by decide) (Nat.le_of_ble_eq_true rfl) ?_
  intro p e s m below meth cd ls F hlocks hret hname hh hX hl
  subst hh
  obtain ⟨hx, hb, hml, hown, hT⟩ := id F
  have hK : va_K Dg classes (kTy k) s := hX
  have hS : va_S (fun _ => False) s.heap s.heap [] := va_S.rf
  have hl : lv_has ls 3 [(0, .int c), (1, .int x), (2, .int y)] := hl
  rcases hc with rfl | rfl | rfl | rfl | rfl | rfl
  · refine lv_iload_n hx hb d_Mod_reckon_0 rfl (lv_at hl 0 rfl) ?_
    refine lv_lookup (x := 43) (off := 51) (tgt := 52) hx hb d_Mod_reckon_1 (by decide) (by decide) (by decide) ?_
    refine lv_iload_n hx hb d_Mod_reckon_52 rfl (lv_at hl 1 rfl) ?_
    refine lv_iload_n hx hb d_Mod_reckon_53 rfl (lv_at hl 2 rfl) ?_
    refine lv_iadd hx hb d_Mod_reckon_54 ?_
    exact kp_i F hlocks hret hS d_Mod_reckon_55 (by unfold sRes; rw [if_pos rfl])
  · refine lv_iload_n hx hb d_Mod_reckon_0 rfl (lv_at hl 0 rfl) ?_
    refine lv_lookup (x := 45) (off := 55) (tgt := 56) hx hb d_Mod_reckon_1 (by decide) (by decide) (by decide) ?_
    refine lv_iload_n hx hb d_Mod_reckon_56 rfl (lv_at hl 1 rfl) ?_
    refine lv_iload_n hx hb d_Mod_reckon_57 rfl (lv_at hl 2 rfl) ?_
    refine lv_isub hx hb d_Mod_reckon_58 ?_
    exact kp_i F hlocks hret hS d_Mod_reckon_59 (by unfold sRes; rw [if_neg (by decide), if_pos rfl])
  · refine lv_iload_n hx hb d_Mod_reckon_0 rfl (lv_at hl 0 rfl) ?_
    refine lv_lookup (x := 42) (off := 59) (tgt := 60) hx hb d_Mod_reckon_1 (by decide) (by decide) (by decide) ?_
    refine lv_iload_n hx hb d_Mod_reckon_60 rfl (lv_at hl 1 rfl) ?_
    refine lv_iload_n hx hb d_Mod_reckon_61 rfl (lv_at hl 2 rfl) ?_
    refine lv_imul hx hb d_Mod_reckon_62 ?_
    exact kp_i F hlocks hret hS d_Mod_reckon_63 (by unfold sRes; rw [if_neg (by decide), if_neg (by decide), if_pos rfl])
  · refine lv_iload_n hx hb d_Mod_reckon_0 rfl (lv_at hl 0 rfl) ?_
    refine lv_lookup (x := 47) (off := 63) (tgt := 64) hx hb d_Mod_reckon_1 (by decide) (by decide) (by decide) ?_
    refine lv_iload_n hx hb d_Mod_reckon_64 rfl (lv_at hl 1 rfl) ?_
    refine lv_iload_n hx hb d_Mod_reckon_65 rfl (lv_at hl 2 rfl) ?_
    refine lv_idiv hx hb d_Mod_reckon_66 (hz rfl) ?_
    exact kp_i F hlocks hret hS d_Mod_reckon_67 (by unfold sRes; rw [if_neg (by decide), if_neg (by decide), if_neg (by decide), if_pos rfl])
  · refine lv_iload_n hx hb d_Mod_reckon_0 rfl (lv_at hl 0 rfl) ?_
    refine lv_lookup (x := 60) (off := 67) (tgt := 68) hx hb d_Mod_reckon_1 (by decide) (by decide) (by decide) ?_
    refine lv_iload_n hx hb d_Mod_reckon_68 rfl (lv_at hl 1 rfl) ?_
    refine lv_iload_n hx hb d_Mod_reckon_69 rfl (lv_at hl 2 rfl) ?_
    refine lv_icmp_ge (tgt := 77) hx hb d_Mod_reckon_70 (by decide) (fun h70 => ?_) (fun h70 => ?_)
    · refine lv_iconst (v := 0) hx hb d_Mod_reckon_77 (by decide) ?_
      exact kp_i F hlocks hret hS d_Mod_reckon_78 (by unfold sRes; rw [if_neg (by decide), if_neg (by decide), if_neg (by decide), if_neg (by decide), if_pos rfl, if_pos h70])
    · refine lv_iconst (v := 1) hx hb d_Mod_reckon_73 (by decide) ?_
      refine lv_goto (tgt := 78) hx hb d_Mod_reckon_74 (by decide) ?_
      exact kp_i F hlocks hret hS d_Mod_reckon_78 (by unfold sRes; rw [if_neg (by decide), if_neg (by decide), if_neg (by decide), if_neg (by decide), if_pos rfl, if_neg h70])
  · refine lv_iload_n hx hb d_Mod_reckon_0 rfl (lv_at hl 0 rfl) ?_
    refine lv_lookup (x := 61) (off := 78) (tgt := 79) hx hb d_Mod_reckon_1 (by decide) (by decide) (by decide) ?_
    refine lv_iload_n hx hb d_Mod_reckon_79 rfl (lv_at hl 1 rfl) ?_
    refine lv_iload_n hx hb d_Mod_reckon_80 rfl (lv_at hl 2 rfl) ?_
    refine lv_icmp_ne (tgt := 88) hx hb d_Mod_reckon_81 (by decide) (fun h81 => ?_) (fun h81 => ?_)
    · refine lv_iconst (v := 0) hx hb d_Mod_reckon_88 (by decide) ?_
      exact kp_i F hlocks hret hS d_Mod_reckon_89 (by unfold sRes; rw [if_neg (by decide), if_neg (by decide), if_neg (by decide), if_neg (by decide), if_neg (by decide), if_neg h81])
    · refine lv_iconst (v := 1) hx hb d_Mod_reckon_84 (by decide) ?_
      refine lv_goto (tgt := 89) hx hb d_Mod_reckon_85 (by decide) ?_
      exact kp_i F hlocks hret hS d_Mod_reckon_89 (by unfold sRes; rw [if_neg (by decide), if_neg (by decide), if_neg (by decide), if_neg (by decide), if_neg (by decide), if_pos h81])

set_option maxRecDepth 100000 in
set_option maxHeartbeats 4000000 in
theorem c_Mod_takes (l : Launch) (Dg : va_G) (a : Nat → Nat) (k : Nat → ClassId) (D : vSt) (c : Int32) (H : Heap) (hP : va_P Dg classes (wD a k D) H) (hc : okC c) : kPu l y_Mod_takes b_Mod_takes 2 (some FieldType.int) 1 20 [.ref (a 0), .int c] H (va_K Dg classes (kTy k)) (sNeed c) := by
  refine k_of (by decide) (Nat.le_of_ble_eq_true rfl) ?_
  intro p e s m below meth cd ls F hlocks hret hname hh hX hl
  subst hh
  obtain ⟨hx, hb, hml, hown, hT⟩ := id F
  have hK : va_K Dg classes (kTy k) s := hX
  have hS : va_S (fun _ => False) s.heap s.heap [] := va_S.rf
  have hl : lv_has ls 2 [(0, .ref (a 0)), (1, .int c)] := hl
  rcases hc with rfl | rfl | rfl | rfl | rfl | rfl | rfl | rfl | rfl | rfl | rfl | rfl | rfl | rfl | rfl | rfl | rfl | rfl
  · refine lv_iload_n hx hb d_Mod_takes_0 rfl (lv_at hl 1 rfl) ?_
    refine kp_S F (c_Mod_isPlain l Dg k 80 _ ) kx_K hK kw_Mod_57 tw3_54 hS d_Mod_takes_1 ⟨⟨by decide, by decide⟩, Nat.le_refl _, Nat.le_refl _⟩ rfl hl.1 rfl (Nat.le_of_ble_eq_true rfl) (fun locs hS => ?_)
    refine lv_if_ne (tgt := 13) hx hb d_Mod_takes_4 (by decide) (fun h9 => absurd (by decide) h9) (fun _ => ?_)
    refine lv_iload_n hx hb d_Mod_takes_7 rfl (lv_at hl 1 rfl) ?_
    refine lv_bipush (v := 88) hx hb d_Mod_takes_8 (by decide) ?_
    refine lv_icmp_ne (tgt := 17) hx hb d_Mod_takes_10 (by decide) (fun _ => ?_) (fun h9 => absurd h9 (by decide))
    refine lv_iload_n hx hb d_Mod_takes_17 rfl (lv_at hl 1 rfl) ?_
    refine lv_bipush (v := 83) hx hb d_Mod_takes_18 (by decide) ?_
    refine lv_icmp_eq (tgt := 47) hx hb d_Mod_takes_20 (by decide) (fun h9 => absurd h9 (by decide)) (fun _ => ?_)
    refine lv_iload_n hx hb d_Mod_takes_23 rfl (lv_at hl 1 rfl) ?_
    refine lv_bipush (v := 68) hx hb d_Mod_takes_24 (by decide) ?_
    refine lv_icmp_eq (tgt := 47) hx hb d_Mod_takes_26 (by decide) (fun h9 => absurd h9 (by decide)) (fun _ => ?_)
    refine lv_iload_n hx hb d_Mod_takes_29 rfl (lv_at hl 1 rfl) ?_
    refine lv_bipush (v := 79) hx hb d_Mod_takes_30 (by decide) ?_
    refine lv_icmp_eq (tgt := 47) hx hb d_Mod_takes_32 (by decide) (fun h9 => absurd h9 (by decide)) (fun _ => ?_)
    refine lv_iload_n hx hb d_Mod_takes_35 rfl (lv_at hl 1 rfl) ?_
    refine lv_bipush (v := 86) hx hb d_Mod_takes_36 (by decide) ?_
    refine lv_icmp_eq (tgt := 47) hx hb d_Mod_takes_38 (by decide) (fun h9 => absurd h9 (by decide)) (fun _ => ?_)
    refine lv_iload_n hx hb d_Mod_takes_41 rfl (lv_at hl 1 rfl) ?_
    refine lv_bipush (v := 90) hx hb d_Mod_takes_42 (by decide) ?_
    refine lv_icmp_ne (tgt := 51) hx hb d_Mod_takes_44 (by decide) (fun _ => ?_) (fun h9 => absurd h9 (by decide))
    refine lv_iconst (v := 0) hx hb d_Mod_takes_51 (by decide) ?_
    exact kp_i F hlocks hret hS d_Mod_takes_52 (by decide)
  · refine lv_iload_n hx hb d_Mod_takes_0 rfl (lv_at hl 1 rfl) ?_
    refine kp_S F (c_Mod_isPlain l Dg k 76 _ ) kx_K hK kw_Mod_57 tw3_54 hS d_Mod_takes_1 ⟨⟨by decide, by decide⟩, Nat.le_refl _, Nat.le_refl _⟩ rfl hl.1 rfl (Nat.le_of_ble_eq_true rfl) (fun locs hS => ?_)
    refine lv_if_ne (tgt := 13) hx hb d_Mod_takes_4 (by decide) (fun h9 => absurd (by decide) h9) (fun _ => ?_)
    refine lv_iload_n hx hb d_Mod_takes_7 rfl (lv_at hl 1 rfl) ?_
    refine lv_bipush (v := 88) hx hb d_Mod_takes_8 (by decide) ?_
    refine lv_icmp_ne (tgt := 17) hx hb d_Mod_takes_10 (by decide) (fun _ => ?_) (fun h9 => absurd h9 (by decide))
    refine lv_iload_n hx hb d_Mod_takes_17 rfl (lv_at hl 1 rfl) ?_
    refine lv_bipush (v := 83) hx hb d_Mod_takes_18 (by decide) ?_
    refine lv_icmp_eq (tgt := 47) hx hb d_Mod_takes_20 (by decide) (fun h9 => absurd h9 (by decide)) (fun _ => ?_)
    refine lv_iload_n hx hb d_Mod_takes_23 rfl (lv_at hl 1 rfl) ?_
    refine lv_bipush (v := 68) hx hb d_Mod_takes_24 (by decide) ?_
    refine lv_icmp_eq (tgt := 47) hx hb d_Mod_takes_26 (by decide) (fun h9 => absurd h9 (by decide)) (fun _ => ?_)
    refine lv_iload_n hx hb d_Mod_takes_29 rfl (lv_at hl 1 rfl) ?_
    refine lv_bipush (v := 79) hx hb d_Mod_takes_30 (by decide) ?_
    refine lv_icmp_eq (tgt := 47) hx hb d_Mod_takes_32 (by decide) (fun h9 => absurd h9 (by decide)) (fun _ => ?_)
    refine lv_iload_n hx hb d_Mod_takes_35 rfl (lv_at hl 1 rfl) ?_
    refine lv_bipush (v := 86) hx hb d_Mod_takes_36 (by decide) ?_
    refine lv_icmp_eq (tgt := 47) hx hb d_Mod_takes_38 (by decide) (fun h9 => absurd h9 (by decide)) (fun _ => ?_)
    refine lv_iload_n hx hb d_Mod_takes_41 rfl (lv_at hl 1 rfl) ?_
    refine lv_bipush (v := 90) hx hb d_Mod_takes_42 (by decide) ?_
    refine lv_icmp_ne (tgt := 51) hx hb d_Mod_takes_44 (by decide) (fun _ => ?_) (fun h9 => absurd h9 (by decide))
    refine lv_iconst (v := 0) hx hb d_Mod_takes_51 (by decide) ?_
    exact kp_i F hlocks hret hS d_Mod_takes_52 (by decide)
  · refine lv_iload_n hx hb d_Mod_takes_0 rfl (lv_at hl 1 rfl) ?_
    refine kp_S F (c_Mod_isPlain l Dg k 83 _ ) kx_K hK kw_Mod_57 tw3_54 hS d_Mod_takes_1 ⟨⟨by decide, by decide⟩, Nat.le_refl _, Nat.le_refl _⟩ rfl hl.1 rfl (Nat.le_of_ble_eq_true rfl) (fun locs hS => ?_)
    refine lv_if_ne (tgt := 13) hx hb d_Mod_takes_4 (by decide) (fun h9 => absurd (by decide) h9) (fun _ => ?_)
    refine lv_iload_n hx hb d_Mod_takes_7 rfl (lv_at hl 1 rfl) ?_
    refine lv_bipush (v := 88) hx hb d_Mod_takes_8 (by decide) ?_
    refine lv_icmp_ne (tgt := 17) hx hb d_Mod_takes_10 (by decide) (fun _ => ?_) (fun h9 => absurd h9 (by decide))
    refine lv_iload_n hx hb d_Mod_takes_17 rfl (lv_at hl 1 rfl) ?_
    refine lv_bipush (v := 83) hx hb d_Mod_takes_18 (by decide) ?_
    refine lv_icmp_eq (tgt := 47) hx hb d_Mod_takes_20 (by decide) (fun _ => ?_) (fun h9 => absurd (by decide) h9)
    refine lv_iconst (v := 1) hx hb d_Mod_takes_47 (by decide) ?_
    refine lv_goto (tgt := 52) hx hb d_Mod_takes_48 (by decide) ?_
    exact kp_i F hlocks hret hS d_Mod_takes_52 (by decide)
  · refine lv_iload_n hx hb d_Mod_takes_0 rfl (lv_at hl 1 rfl) ?_
    refine kp_S F (c_Mod_isPlain l Dg k 43 _ ) kx_K hK kw_Mod_57 tw3_54 hS d_Mod_takes_1 ⟨⟨by decide, by decide⟩, Nat.le_refl _, Nat.le_refl _⟩ rfl hl.1 rfl (Nat.le_of_ble_eq_true rfl) (fun locs hS => ?_)
    refine lv_if_ne (tgt := 13) hx hb d_Mod_takes_4 (by decide) (fun _ => ?_) (fun h9 => absurd h9 (by decide))
    refine lv_iconst (v := 2) hx hb d_Mod_takes_13 (by decide) ?_
    refine lv_goto (tgt := 52) hx hb d_Mod_takes_14 (by decide) ?_
    exact kp_i F hlocks hret hS d_Mod_takes_52 (by decide)
  · refine lv_iload_n hx hb d_Mod_takes_0 rfl (lv_at hl 1 rfl) ?_
    refine kp_S F (c_Mod_isPlain l Dg k 45 _ ) kx_K hK kw_Mod_57 tw3_54 hS d_Mod_takes_1 ⟨⟨by decide, by decide⟩, Nat.le_refl _, Nat.le_refl _⟩ rfl hl.1 rfl (Nat.le_of_ble_eq_true rfl) (fun locs hS => ?_)
    refine lv_if_ne (tgt := 13) hx hb d_Mod_takes_4 (by decide) (fun _ => ?_) (fun h9 => absurd h9 (by decide))
    refine lv_iconst (v := 2) hx hb d_Mod_takes_13 (by decide) ?_
    refine lv_goto (tgt := 52) hx hb d_Mod_takes_14 (by decide) ?_
    exact kp_i F hlocks hret hS d_Mod_takes_52 (by decide)
  · refine lv_iload_n hx hb d_Mod_takes_0 rfl (lv_at hl 1 rfl) ?_
    refine kp_S F (c_Mod_isPlain l Dg k 42 _ ) kx_K hK kw_Mod_57 tw3_54 hS d_Mod_takes_1 ⟨⟨by decide, by decide⟩, Nat.le_refl _, Nat.le_refl _⟩ rfl hl.1 rfl (Nat.le_of_ble_eq_true rfl) (fun locs hS => ?_)
    refine lv_if_ne (tgt := 13) hx hb d_Mod_takes_4 (by decide) (fun _ => ?_) (fun h9 => absurd h9 (by decide))
    refine lv_iconst (v := 2) hx hb d_Mod_takes_13 (by decide) ?_
    refine lv_goto (tgt := 52) hx hb d_Mod_takes_14 (by decide) ?_
    exact kp_i F hlocks hret hS d_Mod_takes_52 (by decide)
  · refine lv_iload_n hx hb d_Mod_takes_0 rfl (lv_at hl 1 rfl) ?_
    refine kp_S F (c_Mod_isPlain l Dg k 47 _ ) kx_K hK kw_Mod_57 tw3_54 hS d_Mod_takes_1 ⟨⟨by decide, by decide⟩, Nat.le_refl _, Nat.le_refl _⟩ rfl hl.1 rfl (Nat.le_of_ble_eq_true rfl) (fun locs hS => ?_)
    refine lv_if_ne (tgt := 13) hx hb d_Mod_takes_4 (by decide) (fun _ => ?_) (fun h9 => absurd h9 (by decide))
    refine lv_iconst (v := 2) hx hb d_Mod_takes_13 (by decide) ?_
    refine lv_goto (tgt := 52) hx hb d_Mod_takes_14 (by decide) ?_
    exact kp_i F hlocks hret hS d_Mod_takes_52 (by decide)
  · refine lv_iload_n hx hb d_Mod_takes_0 rfl (lv_at hl 1 rfl) ?_
    refine kp_S F (c_Mod_isPlain l Dg k 60 _ ) kx_K hK kw_Mod_57 tw3_54 hS d_Mod_takes_1 ⟨⟨by decide, by decide⟩, Nat.le_refl _, Nat.le_refl _⟩ rfl hl.1 rfl (Nat.le_of_ble_eq_true rfl) (fun locs hS => ?_)
    refine lv_if_ne (tgt := 13) hx hb d_Mod_takes_4 (by decide) (fun _ => ?_) (fun h9 => absurd h9 (by decide))
    refine lv_iconst (v := 2) hx hb d_Mod_takes_13 (by decide) ?_
    refine lv_goto (tgt := 52) hx hb d_Mod_takes_14 (by decide) ?_
    exact kp_i F hlocks hret hS d_Mod_takes_52 (by decide)
  · refine lv_iload_n hx hb d_Mod_takes_0 rfl (lv_at hl 1 rfl) ?_
    refine kp_S F (c_Mod_isPlain l Dg k 61 _ ) kx_K hK kw_Mod_57 tw3_54 hS d_Mod_takes_1 ⟨⟨by decide, by decide⟩, Nat.le_refl _, Nat.le_refl _⟩ rfl hl.1 rfl (Nat.le_of_ble_eq_true rfl) (fun locs hS => ?_)
    refine lv_if_ne (tgt := 13) hx hb d_Mod_takes_4 (by decide) (fun _ => ?_) (fun h9 => absurd h9 (by decide))
    refine lv_iconst (v := 2) hx hb d_Mod_takes_13 (by decide) ?_
    refine lv_goto (tgt := 52) hx hb d_Mod_takes_14 (by decide) ?_
    exact kp_i F hlocks hret hS d_Mod_takes_52 (by decide)
  · refine lv_iload_n hx hb d_Mod_takes_0 rfl (lv_at hl 1 rfl) ?_
    refine kp_S F (c_Mod_isPlain l Dg k 68 _ ) kx_K hK kw_Mod_57 tw3_54 hS d_Mod_takes_1 ⟨⟨by decide, by decide⟩, Nat.le_refl _, Nat.le_refl _⟩ rfl hl.1 rfl (Nat.le_of_ble_eq_true rfl) (fun locs hS => ?_)
    refine lv_if_ne (tgt := 13) hx hb d_Mod_takes_4 (by decide) (fun h9 => absurd (by decide) h9) (fun _ => ?_)
    refine lv_iload_n hx hb d_Mod_takes_7 rfl (lv_at hl 1 rfl) ?_
    refine lv_bipush (v := 88) hx hb d_Mod_takes_8 (by decide) ?_
    refine lv_icmp_ne (tgt := 17) hx hb d_Mod_takes_10 (by decide) (fun _ => ?_) (fun h9 => absurd h9 (by decide))
    refine lv_iload_n hx hb d_Mod_takes_17 rfl (lv_at hl 1 rfl) ?_
    refine lv_bipush (v := 83) hx hb d_Mod_takes_18 (by decide) ?_
    refine lv_icmp_eq (tgt := 47) hx hb d_Mod_takes_20 (by decide) (fun h9 => absurd h9 (by decide)) (fun _ => ?_)
    refine lv_iload_n hx hb d_Mod_takes_23 rfl (lv_at hl 1 rfl) ?_
    refine lv_bipush (v := 68) hx hb d_Mod_takes_24 (by decide) ?_
    refine lv_icmp_eq (tgt := 47) hx hb d_Mod_takes_26 (by decide) (fun _ => ?_) (fun h9 => absurd (by decide) h9)
    refine lv_iconst (v := 1) hx hb d_Mod_takes_47 (by decide) ?_
    refine lv_goto (tgt := 52) hx hb d_Mod_takes_48 (by decide) ?_
    exact kp_i F hlocks hret hS d_Mod_takes_52 (by decide)
  · refine lv_iload_n hx hb d_Mod_takes_0 rfl (lv_at hl 1 rfl) ?_
    refine kp_S F (c_Mod_isPlain l Dg k 88 _ ) kx_K hK kw_Mod_57 tw3_54 hS d_Mod_takes_1 ⟨⟨by decide, by decide⟩, Nat.le_refl _, Nat.le_refl _⟩ rfl hl.1 rfl (Nat.le_of_ble_eq_true rfl) (fun locs hS => ?_)
    refine lv_if_ne (tgt := 13) hx hb d_Mod_takes_4 (by decide) (fun h9 => absurd (by decide) h9) (fun _ => ?_)
    refine lv_iload_n hx hb d_Mod_takes_7 rfl (lv_at hl 1 rfl) ?_
    refine lv_bipush (v := 88) hx hb d_Mod_takes_8 (by decide) ?_
    refine lv_icmp_ne (tgt := 17) hx hb d_Mod_takes_10 (by decide) (fun h9 => absurd (by decide) h9) (fun _ => ?_)
    refine lv_iconst (v := 2) hx hb d_Mod_takes_13 (by decide) ?_
    refine lv_goto (tgt := 52) hx hb d_Mod_takes_14 (by decide) ?_
    exact kp_i F hlocks hret hS d_Mod_takes_52 (by decide)
  · refine lv_iload_n hx hb d_Mod_takes_0 rfl (lv_at hl 1 rfl) ?_
    refine kp_S F (c_Mod_isPlain l Dg k 79 _ ) kx_K hK kw_Mod_57 tw3_54 hS d_Mod_takes_1 ⟨⟨by decide, by decide⟩, Nat.le_refl _, Nat.le_refl _⟩ rfl hl.1 rfl (Nat.le_of_ble_eq_true rfl) (fun locs hS => ?_)
    refine lv_if_ne (tgt := 13) hx hb d_Mod_takes_4 (by decide) (fun h9 => absurd (by decide) h9) (fun _ => ?_)
    refine lv_iload_n hx hb d_Mod_takes_7 rfl (lv_at hl 1 rfl) ?_
    refine lv_bipush (v := 88) hx hb d_Mod_takes_8 (by decide) ?_
    refine lv_icmp_ne (tgt := 17) hx hb d_Mod_takes_10 (by decide) (fun _ => ?_) (fun h9 => absurd h9 (by decide))
    refine lv_iload_n hx hb d_Mod_takes_17 rfl (lv_at hl 1 rfl) ?_
    refine lv_bipush (v := 83) hx hb d_Mod_takes_18 (by decide) ?_
    refine lv_icmp_eq (tgt := 47) hx hb d_Mod_takes_20 (by decide) (fun h9 => absurd h9 (by decide)) (fun _ => ?_)
    refine lv_iload_n hx hb d_Mod_takes_23 rfl (lv_at hl 1 rfl) ?_
    refine lv_bipush (v := 68) hx hb d_Mod_takes_24 (by decide) ?_
    refine lv_icmp_eq (tgt := 47) hx hb d_Mod_takes_26 (by decide) (fun h9 => absurd h9 (by decide)) (fun _ => ?_)
    refine lv_iload_n hx hb d_Mod_takes_29 rfl (lv_at hl 1 rfl) ?_
    refine lv_bipush (v := 79) hx hb d_Mod_takes_30 (by decide) ?_
    refine lv_icmp_eq (tgt := 47) hx hb d_Mod_takes_32 (by decide) (fun _ => ?_) (fun h9 => absurd (by decide) h9)
    refine lv_iconst (v := 1) hx hb d_Mod_takes_47 (by decide) ?_
    refine lv_goto (tgt := 52) hx hb d_Mod_takes_48 (by decide) ?_
    exact kp_i F hlocks hret hS d_Mod_takes_52 (by decide)
  · refine lv_iload_n hx hb d_Mod_takes_0 rfl (lv_at hl 1 rfl) ?_
    refine kp_S F (c_Mod_isPlain l Dg k 86 _ ) kx_K hK kw_Mod_57 tw3_54 hS d_Mod_takes_1 ⟨⟨by decide, by decide⟩, Nat.le_refl _, Nat.le_refl _⟩ rfl hl.1 rfl (Nat.le_of_ble_eq_true rfl) (fun locs hS => ?_)
    refine lv_if_ne (tgt := 13) hx hb d_Mod_takes_4 (by decide) (fun h9 => absurd (by decide) h9) (fun _ => ?_)
    refine lv_iload_n hx hb d_Mod_takes_7 rfl (lv_at hl 1 rfl) ?_
    refine lv_bipush (v := 88) hx hb d_Mod_takes_8 (by decide) ?_
    refine lv_icmp_ne (tgt := 17) hx hb d_Mod_takes_10 (by decide) (fun _ => ?_) (fun h9 => absurd h9 (by decide))
    refine lv_iload_n hx hb d_Mod_takes_17 rfl (lv_at hl 1 rfl) ?_
    refine lv_bipush (v := 83) hx hb d_Mod_takes_18 (by decide) ?_
    refine lv_icmp_eq (tgt := 47) hx hb d_Mod_takes_20 (by decide) (fun h9 => absurd h9 (by decide)) (fun _ => ?_)
    refine lv_iload_n hx hb d_Mod_takes_23 rfl (lv_at hl 1 rfl) ?_
    refine lv_bipush (v := 68) hx hb d_Mod_takes_24 (by decide) ?_
    refine lv_icmp_eq (tgt := 47) hx hb d_Mod_takes_26 (by decide) (fun h9 => absurd h9 (by decide)) (fun _ => ?_)
    refine lv_iload_n hx hb d_Mod_takes_29 rfl (lv_at hl 1 rfl) ?_
    refine lv_bipush (v := 79) hx hb d_Mod_takes_30 (by decide) ?_
    refine lv_icmp_eq (tgt := 47) hx hb d_Mod_takes_32 (by decide) (fun h9 => absurd h9 (by decide)) (fun _ => ?_)
    refine lv_iload_n hx hb d_Mod_takes_35 rfl (lv_at hl 1 rfl) ?_
    refine lv_bipush (v := 86) hx hb d_Mod_takes_36 (by decide) ?_
    refine lv_icmp_eq (tgt := 47) hx hb d_Mod_takes_38 (by decide) (fun _ => ?_) (fun h9 => absurd (by decide) h9)
    refine lv_iconst (v := 1) hx hb d_Mod_takes_47 (by decide) ?_
    refine lv_goto (tgt := 52) hx hb d_Mod_takes_48 (by decide) ?_
    exact kp_i F hlocks hret hS d_Mod_takes_52 (by decide)
  · refine lv_iload_n hx hb d_Mod_takes_0 rfl (lv_at hl 1 rfl) ?_
    refine kp_S F (c_Mod_isPlain l Dg k 74 _ ) kx_K hK kw_Mod_57 tw3_54 hS d_Mod_takes_1 ⟨⟨by decide, by decide⟩, Nat.le_refl _, Nat.le_refl _⟩ rfl hl.1 rfl (Nat.le_of_ble_eq_true rfl) (fun locs hS => ?_)
    refine lv_if_ne (tgt := 13) hx hb d_Mod_takes_4 (by decide) (fun h9 => absurd (by decide) h9) (fun _ => ?_)
    refine lv_iload_n hx hb d_Mod_takes_7 rfl (lv_at hl 1 rfl) ?_
    refine lv_bipush (v := 88) hx hb d_Mod_takes_8 (by decide) ?_
    refine lv_icmp_ne (tgt := 17) hx hb d_Mod_takes_10 (by decide) (fun _ => ?_) (fun h9 => absurd h9 (by decide))
    refine lv_iload_n hx hb d_Mod_takes_17 rfl (lv_at hl 1 rfl) ?_
    refine lv_bipush (v := 83) hx hb d_Mod_takes_18 (by decide) ?_
    refine lv_icmp_eq (tgt := 47) hx hb d_Mod_takes_20 (by decide) (fun h9 => absurd h9 (by decide)) (fun _ => ?_)
    refine lv_iload_n hx hb d_Mod_takes_23 rfl (lv_at hl 1 rfl) ?_
    refine lv_bipush (v := 68) hx hb d_Mod_takes_24 (by decide) ?_
    refine lv_icmp_eq (tgt := 47) hx hb d_Mod_takes_26 (by decide) (fun h9 => absurd h9 (by decide)) (fun _ => ?_)
    refine lv_iload_n hx hb d_Mod_takes_29 rfl (lv_at hl 1 rfl) ?_
    refine lv_bipush (v := 79) hx hb d_Mod_takes_30 (by decide) ?_
    refine lv_icmp_eq (tgt := 47) hx hb d_Mod_takes_32 (by decide) (fun h9 => absurd h9 (by decide)) (fun _ => ?_)
    refine lv_iload_n hx hb d_Mod_takes_35 rfl (lv_at hl 1 rfl) ?_
    refine lv_bipush (v := 86) hx hb d_Mod_takes_36 (by decide) ?_
    refine lv_icmp_eq (tgt := 47) hx hb d_Mod_takes_38 (by decide) (fun h9 => absurd h9 (by decide)) (fun _ => ?_)
    refine lv_iload_n hx hb d_Mod_takes_41 rfl (lv_at hl 1 rfl) ?_
    refine lv_bipush (v := 90) hx hb d_Mod_takes_42 (by decide) ?_
    refine lv_icmp_ne (tgt := 51) hx hb d_Mod_takes_44 (by decide) (fun _ => ?_) (fun h9 => absurd h9 (by decide))
    refine lv_iconst (v := 0) hx hb d_Mod_takes_51 (by decide) ?_
    exact kp_i F hlocks hret hS d_Mod_takes_52 (by decide)
  · refine lv_iload_n hx hb d_Mod_takes_0 rfl (lv_at hl 1 rfl) ?_
    refine kp_S F (c_Mod_isPlain l Dg k 90 _ ) kx_K hK kw_Mod_57 tw3_54 hS d_Mod_takes_1 ⟨⟨by decide, by decide⟩, Nat.le_refl _, Nat.le_refl _⟩ rfl hl.1 rfl (Nat.le_of_ble_eq_true rfl) (fun locs hS => ?_)
    refine lv_if_ne (tgt := 13) hx hb d_Mod_takes_4 (by decide) (fun h9 => absurd (by decide) h9) (fun _ => ?_)
    refine lv_iload_n hx hb d_Mod_takes_7 rfl (lv_at hl 1 rfl) ?_
    refine lv_bipush (v := 88) hx hb d_Mod_takes_8 (by decide) ?_
    refine lv_icmp_ne (tgt := 17) hx hb d_Mod_takes_10 (by decide) (fun _ => ?_) (fun h9 => absurd h9 (by decide))
    refine lv_iload_n hx hb d_Mod_takes_17 rfl (lv_at hl 1 rfl) ?_
    refine lv_bipush (v := 83) hx hb d_Mod_takes_18 (by decide) ?_
    refine lv_icmp_eq (tgt := 47) hx hb d_Mod_takes_20 (by decide) (fun h9 => absurd h9 (by decide)) (fun _ => ?_)
    refine lv_iload_n hx hb d_Mod_takes_23 rfl (lv_at hl 1 rfl) ?_
    refine lv_bipush (v := 68) hx hb d_Mod_takes_24 (by decide) ?_
    refine lv_icmp_eq (tgt := 47) hx hb d_Mod_takes_26 (by decide) (fun h9 => absurd h9 (by decide)) (fun _ => ?_)
    refine lv_iload_n hx hb d_Mod_takes_29 rfl (lv_at hl 1 rfl) ?_
    refine lv_bipush (v := 79) hx hb d_Mod_takes_30 (by decide) ?_
    refine lv_icmp_eq (tgt := 47) hx hb d_Mod_takes_32 (by decide) (fun h9 => absurd h9 (by decide)) (fun _ => ?_)
    refine lv_iload_n hx hb d_Mod_takes_35 rfl (lv_at hl 1 rfl) ?_
    refine lv_bipush (v := 86) hx hb d_Mod_takes_36 (by decide) ?_
    refine lv_icmp_eq (tgt := 47) hx hb d_Mod_takes_38 (by decide) (fun h9 => absurd h9 (by decide)) (fun _ => ?_)
    refine lv_iload_n hx hb d_Mod_takes_41 rfl (lv_at hl 1 rfl) ?_
    refine lv_bipush (v := 90) hx hb d_Mod_takes_42 (by decide) ?_
    refine lv_icmp_ne (tgt := 51) hx hb d_Mod_takes_44 (by decide) (fun h9 => absurd (by decide) h9) (fun _ => ?_)
    refine lv_iconst (v := 1) hx hb d_Mod_takes_47 (by decide) ?_
    refine lv_goto (tgt := 52) hx hb d_Mod_takes_48 (by decide) ?_
    exact kp_i F hlocks hret hS d_Mod_takes_52 (by decide)
  · refine lv_iload_n hx hb d_Mod_takes_0 rfl (lv_at hl 1 rfl) ?_
    refine kp_S F (c_Mod_isPlain l Dg k 67 _ ) kx_K hK kw_Mod_57 tw3_54 hS d_Mod_takes_1 ⟨⟨by decide, by decide⟩, Nat.le_refl _, Nat.le_refl _⟩ rfl hl.1 rfl (Nat.le_of_ble_eq_true rfl) (fun locs hS => ?_)
    refine lv_if_ne (tgt := 13) hx hb d_Mod_takes_4 (by decide) (fun h9 => absurd (by decide) h9) (fun _ => ?_)
    refine lv_iload_n hx hb d_Mod_takes_7 rfl (lv_at hl 1 rfl) ?_
    refine lv_bipush (v := 88) hx hb d_Mod_takes_8 (by decide) ?_
    refine lv_icmp_ne (tgt := 17) hx hb d_Mod_takes_10 (by decide) (fun _ => ?_) (fun h9 => absurd h9 (by decide))
    refine lv_iload_n hx hb d_Mod_takes_17 rfl (lv_at hl 1 rfl) ?_
    refine lv_bipush (v := 83) hx hb d_Mod_takes_18 (by decide) ?_
    refine lv_icmp_eq (tgt := 47) hx hb d_Mod_takes_20 (by decide) (fun h9 => absurd h9 (by decide)) (fun _ => ?_)
    refine lv_iload_n hx hb d_Mod_takes_23 rfl (lv_at hl 1 rfl) ?_
    refine lv_bipush (v := 68) hx hb d_Mod_takes_24 (by decide) ?_
    refine lv_icmp_eq (tgt := 47) hx hb d_Mod_takes_26 (by decide) (fun h9 => absurd h9 (by decide)) (fun _ => ?_)
    refine lv_iload_n hx hb d_Mod_takes_29 rfl (lv_at hl 1 rfl) ?_
    refine lv_bipush (v := 79) hx hb d_Mod_takes_30 (by decide) ?_
    refine lv_icmp_eq (tgt := 47) hx hb d_Mod_takes_32 (by decide) (fun h9 => absurd h9 (by decide)) (fun _ => ?_)
    refine lv_iload_n hx hb d_Mod_takes_35 rfl (lv_at hl 1 rfl) ?_
    refine lv_bipush (v := 86) hx hb d_Mod_takes_36 (by decide) ?_
    refine lv_icmp_eq (tgt := 47) hx hb d_Mod_takes_38 (by decide) (fun h9 => absurd h9 (by decide)) (fun _ => ?_)
    refine lv_iload_n hx hb d_Mod_takes_41 rfl (lv_at hl 1 rfl) ?_
    refine lv_bipush (v := 90) hx hb d_Mod_takes_42 (by decide) ?_
    refine lv_icmp_ne (tgt := 51) hx hb d_Mod_takes_44 (by decide) (fun _ => ?_) (fun h9 => absurd h9 (by decide))
    refine lv_iconst (v := 0) hx hb d_Mod_takes_51 (by decide) ?_
    exact kp_i F hlocks hret hS d_Mod_takes_52 (by decide)
  · refine lv_iload_n hx hb d_Mod_takes_0 rfl (lv_at hl 1 rfl) ?_
    refine kp_S F (c_Mod_isPlain l Dg k 82 _ ) kx_K hK kw_Mod_57 tw3_54 hS d_Mod_takes_1 ⟨⟨by decide, by decide⟩, Nat.le_refl _, Nat.le_refl _⟩ rfl hl.1 rfl (Nat.le_of_ble_eq_true rfl) (fun locs hS => ?_)
    refine lv_if_ne (tgt := 13) hx hb d_Mod_takes_4 (by decide) (fun h9 => absurd (by decide) h9) (fun _ => ?_)
    refine lv_iload_n hx hb d_Mod_takes_7 rfl (lv_at hl 1 rfl) ?_
    refine lv_bipush (v := 88) hx hb d_Mod_takes_8 (by decide) ?_
    refine lv_icmp_ne (tgt := 17) hx hb d_Mod_takes_10 (by decide) (fun _ => ?_) (fun h9 => absurd h9 (by decide))
    refine lv_iload_n hx hb d_Mod_takes_17 rfl (lv_at hl 1 rfl) ?_
    refine lv_bipush (v := 83) hx hb d_Mod_takes_18 (by decide) ?_
    refine lv_icmp_eq (tgt := 47) hx hb d_Mod_takes_20 (by decide) (fun h9 => absurd h9 (by decide)) (fun _ => ?_)
    refine lv_iload_n hx hb d_Mod_takes_23 rfl (lv_at hl 1 rfl) ?_
    refine lv_bipush (v := 68) hx hb d_Mod_takes_24 (by decide) ?_
    refine lv_icmp_eq (tgt := 47) hx hb d_Mod_takes_26 (by decide) (fun h9 => absurd h9 (by decide)) (fun _ => ?_)
    refine lv_iload_n hx hb d_Mod_takes_29 rfl (lv_at hl 1 rfl) ?_
    refine lv_bipush (v := 79) hx hb d_Mod_takes_30 (by decide) ?_
    refine lv_icmp_eq (tgt := 47) hx hb d_Mod_takes_32 (by decide) (fun h9 => absurd h9 (by decide)) (fun _ => ?_)
    refine lv_iload_n hx hb d_Mod_takes_35 rfl (lv_at hl 1 rfl) ?_
    refine lv_bipush (v := 86) hx hb d_Mod_takes_36 (by decide) ?_
    refine lv_icmp_eq (tgt := 47) hx hb d_Mod_takes_38 (by decide) (fun h9 => absurd h9 (by decide)) (fun _ => ?_)
    refine lv_iload_n hx hb d_Mod_takes_41 rfl (lv_at hl 1 rfl) ?_
    refine lv_bipush (v := 90) hx hb d_Mod_takes_42 (by decide) ?_
    refine lv_icmp_ne (tgt := 51) hx hb d_Mod_takes_44 (by decide) (fun _ => ?_) (fun h9 => absurd h9 (by decide))
    refine lv_iconst (v := 0) hx hb d_Mod_takes_51 (by decide) ?_
    exact kp_i F hlocks hret hS d_Mod_takes_52 (by decide)
  · refine lv_iload_n hx hb d_Mod_takes_0 rfl (lv_at hl 1 rfl) ?_
    refine kp_S F (c_Mod_isPlain l Dg k 72 _ ) kx_K hK kw_Mod_57 tw3_54 hS d_Mod_takes_1 ⟨⟨by decide, by decide⟩, Nat.le_refl _, Nat.le_refl _⟩ rfl hl.1 rfl (Nat.le_of_ble_eq_true rfl) (fun locs hS => ?_)
    refine lv_if_ne (tgt := 13) hx hb d_Mod_takes_4 (by decide) (fun h9 => absurd (by decide) h9) (fun _ => ?_)
    refine lv_iload_n hx hb d_Mod_takes_7 rfl (lv_at hl 1 rfl) ?_
    refine lv_bipush (v := 88) hx hb d_Mod_takes_8 (by decide) ?_
    refine lv_icmp_ne (tgt := 17) hx hb d_Mod_takes_10 (by decide) (fun _ => ?_) (fun h9 => absurd h9 (by decide))
    refine lv_iload_n hx hb d_Mod_takes_17 rfl (lv_at hl 1 rfl) ?_
    refine lv_bipush (v := 83) hx hb d_Mod_takes_18 (by decide) ?_
    refine lv_icmp_eq (tgt := 47) hx hb d_Mod_takes_20 (by decide) (fun h9 => absurd h9 (by decide)) (fun _ => ?_)
    refine lv_iload_n hx hb d_Mod_takes_23 rfl (lv_at hl 1 rfl) ?_
    refine lv_bipush (v := 68) hx hb d_Mod_takes_24 (by decide) ?_
    refine lv_icmp_eq (tgt := 47) hx hb d_Mod_takes_26 (by decide) (fun h9 => absurd h9 (by decide)) (fun _ => ?_)
    refine lv_iload_n hx hb d_Mod_takes_29 rfl (lv_at hl 1 rfl) ?_
    refine lv_bipush (v := 79) hx hb d_Mod_takes_30 (by decide) ?_
    refine lv_icmp_eq (tgt := 47) hx hb d_Mod_takes_32 (by decide) (fun h9 => absurd h9 (by decide)) (fun _ => ?_)
    refine lv_iload_n hx hb d_Mod_takes_35 rfl (lv_at hl 1 rfl) ?_
    refine lv_bipush (v := 86) hx hb d_Mod_takes_36 (by decide) ?_
    refine lv_icmp_eq (tgt := 47) hx hb d_Mod_takes_38 (by decide) (fun h9 => absurd h9 (by decide)) (fun _ => ?_)
    refine lv_iload_n hx hb d_Mod_takes_41 rfl (lv_at hl 1 rfl) ?_
    refine lv_bipush (v := 90) hx hb d_Mod_takes_42 (by decide) ?_
    refine lv_icmp_ne (tgt := 51) hx hb d_Mod_takes_44 (by decide) (fun _ => ?_) (fun h9 => absurd h9 (by decide))
    refine lv_iconst (v := 0) hx hb d_Mod_takes_51 (by decide) ?_
    exact kp_i F hlocks hret hS d_Mod_takes_52 (by decide)

theorem dtr_div {D : vSt} {m c : Int32} (hm : dOk D m) (hc : c = 47) (hn : ¬ D 5 (tn m) < sNeed c) : vp_in (40 * m + D 5 (tn m) - 1) 80 := by
  obtain ⟨i, h, r, o, hi, em, e0, e1, e2, b0, b1, b2⟩ := hm
  rw [hc, e0] at hn
  have hd := tr_n (d := 2) (by decide) hn
  have e9 : 40 * m + D 5 (tn m) - 1 = nI (40 * i + h - 1) := by
    rw [e0, em, show (40 : Int32) = nI 40 from rfl, pk_mul, nI_add, show (1 : Int32) = nI 1 from rfl, pk_sub (by omega)]
  rw [e9]; exact vp_in_nI (by omega) (by decide)

set_option maxRecDepth 100000 in
set_option maxHeartbeats 4000000 in
theorem c_Mod_trap (l : Launch) (Dg : va_G) (a : Nat → Nat) (k : Nat → ClassId) (D : vSt) (mm c : Int32) (H : Heap) (hP : va_P Dg classes (wD a k D) H) (hc : okC c) (hm : dOk D mm) : kPu l y_Mod_trap b_Mod_trap 4 (some FieldType.int) 2 41 [.ref (a 0), .int mm, .int c] H (va_K Dg classes (kTy k)) (dTrap D mm c) := by
  refine k_of (by decide) (Nat.le_of_ble_eq_true rfl) ?_
  intro p e s m below meth cd ls F hlocks hret hname hh hX hl
  subst hh
  obtain ⟨hx, hb, hml, hown, hT⟩ := id F
  have hK : va_K Dg classes (kTy k) s := hX
  have hS : va_S (fun _ => False) s.heap s.heap [] := va_S.rf
  have hl : lv_has ls 4 [(0, .ref (a 0)), (1, .int mm), (2, .int c)] := hl
  refine lv_aload_n hx hb d_Mod_trap_0 rfl (lv_at hl 0 rfl) ?_
  refine va_get (D := Dg) (ci := 3) (v := .ref (a 6)) (C := R_Mod) (T := F_Mod) (N := 17) hx hb hT in_Mod hown hK hP 0 rfl rfl 8 (by decide) (hT _ tw2_234) (fun _ h9 => h9) rfl d_Mod_trap_1 ?_
  refine lv_iload_n hx hb d_Mod_trap_4 rfl (lv_at hl 1 rfl) ?_
  refine va_iald (f := (D 5)) hx hb hK hP 6 0 rfl rfl (dm_in hm) d_Mod_trap_5 ?_
  refine lv_aload_n hx hb d_Mod_trap_6 rfl (lv_at hl 0 rfl) ?_
  refine lv_iload_n hx hb d_Mod_trap_7 rfl (lv_at hl 2 rfl) ?_
  refine kp_V F (c_Mod_takes l Dg a k D c _ hP hc) kx_K hK kw_Mod_106 tw3_120 ts_24 (va_recv (ci := 3) (q0 := 0) hK hP rfl rfl) hS d_Mod_trap_8 ⟨⟨by decide, by decide⟩, Nat.le_refl _, Nat.le_refl _⟩ rfl hl.1 rfl (Nat.le_of_ble_eq_true rfl) (fun locs hS => ?_)
  refine lv_icmp_lt (tgt := 29) hx hb d_Mod_trap_11 (by decide) (fun h11 => ?_) (fun h11 => ?_)
  · refine lv_iconst (v := 1) hx hb d_Mod_trap_29 (by decide) ?_
    exact kp_i F hlocks hret hS d_Mod_trap_30 (by unfold dTrap; rw [if_pos h11])
  · refine lv_iload_n hx hb d_Mod_trap_14 rfl (lv_at hl 2 rfl) ?_
    refine lv_bipush (v := 82) hx hb d_Mod_trap_15 (by decide) ?_
    refine lv_icmp_ne (tgt := 31) hx hb d_Mod_trap_17 (by decide) (fun h17 => ?_) (fun h17 => ?_)
    · refine lv_iload_n hx hb d_Mod_trap_31 rfl (lv_at hl 2 rfl) ?_
      refine lv_bipush (v := 80) hx hb d_Mod_trap_32 (by decide) ?_
      refine lv_icmp_eq (tgt := 49) hx hb d_Mod_trap_34 (by decide) (fun h34 => ?_) (fun h34 => ?_)
      · refine lv_iconst (v := 1) hx hb d_Mod_trap_49 (by decide) ?_
        refine lv_goto (tgt := 54) hx hb d_Mod_trap_50 (by decide) ?_
        refine lv_istore_n hx hb d_Mod_trap_54 rfl hl (by decide) rfl (fun ls hl => ?_)
        have hl : lv_has ls 4 [(3, .int 1), (0, .ref (a 0)), (1, .int mm), (2, .int c)] := hl
        refine lv_iload_n hx hb d_Mod_trap_55 rfl (lv_at hl 0 rfl) ?_
        refine lv_if_eq (tgt := 70) hx hb d_Mod_trap_56 (by decide) (fun h9 => absurd h9 (by decide)) (fun _ => ?_)
        refine lv_aload_n hx hb d_Mod_trap_59 rfl (lv_at hl 1 rfl) ?_
        refine va_get (D := Dg) (ci := 3) (v := .ref (a 6)) (C := R_Mod) (T := F_Mod) (N := 17) hx hb hT in_Mod hown hK hP 0 rfl rfl 8 (by decide) (hT _ tw2_234) (fun _ h9 => h9) rfl d_Mod_trap_60 ?_
        refine lv_iload_n hx hb d_Mod_trap_63 rfl (lv_at hl 2 rfl) ?_
        refine va_iald (f := (D 5)) hx hb hK hP 6 0 rfl rfl (dm_in hm) d_Mod_trap_64 ?_
        refine lv_bipush (v := 40) hx hb d_Mod_trap_65 (by decide) ?_
        refine lv_icmp_eq (tgt := 87) hx hb d_Mod_trap_67 (by decide) (fun h67 => ?_) (fun h67 => ?_)
        · refine lv_iconst (v := 2) hx hb d_Mod_trap_87 (by decide) ?_
          exact kp_i F hlocks hret hS d_Mod_trap_88 (by unfold dTrap; rw [if_neg h11, if_neg (fun z => h17 z.1), if_pos ⟨(by rw [h34]; decide), h67⟩])
        · refine lv_iload_n hx hb d_Mod_trap_70 rfl (lv_at hl 3 rfl) ?_
          refine lv_bipush (v := 67) hx hb d_Mod_trap_71 (by decide) ?_
          refine lv_icmp_ne (tgt := 89) hx hb d_Mod_trap_73 (by decide) (fun h73 => ?_) (fun h73 => ?_)
          · refine lv_iload_n hx hb d_Mod_trap_89 rfl (lv_at hl 3 rfl) ?_
            refine lv_bipush (v := 47) hx hb d_Mod_trap_90 (by decide) ?_
            refine lv_icmp_ne (tgt := 120) hx hb d_Mod_trap_92 (by decide) (fun h92 => ?_) (fun h92 => ?_)
            · refine lv_iconst (v := 0) hx hb d_Mod_trap_120 (by decide) ?_
              exact kp_i F hlocks hret hS d_Mod_trap_121 (by unfold dTrap; rw [if_neg h11, if_neg (fun z => h17 z.1), if_neg (fun z => h67 z.2), if_neg (fun z => h73 z.1), if_neg (fun z => h92 z.1)])
            · refine lv_aload_n hx hb d_Mod_trap_95 rfl (lv_at hl 1 rfl) ?_
              refine va_get (D := Dg) (ci := 3) (v := .ref (a 11)) (C := R_Mod) (T := F_Mod) (N := 17) hx hb hT in_Mod hown hK hP 0 rfl rfl 13 (by decide) (hT _ tw2_239) (fun _ h9 => h9) rfl d_Mod_trap_96 ?_
              refine lv_bipush (v := 40) hx hb d_Mod_trap_99 (by decide) ?_
              refine lv_iload_n hx hb d_Mod_trap_101 rfl (lv_at hl 2 rfl) ?_
              refine lv_imul hx hb d_Mod_trap_102 ?_
              refine lv_aload_n hx hb d_Mod_trap_103 rfl (lv_at hl 1 rfl) ?_
              refine va_get (D := Dg) (ci := 3) (v := .ref (a 6)) (C := R_Mod) (T := F_Mod) (N := 17) hx hb hT in_Mod hown hK hP 0 rfl rfl 8 (by decide) (hT _ tw2_234) (fun _ h9 => h9) rfl d_Mod_trap_104 ?_
              refine lv_iload_n hx hb d_Mod_trap_107 rfl (lv_at hl 2 rfl) ?_
              refine va_iald (f := (D 5)) hx hb hK hP 6 0 rfl rfl (dm_in hm) d_Mod_trap_108 ?_
              refine lv_iadd hx hb d_Mod_trap_109 ?_
              refine lv_iconst (v := 1) hx hb d_Mod_trap_110 (by decide) ?_
              refine lv_isub hx hb d_Mod_trap_111 ?_
              refine va_iald (f := (D 10)) hx hb hK hP 11 0 rfl rfl (dtr_div hm h92 h11) d_Mod_trap_112 ?_
              refine lv_if_ne (tgt := 120) hx hb d_Mod_trap_113 (by decide) (fun h113 => ?_) (fun h113 => ?_)
              · refine lv_iconst (v := 0) hx hb d_Mod_trap_120 (by decide) ?_
                exact kp_i F hlocks hret hS d_Mod_trap_121 (by unfold dTrap; rw [if_neg h11, if_neg (fun z => h17 z.1), if_neg (fun z => h67 z.2), if_neg (fun z => h73 z.1), if_neg (fun z => h113 z.2)])
              · refine lv_iconst (v := 3) hx hb d_Mod_trap_116 (by decide) ?_
                refine lv_goto (tgt := 121) hx hb d_Mod_trap_117 (by decide) ?_
                exact kp_i F hlocks hret hS d_Mod_trap_121 (by unfold dTrap; rw [if_neg h11, if_neg (fun z => h17 z.1), if_neg (fun z => h67 z.2), if_neg (fun z => h73 z.1), if_pos ⟨h92, h113⟩])
          · refine lv_aload_n hx hb d_Mod_trap_76 rfl (lv_at hl 1 rfl) ?_
            refine va_get (D := Dg) (ci := 3) (v := .ref (a 7)) (C := R_Mod) (T := F_Mod) (N := 17) hx hb hT in_Mod hown hK hP 0 rfl rfl 9 (by decide) (hT _ tw2_235) (fun _ h9 => h9) rfl d_Mod_trap_77 ?_
            refine lv_iload_n hx hb d_Mod_trap_80 rfl (lv_at hl 2 rfl) ?_
            refine va_iald (f := (D 6)) hx hb hK hP 7 0 rfl rfl (dm_in hm) d_Mod_trap_81 ?_
            refine lv_bipush (v := 10) hx hb d_Mod_trap_82 (by decide) ?_
            refine lv_icmp_ne (tgt := 89) hx hb d_Mod_trap_84 (by decide) (fun h84 => ?_) (fun h84 => ?_)
            · refine lv_iload_n hx hb d_Mod_trap_89 rfl (lv_at hl 3 rfl) ?_
              refine lv_bipush (v := 47) hx hb d_Mod_trap_90 (by decide) ?_
              refine lv_icmp_ne (tgt := 120) hx hb d_Mod_trap_92 (by decide) (fun h92 => ?_) (fun h92 => ?_)
              · refine lv_iconst (v := 0) hx hb d_Mod_trap_120 (by decide) ?_
                exact kp_i F hlocks hret hS d_Mod_trap_121 (by unfold dTrap; rw [if_neg h11, if_neg (fun z => h17 z.1), if_neg (fun z => h67 z.2), if_neg (fun z => h84 z.2), if_neg (fun z => h92 z.1)])
              · refine lv_aload_n hx hb d_Mod_trap_95 rfl (lv_at hl 1 rfl) ?_
                refine va_get (D := Dg) (ci := 3) (v := .ref (a 11)) (C := R_Mod) (T := F_Mod) (N := 17) hx hb hT in_Mod hown hK hP 0 rfl rfl 13 (by decide) (hT _ tw2_239) (fun _ h9 => h9) rfl d_Mod_trap_96 ?_
                refine lv_bipush (v := 40) hx hb d_Mod_trap_99 (by decide) ?_
                refine lv_iload_n hx hb d_Mod_trap_101 rfl (lv_at hl 2 rfl) ?_
                refine lv_imul hx hb d_Mod_trap_102 ?_
                refine lv_aload_n hx hb d_Mod_trap_103 rfl (lv_at hl 1 rfl) ?_
                refine va_get (D := Dg) (ci := 3) (v := .ref (a 6)) (C := R_Mod) (T := F_Mod) (N := 17) hx hb hT in_Mod hown hK hP 0 rfl rfl 8 (by decide) (hT _ tw2_234) (fun _ h9 => h9) rfl d_Mod_trap_104 ?_
                refine lv_iload_n hx hb d_Mod_trap_107 rfl (lv_at hl 2 rfl) ?_
                refine va_iald (f := (D 5)) hx hb hK hP 6 0 rfl rfl (dm_in hm) d_Mod_trap_108 ?_
                refine lv_iadd hx hb d_Mod_trap_109 ?_
                refine lv_iconst (v := 1) hx hb d_Mod_trap_110 (by decide) ?_
                refine lv_isub hx hb d_Mod_trap_111 ?_
                refine va_iald (f := (D 10)) hx hb hK hP 11 0 rfl rfl (dtr_div hm h92 h11) d_Mod_trap_112 ?_
                refine lv_if_ne (tgt := 120) hx hb d_Mod_trap_113 (by decide) (fun h113 => ?_) (fun h113 => ?_)
                · refine lv_iconst (v := 0) hx hb d_Mod_trap_120 (by decide) ?_
                  exact kp_i F hlocks hret hS d_Mod_trap_121 (by unfold dTrap; rw [if_neg h11, if_neg (fun z => h17 z.1), if_neg (fun z => h67 z.2), if_neg (fun z => h84 z.2), if_neg (fun z => h113 z.2)])
                · refine lv_iconst (v := 3) hx hb d_Mod_trap_116 (by decide) ?_
                  refine lv_goto (tgt := 121) hx hb d_Mod_trap_117 (by decide) ?_
                  exact kp_i F hlocks hret hS d_Mod_trap_121 (by unfold dTrap; rw [if_neg h11, if_neg (fun z => h17 z.1), if_neg (fun z => h67 z.2), if_neg (fun z => h84 z.2), if_pos ⟨h92, h113⟩])
            · refine lv_iconst (v := 2) hx hb d_Mod_trap_87 (by decide) ?_
              exact kp_i F hlocks hret hS d_Mod_trap_88 (by unfold dTrap; rw [if_neg h11, if_neg (fun z => h17 z.1), if_neg (fun z => h67 z.2), if_pos ⟨h73, h84⟩])
      · refine lv_iload_n hx hb d_Mod_trap_37 rfl (lv_at hl 2 rfl) ?_
        refine lv_bipush (v := 76) hx hb d_Mod_trap_38 (by decide) ?_
        refine lv_icmp_eq (tgt := 49) hx hb d_Mod_trap_40 (by decide) (fun h40 => ?_) (fun h40 => ?_)
        · refine lv_iconst (v := 1) hx hb d_Mod_trap_49 (by decide) ?_
          refine lv_goto (tgt := 54) hx hb d_Mod_trap_50 (by decide) ?_
          refine lv_istore_n hx hb d_Mod_trap_54 rfl hl (by decide) rfl (fun ls hl => ?_)
          have hl : lv_has ls 4 [(3, .int 1), (0, .ref (a 0)), (1, .int mm), (2, .int c)] := hl
          refine lv_iload_n hx hb d_Mod_trap_55 rfl (lv_at hl 0 rfl) ?_
          refine lv_if_eq (tgt := 70) hx hb d_Mod_trap_56 (by decide) (fun h9 => absurd h9 (by decide)) (fun _ => ?_)
          refine lv_aload_n hx hb d_Mod_trap_59 rfl (lv_at hl 1 rfl) ?_
          refine va_get (D := Dg) (ci := 3) (v := .ref (a 6)) (C := R_Mod) (T := F_Mod) (N := 17) hx hb hT in_Mod hown hK hP 0 rfl rfl 8 (by decide) (hT _ tw2_234) (fun _ h9 => h9) rfl d_Mod_trap_60 ?_
          refine lv_iload_n hx hb d_Mod_trap_63 rfl (lv_at hl 2 rfl) ?_
          refine va_iald (f := (D 5)) hx hb hK hP 6 0 rfl rfl (dm_in hm) d_Mod_trap_64 ?_
          refine lv_bipush (v := 40) hx hb d_Mod_trap_65 (by decide) ?_
          refine lv_icmp_eq (tgt := 87) hx hb d_Mod_trap_67 (by decide) (fun h67 => ?_) (fun h67 => ?_)
          · refine lv_iconst (v := 2) hx hb d_Mod_trap_87 (by decide) ?_
            exact kp_i F hlocks hret hS d_Mod_trap_88 (by unfold dTrap; rw [if_neg h11, if_neg (fun z => h17 z.1), if_pos ⟨(by rw [h40]; decide), h67⟩])
          · refine lv_iload_n hx hb d_Mod_trap_70 rfl (lv_at hl 3 rfl) ?_
            refine lv_bipush (v := 67) hx hb d_Mod_trap_71 (by decide) ?_
            refine lv_icmp_ne (tgt := 89) hx hb d_Mod_trap_73 (by decide) (fun h73 => ?_) (fun h73 => ?_)
            · refine lv_iload_n hx hb d_Mod_trap_89 rfl (lv_at hl 3 rfl) ?_
              refine lv_bipush (v := 47) hx hb d_Mod_trap_90 (by decide) ?_
              refine lv_icmp_ne (tgt := 120) hx hb d_Mod_trap_92 (by decide) (fun h92 => ?_) (fun h92 => ?_)
              · refine lv_iconst (v := 0) hx hb d_Mod_trap_120 (by decide) ?_
                exact kp_i F hlocks hret hS d_Mod_trap_121 (by unfold dTrap; rw [if_neg h11, if_neg (fun z => h17 z.1), if_neg (fun z => h67 z.2), if_neg (fun z => h73 z.1), if_neg (fun z => h92 z.1)])
              · refine lv_aload_n hx hb d_Mod_trap_95 rfl (lv_at hl 1 rfl) ?_
                refine va_get (D := Dg) (ci := 3) (v := .ref (a 11)) (C := R_Mod) (T := F_Mod) (N := 17) hx hb hT in_Mod hown hK hP 0 rfl rfl 13 (by decide) (hT _ tw2_239) (fun _ h9 => h9) rfl d_Mod_trap_96 ?_
                refine lv_bipush (v := 40) hx hb d_Mod_trap_99 (by decide) ?_
                refine lv_iload_n hx hb d_Mod_trap_101 rfl (lv_at hl 2 rfl) ?_
                refine lv_imul hx hb d_Mod_trap_102 ?_
                refine lv_aload_n hx hb d_Mod_trap_103 rfl (lv_at hl 1 rfl) ?_
                refine va_get (D := Dg) (ci := 3) (v := .ref (a 6)) (C := R_Mod) (T := F_Mod) (N := 17) hx hb hT in_Mod hown hK hP 0 rfl rfl 8 (by decide) (hT _ tw2_234) (fun _ h9 => h9) rfl d_Mod_trap_104 ?_
                refine lv_iload_n hx hb d_Mod_trap_107 rfl (lv_at hl 2 rfl) ?_
                refine va_iald (f := (D 5)) hx hb hK hP 6 0 rfl rfl (dm_in hm) d_Mod_trap_108 ?_
                refine lv_iadd hx hb d_Mod_trap_109 ?_
                refine lv_iconst (v := 1) hx hb d_Mod_trap_110 (by decide) ?_
                refine lv_isub hx hb d_Mod_trap_111 ?_
                refine va_iald (f := (D 10)) hx hb hK hP 11 0 rfl rfl (dtr_div hm h92 h11) d_Mod_trap_112 ?_
                refine lv_if_ne (tgt := 120) hx hb d_Mod_trap_113 (by decide) (fun h113 => ?_) (fun h113 => ?_)
                · refine lv_iconst (v := 0) hx hb d_Mod_trap_120 (by decide) ?_
                  exact kp_i F hlocks hret hS d_Mod_trap_121 (by unfold dTrap; rw [if_neg h11, if_neg (fun z => h17 z.1), if_neg (fun z => h67 z.2), if_neg (fun z => h73 z.1), if_neg (fun z => h113 z.2)])
                · refine lv_iconst (v := 3) hx hb d_Mod_trap_116 (by decide) ?_
                  refine lv_goto (tgt := 121) hx hb d_Mod_trap_117 (by decide) ?_
                  exact kp_i F hlocks hret hS d_Mod_trap_121 (by unfold dTrap; rw [if_neg h11, if_neg (fun z => h17 z.1), if_neg (fun z => h67 z.2), if_neg (fun z => h73 z.1), if_pos ⟨h92, h113⟩])
            · refine lv_aload_n hx hb d_Mod_trap_76 rfl (lv_at hl 1 rfl) ?_
              refine va_get (D := Dg) (ci := 3) (v := .ref (a 7)) (C := R_Mod) (T := F_Mod) (N := 17) hx hb hT in_Mod hown hK hP 0 rfl rfl 9 (by decide) (hT _ tw2_235) (fun _ h9 => h9) rfl d_Mod_trap_77 ?_
              refine lv_iload_n hx hb d_Mod_trap_80 rfl (lv_at hl 2 rfl) ?_
              refine va_iald (f := (D 6)) hx hb hK hP 7 0 rfl rfl (dm_in hm) d_Mod_trap_81 ?_
              refine lv_bipush (v := 10) hx hb d_Mod_trap_82 (by decide) ?_
              refine lv_icmp_ne (tgt := 89) hx hb d_Mod_trap_84 (by decide) (fun h84 => ?_) (fun h84 => ?_)
              · refine lv_iload_n hx hb d_Mod_trap_89 rfl (lv_at hl 3 rfl) ?_
                refine lv_bipush (v := 47) hx hb d_Mod_trap_90 (by decide) ?_
                refine lv_icmp_ne (tgt := 120) hx hb d_Mod_trap_92 (by decide) (fun h92 => ?_) (fun h92 => ?_)
                · refine lv_iconst (v := 0) hx hb d_Mod_trap_120 (by decide) ?_
                  exact kp_i F hlocks hret hS d_Mod_trap_121 (by unfold dTrap; rw [if_neg h11, if_neg (fun z => h17 z.1), if_neg (fun z => h67 z.2), if_neg (fun z => h84 z.2), if_neg (fun z => h92 z.1)])
                · refine lv_aload_n hx hb d_Mod_trap_95 rfl (lv_at hl 1 rfl) ?_
                  refine va_get (D := Dg) (ci := 3) (v := .ref (a 11)) (C := R_Mod) (T := F_Mod) (N := 17) hx hb hT in_Mod hown hK hP 0 rfl rfl 13 (by decide) (hT _ tw2_239) (fun _ h9 => h9) rfl d_Mod_trap_96 ?_
                  refine lv_bipush (v := 40) hx hb d_Mod_trap_99 (by decide) ?_
                  refine lv_iload_n hx hb d_Mod_trap_101 rfl (lv_at hl 2 rfl) ?_
                  refine lv_imul hx hb d_Mod_trap_102 ?_
                  refine lv_aload_n hx hb d_Mod_trap_103 rfl (lv_at hl 1 rfl) ?_
                  refine va_get (D := Dg) (ci := 3) (v := .ref (a 6)) (C := R_Mod) (T := F_Mod) (N := 17) hx hb hT in_Mod hown hK hP 0 rfl rfl 8 (by decide) (hT _ tw2_234) (fun _ h9 => h9) rfl d_Mod_trap_104 ?_
                  refine lv_iload_n hx hb d_Mod_trap_107 rfl (lv_at hl 2 rfl) ?_
                  refine va_iald (f := (D 5)) hx hb hK hP 6 0 rfl rfl (dm_in hm) d_Mod_trap_108 ?_
                  refine lv_iadd hx hb d_Mod_trap_109 ?_
                  refine lv_iconst (v := 1) hx hb d_Mod_trap_110 (by decide) ?_
                  refine lv_isub hx hb d_Mod_trap_111 ?_
                  refine va_iald (f := (D 10)) hx hb hK hP 11 0 rfl rfl (dtr_div hm h92 h11) d_Mod_trap_112 ?_
                  refine lv_if_ne (tgt := 120) hx hb d_Mod_trap_113 (by decide) (fun h113 => ?_) (fun h113 => ?_)
                  · refine lv_iconst (v := 0) hx hb d_Mod_trap_120 (by decide) ?_
                    exact kp_i F hlocks hret hS d_Mod_trap_121 (by unfold dTrap; rw [if_neg h11, if_neg (fun z => h17 z.1), if_neg (fun z => h67 z.2), if_neg (fun z => h84 z.2), if_neg (fun z => h113 z.2)])
                  · refine lv_iconst (v := 3) hx hb d_Mod_trap_116 (by decide) ?_
                    refine lv_goto (tgt := 121) hx hb d_Mod_trap_117 (by decide) ?_
                    exact kp_i F hlocks hret hS d_Mod_trap_121 (by unfold dTrap; rw [if_neg h11, if_neg (fun z => h17 z.1), if_neg (fun z => h67 z.2), if_neg (fun z => h84 z.2), if_pos ⟨h92, h113⟩])
              · refine lv_iconst (v := 2) hx hb d_Mod_trap_87 (by decide) ?_
                exact kp_i F hlocks hret hS d_Mod_trap_88 (by unfold dTrap; rw [if_neg h11, if_neg (fun z => h17 z.1), if_neg (fun z => h67 z.2), if_pos ⟨h73, h84⟩])
        · refine lv_iload_n hx hb d_Mod_trap_43 rfl (lv_at hl 2 rfl) ?_
          refine lv_bipush (v := 68) hx hb d_Mod_trap_44 (by decide) ?_
          refine lv_icmp_ne (tgt := 53) hx hb d_Mod_trap_46 (by decide) (fun h46 => ?_) (fun h46 => ?_)
          · refine lv_iconst (v := 0) hx hb d_Mod_trap_53 (by decide) ?_
            refine lv_istore_n hx hb d_Mod_trap_54 rfl hl (by decide) rfl (fun ls hl => ?_)
            have hl : lv_has ls 4 [(3, .int 0), (0, .ref (a 0)), (1, .int mm), (2, .int c)] := hl
            refine lv_iload_n hx hb d_Mod_trap_55 rfl (lv_at hl 0 rfl) ?_
            refine lv_if_eq (tgt := 70) hx hb d_Mod_trap_56 (by decide) (fun _ => ?_) (fun h9 => absurd (by decide) h9)
            refine lv_iload_n hx hb d_Mod_trap_70 rfl (lv_at hl 3 rfl) ?_
            refine lv_bipush (v := 67) hx hb d_Mod_trap_71 (by decide) ?_
            refine lv_icmp_ne (tgt := 89) hx hb d_Mod_trap_73 (by decide) (fun h73 => ?_) (fun h73 => ?_)
            · refine lv_iload_n hx hb d_Mod_trap_89 rfl (lv_at hl 3 rfl) ?_
              refine lv_bipush (v := 47) hx hb d_Mod_trap_90 (by decide) ?_
              refine lv_icmp_ne (tgt := 120) hx hb d_Mod_trap_92 (by decide) (fun h92 => ?_) (fun h92 => ?_)
              · refine lv_iconst (v := 0) hx hb d_Mod_trap_120 (by decide) ?_
                exact kp_i F hlocks hret hS d_Mod_trap_121 (by unfold dTrap; rw [if_neg h11, if_neg (fun z => h17 z.1), if_neg (fun z => z.1 (by unfold sPuts; rw [if_neg (fun y => y.elim h34 (fun y => y.elim h40 h46))])), if_neg (fun z => h73 z.1), if_neg (fun z => h92 z.1)])
              · refine lv_aload_n hx hb d_Mod_trap_95 rfl (lv_at hl 1 rfl) ?_
                refine va_get (D := Dg) (ci := 3) (v := .ref (a 11)) (C := R_Mod) (T := F_Mod) (N := 17) hx hb hT in_Mod hown hK hP 0 rfl rfl 13 (by decide) (hT _ tw2_239) (fun _ h9 => h9) rfl d_Mod_trap_96 ?_
                refine lv_bipush (v := 40) hx hb d_Mod_trap_99 (by decide) ?_
                refine lv_iload_n hx hb d_Mod_trap_101 rfl (lv_at hl 2 rfl) ?_
                refine lv_imul hx hb d_Mod_trap_102 ?_
                refine lv_aload_n hx hb d_Mod_trap_103 rfl (lv_at hl 1 rfl) ?_
                refine va_get (D := Dg) (ci := 3) (v := .ref (a 6)) (C := R_Mod) (T := F_Mod) (N := 17) hx hb hT in_Mod hown hK hP 0 rfl rfl 8 (by decide) (hT _ tw2_234) (fun _ h9 => h9) rfl d_Mod_trap_104 ?_
                refine lv_iload_n hx hb d_Mod_trap_107 rfl (lv_at hl 2 rfl) ?_
                refine va_iald (f := (D 5)) hx hb hK hP 6 0 rfl rfl (dm_in hm) d_Mod_trap_108 ?_
                refine lv_iadd hx hb d_Mod_trap_109 ?_
                refine lv_iconst (v := 1) hx hb d_Mod_trap_110 (by decide) ?_
                refine lv_isub hx hb d_Mod_trap_111 ?_
                refine va_iald (f := (D 10)) hx hb hK hP 11 0 rfl rfl (dtr_div hm h92 h11) d_Mod_trap_112 ?_
                refine lv_if_ne (tgt := 120) hx hb d_Mod_trap_113 (by decide) (fun h113 => ?_) (fun h113 => ?_)
                · refine lv_iconst (v := 0) hx hb d_Mod_trap_120 (by decide) ?_
                  exact kp_i F hlocks hret hS d_Mod_trap_121 (by unfold dTrap; rw [if_neg h11, if_neg (fun z => h17 z.1), if_neg (fun z => z.1 (by unfold sPuts; rw [if_neg (fun y => y.elim h34 (fun y => y.elim h40 h46))])), if_neg (fun z => h73 z.1), if_neg (fun z => h113 z.2)])
                · refine lv_iconst (v := 3) hx hb d_Mod_trap_116 (by decide) ?_
                  refine lv_goto (tgt := 121) hx hb d_Mod_trap_117 (by decide) ?_
                  exact kp_i F hlocks hret hS d_Mod_trap_121 (by unfold dTrap; rw [if_neg h11, if_neg (fun z => h17 z.1), if_neg (fun z => z.1 (by unfold sPuts; rw [if_neg (fun y => y.elim h34 (fun y => y.elim h40 h46))])), if_neg (fun z => h73 z.1), if_pos ⟨h92, h113⟩])
            · refine lv_aload_n hx hb d_Mod_trap_76 rfl (lv_at hl 1 rfl) ?_
              refine va_get (D := Dg) (ci := 3) (v := .ref (a 7)) (C := R_Mod) (T := F_Mod) (N := 17) hx hb hT in_Mod hown hK hP 0 rfl rfl 9 (by decide) (hT _ tw2_235) (fun _ h9 => h9) rfl d_Mod_trap_77 ?_
              refine lv_iload_n hx hb d_Mod_trap_80 rfl (lv_at hl 2 rfl) ?_
              refine va_iald (f := (D 6)) hx hb hK hP 7 0 rfl rfl (dm_in hm) d_Mod_trap_81 ?_
              refine lv_bipush (v := 10) hx hb d_Mod_trap_82 (by decide) ?_
              refine lv_icmp_ne (tgt := 89) hx hb d_Mod_trap_84 (by decide) (fun h84 => ?_) (fun h84 => ?_)
              · refine lv_iload_n hx hb d_Mod_trap_89 rfl (lv_at hl 3 rfl) ?_
                refine lv_bipush (v := 47) hx hb d_Mod_trap_90 (by decide) ?_
                refine lv_icmp_ne (tgt := 120) hx hb d_Mod_trap_92 (by decide) (fun h92 => ?_) (fun h92 => ?_)
                · refine lv_iconst (v := 0) hx hb d_Mod_trap_120 (by decide) ?_
                  exact kp_i F hlocks hret hS d_Mod_trap_121 (by unfold dTrap; rw [if_neg h11, if_neg (fun z => h17 z.1), if_neg (fun z => z.1 (by unfold sPuts; rw [if_neg (fun y => y.elim h34 (fun y => y.elim h40 h46))])), if_neg (fun z => h84 z.2), if_neg (fun z => h92 z.1)])
                · refine lv_aload_n hx hb d_Mod_trap_95 rfl (lv_at hl 1 rfl) ?_
                  refine va_get (D := Dg) (ci := 3) (v := .ref (a 11)) (C := R_Mod) (T := F_Mod) (N := 17) hx hb hT in_Mod hown hK hP 0 rfl rfl 13 (by decide) (hT _ tw2_239) (fun _ h9 => h9) rfl d_Mod_trap_96 ?_
                  refine lv_bipush (v := 40) hx hb d_Mod_trap_99 (by decide) ?_
                  refine lv_iload_n hx hb d_Mod_trap_101 rfl (lv_at hl 2 rfl) ?_
                  refine lv_imul hx hb d_Mod_trap_102 ?_
                  refine lv_aload_n hx hb d_Mod_trap_103 rfl (lv_at hl 1 rfl) ?_
                  refine va_get (D := Dg) (ci := 3) (v := .ref (a 6)) (C := R_Mod) (T := F_Mod) (N := 17) hx hb hT in_Mod hown hK hP 0 rfl rfl 8 (by decide) (hT _ tw2_234) (fun _ h9 => h9) rfl d_Mod_trap_104 ?_
                  refine lv_iload_n hx hb d_Mod_trap_107 rfl (lv_at hl 2 rfl) ?_
                  refine va_iald (f := (D 5)) hx hb hK hP 6 0 rfl rfl (dm_in hm) d_Mod_trap_108 ?_
                  refine lv_iadd hx hb d_Mod_trap_109 ?_
                  refine lv_iconst (v := 1) hx hb d_Mod_trap_110 (by decide) ?_
                  refine lv_isub hx hb d_Mod_trap_111 ?_
                  refine va_iald (f := (D 10)) hx hb hK hP 11 0 rfl rfl (dtr_div hm h92 h11) d_Mod_trap_112 ?_
                  refine lv_if_ne (tgt := 120) hx hb d_Mod_trap_113 (by decide) (fun h113 => ?_) (fun h113 => ?_)
                  · refine lv_iconst (v := 0) hx hb d_Mod_trap_120 (by decide) ?_
                    exact kp_i F hlocks hret hS d_Mod_trap_121 (by unfold dTrap; rw [if_neg h11, if_neg (fun z => h17 z.1), if_neg (fun z => z.1 (by unfold sPuts; rw [if_neg (fun y => y.elim h34 (fun y => y.elim h40 h46))])), if_neg (fun z => h84 z.2), if_neg (fun z => h113 z.2)])
                  · refine lv_iconst (v := 3) hx hb d_Mod_trap_116 (by decide) ?_
                    refine lv_goto (tgt := 121) hx hb d_Mod_trap_117 (by decide) ?_
                    exact kp_i F hlocks hret hS d_Mod_trap_121 (by unfold dTrap; rw [if_neg h11, if_neg (fun z => h17 z.1), if_neg (fun z => z.1 (by unfold sPuts; rw [if_neg (fun y => y.elim h34 (fun y => y.elim h40 h46))])), if_neg (fun z => h84 z.2), if_pos ⟨h92, h113⟩])
              · refine lv_iconst (v := 2) hx hb d_Mod_trap_87 (by decide) ?_
                exact kp_i F hlocks hret hS d_Mod_trap_88 (by unfold dTrap; rw [if_neg h11, if_neg (fun z => h17 z.1), if_neg (fun z => z.1 (by unfold sPuts; rw [if_neg (fun y => y.elim h34 (fun y => y.elim h40 h46))])), if_pos ⟨h73, h84⟩])
          · refine lv_iconst (v := 1) hx hb d_Mod_trap_49 (by decide) ?_
            refine lv_goto (tgt := 54) hx hb d_Mod_trap_50 (by decide) ?_
            refine lv_istore_n hx hb d_Mod_trap_54 rfl hl (by decide) rfl (fun ls hl => ?_)
            have hl : lv_has ls 4 [(3, .int 1), (0, .ref (a 0)), (1, .int mm), (2, .int c)] := hl
            refine lv_iload_n hx hb d_Mod_trap_55 rfl (lv_at hl 0 rfl) ?_
            refine lv_if_eq (tgt := 70) hx hb d_Mod_trap_56 (by decide) (fun h9 => absurd h9 (by decide)) (fun _ => ?_)
            refine lv_aload_n hx hb d_Mod_trap_59 rfl (lv_at hl 1 rfl) ?_
            refine va_get (D := Dg) (ci := 3) (v := .ref (a 6)) (C := R_Mod) (T := F_Mod) (N := 17) hx hb hT in_Mod hown hK hP 0 rfl rfl 8 (by decide) (hT _ tw2_234) (fun _ h9 => h9) rfl d_Mod_trap_60 ?_
            refine lv_iload_n hx hb d_Mod_trap_63 rfl (lv_at hl 2 rfl) ?_
            refine va_iald (f := (D 5)) hx hb hK hP 6 0 rfl rfl (dm_in hm) d_Mod_trap_64 ?_
            refine lv_bipush (v := 40) hx hb d_Mod_trap_65 (by decide) ?_
            refine lv_icmp_eq (tgt := 87) hx hb d_Mod_trap_67 (by decide) (fun h67 => ?_) (fun h67 => ?_)
            · refine lv_iconst (v := 2) hx hb d_Mod_trap_87 (by decide) ?_
              exact kp_i F hlocks hret hS d_Mod_trap_88 (by unfold dTrap; rw [if_neg h11, if_neg (fun z => h17 z.1), if_pos ⟨(by rw [h46]; decide), h67⟩])
            · refine lv_iload_n hx hb d_Mod_trap_70 rfl (lv_at hl 3 rfl) ?_
              refine lv_bipush (v := 67) hx hb d_Mod_trap_71 (by decide) ?_
              refine lv_icmp_ne (tgt := 89) hx hb d_Mod_trap_73 (by decide) (fun h73 => ?_) (fun h73 => ?_)
              · refine lv_iload_n hx hb d_Mod_trap_89 rfl (lv_at hl 3 rfl) ?_
                refine lv_bipush (v := 47) hx hb d_Mod_trap_90 (by decide) ?_
                refine lv_icmp_ne (tgt := 120) hx hb d_Mod_trap_92 (by decide) (fun h92 => ?_) (fun h92 => ?_)
                · refine lv_iconst (v := 0) hx hb d_Mod_trap_120 (by decide) ?_
                  exact kp_i F hlocks hret hS d_Mod_trap_121 (by unfold dTrap; rw [if_neg h11, if_neg (fun z => h17 z.1), if_neg (fun z => h67 z.2), if_neg (fun z => h73 z.1), if_neg (fun z => h92 z.1)])
                · refine lv_aload_n hx hb d_Mod_trap_95 rfl (lv_at hl 1 rfl) ?_
                  refine va_get (D := Dg) (ci := 3) (v := .ref (a 11)) (C := R_Mod) (T := F_Mod) (N := 17) hx hb hT in_Mod hown hK hP 0 rfl rfl 13 (by decide) (hT _ tw2_239) (fun _ h9 => h9) rfl d_Mod_trap_96 ?_
                  refine lv_bipush (v := 40) hx hb d_Mod_trap_99 (by decide) ?_
                  refine lv_iload_n hx hb d_Mod_trap_101 rfl (lv_at hl 2 rfl) ?_
                  refine lv_imul hx hb d_Mod_trap_102 ?_
                  refine lv_aload_n hx hb d_Mod_trap_103 rfl (lv_at hl 1 rfl) ?_
                  refine va_get (D := Dg) (ci := 3) (v := .ref (a 6)) (C := R_Mod) (T := F_Mod) (N := 17) hx hb hT in_Mod hown hK hP 0 rfl rfl 8 (by decide) (hT _ tw2_234) (fun _ h9 => h9) rfl d_Mod_trap_104 ?_
                  refine lv_iload_n hx hb d_Mod_trap_107 rfl (lv_at hl 2 rfl) ?_
                  refine va_iald (f := (D 5)) hx hb hK hP 6 0 rfl rfl (dm_in hm) d_Mod_trap_108 ?_
                  refine lv_iadd hx hb d_Mod_trap_109 ?_
                  refine lv_iconst (v := 1) hx hb d_Mod_trap_110 (by decide) ?_
                  refine lv_isub hx hb d_Mod_trap_111 ?_
                  refine va_iald (f := (D 10)) hx hb hK hP 11 0 rfl rfl (dtr_div hm h92 h11) d_Mod_trap_112 ?_
                  refine lv_if_ne (tgt := 120) hx hb d_Mod_trap_113 (by decide) (fun h113 => ?_) (fun h113 => ?_)
                  · refine lv_iconst (v := 0) hx hb d_Mod_trap_120 (by decide) ?_
                    exact kp_i F hlocks hret hS d_Mod_trap_121 (by unfold dTrap; rw [if_neg h11, if_neg (fun z => h17 z.1), if_neg (fun z => h67 z.2), if_neg (fun z => h73 z.1), if_neg (fun z => h113 z.2)])
                  · refine lv_iconst (v := 3) hx hb d_Mod_trap_116 (by decide) ?_
                    refine lv_goto (tgt := 121) hx hb d_Mod_trap_117 (by decide) ?_
                    exact kp_i F hlocks hret hS d_Mod_trap_121 (by unfold dTrap; rw [if_neg h11, if_neg (fun z => h17 z.1), if_neg (fun z => h67 z.2), if_neg (fun z => h73 z.1), if_pos ⟨h92, h113⟩])
              · refine lv_aload_n hx hb d_Mod_trap_76 rfl (lv_at hl 1 rfl) ?_
                refine va_get (D := Dg) (ci := 3) (v := .ref (a 7)) (C := R_Mod) (T := F_Mod) (N := 17) hx hb hT in_Mod hown hK hP 0 rfl rfl 9 (by decide) (hT _ tw2_235) (fun _ h9 => h9) rfl d_Mod_trap_77 ?_
                refine lv_iload_n hx hb d_Mod_trap_80 rfl (lv_at hl 2 rfl) ?_
                refine va_iald (f := (D 6)) hx hb hK hP 7 0 rfl rfl (dm_in hm) d_Mod_trap_81 ?_
                refine lv_bipush (v := 10) hx hb d_Mod_trap_82 (by decide) ?_
                refine lv_icmp_ne (tgt := 89) hx hb d_Mod_trap_84 (by decide) (fun h84 => ?_) (fun h84 => ?_)
                · refine lv_iload_n hx hb d_Mod_trap_89 rfl (lv_at hl 3 rfl) ?_
                  refine lv_bipush (v := 47) hx hb d_Mod_trap_90 (by decide) ?_
                  refine lv_icmp_ne (tgt := 120) hx hb d_Mod_trap_92 (by decide) (fun h92 => ?_) (fun h92 => ?_)
                  · refine lv_iconst (v := 0) hx hb d_Mod_trap_120 (by decide) ?_
                    exact kp_i F hlocks hret hS d_Mod_trap_121 (by unfold dTrap; rw [if_neg h11, if_neg (fun z => h17 z.1), if_neg (fun z => h67 z.2), if_neg (fun z => h84 z.2), if_neg (fun z => h92 z.1)])
                  · refine lv_aload_n hx hb d_Mod_trap_95 rfl (lv_at hl 1 rfl) ?_
                    refine va_get (D := Dg) (ci := 3) (v := .ref (a 11)) (C := R_Mod) (T := F_Mod) (N := 17) hx hb hT in_Mod hown hK hP 0 rfl rfl 13 (by decide) (hT _ tw2_239) (fun _ h9 => h9) rfl d_Mod_trap_96 ?_
                    refine lv_bipush (v := 40) hx hb d_Mod_trap_99 (by decide) ?_
                    refine lv_iload_n hx hb d_Mod_trap_101 rfl (lv_at hl 2 rfl) ?_
                    refine lv_imul hx hb d_Mod_trap_102 ?_
                    refine lv_aload_n hx hb d_Mod_trap_103 rfl (lv_at hl 1 rfl) ?_
                    refine va_get (D := Dg) (ci := 3) (v := .ref (a 6)) (C := R_Mod) (T := F_Mod) (N := 17) hx hb hT in_Mod hown hK hP 0 rfl rfl 8 (by decide) (hT _ tw2_234) (fun _ h9 => h9) rfl d_Mod_trap_104 ?_
                    refine lv_iload_n hx hb d_Mod_trap_107 rfl (lv_at hl 2 rfl) ?_
                    refine va_iald (f := (D 5)) hx hb hK hP 6 0 rfl rfl (dm_in hm) d_Mod_trap_108 ?_
                    refine lv_iadd hx hb d_Mod_trap_109 ?_
                    refine lv_iconst (v := 1) hx hb d_Mod_trap_110 (by decide) ?_
                    refine lv_isub hx hb d_Mod_trap_111 ?_
                    refine va_iald (f := (D 10)) hx hb hK hP 11 0 rfl rfl (dtr_div hm h92 h11) d_Mod_trap_112 ?_
                    refine lv_if_ne (tgt := 120) hx hb d_Mod_trap_113 (by decide) (fun h113 => ?_) (fun h113 => ?_)
                    · refine lv_iconst (v := 0) hx hb d_Mod_trap_120 (by decide) ?_
                      exact kp_i F hlocks hret hS d_Mod_trap_121 (by unfold dTrap; rw [if_neg h11, if_neg (fun z => h17 z.1), if_neg (fun z => h67 z.2), if_neg (fun z => h84 z.2), if_neg (fun z => h113 z.2)])
                    · refine lv_iconst (v := 3) hx hb d_Mod_trap_116 (by decide) ?_
                      refine lv_goto (tgt := 121) hx hb d_Mod_trap_117 (by decide) ?_
                      exact kp_i F hlocks hret hS d_Mod_trap_121 (by unfold dTrap; rw [if_neg h11, if_neg (fun z => h17 z.1), if_neg (fun z => h67 z.2), if_neg (fun z => h84 z.2), if_pos ⟨h92, h113⟩])
                · refine lv_iconst (v := 2) hx hb d_Mod_trap_87 (by decide) ?_
                  exact kp_i F hlocks hret hS d_Mod_trap_88 (by unfold dTrap; rw [if_neg h11, if_neg (fun z => h17 z.1), if_neg (fun z => h67 z.2), if_pos ⟨h73, h84⟩])
    · refine lv_aload_n hx hb d_Mod_trap_20 rfl (lv_at hl 0 rfl) ?_
      refine va_get (D := Dg) (ci := 3) (v := .ref (a 7)) (C := R_Mod) (T := F_Mod) (N := 17) hx hb hT in_Mod hown hK hP 0 rfl rfl 9 (by decide) (hT _ tw2_235) (fun _ h9 => h9) rfl d_Mod_trap_21 ?_
      refine lv_iload_n hx hb d_Mod_trap_24 rfl (lv_at hl 1 rfl) ?_
      refine va_iald (f := (D 6)) hx hb hK hP 7 0 rfl rfl (dm_in hm) d_Mod_trap_25 ?_
      refine lv_if_ne (tgt := 31) hx hb d_Mod_trap_26 (by decide) (fun h26 => ?_) (fun h26 => ?_)
      · refine lv_iload_n hx hb d_Mod_trap_31 rfl (lv_at hl 2 rfl) ?_
        refine lv_bipush (v := 80) hx hb d_Mod_trap_32 (by decide) ?_
        refine lv_icmp_eq (tgt := 49) hx hb d_Mod_trap_34 (by decide) (fun h34 => ?_) (fun h34 => ?_)
        · refine lv_iconst (v := 1) hx hb d_Mod_trap_49 (by decide) ?_
          refine lv_goto (tgt := 54) hx hb d_Mod_trap_50 (by decide) ?_
          refine lv_istore_n hx hb d_Mod_trap_54 rfl hl (by decide) rfl (fun ls hl => ?_)
          have hl : lv_has ls 4 [(3, .int 1), (0, .ref (a 0)), (1, .int mm), (2, .int c)] := hl
          refine lv_iload_n hx hb d_Mod_trap_55 rfl (lv_at hl 0 rfl) ?_
          refine lv_if_eq (tgt := 70) hx hb d_Mod_trap_56 (by decide) (fun h9 => absurd h9 (by decide)) (fun _ => ?_)
          refine lv_aload_n hx hb d_Mod_trap_59 rfl (lv_at hl 1 rfl) ?_
          refine va_get (D := Dg) (ci := 3) (v := .ref (a 6)) (C := R_Mod) (T := F_Mod) (N := 17) hx hb hT in_Mod hown hK hP 0 rfl rfl 8 (by decide) (hT _ tw2_234) (fun _ h9 => h9) rfl d_Mod_trap_60 ?_
          refine lv_iload_n hx hb d_Mod_trap_63 rfl (lv_at hl 2 rfl) ?_
          refine va_iald (f := (D 5)) hx hb hK hP 6 0 rfl rfl (dm_in hm) d_Mod_trap_64 ?_
          refine lv_bipush (v := 40) hx hb d_Mod_trap_65 (by decide) ?_
          refine lv_icmp_eq (tgt := 87) hx hb d_Mod_trap_67 (by decide) (fun h67 => ?_) (fun h67 => ?_)
          · refine lv_iconst (v := 2) hx hb d_Mod_trap_87 (by decide) ?_
            exact kp_i F hlocks hret hS d_Mod_trap_88 (by unfold dTrap; rw [if_neg h11, if_neg (fun z => h26 z.2), if_pos ⟨(by rw [h34]; decide), h67⟩])
          · refine lv_iload_n hx hb d_Mod_trap_70 rfl (lv_at hl 3 rfl) ?_
            refine lv_bipush (v := 67) hx hb d_Mod_trap_71 (by decide) ?_
            refine lv_icmp_ne (tgt := 89) hx hb d_Mod_trap_73 (by decide) (fun h73 => ?_) (fun h73 => ?_)
            · refine lv_iload_n hx hb d_Mod_trap_89 rfl (lv_at hl 3 rfl) ?_
              refine lv_bipush (v := 47) hx hb d_Mod_trap_90 (by decide) ?_
              refine lv_icmp_ne (tgt := 120) hx hb d_Mod_trap_92 (by decide) (fun h92 => ?_) (fun h92 => ?_)
              · refine lv_iconst (v := 0) hx hb d_Mod_trap_120 (by decide) ?_
                exact kp_i F hlocks hret hS d_Mod_trap_121 (by unfold dTrap; rw [if_neg h11, if_neg (fun z => h26 z.2), if_neg (fun z => h67 z.2), if_neg (fun z => h73 z.1), if_neg (fun z => h92 z.1)])
              · refine lv_aload_n hx hb d_Mod_trap_95 rfl (lv_at hl 1 rfl) ?_
                refine va_get (D := Dg) (ci := 3) (v := .ref (a 11)) (C := R_Mod) (T := F_Mod) (N := 17) hx hb hT in_Mod hown hK hP 0 rfl rfl 13 (by decide) (hT _ tw2_239) (fun _ h9 => h9) rfl d_Mod_trap_96 ?_
                refine lv_bipush (v := 40) hx hb d_Mod_trap_99 (by decide) ?_
                refine lv_iload_n hx hb d_Mod_trap_101 rfl (lv_at hl 2 rfl) ?_
                refine lv_imul hx hb d_Mod_trap_102 ?_
                refine lv_aload_n hx hb d_Mod_trap_103 rfl (lv_at hl 1 rfl) ?_
                refine va_get (D := Dg) (ci := 3) (v := .ref (a 6)) (C := R_Mod) (T := F_Mod) (N := 17) hx hb hT in_Mod hown hK hP 0 rfl rfl 8 (by decide) (hT _ tw2_234) (fun _ h9 => h9) rfl d_Mod_trap_104 ?_
                refine lv_iload_n hx hb d_Mod_trap_107 rfl (lv_at hl 2 rfl) ?_
                refine va_iald (f := (D 5)) hx hb hK hP 6 0 rfl rfl (dm_in hm) d_Mod_trap_108 ?_
                refine lv_iadd hx hb d_Mod_trap_109 ?_
                refine lv_iconst (v := 1) hx hb d_Mod_trap_110 (by decide) ?_
                refine lv_isub hx hb d_Mod_trap_111 ?_
                refine va_iald (f := (D 10)) hx hb hK hP 11 0 rfl rfl (dtr_div hm h92 h11) d_Mod_trap_112 ?_
                refine lv_if_ne (tgt := 120) hx hb d_Mod_trap_113 (by decide) (fun h113 => ?_) (fun h113 => ?_)
                · refine lv_iconst (v := 0) hx hb d_Mod_trap_120 (by decide) ?_
                  exact kp_i F hlocks hret hS d_Mod_trap_121 (by unfold dTrap; rw [if_neg h11, if_neg (fun z => h26 z.2), if_neg (fun z => h67 z.2), if_neg (fun z => h73 z.1), if_neg (fun z => h113 z.2)])
                · refine lv_iconst (v := 3) hx hb d_Mod_trap_116 (by decide) ?_
                  refine lv_goto (tgt := 121) hx hb d_Mod_trap_117 (by decide) ?_
                  exact kp_i F hlocks hret hS d_Mod_trap_121 (by unfold dTrap; rw [if_neg h11, if_neg (fun z => h26 z.2), if_neg (fun z => h67 z.2), if_neg (fun z => h73 z.1), if_pos ⟨h92, h113⟩])
            · refine lv_aload_n hx hb d_Mod_trap_76 rfl (lv_at hl 1 rfl) ?_
              refine va_get (D := Dg) (ci := 3) (v := .ref (a 7)) (C := R_Mod) (T := F_Mod) (N := 17) hx hb hT in_Mod hown hK hP 0 rfl rfl 9 (by decide) (hT _ tw2_235) (fun _ h9 => h9) rfl d_Mod_trap_77 ?_
              refine lv_iload_n hx hb d_Mod_trap_80 rfl (lv_at hl 2 rfl) ?_
              refine va_iald (f := (D 6)) hx hb hK hP 7 0 rfl rfl (dm_in hm) d_Mod_trap_81 ?_
              refine lv_bipush (v := 10) hx hb d_Mod_trap_82 (by decide) ?_
              refine lv_icmp_ne (tgt := 89) hx hb d_Mod_trap_84 (by decide) (fun h84 => ?_) (fun h84 => ?_)
              · refine lv_iload_n hx hb d_Mod_trap_89 rfl (lv_at hl 3 rfl) ?_
                refine lv_bipush (v := 47) hx hb d_Mod_trap_90 (by decide) ?_
                refine lv_icmp_ne (tgt := 120) hx hb d_Mod_trap_92 (by decide) (fun h92 => ?_) (fun h92 => ?_)
                · refine lv_iconst (v := 0) hx hb d_Mod_trap_120 (by decide) ?_
                  exact kp_i F hlocks hret hS d_Mod_trap_121 (by unfold dTrap; rw [if_neg h11, if_neg (fun z => h26 z.2), if_neg (fun z => h67 z.2), if_neg (fun z => h84 z.2), if_neg (fun z => h92 z.1)])
                · refine lv_aload_n hx hb d_Mod_trap_95 rfl (lv_at hl 1 rfl) ?_
                  refine va_get (D := Dg) (ci := 3) (v := .ref (a 11)) (C := R_Mod) (T := F_Mod) (N := 17) hx hb hT in_Mod hown hK hP 0 rfl rfl 13 (by decide) (hT _ tw2_239) (fun _ h9 => h9) rfl d_Mod_trap_96 ?_
                  refine lv_bipush (v := 40) hx hb d_Mod_trap_99 (by decide) ?_
                  refine lv_iload_n hx hb d_Mod_trap_101 rfl (lv_at hl 2 rfl) ?_
                  refine lv_imul hx hb d_Mod_trap_102 ?_
                  refine lv_aload_n hx hb d_Mod_trap_103 rfl (lv_at hl 1 rfl) ?_
                  refine va_get (D := Dg) (ci := 3) (v := .ref (a 6)) (C := R_Mod) (T := F_Mod) (N := 17) hx hb hT in_Mod hown hK hP 0 rfl rfl 8 (by decide) (hT _ tw2_234) (fun _ h9 => h9) rfl d_Mod_trap_104 ?_
                  refine lv_iload_n hx hb d_Mod_trap_107 rfl (lv_at hl 2 rfl) ?_
                  refine va_iald (f := (D 5)) hx hb hK hP 6 0 rfl rfl (dm_in hm) d_Mod_trap_108 ?_
                  refine lv_iadd hx hb d_Mod_trap_109 ?_
                  refine lv_iconst (v := 1) hx hb d_Mod_trap_110 (by decide) ?_
                  refine lv_isub hx hb d_Mod_trap_111 ?_
                  refine va_iald (f := (D 10)) hx hb hK hP 11 0 rfl rfl (dtr_div hm h92 h11) d_Mod_trap_112 ?_
                  refine lv_if_ne (tgt := 120) hx hb d_Mod_trap_113 (by decide) (fun h113 => ?_) (fun h113 => ?_)
                  · refine lv_iconst (v := 0) hx hb d_Mod_trap_120 (by decide) ?_
                    exact kp_i F hlocks hret hS d_Mod_trap_121 (by unfold dTrap; rw [if_neg h11, if_neg (fun z => h26 z.2), if_neg (fun z => h67 z.2), if_neg (fun z => h84 z.2), if_neg (fun z => h113 z.2)])
                  · refine lv_iconst (v := 3) hx hb d_Mod_trap_116 (by decide) ?_
                    refine lv_goto (tgt := 121) hx hb d_Mod_trap_117 (by decide) ?_
                    exact kp_i F hlocks hret hS d_Mod_trap_121 (by unfold dTrap; rw [if_neg h11, if_neg (fun z => h26 z.2), if_neg (fun z => h67 z.2), if_neg (fun z => h84 z.2), if_pos ⟨h92, h113⟩])
              · refine lv_iconst (v := 2) hx hb d_Mod_trap_87 (by decide) ?_
                exact kp_i F hlocks hret hS d_Mod_trap_88 (by unfold dTrap; rw [if_neg h11, if_neg (fun z => h26 z.2), if_neg (fun z => h67 z.2), if_pos ⟨h73, h84⟩])
        · refine lv_iload_n hx hb d_Mod_trap_37 rfl (lv_at hl 2 rfl) ?_
          refine lv_bipush (v := 76) hx hb d_Mod_trap_38 (by decide) ?_
          refine lv_icmp_eq (tgt := 49) hx hb d_Mod_trap_40 (by decide) (fun h40 => ?_) (fun h40 => ?_)
          · refine lv_iconst (v := 1) hx hb d_Mod_trap_49 (by decide) ?_
            refine lv_goto (tgt := 54) hx hb d_Mod_trap_50 (by decide) ?_
            refine lv_istore_n hx hb d_Mod_trap_54 rfl hl (by decide) rfl (fun ls hl => ?_)
            have hl : lv_has ls 4 [(3, .int 1), (0, .ref (a 0)), (1, .int mm), (2, .int c)] := hl
            refine lv_iload_n hx hb d_Mod_trap_55 rfl (lv_at hl 0 rfl) ?_
            refine lv_if_eq (tgt := 70) hx hb d_Mod_trap_56 (by decide) (fun h9 => absurd h9 (by decide)) (fun _ => ?_)
            refine lv_aload_n hx hb d_Mod_trap_59 rfl (lv_at hl 1 rfl) ?_
            refine va_get (D := Dg) (ci := 3) (v := .ref (a 6)) (C := R_Mod) (T := F_Mod) (N := 17) hx hb hT in_Mod hown hK hP 0 rfl rfl 8 (by decide) (hT _ tw2_234) (fun _ h9 => h9) rfl d_Mod_trap_60 ?_
            refine lv_iload_n hx hb d_Mod_trap_63 rfl (lv_at hl 2 rfl) ?_
            refine va_iald (f := (D 5)) hx hb hK hP 6 0 rfl rfl (dm_in hm) d_Mod_trap_64 ?_
            refine lv_bipush (v := 40) hx hb d_Mod_trap_65 (by decide) ?_
            refine lv_icmp_eq (tgt := 87) hx hb d_Mod_trap_67 (by decide) (fun h67 => ?_) (fun h67 => ?_)
            · refine lv_iconst (v := 2) hx hb d_Mod_trap_87 (by decide) ?_
              exact kp_i F hlocks hret hS d_Mod_trap_88 (by unfold dTrap; rw [if_neg h11, if_neg (fun z => h26 z.2), if_pos ⟨(by rw [h40]; decide), h67⟩])
            · refine lv_iload_n hx hb d_Mod_trap_70 rfl (lv_at hl 3 rfl) ?_
              refine lv_bipush (v := 67) hx hb d_Mod_trap_71 (by decide) ?_
              refine lv_icmp_ne (tgt := 89) hx hb d_Mod_trap_73 (by decide) (fun h73 => ?_) (fun h73 => ?_)
              · refine lv_iload_n hx hb d_Mod_trap_89 rfl (lv_at hl 3 rfl) ?_
                refine lv_bipush (v := 47) hx hb d_Mod_trap_90 (by decide) ?_
                refine lv_icmp_ne (tgt := 120) hx hb d_Mod_trap_92 (by decide) (fun h92 => ?_) (fun h92 => ?_)
                · refine lv_iconst (v := 0) hx hb d_Mod_trap_120 (by decide) ?_
                  exact kp_i F hlocks hret hS d_Mod_trap_121 (by unfold dTrap; rw [if_neg h11, if_neg (fun z => h26 z.2), if_neg (fun z => h67 z.2), if_neg (fun z => h73 z.1), if_neg (fun z => h92 z.1)])
                · refine lv_aload_n hx hb d_Mod_trap_95 rfl (lv_at hl 1 rfl) ?_
                  refine va_get (D := Dg) (ci := 3) (v := .ref (a 11)) (C := R_Mod) (T := F_Mod) (N := 17) hx hb hT in_Mod hown hK hP 0 rfl rfl 13 (by decide) (hT _ tw2_239) (fun _ h9 => h9) rfl d_Mod_trap_96 ?_
                  refine lv_bipush (v := 40) hx hb d_Mod_trap_99 (by decide) ?_
                  refine lv_iload_n hx hb d_Mod_trap_101 rfl (lv_at hl 2 rfl) ?_
                  refine lv_imul hx hb d_Mod_trap_102 ?_
                  refine lv_aload_n hx hb d_Mod_trap_103 rfl (lv_at hl 1 rfl) ?_
                  refine va_get (D := Dg) (ci := 3) (v := .ref (a 6)) (C := R_Mod) (T := F_Mod) (N := 17) hx hb hT in_Mod hown hK hP 0 rfl rfl 8 (by decide) (hT _ tw2_234) (fun _ h9 => h9) rfl d_Mod_trap_104 ?_
                  refine lv_iload_n hx hb d_Mod_trap_107 rfl (lv_at hl 2 rfl) ?_
                  refine va_iald (f := (D 5)) hx hb hK hP 6 0 rfl rfl (dm_in hm) d_Mod_trap_108 ?_
                  refine lv_iadd hx hb d_Mod_trap_109 ?_
                  refine lv_iconst (v := 1) hx hb d_Mod_trap_110 (by decide) ?_
                  refine lv_isub hx hb d_Mod_trap_111 ?_
                  refine va_iald (f := (D 10)) hx hb hK hP 11 0 rfl rfl (dtr_div hm h92 h11) d_Mod_trap_112 ?_
                  refine lv_if_ne (tgt := 120) hx hb d_Mod_trap_113 (by decide) (fun h113 => ?_) (fun h113 => ?_)
                  · refine lv_iconst (v := 0) hx hb d_Mod_trap_120 (by decide) ?_
                    exact kp_i F hlocks hret hS d_Mod_trap_121 (by unfold dTrap; rw [if_neg h11, if_neg (fun z => h26 z.2), if_neg (fun z => h67 z.2), if_neg (fun z => h73 z.1), if_neg (fun z => h113 z.2)])
                  · refine lv_iconst (v := 3) hx hb d_Mod_trap_116 (by decide) ?_
                    refine lv_goto (tgt := 121) hx hb d_Mod_trap_117 (by decide) ?_
                    exact kp_i F hlocks hret hS d_Mod_trap_121 (by unfold dTrap; rw [if_neg h11, if_neg (fun z => h26 z.2), if_neg (fun z => h67 z.2), if_neg (fun z => h73 z.1), if_pos ⟨h92, h113⟩])
              · refine lv_aload_n hx hb d_Mod_trap_76 rfl (lv_at hl 1 rfl) ?_
                refine va_get (D := Dg) (ci := 3) (v := .ref (a 7)) (C := R_Mod) (T := F_Mod) (N := 17) hx hb hT in_Mod hown hK hP 0 rfl rfl 9 (by decide) (hT _ tw2_235) (fun _ h9 => h9) rfl d_Mod_trap_77 ?_
                refine lv_iload_n hx hb d_Mod_trap_80 rfl (lv_at hl 2 rfl) ?_
                refine va_iald (f := (D 6)) hx hb hK hP 7 0 rfl rfl (dm_in hm) d_Mod_trap_81 ?_
                refine lv_bipush (v := 10) hx hb d_Mod_trap_82 (by decide) ?_
                refine lv_icmp_ne (tgt := 89) hx hb d_Mod_trap_84 (by decide) (fun h84 => ?_) (fun h84 => ?_)
                · refine lv_iload_n hx hb d_Mod_trap_89 rfl (lv_at hl 3 rfl) ?_
                  refine lv_bipush (v := 47) hx hb d_Mod_trap_90 (by decide) ?_
                  refine lv_icmp_ne (tgt := 120) hx hb d_Mod_trap_92 (by decide) (fun h92 => ?_) (fun h92 => ?_)
                  · refine lv_iconst (v := 0) hx hb d_Mod_trap_120 (by decide) ?_
                    exact kp_i F hlocks hret hS d_Mod_trap_121 (by unfold dTrap; rw [if_neg h11, if_neg (fun z => h26 z.2), if_neg (fun z => h67 z.2), if_neg (fun z => h84 z.2), if_neg (fun z => h92 z.1)])
                  · refine lv_aload_n hx hb d_Mod_trap_95 rfl (lv_at hl 1 rfl) ?_
                    refine va_get (D := Dg) (ci := 3) (v := .ref (a 11)) (C := R_Mod) (T := F_Mod) (N := 17) hx hb hT in_Mod hown hK hP 0 rfl rfl 13 (by decide) (hT _ tw2_239) (fun _ h9 => h9) rfl d_Mod_trap_96 ?_
                    refine lv_bipush (v := 40) hx hb d_Mod_trap_99 (by decide) ?_
                    refine lv_iload_n hx hb d_Mod_trap_101 rfl (lv_at hl 2 rfl) ?_
                    refine lv_imul hx hb d_Mod_trap_102 ?_
                    refine lv_aload_n hx hb d_Mod_trap_103 rfl (lv_at hl 1 rfl) ?_
                    refine va_get (D := Dg) (ci := 3) (v := .ref (a 6)) (C := R_Mod) (T := F_Mod) (N := 17) hx hb hT in_Mod hown hK hP 0 rfl rfl 8 (by decide) (hT _ tw2_234) (fun _ h9 => h9) rfl d_Mod_trap_104 ?_
                    refine lv_iload_n hx hb d_Mod_trap_107 rfl (lv_at hl 2 rfl) ?_
                    refine va_iald (f := (D 5)) hx hb hK hP 6 0 rfl rfl (dm_in hm) d_Mod_trap_108 ?_
                    refine lv_iadd hx hb d_Mod_trap_109 ?_
                    refine lv_iconst (v := 1) hx hb d_Mod_trap_110 (by decide) ?_
                    refine lv_isub hx hb d_Mod_trap_111 ?_
                    refine va_iald (f := (D 10)) hx hb hK hP 11 0 rfl rfl (dtr_div hm h92 h11) d_Mod_trap_112 ?_
                    refine lv_if_ne (tgt := 120) hx hb d_Mod_trap_113 (by decide) (fun h113 => ?_) (fun h113 => ?_)
                    · refine lv_iconst (v := 0) hx hb d_Mod_trap_120 (by decide) ?_
                      exact kp_i F hlocks hret hS d_Mod_trap_121 (by unfold dTrap; rw [if_neg h11, if_neg (fun z => h26 z.2), if_neg (fun z => h67 z.2), if_neg (fun z => h84 z.2), if_neg (fun z => h113 z.2)])
                    · refine lv_iconst (v := 3) hx hb d_Mod_trap_116 (by decide) ?_
                      refine lv_goto (tgt := 121) hx hb d_Mod_trap_117 (by decide) ?_
                      exact kp_i F hlocks hret hS d_Mod_trap_121 (by unfold dTrap; rw [if_neg h11, if_neg (fun z => h26 z.2), if_neg (fun z => h67 z.2), if_neg (fun z => h84 z.2), if_pos ⟨h92, h113⟩])
                · refine lv_iconst (v := 2) hx hb d_Mod_trap_87 (by decide) ?_
                  exact kp_i F hlocks hret hS d_Mod_trap_88 (by unfold dTrap; rw [if_neg h11, if_neg (fun z => h26 z.2), if_neg (fun z => h67 z.2), if_pos ⟨h73, h84⟩])
          · refine lv_iload_n hx hb d_Mod_trap_43 rfl (lv_at hl 2 rfl) ?_
            refine lv_bipush (v := 68) hx hb d_Mod_trap_44 (by decide) ?_
            refine lv_icmp_ne (tgt := 53) hx hb d_Mod_trap_46 (by decide) (fun h46 => ?_) (fun h46 => ?_)
            · refine lv_iconst (v := 0) hx hb d_Mod_trap_53 (by decide) ?_
              refine lv_istore_n hx hb d_Mod_trap_54 rfl hl (by decide) rfl (fun ls hl => ?_)
              have hl : lv_has ls 4 [(3, .int 0), (0, .ref (a 0)), (1, .int mm), (2, .int c)] := hl
              refine lv_iload_n hx hb d_Mod_trap_55 rfl (lv_at hl 0 rfl) ?_
              refine lv_if_eq (tgt := 70) hx hb d_Mod_trap_56 (by decide) (fun _ => ?_) (fun h9 => absurd (by decide) h9)
              refine lv_iload_n hx hb d_Mod_trap_70 rfl (lv_at hl 3 rfl) ?_
              refine lv_bipush (v := 67) hx hb d_Mod_trap_71 (by decide) ?_
              refine lv_icmp_ne (tgt := 89) hx hb d_Mod_trap_73 (by decide) (fun h73 => ?_) (fun h73 => ?_)
              · refine lv_iload_n hx hb d_Mod_trap_89 rfl (lv_at hl 3 rfl) ?_
                refine lv_bipush (v := 47) hx hb d_Mod_trap_90 (by decide) ?_
                refine lv_icmp_ne (tgt := 120) hx hb d_Mod_trap_92 (by decide) (fun h92 => ?_) (fun h92 => ?_)
                · refine lv_iconst (v := 0) hx hb d_Mod_trap_120 (by decide) ?_
                  exact kp_i F hlocks hret hS d_Mod_trap_121 (by unfold dTrap; rw [if_neg h11, if_neg (fun z => h26 z.2), if_neg (fun z => z.1 (by unfold sPuts; rw [if_neg (fun y => y.elim h34 (fun y => y.elim h40 h46))])), if_neg (fun z => h73 z.1), if_neg (fun z => h92 z.1)])
                · refine lv_aload_n hx hb d_Mod_trap_95 rfl (lv_at hl 1 rfl) ?_
                  refine va_get (D := Dg) (ci := 3) (v := .ref (a 11)) (C := R_Mod) (T := F_Mod) (N := 17) hx hb hT in_Mod hown hK hP 0 rfl rfl 13 (by decide) (hT _ tw2_239) (fun _ h9 => h9) rfl d_Mod_trap_96 ?_
                  refine lv_bipush (v := 40) hx hb d_Mod_trap_99 (by decide) ?_
                  refine lv_iload_n hx hb d_Mod_trap_101 rfl (lv_at hl 2 rfl) ?_
                  refine lv_imul hx hb d_Mod_trap_102 ?_
                  refine lv_aload_n hx hb d_Mod_trap_103 rfl (lv_at hl 1 rfl) ?_
                  refine va_get (D := Dg) (ci := 3) (v := .ref (a 6)) (C := R_Mod) (T := F_Mod) (N := 17) hx hb hT in_Mod hown hK hP 0 rfl rfl 8 (by decide) (hT _ tw2_234) (fun _ h9 => h9) rfl d_Mod_trap_104 ?_
                  refine lv_iload_n hx hb d_Mod_trap_107 rfl (lv_at hl 2 rfl) ?_
                  refine va_iald (f := (D 5)) hx hb hK hP 6 0 rfl rfl (dm_in hm) d_Mod_trap_108 ?_
                  refine lv_iadd hx hb d_Mod_trap_109 ?_
                  refine lv_iconst (v := 1) hx hb d_Mod_trap_110 (by decide) ?_
                  refine lv_isub hx hb d_Mod_trap_111 ?_
                  refine va_iald (f := (D 10)) hx hb hK hP 11 0 rfl rfl (dtr_div hm h92 h11) d_Mod_trap_112 ?_
                  refine lv_if_ne (tgt := 120) hx hb d_Mod_trap_113 (by decide) (fun h113 => ?_) (fun h113 => ?_)
                  · refine lv_iconst (v := 0) hx hb d_Mod_trap_120 (by decide) ?_
                    exact kp_i F hlocks hret hS d_Mod_trap_121 (by unfold dTrap; rw [if_neg h11, if_neg (fun z => h26 z.2), if_neg (fun z => z.1 (by unfold sPuts; rw [if_neg (fun y => y.elim h34 (fun y => y.elim h40 h46))])), if_neg (fun z => h73 z.1), if_neg (fun z => h113 z.2)])
                  · refine lv_iconst (v := 3) hx hb d_Mod_trap_116 (by decide) ?_
                    refine lv_goto (tgt := 121) hx hb d_Mod_trap_117 (by decide) ?_
                    exact kp_i F hlocks hret hS d_Mod_trap_121 (by unfold dTrap; rw [if_neg h11, if_neg (fun z => h26 z.2), if_neg (fun z => z.1 (by unfold sPuts; rw [if_neg (fun y => y.elim h34 (fun y => y.elim h40 h46))])), if_neg (fun z => h73 z.1), if_pos ⟨h92, h113⟩])
              · refine lv_aload_n hx hb d_Mod_trap_76 rfl (lv_at hl 1 rfl) ?_
                refine va_get (D := Dg) (ci := 3) (v := .ref (a 7)) (C := R_Mod) (T := F_Mod) (N := 17) hx hb hT in_Mod hown hK hP 0 rfl rfl 9 (by decide) (hT _ tw2_235) (fun _ h9 => h9) rfl d_Mod_trap_77 ?_
                refine lv_iload_n hx hb d_Mod_trap_80 rfl (lv_at hl 2 rfl) ?_
                refine va_iald (f := (D 6)) hx hb hK hP 7 0 rfl rfl (dm_in hm) d_Mod_trap_81 ?_
                refine lv_bipush (v := 10) hx hb d_Mod_trap_82 (by decide) ?_
                refine lv_icmp_ne (tgt := 89) hx hb d_Mod_trap_84 (by decide) (fun h84 => ?_) (fun h84 => ?_)
                · refine lv_iload_n hx hb d_Mod_trap_89 rfl (lv_at hl 3 rfl) ?_
                  refine lv_bipush (v := 47) hx hb d_Mod_trap_90 (by decide) ?_
                  refine lv_icmp_ne (tgt := 120) hx hb d_Mod_trap_92 (by decide) (fun h92 => ?_) (fun h92 => ?_)
                  · refine lv_iconst (v := 0) hx hb d_Mod_trap_120 (by decide) ?_
                    exact kp_i F hlocks hret hS d_Mod_trap_121 (by unfold dTrap; rw [if_neg h11, if_neg (fun z => h26 z.2), if_neg (fun z => z.1 (by unfold sPuts; rw [if_neg (fun y => y.elim h34 (fun y => y.elim h40 h46))])), if_neg (fun z => h84 z.2), if_neg (fun z => h92 z.1)])
                  · refine lv_aload_n hx hb d_Mod_trap_95 rfl (lv_at hl 1 rfl) ?_
                    refine va_get (D := Dg) (ci := 3) (v := .ref (a 11)) (C := R_Mod) (T := F_Mod) (N := 17) hx hb hT in_Mod hown hK hP 0 rfl rfl 13 (by decide) (hT _ tw2_239) (fun _ h9 => h9) rfl d_Mod_trap_96 ?_
                    refine lv_bipush (v := 40) hx hb d_Mod_trap_99 (by decide) ?_
                    refine lv_iload_n hx hb d_Mod_trap_101 rfl (lv_at hl 2 rfl) ?_
                    refine lv_imul hx hb d_Mod_trap_102 ?_
                    refine lv_aload_n hx hb d_Mod_trap_103 rfl (lv_at hl 1 rfl) ?_
                    refine va_get (D := Dg) (ci := 3) (v := .ref (a 6)) (C := R_Mod) (T := F_Mod) (N := 17) hx hb hT in_Mod hown hK hP 0 rfl rfl 8 (by decide) (hT _ tw2_234) (fun _ h9 => h9) rfl d_Mod_trap_104 ?_
                    refine lv_iload_n hx hb d_Mod_trap_107 rfl (lv_at hl 2 rfl) ?_
                    refine va_iald (f := (D 5)) hx hb hK hP 6 0 rfl rfl (dm_in hm) d_Mod_trap_108 ?_
                    refine lv_iadd hx hb d_Mod_trap_109 ?_
                    refine lv_iconst (v := 1) hx hb d_Mod_trap_110 (by decide) ?_
                    refine lv_isub hx hb d_Mod_trap_111 ?_
                    refine va_iald (f := (D 10)) hx hb hK hP 11 0 rfl rfl (dtr_div hm h92 h11) d_Mod_trap_112 ?_
                    refine lv_if_ne (tgt := 120) hx hb d_Mod_trap_113 (by decide) (fun h113 => ?_) (fun h113 => ?_)
                    · refine lv_iconst (v := 0) hx hb d_Mod_trap_120 (by decide) ?_
                      exact kp_i F hlocks hret hS d_Mod_trap_121 (by unfold dTrap; rw [if_neg h11, if_neg (fun z => h26 z.2), if_neg (fun z => z.1 (by unfold sPuts; rw [if_neg (fun y => y.elim h34 (fun y => y.elim h40 h46))])), if_neg (fun z => h84 z.2), if_neg (fun z => h113 z.2)])
                    · refine lv_iconst (v := 3) hx hb d_Mod_trap_116 (by decide) ?_
                      refine lv_goto (tgt := 121) hx hb d_Mod_trap_117 (by decide) ?_
                      exact kp_i F hlocks hret hS d_Mod_trap_121 (by unfold dTrap; rw [if_neg h11, if_neg (fun z => h26 z.2), if_neg (fun z => z.1 (by unfold sPuts; rw [if_neg (fun y => y.elim h34 (fun y => y.elim h40 h46))])), if_neg (fun z => h84 z.2), if_pos ⟨h92, h113⟩])
                · refine lv_iconst (v := 2) hx hb d_Mod_trap_87 (by decide) ?_
                  exact kp_i F hlocks hret hS d_Mod_trap_88 (by unfold dTrap; rw [if_neg h11, if_neg (fun z => h26 z.2), if_neg (fun z => z.1 (by unfold sPuts; rw [if_neg (fun y => y.elim h34 (fun y => y.elim h40 h46))])), if_pos ⟨h73, h84⟩])
            · refine lv_iconst (v := 1) hx hb d_Mod_trap_49 (by decide) ?_
              refine lv_goto (tgt := 54) hx hb d_Mod_trap_50 (by decide) ?_
              refine lv_istore_n hx hb d_Mod_trap_54 rfl hl (by decide) rfl (fun ls hl => ?_)
              have hl : lv_has ls 4 [(3, .int 1), (0, .ref (a 0)), (1, .int mm), (2, .int c)] := hl
              refine lv_iload_n hx hb d_Mod_trap_55 rfl (lv_at hl 0 rfl) ?_
              refine lv_if_eq (tgt := 70) hx hb d_Mod_trap_56 (by decide) (fun h9 => absurd h9 (by decide)) (fun _ => ?_)
              refine lv_aload_n hx hb d_Mod_trap_59 rfl (lv_at hl 1 rfl) ?_
              refine va_get (D := Dg) (ci := 3) (v := .ref (a 6)) (C := R_Mod) (T := F_Mod) (N := 17) hx hb hT in_Mod hown hK hP 0 rfl rfl 8 (by decide) (hT _ tw2_234) (fun _ h9 => h9) rfl d_Mod_trap_60 ?_
              refine lv_iload_n hx hb d_Mod_trap_63 rfl (lv_at hl 2 rfl) ?_
              refine va_iald (f := (D 5)) hx hb hK hP 6 0 rfl rfl (dm_in hm) d_Mod_trap_64 ?_
              refine lv_bipush (v := 40) hx hb d_Mod_trap_65 (by decide) ?_
              refine lv_icmp_eq (tgt := 87) hx hb d_Mod_trap_67 (by decide) (fun h67 => ?_) (fun h67 => ?_)
              · refine lv_iconst (v := 2) hx hb d_Mod_trap_87 (by decide) ?_
                exact kp_i F hlocks hret hS d_Mod_trap_88 (by unfold dTrap; rw [if_neg h11, if_neg (fun z => h26 z.2), if_pos ⟨(by rw [h46]; decide), h67⟩])
              · refine lv_iload_n hx hb d_Mod_trap_70 rfl (lv_at hl 3 rfl) ?_
                refine lv_bipush (v := 67) hx hb d_Mod_trap_71 (by decide) ?_
                refine lv_icmp_ne (tgt := 89) hx hb d_Mod_trap_73 (by decide) (fun h73 => ?_) (fun h73 => ?_)
                · refine lv_iload_n hx hb d_Mod_trap_89 rfl (lv_at hl 3 rfl) ?_
                  refine lv_bipush (v := 47) hx hb d_Mod_trap_90 (by decide) ?_
                  refine lv_icmp_ne (tgt := 120) hx hb d_Mod_trap_92 (by decide) (fun h92 => ?_) (fun h92 => ?_)
                  · refine lv_iconst (v := 0) hx hb d_Mod_trap_120 (by decide) ?_
                    exact kp_i F hlocks hret hS d_Mod_trap_121 (by unfold dTrap; rw [if_neg h11, if_neg (fun z => h26 z.2), if_neg (fun z => h67 z.2), if_neg (fun z => h73 z.1), if_neg (fun z => h92 z.1)])
                  · refine lv_aload_n hx hb d_Mod_trap_95 rfl (lv_at hl 1 rfl) ?_
                    refine va_get (D := Dg) (ci := 3) (v := .ref (a 11)) (C := R_Mod) (T := F_Mod) (N := 17) hx hb hT in_Mod hown hK hP 0 rfl rfl 13 (by decide) (hT _ tw2_239) (fun _ h9 => h9) rfl d_Mod_trap_96 ?_
                    refine lv_bipush (v := 40) hx hb d_Mod_trap_99 (by decide) ?_
                    refine lv_iload_n hx hb d_Mod_trap_101 rfl (lv_at hl 2 rfl) ?_
                    refine lv_imul hx hb d_Mod_trap_102 ?_
                    refine lv_aload_n hx hb d_Mod_trap_103 rfl (lv_at hl 1 rfl) ?_
                    refine va_get (D := Dg) (ci := 3) (v := .ref (a 6)) (C := R_Mod) (T := F_Mod) (N := 17) hx hb hT in_Mod hown hK hP 0 rfl rfl 8 (by decide) (hT _ tw2_234) (fun _ h9 => h9) rfl d_Mod_trap_104 ?_
                    refine lv_iload_n hx hb d_Mod_trap_107 rfl (lv_at hl 2 rfl) ?_
                    refine va_iald (f := (D 5)) hx hb hK hP 6 0 rfl rfl (dm_in hm) d_Mod_trap_108 ?_
                    refine lv_iadd hx hb d_Mod_trap_109 ?_
                    refine lv_iconst (v := 1) hx hb d_Mod_trap_110 (by decide) ?_
                    refine lv_isub hx hb d_Mod_trap_111 ?_
                    refine va_iald (f := (D 10)) hx hb hK hP 11 0 rfl rfl (dtr_div hm h92 h11) d_Mod_trap_112 ?_
                    refine lv_if_ne (tgt := 120) hx hb d_Mod_trap_113 (by decide) (fun h113 => ?_) (fun h113 => ?_)
                    · refine lv_iconst (v := 0) hx hb d_Mod_trap_120 (by decide) ?_
                      exact kp_i F hlocks hret hS d_Mod_trap_121 (by unfold dTrap; rw [if_neg h11, if_neg (fun z => h26 z.2), if_neg (fun z => h67 z.2), if_neg (fun z => h73 z.1), if_neg (fun z => h113 z.2)])
                    · refine lv_iconst (v := 3) hx hb d_Mod_trap_116 (by decide) ?_
                      refine lv_goto (tgt := 121) hx hb d_Mod_trap_117 (by decide) ?_
                      exact kp_i F hlocks hret hS d_Mod_trap_121 (by unfold dTrap; rw [if_neg h11, if_neg (fun z => h26 z.2), if_neg (fun z => h67 z.2), if_neg (fun z => h73 z.1), if_pos ⟨h92, h113⟩])
                · refine lv_aload_n hx hb d_Mod_trap_76 rfl (lv_at hl 1 rfl) ?_
                  refine va_get (D := Dg) (ci := 3) (v := .ref (a 7)) (C := R_Mod) (T := F_Mod) (N := 17) hx hb hT in_Mod hown hK hP 0 rfl rfl 9 (by decide) (hT _ tw2_235) (fun _ h9 => h9) rfl d_Mod_trap_77 ?_
                  refine lv_iload_n hx hb d_Mod_trap_80 rfl (lv_at hl 2 rfl) ?_
                  refine va_iald (f := (D 6)) hx hb hK hP 7 0 rfl rfl (dm_in hm) d_Mod_trap_81 ?_
                  refine lv_bipush (v := 10) hx hb d_Mod_trap_82 (by decide) ?_
                  refine lv_icmp_ne (tgt := 89) hx hb d_Mod_trap_84 (by decide) (fun h84 => ?_) (fun h84 => ?_)
                  · refine lv_iload_n hx hb d_Mod_trap_89 rfl (lv_at hl 3 rfl) ?_
                    refine lv_bipush (v := 47) hx hb d_Mod_trap_90 (by decide) ?_
                    refine lv_icmp_ne (tgt := 120) hx hb d_Mod_trap_92 (by decide) (fun h92 => ?_) (fun h92 => ?_)
                    · refine lv_iconst (v := 0) hx hb d_Mod_trap_120 (by decide) ?_
                      exact kp_i F hlocks hret hS d_Mod_trap_121 (by unfold dTrap; rw [if_neg h11, if_neg (fun z => h26 z.2), if_neg (fun z => h67 z.2), if_neg (fun z => h84 z.2), if_neg (fun z => h92 z.1)])
                    · refine lv_aload_n hx hb d_Mod_trap_95 rfl (lv_at hl 1 rfl) ?_
                      refine va_get (D := Dg) (ci := 3) (v := .ref (a 11)) (C := R_Mod) (T := F_Mod) (N := 17) hx hb hT in_Mod hown hK hP 0 rfl rfl 13 (by decide) (hT _ tw2_239) (fun _ h9 => h9) rfl d_Mod_trap_96 ?_
                      refine lv_bipush (v := 40) hx hb d_Mod_trap_99 (by decide) ?_
                      refine lv_iload_n hx hb d_Mod_trap_101 rfl (lv_at hl 2 rfl) ?_
                      refine lv_imul hx hb d_Mod_trap_102 ?_
                      refine lv_aload_n hx hb d_Mod_trap_103 rfl (lv_at hl 1 rfl) ?_
                      refine va_get (D := Dg) (ci := 3) (v := .ref (a 6)) (C := R_Mod) (T := F_Mod) (N := 17) hx hb hT in_Mod hown hK hP 0 rfl rfl 8 (by decide) (hT _ tw2_234) (fun _ h9 => h9) rfl d_Mod_trap_104 ?_
                      refine lv_iload_n hx hb d_Mod_trap_107 rfl (lv_at hl 2 rfl) ?_
                      refine va_iald (f := (D 5)) hx hb hK hP 6 0 rfl rfl (dm_in hm) d_Mod_trap_108 ?_
                      refine lv_iadd hx hb d_Mod_trap_109 ?_
                      refine lv_iconst (v := 1) hx hb d_Mod_trap_110 (by decide) ?_
                      refine lv_isub hx hb d_Mod_trap_111 ?_
                      refine va_iald (f := (D 10)) hx hb hK hP 11 0 rfl rfl (dtr_div hm h92 h11) d_Mod_trap_112 ?_
                      refine lv_if_ne (tgt := 120) hx hb d_Mod_trap_113 (by decide) (fun h113 => ?_) (fun h113 => ?_)
                      · refine lv_iconst (v := 0) hx hb d_Mod_trap_120 (by decide) ?_
                        exact kp_i F hlocks hret hS d_Mod_trap_121 (by unfold dTrap; rw [if_neg h11, if_neg (fun z => h26 z.2), if_neg (fun z => h67 z.2), if_neg (fun z => h84 z.2), if_neg (fun z => h113 z.2)])
                      · refine lv_iconst (v := 3) hx hb d_Mod_trap_116 (by decide) ?_
                        refine lv_goto (tgt := 121) hx hb d_Mod_trap_117 (by decide) ?_
                        exact kp_i F hlocks hret hS d_Mod_trap_121 (by unfold dTrap; rw [if_neg h11, if_neg (fun z => h26 z.2), if_neg (fun z => h67 z.2), if_neg (fun z => h84 z.2), if_pos ⟨h92, h113⟩])
                  · refine lv_iconst (v := 2) hx hb d_Mod_trap_87 (by decide) ?_
                    exact kp_i F hlocks hret hS d_Mod_trap_88 (by unfold dTrap; rw [if_neg h11, if_neg (fun z => h26 z.2), if_neg (fun z => h67 z.2), if_pos ⟨h73, h84⟩])
      · refine lv_iconst (v := 1) hx hb d_Mod_trap_29 (by decide) ?_
        exact kp_i F hlocks hret hS d_Mod_trap_30 (by unfold dTrap; rw [if_neg h11, if_pos ⟨h17, h26⟩])
