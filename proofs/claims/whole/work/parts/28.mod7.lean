theorem sMin_no {n x : Int32} (h1 : ¬ n ≤ x) (h2 : ¬ 3000 ≤ x) (h : sMin n 3000 ≤ x) : False := by
  unfold sMin at h
  split at h
  · exact h2 h
  · exact h1 h
theorem sMin_yes {n x : Int32} (h : n ≤ x ∨ 3000 ≤ x) : sMin n 3000 ≤ x := by
  unfold sMin
  split
  · rename_i c
    rcases h with h | h
    · exact Int32.le_trans (Int32.le_of_lt c) h
    · exact h
  · rename_i c
    rcases h with h | h
    · exact h
    · exact Int32.le_trans (Int32.not_lt.mp c) h

set_option maxRecDepth 100000 in
set_option maxHeartbeats 4000000 in
theorem c_Mod_run (l : Launch) (Dg : va_G) (a : Nat → Nat) (k : Nat → ClassId) (D : vSt) (z n : Int32) (H : Heap) (hP : va_P Dg classes (wD a k D) H) (hD : va_D (fun _ => True) (wD a k D)) (hfu : z = 0 ∨ ¬ D 14 2 = 0) (hro : runOkD z (dMac z) (sMost n) (u2 D 14 0 0)) : kMi l y_Mod_run b_Mod_run 7 (some FieldType.int) 4 90 [.ref (a 0), .int z, .int n] H (va_K Dg classes (kTy k)) Dg (wD a k D) (wD a k (dRunM D z n)) (dRunR D z n) := by
  refine k_of (by decide) (Nat.le_of_ble_eq_true rfl) ?_
  intro p e s m below meth cd ls F hlocks hret hname hh hX hl
  subst hh
  obtain ⟨hx, hb, hml, hown, hT⟩ := id F
  have hK : va_K Dg classes (kTy k) s := hX
  have hA : ∀ q : Nat, s.heap.size ≤ q → va_A (wD a k D) s.heap.size q := fun q h => Or.inr h
  have hD := hD.self (sz := s.heap.size)
  have hS : va_S (va_A (wD a k D) s.heap.size) s.heap s.heap [] := va_S.rf
  have hl : lv_has ls 7 [(0, .ref (a 0)), (1, .int z), (2, .int n)] := hl
  have h3000 := sMost_le n
  by_cases hz : z = 0
  · have hmac : dMac z = 0 := by unfold dMac; rw [if_pos hz]
    have hC : dRunC D z = 0 := by unfold dRunC; rw [if_pos hz]
    rw [hmac] at hro
    refine lv_aload_n hx hb d_Mod_run_0 rfl (lv_at hl 0 rfl) ?_
    refine lv_iload_n hx hb d_Mod_run_1 rfl (lv_at hl 1 rfl) ?_
    refine lv_if_eq (tgt := 16) hx hb d_Mod_run_2 (by decide) (fun _ => ?_) (fun h9 => absurd hz h9)
    refine lv_iconst (v := 0) hx hb d_Mod_run_16 (by decide) ?_
    refine va_put (D := Dg) (ci := 3) (v := .int 0) (ty := .int) (C := R_Mod) (T := F_Mod) (N := 17) hx hb hT in_Mod t_Mod t_Mod_ok n_Mod hown hK hP hD hS 0 rfl rfl 0 (by decide) (hT _ tw2_226) (fun _ h9 => h9) rfl (by decide +kernel) rfl rfl (Nat.le_of_ble_eq_true rfl) d_Mod_run_17 (fun H locs hP hD hS => ?_)
    have hP : va_P Dg classes (wD a k (u2 D 14 0 0)) H := hP
    have hD : va_D (va_A (wD a k D) s.heap.size) (wD a k (u2 D 14 0 0)) := hD
    obtain ⟨Ds1, hDs1⟩ : ∃ z9, z9 = (u2 D 14 0 0) := ⟨_, rfl⟩
    rw [← hDs1] at hP hD
    refine lv_aload_n hx hb d_Mod_run_20 rfl (lv_at hl 0 rfl) ?_
    refine va_get (D := Dg) (ci := 3) (v := .int 0) (C := R_Mod) (T := F_Mod) (N := 17) hx hb hT in_Mod hown hK hP 0 rfl rfl 0 (by decide) (hT _ tw2_226) (fun _ h9 => h9) (by rw [hDs1]; rfl) d_Mod_run_21 ?_
    refine lv_if_le (tgt := 29) hx hb d_Mod_run_24 (by decide) (fun _ => ?_) (fun h9 => absurd (by decide) h9)
    refine lv_iload_n hx hb d_Mod_run_29 rfl (lv_at hl 1 rfl) ?_
    refine lv_if_eq (tgt := 37) hx hb d_Mod_run_30 (by decide) (fun _ => ?_) (fun h9 => absurd hz h9)
    refine lv_iconst (v := 0) hx hb d_Mod_run_37 (by decide) ?_
    refine lv_istore_n hx hb d_Mod_run_38 rfl hl (by decide) rfl (fun ls hl => ?_)
    have hl : lv_has ls 7 [(3, .int 0), (0, .ref (a 0)), (1, .int z), (2, .int n)] := hl
    refine lv_iconst (v := 0) hx hb d_Mod_run_39 (by decide) ?_
    refine lv_istore hx hb d_Mod_run_40 hl (by decide) rfl (fun ls hl => ?_)
    have hl : lv_has ls 7 [(4, .int 0), (3, .int 0), (0, .ref (a 0)), (1, .int z), (2, .int n)] := hl
    refine k_while (σ := Nat × vSt) (fun f x H locs ls => x.1 + f = sMost n ∧ runOkD z 0 f x.2 ∧ dGoL z 0 (sMost n) (u2 D 14 0 0) = ((dGoL z 0 f x.2).1, (dGoL z 0 f x.2).2 + x.1) ∧ lv_has ls 7 [(4, .int (nI x.1)), (3, .int 0), (0, .ref (a 0)), (1, .int z), (2, .int n)] ∧ va_P Dg classes (wD a k x.2) H ∧ va_D (va_A (wD a k D) s.heap.size) (wD a k x.2) ∧ va_S (va_A (wD a k D) s.heap.size) s.heap H locs) ?_ (sMost n) (0, u2 D 14 0 0) ⟨by show 0 + sMost n = sMost n; omega, hro, rfl, (lv_sub hl [0, 1, 2, 3, 4] rfl), by rw [hDs1] at hP; exact hP, by rw [hDs1] at hD; exact hD, hS⟩
    rintro f ⟨i, Di⟩ H locs ls ⟨hif, hro5, hgo, hl, hP, hD, hS⟩ ih
    have hl : lv_has ls 7 [(4, .int (nI i)), (3, .int 0), (0, .ref (a 0)), (1, .int z), (2, .int n)] := hl
    have hP : va_P Dg classes (wD a k Di) H := hP
    have hD : va_D (va_A (wD a k D) s.heap.size) (wD a k Di) := hD
    have hif : i + f = sMost n := hif
    have hro5 : runOkD z 0 f Di := hro5
    have hgo : dGoL z 0 (sMost n) (u2 D 14 0 0) = ((dGoL z 0 f Di).1, (dGoL z 0 f Di).2 + i) := hgo
    refine lv_iload hx hb d_Mod_run_42 (lv_at hl 0 rfl) ?_
    refine lv_iload_n hx hb d_Mod_run_44 rfl (lv_at hl 4 rfl) ?_
    refine lv_icmp_ge (tgt := 157) hx hb d_Mod_run_45 (by decide) (fun h45 => ?_) (fun h45 => ?_)
    · obtain rfl : f = 0 := by have := (sMost_iff n (by omega)).mp (sMin_yes (Or.inl h45)); omega
      have hg : dGoL z 0 (sMost n) (u2 D 14 0 0) = (Di, i) := by rw [hgo]; show (Di, 0 + i) = (Di, i); rw [Nat.zero_add]
      refine lv_iload hx hb d_Mod_run_157 (lv_at hl 0 rfl) ?_
      exact km_i F hlocks hret hP hD hS d_Mod_run_159 (by unfold dRunR; rw [hC, if_pos (by decide), hmac, hg]) (by unfold dRunM; rw [hC, if_pos (by decide), hmac, hg])
    · refine lv_iload hx hb d_Mod_run_48 (lv_at hl 0 rfl) ?_
      refine lv_sipush (v := 3000) hx hb d_Mod_run_50 (by decide) ?_
      refine lv_icmp_ge (tgt := 157) hx hb d_Mod_run_53 (by decide) (fun h53 => ?_) (fun h53 => ?_)
      · obtain rfl : f = 0 := by have := (sMost_iff n (by omega)).mp (sMin_yes (Or.inr h53)); omega
        have hg : dGoL z 0 (sMost n) (u2 D 14 0 0) = (Di, i) := by rw [hgo]; show (Di, 0 + i) = (Di, i); rw [Nat.zero_add]
        refine lv_iload hx hb d_Mod_run_157 (lv_at hl 0 rfl) ?_
        exact km_i F hlocks hret hP hD hS d_Mod_run_159 (by unfold dRunR; rw [hC, if_pos (by decide), hmac, hg]) (by unfold dRunM; rw [hC, if_pos (by decide), hmac, hg])
      · have hf : i < sMost n := by rcases Nat.lt_or_ge i (sMost n) with y | y; exact y; exact absurd ((sMost_iff n (by omega)).mpr y) (fun y => sMin_no h45 h53 y)
        obtain ⟨f, rfl⟩ : ∃ g, f = g + 1 := ⟨f - 1, by omega⟩
        have e9 : dGoL z 0 (f + 1) Di = (if Di 8 (tn 0) = 0 then (if pOut (Di 4 (tn 0)) 0 (Di 14 1 - 1) = 0 then ((dGoL z 0 f (dRow 0 (dLen Di z 0) Di)).1, (dGoL z 0 f (dRow 0 (dLen Di z 0) Di)).2 + 1) else (u2 Di 8 (tn 0) 4, 0)) else (Di, 0)) := rfl
        refine lv_aload_n hx hb d_Mod_run_56 rfl (lv_at hl 2 rfl) ?_
        refine va_get (D := Dg) (ci := 3) (v := .ref (a 9)) (C := R_Mod) (T := F_Mod) (N := 17) hx hb hT in_Mod hown hK hP 0 rfl rfl 11 (by decide) (hT _ tw2_237) (fun _ h9 => h9) rfl d_Mod_run_57 ?_
        refine lv_iload_n hx hb d_Mod_run_60 rfl (lv_at hl 1 rfl) ?_
        refine va_iald (f := (Di 8)) hx hb hK hP 9 0 rfl rfl (show vp_in (nI 0) 2 from vp_in_nI (by decide) (by decide)) d_Mod_run_61 ?_
        refine lv_if_ne (tgt := 157) hx hb d_Mod_run_62 (by decide) (fun h62 => ?_) (fun h62 => ?_)
        · have hg : dGoL z 0 (sMost n) (u2 D 14 0 0) = (Di, i) := by rw [hgo, e9, if_neg h62]; show (_, 0 + i) = (_, i); rw [Nat.zero_add]
          refine lv_iload hx hb d_Mod_run_157 (lv_at hl 0 rfl) ?_
          exact km_i F hlocks hret hP hD hS d_Mod_run_159 (by unfold dRunR; rw [hC, if_pos (by decide), hmac, hg]) (by unfold dRunM; rw [hC, if_pos (by decide), hmac, hg])
        · refine lv_aload_n hx hb d_Mod_run_65 rfl (lv_at hl 2 rfl) ?_
          refine va_get (D := Dg) (ci := 3) (v := .ref (a 5)) (C := R_Mod) (T := F_Mod) (N := 17) hx hb hT in_Mod hown hK hP 0 rfl rfl 7 (by decide) (hT _ tw2_233) (fun _ h9 => h9) rfl d_Mod_run_66 ?_
          refine lv_iload_n hx hb d_Mod_run_69 rfl (lv_at hl 1 rfl) ?_
          refine va_iald (f := (Di 4)) hx hb hK hP 5 0 rfl rfl (show vp_in (nI 0) 2 from vp_in_nI (by decide) (by decide)) d_Mod_run_70 ?_
          refine lv_iconst (v := 0) hx hb d_Mod_run_71 (by decide) ?_
          refine lv_aload_n hx hb d_Mod_run_72 rfl (lv_at hl 2 rfl) ?_
          refine va_get (D := Dg) (ci := 3) (v := .int (Di 14 1)) (C := R_Mod) (T := F_Mod) (N := 17) hx hb hT in_Mod hown hK hP 0 rfl rfl 1 (by decide) (hT _ tw2_227) (fun _ h9 => h9) rfl d_Mod_run_73 ?_
          refine lv_iconst (v := 1) hx hb d_Mod_run_76 (by decide) ?_
          refine lv_isub hx hb d_Mod_run_77 ?_
          refine kp_S F (c_Mod_outside l Dg k ((Di 4) (Int32.toNatClampNeg 0)) 0 ((Di 14 1) - 1) _ ) kx_K hK kw_Mod_64 tw3_57 hS d_Mod_run_78 ⟨⟨by decide, by decide⟩, Nat.le_refl _, Nat.le_refl _⟩ rfl hl.1 rfl (Nat.le_of_ble_eq_true rfl) (fun locs hS => ?_)
          refine lv_if_eq (tgt := 94) hx hb d_Mod_run_81 (by decide) (fun h81 => ?_) (fun h81 => ?_)
          · obtain ⟨hrwi, hpl, hro2, hrow, hro7⟩ := hro5 h62 h81
            have hgo7 : dGoL z 0 (sMost n) (u2 D 14 0 0) = ((dGoL z 0 f (dRow 0 (dLen Di z 0) Di)).1, (dGoL z 0 f (dRow 0 (dLen Di z 0) Di)).2 + (i + 1)) := by rw [hgo, e9, if_pos h62, if_pos h81]; show (_, _ + 1 + i) = (_, _ + (i + 1)); rw [Nat.add_assoc, Nat.add_comm 1 i]
            refine lv_iload_n hx hb d_Mod_run_94 rfl (lv_at hl 3 rfl) ?_
            refine lv_if_eq (tgt := 112) hx hb d_Mod_run_95 (by decide) (fun _ => ?_) (fun h9 => absurd hz h9)
            refine lv_iconst (v := (-1)) hx hb d_Mod_run_112 (by decide) ?_
            refine lv_istore hx hb d_Mod_run_113 hl (by decide) rfl (fun ls hl => ?_)
            have hl : lv_has ls 7 [(5, .int (-1)), (4, .int (nI i)), (3, .int 0), (0, .ref (a 0)), (1, .int z), (2, .int n)] := hl
            refine lv_iload hx hb d_Mod_run_115 (lv_at hl 0 rfl) ?_
            refine lv_if_ge (tgt := 124) hx hb d_Mod_run_117 (by decide) (fun h9 => absurd h9 (by decide)) (fun _ => ?_)
            refine lv_iconst (v := 1) hx hb d_Mod_run_120 (by decide) ?_
            refine lv_goto (tgt := 130) hx hb d_Mod_run_121 (by decide) ?_
            have elen : dLen Di z 0 = 1 := by unfold dLen; rw [if_pos hz]
            change W _ _ _ _ _ _ _ _ _ _ _ _ _ _ _ (F0 m 130 ls [.int (nI 1)])
            obtain ⟨len, elen2⟩ : ∃ z9, z9 = 1 := ⟨_, rfl⟩
            have hlen4 : len ≤ 4 := by rw [elen2]; decide
            rw [← elen2]
            rw [← elen2] at elen
            rw [elen] at hrow hro7 hgo7
            refine lv_istore hx hb d_Mod_run_130 hl (by decide) rfl (fun ls hl => ?_)
            have hl : lv_has ls 7 [(6, .int (nI len)), (5, .int (-1)), (4, .int (nI i)), (3, .int 0), (0, .ref (a 0)), (1, .int z), (2, .int n)] := hl
            refine k_while (σ := Nat × vSt) (fun f x H locs ls => f = x.1 ∧ x.1 ≤ 4 ∧ rowOkD 0 x.1 x.2 ∧ dRow 0 x.1 x.2 = dRow 0 len Di ∧ lv_has ls 7 [(6, .int (nI x.1)), (4, .int (nI i)), (3, .int 0), (0, .ref (a 0)), (1, .int z), (2, .int n)] ∧ va_P Dg classes (wD a k x.2) H ∧ va_D (va_A (wD a k D) s.heap.size) (wD a k x.2) ∧ va_S (va_A (wD a k D) s.heap.size) s.heap H locs) ?_ len (len, Di) ⟨rfl, hlen4, hrow, rfl, (lv_sub hl [0, 2, 3, 4, 5, 6] rfl), hP, hD, hS⟩
            rintro f2 ⟨j, Dj⟩ H locs ls ⟨efj, hj, hroj, hdr, hl, hP, hD, hS⟩ ih2
            have hl : lv_has ls 7 [(6, .int (nI j)), (4, .int (nI i)), (3, .int 0), (0, .ref (a 0)), (1, .int z), (2, .int n)] := hl
            have hP : va_P Dg classes (wD a k Dj) H := hP
            have hD : va_D (va_A (wD a k D) s.heap.size) (wD a k Dj) := hD
            have hj : j ≤ 4 := hj
            have hroj : rowOkD 0 j Dj := hroj
            have hdr : dRow 0 j Dj = dRow 0 len Di := hdr
            refine lv_iload hx hb d_Mod_run_132 (lv_at hl 0 rfl) ?_
            refine lv_if_le (tgt := 151) hx hb d_Mod_run_134 (by decide) (fun h134 => ?_) (fun h134 => ?_)
            · have hend : Dj = dRow 0 len Di := by rw [← hdr, show j = 0 by have := (nI_leI (b := 0) (by omega) (by decide)).mp h134; omega]; rfl
              refine lv_iinc (k := 1) (v := (nI (i + 1))) hx hb d_Mod_run_151 hl rfl (nI_succ _).symm (by decide) rfl (fun ls hl => ?_)
              have hl : lv_has ls 7 [(4, .int (nI (i + 1))), (6, .int (nI j)), (3, .int 0), (0, .ref (a 0)), (1, .int z), (2, .int n)] := hl
              refine lv_goto (tgt := 42) hx hb d_Mod_run_154 (by decide) ?_
              exact ih f (i + 1, Dj) H locs ls (by omega) ⟨by show i + 1 + f = sMost n; omega, by show runOkD z 0 f Dj; rw [hend]; exact hro7, by show _ = ((dGoL z 0 f Dj).1, (dGoL z 0 f Dj).2 + (i + 1)); rw [hend]; exact hgo7, (lv_sub hl [0, 2, 3, 4, 5] rfl), hP, hD, hS⟩
            · obtain ⟨g2, rfl⟩ : ∃ y, j = y + 1 := by rcases Nat.eq_zero_or_pos j with y | y; exact absurd (by rw [y]; decide) h134; exact ⟨j - 1, by omega⟩
              obtain ⟨hok, hplj, hokc, hnn, hnx⟩ := hroj
              have edr : dRow 0 (g2 + 1) Dj = (if dActR Dj 0 = 0 then dActM Dj 0 else dRow 0 g2 (dActM Dj 0)) := rfl
              refine lv_aload_n hx hb d_Mod_run_137 rfl (lv_at hl 3 rfl) ?_
              refine lv_iload_n hx hb d_Mod_run_138 rfl (lv_at hl 2 rfl) ?_
              refine km_Vi (wr := []) F (c_Mod_act l Dg a k Dj 0 _ hP (hD.weaken (fun _ _ _ _ => trivial)) hok hplj hokc hnn) kx_K hK kw_Mod_132 tw3_112 ts_22 (va_recv (ci := 3) (q0 := 0) hK hP rfl rfl) hP hD hS hA [0, 1, 2, 3, 4, 5, 6, 7, 8, 9, 10, 11, 12, 13, 14] [] rfl rfl (by decide) (by decide) d_Mod_run_139 ⟨⟨by decide, by decide⟩, Nat.le_refl _, Nat.le_refl _⟩ rfl hl.1 rfl (Nat.le_of_ble_eq_true rfl) (fun H locs hP hD hS => ?_)
              have hP : va_P Dg classes (wD a k (dActM Dj 0)) H := hP
              have hD : va_D (va_A (wD a k D) s.heap.size) (wD a k (dActM Dj 0)) := hD
              obtain ⟨Ds2, hDs2⟩ : ∃ z9, z9 = (dActM Dj 0) := ⟨_, rfl⟩
              rw [← hDs2] at hP hD
              refine lv_if_eq (tgt := 151) hx hb d_Mod_run_142 (by decide) (fun h142 => ?_) (fun h142 => ?_)
              · have hend : Ds2 = dRow 0 len Di := by rw [← hdr, edr, if_pos h142, hDs2]
                refine lv_iinc (k := 1) (v := (nI (i + 1))) hx hb d_Mod_run_151 hl rfl (nI_succ _).symm (by decide) rfl (fun ls hl => ?_)
                have hl : lv_has ls 7 [(4, .int (nI (i + 1))), (6, .int (nI (g2 + 1))), (3, .int 0), (0, .ref (a 0)), (1, .int z), (2, .int n)] := hl
                refine lv_goto (tgt := 42) hx hb d_Mod_run_154 (by decide) ?_
                exact ih f (i + 1, Ds2) H locs ls (by omega) ⟨by show i + 1 + f = sMost n; omega, by show runOkD z 0 f Ds2; rw [hend]; exact hro7, by show _ = ((dGoL z 0 f Ds2).1, (dGoL z 0 f Ds2).2 + (i + 1)); rw [hend]; exact hgo7, (lv_sub hl [0, 2, 3, 4, 5] rfl), hP, hD, hS⟩
              · refine lv_iinc (k := 0) (v := (nI g2)) hx hb d_Mod_run_145 hl rfl (pk_m1 _) (by decide) rfl (fun ls hl => ?_)
                have hl : lv_has ls 7 [(6, .int (nI g2)), (4, .int (nI i)), (3, .int 0), (0, .ref (a 0)), (1, .int z), (2, .int n)] := hl
                refine lv_goto (tgt := 132) hx hb d_Mod_run_148 (by decide) ?_
                exact ih2 g2 (g2, Ds2) H locs ls (by omega) ⟨rfl, by show g2 ≤ 4; omega, by show rowOkD 0 g2 Ds2; rw [hDs2]; exact hnx h142, by show dRow 0 g2 Ds2 = _; rw [hDs2, ← hdr, edr, if_neg h142], (lv_sub hl [0, 1, 2, 3, 4, 5] rfl), hP, hD, hS⟩
          · refine lv_aload_n hx hb d_Mod_run_84 rfl (lv_at hl 2 rfl) ?_
            refine va_get (D := Dg) (ci := 3) (v := .ref (a 9)) (C := R_Mod) (T := F_Mod) (N := 17) hx hb hT in_Mod hown hK hP 0 rfl rfl 11 (by decide) (hT _ tw2_237) (fun _ h9 => h9) rfl d_Mod_run_85 ?_
            refine lv_iload_n hx hb d_Mod_run_88 rfl (lv_at hl 1 rfl) ?_
            refine lv_iconst (v := 4) hx hb d_Mod_run_89 (by decide) ?_
            refine va_iast hx hb hK hP hD hS 9 0 rfl rfl (show vp_in (nI 0) 2 from vp_in_nI (by decide) (by decide)) d_Mod_run_90 (fun H locs hP hD hS => ?_)
            have hP : va_P Dg classes (wD a k (u2 Di 8 (Int32.toNatClampNeg 0) 4)) H := hP
            have hD : va_D (va_A (wD a k D) s.heap.size) (wD a k (u2 Di 8 (Int32.toNatClampNeg 0) 4)) := hD
            obtain ⟨Ds3, hDs3⟩ : ∃ z9, z9 = (u2 Di 8 (Int32.toNatClampNeg 0) 4) := ⟨_, rfl⟩
            rw [← hDs3] at hP hD
            refine lv_goto (tgt := 42) hx hb d_Mod_run_91 (by decide) ?_
            refine lv_iload hx hb d_Mod_run_42 (lv_at hl 0 rfl) ?_
            refine lv_iload_n hx hb d_Mod_run_44 rfl (lv_at hl 4 rfl) ?_
            refine lv_icmp_ge (tgt := 157) hx hb d_Mod_run_45 (by decide) (fun h9 => absurd h9 h45) (fun _ => ?_)
            refine lv_iload hx hb d_Mod_run_48 (lv_at hl 0 rfl) ?_
            refine lv_sipush (v := 3000) hx hb d_Mod_run_50 (by decide) ?_
            refine lv_icmp_ge (tgt := 157) hx hb d_Mod_run_53 (by decide) (fun h9 => absurd h9 h53) (fun _ => ?_)
            refine lv_aload_n hx hb d_Mod_run_56 rfl (lv_at hl 2 rfl) ?_
            refine va_get (D := Dg) (ci := 3) (v := .ref (a 9)) (C := R_Mod) (T := F_Mod) (N := 17) hx hb hT in_Mod hown hK hP 0 rfl rfl 11 (by decide) (hT _ tw2_237) (fun _ h9 => h9) rfl d_Mod_run_57 ?_
            refine lv_iload_n hx hb d_Mod_run_60 rfl (lv_at hl 1 rfl) ?_
            refine va_iald (f := (Ds3 8)) hx hb hK hP 9 0 rfl rfl (show vp_in (nI 0) 2 from vp_in_nI (by decide) (by decide)) d_Mod_run_61 ?_
            refine lv_if_ne (tgt := 157) hx hb d_Mod_run_62 (by decide) (fun _ => ?_) (fun h9 => absurd h9 (by rw [hDs3, u2_at]; decide))
            have hg : dGoL z 0 (sMost n) (u2 D 14 0 0) = (Ds3, i) := by rw [hgo, e9, if_pos h62, if_neg h81, hDs3]; show (_, 0 + i) = (_, i); rw [Nat.zero_add]
            refine lv_iload hx hb d_Mod_run_157 (lv_at hl 0 rfl) ?_
            exact km_i F hlocks hret hP hD hS d_Mod_run_159 (by unfold dRunR; rw [hC, if_pos (by decide), hmac, hg]) (by unfold dRunM; rw [hC, if_pos (by decide), hmac, hg])
  · have hmac : dMac z = 1 := by unfold dMac; rw [if_neg hz]
    have hC : dRunC D z = 0 := by unfold dRunC; rw [if_neg hz, if_neg (hfu.resolve_left hz)]
    rw [hmac] at hro
    refine lv_aload_n hx hb d_Mod_run_0 rfl (lv_at hl 0 rfl) ?_
    refine lv_iload_n hx hb d_Mod_run_1 rfl (lv_at hl 1 rfl) ?_
    refine lv_if_eq (tgt := 16) hx hb d_Mod_run_2 (by decide) (fun h9 => absurd h9 hz) (fun _ => ?_)
    refine lv_aload_n hx hb d_Mod_run_5 rfl (lv_at hl 0 rfl) ?_
    refine va_get (D := Dg) (ci := 3) (v := .int (D 14 2)) (C := R_Mod) (T := F_Mod) (N := 17) hx hb hT in_Mod hown hK hP 0 rfl rfl 4 (by decide) (hT _ tw2_230) (fun _ h9 => h9) rfl d_Mod_run_6 ?_
    refine lv_if_ne (tgt := 16) hx hb d_Mod_run_9 (by decide) (fun _ => ?_) (fun h9 => absurd h9 (hfu.resolve_left hz))
    refine lv_iconst (v := 0) hx hb d_Mod_run_16 (by decide) ?_
    refine va_put (D := Dg) (ci := 3) (v := .int 0) (ty := .int) (C := R_Mod) (T := F_Mod) (N := 17) hx hb hT in_Mod t_Mod t_Mod_ok n_Mod hown hK hP hD hS 0 rfl rfl 0 (by decide) (hT _ tw2_226) (fun _ h9 => h9) rfl (by decide +kernel) rfl rfl (Nat.le_of_ble_eq_true rfl) d_Mod_run_17 (fun H locs hP hD hS => ?_)
    have hP : va_P Dg classes (wD a k (u2 D 14 0 0)) H := hP
    have hD : va_D (va_A (wD a k D) s.heap.size) (wD a k (u2 D 14 0 0)) := hD
    obtain ⟨Ds4, hDs4⟩ : ∃ z9, z9 = (u2 D 14 0 0) := ⟨_, rfl⟩
    rw [← hDs4] at hP hD
    refine lv_aload_n hx hb d_Mod_run_20 rfl (lv_at hl 0 rfl) ?_
    refine va_get (D := Dg) (ci := 3) (v := .int 0) (C := R_Mod) (T := F_Mod) (N := 17) hx hb hT in_Mod hown hK hP 0 rfl rfl 0 (by decide) (hT _ tw2_226) (fun _ h9 => h9) (by rw [hDs4]; rfl) d_Mod_run_21 ?_
    refine lv_if_le (tgt := 29) hx hb d_Mod_run_24 (by decide) (fun _ => ?_) (fun h9 => absurd (by decide) h9)
    refine lv_iload_n hx hb d_Mod_run_29 rfl (lv_at hl 1 rfl) ?_
    refine lv_if_eq (tgt := 37) hx hb d_Mod_run_30 (by decide) (fun h9 => absurd h9 hz) (fun _ => ?_)
    refine lv_iconst (v := 1) hx hb d_Mod_run_33 (by decide) ?_
    refine lv_goto (tgt := 38) hx hb d_Mod_run_34 (by decide) ?_
    refine lv_istore_n hx hb d_Mod_run_38 rfl hl (by decide) rfl (fun ls hl => ?_)
    have hl : lv_has ls 7 [(3, .int 1), (0, .ref (a 0)), (1, .int z), (2, .int n)] := hl
    refine lv_iconst (v := 0) hx hb d_Mod_run_39 (by decide) ?_
    refine lv_istore hx hb d_Mod_run_40 hl (by decide) rfl (fun ls hl => ?_)
    have hl : lv_has ls 7 [(4, .int 0), (3, .int 1), (0, .ref (a 0)), (1, .int z), (2, .int n)] := hl
    refine k_while (σ := Nat × vSt) (fun f x H locs ls => x.1 + f = sMost n ∧ runOkD z 1 f x.2 ∧ dGoL z 1 (sMost n) (u2 D 14 0 0) = ((dGoL z 1 f x.2).1, (dGoL z 1 f x.2).2 + x.1) ∧ lv_has ls 7 [(4, .int (nI x.1)), (3, .int 1), (0, .ref (a 0)), (1, .int z), (2, .int n)] ∧ va_P Dg classes (wD a k x.2) H ∧ va_D (va_A (wD a k D) s.heap.size) (wD a k x.2) ∧ va_S (va_A (wD a k D) s.heap.size) s.heap H locs) ?_ (sMost n) (0, u2 D 14 0 0) ⟨by show 0 + sMost n = sMost n; omega, hro, rfl, (lv_sub hl [0, 1, 2, 3, 4] rfl), by rw [hDs4] at hP; exact hP, by rw [hDs4] at hD; exact hD, hS⟩
    rintro f ⟨i, Di⟩ H locs ls ⟨hif, hro5, hgo, hl, hP, hD, hS⟩ ih
    have hl : lv_has ls 7 [(4, .int (nI i)), (3, .int 1), (0, .ref (a 0)), (1, .int z), (2, .int n)] := hl
    have hP : va_P Dg classes (wD a k Di) H := hP
    have hD : va_D (va_A (wD a k D) s.heap.size) (wD a k Di) := hD
    have hif : i + f = sMost n := hif
    have hro5 : runOkD z 1 f Di := hro5
    have hgo : dGoL z 1 (sMost n) (u2 D 14 0 0) = ((dGoL z 1 f Di).1, (dGoL z 1 f Di).2 + i) := hgo
    refine lv_iload hx hb d_Mod_run_42 (lv_at hl 0 rfl) ?_
    refine lv_iload_n hx hb d_Mod_run_44 rfl (lv_at hl 4 rfl) ?_
    refine lv_icmp_ge (tgt := 157) hx hb d_Mod_run_45 (by decide) (fun h45 => ?_) (fun h45 => ?_)
    · obtain rfl : f = 0 := by have := (sMost_iff n (by omega)).mp (sMin_yes (Or.inl h45)); omega
      have hg : dGoL z 1 (sMost n) (u2 D 14 0 0) = (Di, i) := by rw [hgo]; show (Di, 0 + i) = (Di, i); rw [Nat.zero_add]
      refine lv_iload hx hb d_Mod_run_157 (lv_at hl 0 rfl) ?_
      exact km_i F hlocks hret hP hD hS d_Mod_run_159 (by unfold dRunR; rw [hC, if_pos (by decide), hmac, hg]) (by unfold dRunM; rw [hC, if_pos (by decide), hmac, hg])
    · refine lv_iload hx hb d_Mod_run_48 (lv_at hl 0 rfl) ?_
      refine lv_sipush (v := 3000) hx hb d_Mod_run_50 (by decide) ?_
      refine lv_icmp_ge (tgt := 157) hx hb d_Mod_run_53 (by decide) (fun h53 => ?_) (fun h53 => ?_)
      · obtain rfl : f = 0 := by have := (sMost_iff n (by omega)).mp (sMin_yes (Or.inr h53)); omega
        have hg : dGoL z 1 (sMost n) (u2 D 14 0 0) = (Di, i) := by rw [hgo]; show (Di, 0 + i) = (Di, i); rw [Nat.zero_add]
        refine lv_iload hx hb d_Mod_run_157 (lv_at hl 0 rfl) ?_
        exact km_i F hlocks hret hP hD hS d_Mod_run_159 (by unfold dRunR; rw [hC, if_pos (by decide), hmac, hg]) (by unfold dRunM; rw [hC, if_pos (by decide), hmac, hg])
      · have hf : i < sMost n := by rcases Nat.lt_or_ge i (sMost n) with y | y; exact y; exact absurd ((sMost_iff n (by omega)).mpr y) (fun y => sMin_no h45 h53 y)
        obtain ⟨f, rfl⟩ : ∃ g, f = g + 1 := ⟨f - 1, by omega⟩
        have e9 : dGoL z 1 (f + 1) Di = (if Di 8 (tn 1) = 0 then (if pOut (Di 4 (tn 1)) 0 (Di 14 1 - 1) = 0 then ((dGoL z 1 f (dRow 1 (dLen Di z 1) Di)).1, (dGoL z 1 f (dRow 1 (dLen Di z 1) Di)).2 + 1) else (u2 Di 8 (tn 1) 4, 0)) else (Di, 0)) := rfl
        refine lv_aload_n hx hb d_Mod_run_56 rfl (lv_at hl 2 rfl) ?_
        refine va_get (D := Dg) (ci := 3) (v := .ref (a 9)) (C := R_Mod) (T := F_Mod) (N := 17) hx hb hT in_Mod hown hK hP 0 rfl rfl 11 (by decide) (hT _ tw2_237) (fun _ h9 => h9) rfl d_Mod_run_57 ?_
        refine lv_iload_n hx hb d_Mod_run_60 rfl (lv_at hl 1 rfl) ?_
        refine va_iald (f := (Di 8)) hx hb hK hP 9 0 rfl rfl (show vp_in (nI 1) 2 from vp_in_nI (by decide) (by decide)) d_Mod_run_61 ?_
        refine lv_if_ne (tgt := 157) hx hb d_Mod_run_62 (by decide) (fun h62 => ?_) (fun h62 => ?_)
        · have hg : dGoL z 1 (sMost n) (u2 D 14 0 0) = (Di, i) := by rw [hgo, e9, if_neg h62]; show (_, 0 + i) = (_, i); rw [Nat.zero_add]
          refine lv_iload hx hb d_Mod_run_157 (lv_at hl 0 rfl) ?_
          exact km_i F hlocks hret hP hD hS d_Mod_run_159 (by unfold dRunR; rw [hC, if_pos (by decide), hmac, hg]) (by unfold dRunM; rw [hC, if_pos (by decide), hmac, hg])
        · refine lv_aload_n hx hb d_Mod_run_65 rfl (lv_at hl 2 rfl) ?_
          refine va_get (D := Dg) (ci := 3) (v := .ref (a 5)) (C := R_Mod) (T := F_Mod) (N := 17) hx hb hT in_Mod hown hK hP 0 rfl rfl 7 (by decide) (hT _ tw2_233) (fun _ h9 => h9) rfl d_Mod_run_66 ?_
          refine lv_iload_n hx hb d_Mod_run_69 rfl (lv_at hl 1 rfl) ?_
          refine va_iald (f := (Di 4)) hx hb hK hP 5 0 rfl rfl (show vp_in (nI 1) 2 from vp_in_nI (by decide) (by decide)) d_Mod_run_70 ?_
          refine lv_iconst (v := 0) hx hb d_Mod_run_71 (by decide) ?_
          refine lv_aload_n hx hb d_Mod_run_72 rfl (lv_at hl 2 rfl) ?_
          refine va_get (D := Dg) (ci := 3) (v := .int (Di 14 1)) (C := R_Mod) (T := F_Mod) (N := 17) hx hb hT in_Mod hown hK hP 0 rfl rfl 1 (by decide) (hT _ tw2_227) (fun _ h9 => h9) rfl d_Mod_run_73 ?_
          refine lv_iconst (v := 1) hx hb d_Mod_run_76 (by decide) ?_
          refine lv_isub hx hb d_Mod_run_77 ?_
          refine kp_S F (c_Mod_outside l Dg k ((Di 4) (Int32.toNatClampNeg 1)) 0 ((Di 14 1) - 1) _ ) kx_K hK kw_Mod_64 tw3_57 hS d_Mod_run_78 ⟨⟨by decide, by decide⟩, Nat.le_refl _, Nat.le_refl _⟩ rfl hl.1 rfl (Nat.le_of_ble_eq_true rfl) (fun locs hS => ?_)
          refine lv_if_eq (tgt := 94) hx hb d_Mod_run_81 (by decide) (fun h81 => ?_) (fun h81 => ?_)
          · obtain ⟨hrwi, hpl, hro2, hrow, hro7⟩ := hro5 h62 h81
            have hgo7 : dGoL z 1 (sMost n) (u2 D 14 0 0) = ((dGoL z 1 f (dRow 1 (dLen Di z 1) Di)).1, (dGoL z 1 f (dRow 1 (dLen Di z 1) Di)).2 + (i + 1)) := by rw [hgo, e9, if_pos h62, if_pos h81]; show (_, _ + 1 + i) = (_, _ + (i + 1)); rw [Nat.add_assoc, Nat.add_comm 1 i]
            refine lv_iload_n hx hb d_Mod_run_94 rfl (lv_at hl 3 rfl) ?_
            refine lv_if_eq (tgt := 112) hx hb d_Mod_run_95 (by decide) (fun h9 => absurd h9 hz) (fun _ => ?_)
            refine lv_aload_n hx hb d_Mod_run_98 rfl (lv_at hl 2 rfl) ?_
            refine va_get (D := Dg) (ci := 3) (v := .ref (a 3)) (C := R_Mod) (T := F_Mod) (N := 17) hx hb hT in_Mod hown hK hP 0 rfl rfl 5 (by decide) (hT _ tw2_231) (fun _ h9 => h9) rfl d_Mod_run_99 ?_
            refine lv_aload_n hx hb d_Mod_run_102 rfl (lv_at hl 2 rfl) ?_
            refine va_get (D := Dg) (ci := 3) (v := .ref (a 5)) (C := R_Mod) (T := F_Mod) (N := 17) hx hb hT in_Mod hown hK hP 0 rfl rfl 7 (by decide) (hT _ tw2_233) (fun _ h9 => h9) rfl d_Mod_run_103 ?_
            refine lv_iload_n hx hb d_Mod_run_106 rfl (lv_at hl 1 rfl) ?_
            refine va_iald (f := (Di 4)) hx hb hK hP 5 0 rfl rfl (show vp_in (nI 1) 2 from vp_in_nI (by decide) (by decide)) d_Mod_run_107 ?_
            refine va_iald (f := (Di 2)) hx hb hK hP 3 0 rfl rfl hpl d_Mod_run_108 ?_
            refine lv_goto (tgt := 113) hx hb d_Mod_run_109 (by decide) ?_
            refine lv_istore hx hb d_Mod_run_113 hl (by decide) rfl (fun ls hl => ?_)
            have hl : lv_has ls 7 [(5, .int ((Di 2) ((Di 4) (Int32.toNatClampNeg 1)).toNatClampNeg)), (4, .int (nI i)), (3, .int 1), (0, .ref (a 0)), (1, .int z), (2, .int n)] := hl
            refine lv_iload hx hb d_Mod_run_115 (lv_at hl 0 rfl) ?_
            refine lv_if_ge (tgt := 124) hx hb d_Mod_run_117 (by decide) (fun h117 => ?_) (fun h117 => ?_)
            · refine lv_aload_n hx hb d_Mod_run_124 rfl (lv_at hl 3 rfl) ?_
              refine lv_iload hx hb d_Mod_run_125 (lv_at hl 0 rfl) ?_
              refine kp_V F (c_Mod_lengthOf l Dg a k Di ((Di 2) ((Di 4) (Int32.toNatClampNeg 1)).toNatClampNeg) _ hP hrwi (hro2 h117)) kx_K hK kw_Mod_96 tw3_96 ts_20 (va_recv (ci := 3) (q0 := 0) hK hP rfl rfl) hS d_Mod_run_127 ⟨⟨by decide, by decide⟩, Nat.le_refl _, Nat.le_refl _⟩ rfl hl.1 rfl (Nat.le_of_ble_eq_true rfl) (fun locs hS => ?_)
              have elen : dLen Di z 1 = (rn ((Di 2) ((Di 4) (Int32.toNatClampNeg 1)).toNatClampNeg).toNatClampNeg) := by unfold dLen; rw [if_neg hz, if_pos h117]
              obtain ⟨len, elen2⟩ : ∃ z9, z9 = (rn ((Di 2) ((Di 4) (Int32.toNatClampNeg 1)).toNatClampNeg).toNatClampNeg) := ⟨_, rfl⟩
              have hlen4 : len ≤ 4 := by rw [elen2]; obtain ⟨r, hr, er⟩ := hro2 h117; rw [er, nI_clamp (by omega)]; exact (rn_le r hr).2
              rw [← elen2]
              rw [← elen2] at elen
              rw [elen] at hrow hro7 hgo7
              refine lv_istore hx hb d_Mod_run_130 hl (by decide) rfl (fun ls hl => ?_)
              have hl : lv_has ls 7 [(6, .int (nI len)), (5, .int ((Di 2) ((Di 4) (Int32.toNatClampNeg 1)).toNatClampNeg)), (4, .int (nI i)), (3, .int 1), (0, .ref (a 0)), (1, .int z), (2, .int n)] := hl
              refine k_while (σ := Nat × vSt) (fun f x H locs ls => f = x.1 ∧ x.1 ≤ 4 ∧ rowOkD 1 x.1 x.2 ∧ dRow 1 x.1 x.2 = dRow 1 len Di ∧ lv_has ls 7 [(6, .int (nI x.1)), (4, .int (nI i)), (3, .int 1), (0, .ref (a 0)), (1, .int z), (2, .int n)] ∧ va_P Dg classes (wD a k x.2) H ∧ va_D (va_A (wD a k D) s.heap.size) (wD a k x.2) ∧ va_S (va_A (wD a k D) s.heap.size) s.heap H locs) ?_ len (len, Di) ⟨rfl, hlen4, hrow, rfl, (lv_sub hl [0, 2, 3, 4, 5, 6] rfl), hP, hD, hS⟩
              rintro f2 ⟨j, Dj⟩ H locs ls ⟨efj, hj, hroj, hdr, hl, hP, hD, hS⟩ ih2
              have hl : lv_has ls 7 [(6, .int (nI j)), (4, .int (nI i)), (3, .int 1), (0, .ref (a 0)), (1, .int z), (2, .int n)] := hl
              have hP : va_P Dg classes (wD a k Dj) H := hP
              have hD : va_D (va_A (wD a k D) s.heap.size) (wD a k Dj) := hD
              have hj : j ≤ 4 := hj
              have hroj : rowOkD 1 j Dj := hroj
              have hdr : dRow 1 j Dj = dRow 1 len Di := hdr
              refine lv_iload hx hb d_Mod_run_132 (lv_at hl 0 rfl) ?_
              refine lv_if_le (tgt := 151) hx hb d_Mod_run_134 (by decide) (fun h134 => ?_) (fun h134 => ?_)
              · have hend : Dj = dRow 1 len Di := by rw [← hdr, show j = 0 by have := (nI_leI (b := 0) (by omega) (by decide)).mp h134; omega]; rfl
                refine lv_iinc (k := 1) (v := (nI (i + 1))) hx hb d_Mod_run_151 hl rfl (nI_succ _).symm (by decide) rfl (fun ls hl => ?_)
                have hl : lv_has ls 7 [(4, .int (nI (i + 1))), (6, .int (nI j)), (3, .int 1), (0, .ref (a 0)), (1, .int z), (2, .int n)] := hl
                refine lv_goto (tgt := 42) hx hb d_Mod_run_154 (by decide) ?_
                exact ih f (i + 1, Dj) H locs ls (by omega) ⟨by show i + 1 + f = sMost n; omega, by show runOkD z 1 f Dj; rw [hend]; exact hro7, by show _ = ((dGoL z 1 f Dj).1, (dGoL z 1 f Dj).2 + (i + 1)); rw [hend]; exact hgo7, (lv_sub hl [0, 2, 3, 4, 5] rfl), hP, hD, hS⟩
              · obtain ⟨g2, rfl⟩ : ∃ y, j = y + 1 := by rcases Nat.eq_zero_or_pos j with y | y; exact absurd (by rw [y]; decide) h134; exact ⟨j - 1, by omega⟩
                obtain ⟨hok, hplj, hokc, hnn, hnx⟩ := hroj
                have edr : dRow 1 (g2 + 1) Dj = (if dActR Dj 1 = 0 then dActM Dj 1 else dRow 1 g2 (dActM Dj 1)) := rfl
                refine lv_aload_n hx hb d_Mod_run_137 rfl (lv_at hl 3 rfl) ?_
                refine lv_iload_n hx hb d_Mod_run_138 rfl (lv_at hl 2 rfl) ?_
                refine km_Vi (wr := []) F (c_Mod_act l Dg a k Dj 1 _ hP (hD.weaken (fun _ _ _ _ => trivial)) hok hplj hokc hnn) kx_K hK kw_Mod_132 tw3_112 ts_22 (va_recv (ci := 3) (q0 := 0) hK hP rfl rfl) hP hD hS hA [0, 1, 2, 3, 4, 5, 6, 7, 8, 9, 10, 11, 12, 13, 14] [] rfl rfl (by decide) (by decide) d_Mod_run_139 ⟨⟨by decide, by decide⟩, Nat.le_refl _, Nat.le_refl _⟩ rfl hl.1 rfl (Nat.le_of_ble_eq_true rfl) (fun H locs hP hD hS => ?_)
                have hP : va_P Dg classes (wD a k (dActM Dj 1)) H := hP
                have hD : va_D (va_A (wD a k D) s.heap.size) (wD a k (dActM Dj 1)) := hD
                obtain ⟨Ds5, hDs5⟩ : ∃ z9, z9 = (dActM Dj 1) := ⟨_, rfl⟩
                rw [← hDs5] at hP hD
                refine lv_if_eq (tgt := 151) hx hb d_Mod_run_142 (by decide) (fun h142 => ?_) (fun h142 => ?_)
                · have hend : Ds5 = dRow 1 len Di := by rw [← hdr, edr, if_pos h142, hDs5]
                  refine lv_iinc (k := 1) (v := (nI (i + 1))) hx hb d_Mod_run_151 hl rfl (nI_succ _).symm (by decide) rfl (fun ls hl => ?_)
                  have hl : lv_has ls 7 [(4, .int (nI (i + 1))), (6, .int (nI (g2 + 1))), (3, .int 1), (0, .ref (a 0)), (1, .int z), (2, .int n)] := hl
                  refine lv_goto (tgt := 42) hx hb d_Mod_run_154 (by decide) ?_
                  exact ih f (i + 1, Ds5) H locs ls (by omega) ⟨by show i + 1 + f = sMost n; omega, by show runOkD z 1 f Ds5; rw [hend]; exact hro7, by show _ = ((dGoL z 1 f Ds5).1, (dGoL z 1 f Ds5).2 + (i + 1)); rw [hend]; exact hgo7, (lv_sub hl [0, 2, 3, 4, 5] rfl), hP, hD, hS⟩
                · refine lv_iinc (k := 0) (v := (nI g2)) hx hb d_Mod_run_145 hl rfl (pk_m1 _) (by decide) rfl (fun ls hl => ?_)
                  have hl : lv_has ls 7 [(6, .int (nI g2)), (4, .int (nI i)), (3, .int 1), (0, .ref (a 0)), (1, .int z), (2, .int n)] := hl
                  refine lv_goto (tgt := 132) hx hb d_Mod_run_148 (by decide) ?_
                  exact ih2 g2 (g2, Ds5) H locs ls (by omega) ⟨rfl, by show g2 ≤ 4; omega, by show rowOkD 1 g2 Ds5; rw [hDs5]; exact hnx h142, by show dRow 1 g2 Ds5 = _; rw [hDs5, ← hdr, edr, if_neg h142], (lv_sub hl [0, 1, 2, 3, 4, 5] rfl), hP, hD, hS⟩
            · refine lv_iconst (v := 1) hx hb d_Mod_run_120 (by decide) ?_
              refine lv_goto (tgt := 130) hx hb d_Mod_run_121 (by decide) ?_
              have elen : dLen Di z 1 = 1 := by unfold dLen; rw [if_neg hz, if_neg h117]
              change W _ _ _ _ _ _ _ _ _ _ _ _ _ _ _ (F0 m 130 ls [.int (nI 1)])
              obtain ⟨len, elen2⟩ : ∃ z9, z9 = 1 := ⟨_, rfl⟩
              have hlen4 : len ≤ 4 := by rw [elen2]; decide
              rw [← elen2]
              rw [← elen2] at elen
              rw [elen] at hrow hro7 hgo7
              refine lv_istore hx hb d_Mod_run_130 hl (by decide) rfl (fun ls hl => ?_)
              have hl : lv_has ls 7 [(6, .int (nI len)), (5, .int ((Di 2) ((Di 4) (Int32.toNatClampNeg 1)).toNatClampNeg)), (4, .int (nI i)), (3, .int 1), (0, .ref (a 0)), (1, .int z), (2, .int n)] := hl
              refine k_while (σ := Nat × vSt) (fun f x H locs ls => f = x.1 ∧ x.1 ≤ 4 ∧ rowOkD 1 x.1 x.2 ∧ dRow 1 x.1 x.2 = dRow 1 len Di ∧ lv_has ls 7 [(6, .int (nI x.1)), (4, .int (nI i)), (3, .int 1), (0, .ref (a 0)), (1, .int z), (2, .int n)] ∧ va_P Dg classes (wD a k x.2) H ∧ va_D (va_A (wD a k D) s.heap.size) (wD a k x.2) ∧ va_S (va_A (wD a k D) s.heap.size) s.heap H locs) ?_ len (len, Di) ⟨rfl, hlen4, hrow, rfl, (lv_sub hl [0, 2, 3, 4, 5, 6] rfl), hP, hD, hS⟩
              rintro f2 ⟨j, Dj⟩ H locs ls ⟨efj, hj, hroj, hdr, hl, hP, hD, hS⟩ ih2
              have hl : lv_has ls 7 [(6, .int (nI j)), (4, .int (nI i)), (3, .int 1), (0, .ref (a 0)), (1, .int z), (2, .int n)] := hl
              have hP : va_P Dg classes (wD a k Dj) H := hP
              have hD : va_D (va_A (wD a k D) s.heap.size) (wD a k Dj) := hD
              have hj : j ≤ 4 := hj
              have hroj : rowOkD 1 j Dj := hroj
              have hdr : dRow 1 j Dj = dRow 1 len Di := hdr
              refine lv_iload hx hb d_Mod_run_132 (lv_at hl 0 rfl) ?_
              refine lv_if_le (tgt := 151) hx hb d_Mod_run_134 (by decide) (fun h134 => ?_) (fun h134 => ?_)
              · have hend : Dj = dRow 1 len Di := by rw [← hdr, show j = 0 by have := (nI_leI (b := 0) (by omega) (by decide)).mp h134; omega]; rfl
                refine lv_iinc (k := 1) (v := (nI (i + 1))) hx hb d_Mod_run_151 hl rfl (nI_succ _).symm (by decide) rfl (fun ls hl => ?_)
                have hl : lv_has ls 7 [(4, .int (nI (i + 1))), (6, .int (nI j)), (3, .int 1), (0, .ref (a 0)), (1, .int z), (2, .int n)] := hl
                refine lv_goto (tgt := 42) hx hb d_Mod_run_154 (by decide) ?_
                exact ih f (i + 1, Dj) H locs ls (by omega) ⟨by show i + 1 + f = sMost n; omega, by show runOkD z 1 f Dj; rw [hend]; exact hro7, by show _ = ((dGoL z 1 f Dj).1, (dGoL z 1 f Dj).2 + (i + 1)); rw [hend]; exact hgo7, (lv_sub hl [0, 2, 3, 4, 5] rfl), hP, hD, hS⟩
              · obtain ⟨g2, rfl⟩ : ∃ y, j = y + 1 := by rcases Nat.eq_zero_or_pos j with y | y; exact absurd (by rw [y]; decide) h134; exact ⟨j - 1, by omega⟩
                obtain ⟨hok, hplj, hokc, hnn, hnx⟩ := hroj
                have edr : dRow 1 (g2 + 1) Dj = (if dActR Dj 1 = 0 then dActM Dj 1 else dRow 1 g2 (dActM Dj 1)) := rfl
                refine lv_aload_n hx hb d_Mod_run_137 rfl (lv_at hl 3 rfl) ?_
                refine lv_iload_n hx hb d_Mod_run_138 rfl (lv_at hl 2 rfl) ?_
                refine km_Vi (wr := []) F (c_Mod_act l Dg a k Dj 1 _ hP (hD.weaken (fun _ _ _ _ => trivial)) hok hplj hokc hnn) kx_K hK kw_Mod_132 tw3_112 ts_22 (va_recv (ci := 3) (q0 := 0) hK hP rfl rfl) hP hD hS hA [0, 1, 2, 3, 4, 5, 6, 7, 8, 9, 10, 11, 12, 13, 14] [] rfl rfl (by decide) (by decide) d_Mod_run_139 ⟨⟨by decide, by decide⟩, Nat.le_refl _, Nat.le_refl _⟩ rfl hl.1 rfl (Nat.le_of_ble_eq_true rfl) (fun H locs hP hD hS => ?_)
                have hP : va_P Dg classes (wD a k (dActM Dj 1)) H := hP
                have hD : va_D (va_A (wD a k D) s.heap.size) (wD a k (dActM Dj 1)) := hD
                obtain ⟨Ds6, hDs6⟩ : ∃ z9, z9 = (dActM Dj 1) := ⟨_, rfl⟩
                rw [← hDs6] at hP hD
                refine lv_if_eq (tgt := 151) hx hb d_Mod_run_142 (by decide) (fun h142 => ?_) (fun h142 => ?_)
                · have hend : Ds6 = dRow 1 len Di := by rw [← hdr, edr, if_pos h142, hDs6]
                  refine lv_iinc (k := 1) (v := (nI (i + 1))) hx hb d_Mod_run_151 hl rfl (nI_succ _).symm (by decide) rfl (fun ls hl => ?_)
                  have hl : lv_has ls 7 [(4, .int (nI (i + 1))), (6, .int (nI (g2 + 1))), (3, .int 1), (0, .ref (a 0)), (1, .int z), (2, .int n)] := hl
                  refine lv_goto (tgt := 42) hx hb d_Mod_run_154 (by decide) ?_
                  exact ih f (i + 1, Ds6) H locs ls (by omega) ⟨by show i + 1 + f = sMost n; omega, by show runOkD z 1 f Ds6; rw [hend]; exact hro7, by show _ = ((dGoL z 1 f Ds6).1, (dGoL z 1 f Ds6).2 + (i + 1)); rw [hend]; exact hgo7, (lv_sub hl [0, 2, 3, 4, 5] rfl), hP, hD, hS⟩
                · refine lv_iinc (k := 0) (v := (nI g2)) hx hb d_Mod_run_145 hl rfl (pk_m1 _) (by decide) rfl (fun ls hl => ?_)
                  have hl : lv_has ls 7 [(6, .int (nI g2)), (4, .int (nI i)), (3, .int 1), (0, .ref (a 0)), (1, .int z), (2, .int n)] := hl
                  refine lv_goto (tgt := 132) hx hb d_Mod_run_148 (by decide) ?_
                  exact ih2 g2 (g2, Ds6) H locs ls (by omega) ⟨rfl, by show g2 ≤ 4; omega, by show rowOkD 1 g2 Ds6; rw [hDs6]; exact hnx h142, by show dRow 1 g2 Ds6 = _; rw [hDs6, ← hdr, edr, if_neg h142], (lv_sub hl [0, 1, 2, 3, 4, 5] rfl), hP, hD, hS⟩
          · refine lv_aload_n hx hb d_Mod_run_84 rfl (lv_at hl 2 rfl) ?_
            refine va_get (D := Dg) (ci := 3) (v := .ref (a 9)) (C := R_Mod) (T := F_Mod) (N := 17) hx hb hT in_Mod hown hK hP 0 rfl rfl 11 (by decide) (hT _ tw2_237) (fun _ h9 => h9) rfl d_Mod_run_85 ?_
            refine lv_iload_n hx hb d_Mod_run_88 rfl (lv_at hl 1 rfl) ?_
            refine lv_iconst (v := 4) hx hb d_Mod_run_89 (by decide) ?_
            refine va_iast hx hb hK hP hD hS 9 0 rfl rfl (show vp_in (nI 1) 2 from vp_in_nI (by decide) (by decide)) d_Mod_run_90 (fun H locs hP hD hS => ?_)
            have hP : va_P Dg classes (wD a k (u2 Di 8 (Int32.toNatClampNeg 1) 4)) H := hP
            have hD : va_D (va_A (wD a k D) s.heap.size) (wD a k (u2 Di 8 (Int32.toNatClampNeg 1) 4)) := hD
            obtain ⟨Ds7, hDs7⟩ : ∃ z9, z9 = (u2 Di 8 (Int32.toNatClampNeg 1) 4) := ⟨_, rfl⟩
            rw [← hDs7] at hP hD
            refine lv_goto (tgt := 42) hx hb d_Mod_run_91 (by decide) ?_
            refine lv_iload hx hb d_Mod_run_42 (lv_at hl 0 rfl) ?_
            refine lv_iload_n hx hb d_Mod_run_44 rfl (lv_at hl 4 rfl) ?_
            refine lv_icmp_ge (tgt := 157) hx hb d_Mod_run_45 (by decide) (fun h9 => absurd h9 h45) (fun _ => ?_)
            refine lv_iload hx hb d_Mod_run_48 (lv_at hl 0 rfl) ?_
            refine lv_sipush (v := 3000) hx hb d_Mod_run_50 (by decide) ?_
            refine lv_icmp_ge (tgt := 157) hx hb d_Mod_run_53 (by decide) (fun h9 => absurd h9 h53) (fun _ => ?_)
            refine lv_aload_n hx hb d_Mod_run_56 rfl (lv_at hl 2 rfl) ?_
            refine va_get (D := Dg) (ci := 3) (v := .ref (a 9)) (C := R_Mod) (T := F_Mod) (N := 17) hx hb hT in_Mod hown hK hP 0 rfl rfl 11 (by decide) (hT _ tw2_237) (fun _ h9 => h9) rfl d_Mod_run_57 ?_
            refine lv_iload_n hx hb d_Mod_run_60 rfl (lv_at hl 1 rfl) ?_
            refine va_iald (f := (Ds7 8)) hx hb hK hP 9 0 rfl rfl (show vp_in (nI 1) 2 from vp_in_nI (by decide) (by decide)) d_Mod_run_61 ?_
            refine lv_if_ne (tgt := 157) hx hb d_Mod_run_62 (by decide) (fun _ => ?_) (fun h9 => absurd h9 (by rw [hDs7, u2_at]; decide))
            have hg : dGoL z 1 (sMost n) (u2 D 14 0 0) = (Ds7, i) := by rw [hgo, e9, if_pos h62, if_neg h81, hDs7]; show (_, 0 + i) = (_, i); rw [Nat.zero_add]
            refine lv_iload hx hb d_Mod_run_157 (lv_at hl 0 rfl) ?_
            exact km_i F hlocks hret hP hD hS d_Mod_run_159 (by unfold dRunR; rw [hC, if_pos (by decide), hmac, hg]) (by unfold dRunM; rw [hC, if_pos (by decide), hmac, hg])

set_option maxRecDepth 100000 in
set_option maxHeartbeats 4000000 in
theorem c_Mod_runNo (l : Launch) (Dg : va_G) (a : Nat → Nat) (k : Nat → ClassId) (D : vSt) (z n : Int32) (H : Heap) (hP : va_P Dg classes (wD a k D) H) (hD : va_D (fun _ => True) (wD a k D)) (hz : ¬ z = 0) (hfu : D 14 2 = 0) : kMi l y_Mod_run b_Mod_run 7 (some FieldType.int) 0 0 [.ref (a 0), .int z, .int n] H (va_K Dg classes (kTy k)) Dg (wD a k D) (wD a k (dRunM D z n)) (dRunR D z n) := by
  refine k_of (by decide) (Nat.le_of_ble_eq_true rfl) ?_
  intro p e s m below meth cd ls F hlocks hret hname hh hX hl
  subst hh
  obtain ⟨hx, hb, hml, hown, hT⟩ := id F
  have hK : va_K Dg classes (kTy k) s := hX
  have hA : ∀ q : Nat, s.heap.size ≤ q → va_A (wD a k D) s.heap.size q := fun q h => Or.inr h
  have hD := hD.self (sz := s.heap.size)
  have hS : va_S (va_A (wD a k D) s.heap.size) s.heap s.heap [] := va_S.rf
  have hl : lv_has ls 7 [(0, .ref (a 0)), (1, .int z), (2, .int n)] := hl
  have hC : dRunC D z = 1 := by unfold dRunC; rw [if_neg hz, if_pos hfu]
  refine lv_aload_n hx hb d_Mod_run_0 rfl (lv_at hl 0 rfl) ?_
  refine lv_iload_n hx hb d_Mod_run_1 rfl (lv_at hl 1 rfl) ?_
  refine lv_if_eq (tgt := 16) hx hb d_Mod_run_2 (by decide) (fun h9 => absurd h9 hz) (fun _ => ?_)
  refine lv_aload_n hx hb d_Mod_run_5 rfl (lv_at hl 0 rfl) ?_
  refine va_get (D := Dg) (ci := 3) (v := .int (D 14 2)) (C := R_Mod) (T := F_Mod) (N := 17) hx hb hT in_Mod hown hK hP 0 rfl rfl 4 (by decide) (hT _ tw2_230) (fun _ h9 => h9) rfl d_Mod_run_6 ?_
  refine lv_if_ne (tgt := 16) hx hb d_Mod_run_9 (by decide) (fun h9 => absurd hfu h9) (fun _ => ?_)
  refine lv_iconst (v := 1) hx hb d_Mod_run_12 (by decide) ?_
  refine lv_goto (tgt := 17) hx hb d_Mod_run_13 (by decide) ?_
  refine va_put (D := Dg) (ci := 3) (v := .int 1) (ty := .int) (C := R_Mod) (T := F_Mod) (N := 17) hx hb hT in_Mod t_Mod t_Mod_ok n_Mod hown hK hP hD hS 0 rfl rfl 0 (by decide) (hT _ tw2_226) (fun _ h9 => h9) rfl (by decide +kernel) rfl rfl (Nat.le_of_ble_eq_true rfl) d_Mod_run_17 (fun H locs hP hD hS => ?_)
  have hP : va_P Dg classes (wD a k (u2 D 14 0 1)) H := hP
  have hD : va_D (va_A (wD a k D) s.heap.size) (wD a k (u2 D 14 0 1)) := hD
  obtain ⟨Ds1, hDs1⟩ : ∃ z9, z9 = (u2 D 14 0 1) := ⟨_, rfl⟩
  rw [← hDs1] at hP hD
  refine lv_aload_n hx hb d_Mod_run_20 rfl (lv_at hl 0 rfl) ?_
  refine va_get (D := Dg) (ci := 3) (v := .int 1) (C := R_Mod) (T := F_Mod) (N := 17) hx hb hT in_Mod hown hK hP 0 rfl rfl 0 (by decide) (hT _ tw2_226) (fun _ h9 => h9) (by rw [hDs1]; rfl) d_Mod_run_21 ?_
  refine lv_if_le (tgt := 29) hx hb d_Mod_run_24 (by decide) (fun h9 => absurd h9 (by decide)) (fun _ => ?_)
  refine lv_iconst (v := 0) hx hb d_Mod_run_27 (by decide) ?_
  exact km_i F hlocks hret hP hD hS d_Mod_run_28 (by unfold dRunR; rw [hC, if_neg (by decide)]) (by subst hDs1; unfold dRunM; rw [hC, if_neg (by decide)])

set_option maxRecDepth 100000 in
set_option maxHeartbeats 4000000 in
theorem c_Mod_about (l : Launch) (Dg : va_G) (a : Nat → Nat) (k : Nat → ClassId) (D : vSt) (z w : Int32) (H : Heap) (hP : va_P Dg classes (wD a k D) H) (hD : va_D (fun _ => True) (wD a k D)) : kMi l y_Mod_about b_Mod_about 4 (some FieldType.int) 0 0 [.ref (a 0), .int z, .int w] H (va_K Dg classes (kTy k)) Dg (wD a k D) (wD a k (u2 D 14 0 0)) (dFact D z w) := by
  refine k_of (by decide) (Nat.le_of_ble_eq_true rfl) ?_
  intro p e s m below meth cd ls F hlocks hret hname hh hX hl
  subst hh
  obtain ⟨hx, hb, hml, hown, hT⟩ := id F
  have hK : va_K Dg classes (kTy k) s := hX
  have hA : ∀ q : Nat, s.heap.size ≤ q → va_A (wD a k D) s.heap.size q := fun q h => Or.inr h
  have hD := hD.self (sz := s.heap.size)
  have hS : va_S (va_A (wD a k D) s.heap.size) s.heap s.heap [] := va_S.rf
  have hl : lv_has ls 4 [(0, .ref (a 0)), (1, .int z), (2, .int w)] := hl
  by_cases hz : z = 0
  · have hmac : dMac z = 0 := by unfold dMac; rw [if_pos hz]
    rcases sw_5 w with rfl | rfl | rfl | rfl | rfl | rfl | hsw
    · refine lv_aload_n hx hb d_Mod_about_0 rfl (lv_at hl 0 rfl) ?_
      refine lv_iconst (v := 0) hx hb d_Mod_about_1 (by decide) ?_
      refine va_put (D := Dg) (ci := 3) (v := .int 0) (ty := .int) (C := R_Mod) (T := F_Mod) (N := 17) hx hb hT in_Mod t_Mod t_Mod_ok n_Mod hown hK hP hD hS 0 rfl rfl 0 (by decide) (hT _ tw2_226) (fun _ h9 => h9) rfl (by decide +kernel) rfl rfl (Nat.le_of_ble_eq_true rfl) d_Mod_about_2 (fun H locs hP hD hS => ?_)
      have hP : va_P Dg classes (wD a k (u2 D 14 0 0)) H := hP
      have hD : va_D (va_A (wD a k D) s.heap.size) (wD a k (u2 D 14 0 0)) := hD
      obtain ⟨Ds1, hDs1⟩ : ∃ z9, z9 = (u2 D 14 0 0) := ⟨_, rfl⟩
      rw [← hDs1] at hP hD
      refine lv_iload_n hx hb d_Mod_about_5 rfl (lv_at hl 1 rfl) ?_
      refine lv_if_eq (tgt := 13) hx hb d_Mod_about_6 (by decide) (fun _ => ?_) (fun h9 => absurd hz h9)
      refine lv_iconst (v := 0) hx hb d_Mod_about_13 (by decide) ?_
      refine lv_istore_n hx hb d_Mod_about_14 rfl hl (by decide) rfl (fun ls hl => ?_)
      have hl : lv_has ls 4 [(3, .int 0), (0, .ref (a 0)), (1, .int z), (2, .int 0)] := hl
      refine lv_iload_n hx hb d_Mod_about_15 rfl (lv_at hl 3 rfl) ?_
      refine lv_tableIn (x := 0) (off := 40) (tgt := 56) hx hb d_Mod_about_16 (by decide) (by decide) rfl (by decide) ?_
      refine lv_aload_n hx hb d_Mod_about_56 rfl (lv_at hl 1 rfl) ?_
      refine va_get (D := Dg) (ci := 3) (v := .ref (a 5)) (C := R_Mod) (T := F_Mod) (N := 17) hx hb hT in_Mod hown hK hP 0 rfl rfl 7 (by decide) (hT _ tw2_233) (fun _ h9 => h9) rfl d_Mod_about_57 ?_
      refine lv_iload_n hx hb d_Mod_about_60 rfl (lv_at hl 0 rfl) ?_
      refine va_iald (f := (D 4)) hx hb hK hP 5 0 (by rw [hDs1]; rfl) rfl (show vp_in (nI 0) 2 from vp_in_nI (by decide) (by decide)) d_Mod_about_61 ?_
      exact km_i F hlocks hret hP hD hS d_Mod_about_62 (by unfold dFact; rw [if_pos rfl, hmac]) (by subst hDs1; rfl)
    · refine lv_aload_n hx hb d_Mod_about_0 rfl (lv_at hl 0 rfl) ?_
      refine lv_iconst (v := 0) hx hb d_Mod_about_1 (by decide) ?_
      refine va_put (D := Dg) (ci := 3) (v := .int 0) (ty := .int) (C := R_Mod) (T := F_Mod) (N := 17) hx hb hT in_Mod t_Mod t_Mod_ok n_Mod hown hK hP hD hS 0 rfl rfl 0 (by decide) (hT _ tw2_226) (fun _ h9 => h9) rfl (by decide +kernel) rfl rfl (Nat.le_of_ble_eq_true rfl) d_Mod_about_2 (fun H locs hP hD hS => ?_)
      have hP : va_P Dg classes (wD a k (u2 D 14 0 0)) H := hP
      have hD : va_D (va_A (wD a k D) s.heap.size) (wD a k (u2 D 14 0 0)) := hD
      obtain ⟨Ds2, hDs2⟩ : ∃ z9, z9 = (u2 D 14 0 0) := ⟨_, rfl⟩
      rw [← hDs2] at hP hD
      refine lv_iload_n hx hb d_Mod_about_5 rfl (lv_at hl 1 rfl) ?_
      refine lv_if_eq (tgt := 13) hx hb d_Mod_about_6 (by decide) (fun _ => ?_) (fun h9 => absurd hz h9)
      refine lv_iconst (v := 0) hx hb d_Mod_about_13 (by decide) ?_
      refine lv_istore_n hx hb d_Mod_about_14 rfl hl (by decide) rfl (fun ls hl => ?_)
      have hl : lv_has ls 4 [(3, .int 0), (0, .ref (a 0)), (1, .int z), (2, .int 1)] := hl
      refine lv_iload_n hx hb d_Mod_about_15 rfl (lv_at hl 3 rfl) ?_
      refine lv_tableIn (x := 1) (off := 47) (tgt := 63) hx hb d_Mod_about_16 (by decide) (by decide) rfl (by decide) ?_
      refine lv_aload_n hx hb d_Mod_about_63 rfl (lv_at hl 1 rfl) ?_
      refine va_get (D := Dg) (ci := 3) (v := .ref (a 6)) (C := R_Mod) (T := F_Mod) (N := 17) hx hb hT in_Mod hown hK hP 0 rfl rfl 8 (by decide) (hT _ tw2_234) (fun _ h9 => h9) rfl d_Mod_about_64 ?_
      refine lv_iload_n hx hb d_Mod_about_67 rfl (lv_at hl 0 rfl) ?_
      refine va_iald (f := (D 5)) hx hb hK hP 6 0 (by rw [hDs2]; rfl) rfl (show vp_in (nI 0) 2 from vp_in_nI (by decide) (by decide)) d_Mod_about_68 ?_
      exact km_i F hlocks hret hP hD hS d_Mod_about_69 (by unfold dFact; rw [if_neg (by decide), if_pos rfl, hmac]) (by subst hDs2; rfl)
    · refine lv_aload_n hx hb d_Mod_about_0 rfl (lv_at hl 0 rfl) ?_
      refine lv_iconst (v := 0) hx hb d_Mod_about_1 (by decide) ?_
      refine va_put (D := Dg) (ci := 3) (v := .int 0) (ty := .int) (C := R_Mod) (T := F_Mod) (N := 17) hx hb hT in_Mod t_Mod t_Mod_ok n_Mod hown hK hP hD hS 0 rfl rfl 0 (by decide) (hT _ tw2_226) (fun _ h9 => h9) rfl (by decide +kernel) rfl rfl (Nat.le_of_ble_eq_true rfl) d_Mod_about_2 (fun H locs hP hD hS => ?_)
      have hP : va_P Dg classes (wD a k (u2 D 14 0 0)) H := hP
      have hD : va_D (va_A (wD a k D) s.heap.size) (wD a k (u2 D 14 0 0)) := hD
      obtain ⟨Ds3, hDs3⟩ : ∃ z9, z9 = (u2 D 14 0 0) := ⟨_, rfl⟩
      rw [← hDs3] at hP hD
      refine lv_iload_n hx hb d_Mod_about_5 rfl (lv_at hl 1 rfl) ?_
      refine lv_if_eq (tgt := 13) hx hb d_Mod_about_6 (by decide) (fun _ => ?_) (fun h9 => absurd hz h9)
      refine lv_iconst (v := 0) hx hb d_Mod_about_13 (by decide) ?_
      refine lv_istore_n hx hb d_Mod_about_14 rfl hl (by decide) rfl (fun ls hl => ?_)
      have hl : lv_has ls 4 [(3, .int 0), (0, .ref (a 0)), (1, .int z), (2, .int 2)] := hl
      refine lv_iload_n hx hb d_Mod_about_15 rfl (lv_at hl 3 rfl) ?_
      refine lv_tableIn (x := 2) (off := 54) (tgt := 70) hx hb d_Mod_about_16 (by decide) (by decide) rfl (by decide) ?_
      refine lv_aload_n hx hb d_Mod_about_70 rfl (lv_at hl 1 rfl) ?_
      refine va_get (D := Dg) (ci := 3) (v := .ref (a 7)) (C := R_Mod) (T := F_Mod) (N := 17) hx hb hT in_Mod hown hK hP 0 rfl rfl 9 (by decide) (hT _ tw2_235) (fun _ h9 => h9) rfl d_Mod_about_71 ?_
      refine lv_iload_n hx hb d_Mod_about_74 rfl (lv_at hl 0 rfl) ?_
      refine va_iald (f := (D 6)) hx hb hK hP 7 0 (by rw [hDs3]; rfl) rfl (show vp_in (nI 0) 2 from vp_in_nI (by decide) (by decide)) d_Mod_about_75 ?_
      exact km_i F hlocks hret hP hD hS d_Mod_about_76 (by unfold dFact; rw [if_neg (by decide), if_neg (by decide), if_pos rfl, hmac]) (by subst hDs3; rfl)
    · refine lv_aload_n hx hb d_Mod_about_0 rfl (lv_at hl 0 rfl) ?_
      refine lv_iconst (v := 0) hx hb d_Mod_about_1 (by decide) ?_
      refine va_put (D := Dg) (ci := 3) (v := .int 0) (ty := .int) (C := R_Mod) (T := F_Mod) (N := 17) hx hb hT in_Mod t_Mod t_Mod_ok n_Mod hown hK hP hD hS 0 rfl rfl 0 (by decide) (hT _ tw2_226) (fun _ h9 => h9) rfl (by decide +kernel) rfl rfl (Nat.le_of_ble_eq_true rfl) d_Mod_about_2 (fun H locs hP hD hS => ?_)
      have hP : va_P Dg classes (wD a k (u2 D 14 0 0)) H := hP
      have hD : va_D (va_A (wD a k D) s.heap.size) (wD a k (u2 D 14 0 0)) := hD
      obtain ⟨Ds4, hDs4⟩ : ∃ z9, z9 = (u2 D 14 0 0) := ⟨_, rfl⟩
      rw [← hDs4] at hP hD
      refine lv_iload_n hx hb d_Mod_about_5 rfl (lv_at hl 1 rfl) ?_
      refine lv_if_eq (tgt := 13) hx hb d_Mod_about_6 (by decide) (fun _ => ?_) (fun h9 => absurd hz h9)
      refine lv_iconst (v := 0) hx hb d_Mod_about_13 (by decide) ?_
      refine lv_istore_n hx hb d_Mod_about_14 rfl hl (by decide) rfl (fun ls hl => ?_)
      have hl : lv_has ls 4 [(3, .int 0), (0, .ref (a 0)), (1, .int z), (2, .int 3)] := hl
      refine lv_iload_n hx hb d_Mod_about_15 rfl (lv_at hl 3 rfl) ?_
      refine lv_tableIn (x := 3) (off := 61) (tgt := 77) hx hb d_Mod_about_16 (by decide) (by decide) rfl (by decide) ?_
      refine lv_aload_n hx hb d_Mod_about_77 rfl (lv_at hl 1 rfl) ?_
      refine va_get (D := Dg) (ci := 3) (v := .ref (a 8)) (C := R_Mod) (T := F_Mod) (N := 17) hx hb hT in_Mod hown hK hP 0 rfl rfl 10 (by decide) (hT _ tw2_236) (fun _ h9 => h9) rfl d_Mod_about_78 ?_
      refine lv_iload_n hx hb d_Mod_about_81 rfl (lv_at hl 0 rfl) ?_
      refine va_iald (f := (D 7)) hx hb hK hP 8 0 (by rw [hDs4]; rfl) rfl (show vp_in (nI 0) 2 from vp_in_nI (by decide) (by decide)) d_Mod_about_82 ?_
      exact km_i F hlocks hret hP hD hS d_Mod_about_83 (by unfold dFact; rw [if_neg (by decide), if_neg (by decide), if_neg (by decide), if_pos rfl, hmac]) (by subst hDs4; rfl)
    · refine lv_aload_n hx hb d_Mod_about_0 rfl (lv_at hl 0 rfl) ?_
      refine lv_iconst (v := 0) hx hb d_Mod_about_1 (by decide) ?_
      refine va_put (D := Dg) (ci := 3) (v := .int 0) (ty := .int) (C := R_Mod) (T := F_Mod) (N := 17) hx hb hT in_Mod t_Mod t_Mod_ok n_Mod hown hK hP hD hS 0 rfl rfl 0 (by decide) (hT _ tw2_226) (fun _ h9 => h9) rfl (by decide +kernel) rfl rfl (Nat.le_of_ble_eq_true rfl) d_Mod_about_2 (fun H locs hP hD hS => ?_)
      have hP : va_P Dg classes (wD a k (u2 D 14 0 0)) H := hP
      have hD : va_D (va_A (wD a k D) s.heap.size) (wD a k (u2 D 14 0 0)) := hD
      obtain ⟨Ds5, hDs5⟩ : ∃ z9, z9 = (u2 D 14 0 0) := ⟨_, rfl⟩
      rw [← hDs5] at hP hD
      refine lv_iload_n hx hb d_Mod_about_5 rfl (lv_at hl 1 rfl) ?_
      refine lv_if_eq (tgt := 13) hx hb d_Mod_about_6 (by decide) (fun _ => ?_) (fun h9 => absurd hz h9)
      refine lv_iconst (v := 0) hx hb d_Mod_about_13 (by decide) ?_
      refine lv_istore_n hx hb d_Mod_about_14 rfl hl (by decide) rfl (fun ls hl => ?_)
      have hl : lv_has ls 4 [(3, .int 0), (0, .ref (a 0)), (1, .int z), (2, .int 4)] := hl
      refine lv_iload_n hx hb d_Mod_about_15 rfl (lv_at hl 3 rfl) ?_
      refine lv_tableIn (x := 4) (off := 68) (tgt := 84) hx hb d_Mod_about_16 (by decide) (by decide) rfl (by decide) ?_
      refine lv_aload_n hx hb d_Mod_about_84 rfl (lv_at hl 1 rfl) ?_
      refine va_get (D := Dg) (ci := 3) (v := .ref (a 9)) (C := R_Mod) (T := F_Mod) (N := 17) hx hb hT in_Mod hown hK hP 0 rfl rfl 11 (by decide) (hT _ tw2_237) (fun _ h9 => h9) rfl d_Mod_about_85 ?_
      refine lv_iload_n hx hb d_Mod_about_88 rfl (lv_at hl 0 rfl) ?_
      refine va_iald (f := (D 8)) hx hb hK hP 9 0 (by rw [hDs5]; rfl) rfl (show vp_in (nI 0) 2 from vp_in_nI (by decide) (by decide)) d_Mod_about_89 ?_
      exact km_i F hlocks hret hP hD hS d_Mod_about_90 (by unfold dFact; rw [if_neg (by decide), if_neg (by decide), if_neg (by decide), if_neg (by decide), if_pos rfl, hmac]) (by subst hDs5; rfl)
    · refine lv_aload_n hx hb d_Mod_about_0 rfl (lv_at hl 0 rfl) ?_
      refine lv_iconst (v := 0) hx hb d_Mod_about_1 (by decide) ?_
      refine va_put (D := Dg) (ci := 3) (v := .int 0) (ty := .int) (C := R_Mod) (T := F_Mod) (N := 17) hx hb hT in_Mod t_Mod t_Mod_ok n_Mod hown hK hP hD hS 0 rfl rfl 0 (by decide) (hT _ tw2_226) (fun _ h9 => h9) rfl (by decide +kernel) rfl rfl (Nat.le_of_ble_eq_true rfl) d_Mod_about_2 (fun H locs hP hD hS => ?_)
      have hP : va_P Dg classes (wD a k (u2 D 14 0 0)) H := hP
      have hD : va_D (va_A (wD a k D) s.heap.size) (wD a k (u2 D 14 0 0)) := hD
      obtain ⟨Ds6, hDs6⟩ : ∃ z9, z9 = (u2 D 14 0 0) := ⟨_, rfl⟩
      rw [← hDs6] at hP hD
      refine lv_iload_n hx hb d_Mod_about_5 rfl (lv_at hl 1 rfl) ?_
      refine lv_if_eq (tgt := 13) hx hb d_Mod_about_6 (by decide) (fun _ => ?_) (fun h9 => absurd hz h9)
      refine lv_iconst (v := 0) hx hb d_Mod_about_13 (by decide) ?_
      refine lv_istore_n hx hb d_Mod_about_14 rfl hl (by decide) rfl (fun ls hl => ?_)
      have hl : lv_has ls 4 [(3, .int 0), (0, .ref (a 0)), (1, .int z), (2, .int 5)] := hl
      refine lv_iload_n hx hb d_Mod_about_15 rfl (lv_at hl 3 rfl) ?_
      refine lv_tableIn (x := 5) (off := 75) (tgt := 91) hx hb d_Mod_about_16 (by decide) (by decide) rfl (by decide) ?_
      refine lv_aload_n hx hb d_Mod_about_91 rfl (lv_at hl 1 rfl) ?_
      refine va_get (D := Dg) (ci := 3) (v := .ref (a 10)) (C := R_Mod) (T := F_Mod) (N := 17) hx hb hT in_Mod hown hK hP 0 rfl rfl 12 (by decide) (hT _ tw2_238) (fun _ h9 => h9) rfl d_Mod_about_92 ?_
      refine lv_iload_n hx hb d_Mod_about_95 rfl (lv_at hl 0 rfl) ?_
      refine va_iald (f := (D 9)) hx hb hK hP 10 0 (by rw [hDs6]; rfl) rfl (show vp_in (nI 0) 2 from vp_in_nI (by decide) (by decide)) d_Mod_about_96 ?_
      exact km_i F hlocks hret hP hD hS d_Mod_about_97 (by unfold dFact; rw [if_neg (by decide), if_neg (by decide), if_neg (by decide), if_neg (by decide), if_neg (by decide), if_pos rfl, hmac]) (by subst hDs6; rfl)
    · refine lv_aload_n hx hb d_Mod_about_0 rfl (lv_at hl 0 rfl) ?_
      refine lv_iconst (v := 0) hx hb d_Mod_about_1 (by decide) ?_
      refine va_put (D := Dg) (ci := 3) (v := .int 0) (ty := .int) (C := R_Mod) (T := F_Mod) (N := 17) hx hb hT in_Mod t_Mod t_Mod_ok n_Mod hown hK hP hD hS 0 rfl rfl 0 (by decide) (hT _ tw2_226) (fun _ h9 => h9) rfl (by decide +kernel) rfl rfl (Nat.le_of_ble_eq_true rfl) d_Mod_about_2 (fun H locs hP hD hS => ?_)
      have hP : va_P Dg classes (wD a k (u2 D 14 0 0)) H := hP
      have hD : va_D (va_A (wD a k D) s.heap.size) (wD a k (u2 D 14 0 0)) := hD
      obtain ⟨Ds7, hDs7⟩ : ∃ z9, z9 = (u2 D 14 0 0) := ⟨_, rfl⟩
      rw [← hDs7] at hP hD
      refine lv_iload_n hx hb d_Mod_about_5 rfl (lv_at hl 1 rfl) ?_
      refine lv_if_eq (tgt := 13) hx hb d_Mod_about_6 (by decide) (fun _ => ?_) (fun h9 => absurd hz h9)
      refine lv_iconst (v := 0) hx hb d_Mod_about_13 (by decide) ?_
      refine lv_istore_n hx hb d_Mod_about_14 rfl hl (by decide) rfl (fun ls hl => ?_)
      have hl : lv_has ls 4 [(3, .int 0), (0, .ref (a 0)), (1, .int z), (2, .int w)] := hl
      refine lv_iload_n hx hb d_Mod_about_15 rfl (lv_at hl 3 rfl) ?_
      refine lv_tableOut (tgt := 98) hx hb d_Mod_about_16 hsw (by decide) ?_
      refine lv_iconst (v := (-1)) hx hb d_Mod_about_98 (by decide) ?_
      exact km_i F hlocks hret hP hD hS d_Mod_about_99 (by unfold dFact; rw [if_neg (ne_of_out hsw 0 (by decide) (by decide)), if_neg (ne_of_out hsw 1 (by decide) (by decide)), if_neg (ne_of_out hsw 2 (by decide) (by decide)), if_neg (ne_of_out hsw 3 (by decide) (by decide)), if_neg (ne_of_out hsw 4 (by decide) (by decide)), if_neg (ne_of_out hsw 5 (by decide) (by decide))]) (by subst hDs7; rfl)
  · have hmac : dMac z = 1 := by unfold dMac; rw [if_neg hz]
    rcases sw_5 w with rfl | rfl | rfl | rfl | rfl | rfl | hsw
    · refine lv_aload_n hx hb d_Mod_about_0 rfl (lv_at hl 0 rfl) ?_
      refine lv_iconst (v := 0) hx hb d_Mod_about_1 (by decide) ?_
      refine va_put (D := Dg) (ci := 3) (v := .int 0) (ty := .int) (C := R_Mod) (T := F_Mod) (N := 17) hx hb hT in_Mod t_Mod t_Mod_ok n_Mod hown hK hP hD hS 0 rfl rfl 0 (by decide) (hT _ tw2_226) (fun _ h9 => h9) rfl (by decide +kernel) rfl rfl (Nat.le_of_ble_eq_true rfl) d_Mod_about_2 (fun H locs hP hD hS => ?_)
      have hP : va_P Dg classes (wD a k (u2 D 14 0 0)) H := hP
      have hD : va_D (va_A (wD a k D) s.heap.size) (wD a k (u2 D 14 0 0)) := hD
      obtain ⟨Ds8, hDs8⟩ : ∃ z9, z9 = (u2 D 14 0 0) := ⟨_, rfl⟩
      rw [← hDs8] at hP hD
      refine lv_iload_n hx hb d_Mod_about_5 rfl (lv_at hl 1 rfl) ?_
      refine lv_if_eq (tgt := 13) hx hb d_Mod_about_6 (by decide) (fun h9 => absurd h9 hz) (fun _ => ?_)
      refine lv_iconst (v := 1) hx hb d_Mod_about_9 (by decide) ?_
      refine lv_goto (tgt := 14) hx hb d_Mod_about_10 (by decide) ?_
      refine lv_istore_n hx hb d_Mod_about_14 rfl hl (by decide) rfl (fun ls hl => ?_)
      have hl : lv_has ls 4 [(3, .int 1), (0, .ref (a 0)), (1, .int z), (2, .int 0)] := hl
      refine lv_iload_n hx hb d_Mod_about_15 rfl (lv_at hl 3 rfl) ?_
      refine lv_tableIn (x := 0) (off := 40) (tgt := 56) hx hb d_Mod_about_16 (by decide) (by decide) rfl (by decide) ?_
      refine lv_aload_n hx hb d_Mod_about_56 rfl (lv_at hl 1 rfl) ?_
      refine va_get (D := Dg) (ci := 3) (v := .ref (a 5)) (C := R_Mod) (T := F_Mod) (N := 17) hx hb hT in_Mod hown hK hP 0 rfl rfl 7 (by decide) (hT _ tw2_233) (fun _ h9 => h9) rfl d_Mod_about_57 ?_
      refine lv_iload_n hx hb d_Mod_about_60 rfl (lv_at hl 0 rfl) ?_
      refine va_iald (f := (D 4)) hx hb hK hP 5 0 (by rw [hDs8]; rfl) rfl (show vp_in (nI 1) 2 from vp_in_nI (by decide) (by decide)) d_Mod_about_61 ?_
      exact km_i F hlocks hret hP hD hS d_Mod_about_62 (by unfold dFact; rw [if_pos rfl, hmac]) (by subst hDs8; rfl)
    · refine lv_aload_n hx hb d_Mod_about_0 rfl (lv_at hl 0 rfl) ?_
      refine lv_iconst (v := 0) hx hb d_Mod_about_1 (by decide) ?_
      refine va_put (D := Dg) (ci := 3) (v := .int 0) (ty := .int) (C := R_Mod) (T := F_Mod) (N := 17) hx hb hT in_Mod t_Mod t_Mod_ok n_Mod hown hK hP hD hS 0 rfl rfl 0 (by decide) (hT _ tw2_226) (fun _ h9 => h9) rfl (by decide +kernel) rfl rfl (Nat.le_of_ble_eq_true rfl) d_Mod_about_2 (fun H locs hP hD hS => ?_)
      have hP : va_P Dg classes (wD a k (u2 D 14 0 0)) H := hP
      have hD : va_D (va_A (wD a k D) s.heap.size) (wD a k (u2 D 14 0 0)) := hD
      obtain ⟨Ds9, hDs9⟩ : ∃ z9, z9 = (u2 D 14 0 0) := ⟨_, rfl⟩
      rw [← hDs9] at hP hD
      refine lv_iload_n hx hb d_Mod_about_5 rfl (lv_at hl 1 rfl) ?_
      refine lv_if_eq (tgt := 13) hx hb d_Mod_about_6 (by decide) (fun h9 => absurd h9 hz) (fun _ => ?_)
      refine lv_iconst (v := 1) hx hb d_Mod_about_9 (by decide) ?_
      refine lv_goto (tgt := 14) hx hb d_Mod_about_10 (by decide) ?_
      refine lv_istore_n hx hb d_Mod_about_14 rfl hl (by decide) rfl (fun ls hl => ?_)
      have hl : lv_has ls 4 [(3, .int 1), (0, .ref (a 0)), (1, .int z), (2, .int 1)] := hl
      refine lv_iload_n hx hb d_Mod_about_15 rfl (lv_at hl 3 rfl) ?_
      refine lv_tableIn (x := 1) (off := 47) (tgt := 63) hx hb d_Mod_about_16 (by decide) (by decide) rfl (by decide) ?_
      refine lv_aload_n hx hb d_Mod_about_63 rfl (lv_at hl 1 rfl) ?_
      refine va_get (D := Dg) (ci := 3) (v := .ref (a 6)) (C := R_Mod) (T := F_Mod) (N := 17) hx hb hT in_Mod hown hK hP 0 rfl rfl 8 (by decide) (hT _ tw2_234) (fun _ h9 => h9) rfl d_Mod_about_64 ?_
      refine lv_iload_n hx hb d_Mod_about_67 rfl (lv_at hl 0 rfl) ?_
      refine va_iald (f := (D 5)) hx hb hK hP 6 0 (by rw [hDs9]; rfl) rfl (show vp_in (nI 1) 2 from vp_in_nI (by decide) (by decide)) d_Mod_about_68 ?_
      exact km_i F hlocks hret hP hD hS d_Mod_about_69 (by unfold dFact; rw [if_neg (by decide), if_pos rfl, hmac]) (by subst hDs9; rfl)
    · refine lv_aload_n hx hb d_Mod_about_0 rfl (lv_at hl 0 rfl) ?_
      refine lv_iconst (v := 0) hx hb d_Mod_about_1 (by decide) ?_
      refine va_put (D := Dg) (ci := 3) (v := .int 0) (ty := .int) (C := R_Mod) (T := F_Mod) (N := 17) hx hb hT in_Mod t_Mod t_Mod_ok n_Mod hown hK hP hD hS 0 rfl rfl 0 (by decide) (hT _ tw2_226) (fun _ h9 => h9) rfl (by decide +kernel) rfl rfl (Nat.le_of_ble_eq_true rfl) d_Mod_about_2 (fun H locs hP hD hS => ?_)
      have hP : va_P Dg classes (wD a k (u2 D 14 0 0)) H := hP
      have hD : va_D (va_A (wD a k D) s.heap.size) (wD a k (u2 D 14 0 0)) := hD
      obtain ⟨Ds10, hDs10⟩ : ∃ z9, z9 = (u2 D 14 0 0) := ⟨_, rfl⟩
      rw [← hDs10] at hP hD
      refine lv_iload_n hx hb d_Mod_about_5 rfl (lv_at hl 1 rfl) ?_
      refine lv_if_eq (tgt := 13) hx hb d_Mod_about_6 (by decide) (fun h9 => absurd h9 hz) (fun _ => ?_)
      refine lv_iconst (v := 1) hx hb d_Mod_about_9 (by decide) ?_
      refine lv_goto (tgt := 14) hx hb d_Mod_about_10 (by decide) ?_
      refine lv_istore_n hx hb d_Mod_about_14 rfl hl (by decide) rfl (fun ls hl => ?_)
      have hl : lv_has ls 4 [(3, .int 1), (0, .ref (a 0)), (1, .int z), (2, .int 2)] := hl
      refine lv_iload_n hx hb d_Mod_about_15 rfl (lv_at hl 3 rfl) ?_
      refine lv_tableIn (x := 2) (off := 54) (tgt := 70) hx hb d_Mod_about_16 (by decide) (by decide) rfl (by decide) ?_
      refine lv_aload_n hx hb d_Mod_about_70 rfl (lv_at hl 1 rfl) ?_
      refine va_get (D := Dg) (ci := 3) (v := .ref (a 7)) (C := R_Mod) (T := F_Mod) (N := 17) hx hb hT in_Mod hown hK hP 0 rfl rfl 9 (by decide) (hT _ tw2_235) (fun _ h9 => h9) rfl d_Mod_about_71 ?_
      refine lv_iload_n hx hb d_Mod_about_74 rfl (lv_at hl 0 rfl) ?_
      refine va_iald (f := (D 6)) hx hb hK hP 7 0 (by rw [hDs10]; rfl) rfl (show vp_in (nI 1) 2 from vp_in_nI (by decide) (by decide)) d_Mod_about_75 ?_
      exact km_i F hlocks hret hP hD hS d_Mod_about_76 (by unfold dFact; rw [if_neg (by decide), if_neg (by decide), if_pos rfl, hmac]) (by subst hDs10; rfl)
    · refine lv_aload_n hx hb d_Mod_about_0 rfl (lv_at hl 0 rfl) ?_
      refine lv_iconst (v := 0) hx hb d_Mod_about_1 (by decide) ?_
      refine va_put (D := Dg) (ci := 3) (v := .int 0) (ty := .int) (C := R_Mod) (T := F_Mod) (N := 17) hx hb hT in_Mod t_Mod t_Mod_ok n_Mod hown hK hP hD hS 0 rfl rfl 0 (by decide) (hT _ tw2_226) (fun _ h9 => h9) rfl (by decide +kernel) rfl rfl (Nat.le_of_ble_eq_true rfl) d_Mod_about_2 (fun H locs hP hD hS => ?_)
      have hP : va_P Dg classes (wD a k (u2 D 14 0 0)) H := hP
      have hD : va_D (va_A (wD a k D) s.heap.size) (wD a k (u2 D 14 0 0)) := hD
      obtain ⟨Ds11, hDs11⟩ : ∃ z9, z9 = (u2 D 14 0 0) := ⟨_, rfl⟩
      rw [← hDs11] at hP hD
      refine lv_iload_n hx hb d_Mod_about_5 rfl (lv_at hl 1 rfl) ?_
      refine lv_if_eq (tgt := 13) hx hb d_Mod_about_6 (by decide) (fun h9 => absurd h9 hz) (fun _ => ?_)
      refine lv_iconst (v := 1) hx hb d_Mod_about_9 (by decide) ?_
      refine lv_goto (tgt := 14) hx hb d_Mod_about_10 (by decide) ?_
      refine lv_istore_n hx hb d_Mod_about_14 rfl hl (by decide) rfl (fun ls hl => ?_)
      have hl : lv_has ls 4 [(3, .int 1), (0, .ref (a 0)), (1, .int z), (2, .int 3)] := hl
      refine lv_iload_n hx hb d_Mod_about_15 rfl (lv_at hl 3 rfl) ?_
      refine lv_tableIn (x := 3) (off := 61) (tgt := 77) hx hb d_Mod_about_16 (by decide) (by decide) rfl (by decide) ?_
      refine lv_aload_n hx hb d_Mod_about_77 rfl (lv_at hl 1 rfl) ?_
      refine va_get (D := Dg) (ci := 3) (v := .ref (a 8)) (C := R_Mod) (T := F_Mod) (N := 17) hx hb hT in_Mod hown hK hP 0 rfl rfl 10 (by decide) (hT _ tw2_236) (fun _ h9 => h9) rfl d_Mod_about_78 ?_
      refine lv_iload_n hx hb d_Mod_about_81 rfl (lv_at hl 0 rfl) ?_
      refine va_iald (f := (D 7)) hx hb hK hP 8 0 (by rw [hDs11]; rfl) rfl (show vp_in (nI 1) 2 from vp_in_nI (by decide) (by decide)) d_Mod_about_82 ?_
      exact km_i F hlocks hret hP hD hS d_Mod_about_83 (by unfold dFact; rw [if_neg (by decide), if_neg (by decide), if_neg (by decide), if_pos rfl, hmac]) (by subst hDs11; rfl)
    · refine lv_aload_n hx hb d_Mod_about_0 rfl (lv_at hl 0 rfl) ?_
      refine lv_iconst (v := 0) hx hb d_Mod_about_1 (by decide) ?_
      refine va_put (D := Dg) (ci := 3) (v := .int 0) (ty := .int) (C := R_Mod) (T := F_Mod) (N := 17) hx hb hT in_Mod t_Mod t_Mod_ok n_Mod hown hK hP hD hS 0 rfl rfl 0 (by decide) (hT _ tw2_226) (fun _ h9 => h9) rfl (by decide +kernel) rfl rfl (Nat.le_of_ble_eq_true rfl) d_Mod_about_2 (fun H locs hP hD hS => ?_)
      have hP : va_P Dg classes (wD a k (u2 D 14 0 0)) H := hP
      have hD : va_D (va_A (wD a k D) s.heap.size) (wD a k (u2 D 14 0 0)) := hD
      obtain ⟨Ds12, hDs12⟩ : ∃ z9, z9 = (u2 D 14 0 0) := ⟨_, rfl⟩
      rw [← hDs12] at hP hD
      refine lv_iload_n hx hb d_Mod_about_5 rfl (lv_at hl 1 rfl) ?_
      refine lv_if_eq (tgt := 13) hx hb d_Mod_about_6 (by decide) (fun h9 => absurd h9 hz) (fun _ => ?_)
      refine lv_iconst (v := 1) hx hb d_Mod_about_9 (by decide) ?_
      refine lv_goto (tgt := 14) hx hb d_Mod_about_10 (by decide) ?_
      refine lv_istore_n hx hb d_Mod_about_14 rfl hl (by decide) rfl (fun ls hl => ?_)
      have hl : lv_has ls 4 [(3, .int 1), (0, .ref (a 0)), (1, .int z), (2, .int 4)] := hl
      refine lv_iload_n hx hb d_Mod_about_15 rfl (lv_at hl 3 rfl) ?_
      refine lv_tableIn (x := 4) (off := 68) (tgt := 84) hx hb d_Mod_about_16 (by decide) (by decide) rfl (by decide) ?_
      refine lv_aload_n hx hb d_Mod_about_84 rfl (lv_at hl 1 rfl) ?_
      refine va_get (D := Dg) (ci := 3) (v := .ref (a 9)) (C := R_Mod) (T := F_Mod) (N := 17) hx hb hT in_Mod hown hK hP 0 rfl rfl 11 (by decide) (hT _ tw2_237) (fun _ h9 => h9) rfl d_Mod_about_85 ?_
      refine lv_iload_n hx hb d_Mod_about_88 rfl (lv_at hl 0 rfl) ?_
      refine va_iald (f := (D 8)) hx hb hK hP 9 0 (by rw [hDs12]; rfl) rfl (show vp_in (nI 1) 2 from vp_in_nI (by decide) (by decide)) d_Mod_about_89 ?_
      exact km_i F hlocks hret hP hD hS d_Mod_about_90 (by unfold dFact; rw [if_neg (by decide), if_neg (by decide), if_neg (by decide), if_neg (by decide), if_pos rfl, hmac]) (by subst hDs12; rfl)
    · refine lv_aload_n hx hb d_Mod_about_0 rfl (lv_at hl 0 rfl) ?_
      refine lv_iconst (v := 0) hx hb d_Mod_about_1 (by decide) ?_
      refine va_put (D := Dg) (ci := 3) (v := .int 0) (ty := .int) (C := R_Mod) (T := F_Mod) (N := 17) hx hb hT in_Mod t_Mod t_Mod_ok n_Mod hown hK hP hD hS 0 rfl rfl 0 (by decide) (hT _ tw2_226) (fun _ h9 => h9) rfl (by decide +kernel) rfl rfl (Nat.le_of_ble_eq_true rfl) d_Mod_about_2 (fun H locs hP hD hS => ?_)
      have hP : va_P Dg classes (wD a k (u2 D 14 0 0)) H := hP
      have hD : va_D (va_A (wD a k D) s.heap.size) (wD a k (u2 D 14 0 0)) := hD
      obtain ⟨Ds13, hDs13⟩ : ∃ z9, z9 = (u2 D 14 0 0) := ⟨_, rfl⟩
      rw [← hDs13] at hP hD
      refine lv_iload_n hx hb d_Mod_about_5 rfl (lv_at hl 1 rfl) ?_
      refine lv_if_eq (tgt := 13) hx hb d_Mod_about_6 (by decide) (fun h9 => absurd h9 hz) (fun _ => ?_)
      refine lv_iconst (v := 1) hx hb d_Mod_about_9 (by decide) ?_
      refine lv_goto (tgt := 14) hx hb d_Mod_about_10 (by decide) ?_
      refine lv_istore_n hx hb d_Mod_about_14 rfl hl (by decide) rfl (fun ls hl => ?_)
      have hl : lv_has ls 4 [(3, .int 1), (0, .ref (a 0)), (1, .int z), (2, .int 5)] := hl
      refine lv_iload_n hx hb d_Mod_about_15 rfl (lv_at hl 3 rfl) ?_
      refine lv_tableIn (x := 5) (off := 75) (tgt := 91) hx hb d_Mod_about_16 (by decide) (by decide) rfl (by decide) ?_
      refine lv_aload_n hx hb d_Mod_about_91 rfl (lv_at hl 1 rfl) ?_
      refine va_get (D := Dg) (ci := 3) (v := .ref (a 10)) (C := R_Mod) (T := F_Mod) (N := 17) hx hb hT in_Mod hown hK hP 0 rfl rfl 12 (by decide) (hT _ tw2_238) (fun _ h9 => h9) rfl d_Mod_about_92 ?_
      refine lv_iload_n hx hb d_Mod_about_95 rfl (lv_at hl 0 rfl) ?_
      refine va_iald (f := (D 9)) hx hb hK hP 10 0 (by rw [hDs13]; rfl) rfl (show vp_in (nI 1) 2 from vp_in_nI (by decide) (by decide)) d_Mod_about_96 ?_
      exact km_i F hlocks hret hP hD hS d_Mod_about_97 (by unfold dFact; rw [if_neg (by decide), if_neg (by decide), if_neg (by decide), if_neg (by decide), if_neg (by decide), if_pos rfl, hmac]) (by subst hDs13; rfl)
    · refine lv_aload_n hx hb d_Mod_about_0 rfl (lv_at hl 0 rfl) ?_
      refine lv_iconst (v := 0) hx hb d_Mod_about_1 (by decide) ?_
      refine va_put (D := Dg) (ci := 3) (v := .int 0) (ty := .int) (C := R_Mod) (T := F_Mod) (N := 17) hx hb hT in_Mod t_Mod t_Mod_ok n_Mod hown hK hP hD hS 0 rfl rfl 0 (by decide) (hT _ tw2_226) (fun _ h9 => h9) rfl (by decide +kernel) rfl rfl (Nat.le_of_ble_eq_true rfl) d_Mod_about_2 (fun H locs hP hD hS => ?_)
      have hP : va_P Dg classes (wD a k (u2 D 14 0 0)) H := hP
      have hD : va_D (va_A (wD a k D) s.heap.size) (wD a k (u2 D 14 0 0)) := hD
      obtain ⟨Ds14, hDs14⟩ : ∃ z9, z9 = (u2 D 14 0 0) := ⟨_, rfl⟩
      rw [← hDs14] at hP hD
      refine lv_iload_n hx hb d_Mod_about_5 rfl (lv_at hl 1 rfl) ?_
      refine lv_if_eq (tgt := 13) hx hb d_Mod_about_6 (by decide) (fun h9 => absurd h9 hz) (fun _ => ?_)
      refine lv_iconst (v := 1) hx hb d_Mod_about_9 (by decide) ?_
      refine lv_goto (tgt := 14) hx hb d_Mod_about_10 (by decide) ?_
      refine lv_istore_n hx hb d_Mod_about_14 rfl hl (by decide) rfl (fun ls hl => ?_)
      have hl : lv_has ls 4 [(3, .int 1), (0, .ref (a 0)), (1, .int z), (2, .int w)] := hl
      refine lv_iload_n hx hb d_Mod_about_15 rfl (lv_at hl 3 rfl) ?_
      refine lv_tableOut (tgt := 98) hx hb d_Mod_about_16 hsw (by decide) ?_
      refine lv_iconst (v := (-1)) hx hb d_Mod_about_98 (by decide) ?_
      exact km_i F hlocks hret hP hD hS d_Mod_about_99 (by unfold dFact; rw [if_neg (ne_of_out hsw 0 (by decide) (by decide)), if_neg (ne_of_out hsw 1 (by decide) (by decide)), if_neg (ne_of_out hsw 2 (by decide) (by decide)), if_neg (ne_of_out hsw 3 (by decide) (by decide)), if_neg (ne_of_out hsw 4 (by decide) (by decide)), if_neg (ne_of_out hsw 5 (by decide) (by decide))]) (by subst hDs14; rfl)

def dStC (D : vSt) (z i : Int32) : Int32 := if pOut i 0 (D 5 (tn (dMac z)) - 1) = 0 then 0 else 1
def dStR (D : vSt) (z i : Int32) : Int32 := if pOut i 0 (D 5 (tn (dMac z)) - 1) = 0 then D 10 (40 * dMac z + i).toNatClampNeg else 0
def dLoC (i : Int32) : Int32 := if pOut i 0 7 = 0 then 0 else 1
def dLoR (D : vSt) (z i : Int32) : Int32 := if pOut i 0 7 = 0 then D 11 (8 * dMac z + i).toNatClampNeg else 0
def dOuC (D : vSt) (z i : Int32) : Int32 := if pOut i 0 (D 7 (tn (dMac z)) - 1) = 0 then (if i ≤ 59 then 0 else 1) else 1
def dOuR (D : vSt) (z i : Int32) : Int32 := if pOut i 0 (D 7 (tn (dMac z)) - 1) = 0 then (if i ≤ 59 then D 13 (60 * dMac z + i).toNatClampNeg else 0) else 0

set_option maxRecDepth 100000 in
set_option maxHeartbeats 4000000 in
theorem c_Mod_stack (l : Launch) (Dg : va_G) (a : Nat → Nat) (k : Nat → ClassId) (D : vSt) (z i : Int32) (H : Heap) (hP : va_P Dg classes (wD a k D) H) (hD : va_D (fun _ => True) (wD a k D)) (hin : pOut i 0 (D 5 (tn (dMac z)) - 1) = 0 → vp_in (40 * dMac z + i) 80) : kMi l y_Mod_stack b_Mod_stack 4 (some FieldType.int) 1 22 [.ref (a 0), .int z, .int i] H (va_K Dg classes (kTy k)) Dg (wD a k D) (wD a k (u2 D 14 0 (dStC D z i))) (dStR D z i) := by
  refine k_of (by decide) (Nat.le_of_ble_eq_true rfl) ?_
  intro p e s m below meth cd ls F hlocks hret hname hh hX hl
  subst hh
  obtain ⟨hx, hb, hml, hown, hT⟩ := id F
  have hK : va_K Dg classes (kTy k) s := hX
  have hA : ∀ q : Nat, s.heap.size ≤ q → va_A (wD a k D) s.heap.size q := fun q h => Or.inr h
  have hD := hD.self (sz := s.heap.size)
  have hS : va_S (va_A (wD a k D) s.heap.size) s.heap s.heap [] := va_S.rf
  have hl : lv_has ls 4 [(0, .ref (a 0)), (1, .int z), (2, .int i)] := hl
  by_cases hz : z = 0
  · have hmac : dMac z = 0 := by unfold dMac; rw [if_pos hz]
    refine lv_iload_n hx hb d_Mod_stack_0 rfl (lv_at hl 1 rfl) ?_
    refine lv_if_eq (tgt := 8) hx hb d_Mod_stack_1 (by decide) (fun _ => ?_) (fun h9 => absurd hz h9)
    refine lv_iconst (v := 0) hx hb d_Mod_stack_8 (by decide) ?_
    refine lv_istore_n hx hb d_Mod_stack_9 rfl hl (by decide) rfl (fun ls hl => ?_)
    have hl : lv_has ls 4 [(3, .int 0), (0, .ref (a 0)), (1, .int z), (2, .int i)] := hl
    refine lv_iload_n hx hb d_Mod_stack_10 rfl (lv_at hl 3 rfl) ?_
    refine lv_iconst (v := 0) hx hb d_Mod_stack_11 (by decide) ?_
    refine lv_aload_n hx hb d_Mod_stack_12 rfl (lv_at hl 1 rfl) ?_
    refine va_get (D := Dg) (ci := 3) (v := .ref (a 6)) (C := R_Mod) (T := F_Mod) (N := 17) hx hb hT in_Mod hown hK hP 0 rfl rfl 8 (by decide) (hT _ tw2_234) (fun _ h9 => h9) rfl d_Mod_stack_13 ?_
    refine lv_iload_n hx hb d_Mod_stack_16 rfl (lv_at hl 0 rfl) ?_
    refine va_iald (f := (D 5)) hx hb hK hP 6 0 rfl rfl (show vp_in (nI 0) 2 from vp_in_nI (by decide) (by decide)) d_Mod_stack_17 ?_
    refine lv_iconst (v := 1) hx hb d_Mod_stack_18 (by decide) ?_
    refine lv_isub hx hb d_Mod_stack_19 ?_
    refine kp_S F (c_Mod_outside l Dg k i 0 (((D 5) (Int32.toNatClampNeg 0)) - 1) _ ) kx_K hK kw_Mod_64 tw3_57 hS d_Mod_stack_20 ⟨⟨by decide, by decide⟩, Nat.le_refl _, Nat.le_refl _⟩ rfl hl.1 rfl (Nat.le_of_ble_eq_true rfl) (fun locs hS => ?_)
    refine lv_if_eq (tgt := 32) hx hb d_Mod_stack_23 (by decide) (fun h23 => ?_) (fun h23 => ?_)
    · refine lv_aload_n hx hb d_Mod_stack_32 rfl (lv_at hl 1 rfl) ?_
      refine lv_iconst (v := 0) hx hb d_Mod_stack_33 (by decide) ?_
      refine va_put (D := Dg) (ci := 3) (v := .int 0) (ty := .int) (C := R_Mod) (T := F_Mod) (N := 17) hx hb hT in_Mod t_Mod t_Mod_ok n_Mod hown hK hP hD hS 0 rfl rfl 0 (by decide) (hT _ tw2_226) (fun _ h9 => h9) rfl (by decide +kernel) rfl rfl (Nat.le_of_ble_eq_true rfl) d_Mod_stack_34 (fun H locs hP hD hS => ?_)
      have hP : va_P Dg classes (wD a k (u2 D 14 0 0)) H := hP
      have hD : va_D (va_A (wD a k D) s.heap.size) (wD a k (u2 D 14 0 0)) := hD
      obtain ⟨Ds1, hDs1⟩ : ∃ z9, z9 = (u2 D 14 0 0) := ⟨_, rfl⟩
      rw [← hDs1] at hP hD
      refine lv_aload_n hx hb d_Mod_stack_37 rfl (lv_at hl 1 rfl) ?_
      refine va_get (D := Dg) (ci := 3) (v := .ref (a 11)) (C := R_Mod) (T := F_Mod) (N := 17) hx hb hT in_Mod hown hK hP 0 rfl rfl 13 (by decide) (hT _ tw2_239) (fun _ h9 => h9) rfl d_Mod_stack_38 ?_
      refine lv_bipush (v := 40) hx hb d_Mod_stack_41 (by decide) ?_
      refine lv_iload_n hx hb d_Mod_stack_43 rfl (lv_at hl 0 rfl) ?_
      refine lv_imul hx hb d_Mod_stack_44 ?_
      refine lv_iload_n hx hb d_Mod_stack_45 rfl (lv_at hl 3 rfl) ?_
      refine lv_iadd hx hb d_Mod_stack_46 ?_
      refine va_iald (f := (D 10)) hx hb hK hP 11 0 (by rw [hDs1]; rfl) rfl (by rw [hmac] at hin; exact hin h23) d_Mod_stack_47 ?_
      exact km_i F hlocks hret hP hD hS d_Mod_stack_48 (by unfold dStR; rw [hmac, if_pos h23]) (by subst hDs1; unfold dStC; rw [hmac, if_pos h23])
    · refine lv_aload_n hx hb d_Mod_stack_26 rfl (lv_at hl 1 rfl) ?_
      refine lv_iconst (v := 1) hx hb d_Mod_stack_27 (by decide) ?_
      refine km_Vi (wr := []) F (c_Mod_refuse l Dg a k D 1 _ hP (hD.weaken (fun _ _ _ _ => trivial)) ) kx_K hK kw_Mod_103 tw3_104 ts_21 (va_recv (ci := 3) (q0 := 0) hK hP rfl rfl) hP hD hS hA [0, 1, 2, 3, 4, 5, 6, 7, 8, 9, 10, 11, 12, 13, 14] [] rfl rfl (by decide) (by decide) d_Mod_stack_28 ⟨⟨by decide, by decide⟩, Nat.le_refl _, Nat.le_refl _⟩ rfl hl.1 rfl (Nat.le_of_ble_eq_true rfl) (fun H locs hP hD hS => ?_)
      have hP : va_P Dg classes (wD a k (u2 D 14 0 1)) H := hP
      have hD : va_D (va_A (wD a k D) s.heap.size) (wD a k (u2 D 14 0 1)) := hD
      obtain ⟨Ds2, hDs2⟩ : ∃ z9, z9 = (u2 D 14 0 1) := ⟨_, rfl⟩
      rw [← hDs2] at hP hD
      exact km_i F hlocks hret hP hD hS d_Mod_stack_31 (by unfold dStR; rw [hmac, if_neg h23]) (by subst hDs2; unfold dStC; rw [hmac, if_neg h23])
  · have hmac : dMac z = 1 := by unfold dMac; rw [if_neg hz]
    refine lv_iload_n hx hb d_Mod_stack_0 rfl (lv_at hl 1 rfl) ?_
    refine lv_if_eq (tgt := 8) hx hb d_Mod_stack_1 (by decide) (fun h9 => absurd h9 hz) (fun _ => ?_)
    refine lv_iconst (v := 1) hx hb d_Mod_stack_4 (by decide) ?_
    refine lv_goto (tgt := 9) hx hb d_Mod_stack_5 (by decide) ?_
    refine lv_istore_n hx hb d_Mod_stack_9 rfl hl (by decide) rfl (fun ls hl => ?_)
    have hl : lv_has ls 4 [(3, .int 1), (0, .ref (a 0)), (1, .int z), (2, .int i)] := hl
    refine lv_iload_n hx hb d_Mod_stack_10 rfl (lv_at hl 3 rfl) ?_
    refine lv_iconst (v := 0) hx hb d_Mod_stack_11 (by decide) ?_
    refine lv_aload_n hx hb d_Mod_stack_12 rfl (lv_at hl 1 rfl) ?_
    refine va_get (D := Dg) (ci := 3) (v := .ref (a 6)) (C := R_Mod) (T := F_Mod) (N := 17) hx hb hT in_Mod hown hK hP 0 rfl rfl 8 (by decide) (hT _ tw2_234) (fun _ h9 => h9) rfl d_Mod_stack_13 ?_
    refine lv_iload_n hx hb d_Mod_stack_16 rfl (lv_at hl 0 rfl) ?_
    refine va_iald (f := (D 5)) hx hb hK hP 6 0 rfl rfl (show vp_in (nI 1) 2 from vp_in_nI (by decide) (by decide)) d_Mod_stack_17 ?_
    refine lv_iconst (v := 1) hx hb d_Mod_stack_18 (by decide) ?_
    refine lv_isub hx hb d_Mod_stack_19 ?_
    refine kp_S F (c_Mod_outside l Dg k i 0 (((D 5) (Int32.toNatClampNeg 1)) - 1) _ ) kx_K hK kw_Mod_64 tw3_57 hS d_Mod_stack_20 ⟨⟨by decide, by decide⟩, Nat.le_refl _, Nat.le_refl _⟩ rfl hl.1 rfl (Nat.le_of_ble_eq_true rfl) (fun locs hS => ?_)
    refine lv_if_eq (tgt := 32) hx hb d_Mod_stack_23 (by decide) (fun h23 => ?_) (fun h23 => ?_)
    · refine lv_aload_n hx hb d_Mod_stack_32 rfl (lv_at hl 1 rfl) ?_
      refine lv_iconst (v := 0) hx hb d_Mod_stack_33 (by decide) ?_
      refine va_put (D := Dg) (ci := 3) (v := .int 0) (ty := .int) (C := R_Mod) (T := F_Mod) (N := 17) hx hb hT in_Mod t_Mod t_Mod_ok n_Mod hown hK hP hD hS 0 rfl rfl 0 (by decide) (hT _ tw2_226) (fun _ h9 => h9) rfl (by decide +kernel) rfl rfl (Nat.le_of_ble_eq_true rfl) d_Mod_stack_34 (fun H locs hP hD hS => ?_)
      have hP : va_P Dg classes (wD a k (u2 D 14 0 0)) H := hP
      have hD : va_D (va_A (wD a k D) s.heap.size) (wD a k (u2 D 14 0 0)) := hD
      obtain ⟨Ds3, hDs3⟩ : ∃ z9, z9 = (u2 D 14 0 0) := ⟨_, rfl⟩
      rw [← hDs3] at hP hD
      refine lv_aload_n hx hb d_Mod_stack_37 rfl (lv_at hl 1 rfl) ?_
      refine va_get (D := Dg) (ci := 3) (v := .ref (a 11)) (C := R_Mod) (T := F_Mod) (N := 17) hx hb hT in_Mod hown hK hP 0 rfl rfl 13 (by decide) (hT _ tw2_239) (fun _ h9 => h9) rfl d_Mod_stack_38 ?_
      refine lv_bipush (v := 40) hx hb d_Mod_stack_41 (by decide) ?_
      refine lv_iload_n hx hb d_Mod_stack_43 rfl (lv_at hl 0 rfl) ?_
      refine lv_imul hx hb d_Mod_stack_44 ?_
      refine lv_iload_n hx hb d_Mod_stack_45 rfl (lv_at hl 3 rfl) ?_
      refine lv_iadd hx hb d_Mod_stack_46 ?_
      refine va_iald (f := (D 10)) hx hb hK hP 11 0 (by rw [hDs3]; rfl) rfl (by rw [hmac] at hin; exact hin h23) d_Mod_stack_47 ?_
      exact km_i F hlocks hret hP hD hS d_Mod_stack_48 (by unfold dStR; rw [hmac, if_pos h23]) (by subst hDs3; unfold dStC; rw [hmac, if_pos h23])
    · refine lv_aload_n hx hb d_Mod_stack_26 rfl (lv_at hl 1 rfl) ?_
      refine lv_iconst (v := 1) hx hb d_Mod_stack_27 (by decide) ?_
      refine km_Vi (wr := []) F (c_Mod_refuse l Dg a k D 1 _ hP (hD.weaken (fun _ _ _ _ => trivial)) ) kx_K hK kw_Mod_103 tw3_104 ts_21 (va_recv (ci := 3) (q0 := 0) hK hP rfl rfl) hP hD hS hA [0, 1, 2, 3, 4, 5, 6, 7, 8, 9, 10, 11, 12, 13, 14] [] rfl rfl (by decide) (by decide) d_Mod_stack_28 ⟨⟨by decide, by decide⟩, Nat.le_refl _, Nat.le_refl _⟩ rfl hl.1 rfl (Nat.le_of_ble_eq_true rfl) (fun H locs hP hD hS => ?_)
      have hP : va_P Dg classes (wD a k (u2 D 14 0 1)) H := hP
      have hD : va_D (va_A (wD a k D) s.heap.size) (wD a k (u2 D 14 0 1)) := hD
      obtain ⟨Ds4, hDs4⟩ : ∃ z9, z9 = (u2 D 14 0 1) := ⟨_, rfl⟩
      rw [← hDs4] at hP hD
      exact km_i F hlocks hret hP hD hS d_Mod_stack_31 (by unfold dStR; rw [hmac, if_neg h23]) (by subst hDs4; unfold dStC; rw [hmac, if_neg h23])

set_option maxRecDepth 100000 in
set_option maxHeartbeats 4000000 in
theorem c_Mod_local (l : Launch) (Dg : va_G) (a : Nat → Nat) (k : Nat → ClassId) (D : vSt) (z i : Int32) (H : Heap) (hP : va_P Dg classes (wD a k D) H) (hD : va_D (fun _ => True) (wD a k D)) (hin : pOut i 0 7 = 0 → vp_in (8 * dMac z + i) 16) : kMi l y_Mod_local b_Mod_local 3 (some FieldType.int) 1 22 [.ref (a 0), .int z, .int i] H (va_K Dg classes (kTy k)) Dg (wD a k D) (wD a k (u2 D 14 0 (dLoC i))) (dLoR D z i) := by
  refine k_of (by decide) (Nat.le_of_ble_eq_true rfl) ?_
  intro p e s m below meth cd ls F hlocks hret hname hh hX hl
  subst hh
  obtain ⟨hx, hb, hml, hown, hT⟩ := id F
  have hK : va_K Dg classes (kTy k) s := hX
  have hA : ∀ q : Nat, s.heap.size ≤ q → va_A (wD a k D) s.heap.size q := fun q h => Or.inr h
  have hD := hD.self (sz := s.heap.size)
  have hS : va_S (va_A (wD a k D) s.heap.size) s.heap s.heap [] := va_S.rf
  have hl : lv_has ls 3 [(0, .ref (a 0)), (1, .int z), (2, .int i)] := hl
  by_cases hz : z = 0
  · have hmac : dMac z = 0 := by unfold dMac; rw [if_pos hz]
    refine lv_iload_n hx hb d_Mod_local_0 rfl (lv_at hl 2 rfl) ?_
    refine lv_iconst (v := 0) hx hb d_Mod_local_1 (by decide) ?_
    refine lv_bipush (v := 7) hx hb d_Mod_local_2 (by decide) ?_
    refine kp_S F (c_Mod_outside l Dg k i 0 7 _ ) kx_K hK kw_Mod_64 tw3_57 hS d_Mod_local_4 ⟨⟨by decide, by decide⟩, Nat.le_refl _, Nat.le_refl _⟩ rfl hl.1 rfl (Nat.le_of_ble_eq_true rfl) (fun locs hS => ?_)
    refine lv_if_eq (tgt := 16) hx hb d_Mod_local_7 (by decide) (fun h7 => ?_) (fun h7 => ?_)
    · refine lv_aload_n hx hb d_Mod_local_16 rfl (lv_at hl 0 rfl) ?_
      refine lv_iconst (v := 0) hx hb d_Mod_local_17 (by decide) ?_
      refine va_put (D := Dg) (ci := 3) (v := .int 0) (ty := .int) (C := R_Mod) (T := F_Mod) (N := 17) hx hb hT in_Mod t_Mod t_Mod_ok n_Mod hown hK hP hD hS 0 rfl rfl 0 (by decide) (hT _ tw2_226) (fun _ h9 => h9) rfl (by decide +kernel) rfl rfl (Nat.le_of_ble_eq_true rfl) d_Mod_local_18 (fun H locs hP hD hS => ?_)
      have hP : va_P Dg classes (wD a k (u2 D 14 0 0)) H := hP
      have hD : va_D (va_A (wD a k D) s.heap.size) (wD a k (u2 D 14 0 0)) := hD
      obtain ⟨Ds1, hDs1⟩ : ∃ z9, z9 = (u2 D 14 0 0) := ⟨_, rfl⟩
      rw [← hDs1] at hP hD
      refine lv_aload_n hx hb d_Mod_local_21 rfl (lv_at hl 0 rfl) ?_
      refine va_get (D := Dg) (ci := 3) (v := .ref (a 12)) (C := R_Mod) (T := F_Mod) (N := 17) hx hb hT in_Mod hown hK hP 0 rfl rfl 14 (by decide) (hT _ tw3_0) (fun _ h9 => h9) rfl d_Mod_local_22 ?_
      refine lv_bipush (v := 8) hx hb d_Mod_local_25 (by decide) ?_
      refine lv_iload_n hx hb d_Mod_local_27 rfl (lv_at hl 1 rfl) ?_
      refine lv_if_eq (tgt := 35) hx hb d_Mod_local_28 (by decide) (fun _ => ?_) (fun h9 => absurd hz h9)
      refine lv_iconst (v := 0) hx hb d_Mod_local_35 (by decide) ?_
      refine lv_imul hx hb d_Mod_local_36 ?_
      refine lv_iload_n hx hb d_Mod_local_37 rfl (lv_at hl 2 rfl) ?_
      refine lv_iadd hx hb d_Mod_local_38 ?_
      refine va_iald (f := (D 11)) hx hb hK hP 12 0 (by rw [hDs1]; rfl) rfl (by rw [hmac] at hin; exact hin h7) d_Mod_local_39 ?_
      exact km_i F hlocks hret hP hD hS d_Mod_local_40 (by unfold dLoR; rw [hmac, if_pos h7]) (by subst hDs1; unfold dLoC; rw [if_pos h7])
    · refine lv_aload_n hx hb d_Mod_local_10 rfl (lv_at hl 0 rfl) ?_
      refine lv_iconst (v := 1) hx hb d_Mod_local_11 (by decide) ?_
      refine km_Vi (wr := []) F (c_Mod_refuse l Dg a k D 1 _ hP (hD.weaken (fun _ _ _ _ => trivial)) ) kx_K hK kw_Mod_103 tw3_104 ts_21 (va_recv (ci := 3) (q0 := 0) hK hP rfl rfl) hP hD hS hA [0, 1, 2, 3, 4, 5, 6, 7, 8, 9, 10, 11, 12, 13, 14] [] rfl rfl (by decide) (by decide) d_Mod_local_12 ⟨⟨by decide, by decide⟩, Nat.le_refl _, Nat.le_refl _⟩ rfl hl.1 rfl (Nat.le_of_ble_eq_true rfl) (fun H locs hP hD hS => ?_)
      have hP : va_P Dg classes (wD a k (u2 D 14 0 1)) H := hP
      have hD : va_D (va_A (wD a k D) s.heap.size) (wD a k (u2 D 14 0 1)) := hD
      obtain ⟨Ds2, hDs2⟩ : ∃ z9, z9 = (u2 D 14 0 1) := ⟨_, rfl⟩
      rw [← hDs2] at hP hD
      exact km_i F hlocks hret hP hD hS d_Mod_local_15 (by unfold dLoR; rw [if_neg h7]) (by subst hDs2; unfold dLoC; rw [if_neg h7])
  · have hmac : dMac z = 1 := by unfold dMac; rw [if_neg hz]
    refine lv_iload_n hx hb d_Mod_local_0 rfl (lv_at hl 2 rfl) ?_
    refine lv_iconst (v := 0) hx hb d_Mod_local_1 (by decide) ?_
    refine lv_bipush (v := 7) hx hb d_Mod_local_2 (by decide) ?_
    refine kp_S F (c_Mod_outside l Dg k i 0 7 _ ) kx_K hK kw_Mod_64 tw3_57 hS d_Mod_local_4 ⟨⟨by decide, by decide⟩, Nat.le_refl _, Nat.le_refl _⟩ rfl hl.1 rfl (Nat.le_of_ble_eq_true rfl) (fun locs hS => ?_)
    refine lv_if_eq (tgt := 16) hx hb d_Mod_local_7 (by decide) (fun h7 => ?_) (fun h7 => ?_)
    · refine lv_aload_n hx hb d_Mod_local_16 rfl (lv_at hl 0 rfl) ?_
      refine lv_iconst (v := 0) hx hb d_Mod_local_17 (by decide) ?_
      refine va_put (D := Dg) (ci := 3) (v := .int 0) (ty := .int) (C := R_Mod) (T := F_Mod) (N := 17) hx hb hT in_Mod t_Mod t_Mod_ok n_Mod hown hK hP hD hS 0 rfl rfl 0 (by decide) (hT _ tw2_226) (fun _ h9 => h9) rfl (by decide +kernel) rfl rfl (Nat.le_of_ble_eq_true rfl) d_Mod_local_18 (fun H locs hP hD hS => ?_)
      have hP : va_P Dg classes (wD a k (u2 D 14 0 0)) H := hP
      have hD : va_D (va_A (wD a k D) s.heap.size) (wD a k (u2 D 14 0 0)) := hD
      obtain ⟨Ds3, hDs3⟩ : ∃ z9, z9 = (u2 D 14 0 0) := ⟨_, rfl⟩
      rw [← hDs3] at hP hD
      refine lv_aload_n hx hb d_Mod_local_21 rfl (lv_at hl 0 rfl) ?_
      refine va_get (D := Dg) (ci := 3) (v := .ref (a 12)) (C := R_Mod) (T := F_Mod) (N := 17) hx hb hT in_Mod hown hK hP 0 rfl rfl 14 (by decide) (hT _ tw3_0) (fun _ h9 => h9) rfl d_Mod_local_22 ?_
      refine lv_bipush (v := 8) hx hb d_Mod_local_25 (by decide) ?_
      refine lv_iload_n hx hb d_Mod_local_27 rfl (lv_at hl 1 rfl) ?_
      refine lv_if_eq (tgt := 35) hx hb d_Mod_local_28 (by decide) (fun h9 => absurd h9 hz) (fun _ => ?_)
      refine lv_iconst (v := 1) hx hb d_Mod_local_31 (by decide) ?_
      refine lv_goto (tgt := 36) hx hb d_Mod_local_32 (by decide) ?_
      refine lv_imul hx hb d_Mod_local_36 ?_
      refine lv_iload_n hx hb d_Mod_local_37 rfl (lv_at hl 2 rfl) ?_
      refine lv_iadd hx hb d_Mod_local_38 ?_
      refine va_iald (f := (D 11)) hx hb hK hP 12 0 (by rw [hDs3]; rfl) rfl (by rw [hmac] at hin; exact hin h7) d_Mod_local_39 ?_
      exact km_i F hlocks hret hP hD hS d_Mod_local_40 (by unfold dLoR; rw [hmac, if_pos h7]) (by subst hDs3; unfold dLoC; rw [if_pos h7])
    · refine lv_aload_n hx hb d_Mod_local_10 rfl (lv_at hl 0 rfl) ?_
      refine lv_iconst (v := 1) hx hb d_Mod_local_11 (by decide) ?_
      refine km_Vi (wr := []) F (c_Mod_refuse l Dg a k D 1 _ hP (hD.weaken (fun _ _ _ _ => trivial)) ) kx_K hK kw_Mod_103 tw3_104 ts_21 (va_recv (ci := 3) (q0 := 0) hK hP rfl rfl) hP hD hS hA [0, 1, 2, 3, 4, 5, 6, 7, 8, 9, 10, 11, 12, 13, 14] [] rfl rfl (by decide) (by decide) d_Mod_local_12 ⟨⟨by decide, by decide⟩, Nat.le_refl _, Nat.le_refl _⟩ rfl hl.1 rfl (Nat.le_of_ble_eq_true rfl) (fun H locs hP hD hS => ?_)
      have hP : va_P Dg classes (wD a k (u2 D 14 0 1)) H := hP
      have hD : va_D (va_A (wD a k D) s.heap.size) (wD a k (u2 D 14 0 1)) := hD
      obtain ⟨Ds4, hDs4⟩ : ∃ z9, z9 = (u2 D 14 0 1) := ⟨_, rfl⟩
      rw [← hDs4] at hP hD
      exact km_i F hlocks hret hP hD hS d_Mod_local_15 (by unfold dLoR; rw [if_neg h7]) (by subst hDs4; unfold dLoC; rw [if_neg h7])

set_option maxRecDepth 100000 in
set_option maxHeartbeats 4000000 in
theorem c_Mod_out (l : Launch) (Dg : va_G) (a : Nat → Nat) (k : Nat → ClassId) (D : vSt) (z i : Int32) (H : Heap) (hP : va_P Dg classes (wD a k D) H) (hD : va_D (fun _ => True) (wD a k D)) (hin : pOut i 0 (D 7 (tn (dMac z)) - 1) = 0 → i ≤ 59 → vp_in (60 * dMac z + i) 120) : kMi l y_Mod_out b_Mod_out 4 (some FieldType.int) 1 22 [.ref (a 0), .int z, .int i] H (va_K Dg classes (kTy k)) Dg (wD a k D) (wD a k (u2 D 14 0 (dOuC D z i))) (dOuR D z i) := by
  refine k_of (by decide) (Nat.le_of_ble_eq_true rfl) ?_
  intro p e s m below meth cd ls F hlocks hret hname hh hX hl
  subst hh
  obtain ⟨hx, hb, hml, hown, hT⟩ := id F
  have hK : va_K Dg classes (kTy k) s := hX
  have hA : ∀ q : Nat, s.heap.size ≤ q → va_A (wD a k D) s.heap.size q := fun q h => Or.inr h
  have hD := hD.self (sz := s.heap.size)
  have hS : va_S (va_A (wD a k D) s.heap.size) s.heap s.heap [] := va_S.rf
  have hl : lv_has ls 4 [(0, .ref (a 0)), (1, .int z), (2, .int i)] := hl
  by_cases hz : z = 0
  · have hmac : dMac z = 0 := by unfold dMac; rw [if_pos hz]
    refine lv_iload_n hx hb d_Mod_out_0 rfl (lv_at hl 1 rfl) ?_
    refine lv_if_eq (tgt := 8) hx hb d_Mod_out_1 (by decide) (fun _ => ?_) (fun h9 => absurd hz h9)
    refine lv_iconst (v := 0) hx hb d_Mod_out_8 (by decide) ?_
    refine lv_istore_n hx hb d_Mod_out_9 rfl hl (by decide) rfl (fun ls hl => ?_)
    have hl : lv_has ls 4 [(3, .int 0), (0, .ref (a 0)), (1, .int z), (2, .int i)] := hl
    refine lv_iload_n hx hb d_Mod_out_10 rfl (lv_at hl 3 rfl) ?_
    refine lv_iconst (v := 0) hx hb d_Mod_out_11 (by decide) ?_
    refine lv_aload_n hx hb d_Mod_out_12 rfl (lv_at hl 1 rfl) ?_
    refine va_get (D := Dg) (ci := 3) (v := .ref (a 8)) (C := R_Mod) (T := F_Mod) (N := 17) hx hb hT in_Mod hown hK hP 0 rfl rfl 10 (by decide) (hT _ tw2_236) (fun _ h9 => h9) rfl d_Mod_out_13 ?_
    refine lv_iload_n hx hb d_Mod_out_16 rfl (lv_at hl 0 rfl) ?_
    refine va_iald (f := (D 7)) hx hb hK hP 8 0 rfl rfl (show vp_in (nI 0) 2 from vp_in_nI (by decide) (by decide)) d_Mod_out_17 ?_
    refine lv_iconst (v := 1) hx hb d_Mod_out_18 (by decide) ?_
    refine lv_isub hx hb d_Mod_out_19 ?_
    refine kp_S F (c_Mod_outside l Dg k i 0 (((D 7) (Int32.toNatClampNeg 0)) - 1) _ ) kx_K hK kw_Mod_64 tw3_57 hS d_Mod_out_20 ⟨⟨by decide, by decide⟩, Nat.le_refl _, Nat.le_refl _⟩ rfl hl.1 rfl (Nat.le_of_ble_eq_true rfl) (fun locs hS => ?_)
    refine lv_if_ne (tgt := 32) hx hb d_Mod_out_23 (by decide) (fun h23 => ?_) (fun h23 => ?_)
    · refine lv_aload_n hx hb d_Mod_out_32 rfl (lv_at hl 1 rfl) ?_
      refine lv_iconst (v := 1) hx hb d_Mod_out_33 (by decide) ?_
      refine km_Vi (wr := []) F (c_Mod_refuse l Dg a k D 1 _ hP (hD.weaken (fun _ _ _ _ => trivial)) ) kx_K hK kw_Mod_103 tw3_104 ts_21 (va_recv (ci := 3) (q0 := 0) hK hP rfl rfl) hP hD hS hA [0, 1, 2, 3, 4, 5, 6, 7, 8, 9, 10, 11, 12, 13, 14] [] rfl rfl (by decide) (by decide) d_Mod_out_34 ⟨⟨by decide, by decide⟩, Nat.le_refl _, Nat.le_refl _⟩ rfl hl.1 rfl (Nat.le_of_ble_eq_true rfl) (fun H locs hP hD hS => ?_)
      have hP : va_P Dg classes (wD a k (u2 D 14 0 1)) H := hP
      have hD : va_D (va_A (wD a k D) s.heap.size) (wD a k (u2 D 14 0 1)) := hD
      obtain ⟨Ds1, hDs1⟩ : ∃ z9, z9 = (u2 D 14 0 1) := ⟨_, rfl⟩
      rw [← hDs1] at hP hD
      exact km_i F hlocks hret hP hD hS d_Mod_out_37 (by unfold dOuR; rw [hmac, if_neg h23]) (by subst hDs1; unfold dOuC; rw [hmac, if_neg h23])
    · refine lv_iload_n hx hb d_Mod_out_26 rfl (lv_at hl 3 rfl) ?_
      refine lv_bipush (v := 59) hx hb d_Mod_out_27 (by decide) ?_
      refine lv_icmp_le (tgt := 38) hx hb d_Mod_out_29 (by decide) (fun h29 => ?_) (fun h29 => ?_)
      · refine lv_aload_n hx hb d_Mod_out_38 rfl (lv_at hl 1 rfl) ?_
        refine lv_iconst (v := 0) hx hb d_Mod_out_39 (by decide) ?_
        refine va_put (D := Dg) (ci := 3) (v := .int 0) (ty := .int) (C := R_Mod) (T := F_Mod) (N := 17) hx hb hT in_Mod t_Mod t_Mod_ok n_Mod hown hK hP hD hS 0 rfl rfl 0 (by decide) (hT _ tw2_226) (fun _ h9 => h9) rfl (by decide +kernel) rfl rfl (Nat.le_of_ble_eq_true rfl) d_Mod_out_40 (fun H locs hP hD hS => ?_)
        have hP : va_P Dg classes (wD a k (u2 D 14 0 0)) H := hP
        have hD : va_D (va_A (wD a k D) s.heap.size) (wD a k (u2 D 14 0 0)) := hD
        obtain ⟨Ds2, hDs2⟩ : ∃ z9, z9 = (u2 D 14 0 0) := ⟨_, rfl⟩
        rw [← hDs2] at hP hD
        refine lv_aload_n hx hb d_Mod_out_43 rfl (lv_at hl 1 rfl) ?_
        refine va_get (D := Dg) (ci := 3) (v := .ref (a 14)) (C := R_Mod) (T := F_Mod) (N := 17) hx hb hT in_Mod hown hK hP 0 rfl rfl 16 (by decide) (hT _ tw3_2) (fun _ h9 => h9) rfl d_Mod_out_44 ?_
        refine lv_bipush (v := 60) hx hb d_Mod_out_47 (by decide) ?_
        refine lv_iload_n hx hb d_Mod_out_49 rfl (lv_at hl 0 rfl) ?_
        refine lv_imul hx hb d_Mod_out_50 ?_
        refine lv_iload_n hx hb d_Mod_out_51 rfl (lv_at hl 3 rfl) ?_
        refine lv_iadd hx hb d_Mod_out_52 ?_
        refine va_iald (f := (D 13)) hx hb hK hP 14 0 (by rw [hDs2]; rfl) rfl (by rw [hmac] at hin; exact hin h23 h29) d_Mod_out_53 ?_
        exact km_i F hlocks hret hP hD hS d_Mod_out_54 (by unfold dOuR; rw [hmac, if_pos h23, if_pos h29]) (by subst hDs2; unfold dOuC; rw [hmac, if_pos h23, if_pos h29])
      · refine lv_aload_n hx hb d_Mod_out_32 rfl (lv_at hl 1 rfl) ?_
        refine lv_iconst (v := 1) hx hb d_Mod_out_33 (by decide) ?_
        refine km_Vi (wr := []) F (c_Mod_refuse l Dg a k D 1 _ hP (hD.weaken (fun _ _ _ _ => trivial)) ) kx_K hK kw_Mod_103 tw3_104 ts_21 (va_recv (ci := 3) (q0 := 0) hK hP rfl rfl) hP hD hS hA [0, 1, 2, 3, 4, 5, 6, 7, 8, 9, 10, 11, 12, 13, 14] [] rfl rfl (by decide) (by decide) d_Mod_out_34 ⟨⟨by decide, by decide⟩, Nat.le_refl _, Nat.le_refl _⟩ rfl hl.1 rfl (Nat.le_of_ble_eq_true rfl) (fun H locs hP hD hS => ?_)
        have hP : va_P Dg classes (wD a k (u2 D 14 0 1)) H := hP
        have hD : va_D (va_A (wD a k D) s.heap.size) (wD a k (u2 D 14 0 1)) := hD
        obtain ⟨Ds3, hDs3⟩ : ∃ z9, z9 = (u2 D 14 0 1) := ⟨_, rfl⟩
        rw [← hDs3] at hP hD
        exact km_i F hlocks hret hP hD hS d_Mod_out_37 (by unfold dOuR; rw [hmac, if_pos h23, if_neg h29]) (by subst hDs3; unfold dOuC; rw [hmac, if_pos h23, if_neg h29])
  · have hmac : dMac z = 1 := by unfold dMac; rw [if_neg hz]
    refine lv_iload_n hx hb d_Mod_out_0 rfl (lv_at hl 1 rfl) ?_
    refine lv_if_eq (tgt := 8) hx hb d_Mod_out_1 (by decide) (fun h9 => absurd h9 hz) (fun _ => ?_)
    refine lv_iconst (v := 1) hx hb d_Mod_out_4 (by decide) ?_
    refine lv_goto (tgt := 9) hx hb d_Mod_out_5 (by decide) ?_
    refine lv_istore_n hx hb d_Mod_out_9 rfl hl (by decide) rfl (fun ls hl => ?_)
    have hl : lv_has ls 4 [(3, .int 1), (0, .ref (a 0)), (1, .int z), (2, .int i)] := hl
    refine lv_iload_n hx hb d_Mod_out_10 rfl (lv_at hl 3 rfl) ?_
    refine lv_iconst (v := 0) hx hb d_Mod_out_11 (by decide) ?_
    refine lv_aload_n hx hb d_Mod_out_12 rfl (lv_at hl 1 rfl) ?_
    refine va_get (D := Dg) (ci := 3) (v := .ref (a 8)) (C := R_Mod) (T := F_Mod) (N := 17) hx hb hT in_Mod hown hK hP 0 rfl rfl 10 (by decide) (hT _ tw2_236) (fun _ h9 => h9) rfl d_Mod_out_13 ?_
    refine lv_iload_n hx hb d_Mod_out_16 rfl (lv_at hl 0 rfl) ?_
    refine va_iald (f := (D 7)) hx hb hK hP 8 0 rfl rfl (show vp_in (nI 1) 2 from vp_in_nI (by decide) (by decide)) d_Mod_out_17 ?_
    refine lv_iconst (v := 1) hx hb d_Mod_out_18 (by decide) ?_
    refine lv_isub hx hb d_Mod_out_19 ?_
    refine kp_S F (c_Mod_outside l Dg k i 0 (((D 7) (Int32.toNatClampNeg 1)) - 1) _ ) kx_K hK kw_Mod_64 tw3_57 hS d_Mod_out_20 ⟨⟨by decide, by decide⟩, Nat.le_refl _, Nat.le_refl _⟩ rfl hl.1 rfl (Nat.le_of_ble_eq_true rfl) (fun locs hS => ?_)
    refine lv_if_ne (tgt := 32) hx hb d_Mod_out_23 (by decide) (fun h23 => ?_) (fun h23 => ?_)
    · refine lv_aload_n hx hb d_Mod_out_32 rfl (lv_at hl 1 rfl) ?_
      refine lv_iconst (v := 1) hx hb d_Mod_out_33 (by decide) ?_
      refine km_Vi (wr := []) F (c_Mod_refuse l Dg a k D 1 _ hP (hD.weaken (fun _ _ _ _ => trivial)) ) kx_K hK kw_Mod_103 tw3_104 ts_21 (va_recv (ci := 3) (q0 := 0) hK hP rfl rfl) hP hD hS hA [0, 1, 2, 3, 4, 5, 6, 7, 8, 9, 10, 11, 12, 13, 14] [] rfl rfl (by decide) (by decide) d_Mod_out_34 ⟨⟨by decide, by decide⟩, Nat.le_refl _, Nat.le_refl _⟩ rfl hl.1 rfl (Nat.le_of_ble_eq_true rfl) (fun H locs hP hD hS => ?_)
      have hP : va_P Dg classes (wD a k (u2 D 14 0 1)) H := hP
      have hD : va_D (va_A (wD a k D) s.heap.size) (wD a k (u2 D 14 0 1)) := hD
      obtain ⟨Ds4, hDs4⟩ : ∃ z9, z9 = (u2 D 14 0 1) := ⟨_, rfl⟩
      rw [← hDs4] at hP hD
      exact km_i F hlocks hret hP hD hS d_Mod_out_37 (by unfold dOuR; rw [hmac, if_neg h23]) (by subst hDs4; unfold dOuC; rw [hmac, if_neg h23])
    · refine lv_iload_n hx hb d_Mod_out_26 rfl (lv_at hl 3 rfl) ?_
      refine lv_bipush (v := 59) hx hb d_Mod_out_27 (by decide) ?_
      refine lv_icmp_le (tgt := 38) hx hb d_Mod_out_29 (by decide) (fun h29 => ?_) (fun h29 => ?_)
      · refine lv_aload_n hx hb d_Mod_out_38 rfl (lv_at hl 1 rfl) ?_
        refine lv_iconst (v := 0) hx hb d_Mod_out_39 (by decide) ?_
        refine va_put (D := Dg) (ci := 3) (v := .int 0) (ty := .int) (C := R_Mod) (T := F_Mod) (N := 17) hx hb hT in_Mod t_Mod t_Mod_ok n_Mod hown hK hP hD hS 0 rfl rfl 0 (by decide) (hT _ tw2_226) (fun _ h9 => h9) rfl (by decide +kernel) rfl rfl (Nat.le_of_ble_eq_true rfl) d_Mod_out_40 (fun H locs hP hD hS => ?_)
        have hP : va_P Dg classes (wD a k (u2 D 14 0 0)) H := hP
        have hD : va_D (va_A (wD a k D) s.heap.size) (wD a k (u2 D 14 0 0)) := hD
        obtain ⟨Ds5, hDs5⟩ : ∃ z9, z9 = (u2 D 14 0 0) := ⟨_, rfl⟩
        rw [← hDs5] at hP hD
        refine lv_aload_n hx hb d_Mod_out_43 rfl (lv_at hl 1 rfl) ?_
        refine va_get (D := Dg) (ci := 3) (v := .ref (a 14)) (C := R_Mod) (T := F_Mod) (N := 17) hx hb hT in_Mod hown hK hP 0 rfl rfl 16 (by decide) (hT _ tw3_2) (fun _ h9 => h9) rfl d_Mod_out_44 ?_
        refine lv_bipush (v := 60) hx hb d_Mod_out_47 (by decide) ?_
        refine lv_iload_n hx hb d_Mod_out_49 rfl (lv_at hl 0 rfl) ?_
        refine lv_imul hx hb d_Mod_out_50 ?_
        refine lv_iload_n hx hb d_Mod_out_51 rfl (lv_at hl 3 rfl) ?_
        refine lv_iadd hx hb d_Mod_out_52 ?_
        refine va_iald (f := (D 13)) hx hb hK hP 14 0 (by rw [hDs5]; rfl) rfl (by rw [hmac] at hin; exact hin h23 h29) d_Mod_out_53 ?_
        exact km_i F hlocks hret hP hD hS d_Mod_out_54 (by unfold dOuR; rw [hmac, if_pos h23, if_pos h29]) (by subst hDs5; unfold dOuC; rw [hmac, if_pos h23, if_pos h29])
      · refine lv_aload_n hx hb d_Mod_out_32 rfl (lv_at hl 1 rfl) ?_
        refine lv_iconst (v := 1) hx hb d_Mod_out_33 (by decide) ?_
        refine km_Vi (wr := []) F (c_Mod_refuse l Dg a k D 1 _ hP (hD.weaken (fun _ _ _ _ => trivial)) ) kx_K hK kw_Mod_103 tw3_104 ts_21 (va_recv (ci := 3) (q0 := 0) hK hP rfl rfl) hP hD hS hA [0, 1, 2, 3, 4, 5, 6, 7, 8, 9, 10, 11, 12, 13, 14] [] rfl rfl (by decide) (by decide) d_Mod_out_34 ⟨⟨by decide, by decide⟩, Nat.le_refl _, Nat.le_refl _⟩ rfl hl.1 rfl (Nat.le_of_ble_eq_true rfl) (fun H locs hP hD hS => ?_)
        have hP : va_P Dg classes (wD a k (u2 D 14 0 1)) H := hP
        have hD : va_D (va_A (wD a k D) s.heap.size) (wD a k (u2 D 14 0 1)) := hD
        obtain ⟨Ds6, hDs6⟩ : ∃ z9, z9 = (u2 D 14 0 1) := ⟨_, rfl⟩
        rw [← hDs6] at hP hD
        exact km_i F hlocks hret hP hD hS d_Mod_out_37 (by unfold dOuR; rw [hmac, if_pos h23, if_neg h29]) (by subst hDs6; unfold dOuC; rw [hmac, if_pos h23, if_neg h29])
