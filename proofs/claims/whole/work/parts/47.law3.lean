set_option maxRecDepth 100000 in
set_option maxHeartbeats 4000000 in
theorem law_add {p : Program} {l : Launch} {e : Env} {s : State} {m : MethodId} {below : List Frame} {meth : Method} {c0 : Code} {H : Heap} {locs : List Loc} {cells slots : Nat} {Q : State → Prop} {ls : Array Slot} {Dg : va_G} {a b u v d : Nat → Nat} {k : Nat → ClassId} {kl : ClassId} {ao b0 L q vB tL t : Nat} {f : Nat → Int64} {xs : Nat → Int32} {G D : vSt} (F : CallFix p m c0 code 7 s #[Value.ref b0] lw_ok "FusedEngineLaw") (hl0 : l.stackTraces = false) (hX : lF Dg k q vB tL s) (hKl : va_K Dg classes [(kl, .long)] s) (hsc : va_X b0 L xs s s.heap) (hbl : b0 < s.heap.size) (ht : 4 * t + 4 ≤ L) (hL : L ≤ 2048) (hR : Rel (12000 * t) G D)
    (hP : va_P Dg classes ((wL ao kl f ++ (wE a b u v ++ wP b k G ++ wM u k (pm 0 D) ++ wM v k (pm 1 D))) ++ wD d k D) H) (hD : va_D (lA s) ((wL ao kl f ++ (wE a b u v ++ wP b k G ++ wM u k (pm 0 D) ++ wM v k (pm 1 D))) ++ wD d k D)) (hS : va_S (lA s) s.heap H locs) (hl : lv_has ls 7 [(4, .int (nI (4 * t))), (0, .ref b0), (1, .ref (a 0)), (2, .ref (d 0)), (3, .ref ao)]) (hc1 : cells + 1 ≤ room_1.cells) (hc2 : slots + 6 ≤ room_1.slots)
    (kk : ∀ (f : Nat → Int64) (G D : vSt) (H : Heap) (locs : List Loc) (ls : Array Slot), Rel (12000 * (t + 1)) G D → va_P Dg classes ((wL ao kl f ++ (wE a b u v ++ wP b k G ++ wM u k (pm 0 D) ++ wM v k (pm 1 D))) ++ wD d k D) H → va_D (lA s) ((wL ao kl f ++ (wE a b u v ++ wP b k G ++ wM u k (pm 0 D) ++ wM v k (pm 1 D))) ++ wD d k D) → va_S (lA s) s.heap H locs → lv_has ls 7 [(4, .int (nI (4 * t))), (0, .ref b0), (1, .ref (a 0)), (2, .ref (d 0)), (3, .ref ao)] → W p l e room_1 s m #[Value.ref b0] below meth c0 H locs (cells + 1) (slots + 6) Q (F0 m 716 ls [])) : W p l e room_1 s m #[Value.ref b0] below meth c0 H locs cells slots Q (F0 m 96 ls []) := by
  obtain ⟨hx, hb, hml, hown, hT⟩ := id F
  have hbA : ¬ lA s b0 := fun w => absurd w (by show ¬ s.heap.size ≤ b0; omega)
  by_cases ha : sAllow (xs (4 * t + 1)) (xs (4 * t + 2)) = 0
  · have hC := (add_C hR (xs (4 * t + 1)) (xs (4 * t + 2))).1 ha
    have hN := add_no (D := D) (c := (xs (4 * t + 1))) (n := (xs (4 * t + 2))) (by rw [hC]; decide) (by rw [hC]; decide)
    obtain ⟨hRc, hpc⟩ := hR.code (dAddC D (xs (4 * t + 1)) (xs (4 * t + 2)))
    refine lv_aload_n hx hb d_Law_law_96 rfl (lv_at hl 2 rfl) ?_
    refine lv_aload_n hx hb d_Law_law_97 rfl (lv_at hl 1 rfl) ?_
    refine lv_iload hx hb d_Law_law_98 (lv_at hl 0 rfl) ?_
    refine lv_iconst (v := 1) hx hb d_Law_law_100 (by decide) ?_
    refine lv_iadd hx hb d_Law_law_101 ?_
    rw [nI_1]
    refine va_sld hx hb hsc hbl hbA hS (vp_in_nI (n := 4 * t + 1) (by omega) (by omega)) d_Law_law_102 ?_
    rw [nI_clamp (n := 4 * t + 1) (by omega)]
    refine lv_aload_n hx hb d_Law_law_103 rfl (lv_at hl 1 rfl) ?_
    refine lv_iload hx hb d_Law_law_104 (lv_at hl 0 rfl) ?_
    refine lv_iconst (v := 2) hx hb d_Law_law_106 (by decide) ?_
    refine lv_iadd hx hb d_Law_law_107 ?_
    rw [nI_2]
    refine va_sld hx hb hsc hbl hbA hS (vp_in_nI (n := 4 * t + 2) (by omega) (by omega)) d_Law_law_108 ?_
    rw [nI_clamp (n := 4 * t + 2) (by omega)]
    refine lv_aload_n hx hb d_Law_law_109 rfl (lv_at hl 4 rfl) ?_
    refine kl_S (k := 4) (wr := wD d k D) F (e_Law_add_IA l hl0 Dg a b u v k G (pm 0 D) (pm 1 D) ao kl f q vB s.heap.size (xs (4 * t + 1)) (xs (4 * t + 2)) _ (hP.sub (ws' := (wL ao kl f ++ (wE a b u v ++ wP b k G ++ wM u k (pm 0 D) ++ wM v k (pm 1 D)))) [0, 1, 2, 3, 4, 5, 6, 7, 8, 9, 10, 11, 12, 13, 14, 15, 16, 17] rfl) ((hD.sub (ws' := (wL ao kl f ++ (wE a b u v ++ wP b k G ++ wM u k (pm 0 D) ++ wM v k (pm 1 D)))) [0, 1, 2, 3, 4, 5, 6, 7, 8, 9, 10, 11, 12, 13, 14, 15, 16, 17] (by decide) rfl).weaken (fun _ _ _ _ => trivial)) ha) lX_m ⟨hX.ta hS, hKl⟩ tw1_174 tw1_0 ⟨by decide, by decide⟩ (by decide +kernel) tw1_172 tw1_173 hP hD hS (fun _ h => h) [0, 1, 2, 3, 4, 5, 6, 7, 8, 9, 10, 11, 12, 13, 14, 15, 16, 17] [18, 19, 20, 21, 22, 23, 24, 25, 26, 27, 28, 29, 30, 31, 32] rfl rfl (by decide) (by decide) d_Law_law_110 ⟨⟨Nat.le_of_ble_eq_true rfl, Nat.le_of_ble_eq_true rfl⟩, hc1, hc2⟩ rfl hl.1 rfl (Nat.le_of_ble_eq_true rfl) (fun H locs hP hD hS => ?_)
    have hP : va_P Dg classes (wD d k D ++ (wL ao kl f ++ (wE a b u v ++ wP b k G ++ wM u k (pm 0 D) ++ wM v k (pm 1 D)))) H := hP
    have hD : va_D (lA s) (wD d k D ++ (wL ao kl f ++ (wE a b u v ++ wP b k G ++ wM u k (pm 0 D) ++ wM v k (pm 1 D)))) := hD
    refine lv_istore hx hb d_Law_law_113 hl (by decide) rfl (fun ls hl => ?_)
    have hl : lv_has ls 7 [(5, .int 1), (4, .int (nI (4 * t))), (0, .ref b0), (1, .ref (a 0)), (2, .ref (d 0)), (3, .ref ao)] := hl
    refine lv_aload_n hx hb d_Law_law_115 rfl (lv_at hl 4 rfl) ?_
    refine lv_aload_n hx hb d_Law_law_116 rfl (lv_at hl 2 rfl) ?_
    refine lv_iload hx hb d_Law_law_117 (lv_at hl 1 rfl) ?_
    refine lv_iconst (v := 1) hx hb d_Law_law_119 (by decide) ?_
    refine lv_iadd hx hb d_Law_law_120 ?_
    rw [nI_1]
    refine va_sld hx hb hsc hbl hbA hS (vp_in_nI (n := 4 * t + 1) (by omega) (by omega)) d_Law_law_121 ?_
    rw [nI_clamp (n := 4 * t + 1) (by omega)]
    refine lv_aload_n hx hb d_Law_law_122 rfl (lv_at hl 2 rfl) ?_
    refine lv_iload hx hb d_Law_law_123 (lv_at hl 1 rfl) ?_
    refine lv_iconst (v := 2) hx hb d_Law_law_125 (by decide) ?_
    refine lv_iadd hx hb d_Law_law_126 ?_
    rw [nI_2]
    refine va_sld hx hb hsc hbl hbA hS (vp_in_nI (n := 4 * t + 2) (by omega) (by omega)) d_Law_law_127 ?_
    rw [nI_clamp (n := 4 * t + 2) (by omega)]
    refine km_Vi (wr := (wL ao kl f ++ (wE a b u v ++ wP b k G ++ wM u k (pm 0 D) ++ wM v k (pm 1 D)))) F (c_Mod_add l Dg d k D (xs (4 * t + 1)) (xs (4 * t + 2)) _ (hP.sub (ws' := wD d k D) [0, 1, 2, 3, 4, 5, 6, 7, 8, 9, 10, 11, 12, 13, 14] rfl) ((hD.sub (ws' := wD d k D) [0, 1, 2, 3, 4, 5, 6, 7, 8, 9, 10, 11, 12, 13, 14] (by decide) rfl).weaken (fun _ _ _ _ => trivial)) (pOk_rel hR).2.1) kx_K hX.1 kw_Law_48 tw3_44 tw3_45 (va_recv (ci := 3) (q0 := 0) hX.1 hP rfl rfl) hP hD hS (fun _ h => h) [0, 1, 2, 3, 4, 5, 6, 7, 8, 9, 10, 11, 12, 13, 14] [15, 16, 17, 18, 19, 20, 21, 22, 23, 24, 25, 26, 27, 28, 29, 30, 31, 32] rfl rfl (by decide) (by decide) d_Law_law_128 ⟨⟨Nat.le_of_ble_eq_true rfl, Nat.le_of_ble_eq_true rfl⟩, hc1, hc2⟩ rfl hl.1 rfl (Nat.le_of_ble_eq_true rfl) (fun H locs hP hD hS => ?_)
    have hP : va_P Dg classes ((wL ao kl f ++ (wE a b u v ++ wP b k G ++ wM u k (pm 0 D) ++ wM v k (pm 1 D))) ++ wD d k (dAddM D (xs (4 * t + 1)) (xs (4 * t + 2)))) H := hP
    have hD : va_D (lA s) ((wL ao kl f ++ (wE a b u v ++ wP b k G ++ wM u k (pm 0 D) ++ wM v k (pm 1 D))) ++ wD d k (dAddM D (xs (4 * t + 1)) (xs (4 * t + 2)))) := hD
    refine lv_istore hx hb d_Law_law_131 hl (by decide) rfl (fun ls hl => ?_)
    have hl : lv_has ls 7 [(6, .int (dAddR D (xs (4 * t + 1)) (xs (4 * t + 2)))), (5, .int 1), (4, .int (nI (4 * t))), (0, .ref b0), (1, .ref (a 0)), (2, .ref (d 0)), (3, .ref ao)] := hl
    refine lv_aload_n hx hb d_Law_law_133 rfl (lv_at hl 5 rfl) ?_
    refine kp_V F (c_Mod_thrown l Dg d k (dAddM D (xs (4 * t + 1)) (xs (4 * t + 2))) _ (hP.sub (ws' := wD d k (dAddM D (xs (4 * t + 1)) (xs (4 * t + 2)))) [18, 19, 20, 21, 22, 23, 24, 25, 26, 27, 28, 29, 30, 31, 32] rfl)) kx_K hX.1 kw_Law_49 tw3_40 tw3_41 (va_recv (ci := 3) (q0 := 18) hX.1 hP rfl rfl) hS d_Law_law_134 ⟨⟨Nat.le_of_ble_eq_true rfl, Nat.le_of_ble_eq_true rfl⟩, hc1, hc2⟩ rfl hl.1 rfl (Nat.le_of_ble_eq_true rfl) (fun locs hS => ?_)
    refine lv_iload hx hb d_Law_law_137 (lv_at hl 1 rfl) ?_
    refine lv_icmp_eq (tgt := 144) hx hb d_Law_law_139 (by decide) (fun _ => ?_) (fun h9 => absurd (by rw [hN, u2_eq, hC]) h9)
    refine lv_iload hx hb d_Law_law_144 (lv_at hl 1 rfl) ?_
    refine lv_if_ne (tgt := 161) hx hb d_Law_law_146 (by decide) (fun _ => ?_) (fun h9 => absurd h9 (by decide))
    refine lv_goto (tgt := 716) hx hb d_Law_law_161 (by decide) ?_
    rw [← hpc 0, ← hpc 1, ← hN] at hP hD
    exact kk f G (dAddM D (xs (4 * t + 1)) (xs (4 * t + 2))) H locs ls (by rw [hN]; exact hRc.mono (by omega)) hP hD hS (lv_sub hl [2, 3, 4, 5, 6] rfl)
  by_cases hs : G 5 0 = 80
  · have hC := (add_C hR (xs (4 * t + 1)) (xs (4 * t + 2))).2.1 ha hs
    have hN := add_no (D := D) (c := (xs (4 * t + 1))) (n := (xs (4 * t + 2))) (by rw [hC]; decide) (by rw [hC]; decide)
    obtain ⟨hRc, hpc⟩ := hR.code (dAddC D (xs (4 * t + 1)) (xs (4 * t + 2)))
    refine lv_aload_n hx hb d_Law_law_96 rfl (lv_at hl 2 rfl) ?_
    refine lv_aload_n hx hb d_Law_law_97 rfl (lv_at hl 1 rfl) ?_
    refine lv_iload hx hb d_Law_law_98 (lv_at hl 0 rfl) ?_
    refine lv_iconst (v := 1) hx hb d_Law_law_100 (by decide) ?_
    refine lv_iadd hx hb d_Law_law_101 ?_
    rw [nI_1]
    refine va_sld hx hb hsc hbl hbA hS (vp_in_nI (n := 4 * t + 1) (by omega) (by omega)) d_Law_law_102 ?_
    rw [nI_clamp (n := 4 * t + 1) (by omega)]
    refine lv_aload_n hx hb d_Law_law_103 rfl (lv_at hl 1 rfl) ?_
    refine lv_iload hx hb d_Law_law_104 (lv_at hl 0 rfl) ?_
    refine lv_iconst (v := 2) hx hb d_Law_law_106 (by decide) ?_
    refine lv_iadd hx hb d_Law_law_107 ?_
    rw [nI_2]
    refine va_sld hx hb hsc hbl hbA hS (vp_in_nI (n := 4 * t + 2) (by omega) (by omega)) d_Law_law_108 ?_
    rw [nI_clamp (n := 4 * t + 2) (by omega)]
    refine lv_aload_n hx hb d_Law_law_109 rfl (lv_at hl 4 rfl) ?_
    refine kl_S (k := 4) (wr := wD d k D) F (e_Law_add_IS l hl0 Dg a b u v k G (pm 0 D) (pm 1 D) ao kl f q vB s.heap.size (xs (4 * t + 1)) (xs (4 * t + 2)) _ (hP.sub (ws' := (wL ao kl f ++ (wE a b u v ++ wP b k G ++ wM u k (pm 0 D) ++ wM v k (pm 1 D)))) [0, 1, 2, 3, 4, 5, 6, 7, 8, 9, 10, 11, 12, 13, 14, 15, 16, 17] rfl) ((hD.sub (ws' := (wL ao kl f ++ (wE a b u v ++ wP b k G ++ wM u k (pm 0 D) ++ wM v k (pm 1 D)))) [0, 1, 2, 3, 4, 5, 6, 7, 8, 9, 10, 11, 12, 13, 14, 15, 16, 17] (by decide) rfl).weaken (fun _ _ _ _ => trivial)) ha hs) lX_m ⟨hX.ta hS, hKl⟩ tw1_174 tw1_0 ⟨by decide, by decide⟩ (by decide +kernel) tw1_172 tw1_173 hP hD hS (fun _ h => h) [0, 1, 2, 3, 4, 5, 6, 7, 8, 9, 10, 11, 12, 13, 14, 15, 16, 17] [18, 19, 20, 21, 22, 23, 24, 25, 26, 27, 28, 29, 30, 31, 32] rfl rfl (by decide) (by decide) d_Law_law_110 ⟨⟨Nat.le_of_ble_eq_true rfl, Nat.le_of_ble_eq_true rfl⟩, hc1, hc2⟩ rfl hl.1 rfl (Nat.le_of_ble_eq_true rfl) (fun H locs hP hD hS => ?_)
    have hP : va_P Dg classes (wD d k D ++ (wL ao kl f ++ (wE a b u v ++ wP b k G ++ wM u k (pm 0 D) ++ wM v k (pm 1 D)))) H := hP
    have hD : va_D (lA s) (wD d k D ++ (wL ao kl f ++ (wE a b u v ++ wP b k G ++ wM u k (pm 0 D) ++ wM v k (pm 1 D)))) := hD
    refine lv_istore hx hb d_Law_law_113 hl (by decide) rfl (fun ls hl => ?_)
    have hl : lv_has ls 7 [(5, .int 2), (4, .int (nI (4 * t))), (0, .ref b0), (1, .ref (a 0)), (2, .ref (d 0)), (3, .ref ao)] := hl
    refine lv_aload_n hx hb d_Law_law_115 rfl (lv_at hl 4 rfl) ?_
    refine lv_aload_n hx hb d_Law_law_116 rfl (lv_at hl 2 rfl) ?_
    refine lv_iload hx hb d_Law_law_117 (lv_at hl 1 rfl) ?_
    refine lv_iconst (v := 1) hx hb d_Law_law_119 (by decide) ?_
    refine lv_iadd hx hb d_Law_law_120 ?_
    rw [nI_1]
    refine va_sld hx hb hsc hbl hbA hS (vp_in_nI (n := 4 * t + 1) (by omega) (by omega)) d_Law_law_121 ?_
    rw [nI_clamp (n := 4 * t + 1) (by omega)]
    refine lv_aload_n hx hb d_Law_law_122 rfl (lv_at hl 2 rfl) ?_
    refine lv_iload hx hb d_Law_law_123 (lv_at hl 1 rfl) ?_
    refine lv_iconst (v := 2) hx hb d_Law_law_125 (by decide) ?_
    refine lv_iadd hx hb d_Law_law_126 ?_
    rw [nI_2]
    refine va_sld hx hb hsc hbl hbA hS (vp_in_nI (n := 4 * t + 2) (by omega) (by omega)) d_Law_law_127 ?_
    rw [nI_clamp (n := 4 * t + 2) (by omega)]
    refine km_Vi (wr := (wL ao kl f ++ (wE a b u v ++ wP b k G ++ wM u k (pm 0 D) ++ wM v k (pm 1 D)))) F (c_Mod_add l Dg d k D (xs (4 * t + 1)) (xs (4 * t + 2)) _ (hP.sub (ws' := wD d k D) [0, 1, 2, 3, 4, 5, 6, 7, 8, 9, 10, 11, 12, 13, 14] rfl) ((hD.sub (ws' := wD d k D) [0, 1, 2, 3, 4, 5, 6, 7, 8, 9, 10, 11, 12, 13, 14] (by decide) rfl).weaken (fun _ _ _ _ => trivial)) (pOk_rel hR).2.1) kx_K hX.1 kw_Law_48 tw3_44 tw3_45 (va_recv (ci := 3) (q0 := 0) hX.1 hP rfl rfl) hP hD hS (fun _ h => h) [0, 1, 2, 3, 4, 5, 6, 7, 8, 9, 10, 11, 12, 13, 14] [15, 16, 17, 18, 19, 20, 21, 22, 23, 24, 25, 26, 27, 28, 29, 30, 31, 32] rfl rfl (by decide) (by decide) d_Law_law_128 ⟨⟨Nat.le_of_ble_eq_true rfl, Nat.le_of_ble_eq_true rfl⟩, hc1, hc2⟩ rfl hl.1 rfl (Nat.le_of_ble_eq_true rfl) (fun H locs hP hD hS => ?_)
    have hP : va_P Dg classes ((wL ao kl f ++ (wE a b u v ++ wP b k G ++ wM u k (pm 0 D) ++ wM v k (pm 1 D))) ++ wD d k (dAddM D (xs (4 * t + 1)) (xs (4 * t + 2)))) H := hP
    have hD : va_D (lA s) ((wL ao kl f ++ (wE a b u v ++ wP b k G ++ wM u k (pm 0 D) ++ wM v k (pm 1 D))) ++ wD d k (dAddM D (xs (4 * t + 1)) (xs (4 * t + 2)))) := hD
    refine lv_istore hx hb d_Law_law_131 hl (by decide) rfl (fun ls hl => ?_)
    have hl : lv_has ls 7 [(6, .int (dAddR D (xs (4 * t + 1)) (xs (4 * t + 2)))), (5, .int 2), (4, .int (nI (4 * t))), (0, .ref b0), (1, .ref (a 0)), (2, .ref (d 0)), (3, .ref ao)] := hl
    refine lv_aload_n hx hb d_Law_law_133 rfl (lv_at hl 5 rfl) ?_
    refine kp_V F (c_Mod_thrown l Dg d k (dAddM D (xs (4 * t + 1)) (xs (4 * t + 2))) _ (hP.sub (ws' := wD d k (dAddM D (xs (4 * t + 1)) (xs (4 * t + 2)))) [18, 19, 20, 21, 22, 23, 24, 25, 26, 27, 28, 29, 30, 31, 32] rfl)) kx_K hX.1 kw_Law_49 tw3_40 tw3_41 (va_recv (ci := 3) (q0 := 18) hX.1 hP rfl rfl) hS d_Law_law_134 ⟨⟨Nat.le_of_ble_eq_true rfl, Nat.le_of_ble_eq_true rfl⟩, hc1, hc2⟩ rfl hl.1 rfl (Nat.le_of_ble_eq_true rfl) (fun locs hS => ?_)
    refine lv_iload hx hb d_Law_law_137 (lv_at hl 1 rfl) ?_
    refine lv_icmp_eq (tgt := 144) hx hb d_Law_law_139 (by decide) (fun _ => ?_) (fun h9 => absurd (by rw [hN, u2_eq, hC]) h9)
    refine lv_iload hx hb d_Law_law_144 (lv_at hl 1 rfl) ?_
    refine lv_if_ne (tgt := 161) hx hb d_Law_law_146 (by decide) (fun _ => ?_) (fun h9 => absurd h9 (by decide))
    refine lv_goto (tgt := 716) hx hb d_Law_law_161 (by decide) ?_
    rw [← hpc 0, ← hpc 1, ← hN] at hP hD
    exact kk f G (dAddM D (xs (4 * t + 1)) (xs (4 * t + 2))) H locs ls (by rw [hN]; exact hRc.mono (by omega)) hP hD hS (lv_sub hl [2, 3, 4, 5, 6] rfl)
  · obtain ⟨y1, y2, y3, y4⟩ := add_yes hR ha hs
    refine lv_aload_n hx hb d_Law_law_96 rfl (lv_at hl 2 rfl) ?_
    refine lv_aload_n hx hb d_Law_law_97 rfl (lv_at hl 1 rfl) ?_
    refine lv_iload hx hb d_Law_law_98 (lv_at hl 0 rfl) ?_
    refine lv_iconst (v := 1) hx hb d_Law_law_100 (by decide) ?_
    refine lv_iadd hx hb d_Law_law_101 ?_
    rw [nI_1]
    refine va_sld hx hb hsc hbl hbA hS (vp_in_nI (n := 4 * t + 1) (by omega) (by omega)) d_Law_law_102 ?_
    rw [nI_clamp (n := 4 * t + 1) (by omega)]
    refine lv_aload_n hx hb d_Law_law_103 rfl (lv_at hl 1 rfl) ?_
    refine lv_iload hx hb d_Law_law_104 (lv_at hl 0 rfl) ?_
    refine lv_iconst (v := 2) hx hb d_Law_law_106 (by decide) ?_
    refine lv_iadd hx hb d_Law_law_107 ?_
    rw [nI_2]
    refine va_sld hx hb hsc hbl hbA hS (vp_in_nI (n := 4 * t + 2) (by omega) (by omega)) d_Law_law_108 ?_
    rw [nI_clamp (n := 4 * t + 2) (by omega)]
    refine lv_aload_n hx hb d_Law_law_109 rfl (lv_at hl 4 rfl) ?_
    refine kl_S (k := 4) (wr := wD d k D) F (n_Law_add l Dg a b u v k G (pm 0 D) (pm 1 D) ao kl f q vB s.heap.size (xs (4 * t + 1)) (xs (4 * t + 2)) _ (hP.sub (ws' := (wL ao kl f ++ (wE a b u v ++ wP b k G ++ wM u k (pm 0 D) ++ wM v k (pm 1 D)))) [0, 1, 2, 3, 4, 5, 6, 7, 8, 9, 10, 11, 12, 13, 14, 15, 16, 17] rfl) ((hD.sub (ws' := (wL ao kl f ++ (wE a b u v ++ wP b k G ++ wM u k (pm 0 D) ++ wM v k (pm 1 D)))) [0, 1, 2, 3, 4, 5, 6, 7, 8, 9, 10, 11, 12, 13, 14, 15, 16, 17] (by decide) rfl).weaken (fun _ _ _ _ => trivial)) ha ((add_C hR (xs (4 * t + 1)) (xs (4 * t + 2))).2.2 ha hs).2) lX_m ⟨hX.ta hS, hKl⟩ tw1_174 tw1_0 ⟨by decide, by decide⟩ (by decide +kernel) tw1_172 tw1_173 hP hD hS (fun _ h => h) [0, 1, 2, 3, 4, 5, 6, 7, 8, 9, 10, 11, 12, 13, 14, 15, 16, 17] [18, 19, 20, 21, 22, 23, 24, 25, 26, 27, 28, 29, 30, 31, 32] rfl rfl (by decide) (by decide) d_Law_law_110 ⟨⟨Nat.le_of_ble_eq_true rfl, Nat.le_of_ble_eq_true rfl⟩, hc1, hc2⟩ rfl hl.1 rfl (Nat.le_of_ble_eq_true rfl) (fun H locs hP hD hS => ?_)
    have hP : va_P Dg classes (wD d k D ++ (wL ao kl (vp_updL f 0 (Int32.toInt64 (G 5 0))) ++ (wE a b u v ++ wP b k (sApp G (xs (4 * t + 1)) (xs (4 * t + 2))) ++ wM u k (sBegin (pm 0 D)) ++ wM v k (sBegin (pm 1 D))))) H := hP
    have hD : va_D (lA s) (wD d k D ++ (wL ao kl (vp_updL f 0 (Int32.toInt64 (G 5 0))) ++ (wE a b u v ++ wP b k (sApp G (xs (4 * t + 1)) (xs (4 * t + 2))) ++ wM u k (sBegin (pm 0 D)) ++ wM v k (sBegin (pm 1 D))))) := hD
    refine lv_istore hx hb d_Law_law_113 hl (by decide) rfl (fun ls hl => ?_)
    have hl : lv_has ls 7 [(5, .int 0), (4, .int (nI (4 * t))), (0, .ref b0), (1, .ref (a 0)), (2, .ref (d 0)), (3, .ref ao)] := hl
    refine lv_aload_n hx hb d_Law_law_115 rfl (lv_at hl 4 rfl) ?_
    refine lv_aload_n hx hb d_Law_law_116 rfl (lv_at hl 2 rfl) ?_
    refine lv_iload hx hb d_Law_law_117 (lv_at hl 1 rfl) ?_
    refine lv_iconst (v := 1) hx hb d_Law_law_119 (by decide) ?_
    refine lv_iadd hx hb d_Law_law_120 ?_
    rw [nI_1]
    refine va_sld hx hb hsc hbl hbA hS (vp_in_nI (n := 4 * t + 1) (by omega) (by omega)) d_Law_law_121 ?_
    rw [nI_clamp (n := 4 * t + 1) (by omega)]
    refine lv_aload_n hx hb d_Law_law_122 rfl (lv_at hl 2 rfl) ?_
    refine lv_iload hx hb d_Law_law_123 (lv_at hl 1 rfl) ?_
    refine lv_iconst (v := 2) hx hb d_Law_law_125 (by decide) ?_
    refine lv_iadd hx hb d_Law_law_126 ?_
    rw [nI_2]
    refine va_sld hx hb hsc hbl hbA hS (vp_in_nI (n := 4 * t + 2) (by omega) (by omega)) d_Law_law_127 ?_
    rw [nI_clamp (n := 4 * t + 2) (by omega)]
    refine km_Vi (wr := (wL ao kl (vp_updL f 0 (Int32.toInt64 (G 5 0))) ++ (wE a b u v ++ wP b k (sApp G (xs (4 * t + 1)) (xs (4 * t + 2))) ++ wM u k (sBegin (pm 0 D)) ++ wM v k (sBegin (pm 1 D))))) F (c_Mod_add l Dg d k D (xs (4 * t + 1)) (xs (4 * t + 2)) _ (hP.sub (ws' := wD d k D) [0, 1, 2, 3, 4, 5, 6, 7, 8, 9, 10, 11, 12, 13, 14] rfl) ((hD.sub (ws' := wD d k D) [0, 1, 2, 3, 4, 5, 6, 7, 8, 9, 10, 11, 12, 13, 14] (by decide) rfl).weaken (fun _ _ _ _ => trivial)) (pOk_rel hR).2.1) kx_K hX.1 kw_Law_48 tw3_44 tw3_45 (va_recv (ci := 3) (q0 := 0) hX.1 hP rfl rfl) hP hD hS (fun _ h => h) [0, 1, 2, 3, 4, 5, 6, 7, 8, 9, 10, 11, 12, 13, 14] [15, 16, 17, 18, 19, 20, 21, 22, 23, 24, 25, 26, 27, 28, 29, 30, 31, 32] rfl rfl (by decide) (by decide) d_Law_law_128 ⟨⟨Nat.le_of_ble_eq_true rfl, Nat.le_of_ble_eq_true rfl⟩, hc1, hc2⟩ rfl hl.1 rfl (Nat.le_of_ble_eq_true rfl) (fun H locs hP hD hS => ?_)
    have hP : va_P Dg classes ((wL ao kl (vp_updL f 0 (Int32.toInt64 (G 5 0))) ++ (wE a b u v ++ wP b k (sApp G (xs (4 * t + 1)) (xs (4 * t + 2))) ++ wM u k (sBegin (pm 0 D)) ++ wM v k (sBegin (pm 1 D)))) ++ wD d k (dAddM D (xs (4 * t + 1)) (xs (4 * t + 2)))) H := hP
    have hD : va_D (lA s) ((wL ao kl (vp_updL f 0 (Int32.toInt64 (G 5 0))) ++ (wE a b u v ++ wP b k (sApp G (xs (4 * t + 1)) (xs (4 * t + 2))) ++ wM u k (sBegin (pm 0 D)) ++ wM v k (sBegin (pm 1 D)))) ++ wD d k (dAddM D (xs (4 * t + 1)) (xs (4 * t + 2)))) := hD
    refine lv_istore hx hb d_Law_law_131 hl (by decide) rfl (fun ls hl => ?_)
    have hl : lv_has ls 7 [(6, .int (dAddR D (xs (4 * t + 1)) (xs (4 * t + 2)))), (5, .int 0), (4, .int (nI (4 * t))), (0, .ref b0), (1, .ref (a 0)), (2, .ref (d 0)), (3, .ref ao)] := hl
    refine lv_aload_n hx hb d_Law_law_133 rfl (lv_at hl 5 rfl) ?_
    refine kp_V F (c_Mod_thrown l Dg d k (dAddM D (xs (4 * t + 1)) (xs (4 * t + 2))) _ (hP.sub (ws' := wD d k (dAddM D (xs (4 * t + 1)) (xs (4 * t + 2)))) [18, 19, 20, 21, 22, 23, 24, 25, 26, 27, 28, 29, 30, 31, 32] rfl)) kx_K hX.1 kw_Law_49 tw3_40 tw3_41 (va_recv (ci := 3) (q0 := 18) hX.1 hP rfl rfl) hS d_Law_law_134 ⟨⟨Nat.le_of_ble_eq_true rfl, Nat.le_of_ble_eq_true rfl⟩, hc1, hc2⟩ rfl hl.1 rfl (Nat.le_of_ble_eq_true rfl) (fun locs hS => ?_)
    refine lv_iload hx hb d_Law_law_137 (lv_at hl 1 rfl) ?_
    refine lv_icmp_eq (tgt := 144) hx hb d_Law_law_139 (by decide) (fun _ => ?_) (fun h9 => absurd y3 h9)
    refine lv_iload hx hb d_Law_law_144 (lv_at hl 1 rfl) ?_
    refine lv_if_ne (tgt := 161) hx hb d_Law_law_146 (by decide) (fun h9 => absurd rfl h9) (fun _ => ?_)
    refine lv_aload_n hx hb d_Law_law_149 rfl (lv_at hl 6 rfl) ?_
    refine lv_iconst (v := 0) hx hb d_Law_law_150 (by decide) ?_
    refine va_lald hx hb hKl hP 0 0 rfl rfl (by unfold vp_in; decide) d_Law_law_151 ?_
    rw [show (vp_updL f 0 (Int32.toInt64 (G 5 0))) (Int32.toNatClampNeg 0) = Int32.toInt64 (G 5 0) from if_pos rfl]
    refine lv_iload hx hb d_Law_law_152 (lv_at hl 0 rfl) ?_
    rw [y4]
    refine lv_i2l hx hb d_Law_law_154 rfl ?_
    refine W.lcmp hx hb d_Law_law_155 ?_
    rw [lcmp_0]
    refine lv_if_eq (tgt := 161) hx hb d_Law_law_156 (by decide) (fun _ => ?_) (fun h9 => absurd rfl h9)
    refine lv_goto (tgt := 716) hx hb d_Law_law_161 (by decide) ?_
    rw [← y2 0 (by omega), ← y2 1 (by omega)] at hP hD
    exact kk (vp_updL f 0 (Int32.toInt64 (G 5 0))) (sApp G (xs (4 * t + 1)) (xs (4 * t + 2))) (dAddM D (xs (4 * t + 1)) (xs (4 * t + 2))) H locs ls (y1.mono (by omega)) hP hD hS (lv_sub hl [2, 3, 4, 5, 6] rfl)
