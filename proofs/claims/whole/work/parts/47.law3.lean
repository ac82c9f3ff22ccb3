set_option maxRecDepth 100000 in
set_option maxHeartbeats 4000000 in
theorem law_add {p : Program} {l : Launch} {e : Env} {s : State} {m : MethodId} {below : List Frame} {meth : Method} {c0 : Code} {H : Heap} {locs : List Loc} {cells slots : Nat} {Q : State → Prop} {ls : Array Slot} {Dg : va_G} {a b u v d : Nat → Nat} {k : Nat → ClassId} {kl : ClassId} {ao b0 L q vB tL t : Nat} {f : Nat → Int64} {xs : Nat → Int32} {G D : vSt} (F : CallFix p m c0 code 7 s #[Value.ref b0] lw_ok "FusedEngineLaw") (hl0 : l.stackTraces = false) (hX : lF Dg k q vB tL s) (hKl : va_K Dg classes [(kl, .long)] s) (hsc : va_X b0 L xs s s.heap) (hbl : b0 < s.heap.size) (ht : 4 * t + 4 ≤ L) (hL : L ≤ 2048) (hR : Rel (12000 * t) G D)
    (hP : va_P Dg classes ((wL ao kl f ++ (wE a b u v ++ wP b k G ++ wM u k (pm 0 D) ++ wM v k (pm 1 D))) ++ wD d k D) H) (hD : va_D (lA s) ((wL ao kl f ++ (wE a b u v ++ wP b k G ++ wM u k (pm 0 D) ++ wM v k (pm 1 D))) ++ wD d k D)) (hS : va_S (lA s) s.heap H locs) (hl : lv_has ls 7 [(4, .int (nI (4 * t))), (0, .ref b0), (1, .ref (a 0)), (2, .ref (d 0)), (3, .ref ao)]) (hc1 : cells + 1 ≤ room_1.cells) (hc2 : slots + 6 ≤ room_1.slots)
    (kk : ∀ (f : Nat → Int64) (G D : vSt) (H : Heap) (locs : List Loc) (ls : Array Slot), Rel (12000 * (t + 1)) G D → va_P Dg classes ((wL ao kl f ++ (wE a b u v ++ wP b k G ++ wM u k (pm 0 D) ++ wM v k (pm 1 D))) ++ wD d k D) H → va_D (lA s) ((wL ao kl f ++ (wE a b u v ++ wP b k G ++ wM u k (pm 0 D) ++ wM v k (pm 1 D))) ++ wD d k D) → va_S (lA s) s.heap H locs → lv_has ls 7 [(4, .int (nI (4 * t))), (0, .ref b0), (1, .ref (a 0)), (2, .ref (d 0)), (3, .ref ao)] → W p l e room_1 s m #[Value.ref b0] below meth c0 H locs (cells + 1) (slots + 6) Q (F0 m 716 ls [])) : W p l e room_1 s m #[Value.ref b0] below meth c0 H locs cells slots Q (F0 m 96 ls []) := by
  obtain ⟨hx, hb, hml, hown, hT⟩ := id F
  have hbA : ¬ lA s b0 := fun w => absurd w (by show ¬ s.heap.size ≤ b0; omega)
  by_cases ha : sAllow (xs (4 * t + 1)) (xs (4 * t + 2)) = 0
  · have hC := (add_C hR (xs (4 * t + 1)) (xs (4 * t + 2))).1 ha
    have hN := add_no (D := D) (c := (xs (4 * t + 1))) (n := (xs (4 * t + 2))) (by rw [hC]; decide) (by rw [hC]; decide)
    obtain ⟨hRc, hpc⟩ := hR.code (dAddC D (xs (4 * t + 1)) (xs (4 * t + 2)))
    refine lv_aload_n hx hb d_Law_law_96 rfl (lv_at hl 2 rfl) ?_
    refine lv_aload_n hx hb d_Law_law_97 rfl (lv_at hl 1 rfl) ?_
    refine lv_iload hx hb d_Law_law_98 (lv_at hl 0 rfl) ?_
    refine lv_iconst (v := 1) hx hb d_Law_law_100 (by decide) ?_
    refine lv_iadd hx hb d_Law_law_101 ?_
    rw [nI_1]
    refine va_sld hx hb hsc hbl hbA hS (vp_in_nI (n := 4 * t + 1) (by omega) (by omega)) d_Law_law_102 ?_
    rw [nI_clamp (n := 4 * t + 1) (by omega)]
    refine lv_aload_n hx hb d_Law_law_103 rfl (lv_at hl 1 rfl) ?_
    refine lv_iload hx hb d_Law_law_104 (lv_at hl 0 rfl) ?_
    refine lv_iconst (v := 2) hx hb d_Law_law_106 (by decide) ?_
    refine lv_iadd hx hb d_Law_law_107 ?_
    rw [nI_2]
    refine va_sld hx hb hsc hbl hbA hS (vp_in_nI (n := 4 * t + 2) (by omega) (by omega)) d_Law_law_108 ?_
    rw [nI_clamp (n := 4 * t + 2) (by omega)]
    refine lv_aload_n hx hb d_Law_law_109 rfl (lv_at hl 4 rfl) ?_
    refine kl_S (k := 4) (wr := wD d k D) F (e_Law_add_IA l hl0 Dg a b u v k G (pm 0 D) (pm 1 D) ao kl f q vB s.heap.size (xs (4 * t + 1)) (xs (4 * t + 2)) _ (hP.sub (ws' := (wL ao kl f ++ (wE a b u v ++ wP b k G ++ wM u k (pm 0 D) ++ wM v k (pm 1 D)))) [0, 1, 2, 3, 4, 5, 6, 7, 8, 9, 10, 11, 12, 13, 14, 15, 16, 17] rfl) ((hD.sub (ws' := (wL ao kl f ++ (wE a b u v ++ wP b k G ++ wM u k (pm 0 D) ++ wM v k (pm 1 D)))) [0, 1, 2, 3, 4, 5, 6, 7, 8, 9, 10, 11, 12, 13, 14, 15, 16, 17] (by decide) rfl).weaken (fun _ _ _ _ => trivial)) ha) lX_m ⟨hX.ta hS, hKl⟩ tw1_174 tw1_0 ⟨by decide, by decide⟩ (by decide +kernel) tw1_172 tw1_173 hP hD hS (fun _ h => h) [0, 1, 2, 3, 4, 5, 6, 7, 8, 9, 10, 11, 12, 13, 14, 15, 16, 17] [18, 19, 20, 21, 22, 23, 24, 25, 26, 27, 28, 29, 30, 31, 32] rfl rfl (by decide) (by decide) d_Law_law_110 ⟨⟨Nat.le_of_ble_eq_true rfl, Nat.le_of_ble_eq_true rfl⟩, hc1, hc2⟩ rfl hl.1 rfl (Nat.le_of_ble_eq_true rfl) (fun H locs hP hD hS => ?_)
    have hP : va_P Dg classes (wD d k D ++ (wL ao kl f ++ (wE a b u v ++ wP b k G ++ wM u k (pm 0 D) ++ wM v k (pm 1 D)))) H := hP
    have hD : va_D (lA s) (wD d k D ++ (wL ao kl f ++ (wE a b u v ++ wP b k G ++ wM u k (pm 0 D) ++ wM v k (pm 1 D)))) := hD
    refine lv_istore hx hb d_Law_law_113 hl (by decide) rfl (fun ls hl => ?_)
    have hl : lv_has ls 7 [(5, .int 1), (4, .int (nI (4 * t))), (0, .ref b0), (1, .ref (a 0)), (2, .ref (d 0)), (3, .ref ao)] := hl
    refine lv_aload_n hx hb d_Law_law_115 rfl (lv_at hl 4 rfl) ?_
    refine lv_aload_n hx hb d_Law_law_116 rfl (lv_at hl 2 rfl) ?_
    refine lv_iload hx hb d_Law_law_117 (lv_at hl 1 rfl) ?_
    refine lv_iconst (v := 1) hx hb d_Law_law_119 (by decide) ?_
    refine lv_iadd hx hb d_Law_law_120 ?_
    rw [nI_1]
    refine va_sld hx hb hsc hbl hbA hS (vp_in_nI (n := 4 * t + 1) (by omega) (by omega)) d_Law_law_121 ?_
    rw [nI_clamp (n := 4 * t + 1) (by omega)]
    refine lv_aload_n hx hb d_Law_law_122 rfl (lv_at hl 2 rfl) ?_
    refine lv_iload hx hb d_Law_law_123 (lv_at hl 1 rfl) ?_
    refine lv_iconst (v := 2) hx hb d_Law_law_125 (by decide) ?_
    refine lv_iadd hx hb d_Law_law_126 ?_
    rw [nI_2]
    refine va_sld hx hb hsc hbl hbA hS (vp_in_nI (n := 4 * t + 2) (by omega) (by omega)) d_Law_law_127 ?_
    rw [nI_clamp (n := 4 * t + 2) (by omega)]
    refine km_Vi (wr := (wL ao kl f ++ (wE a b u v ++ wP b k G ++ wM u k (pm 0 D) ++ wM v k (pm 1 D)))) F (c_Mod_add l Dg d k D (xs (4 * t + 1)) (xs (4 * t + 2)) _ (hP.sub (ws' := wD d k D) [0, 1, 2, 3, 4, 5, 6, 7, 8, 9, 10, 11, 12, 13, 14] rfl) ((hD.sub (ws' := wD d k D) [0, 1, 2, 3, 4, 5, 6, 7, 8, 9, 10, 11, 12, 13, 14] (by decide) rfl).weaken (fun _ _ _ _ => trivial)) (pOk_rel hR).2.1) kx_K hX.1 kw_Law_48 tw3_44 tw3_45 (va_recv (ci := 3) (q0 := 0) hX.1 hP rfl rfl) hP hD hS (fun _ h => h) [0, 1, 2, 3, 4, 5, 6, 7, 8, 9, 10, 11, 12, 13, 14] [15, 16, 17, 18, 19, 20, 21, 22, 23, 24, 25, 26, 27, 28, 29, 30, 31, 32] rfl rfl (by decide) (by decide) d_Law_law_128 ⟨⟨Nat.le_of_ble_eq_true rfl, Nat.le_of_ble_eq_true rfl⟩, hc1, hc2⟩ rfl hl.1 rfl (Nat.le_of_ble_eq_true rfl) (fun H locs hP hD hS => ?_)
    have hP : va_P Dg classes ((wL ao kl f ++ (wE a b u v ++ wP b k G ++ wM u k (pm 0 D) ++ wM v k (pm 1 D))) ++ wD d k (dAddM D (xs (4 * t + 1)) (xs (4 * t + 2)))) H := hP
    have hD : va_D (lA s) ((wL ao kl f ++ (wE a b u v ++ wP b k G ++ wM u k (pm 0 D) ++ wM v k (pm 1 D))) ++ wD d k (dAddM D (xs (4 * t + 1)) (xs (4 * t + 2)))) := hD
    refine lv_istore hx hb d_Law_law_131 hl (by decide) rfl (fun ls hl => ?_)
    have hl : lv_has ls 7 [(6, .int (dAddR D (xs (4 * t + 1)) (xs (4 * t + 2)))), (5, .int 1), (4, .int (nI (4 * t))), (0, .ref b0), (1, .ref (a 0)), (2, .ref (d 0)), (3, .ref ao)] := hl
    refine lv_aload_n hx hb d_Law_law_133 rfl (lv_at hl 5 rfl) ?_
    refine kp_V F (c_Mod_thrown l Dg d k (dAddM D (xs (4 * t + 1)) (xs (4 * t + 2))) _ (hP.sub (ws' := wD d k (dAddM D (xs (4 * t + 1)) (xs (4 * t + 2)))) [18, 19, 20, 21, 22, 23, 24, 25, 26, 27, 28, 29, 30, 31, 32] rfl)) kx_K hX.1 kw_Law_49 tw3_40 tw3_41 (va_recv (ci := 3) (q0 := 18) hX.1 hP rfl rfl) hS d_Law_law_134 ⟨⟨Nat.le_of_ble_eq_true rfl, Nat.le_of_ble_eq_true rfl⟩, hc1, hc2⟩ rfl hl.1 rfl (Nat.le_of_ble_eq_true rfl) (fun locs hS => ?_)
    refine lv_iload hx hb d_Law_law_137 (lv_at hl 1 rfl) ?_
    refine lv_icmp_eq (tgt := 144) hx hb d_Law_law_139 (by decide) (fun _ => ?_) (fun h9 => absurd (by rw [hN, u2_eq, hC]) h9)
    refine lv_iload hx hb d_Law_law_144 (lv_at hl 1 rfl) ?_
    refine lv_if_ne (tgt := 161) hx hb d_Law_law_146 (by decide) (fun _ => ?_) (fun h9 => absurd h9 (by decide))
    refine lv_goto (tgt := 716) hx hb d_Law_law_161 (by decide) ?_
    rw [← hpc 0, ← hpc 1, ← hN] at hP hD
    exact kk f G (dAddM D (xs (4 * t + 1)) (xs (4 * t + 2))) H locs ls (by rw [hN]; exact hRc.mono (by omega)) hP hD hS (lv_sub hl [2, 3, 4, 5, 6] rfl)
  by_cases hs : G 5 0 = 80
  · have hC := (add_C hR (xs (4 * t + 1)) (xs (4 * t + 2))).2.1 ha hs
    have hN := add_no (D := D) (c := (xs (4 * t + 1))) (n := (xs (4 * t + 2))) (by rw [hC]; decide) (by rw [hC]; decide)
    obtain ⟨hRc, hpc⟩ := hR.code (dAddC D (xs (4 * t + 1)) (xs (4 * t + 2)))
    refine lv_aload_n hx hb d_Law_law_96 rfl (lv_at hl 2 rfl) ?_
    refine lv_aload_n hx hb d_Law_law_97 rfl (lv_at hl 1 rfl) ?_
    refine lv_iload hx hb d_Law_law_98 (lv_at hl 0 rfl) ?_
    refine lv_iconst (v := 1) hx hb d_Law_law_100 (by decide) ?_
    refine lv_iadd hx hb d_Law_law_101 ?_
    rw [nI_1]
    refine va_sld hx hb hsc hbl hbA hS (vp_in_nI (n := 4 * t + 1) (by omega) (by omega)) d_Law_law_102 ?_
    rw [nI_clamp (n := 4 * t + 1) (by omega)]
    refine lv_aload_n hx hb d_Law_law_103 rfl (lv_at hl 1 rfl) ?_
    refine lv_iload hx hb d_Law_law_104 (lv_at hl 0 rfl) ?_
    refine lv_iconst (v := 2) hx hb d_Law_law_106 (by decide) ?_
    refine lv_iadd hx hb d_Law_law_107 ?_
    rw [nI_2]
    refine va_sld hx hb hsc hbl hbA hS (vp_in_nI (n := 4 * t + 2) (by omega) (by omega)) d_Law_law_108 ?_
    rw [nI_clamp (n := 4 * t + 2) (by omega)]
    refine lv_aload_n hx hb d_Law_law_109 rfl (lv_at hl 4 rfl) ?_
    refine kl_S (k := 4) (wr := wD d k D) F (e_Law_add_IS l hl0 Dg a b u v k G (pm 0 D) (pm 1 D) ao kl f q vB s.heap.size (xs (4 * t + 1)) (xs (4 * t + 2)) _ (hP.sub (ws' := (wL ao kl f ++ (wE a b u v ++ wP b k G ++ wM u k (pm 0 D) ++ wM v k (pm 1 D)))) [0, 1, 2, 3, 4, 5, 6, 7, 8, 9, 10, 11, 12, 13, 14, 15, 16, 17] rfl) ((hD.sub (ws' := (wL ao kl f ++ (wE a b u v ++ wP b k G ++ wM u k (pm 0 D) ++ wM v k (pm 1 D)))) [0, 1, 2, 3, 4, 5, 6, 7, 8, 9, 10, 11, 12, 13, 14, 15, 16, 17] (by decide) rfl).weaken (fun _ _ _ _ => trivial)) ha hs) lX_m ⟨hX.ta hS, hKl⟩ tw1_174 tw1_0 ⟨by decide, by decide⟩ (by decide +kernel) tw1_172 tw1_173 hP hD hS (fun _ h => h) [0, 1, 2, 3, 4, 5, 6, 7, 8, 9, 10, 11, 12, 13, 14, 15, 16, 17] [18, 19, 20, 21, 22, 23, 24, 25, 26, 27, 28, 29, 30, 31, 32] rfl rfl (by decide) (by decide) d_Law_law_110 ⟨⟨Nat.le_of_ble_eq_true rfl, Nat.le_of_ble_eq_true rfl⟩, hc1, hc2⟩ rfl hl.1 rfl (Nat.le_of_ble_eq_true rfl) (fun H locs hP hD hS => ?_)
    have hP : va_P Dg classes (wD d k D ++ (wL ao kl f ++ (wE a b u v ++ wP b k G ++ wM u k (pm 0 D) ++ wM v k (pm 1 D)))) H := hP
    have hD : va_D (lA s) (wD d k D ++ (wL ao kl f ++ (wE a b u v ++ wP b k G ++ wM u k (pm 0 D) ++ wM v k (pm 1 D)))) := hD
    refine lv_istore hx hb d_Law_law_113 hl (by decide) rfl (fun ls hl => ?_)
    have hl : lv_has ls 7 [(5, .int 2), (4, .int (nI (4 * t))), (0, .ref b0), (1, .ref (a 0)), (2, .ref (d 0)), (3, .ref ao)] := hl
    refine lv_aload_n hx hb d_Law_law_115 rfl (lv_at hl 4 rfl) ?_
    refine lv_aload_n hx hb d_Law_law_116 rfl (lv_at hl 2 rfl) ?_
    refine lv_iload hx hb d_Law_law_117 (lv_at hl 1 rfl) ?_
    refine lv_iconst (v := 1) hx hb d_Law_law_119 (by decide) ?_
    refine lv_iadd hx hb d_Law_law_120 ?_
    rw [nI_1]
    refine va_sld hx hb hsc hbl hbA hS (vp_in_nI (n := 4 * t + 1) (by omega) (by omega)) d_Law_law_121 ?_
    rw [nI_clamp (n := 4 * t + 1) (by omega)]
    refine lv_aload_n hx hb d_Law_law_122 rfl (lv_at hl 2 rfl) ?_
    refine lv_iload hx hb d_Law_law_123 (lv_at hl 1 rfl) ?_
    refine lv_iconst (v := 2) hx hb d_Law_law_125 (by decide) ?_
    refine lv_iadd hx hb d_Law_law_126 ?_
    rw [nI_2]
    refine va_sld hx hb hsc hbl hbA hS (vp_in_nI (n := 4 * t + 2) (by omega) (by omega)) d_Law_law_127 ?_
    rw [nI_clamp (n := 4 * t + 2) (by omega)]
    refine km_Vi (wr := (wL ao kl f ++ (wE a b u v ++ wP b k G ++ wM u k (pm 0 D) ++ wM v k (pm 1 D)))) F (c_Mod_add l Dg d k D (xs (4 * t + 1)) (xs (4 * t + 2)) _ (hP.sub (ws' := wD d k D) [0, 1, 2, 3, 4, 5, 6, 7, 8, 9, 10, 11, 12, 13, 14] rfl) ((hD.sub (ws' := wD d k D) [0, 1, 2, 3, 4, 5, 6, 7, 8, 9, 10, 11, 12, 13, 14] (by decide) rfl).weaken (fun _ _ _ _ => trivial)) (pOk_rel hR).2.1) kx_K hX.1 kw_Law_48 tw3_44 tw3_45 (va_recv (ci := 3) (q0 := 0) hX.1 hP rfl rfl) hP hD hS (fun _ h => h) [0, 1, 2, 3, 4, 5, 6, 7, 8, 9, 10, 11, 12, 13, 14] [15, 16, 17, 18, 19, 20, 21, 22, 23, 24, 25, 26, 27, 28, 29, 30, 31, 32] rfl rfl (by decide) (by decide) d_Law_law_128 ⟨⟨Nat.le_of_ble_eq_true rfl, Nat.le_of_ble_eq_true rfl⟩, hc1, hc2⟩ rfl hl.1 rfl (Nat.le_of_ble_eq_true rfl) (fun H locs hP hD hS => ?_)
    have hP : va_P Dg classes ((wL ao kl f ++ (wE a b u v ++ wP b k G ++ wM u k (pm 0 D) ++ wM v k (pm 1 D))) ++ wD d k (dAddM D (xs (4 * t + 1)) (xs (4 * t + 2)))) H := hP
    have hD : va_D (lA s) ((wL ao kl f ++ (wE a b u v ++ wP b k G ++ wM u k (pm 0 D) ++ wM v k (pm 1 D))) ++ wD d k (dAddM D (xs (4 * t + 1)) (xs (4 * t + 2)))) := hD
    refine lv_istore hx hb d_Law_law_131 hl (by decide) rfl (fun ls hl => ?_)
    have hl : lv_has ls 7 [(6, .int (dAddR D (xs (4 * t + 1)) (xs (4 * t + 2)))), (5, .int 2), (4, .int (nI (4 * t))), (0, .ref b0), (1, .ref (a 0)), (2, .ref (d 0)), (3, .ref ao)] := hl
    refine lv_aload_n hx hb d_Law_law_133 rfl (lv_at hl 5 rfl) ?_
    refine kp_V F (c_Mod_thrown l Dg d k (dAddM D (xs (4 * t + 1)) (xs (4 * t + 2))) _ (hP.sub (ws' := wD d k (dAddM D (xs (4 * t + 1)) (xs (4 * t + 2)))) [18, 19, 20, 21, 22, 23, 24, 25, 26, 27, 28, 29, 30, 31, 32] rfl)) kx_K hX.1 kw_Law_49 tw3_40 tw3_41 (va_recv (ci := 3) (q0 := 18) hX.1 hP rfl rfl) hS d_Law_law_134 ⟨⟨Nat.le_of_ble_eq_true rfl, Nat.le_of_ble_eq_true rfl⟩, hc1, hc2⟩ rfl hl.1 rfl (Nat.le_of_ble_eq_true rfl) (fun locs hS => ?_)
    refine lv_iload hx hb d_Law_law_137 (lv_at hl 1 rfl) ?_
    refine lv_icmp_eq (tgt := 144) hx hb d_Law_law_139 (by decide) (fun _ => ?_) (fun h9 => absurd (by rw [hN, u2_eq, hC]) h9)
    refine lv_iload hx hb d_Law_law_144 (lv_at hl 1 rfl) ?_
    refine lv_if_ne (tgt := 161) hx hb d_Law_law_146 (by decide) (fun _ => ?_) (fun h9 => absurd h9 (by decide))
    refine lv_goto (tgt := 716) hx hb d_Law_law_161 (by decide) ?_
    rw [← hpc 0, ← hpc 1, ← hN] at hP hD
    exact kk f G (dAddM D (xs (4 * t + 1)) (xs (4 * t + 2))) H locs ls (by rw [hN]; exact hRc.mono (by omega)) hP hD hS (lv_sub hl [2, 3, 4, 5, 6] rfl)
  · obtain ⟨y1, y2, y3, y4⟩ := add_yes hR ha hs
    refine lv_aload_n hx hb d_Law_law_96 rfl (lv_at hl 2 rfl) ?_
    refine lv_aload_n hx hb d_Law_law_97 rfl (lv_at hl 1 rfl) ?_
    refine lv_iload hx hb d_Law_law_98 (lv_at hl 0 rfl) ?_
    refine lv_iconst (v := 1) hx hb d_Law_law_100 (by decide) ?_
    refine lv_iadd hx hb d_Law_law_101 ?_
    rw [nI_1]
    refine va_sld hx hb hsc hbl hbA hS (vp_in_nI (n := 4 * t + 1) (by omega) (by omega)) d_Law_law_102 ?_
    rw [nI_clamp (n := 4 * t + 1) (by omega)]
    refine lv_aload_n hx hb d_Law_law_103 rfl (lv_at hl 1 rfl) ?_
    refine lv_iload hx hb d_Law_law_104 (lv_at hl 0 rfl) ?_
    refine lv_iconst (v := 2) hx hb d_Law_law_106 (by decide) ?_
    refine lv_iadd hx hb d_Law_law_107 ?_
    rw [nI_2]
    refine va_sld hx hb hsc hbl hbA hS (vp_in_nI (n := 4 * t + 2) (by omega) (by omega)) d_Law_law_108 ?_
    rw [nI_clamp (n := 4 * t + 2) (by omega)]
    refine lv_aload_n hx hb d_Law_law_109 rfl (lv_at hl 4 rfl) ?_
    refine kl_S (k := 4) (wr := wD d k D) F (n_Law_add l Dg a b u v k G (pm 0 D) (pm 1 D) ao kl f q vB s.heap.size (xs (4 * t + 1)) (xs (4 * t + 2)) _ (hP.sub (ws' := (wL ao kl f ++ (wE a b u v ++ wP b k G ++ wM u k (pm 0 D) ++ wM v k (pm 1 D)))) [0, 1, 2, 3, 4, 5, 6, 7, 8, 9, 10, 11, 12, 13, 14, 15, 16, 17] rfl) ((hD.sub (ws' := (wL ao kl f ++ (wE a b u v ++ wP b k G ++ wM u k (pm 0 D) ++ wM v k (pm 1 D)))) [0, 1, 2, 3, 4, 5, 6, 7, 8, 9, 10, 11, 12, 13, 14, 15, 16, 17] (by decide) rfl).weaken (fun _ _ _ _ => trivial)) ha ((add_C hR (xs (4 * t + 1)) (xs (4 * t + 2))).2.2 ha hs).2) lX_m ⟨hX.ta hS, hKl⟩ tw1_174 tw1_0 ⟨by decide, by decide⟩ (by decide +kernel) tw1_172 tw1_173 hP hD hS (fun _ h => h) [0, 1, 2, 3, 4, 5, 6, 7, 8, 9, 10, 11, 12, 13, 14, 15, 16, 17] [18, 19, 20, 21, 22, 23, 24, 25, 26, 27, 28, 29, 30, 31, 32] rfl rfl (by decide) (by decide) d_Law_law_110 ⟨⟨Nat.le_of_ble_eq_true rfl, Nat.le_of_ble_eq_true rfl⟩, hc1, hc2⟩ rfl hl.1 rfl (Nat.le_of_ble_eq_true rfl) (fun H locs hP hD hS => ?_)
    have hP : va_P Dg classes (wD d k D ++ (wL ao kl (vp_updL f 0 (Int32.toInt64 (G 5 0))) ++ (wE a b u v ++ wP b k (sApp G (xs (4 * t + 1)) (xs (4 * t + 2))) ++ wM u k (sBegin (pm 0 D)) ++ wM v k (sBegin (pm 1 D))))) H := hP
    have hD : va_D (lA s) (wD d k D ++ (wL ao kl (vp_updL f 0 (Int32.toInt64 (G 5 0))) ++ (wE a b u v ++ wP b k (sApp G (xs (4 * t + 1)) (xs (4 * t + 2))) ++ wM u k (sBegin (pm 0 D)) ++ wM v k (sBegin (pm 1 D))))) := hD
    refine lv_istore hx hb d_Law_law_113 hl (by decide) rfl (fun ls hl => ?_)
    have hl : lv_has ls 7 [(5, .int 0), (4, .int (nI (4 * t))), (0, .ref b0), (1, .ref (a 0)), (2, .ref (d 0)), (3, .ref ao)] := hl
    refine lv_aload_n hx hb d_Law_law_115 rfl (lv_at hl 4 rfl) ?_
    refine lv_aload_n hx hb d_Law_law_116 rfl (lv_at hl 2 rfl) ?_
    refine lv_iload hx hb d_Law_law_117 (lv_at hl 1 rfl) ?_
    refine lv_iconst (v := 1) hx hb d_Law_law_119 (by decide) ?_
    refine lv_iadd hx hb d_Law_law_120 ?_
    rw [nI_1]
    refine va_sld hx hb hsc hbl hbA hS (vp_in_nI (n := 4 * t + 1) (by omega) (by omega)) d_Law_law_121 ?_
    rw [nI_clamp (n := 4 * t + 1) (by omega)]
    refine lv_aload_n hx hb d_Law_law_122 rfl (lv_at hl 2 rfl) ?_
    refine lv_iload hx hb d_Law_law_123 (lv_at hl 1 rfl) ?_
    refine lv_iconst (v := 2) hx hb d_Law_law_125 (by decide) ?_
    refine lv_iadd hx hb d_Law_law_126 ?_
    rw [nI_2]
    refine va_sld hx hb hsc hbl hbA hS (vp_in_nI (n := 4 * t + 2) (by omega) (by omega)) d_Law_law_127 ?_
    rw [nI_clamp (n := 4 * t + 2) (by omega)]
    refine km_Vi (wr := (wL ao kl (vp_updL f 0 (Int32.toInt64 (G 5 0))) ++ (wE a b u v ++ wP b k (sApp G (xs (4 * t + 1)) (xs (4 * t + 2))) ++ wM u k (sBegin (pm 0 D)) ++ wM v k (sBegin (pm 1 D))))) F (c_Mod_add l Dg d k D (xs (4 * t + 1)) (xs (4 * t + 2)) _ (hP.sub (ws' := wD d k D) [0, 1, 2, 3, 4, 5, 6, 7, 8, 9, 10, 11, 12, 13, 14] rfl) ((hD.sub (ws' := wD d k D) [0, 1, 2, 3, 4, 5, 6, 7, 8, 9, 10, 11, 12, 13, 14] (by decide) rfl).weaken (fun _ _ _ _ => trivial)) (pOk_rel hR).2.1) kx_K hX.1 kw_Law_48 tw3_44 tw3_45 (va_recv (ci := 3) (q0 := 0) hX.1 hP rfl rfl) hP hD hS (fun _ h => h) [0, 1, 2, 3, 4, 5, 6, 7, 8, 9, 10, 11, 12, 13, 14] [15, 16, 17, 18, 19, 20, 21, 22, 23, 24, 25, 26, 27, 28, 29, 30, 31, 32] rfl rfl (by decide) (by decide) d_Law_law_128 ⟨⟨Nat.le_of_ble_eq_true rfl, Nat.le_of_ble_eq_true rfl⟩, hc1, hc2⟩ rfl hl.1 rfl (Nat.le_of_ble_eq_true rfl) (fun H locs hP hD hS => ?_)
    have hP : va_P Dg classes ((wL ao kl (vp_updL f 0 (Int32.toInt64 (G 5 0))) ++ (wE a b u v ++ wP b k (sApp G (xs (4 * t + 1)) (xs (4 * t + 2))) ++ wM u k (sBegin (pm 0 D)) ++ wM v k (sBegin (pm 1 D)))) ++ wD d k (dAddM D (xs (4 * t + 1)) (xs (4 * t + 2)))) H := hP
    have hD : va_D (lA s) ((wL ao kl (vp_updL f 0 (Int32.toInt64 (G 5 0))) ++ (wE a b u v ++ wP b k (sApp G (xs (4 * t + 1)) (xs (4 * t + 2))) ++ wM u k (sBegin (pm 0 D)) ++ wM v k (sBegin (pm 1 D)))) ++ wD d k (dAddM D (xs (4 * t + 1)) (xs (4 * t + 2)))) := hD
    refine lv_istore hx hb d_Law_law_131 hl (by decide) rfl (fun ls hl => ?_)
    have hl : lv_has ls 7 [(6, .int (dAddR D (xs (4 * t + 1)) (xs (4 * t + 2)))), (5, .int 0), (4, .int (nI (4 * t))), (0, .ref b0), (1, .ref (a 0)), (2, .ref (d 0)), (3, .ref ao)] := hl
    refine lv_aload_n hx hb d_Law_law_133 rfl (lv_at hl 5 rfl) ?_
    refine kp_V F (c_Mod_thrown l Dg d k (dAddM D (xs (4 * t + 1)) (xs (4 * t + 2))) _ (hP.sub (ws' := wD d k (dAddM D (xs (4 * t + 1)) (xs (4 * t + 2)))) [18, 19, 20, 21, 22, 23, 24, 25, 26, 27, 28, 29, 30, 31, 32] rfl)) kx_K hX.1 kw_Law_49 tw3_40 tw3_41 (va_recv (ci := 3) (q0 := 18) hX.1 hP rfl rfl) hS d_Law_law_134 ⟨⟨Nat.le_of_ble_eq_true rfl, Nat.le_of_ble_eq_true rfl⟩, hc1, hc2⟩ rfl hl.1 rfl (Nat.le_of_ble_eq_true rfl) (fun locs hS => ?_)
    refine lv_iload hx hb d_Law_law_137 (lv_at hl 1 rfl) ?_
    refine lv_icmp_eq (tgt := 144) hx hb d_Law_law_139 (by decide) (fun _ => ?_) (fun h9 => absurd y3 h9)
    refine lv_iload hx hb d_Law_law_144 (lv_at hl 1 rfl) ?_
    refine lv_if_ne (tgt := 161) hx hb d_Law_law_146 (by decide) (fun h9 => absurd rfl h9) (fun _ => ?_)
    refine lv_aload_n hx hb d_Law_law_149 rfl (lv_at hl 6 rfl) ?_
    refine lv_iconst (v := 0) hx hb d_Law_law_150 (by decide) ?_
    refine va_lald hx hb hKl hP 0 0 rfl rfl (by unfold vp_in; decide) d_Law_law_151 ?_
    rw [show (vp_updL f 0 (Int32.toInt64 (G 5 0))) (Int32.toNatClampNeg 0) = Int32.toInt64 (G 5 0) from if_pos rfl]
    refine lv_iload hx hb d_Law_law_152 (lv_at hl 0 rfl) ?_
    rw [y4]
    refine lv_i2l hx hb d_Law_law_154 rfl ?_
    refine W.lcmp hx hb d_Law_law_155 ?_
    rw [lcmp_0]
    refine lv_if_eq (tgt := 161) hx hb d_Law_law_156 (by decide) (fun _ => ?_) (fun h9 => absurd rfl h9)
    refine lv_goto (tgt := 716) hx hb d_Law_law_161 (by decide) ?_
    rw [← y2 0 (by omega), ← y2 1 (by omega)] at hP hD
    exact kk (vp_updL f 0 (Int32.toInt64 (G 5 0))) (sApp G (xs (4 * t + 1)) (xs (4 * t + 2))) (dAddM D (xs (4 * t + 1)) (xs (4 * t + 2))) H locs ls (y1.mono (by omega)) hP hD hS (lv_sub hl [2, 3, 4, 5, 6] rfl)

theorem e_Law_look_NS3' (l : Launch) (hl0 : l.stackTraces = false) (Dg : va_G) (a b u v : Nat → Nat) (k : Nat → ClassId) (G M N : vSt) (ao : Nat) (kl : ClassId) (f : Nat → Int64) (q vB B : Nat) (pl w : Int32) (H : Heap) (hP : va_P Dg classes (wL ao kl f ++ (wE a b u v ++ wP b k G ++ wM u k M ++ wM v k N)) H) (hD : va_D (fun _ => True) (wL ao kl f ++ (wE a b u v ++ wP b k G ++ wM u k M ++ wM v k N))) (hha : ¬ sHas G pl = 0) (hw : w = 2) (hfu : G 5 1 = 0) : kLi l y_Law_look b_Law_look 5 [(0, 10, 13, 21)] 7 150 [.ref (a 0), .int pl, .int w, .ref ao] H (lX Dg k kl q vB B H) Dg (wL ao kl f ++ (wE a b u v ++ wP b k G ++ wM u k M ++ wM v k N)) (wL ao kl f ++ (wE a b u v ++ wP b k G ++ wM u k M ++ wM v k N)) 1 := by
  subst hw
  exact e_Law_look_NS3 l hl0 Dg a b u v k G M N ao kl f q vB B pl H hP hD hha hfu

set_option maxRecDepth 100000 in
set_option maxHeartbeats 4000000 in
theorem law_change {p : Program} {l : Launch} {e : Env} {s : State} {m : MethodId} {below : List Frame} {meth : Method} {c0 : Code} {H : Heap} {locs : List Loc} {cells slots : Nat} {Q : State → Prop} {ls : Array Slot} {Dg : va_G} {a b u v d : Nat → Nat} {k : Nat → ClassId} {kl : ClassId} {ao b0 L q vB tL t : Nat} {f : Nat → Int64} {xs : Nat → Int32} {G D : vSt} (F : CallFix p m c0 code 7 s #[Value.ref b0] lw_ok "FusedEngineLaw") (hl0 : l.stackTraces = false) (hX : lF Dg k q vB tL s) (hKl : va_K Dg classes [(kl, .long)] s) (hsc : va_X b0 L xs s s.heap) (hbl : b0 < s.heap.size) (ht : 4 * t + 4 ≤ L) (hL : L ≤ 2048) (hR : Rel (12000 * t) G D)
    (hP : va_P Dg classes ((wL ao kl f ++ (wE a b u v ++ wP b k G ++ wM u k (pm 0 D) ++ wM v k (pm 1 D))) ++ wD d k D) H) (hD : va_D (lA s) ((wL ao kl f ++ (wE a b u v ++ wP b k G ++ wM u k (pm 0 D) ++ wM v k (pm 1 D))) ++ wD d k D)) (hS : va_S (lA s) s.heap H locs) (hl : lv_has ls 7 [(4, .int (nI (4 * t))), (0, .ref b0), (1, .ref (a 0)), (2, .ref (d 0)), (3, .ref ao)]) (hc1 : cells + 1 ≤ room_1.cells) (hc2 : slots + 6 ≤ room_1.slots)
    (kk : ∀ (f : Nat → Int64) (G D : vSt) (H : Heap) (locs : List Loc) (ls : Array Slot), Rel (12000 * (t + 1)) G D → va_P Dg classes ((wL ao kl f ++ (wE a b u v ++ wP b k G ++ wM u k (pm 0 D) ++ wM v k (pm 1 D))) ++ wD d k D) H → va_D (lA s) ((wL ao kl f ++ (wE a b u v ++ wP b k G ++ wM u k (pm 0 D) ++ wM v k (pm 1 D))) ++ wD d k D) → va_S (lA s) s.heap H locs → lv_has ls 7 [(4, .int (nI (4 * t))), (0, .ref b0), (1, .ref (a 0)), (2, .ref (d 0)), (3, .ref ao)] → W p l e room_1 s m #[Value.ref b0] below meth c0 H locs (cells + 1) (slots + 6) Q (F0 m 716 ls [])) : W p l e room_1 s m #[Value.ref b0] below meth c0 H locs cells slots Q (F0 m 164 ls []) := by
  obtain ⟨hx, hb, hml, hown, hT⟩ := id F
  have hbA : ¬ lA s b0 := fun w => absurd w (by show ¬ s.heap.size ≤ b0; omega)
  by_cases hh : sHas G (xs (4 * t + 1)) = 0
  · have hC := (chg_C hR (xs (4 * t + 1)) (xs (4 * t + 2)) (xs (4 * t + 3))).1 hh
    have hN := chg_no (D := D) (p := (xs (4 * t + 1))) (c := (xs (4 * t + 2))) (n := (xs (4 * t + 3))) (by rw [hC]; decide)
    obtain ⟨hRc, hpc⟩ := hR.code (dChgC D (xs (4 * t + 1)) (xs (4 * t + 2)) (xs (4 * t + 3)))
    refine lv_aload_n hx hb d_Law_law_164 rfl (lv_at hl 2 rfl) ?_
    refine lv_aload_n hx hb d_Law_law_165 rfl (lv_at hl 1 rfl) ?_
    refine lv_iload hx hb d_Law_law_166 (lv_at hl 0 rfl) ?_
    refine lv_iconst (v := 1) hx hb d_Law_law_168 (by decide) ?_
    refine lv_iadd hx hb d_Law_law_169 ?_
    rw [nI_1]
    refine va_sld hx hb hsc hbl hbA hS (vp_in_nI (n := 4 * t + 1) (by omega) (by omega)) d_Law_law_170 ?_
    rw [nI_clamp (n := 4 * t + 1) (by omega)]
    refine lv_aload_n hx hb d_Law_law_171 rfl (lv_at hl 1 rfl) ?_
    refine lv_iload hx hb d_Law_law_172 (lv_at hl 0 rfl) ?_
    refine lv_iconst (v := 2) hx hb d_Law_law_174 (by decide) ?_
    refine lv_iadd hx hb d_Law_law_175 ?_
    rw [nI_2]
    refine va_sld hx hb hsc hbl hbA hS (vp_in_nI (n := 4 * t + 2) (by omega) (by omega)) d_Law_law_176 ?_
    rw [nI_clamp (n := 4 * t + 2) (by omega)]
    refine lv_aload_n hx hb d_Law_law_177 rfl (lv_at hl 1 rfl) ?_
    refine lv_iload hx hb d_Law_law_178 (lv_at hl 0 rfl) ?_
    refine lv_iconst (v := 3) hx hb d_Law_law_180 (by decide) ?_
    refine lv_iadd hx hb d_Law_law_181 ?_
    rw [nI_3]
    refine va_sld hx hb hsc hbl hbA hS (vp_in_nI (n := 4 * t + 3) (by omega) (by omega)) d_Law_law_182 ?_
    rw [nI_clamp (n := 4 * t + 3) (by omega)]
    refine kl_S (k := 4) (wr := wD d k D) F (e_Law_change_NS l hl0 Dg a b u v k G (pm 0 D) (pm 1 D) ao kl f q vB s.heap.size (xs (4 * t + 1)) (xs (4 * t + 2)) (xs (4 * t + 3)) _ (hP.sub (ws' := (wL ao kl f ++ (wE a b u v ++ wP b k G ++ wM u k (pm 0 D) ++ wM v k (pm 1 D)))) [0, 1, 2, 3, 4, 5, 6, 7, 8, 9, 10, 11, 12, 13, 14, 15, 16, 17] rfl) ((hD.sub (ws' := (wL ao kl f ++ (wE a b u v ++ wP b k G ++ wM u k (pm 0 D) ++ wM v k (pm 1 D)))) [0, 1, 2, 3, 4, 5, 6, 7, 8, 9, 10, 11, 12, 13, 14, 15, 16, 17] (by decide) rfl).weaken (fun _ _ _ _ => trivial)) hh) lX_m ⟨hX.ta hS, hKl⟩ tw2_99 tw1_0 ⟨by decide, by decide⟩ (by decide +kernel) tw2_97 tw2_98 hP hD hS (fun _ h => h) [0, 1, 2, 3, 4, 5, 6, 7, 8, 9, 10, 11, 12, 13, 14, 15, 16, 17] [18, 19, 20, 21, 22, 23, 24, 25, 26, 27, 28, 29, 30, 31, 32] rfl rfl (by decide) (by decide) d_Law_law_183 ⟨⟨Nat.le_of_ble_eq_true rfl, Nat.le_of_ble_eq_true rfl⟩, hc1, hc2⟩ rfl hl.1 rfl (Nat.le_of_ble_eq_true rfl) (fun H locs hP hD hS => ?_)
    have hP : va_P Dg classes (wD d k D ++ (wL ao kl f ++ (wE a b u v ++ wP b k G ++ wM u k (pm 0 D) ++ wM v k (pm 1 D)))) H := hP
    have hD : va_D (lA s) (wD d k D ++ (wL ao kl f ++ (wE a b u v ++ wP b k G ++ wM u k (pm 0 D) ++ wM v k (pm 1 D)))) := hD
    refine lv_istore hx hb d_Law_law_186 hl (by decide) rfl (fun ls hl => ?_)
    have hl : lv_has ls 7 [(5, .int 1), (4, .int (nI (4 * t))), (0, .ref b0), (1, .ref (a 0)), (2, .ref (d 0)), (3, .ref ao)] := hl
    refine lv_aload_n hx hb d_Law_law_188 rfl (lv_at hl 4 rfl) ?_
    refine lv_aload_n hx hb d_Law_law_189 rfl (lv_at hl 2 rfl) ?_
    refine lv_iload hx hb d_Law_law_190 (lv_at hl 1 rfl) ?_
    refine lv_iconst (v := 1) hx hb d_Law_law_192 (by decide) ?_
    refine lv_iadd hx hb d_Law_law_193 ?_
    rw [nI_1]
    refine va_sld hx hb hsc hbl hbA hS (vp_in_nI (n := 4 * t + 1) (by omega) (by omega)) d_Law_law_194 ?_
    rw [nI_clamp (n := 4 * t + 1) (by omega)]
    refine lv_aload_n hx hb d_Law_law_195 rfl (lv_at hl 2 rfl) ?_
    refine lv_iload hx hb d_Law_law_196 (lv_at hl 1 rfl) ?_
    refine lv_iconst (v := 2) hx hb d_Law_law_198 (by decide) ?_
    refine lv_iadd hx hb d_Law_law_199 ?_
    rw [nI_2]
    refine va_sld hx hb hsc hbl hbA hS (vp_in_nI (n := 4 * t + 2) (by omega) (by omega)) d_Law_law_200 ?_
    rw [nI_clamp (n := 4 * t + 2) (by omega)]
    refine lv_aload_n hx hb d_Law_law_201 rfl (lv_at hl 2 rfl) ?_
    refine lv_iload hx hb d_Law_law_202 (lv_at hl 1 rfl) ?_
    refine lv_iconst (v := 3) hx hb d_Law_law_204 (by decide) ?_
    refine lv_iadd hx hb d_Law_law_205 ?_
    rw [nI_3]
    refine va_sld hx hb hsc hbl hbA hS (vp_in_nI (n := 4 * t + 3) (by omega) (by omega)) d_Law_law_206 ?_
    rw [nI_clamp (n := 4 * t + 3) (by omega)]
    refine km_Vv (wr := (wL ao kl f ++ (wE a b u v ++ wP b k G ++ wM u k (pm 0 D) ++ wM v k (pm 1 D)))) F (c_Mod_change l Dg d k D (xs (4 * t + 1)) (xs (4 * t + 2)) (xs (4 * t + 3)) _ (hP.sub (ws' := wD d k D) [0, 1, 2, 3, 4, 5, 6, 7, 8, 9, 10, 11, 12, 13, 14] rfl) ((hD.sub (ws' := wD d k D) [0, 1, 2, 3, 4, 5, 6, 7, 8, 9, 10, 11, 12, 13, 14] (by decide) rfl).weaken (fun _ _ _ _ => trivial)) (pOk_rel hR).2.1) kx_K hX.1 kw_Law_56 tw3_68 tw3_69 (va_recv (ci := 3) (q0 := 0) hX.1 hP rfl rfl) hP hD hS (fun _ h => h) [0, 1, 2, 3, 4, 5, 6, 7, 8, 9, 10, 11, 12, 13, 14] [15, 16, 17, 18, 19, 20, 21, 22, 23, 24, 25, 26, 27, 28, 29, 30, 31, 32] rfl rfl (by decide) (by decide) d_Law_law_207 ⟨⟨Nat.le_of_ble_eq_true rfl, Nat.le_of_ble_eq_true rfl⟩, hc1, hc2⟩ rfl hl.1 rfl (Nat.le_of_ble_eq_true rfl) (fun H locs hP hD hS => ?_)
    have hP : va_P Dg classes ((wL ao kl f ++ (wE a b u v ++ wP b k G ++ wM u k (pm 0 D) ++ wM v k (pm 1 D))) ++ wD d k (dChg D (xs (4 * t + 1)) (xs (4 * t + 2)) (xs (4 * t + 3)))) H := hP
    have hD : va_D (lA s) ((wL ao kl f ++ (wE a b u v ++ wP b k G ++ wM u k (pm 0 D) ++ wM v k (pm 1 D))) ++ wD d k (dChg D (xs (4 * t + 1)) (xs (4 * t + 2)) (xs (4 * t + 3)))) := hD
    refine lv_aload_n hx hb d_Law_law_210 rfl (lv_at hl 4 rfl) ?_
    refine kp_V F (c_Mod_thrown l Dg d k (dChg D (xs (4 * t + 1)) (xs (4 * t + 2)) (xs (4 * t + 3))) _ (hP.sub (ws' := wD d k (dChg D (xs (4 * t + 1)) (xs (4 * t + 2)) (xs (4 * t + 3)))) [18, 19, 20, 21, 22, 23, 24, 25, 26, 27, 28, 29, 30, 31, 32] rfl)) kx_K hX.1 kw_Law_49 tw3_40 tw3_41 (va_recv (ci := 3) (q0 := 18) hX.1 hP rfl rfl) hS d_Law_law_211 ⟨⟨Nat.le_of_ble_eq_true rfl, Nat.le_of_ble_eq_true rfl⟩, hc1, hc2⟩ rfl hl.1 rfl (Nat.le_of_ble_eq_true rfl) (fun locs hS => ?_)
    refine lv_iload hx hb d_Law_law_214 (lv_at hl 0 rfl) ?_
    refine lv_icmp_eq (tgt := 221) hx hb d_Law_law_216 (by decide) (fun _ => ?_) (fun h9 => absurd (by rw [hN, u2_eq, hC]) h9)
    refine lv_goto (tgt := 716) hx hb d_Law_law_221 (by decide) ?_
    rw [← hpc 0, ← hpc 1, ← hN] at hP hD
    exact kk f G (dChg D (xs (4 * t + 1)) (xs (4 * t + 2)) (xs (4 * t + 3))) H locs ls (by rw [hN]; exact hRc.mono (by omega)) hP hD hS (lv_sub hl [1, 2, 3, 4, 5] rfl)
  by_cases ha : sAllow (xs (4 * t + 2)) (xs (4 * t + 3)) = 0
  · have hC := (chg_C hR (xs (4 * t + 1)) (xs (4 * t + 2)) (xs (4 * t + 3))).2.1 hh ha
    have hN := chg_no (D := D) (p := (xs (4 * t + 1))) (c := (xs (4 * t + 2))) (n := (xs (4 * t + 3))) (by rw [hC]; decide)
    obtain ⟨hRc, hpc⟩ := hR.code (dChgC D (xs (4 * t + 1)) (xs (4 * t + 2)) (xs (4 * t + 3)))
    refine lv_aload_n hx hb d_Law_law_164 rfl (lv_at hl 2 rfl) ?_
    refine lv_aload_n hx hb d_Law_law_165 rfl (lv_at hl 1 rfl) ?_
    refine lv_iload hx hb d_Law_law_166 (lv_at hl 0 rfl) ?_
    refine lv_iconst (v := 1) hx hb d_Law_law_168 (by decide) ?_
    refine lv_iadd hx hb d_Law_law_169 ?_
    rw [nI_1]
    refine va_sld hx hb hsc hbl hbA hS (vp_in_nI (n := 4 * t + 1) (by omega) (by omega)) d_Law_law_170 ?_
    rw [nI_clamp (n := 4 * t + 1) (by omega)]
    refine lv_aload_n hx hb d_Law_law_171 rfl (lv_at hl 1 rfl) ?_
    refine lv_iload hx hb d_Law_law_172 (lv_at hl 0 rfl) ?_
    refine lv_iconst (v := 2) hx hb d_Law_law_174 (by decide) ?_
    refine lv_iadd hx hb d_Law_law_175 ?_
    rw [nI_2]
    refine va_sld hx hb hsc hbl hbA hS (vp_in_nI (n := 4 * t + 2) (by omega) (by omega)) d_Law_law_176 ?_
    rw [nI_clamp (n := 4 * t + 2) (by omega)]
    refine lv_aload_n hx hb d_Law_law_177 rfl (lv_at hl 1 rfl) ?_
    refine lv_iload hx hb d_Law_law_178 (lv_at hl 0 rfl) ?_
    refine lv_iconst (v := 3) hx hb d_Law_law_180 (by decide) ?_
    refine lv_iadd hx hb d_Law_law_181 ?_
    rw [nI_3]
    refine va_sld hx hb hsc hbl hbA hS (vp_in_nI (n := 4 * t + 3) (by omega) (by omega)) d_Law_law_182 ?_
    rw [nI_clamp (n := 4 * t + 3) (by omega)]
    refine kl_S (k := 4) (wr := wD d k D) F (e_Law_change_IA l hl0 Dg a b u v k G (pm 0 D) (pm 1 D) ao kl f q vB s.heap.size (xs (4 * t + 1)) (xs (4 * t + 2)) (xs (4 * t + 3)) _ (hP.sub (ws' := (wL ao kl f ++ (wE a b u v ++ wP b k G ++ wM u k (pm 0 D) ++ wM v k (pm 1 D)))) [0, 1, 2, 3, 4, 5, 6, 7, 8, 9, 10, 11, 12, 13, 14, 15, 16, 17] rfl) ((hD.sub (ws' := (wL ao kl f ++ (wE a b u v ++ wP b k G ++ wM u k (pm 0 D) ++ wM v k (pm 1 D)))) [0, 1, 2, 3, 4, 5, 6, 7, 8, 9, 10, 11, 12, 13, 14, 15, 16, 17] (by decide) rfl).weaken (fun _ _ _ _ => trivial)) hh ha) lX_m ⟨hX.ta hS, hKl⟩ tw2_99 tw1_0 ⟨by decide, by decide⟩ (by decide +kernel) tw2_97 tw2_98 hP hD hS (fun _ h => h) [0, 1, 2, 3, 4, 5, 6, 7, 8, 9, 10, 11, 12, 13, 14, 15, 16, 17] [18, 19, 20, 21, 22, 23, 24, 25, 26, 27, 28, 29, 30, 31, 32] rfl rfl (by decide) (by decide) d_Law_law_183 ⟨⟨Nat.le_of_ble_eq_true rfl, Nat.le_of_ble_eq_true rfl⟩, hc1, hc2⟩ rfl hl.1 rfl (Nat.le_of_ble_eq_true rfl) (fun H locs hP hD hS => ?_)
    have hP : va_P Dg classes (wD d k D ++ (wL ao kl f ++ (wE a b u v ++ wP b k G ++ wM u k (pm 0 D) ++ wM v k (pm 1 D)))) H := hP
    have hD : va_D (lA s) (wD d k D ++ (wL ao kl f ++ (wE a b u v ++ wP b k G ++ wM u k (pm 0 D) ++ wM v k (pm 1 D)))) := hD
    refine lv_istore hx hb d_Law_law_186 hl (by decide) rfl (fun ls hl => ?_)
    have hl : lv_has ls 7 [(5, .int 2), (4, .int (nI (4 * t))), (0, .ref b0), (1, .ref (a 0)), (2, .ref (d 0)), (3, .ref ao)] := hl
    refine lv_aload_n hx hb d_Law_law_188 rfl (lv_at hl 4 rfl) ?_
    refine lv_aload_n hx hb d_Law_law_189 rfl (lv_at hl 2 rfl) ?_
    refine lv_iload hx hb d_Law_law_190 (lv_at hl 1 rfl) ?_
    refine lv_iconst (v := 1) hx hb d_Law_law_192 (by decide) ?_
    refine lv_iadd hx hb d_Law_law_193 ?_
    rw [nI_1]
    refine va_sld hx hb hsc hbl hbA hS (vp_in_nI (n := 4 * t + 1) (by omega) (by omega)) d_Law_law_194 ?_
    rw [nI_clamp (n := 4 * t + 1) (by omega)]
    refine lv_aload_n hx hb d_Law_law_195 rfl (lv_at hl 2 rfl) ?_
    refine lv_iload hx hb d_Law_law_196 (lv_at hl 1 rfl) ?_
    refine lv_iconst (v := 2) hx hb d_Law_law_198 (by decide) ?_
    refine lv_iadd hx hb d_Law_law_199 ?_
    rw [nI_2]
    refine va_sld hx hb hsc hbl hbA hS (vp_in_nI (n := 4 * t + 2) (by omega) (by omega)) d_Law_law_200 ?_
    rw [nI_clamp (n := 4 * t + 2) (by omega)]
    refine lv_aload_n hx hb d_Law_law_201 rfl (lv_at hl 2 rfl) ?_
    refine lv_iload hx hb d_Law_law_202 (lv_at hl 1 rfl) ?_
    refine lv_iconst (v := 3) hx hb d_Law_law_204 (by decide) ?_
    refine lv_iadd hx hb d_Law_law_205 ?_
    rw [nI_3]
    refine va_sld hx hb hsc hbl hbA hS (vp_in_nI (n := 4 * t + 3) (by omega) (by omega)) d_Law_law_206 ?_
    rw [nI_clamp (n := 4 * t + 3) (by omega)]
    refine km_Vv (wr := (wL ao kl f ++ (wE a b u v ++ wP b k G ++ wM u k (pm 0 D) ++ wM v k (pm 1 D)))) F (c_Mod_change l Dg d k D (xs (4 * t + 1)) (xs (4 * t + 2)) (xs (4 * t + 3)) _ (hP.sub (ws' := wD d k D) [0, 1, 2, 3, 4, 5, 6, 7, 8, 9, 10, 11, 12, 13, 14] rfl) ((hD.sub (ws' := wD d k D) [0, 1, 2, 3, 4, 5, 6, 7, 8, 9, 10, 11, 12, 13, 14] (by decide) rfl).weaken (fun _ _ _ _ => trivial)) (pOk_rel hR).2.1) kx_K hX.1 kw_Law_56 tw3_68 tw3_69 (va_recv (ci := 3) (q0 := 0) hX.1 hP rfl rfl) hP hD hS (fun _ h => h) [0, 1, 2, 3, 4, 5, 6, 7, 8, 9, 10, 11, 12, 13, 14] [15, 16, 17, 18, 19, 20, 21, 22, 23, 24, 25, 26, 27, 28, 29, 30, 31, 32] rfl rfl (by decide) (by decide) d_Law_law_207 ⟨⟨Nat.le_of_ble_eq_true rfl, Nat.le_of_ble_eq_true rfl⟩, hc1, hc2⟩ rfl hl.1 rfl (Nat.le_of_ble_eq_true rfl) (fun H locs hP hD hS => ?_)
    have hP : va_P Dg classes ((wL ao kl f ++ (wE a b u v ++ wP b k G ++ wM u k (pm 0 D) ++ wM v k (pm 1 D))) ++ wD d k (dChg D (xs (4 * t + 1)) (xs (4 * t + 2)) (xs (4 * t + 3)))) H := hP
    have hD : va_D (lA s) ((wL ao kl f ++ (wE a b u v ++ wP b k G ++ wM u k (pm 0 D) ++ wM v k (pm 1 D))) ++ wD d k (dChg D (xs (4 * t + 1)) (xs (4 * t + 2)) (xs (4 * t + 3)))) := hD
    refine lv_aload_n hx hb d_Law_law_210 rfl (lv_at hl 4 rfl) ?_
    refine kp_V F (c_Mod_thrown l Dg d k (dChg D (xs (4 * t + 1)) (xs (4 * t + 2)) (xs (4 * t + 3))) _ (hP.sub (ws' := wD d k (dChg D (xs (4 * t + 1)) (xs (4 * t + 2)) (xs (4 * t + 3)))) [18, 19, 20, 21, 22, 23, 24, 25, 26, 27, 28, 29, 30, 31, 32] rfl)) kx_K hX.1 kw_Law_49 tw3_40 tw3_41 (va_recv (ci := 3) (q0 := 18) hX.1 hP rfl rfl) hS d_Law_law_211 ⟨⟨Nat.le_of_ble_eq_true rfl, Nat.le_of_ble_eq_true rfl⟩, hc1, hc2⟩ rfl hl.1 rfl (Nat.le_of_ble_eq_true rfl) (fun locs hS => ?_)
    refine lv_iload hx hb d_Law_law_214 (lv_at hl 0 rfl) ?_
    refine lv_icmp_eq (tgt := 221) hx hb d_Law_law_216 (by decide) (fun _ => ?_) (fun h9 => absurd (by rw [hN, u2_eq, hC]) h9)
    refine lv_goto (tgt := 716) hx hb d_Law_law_221 (by decide) ?_
    rw [← hpc 0, ← hpc 1, ← hN] at hP hD
    exact kk f G (dChg D (xs (4 * t + 1)) (xs (4 * t + 2)) (xs (4 * t + 3))) H locs ls (by rw [hN]; exact hRc.mono (by omega)) hP hD hS (lv_sub hl [1, 2, 3, 4, 5] rfl)
  · obtain ⟨y1, y2, y3⟩ := chg_yes hR hh ha
    refine lv_aload_n hx hb d_Law_law_164 rfl (lv_at hl 2 rfl) ?_
    refine lv_aload_n hx hb d_Law_law_165 rfl (lv_at hl 1 rfl) ?_
    refine lv_iload hx hb d_Law_law_166 (lv_at hl 0 rfl) ?_
    refine lv_iconst (v := 1) hx hb d_Law_law_168 (by decide) ?_
    refine lv_iadd hx hb d_Law_law_169 ?_
    rw [nI_1]
    refine va_sld hx hb hsc hbl hbA hS (vp_in_nI (n := 4 * t + 1) (by omega) (by omega)) d_Law_law_170 ?_
    rw [nI_clamp (n := 4 * t + 1) (by omega)]
    refine lv_aload_n hx hb d_Law_law_171 rfl (lv_at hl 1 rfl) ?_
    refine lv_iload hx hb d_Law_law_172 (lv_at hl 0 rfl) ?_
    refine lv_iconst (v := 2) hx hb d_Law_law_174 (by decide) ?_
    refine lv_iadd hx hb d_Law_law_175 ?_
    rw [nI_2]
    refine va_sld hx hb hsc hbl hbA hS (vp_in_nI (n := 4 * t + 2) (by omega) (by omega)) d_Law_law_176 ?_
    rw [nI_clamp (n := 4 * t + 2) (by omega)]
    refine lv_aload_n hx hb d_Law_law_177 rfl (lv_at hl 1 rfl) ?_
    refine lv_iload hx hb d_Law_law_178 (lv_at hl 0 rfl) ?_
    refine lv_iconst (v := 3) hx hb d_Law_law_180 (by decide) ?_
    refine lv_iadd hx hb d_Law_law_181 ?_
    rw [nI_3]
    refine va_sld hx hb hsc hbl hbA hS (vp_in_nI (n := 4 * t + 3) (by omega) (by omega)) d_Law_law_182 ?_
    rw [nI_clamp (n := 4 * t + 3) (by omega)]
    refine kl_S (k := 4) (wr := wD d k D) F (n_Law_change l Dg a b u v k G (pm 0 D) (pm 1 D) ao kl f q vB s.heap.size (xs (4 * t + 1)) (xs (4 * t + 2)) (xs (4 * t + 3)) _ (hP.sub (ws' := (wL ao kl f ++ (wE a b u v ++ wP b k G ++ wM u k (pm 0 D) ++ wM v k (pm 1 D)))) [0, 1, 2, 3, 4, 5, 6, 7, 8, 9, 10, 11, 12, 13, 14, 15, 16, 17] rfl) ((hD.sub (ws' := (wL ao kl f ++ (wE a b u v ++ wP b k G ++ wM u k (pm 0 D) ++ wM v k (pm 1 D)))) [0, 1, 2, 3, 4, 5, 6, 7, 8, 9, 10, 11, 12, 13, 14, 15, 16, 17] (by decide) rfl).weaken (fun _ _ _ _ => trivial)) hh ha (pOk_rel hR).1) lX_m ⟨hX.ta hS, hKl⟩ tw2_99 tw1_0 ⟨by decide, by decide⟩ (by decide +kernel) tw2_97 tw2_98 hP hD hS (fun _ h => h) [0, 1, 2, 3, 4, 5, 6, 7, 8, 9, 10, 11, 12, 13, 14, 15, 16, 17] [18, 19, 20, 21, 22, 23, 24, 25, 26, 27, 28, 29, 30, 31, 32] rfl rfl (by decide) (by decide) d_Law_law_183 ⟨⟨Nat.le_of_ble_eq_true rfl, Nat.le_of_ble_eq_true rfl⟩, hc1, hc2⟩ rfl hl.1 rfl (Nat.le_of_ble_eq_true rfl) (fun H locs hP hD hS => ?_)
    have hP : va_P Dg classes (wD d k D ++ (wL ao kl f ++ (wE a b u v ++ wP b k (sRepl G (xs (4 * t + 1)) (xs (4 * t + 2)) (xs (4 * t + 3))) ++ wM u k (sBegin (pm 0 D)) ++ wM v k (sBegin (pm 1 D))))) H := hP
    have hD : va_D (lA s) (wD d k D ++ (wL ao kl f ++ (wE a b u v ++ wP b k (sRepl G (xs (4 * t + 1)) (xs (4 * t + 2)) (xs (4 * t + 3))) ++ wM u k (sBegin (pm 0 D)) ++ wM v k (sBegin (pm 1 D))))) := hD
    refine lv_istore hx hb d_Law_law_186 hl (by decide) rfl (fun ls hl => ?_)
    have hl : lv_has ls 7 [(5, .int 0), (4, .int (nI (4 * t))), (0, .ref b0), (1, .ref (a 0)), (2, .ref (d 0)), (3, .ref ao)] := hl
    refine lv_aload_n hx hb d_Law_law_188 rfl (lv_at hl 4 rfl) ?_
    refine lv_aload_n hx hb d_Law_law_189 rfl (lv_at hl 2 rfl) ?_
    refine lv_iload hx hb d_Law_law_190 (lv_at hl 1 rfl) ?_
    refine lv_iconst (v := 1) hx hb d_Law_law_192 (by decide) ?_
    refine lv_iadd hx hb d_Law_law_193 ?_
    rw [nI_1]
    refine va_sld hx hb hsc hbl hbA hS (vp_in_nI (n := 4 * t + 1) (by omega) (by omega)) d_Law_law_194 ?_
    rw [nI_clamp (n := 4 * t + 1) (by omega)]
    refine lv_aload_n hx hb d_Law_law_195 rfl (lv_at hl 2 rfl) ?_
    refine lv_iload hx hb d_Law_law_196 (lv_at hl 1 rfl) ?_
    refine lv_iconst (v := 2) hx hb d_Law_law_198 (by decide) ?_
    refine lv_iadd hx hb d_Law_law_199 ?_
    rw [nI_2]
    refine va_sld hx hb hsc hbl hbA hS (vp_in_nI (n := 4 * t + 2) (by omega) (by omega)) d_Law_law_200 ?_
    rw [nI_clamp (n := 4 * t + 2) (by omega)]
    refine lv_aload_n hx hb d_Law_law_201 rfl (lv_at hl 2 rfl) ?_
    refine lv_iload hx hb d_Law_law_202 (lv_at hl 1 rfl) ?_
    refine lv_iconst (v := 3) hx hb d_Law_law_204 (by decide) ?_
    refine lv_iadd hx hb d_Law_law_205 ?_
    rw [nI_3]
    refine va_sld hx hb hsc hbl hbA hS (vp_in_nI (n := 4 * t + 3) (by omega) (by omega)) d_Law_law_206 ?_
    rw [nI_clamp (n := 4 * t + 3) (by omega)]
    refine km_Vv (wr := (wL ao kl f ++ (wE a b u v ++ wP b k (sRepl G (xs (4 * t + 1)) (xs (4 * t + 2)) (xs (4 * t + 3))) ++ wM u k (sBegin (pm 0 D)) ++ wM v k (sBegin (pm 1 D))))) F (c_Mod_change l Dg d k D (xs (4 * t + 1)) (xs (4 * t + 2)) (xs (4 * t + 3)) _ (hP.sub (ws' := wD d k D) [0, 1, 2, 3, 4, 5, 6, 7, 8, 9, 10, 11, 12, 13, 14] rfl) ((hD.sub (ws' := wD d k D) [0, 1, 2, 3, 4, 5, 6, 7, 8, 9, 10, 11, 12, 13, 14] (by decide) rfl).weaken (fun _ _ _ _ => trivial)) (pOk_rel hR).2.1) kx_K hX.1 kw_Law_56 tw3_68 tw3_69 (va_recv (ci := 3) (q0 := 0) hX.1 hP rfl rfl) hP hD hS (fun _ h => h) [0, 1, 2, 3, 4, 5, 6, 7, 8, 9, 10, 11, 12, 13, 14] [15, 16, 17, 18, 19, 20, 21, 22, 23, 24, 25, 26, 27, 28, 29, 30, 31, 32] rfl rfl (by decide) (by decide) d_Law_law_207 ⟨⟨Nat.le_of_ble_eq_true rfl, Nat.le_of_ble_eq_true rfl⟩, hc1, hc2⟩ rfl hl.1 rfl (Nat.le_of_ble_eq_true rfl) (fun H locs hP hD hS => ?_)
    have hP : va_P Dg classes ((wL ao kl f ++ (wE a b u v ++ wP b k (sRepl G (xs (4 * t + 1)) (xs (4 * t + 2)) (xs (4 * t + 3))) ++ wM u k (sBegin (pm 0 D)) ++ wM v k (sBegin (pm 1 D)))) ++ wD d k (dChg D (xs (4 * t + 1)) (xs (4 * t + 2)) (xs (4 * t + 3)))) H := hP
    have hD : va_D (lA s) ((wL ao kl f ++ (wE a b u v ++ wP b k (sRepl G (xs (4 * t + 1)) (xs (4 * t + 2)) (xs (4 * t + 3))) ++ wM u k (sBegin (pm 0 D)) ++ wM v k (sBegin (pm 1 D)))) ++ wD d k (dChg D (xs (4 * t + 1)) (xs (4 * t + 2)) (xs (4 * t + 3)))) := hD
    refine lv_aload_n hx hb d_Law_law_210 rfl (lv_at hl 4 rfl) ?_
    refine kp_V F (c_Mod_thrown l Dg d k (dChg D (xs (4 * t + 1)) (xs (4 * t + 2)) (xs (4 * t + 3))) _ (hP.sub (ws' := wD d k (dChg D (xs (4 * t + 1)) (xs (4 * t + 2)) (xs (4 * t + 3)))) [18, 19, 20, 21, 22, 23, 24, 25, 26, 27, 28, 29, 30, 31, 32] rfl)) kx_K hX.1 kw_Law_49 tw3_40 tw3_41 (va_recv (ci := 3) (q0 := 18) hX.1 hP rfl rfl) hS d_Law_law_211 ⟨⟨Nat.le_of_ble_eq_true rfl, Nat.le_of_ble_eq_true rfl⟩, hc1, hc2⟩ rfl hl.1 rfl (Nat.le_of_ble_eq_true rfl) (fun locs hS => ?_)
    refine lv_iload hx hb d_Law_law_214 (lv_at hl 0 rfl) ?_
    refine lv_icmp_eq (tgt := 221) hx hb d_Law_law_216 (by decide) (fun _ => ?_) (fun h9 => absurd y3 h9)
    refine lv_goto (tgt := 716) hx hb d_Law_law_221 (by decide) ?_
    rw [← y2 0 (by omega), ← y2 1 (by omega)] at hP hD
    exact kk f (sRepl G (xs (4 * t + 1)) (xs (4 * t + 2)) (xs (4 * t + 3))) (dChg D (xs (4 * t + 1)) (xs (4 * t + 2)) (xs (4 * t + 3))) H locs ls (y1.mono (by omega)) hP hD hS (lv_sub hl [1, 2, 3, 4, 5] rfl)

set_option maxRecDepth 100000 in
set_option maxHeartbeats 4000000 in
theorem law_look {p : Program} {l : Launch} {e : Env} {s : State} {m : MethodId} {below : List Frame} {meth : Method} {c0 : Code} {H : Heap} {locs : List Loc} {cells slots : Nat} {Q : State → Prop} {ls : Array Slot} {Dg : va_G} {a b u v d : Nat → Nat} {k : Nat → ClassId} {kl : ClassId} {ao b0 L q vB tL t : Nat} {f : Nat → Int64} {xs : Nat → Int32} {G D : vSt} (F : CallFix p m c0 code 7 s #[Value.ref b0] lw_ok "FusedEngineLaw") (hl0 : l.stackTraces = false) (hX : lF Dg k q vB tL s) (hKl : va_K Dg classes [(kl, .long)] s) (hsc : va_X b0 L xs s s.heap) (hbl : b0 < s.heap.size) (ht : 4 * t + 4 ≤ L) (hL : L ≤ 2048) (hR : Rel (12000 * t) G D)
    (hP : va_P Dg classes ((wL ao kl f ++ (wE a b u v ++ wP b k G ++ wM u k (pm 0 D) ++ wM v k (pm 1 D))) ++ wD d k D) H) (hD : va_D (lA s) ((wL ao kl f ++ (wE a b u v ++ wP b k G ++ wM u k (pm 0 D) ++ wM v k (pm 1 D))) ++ wD d k D)) (hS : va_S (lA s) s.heap H locs) (hl : lv_has ls 7 [(4, .int (nI (4 * t))), (0, .ref b0), (1, .ref (a 0)), (2, .ref (d 0)), (3, .ref ao)]) (hc1 : cells + 1 ≤ room_1.cells) (hc2 : slots + 6 ≤ room_1.slots)
    (kk : ∀ (f : Nat → Int64) (G D : vSt) (H : Heap) (locs : List Loc) (ls : Array Slot), Rel (12000 * (t + 1)) G D → va_P Dg classes ((wL ao kl f ++ (wE a b u v ++ wP b k G ++ wM u k (pm 0 D) ++ wM v k (pm 1 D))) ++ wD d k D) H → va_D (lA s) ((wL ao kl f ++ (wE a b u v ++ wP b k G ++ wM u k (pm 0 D) ++ wM v k (pm 1 D))) ++ wD d k D) → va_S (lA s) s.heap H locs → lv_has ls 7 [(4, .int (nI (4 * t))), (0, .ref b0), (1, .ref (a 0)), (2, .ref (d 0)), (3, .ref ao)] → W p l e room_1 s m #[Value.ref b0] below meth c0 H locs (cells + 1) (slots + 6) Q (F0 m 716 ls [])) : W p l e room_1 s m #[Value.ref b0] below meth c0 H locs cells slots Q (F0 m 248 ls []) := by
  obtain ⟨hx, hb, hml, hown, hT⟩ := id F
  have hbA : ¬ lA s b0 := fun w => absurd w (by show ¬ s.heap.size ≤ b0; omega)
  by_cases hh : sHas G (xs (4 * t + 1)) = 0
  · obtain ⟨hRc, hpc⟩ := hR.code (dLookC D (xs (4 * t + 1)) (xs (4 * t + 2)))
    refine lv_aload_n hx hb d_Law_law_248 rfl (lv_at hl 2 rfl) ?_
    refine lv_aload_n hx hb d_Law_law_249 rfl (lv_at hl 1 rfl) ?_
    refine lv_iload hx hb d_Law_law_250 (lv_at hl 0 rfl) ?_
    refine lv_iconst (v := 1) hx hb d_Law_law_252 (by decide) ?_
    refine lv_iadd hx hb d_Law_law_253 ?_
    rw [nI_1]
    refine va_sld hx hb hsc hbl hbA hS (vp_in_nI (n := 4 * t + 1) (by omega) (by omega)) d_Law_law_254 ?_
    rw [nI_clamp (n := 4 * t + 1) (by omega)]
    refine lv_aload_n hx hb d_Law_law_255 rfl (lv_at hl 1 rfl) ?_
    refine lv_iload hx hb d_Law_law_256 (lv_at hl 0 rfl) ?_
    refine lv_iconst (v := 2) hx hb d_Law_law_258 (by decide) ?_
    refine lv_iadd hx hb d_Law_law_259 ?_
    rw [nI_2]
    refine va_sld hx hb hsc hbl hbA hS (vp_in_nI (n := 4 * t + 2) (by omega) (by omega)) d_Law_law_260 ?_
    rw [nI_clamp (n := 4 * t + 2) (by omega)]
    refine lv_aload_n hx hb d_Law_law_261 rfl (lv_at hl 4 rfl) ?_
    refine kl_S (k := 4) (wr := wD d k D) F (e_Law_look_NS1 l hl0 Dg a b u v k G (pm 0 D) (pm 1 D) ao kl f q vB s.heap.size (xs (4 * t + 1)) (xs (4 * t + 2)) _ (hP.sub (ws' := (wL ao kl f ++ (wE a b u v ++ wP b k G ++ wM u k (pm 0 D) ++ wM v k (pm 1 D)))) [0, 1, 2, 3, 4, 5, 6, 7, 8, 9, 10, 11, 12, 13, 14, 15, 16, 17] rfl) ((hD.sub (ws' := (wL ao kl f ++ (wE a b u v ++ wP b k G ++ wM u k (pm 0 D) ++ wM v k (pm 1 D)))) [0, 1, 2, 3, 4, 5, 6, 7, 8, 9, 10, 11, 12, 13, 14, 15, 16, 17] (by decide) rfl).weaken (fun _ _ _ _ => trivial)) hh) lX_m ⟨hX.ta hS, hKl⟩ tw2_125 tw1_0 ⟨by decide, by decide⟩ (by decide +kernel) tw2_123 tw2_124 hP hD hS (fun _ h => h) [0, 1, 2, 3, 4, 5, 6, 7, 8, 9, 10, 11, 12, 13, 14, 15, 16, 17] [18, 19, 20, 21, 22, 23, 24, 25, 26, 27, 28, 29, 30, 31, 32] rfl rfl (by decide) (by decide) d_Law_law_262 ⟨⟨Nat.le_of_ble_eq_true rfl, Nat.le_of_ble_eq_true rfl⟩, hc1, hc2⟩ rfl hl.1 rfl (Nat.le_of_ble_eq_true rfl) (fun H locs hP hD hS => ?_)
    have hP : va_P Dg classes (wD d k D ++ (wL ao kl f ++ (wE a b u v ++ wP b k G ++ wM u k (pm 0 D) ++ wM v k (pm 1 D)))) H := hP
    have hD : va_D (lA s) (wD d k D ++ (wL ao kl f ++ (wE a b u v ++ wP b k G ++ wM u k (pm 0 D) ++ wM v k (pm 1 D)))) := hD
    refine lv_istore hx hb d_Law_law_265 hl (by decide) rfl (fun ls hl => ?_)
    have hl : lv_has ls 7 [(5, .int 1), (4, .int (nI (4 * t))), (0, .ref b0), (1, .ref (a 0)), (2, .ref (d 0)), (3, .ref ao)] := hl
    refine lv_aload_n hx hb d_Law_law_267 rfl (lv_at hl 4 rfl) ?_
    refine lv_aload_n hx hb d_Law_law_268 rfl (lv_at hl 2 rfl) ?_
    refine lv_iload hx hb d_Law_law_269 (lv_at hl 1 rfl) ?_
    refine lv_iconst (v := 1) hx hb d_Law_law_271 (by decide) ?_
    refine lv_iadd hx hb d_Law_law_272 ?_
    rw [nI_1]
    refine va_sld hx hb hsc hbl hbA hS (vp_in_nI (n := 4 * t + 1) (by omega) (by omega)) d_Law_law_273 ?_
    rw [nI_clamp (n := 4 * t + 1) (by omega)]
    refine lv_aload_n hx hb d_Law_law_274 rfl (lv_at hl 2 rfl) ?_
    refine lv_iload hx hb d_Law_law_275 (lv_at hl 1 rfl) ?_
    refine lv_iconst (v := 2) hx hb d_Law_law_277 (by decide) ?_
    refine lv_iadd hx hb d_Law_law_278 ?_
    rw [nI_2]
    refine va_sld hx hb hsc hbl hbA hS (vp_in_nI (n := 4 * t + 2) (by omega) (by omega)) d_Law_law_279 ?_
    rw [nI_clamp (n := 4 * t + 2) (by omega)]
    refine km_Vi (wr := (wL ao kl f ++ (wE a b u v ++ wP b k G ++ wM u k (pm 0 D) ++ wM v k (pm 1 D)))) F (c_Mod_look l Dg d k D (xs (4 * t + 1)) (xs (4 * t + 2)) _ (hP.sub (ws' := wD d k D) [0, 1, 2, 3, 4, 5, 6, 7, 8, 9, 10, 11, 12, 13, 14] rfl) ((hD.sub (ws' := wD d k D) [0, 1, 2, 3, 4, 5, 6, 7, 8, 9, 10, 11, 12, 13, 14] (by decide) rfl).weaken (fun _ _ _ _ => trivial)) (pOk_rel hR).2.1) kx_K hX.1 kw_Law_67 tw3_99 tw3_100 (va_recv (ci := 3) (q0 := 0) hX.1 hP rfl rfl) hP hD hS (fun _ h => h) [0, 1, 2, 3, 4, 5, 6, 7, 8, 9, 10, 11, 12, 13, 14] [15, 16, 17, 18, 19, 20, 21, 22, 23, 24, 25, 26, 27, 28, 29, 30, 31, 32] rfl rfl (by decide) (by decide) d_Law_law_280 ⟨⟨Nat.le_of_ble_eq_true rfl, Nat.le_of_ble_eq_true rfl⟩, hc1, hc2⟩ rfl hl.1 rfl (Nat.le_of_ble_eq_true rfl) (fun H locs hP hD hS => ?_)
    have hP : va_P Dg classes ((wL ao kl f ++ (wE a b u v ++ wP b k G ++ wM u k (pm 0 D) ++ wM v k (pm 1 D))) ++ wD d k (u2 D 14 0 (dLookC D (xs (4 * t + 1)) (xs (4 * t + 2))))) H := hP
    have hD : va_D (lA s) ((wL ao kl f ++ (wE a b u v ++ wP b k G ++ wM u k (pm 0 D) ++ wM v k (pm 1 D))) ++ wD d k (u2 D 14 0 (dLookC D (xs (4 * t + 1)) (xs (4 * t + 2))))) := hD
    refine lv_istore hx hb d_Law_law_283 hl (by decide) rfl (fun ls hl => ?_)
    have hl : lv_has ls 7 [(6, .int (dLookR D (xs (4 * t + 1)) (xs (4 * t + 2)))), (5, .int 1), (4, .int (nI (4 * t))), (0, .ref b0), (1, .ref (a 0)), (2, .ref (d 0)), (3, .ref ao)] := hl
    refine lv_aload_n hx hb d_Law_law_285 rfl (lv_at hl 5 rfl) ?_
    refine kp_V F (c_Mod_thrown l Dg d k (u2 D 14 0 (dLookC D (xs (4 * t + 1)) (xs (4 * t + 2)))) _ (hP.sub (ws' := wD d k (u2 D 14 0 (dLookC D (xs (4 * t + 1)) (xs (4 * t + 2))))) [18, 19, 20, 21, 22, 23, 24, 25, 26, 27, 28, 29, 30, 31, 32] rfl)) kx_K hX.1 kw_Law_49 tw3_40 tw3_41 (va_recv (ci := 3) (q0 := 18) hX.1 hP rfl rfl) hS d_Law_law_286 ⟨⟨Nat.le_of_ble_eq_true rfl, Nat.le_of_ble_eq_true rfl⟩, hc1, hc2⟩ rfl hl.1 rfl (Nat.le_of_ble_eq_true rfl) (fun locs hS => ?_)
    refine lv_iload hx hb d_Law_law_289 (lv_at hl 1 rfl) ?_
    refine lv_icmp_eq (tgt := 296) hx hb d_Law_law_291 (by decide) (fun _ => ?_) (fun h9 => absurd (by rw [u2_eq]; exact (look_rel hR (xs (4 * t + 1)) (xs (4 * t + 2))).1 hh) h9)
    refine lv_iload hx hb d_Law_law_296 (lv_at hl 1 rfl) ?_
    refine lv_if_ne (tgt := 313) hx hb d_Law_law_298 (by decide) (fun _ => ?_) (fun h9 => absurd h9 (by decide))
    refine lv_goto (tgt := 716) hx hb d_Law_law_313 (by decide) ?_
    rw [← hpc 0, ← hpc 1] at hP hD
    exact kk f G (u2 D 14 0 (dLookC D (xs (4 * t + 1)) (xs (4 * t + 2)))) H locs ls (hRc.mono (by omega)) hP hD hS (lv_sub hl [2, 3, 4, 5, 6] rfl)
  by_cases hw : (xs (4 * t + 2)) < 0 ∨ ¬ (xs (4 * t + 2)) ≤ 3
  · obtain ⟨hRc, hpc⟩ := hR.code (dLookC D (xs (4 * t + 1)) (xs (4 * t + 2)))
    refine lv_aload_n hx hb d_Law_law_248 rfl (lv_at hl 2 rfl) ?_
    refine lv_aload_n hx hb d_Law_law_249 rfl (lv_at hl 1 rfl) ?_
    refine lv_iload hx hb d_Law_law_250 (lv_at hl 0 rfl) ?_
    refine lv_iconst (v := 1) hx hb d_Law_law_252 (by decide) ?_
    refine lv_iadd hx hb d_Law_law_253 ?_
    rw [nI_1]
    refine va_sld hx hb hsc hbl hbA hS (vp_in_nI (n := 4 * t + 1) (by omega) (by omega)) d_Law_law_254 ?_
    rw [nI_clamp (n := 4 * t + 1) (by omega)]
    refine lv_aload_n hx hb d_Law_law_255 rfl (lv_at hl 1 rfl) ?_
    refine lv_iload hx hb d_Law_law_256 (lv_at hl 0 rfl) ?_
    refine lv_iconst (v := 2) hx hb d_Law_law_258 (by decide) ?_
    refine lv_iadd hx hb d_Law_law_259 ?_
    rw [nI_2]
    refine va_sld hx hb hsc hbl hbA hS (vp_in_nI (n := 4 * t + 2) (by omega) (by omega)) d_Law_law_260 ?_
    rw [nI_clamp (n := 4 * t + 2) (by omega)]
    refine lv_aload_n hx hb d_Law_law_261 rfl (lv_at hl 4 rfl) ?_
    refine kl_S (k := 4) (wr := wD d k D) F (e_Law_look_NS2 l hl0 Dg a b u v k G (pm 0 D) (pm 1 D) ao kl f q vB s.heap.size (xs (4 * t + 1)) (xs (4 * t + 2)) _ (hP.sub (ws' := (wL ao kl f ++ (wE a b u v ++ wP b k G ++ wM u k (pm 0 D) ++ wM v k (pm 1 D)))) [0, 1, 2, 3, 4, 5, 6, 7, 8, 9, 10, 11, 12, 13, 14, 15, 16, 17] rfl) ((hD.sub (ws' := (wL ao kl f ++ (wE a b u v ++ wP b k G ++ wM u k (pm 0 D) ++ wM v k (pm 1 D)))) [0, 1, 2, 3, 4, 5, 6, 7, 8, 9, 10, 11, 12, 13, 14, 15, 16, 17] (by decide) rfl).weaken (fun _ _ _ _ => trivial)) hh hw) lX_m ⟨hX.ta hS, hKl⟩ tw2_125 tw1_0 ⟨by decide, by decide⟩ (by decide +kernel) tw2_123 tw2_124 hP hD hS (fun _ h => h) [0, 1, 2, 3, 4, 5, 6, 7, 8, 9, 10, 11, 12, 13, 14, 15, 16, 17] [18, 19, 20, 21, 22, 23, 24, 25, 26, 27, 28, 29, 30, 31, 32] rfl rfl (by decide) (by decide) d_Law_law_262 ⟨⟨Nat.le_of_ble_eq_true rfl, Nat.le_of_ble_eq_true rfl⟩, hc1, hc2⟩ rfl hl.1 rfl (Nat.le_of_ble_eq_true rfl) (fun H locs hP hD hS => ?_)
    have hP : va_P Dg classes (wD d k D ++ (wL ao kl f ++ (wE a b u v ++ wP b k G ++ wM u k (pm 0 D) ++ wM v k (pm 1 D)))) H := hP
    have hD : va_D (lA s) (wD d k D ++ (wL ao kl f ++ (wE a b u v ++ wP b k G ++ wM u k (pm 0 D) ++ wM v k (pm 1 D)))) := hD
    refine lv_istore hx hb d_Law_law_265 hl (by decide) rfl (fun ls hl => ?_)
    have hl : lv_has ls 7 [(5, .int 1), (4, .int (nI (4 * t))), (0, .ref b0), (1, .ref (a 0)), (2, .ref (d 0)), (3, .ref ao)] := hl
    refine lv_aload_n hx hb d_Law_law_267 rfl (lv_at hl 4 rfl) ?_
    refine lv_aload_n hx hb d_Law_law_268 rfl (lv_at hl 2 rfl) ?_
    refine lv_iload hx hb d_Law_law_269 (lv_at hl 1 rfl) ?_
    refine lv_iconst (v := 1) hx hb d_Law_law_271 (by decide) ?_
    refine lv_iadd hx hb d_Law_law_272 ?_
    rw [nI_1]
    refine va_sld hx hb hsc hbl hbA hS (vp_in_nI (n := 4 * t + 1) (by omega) (by omega)) d_Law_law_273 ?_
    rw [nI_clamp (n := 4 * t + 1) (by omega)]
    refine lv_aload_n hx hb d_Law_law_274 rfl (lv_at hl 2 rfl) ?_
    refine lv_iload hx hb d_Law_law_275 (lv_at hl 1 rfl) ?_
    refine lv_iconst (v := 2) hx hb d_Law_law_277 (by decide) ?_
    refine lv_iadd hx hb d_Law_law_278 ?_
    rw [nI_2]
    refine va_sld hx hb hsc hbl hbA hS (vp_in_nI (n := 4 * t + 2) (by omega) (by omega)) d_Law_law_279 ?_
    rw [nI_clamp (n := 4 * t + 2) (by omega)]
    refine km_Vi (wr := (wL ao kl f ++ (wE a b u v ++ wP b k G ++ wM u k (pm 0 D) ++ wM v k (pm 1 D)))) F (c_Mod_look l Dg d k D (xs (4 * t + 1)) (xs (4 * t + 2)) _ (hP.sub (ws' := wD d k D) [0, 1, 2, 3, 4, 5, 6, 7, 8, 9, 10, 11, 12, 13, 14] rfl) ((hD.sub (ws' := wD d k D) [0, 1, 2, 3, 4, 5, 6, 7, 8, 9, 10, 11, 12, 13, 14] (by decide) rfl).weaken (fun _ _ _ _ => trivial)) (pOk_rel hR).2.1) kx_K hX.1 kw_Law_67 tw3_99 tw3_100 (va_recv (ci := 3) (q0 := 0) hX.1 hP rfl rfl) hP hD hS (fun _ h => h) [0, 1, 2, 3, 4, 5, 6, 7, 8, 9, 10, 11, 12, 13, 14] [15, 16, 17, 18, 19, 20, 21, 22, 23, 24, 25, 26, 27, 28, 29, 30, 31, 32] rfl rfl (by decide) (by decide) d_Law_law_280 ⟨⟨Nat.le_of_ble_eq_true rfl, Nat.le_of_ble_eq_true rfl⟩, hc1, hc2⟩ rfl hl.1 rfl (Nat.le_of_ble_eq_true rfl) (fun H locs hP hD hS => ?_)
    have hP : va_P Dg classes ((wL ao kl f ++ (wE a b u v ++ wP b k G ++ wM u k (pm 0 D) ++ wM v k (pm 1 D))) ++ wD d k (u2 D 14 0 (dLookC D (xs (4 * t + 1)) (xs (4 * t + 2))))) H := hP
    have hD : va_D (lA s) ((wL ao kl f ++ (wE a b u v ++ wP b k G ++ wM u k (pm 0 D) ++ wM v k (pm 1 D))) ++ wD d k (u2 D 14 0 (dLookC D (xs (4 * t + 1)) (xs (4 * t + 2))))) := hD
    refine lv_istore hx hb d_Law_law_283 hl (by decide) rfl (fun ls hl => ?_)
    have hl : lv_has ls 7 [(6, .int (dLookR D (xs (4 * t + 1)) (xs (4 * t + 2)))), (5, .int 1), (4, .int (nI (4 * t))), (0, .ref b0), (1, .ref (a 0)), (2, .ref (d 0)), (3, .ref ao)] := hl
    refine lv_aload_n hx hb d_Law_law_285 rfl (lv_at hl 5 rfl) ?_
    refine kp_V F (c_Mod_thrown l Dg d k (u2 D 14 0 (dLookC D (xs (4 * t + 1)) (xs (4 * t + 2)))) _ (hP.sub (ws' := wD d k (u2 D 14 0 (dLookC D (xs (4 * t + 1)) (xs (4 * t + 2))))) [18, 19, 20, 21, 22, 23, 24, 25, 26, 27, 28, 29, 30, 31, 32] rfl)) kx_K hX.1 kw_Law_49 tw3_40 tw3_41 (va_recv (ci := 3) (q0 := 18) hX.1 hP rfl rfl) hS d_Law_law_286 ⟨⟨Nat.le_of_ble_eq_true rfl, Nat.le_of_ble_eq_true rfl⟩, hc1, hc2⟩ rfl hl.1 rfl (Nat.le_of_ble_eq_true rfl) (fun locs hS => ?_)
    refine lv_iload hx hb d_Law_law_289 (lv_at hl 1 rfl) ?_
    refine lv_icmp_eq (tgt := 296) hx hb d_Law_law_291 (by decide) (fun _ => ?_) (fun h9 => absurd (by rw [u2_eq]; exact (look_rel hR (xs (4 * t + 1)) (xs (4 * t + 2))).2.1 hh hw) h9)
    refine lv_iload hx hb d_Law_law_296 (lv_at hl 1 rfl) ?_
    refine lv_if_ne (tgt := 313) hx hb d_Law_law_298 (by decide) (fun _ => ?_) (fun h9 => absurd h9 (by decide))
    refine lv_goto (tgt := 716) hx hb d_Law_law_313 (by decide) ?_
    rw [← hpc 0, ← hpc 1] at hP hD
    exact kk f G (u2 D 14 0 (dLookC D (xs (4 * t + 1)) (xs (4 * t + 2)))) H locs ls (hRc.mono (by omega)) hP hD hS (lv_sub hl [2, 3, 4, 5, 6] rfl)
  by_cases h2 : (xs (4 * t + 2)) = 2 ∧ G 5 1 = 0
  · obtain ⟨hRc, hpc⟩ := hR.code (dLookC D (xs (4 * t + 1)) (xs (4 * t + 2)))
    refine lv_aload_n hx hb d_Law_law_248 rfl (lv_at hl 2 rfl) ?_
    refine lv_aload_n hx hb d_Law_law_249 rfl (lv_at hl 1 rfl) ?_
    refine lv_iload hx hb d_Law_law_250 (lv_at hl 0 rfl) ?_
    refine lv_iconst (v := 1) hx hb d_Law_law_252 (by decide) ?_
    refine lv_iadd hx hb d_Law_law_253 ?_
    rw [nI_1]
    refine va_sld hx hb hsc hbl hbA hS (vp_in_nI (n := 4 * t + 1) (by omega) (by omega)) d_Law_law_254 ?_
    rw [nI_clamp (n := 4 * t + 1) (by omega)]
    refine lv_aload_n hx hb d_Law_law_255 rfl (lv_at hl 1 rfl) ?_
    refine lv_iload hx hb d_Law_law_256 (lv_at hl 0 rfl) ?_
    refine lv_iconst (v := 2) hx hb d_Law_law_258 (by decide) ?_
    refine lv_iadd hx hb d_Law_law_259 ?_
    rw [nI_2]
    refine va_sld hx hb hsc hbl hbA hS (vp_in_nI (n := 4 * t + 2) (by omega) (by omega)) d_Law_law_260 ?_
    rw [nI_clamp (n := 4 * t + 2) (by omega)]
    refine lv_aload_n hx hb d_Law_law_261 rfl (lv_at hl 4 rfl) ?_
    refine kl_S (k := 4) (wr := wD d k D) F (e_Law_look_NS3' l hl0 Dg a b u v k G (pm 0 D) (pm 1 D) ao kl f q vB s.heap.size (xs (4 * t + 1)) (xs (4 * t + 2)) _ (hP.sub (ws' := (wL ao kl f ++ (wE a b u v ++ wP b k G ++ wM u k (pm 0 D) ++ wM v k (pm 1 D)))) [0, 1, 2, 3, 4, 5, 6, 7, 8, 9, 10, 11, 12, 13, 14, 15, 16, 17] rfl) ((hD.sub (ws' := (wL ao kl f ++ (wE a b u v ++ wP b k G ++ wM u k (pm 0 D) ++ wM v k (pm 1 D)))) [0, 1, 2, 3, 4, 5, 6, 7, 8, 9, 10, 11, 12, 13, 14, 15, 16, 17] (by decide) rfl).weaken (fun _ _ _ _ => trivial)) hh h2.1 h2.2) lX_m ⟨hX.ta hS, hKl⟩ tw2_125 tw1_0 ⟨by decide, by decide⟩ (by decide +kernel) tw2_123 tw2_124 hP hD hS (fun _ h => h) [0, 1, 2, 3, 4, 5, 6, 7, 8, 9, 10, 11, 12, 13, 14, 15, 16, 17] [18, 19, 20, 21, 22, 23, 24, 25, 26, 27, 28, 29, 30, 31, 32] rfl rfl (by decide) (by decide) d_Law_law_262 ⟨⟨Nat.le_of_ble_eq_true rfl, Nat.le_of_ble_eq_true rfl⟩, hc1, hc2⟩ rfl hl.1 rfl (Nat.le_of_ble_eq_true rfl) (fun H locs hP hD hS => ?_)
    have hP : va_P Dg classes (wD d k D ++ (wL ao kl f ++ (wE a b u v ++ wP b k G ++ wM u k (pm 0 D) ++ wM v k (pm 1 D)))) H := hP
    have hD : va_D (lA s) (wD d k D ++ (wL ao kl f ++ (wE a b u v ++ wP b k G ++ wM u k (pm 0 D) ++ wM v k (pm 1 D)))) := hD
    refine lv_istore hx hb d_Law_law_265 hl (by decide) rfl (fun ls hl => ?_)
    have hl : lv_has ls 7 [(5, .int 1), (4, .int (nI (4 * t))), (0, .ref b0), (1, .ref (a 0)), (2, .ref (d 0)), (3, .ref ao)] := hl
    refine lv_aload_n hx hb d_Law_law_267 rfl (lv_at hl 4 rfl) ?_
    refine lv_aload_n hx hb d_Law_law_268 rfl (lv_at hl 2 rfl) ?_
    refine lv_iload hx hb d_Law_law_269 (lv_at hl 1 rfl) ?_
    refine lv_iconst (v := 1) hx hb d_Law_law_271 (by decide) ?_
    refine lv_iadd hx hb d_Law_law_272 ?_
    rw [nI_1]
    refine va_sld hx hb hsc hbl hbA hS (vp_in_nI (n := 4 * t + 1) (by omega) (by omega)) d_Law_law_273 ?_
    rw [nI_clamp (n := 4 * t + 1) (by omega)]
    refine lv_aload_n hx hb d_Law_law_274 rfl (lv_at hl 2 rfl) ?_
    refine lv_iload hx hb d_Law_law_275 (lv_at hl 1 rfl) ?_
    refine lv_iconst (v := 2) hx hb d_Law_law_277 (by decide) ?_
    refine lv_iadd hx hb d_Law_law_278 ?_
    rw [nI_2]
    refine va_sld hx hb hsc hbl hbA hS (vp_in_nI (n := 4 * t + 2) (by omega) (by omega)) d_Law_law_279 ?_
    rw [nI_clamp (n := 4 * t + 2) (by omega)]
    refine km_Vi (wr := (wL ao kl f ++ (wE a b u v ++ wP b k G ++ wM u k (pm 0 D) ++ wM v k (pm 1 D)))) F (c_Mod_look l Dg d k D (xs (4 * t + 1)) (xs (4 * t + 2)) _ (hP.sub (ws' := wD d k D) [0, 1, 2, 3, 4, 5, 6, 7, 8, 9, 10, 11, 12, 13, 14] rfl) ((hD.sub (ws' := wD d k D) [0, 1, 2, 3, 4, 5, 6, 7, 8, 9, 10, 11, 12, 13, 14] (by decide) rfl).weaken (fun _ _ _ _ => trivial)) (pOk_rel hR).2.1) kx_K hX.1 kw_Law_67 tw3_99 tw3_100 (va_recv (ci := 3) (q0 := 0) hX.1 hP rfl rfl) hP hD hS (fun _ h => h) [0, 1, 2, 3, 4, 5, 6, 7, 8, 9, 10, 11, 12, 13, 14] [15, 16, 17, 18, 19, 20, 21, 22, 23, 24, 25, 26, 27, 28, 29, 30, 31, 32] rfl rfl (by decide) (by decide) d_Law_law_280 ⟨⟨Nat.le_of_ble_eq_true rfl, Nat.le_of_ble_eq_true rfl⟩, hc1, hc2⟩ rfl hl.1 rfl (Nat.le_of_ble_eq_true rfl) (fun H locs hP hD hS => ?_)
    have hP : va_P Dg classes ((wL ao kl f ++ (wE a b u v ++ wP b k G ++ wM u k (pm 0 D) ++ wM v k (pm 1 D))) ++ wD d k (u2 D 14 0 (dLookC D (xs (4 * t + 1)) (xs (4 * t + 2))))) H := hP
    have hD : va_D (lA s) ((wL ao kl f ++ (wE a b u v ++ wP b k G ++ wM u k (pm 0 D) ++ wM v k (pm 1 D))) ++ wD d k (u2 D 14 0 (dLookC D (xs (4 * t + 1)) (xs (4 * t + 2))))) := hD
    refine lv_istore hx hb d_Law_law_283 hl (by decide) rfl (fun ls hl => ?_)
    have hl : lv_has ls 7 [(6, .int (dLookR D (xs (4 * t + 1)) (xs (4 * t + 2)))), (5, .int 1), (4, .int (nI (4 * t))), (0, .ref b0), (1, .ref (a 0)), (2, .ref (d 0)), (3, .ref ao)] := hl
    refine lv_aload_n hx hb d_Law_law_285 rfl (lv_at hl 5 rfl) ?_
    refine kp_V F (c_Mod_thrown l Dg d k (u2 D 14 0 (dLookC D (xs (4 * t + 1)) (xs (4 * t + 2)))) _ (hP.sub (ws' := wD d k (u2 D 14 0 (dLookC D (xs (4 * t + 1)) (xs (4 * t + 2))))) [18, 19, 20, 21, 22, 23, 24, 25, 26, 27, 28, 29, 30, 31, 32] rfl)) kx_K hX.1 kw_Law_49 tw3_40 tw3_41 (va_recv (ci := 3) (q0 := 18) hX.1 hP rfl rfl) hS d_Law_law_286 ⟨⟨Nat.le_of_ble_eq_true rfl, Nat.le_of_ble_eq_true rfl⟩, hc1, hc2⟩ rfl hl.1 rfl (Nat.le_of_ble_eq_true rfl) (fun locs hS => ?_)
    refine lv_iload hx hb d_Law_law_289 (lv_at hl 1 rfl) ?_
    refine lv_icmp_eq (tgt := 296) hx hb d_Law_law_291 (by decide) (fun _ => ?_) (fun h9 => absurd (by rw [u2_eq]; exact (look_rel hR (xs (4 * t + 1)) (xs (4 * t + 2))).2.2.1 hh h2.1 h2.2) h9)
    refine lv_iload hx hb d_Law_law_296 (lv_at hl 1 rfl) ?_
    refine lv_if_ne (tgt := 313) hx hb d_Law_law_298 (by decide) (fun _ => ?_) (fun h9 => absurd h9 (by decide))
    refine lv_goto (tgt := 716) hx hb d_Law_law_313 (by decide) ?_
    rw [← hpc 0, ← hpc 1] at hP hD
    exact kk f G (u2 D 14 0 (dLookC D (xs (4 * t + 1)) (xs (4 * t + 2)))) H locs ls (hRc.mono (by omega)) hP hD hS (lv_sub hl [2, 3, 4, 5, 6] rfl)
  · obtain ⟨hRc, hpc⟩ := hR.code (dLookC D (xs (4 * t + 1)) (xs (4 * t + 2)))
    have y0 := (look_rel hR (xs (4 * t + 1)) (xs (4 * t + 2))).2.2.2 hh (fun w => hw (Or.inl w)) (Decidable.byContradiction (fun w => hw (Or.inr w))) (fun w1 w2 => h2 ⟨w1, w2⟩)
    refine lv_aload_n hx hb d_Law_law_248 rfl (lv_at hl 2 rfl) ?_
    refine lv_aload_n hx hb d_Law_law_249 rfl (lv_at hl 1 rfl) ?_
    refine lv_iload hx hb d_Law_law_250 (lv_at hl 0 rfl) ?_
    refine lv_iconst (v := 1) hx hb d_Law_law_252 (by decide) ?_
    refine lv_iadd hx hb d_Law_law_253 ?_
    rw [nI_1]
    refine va_sld hx hb hsc hbl hbA hS (vp_in_nI (n := 4 * t + 1) (by omega) (by omega)) d_Law_law_254 ?_
    rw [nI_clamp (n := 4 * t + 1) (by omega)]
    refine lv_aload_n hx hb d_Law_law_255 rfl (lv_at hl 1 rfl) ?_
    refine lv_iload hx hb d_Law_law_256 (lv_at hl 0 rfl) ?_
    refine lv_iconst (v := 2) hx hb d_Law_law_258 (by decide) ?_
    refine lv_iadd hx hb d_Law_law_259 ?_
    rw [nI_2]
    refine va_sld hx hb hsc hbl hbA hS (vp_in_nI (n := 4 * t + 2) (by omega) (by omega)) d_Law_law_260 ?_
    rw [nI_clamp (n := 4 * t + 2) (by omega)]
    refine lv_aload_n hx hb d_Law_law_261 rfl (lv_at hl 4 rfl) ?_
    refine kl_S (k := 4) (wr := wD d k D) F (n_Law_look l Dg a b u v k G (pm 0 D) (pm 1 D) ao kl f q vB s.heap.size (xs (4 * t + 1)) (xs (4 * t + 2)) _ (hP.sub (ws' := (wL ao kl f ++ (wE a b u v ++ wP b k G ++ wM u k (pm 0 D) ++ wM v k (pm 1 D)))) [0, 1, 2, 3, 4, 5, 6, 7, 8, 9, 10, 11, 12, 13, 14, 15, 16, 17] rfl) ((hD.sub (ws' := (wL ao kl f ++ (wE a b u v ++ wP b k G ++ wM u k (pm 0 D) ++ wM v k (pm 1 D)))) [0, 1, 2, 3, 4, 5, 6, 7, 8, 9, 10, 11, 12, 13, 14, 15, 16, 17] (by decide) rfl).weaken (fun _ _ _ _ => trivial)) hh (fun w => hw (Or.inl w)) (Decidable.byContradiction (fun w => hw (Or.inr w))) (fun w1 w2 => h2 ⟨w1, w2⟩) (pOk_rel hR).1) lX_m ⟨hX.ta hS, hKl⟩ tw2_125 tw1_0 ⟨by decide, by decide⟩ (by decide +kernel) tw2_123 tw2_124 hP hD hS (fun _ h => h) [0, 1, 2, 3, 4, 5, 6, 7, 8, 9, 10, 11, 12, 13, 14, 15, 16, 17] [18, 19, 20, 21, 22, 23, 24, 25, 26, 27, 28, 29, 30, 31, 32] rfl rfl (by decide) (by decide) d_Law_law_262 ⟨⟨Nat.le_of_ble_eq_true rfl, Nat.le_of_ble_eq_true rfl⟩, hc1, hc2⟩ rfl hl.1 rfl (Nat.le_of_ble_eq_true rfl) (fun H locs hP hD hS => ?_)
    have hP : va_P Dg classes (wD d k D ++ (wL ao kl (vp_updL f 0 (Int32.toInt64 (sPFact G (xs (4 * t + 1)) (xs (4 * t + 2))))) ++ (wE a b u v ++ wP b k G ++ wM u k (pm 0 D) ++ wM v k (pm 1 D)))) H := hP
    have hD : va_D (lA s) (wD d k D ++ (wL ao kl (vp_updL f 0 (Int32.toInt64 (sPFact G (xs (4 * t + 1)) (xs (4 * t + 2))))) ++ (wE a b u v ++ wP b k G ++ wM u k (pm 0 D) ++ wM v k (pm 1 D)))) := hD
    refine lv_istore hx hb d_Law_law_265 hl (by decide) rfl (fun ls hl => ?_)
    have hl : lv_has ls 7 [(5, .int 0), (4, .int (nI (4 * t))), (0, .ref b0), (1, .ref (a 0)), (2, .ref (d 0)), (3, .ref ao)] := hl
    refine lv_aload_n hx hb d_Law_law_267 rfl (lv_at hl 4 rfl) ?_
    refine lv_aload_n hx hb d_Law_law_268 rfl (lv_at hl 2 rfl) ?_
    refine lv_iload hx hb d_Law_law_269 (lv_at hl 1 rfl) ?_
    refine lv_iconst (v := 1) hx hb d_Law_law_271 (by decide) ?_
    refine lv_iadd hx hb d_Law_law_272 ?_
    rw [nI_1]
    refine va_sld hx hb hsc hbl hbA hS (vp_in_nI (n := 4 * t + 1) (by omega) (by omega)) d_Law_law_273 ?_
    rw [nI_clamp (n := 4 * t + 1) (by omega)]
    refine lv_aload_n hx hb d_Law_law_274 rfl (lv_at hl 2 rfl) ?_
    refine lv_iload hx hb d_Law_law_275 (lv_at hl 1 rfl) ?_
    refine lv_iconst (v := 2) hx hb d_Law_law_277 (by decide) ?_
    refine lv_iadd hx hb d_Law_law_278 ?_
    rw [nI_2]
    refine va_sld hx hb hsc hbl hbA hS (vp_in_nI (n := 4 * t + 2) (by omega) (by omega)) d_Law_law_279 ?_
    rw [nI_clamp (n := 4 * t + 2) (by omega)]
    refine km_Vi (wr := (wL ao kl (vp_updL f 0 (Int32.toInt64 (sPFact G (xs (4 * t + 1)) (xs (4 * t + 2))))) ++ (wE a b u v ++ wP b k G ++ wM u k (pm 0 D) ++ wM v k (pm 1 D)))) F (c_Mod_look l Dg d k D (xs (4 * t + 1)) (xs (4 * t + 2)) _ (hP.sub (ws' := wD d k D) [0, 1, 2, 3, 4, 5, 6, 7, 8, 9, 10, 11, 12, 13, 14] rfl) ((hD.sub (ws' := wD d k D) [0, 1, 2, 3, 4, 5, 6, 7, 8, 9, 10, 11, 12, 13, 14] (by decide) rfl).weaken (fun _ _ _ _ => trivial)) (pOk_rel hR).2.1) kx_K hX.1 kw_Law_67 tw3_99 tw3_100 (va_recv (ci := 3) (q0 := 0) hX.1 hP rfl rfl) hP hD hS (fun _ h => h) [0, 1, 2, 3, 4, 5, 6, 7, 8, 9, 10, 11, 12, 13, 14] [15, 16, 17, 18, 19, 20, 21, 22, 23, 24, 25, 26, 27, 28, 29, 30, 31, 32] rfl rfl (by decide) (by decide) d_Law_law_280 ⟨⟨Nat.le_of_ble_eq_true rfl, Nat.le_of_ble_eq_true rfl⟩, hc1, hc2⟩ rfl hl.1 rfl (Nat.le_of_ble_eq_true rfl) (fun H locs hP hD hS => ?_)
    have hP : va_P Dg classes ((wL ao kl (vp_updL f 0 (Int32.toInt64 (sPFact G (xs (4 * t + 1)) (xs (4 * t + 2))))) ++ (wE a b u v ++ wP b k G ++ wM u k (pm 0 D) ++ wM v k (pm 1 D))) ++ wD d k (u2 D 14 0 (dLookC D (xs (4 * t + 1)) (xs (4 * t + 2))))) H := hP
    have hD : va_D (lA s) ((wL ao kl (vp_updL f 0 (Int32.toInt64 (sPFact G (xs (4 * t + 1)) (xs (4 * t + 2))))) ++ (wE a b u v ++ wP b k G ++ wM u k (pm 0 D) ++ wM v k (pm 1 D))) ++ wD d k (u2 D 14 0 (dLookC D (xs (4 * t + 1)) (xs (4 * t + 2))))) := hD
    refine lv_istore hx hb d_Law_law_283 hl (by decide) rfl (fun ls hl => ?_)
    have hl : lv_has ls 7 [(6, .int (dLookR D (xs (4 * t + 1)) (xs (4 * t + 2)))), (5, .int 0), (4, .int (nI (4 * t))), (0, .ref b0), (1, .ref (a 0)), (2, .ref (d 0)), (3, .ref ao)] := hl
    refine lv_aload_n hx hb d_Law_law_285 rfl (lv_at hl 5 rfl) ?_
    refine kp_V F (c_Mod_thrown l Dg d k (u2 D 14 0 (dLookC D (xs (4 * t + 1)) (xs (4 * t + 2)))) _ (hP.sub (ws' := wD d k (u2 D 14 0 (dLookC D (xs (4 * t + 1)) (xs (4 * t + 2))))) [18, 19, 20, 21, 22, 23, 24, 25, 26, 27, 28, 29, 30, 31, 32] rfl)) kx_K hX.1 kw_Law_49 tw3_40 tw3_41 (va_recv (ci := 3) (q0 := 18) hX.1 hP rfl rfl) hS d_Law_law_286 ⟨⟨Nat.le_of_ble_eq_true rfl, Nat.le_of_ble_eq_true rfl⟩, hc1, hc2⟩ rfl hl.1 rfl (Nat.le_of_ble_eq_true rfl) (fun locs hS => ?_)
    refine lv_iload hx hb d_Law_law_289 (lv_at hl 1 rfl) ?_
    refine lv_icmp_eq (tgt := 296) hx hb d_Law_law_291 (by decide) (fun _ => ?_) (fun h9 => absurd (by rw [u2_eq]; exact y0.1) h9)
    refine lv_iload hx hb d_Law_law_296 (lv_at hl 1 rfl) ?_
    refine lv_if_ne (tgt := 313) hx hb d_Law_law_298 (by decide) (fun h9 => absurd rfl h9) (fun _ => ?_)
    refine lv_aload_n hx hb d_Law_law_301 rfl (lv_at hl 6 rfl) ?_
    refine lv_iconst (v := 0) hx hb d_Law_law_302 (by decide) ?_
    refine va_lald hx hb hKl hP 0 0 rfl rfl (by unfold vp_in; decide) d_Law_law_303 ?_
    rw [show (vp_updL f 0 (Int32.toInt64 (sPFact G (xs (4 * t + 1)) (xs (4 * t + 2))))) (Int32.toNatClampNeg 0) = Int32.toInt64 (sPFact G (xs (4 * t + 1)) (xs (4 * t + 2))) from if_pos rfl]
    refine lv_iload hx hb d_Law_law_304 (lv_at hl 0 rfl) ?_
    rw [y0.2]
    refine lv_i2l hx hb d_Law_law_306 rfl ?_
    refine W.lcmp hx hb d_Law_law_307 ?_
    rw [lcmp_0]
    refine lv_if_eq (tgt := 313) hx hb d_Law_law_308 (by decide) (fun _ => ?_) (fun h9 => absurd rfl h9)
    refine lv_goto (tgt := 716) hx hb d_Law_law_313 (by decide) ?_
    rw [← hpc 0, ← hpc 1] at hP hD
    exact kk (vp_updL f 0 (Int32.toInt64 (sPFact G (xs (4 * t + 1)) (xs (4 * t + 2))))) G (u2 D 14 0 (dLookC D (xs (4 * t + 1)) (xs (4 * t + 2)))) H locs ls (hRc.mono (by omega)) hP hD hS (lv_sub hl [2, 3, 4, 5, 6] rfl)

set_option maxRecDepth 100000 in
set_option maxHeartbeats 4000000 in
theorem law_run {p : Program} {l : Launch} {e : Env} {s : State} {m : MethodId} {below : List Frame} {meth : Method} {c0 : Code} {H : Heap} {locs : List Loc} {cells slots : Nat} {Q : State → Prop} {ls : Array Slot} {Dg : va_G} {a b u v d : Nat → Nat} {k : Nat → ClassId} {kl : ClassId} {ao b0 L q vB tL t : Nat} {f : Nat → Int64} {xs : Nat → Int32} {G D : vSt} (F : CallFix p m c0 code 7 s #[Value.ref b0] lw_ok "FusedEngineLaw") (hl0 : l.stackTraces = false) (hX : lF Dg k q vB tL s) (hKl : va_K Dg classes [(kl, .long)] s) (hsc : va_X b0 L xs s s.heap) (hbl : b0 < s.heap.size) (ht : 4 * t + 4 ≤ L) (hL : L ≤ 2048) (hR : Rel (12000 * t) G D)
    (hP : va_P Dg classes ((wL ao kl f ++ (wE a b u v ++ wP b k G ++ wM u k (pm 0 D) ++ wM v k (pm 1 D))) ++ wD d k D) H) (hD : va_D (lA s) ((wL ao kl f ++ (wE a b u v ++ wP b k G ++ wM u k (pm 0 D) ++ wM v k (pm 1 D))) ++ wD d k D)) (hS : va_S (lA s) s.heap H locs) (hl : lv_has ls 7 [(4, .int (nI (4 * t))), (0, .ref b0), (1, .ref (a 0)), (2, .ref (d 0)), (3, .ref ao)]) (hc1 : cells + 1 ≤ room_1.cells) (hc2 : slots + 6 ≤ room_1.slots)
    (kk : ∀ (f : Nat → Int64) (G D : vSt) (H : Heap) (locs : List Loc) (ls : Array Slot), Rel (12000 * (t + 1)) G D → va_P Dg classes ((wL ao kl f ++ (wE a b u v ++ wP b k G ++ wM u k (pm 0 D) ++ wM v k (pm 1 D))) ++ wD d k D) H → va_D (lA s) ((wL ao kl f ++ (wE a b u v ++ wP b k G ++ wM u k (pm 0 D) ++ wM v k (pm 1 D))) ++ wD d k D) → va_S (lA s) s.heap H locs → lv_has ls 7 [(4, .int (nI (4 * t))), (0, .ref b0), (1, .ref (a 0)), (2, .ref (d 0)), (3, .ref ao)] → W p l e room_1 s m #[Value.ref b0] below meth c0 H locs (cells + 1) (slots + 6) Q (F0 m 716 ls [])) : W p l e room_1 s m #[Value.ref b0] below meth c0 H locs cells slots Q (F0 m 316 ls []) := by
  obtain ⟨hx, hb, hml, hown, hT⟩ := id F
  have hbA : ¬ lA s b0 := fun w => absurd w (by show ¬ s.heap.size ≤ b0; omega)
  by_cases hz : (xs (4 * t + 1)) = 0
  · skip
    obtain ⟨y1, y2, y3, y4, y5, y6, y7⟩ := run_all (zz := (0 : Int32)) (xs (4 * t + 2)) hR (by omega) (Or.inl rfl)
    refine lv_aload_n hx hb d_Law_law_316 rfl (lv_at hl 2 rfl) ?_
    refine lv_aload_n hx hb d_Law_law_317 rfl (lv_at hl 1 rfl) ?_
    refine lv_iload hx hb d_Law_law_318 (lv_at hl 0 rfl) ?_
    refine lv_iconst (v := 1) hx hb d_Law_law_320 (by decide) ?_
    refine lv_iadd hx hb d_Law_law_321 ?_
    rw [nI_1]
    refine va_sld hx hb hsc hbl hbA hS (vp_in_nI (n := 4 * t + 1) (by omega) (by omega)) d_Law_law_322 ?_
    rw [nI_clamp (n := 4 * t + 1) (by omega)]
    refine lv_if_eq (tgt := 330) hx hb d_Law_law_323 (by decide) (fun _ => ?_) (fun h9 => absurd hz h9)
    refine lv_iconst (v := 0) hx hb d_Law_law_330 (by decide) ?_
    refine lv_aload_n hx hb d_Law_law_331 rfl (lv_at hl 1 rfl) ?_
    refine lv_iload hx hb d_Law_law_332 (lv_at hl 0 rfl) ?_
    refine lv_iconst (v := 2) hx hb d_Law_law_334 (by decide) ?_
    refine lv_iadd hx hb d_Law_law_335 ?_
    rw [nI_2]
    refine va_sld hx hb hsc hbl hbA hS (vp_in_nI (n := 4 * t + 2) (by omega) (by omega)) d_Law_law_336 ?_
    rw [nI_clamp (n := 4 * t + 2) (by omega)]
    refine lv_aload_n hx hb d_Law_law_337 rfl (lv_at hl 4 rfl) ?_
    refine kl_S (k := 4) (wr := wD d k D) F (n_Law_run l Dg a b u v k G (pm 0 D) (pm 1 D) ao kl f q vB s.heap.size (0 : Int32) (xs (4 * t + 2)) _ (hP.sub (ws' := (wL ao kl f ++ (wE a b u v ++ wP b k G ++ wM u k (pm 0 D) ++ wM v k (pm 1 D)))) [0, 1, 2, 3, 4, 5, 6, 7, 8, 9, 10, 11, 12, 13, 14, 15, 16, 17] rfl) ((hD.sub (ws' := (wL ao kl f ++ (wE a b u v ++ wP b k G ++ wM u k (pm 0 D) ++ wM v k (pm 1 D)))) [0, 1, 2, 3, 4, 5, 6, 7, 8, 9, 10, 11, 12, 13, 14, 15, 16, 17] (by decide) rfl).weaken (fun _ _ _ _ => trivial)) (Or.inl rfl) y1) lX_m ⟨hX.ta hS, hKl⟩ tw2_138 tw1_0 ⟨by decide, by decide⟩ (by decide +kernel) tw2_136 tw2_137 hP hD hS (fun _ h => h) [0, 1, 2, 3, 4, 5, 6, 7, 8, 9, 10, 11, 12, 13, 14, 15, 16, 17] [18, 19, 20, 21, 22, 23, 24, 25, 26, 27, 28, 29, 30, 31, 32] rfl rfl (by decide) (by decide) d_Law_law_338 ⟨⟨Nat.le_of_ble_eq_true rfl, Nat.le_of_ble_eq_true rfl⟩, hc1, hc2⟩ rfl hl.1 rfl (Nat.le_of_ble_eq_true rfl) (fun H locs hP hD hS => ?_)
    have hP : va_P Dg classes (wD d k D ++ (wL ao kl (vp_updL f 0 (Int32.toInt64 (sRunR G (if (0 : Int32) = 0 then (pm 0 D) else (pm 1 D)) (0 : Int32) (xs (4 * t + 2))))) ++ (wE a b u v ++ wP b k G ++ wM u k (if (0 : Int32) = 0 then sRunM G (pm 0 D) (0 : Int32) (xs (4 * t + 2)) else (pm 0 D)) ++ wM v k (if (0 : Int32) = 0 then (pm 1 D) else sRunM G (pm 1 D) (0 : Int32) (xs (4 * t + 2)))))) H := hP
    have hD : va_D (lA s) (wD d k D ++ (wL ao kl (vp_updL f 0 (Int32.toInt64 (sRunR G (if (0 : Int32) = 0 then (pm 0 D) else (pm 1 D)) (0 : Int32) (xs (4 * t + 2))))) ++ (wE a b u v ++ wP b k G ++ wM u k (if (0 : Int32) = 0 then sRunM G (pm 0 D) (0 : Int32) (xs (4 * t + 2)) else (pm 0 D)) ++ wM v k (if (0 : Int32) = 0 then (pm 1 D) else sRunM G (pm 1 D) (0 : Int32) (xs (4 * t + 2)))))) := hD
    refine lv_istore hx hb d_Law_law_341 hl (by decide) rfl (fun ls hl => ?_)
    have hl : lv_has ls 7 [(5, .int 0), (4, .int (nI (4 * t))), (0, .ref b0), (1, .ref (a 0)), (2, .ref (d 0)), (3, .ref ao)] := hl
    refine lv_aload_n hx hb d_Law_law_343 rfl (lv_at hl 4 rfl) ?_
    refine lv_aload_n hx hb d_Law_law_344 rfl (lv_at hl 2 rfl) ?_
    refine lv_iload hx hb d_Law_law_345 (lv_at hl 1 rfl) ?_
    refine lv_iconst (v := 1) hx hb d_Law_law_347 (by decide) ?_
    refine lv_iadd hx hb d_Law_law_348 ?_
    rw [nI_1]
    refine va_sld hx hb hsc hbl hbA hS (vp_in_nI (n := 4 * t + 1) (by omega) (by omega)) d_Law_law_349 ?_
    rw [nI_clamp (n := 4 * t + 1) (by omega)]
    refine lv_if_eq (tgt := 357) hx hb d_Law_law_350 (by decide) (fun _ => ?_) (fun h9 => absurd hz h9)
    refine lv_iconst (v := 0) hx hb d_Law_law_357 (by decide) ?_
    refine lv_aload_n hx hb d_Law_law_358 rfl (lv_at hl 2 rfl) ?_
    refine lv_iload hx hb d_Law_law_359 (lv_at hl 1 rfl) ?_
    refine lv_iconst (v := 2) hx hb d_Law_law_361 (by decide) ?_
    refine lv_iadd hx hb d_Law_law_362 ?_
    rw [nI_2]
    refine va_sld hx hb hsc hbl hbA hS (vp_in_nI (n := 4 * t + 2) (by omega) (by omega)) d_Law_law_363 ?_
    rw [nI_clamp (n := 4 * t + 2) (by omega)]
    refine km_Vi (wr := (wL ao kl (vp_updL f 0 (Int32.toInt64 (sRunR G (if (0 : Int32) = 0 then (pm 0 D) else (pm 1 D)) (0 : Int32) (xs (4 * t + 2))))) ++ (wE a b u v ++ wP b k G ++ wM u k (if (0 : Int32) = 0 then sRunM G (pm 0 D) (0 : Int32) (xs (4 * t + 2)) else (pm 0 D)) ++ wM v k (if (0 : Int32) = 0 then (pm 1 D) else sRunM G (pm 1 D) (0 : Int32) (xs (4 * t + 2)))))) F (c_Mod_run l Dg d k D (0 : Int32) (xs (4 * t + 2)) _ (hP.sub (ws' := wD d k D) [0, 1, 2, 3, 4, 5, 6, 7, 8, 9, 10, 11, 12, 13, 14] rfl) ((hD.sub (ws' := wD d k D) [0, 1, 2, 3, 4, 5, 6, 7, 8, 9, 10, 11, 12, 13, 14] (by decide) rfl).weaken (fun _ _ _ _ => trivial)) (Or.inl rfl) y2) kx_K hX.1 kw_Law_71 tw3_107 tw3_108 (va_recv (ci := 3) (q0 := 0) hX.1 hP rfl rfl) hP hD hS (fun _ h => h) [0, 1, 2, 3, 4, 5, 6, 7, 8, 9, 10, 11, 12, 13, 14] [15, 16, 17, 18, 19, 20, 21, 22, 23, 24, 25, 26, 27, 28, 29, 30, 31, 32] rfl rfl (by decide) (by decide) d_Law_law_364 ⟨⟨Nat.le_of_ble_eq_true rfl, Nat.le_of_ble_eq_true rfl⟩, hc1, hc2⟩ rfl hl.1 rfl (Nat.le_of_ble_eq_true rfl) (fun H locs hP hD hS => ?_)
    have hP : va_P Dg classes ((wL ao kl (vp_updL f 0 (Int32.toInt64 (sRunR G (if (0 : Int32) = 0 then (pm 0 D) else (pm 1 D)) (0 : Int32) (xs (4 * t + 2))))) ++ (wE a b u v ++ wP b k G ++ wM u k (if (0 : Int32) = 0 then sRunM G (pm 0 D) (0 : Int32) (xs (4 * t + 2)) else (pm 0 D)) ++ wM v k (if (0 : Int32) = 0 then (pm 1 D) else sRunM G (pm 1 D) (0 : Int32) (xs (4 * t + 2))))) ++ wD d k (dRunM D (0 : Int32) (xs (4 * t + 2)))) H := hP
    have hD : va_D (lA s) ((wL ao kl (vp_updL f 0 (Int32.toInt64 (sRunR G (if (0 : Int32) = 0 then (pm 0 D) else (pm 1 D)) (0 : Int32) (xs (4 * t + 2))))) ++ (wE a b u v ++ wP b k G ++ wM u k (if (0 : Int32) = 0 then sRunM G (pm 0 D) (0 : Int32) (xs (4 * t + 2)) else (pm 0 D)) ++ wM v k (if (0 : Int32) = 0 then (pm 1 D) else sRunM G (pm 1 D) (0 : Int32) (xs (4 * t + 2))))) ++ wD d k (dRunM D (0 : Int32) (xs (4 * t + 2)))) := hD
    refine lv_istore hx hb d_Law_law_367 hl (by decide) rfl (fun ls hl => ?_)
    have hl : lv_has ls 7 [(6, .int (dRunR D (0 : Int32) (xs (4 * t + 2)))), (5, .int 0), (4, .int (nI (4 * t))), (0, .ref b0), (1, .ref (a 0)), (2, .ref (d 0)), (3, .ref ao)] := hl
    refine lv_aload_n hx hb d_Law_law_369 rfl (lv_at hl 5 rfl) ?_
    refine kp_V F (c_Mod_thrown l Dg d k (dRunM D (0 : Int32) (xs (4 * t + 2))) _ (hP.sub (ws' := wD d k (dRunM D (0 : Int32) (xs (4 * t + 2)))) [18, 19, 20, 21, 22, 23, 24, 25, 26, 27, 28, 29, 30, 31, 32] rfl)) kx_K hX.1 kw_Law_49 tw3_40 tw3_41 (va_recv (ci := 3) (q0 := 18) hX.1 hP rfl rfl) hS d_Law_law_370 ⟨⟨Nat.le_of_ble_eq_true rfl, Nat.le_of_ble_eq_true rfl⟩, hc1, hc2⟩ rfl hl.1 rfl (Nat.le_of_ble_eq_true rfl) (fun locs hS => ?_)
    refine lv_iload hx hb d_Law_law_373 (lv_at hl 1 rfl) ?_
    refine lv_icmp_eq (tgt := 380) hx hb d_Law_law_375 (by decide) (fun _ => ?_) (fun h9 => absurd y7 h9)
    refine lv_iload hx hb d_Law_law_380 (lv_at hl 1 rfl) ?_
    refine lv_if_ne (tgt := 397) hx hb d_Law_law_382 (by decide) (fun h9 => absurd rfl h9) (fun _ => ?_)
    refine lv_aload_n hx hb d_Law_law_385 rfl (lv_at hl 6 rfl) ?_
    refine lv_iconst (v := 0) hx hb d_Law_law_386 (by decide) ?_
    refine va_lald hx hb hKl hP 0 0 rfl rfl (by unfold vp_in; decide) d_Law_law_387 ?_
    rw [show (vp_updL f 0 (Int32.toInt64 (sRunR G (if (0 : Int32) = 0 then (pm 0 D) else (pm 1 D)) (0 : Int32) (xs (4 * t + 2))))) (Int32.toNatClampNeg 0) = Int32.toInt64 (sRunR G (if (0 : Int32) = 0 then (pm 0 D) else (pm 1 D)) (0 : Int32) (xs (4 * t + 2))) from if_pos rfl]
    refine lv_iload hx hb d_Law_law_388 (lv_at hl 0 rfl) ?_
    rw [y3]
    refine lv_i2l hx hb d_Law_law_390 rfl ?_
    refine W.lcmp hx hb d_Law_law_391 ?_
    rw [lcmp_0]
    refine lv_if_eq (tgt := 397) hx hb d_Law_law_392 (by decide) (fun _ => ?_) (fun h9 => absurd rfl h9)
    refine lv_goto (tgt := 716) hx hb d_Law_law_397 (by decide) ?_
    rw [← y5, ← y6] at hP hD
    exact kk (vp_updL f 0 (Int32.toInt64 (sRunR G (if (0 : Int32) = 0 then (pm 0 D) else (pm 1 D)) (0 : Int32) (xs (4 * t + 2))))) G (dRunM D (0 : Int32) (xs (4 * t + 2))) H locs ls (y4.mono (by omega)) hP hD hS (lv_sub hl [2, 3, 4, 5, 6] rfl)
  · by_cases hf : G 5 1 = 0
    · have hN : (dRunM D (1 : Int32) (xs (4 * t + 2))) = u2 D 14 0 1 := by unfold dRunM; rw [show dRunC D 1 = 1 by unfold dRunC; rw [if_neg (by decide), if_pos (by rw [fused_rel hR]; exact hf)], if_neg (by decide)]
      obtain ⟨hRc, hpc⟩ := hR.code 1
      refine lv_aload_n hx hb d_Law_law_316 rfl (lv_at hl 2 rfl) ?_
      refine lv_aload_n hx hb d_Law_law_317 rfl (lv_at hl 1 rfl) ?_
      refine lv_iload hx hb d_Law_law_318 (lv_at hl 0 rfl) ?_
      refine lv_iconst (v := 1) hx hb d_Law_law_320 (by decide) ?_
      refine lv_iadd hx hb d_Law_law_321 ?_
      rw [nI_1]
      refine va_sld hx hb hsc hbl hbA hS (vp_in_nI (n := 4 * t + 1) (by omega) (by omega)) d_Law_law_322 ?_
      rw [nI_clamp (n := 4 * t + 1) (by omega)]
      refine lv_if_eq (tgt := 330) hx hb d_Law_law_323 (by decide) (fun h9 => absurd h9 hz) (fun _ => ?_)
      refine lv_iconst (v := 1) hx hb d_Law_law_326 (by decide) ?_
      refine lv_goto (tgt := 331) hx hb d_Law_law_327 (by decide) ?_
      refine lv_aload_n hx hb d_Law_law_331 rfl (lv_at hl 1 rfl) ?_
      refine lv_iload hx hb d_Law_law_332 (lv_at hl 0 rfl) ?_
      refine lv_iconst (v := 2) hx hb d_Law_law_334 (by decide) ?_
      refine lv_iadd hx hb d_Law_law_335 ?_
      rw [nI_2]
      refine va_sld hx hb hsc hbl hbA hS (vp_in_nI (n := 4 * t + 2) (by omega) (by omega)) d_Law_law_336 ?_
      rw [nI_clamp (n := 4 * t + 2) (by omega)]
      refine lv_aload_n hx hb d_Law_law_337 rfl (lv_at hl 4 rfl) ?_
      refine kl_S (k := 4) (wr := wD d k D) F (e_Law_run_IS l hl0 Dg a b u v k G (pm 0 D) (pm 1 D) ao kl f q vB s.heap.size (1 : Int32) (xs (4 * t + 2)) _ (hP.sub (ws' := (wL ao kl f ++ (wE a b u v ++ wP b k G ++ wM u k (pm 0 D) ++ wM v k (pm 1 D)))) [0, 1, 2, 3, 4, 5, 6, 7, 8, 9, 10, 11, 12, 13, 14, 15, 16, 17] rfl) ((hD.sub (ws' := (wL ao kl f ++ (wE a b u v ++ wP b k G ++ wM u k (pm 0 D) ++ wM v k (pm 1 D)))) [0, 1, 2, 3, 4, 5, 6, 7, 8, 9, 10, 11, 12, 13, 14, 15, 16, 17] (by decide) rfl).weaken (fun _ _ _ _ => trivial)) (by decide) hf) lX_m ⟨hX.ta hS, hKl⟩ tw2_138 tw1_0 ⟨by decide, by decide⟩ (by decide +kernel) tw2_136 tw2_137 hP hD hS (fun _ h => h) [0, 1, 2, 3, 4, 5, 6, 7, 8, 9, 10, 11, 12, 13, 14, 15, 16, 17] [18, 19, 20, 21, 22, 23, 24, 25, 26, 27, 28, 29, 30, 31, 32] rfl rfl (by decide) (by decide) d_Law_law_338 ⟨⟨Nat.le_of_ble_eq_true rfl, Nat.le_of_ble_eq_true rfl⟩, hc1, hc2⟩ rfl hl.1 rfl (Nat.le_of_ble_eq_true rfl) (fun H locs hP hD hS => ?_)
      have hP : va_P Dg classes (wD d k D ++ (wL ao kl f ++ (wE a b u v ++ wP b k G ++ wM u k (pm 0 D) ++ wM v k (pm 1 D)))) H := hP
      have hD : va_D (lA s) (wD d k D ++ (wL ao kl f ++ (wE a b u v ++ wP b k G ++ wM u k (pm 0 D) ++ wM v k (pm 1 D)))) := hD
      refine lv_istore hx hb d_Law_law_341 hl (by decide) rfl (fun ls hl => ?_)
      have hl : lv_has ls 7 [(5, .int 1), (4, .int (nI (4 * t))), (0, .ref b0), (1, .ref (a 0)), (2, .ref (d 0)), (3, .ref ao)] := hl
      refine lv_aload_n hx hb d_Law_law_343 rfl (lv_at hl 4 rfl) ?_
      refine lv_aload_n hx hb d_Law_law_344 rfl (lv_at hl 2 rfl) ?_
      refine lv_iload hx hb d_Law_law_345 (lv_at hl 1 rfl) ?_
      refine lv_iconst (v := 1) hx hb d_Law_law_347 (by decide) ?_
      refine lv_iadd hx hb d_Law_law_348 ?_
      rw [nI_1]
      refine va_sld hx hb hsc hbl hbA hS (vp_in_nI (n := 4 * t + 1) (by omega) (by omega)) d_Law_law_349 ?_
      rw [nI_clamp (n := 4 * t + 1) (by omega)]
      refine lv_if_eq (tgt := 357) hx hb d_Law_law_350 (by decide) (fun h9 => absurd h9 hz) (fun _ => ?_)
      refine lv_iconst (v := 1) hx hb d_Law_law_353 (by decide) ?_
      refine lv_goto (tgt := 358) hx hb d_Law_law_354 (by decide) ?_
      refine lv_aload_n hx hb d_Law_law_358 rfl (lv_at hl 2 rfl) ?_
      refine lv_iload hx hb d_Law_law_359 (lv_at hl 1 rfl) ?_
      refine lv_iconst (v := 2) hx hb d_Law_law_361 (by decide) ?_
      refine lv_iadd hx hb d_Law_law_362 ?_
      rw [nI_2]
      refine va_sld hx hb hsc hbl hbA hS (vp_in_nI (n := 4 * t + 2) (by omega) (by omega)) d_Law_law_363 ?_
      rw [nI_clamp (n := 4 * t + 2) (by omega)]
      refine km_Vi (wr := (wL ao kl f ++ (wE a b u v ++ wP b k G ++ wM u k (pm 0 D) ++ wM v k (pm 1 D)))) F (c_Mod_runNo l Dg d k D (1 : Int32) (xs (4 * t + 2)) _ (hP.sub (ws' := wD d k D) [0, 1, 2, 3, 4, 5, 6, 7, 8, 9, 10, 11, 12, 13, 14] rfl) ((hD.sub (ws' := wD d k D) [0, 1, 2, 3, 4, 5, 6, 7, 8, 9, 10, 11, 12, 13, 14] (by decide) rfl).weaken (fun _ _ _ _ => trivial)) (by decide) (by rw [fused_rel hR]; exact hf)) kx_K hX.1 kw_Law_71 tw3_107 tw3_108 (va_recv (ci := 3) (q0 := 0) hX.1 hP rfl rfl) hP hD hS (fun _ h => h) [0, 1, 2, 3, 4, 5, 6, 7, 8, 9, 10, 11, 12, 13, 14] [15, 16, 17, 18, 19, 20, 21, 22, 23, 24, 25, 26, 27, 28, 29, 30, 31, 32] rfl rfl (by decide) (by decide) d_Law_law_364 ⟨⟨Nat.le_of_ble_eq_true rfl, Nat.le_of_ble_eq_true rfl⟩, hc1, hc2⟩ rfl hl.1 rfl (Nat.le_of_ble_eq_true rfl) (fun H locs hP hD hS => ?_)
      have hP : va_P Dg classes ((wL ao kl f ++ (wE a b u v ++ wP b k G ++ wM u k (pm 0 D) ++ wM v k (pm 1 D))) ++ wD d k (dRunM D (1 : Int32) (xs (4 * t + 2)))) H := hP
      have hD : va_D (lA s) ((wL ao kl f ++ (wE a b u v ++ wP b k G ++ wM u k (pm 0 D) ++ wM v k (pm 1 D))) ++ wD d k (dRunM D (1 : Int32) (xs (4 * t + 2)))) := hD
      refine lv_istore hx hb d_Law_law_367 hl (by decide) rfl (fun ls hl => ?_)
      have hl : lv_has ls 7 [(6, .int (dRunR D (1 : Int32) (xs (4 * t + 2)))), (5, .int 1), (4, .int (nI (4 * t))), (0, .ref b0), (1, .ref (a 0)), (2, .ref (d 0)), (3, .ref ao)] := hl
      refine lv_aload_n hx hb d_Law_law_369 rfl (lv_at hl 5 rfl) ?_
      refine kp_V F (c_Mod_thrown l Dg d k (dRunM D (1 : Int32) (xs (4 * t + 2))) _ (hP.sub (ws' := wD d k (dRunM D (1 : Int32) (xs (4 * t + 2)))) [18, 19, 20, 21, 22, 23, 24, 25, 26, 27, 28, 29, 30, 31, 32] rfl)) kx_K hX.1 kw_Law_49 tw3_40 tw3_41 (va_recv (ci := 3) (q0 := 18) hX.1 hP rfl rfl) hS d_Law_law_370 ⟨⟨Nat.le_of_ble_eq_true rfl, Nat.le_of_ble_eq_true rfl⟩, hc1, hc2⟩ rfl hl.1 rfl (Nat.le_of_ble_eq_true rfl) (fun locs hS => ?_)
      refine lv_iload hx hb d_Law_law_373 (lv_at hl 1 rfl) ?_
      refine lv_icmp_eq (tgt := 380) hx hb d_Law_law_375 (by decide) (fun _ => ?_) (fun h9 => absurd (by rw [hN, u2_eq]) h9)
      refine lv_iload hx hb d_Law_law_380 (lv_at hl 1 rfl) ?_
      refine lv_if_ne (tgt := 397) hx hb d_Law_law_382 (by decide) (fun _ => ?_) (fun h9 => absurd h9 (by decide))
      refine lv_goto (tgt := 716) hx hb d_Law_law_397 (by decide) ?_
      rw [← hpc 0, ← hpc 1, ← hN] at hP hD
      exact kk f G (dRunM D (1 : Int32) (xs (4 * t + 2))) H locs ls (by rw [hN]; exact hRc.mono (by omega)) hP hD hS (lv_sub hl [2, 3, 4, 5, 6] rfl)
    · obtain ⟨y1, y2, y3, y4, y5, y6, y7⟩ := run_all (zz := (1 : Int32)) (xs (4 * t + 2)) hR (by omega) (Or.inr hf)
      refine lv_aload_n hx hb d_Law_law_316 rfl (lv_at hl 2 rfl) ?_
      refine lv_aload_n hx hb d_Law_law_317 rfl (lv_at hl 1 rfl) ?_
      refine lv_iload hx hb d_Law_law_318 (lv_at hl 0 rfl) ?_
      refine lv_iconst (v := 1) hx hb d_Law_law_320 (by decide) ?_
      refine lv_iadd hx hb d_Law_law_321 ?_
      rw [nI_1]
      refine va_sld hx hb hsc hbl hbA hS (vp_in_nI (n := 4 * t + 1) (by omega) (by omega)) d_Law_law_322 ?_
      rw [nI_clamp (n := 4 * t + 1) (by omega)]
      refine lv_if_eq (tgt := 330) hx hb d_Law_law_323 (by decide) (fun h9 => absurd h9 hz) (fun _ => ?_)
      refine lv_iconst (v := 1) hx hb d_Law_law_326 (by decide) ?_
      refine lv_goto (tgt := 331) hx hb d_Law_law_327 (by decide) ?_
      refine lv_aload_n hx hb d_Law_law_331 rfl (lv_at hl 1 rfl) ?_
      refine lv_iload hx hb d_Law_law_332 (lv_at hl 0 rfl) ?_
      refine lv_iconst (v := 2) hx hb d_Law_law_334 (by decide) ?_
      refine lv_iadd hx hb d_Law_law_335 ?_
      rw [nI_2]
      refine va_sld hx hb hsc hbl hbA hS (vp_in_nI (n := 4 * t + 2) (by omega) (by omega)) d_Law_law_336 ?_
      rw [nI_clamp (n := 4 * t + 2) (by omega)]
      refine lv_aload_n hx hb d_Law_law_337 rfl (lv_at hl 4 rfl) ?_
      refine kl_S (k := 4) (wr := wD d k D) F (n_Law_run l Dg a b u v k G (pm 0 D) (pm 1 D) ao kl f q vB s.heap.size (1 : Int32) (xs (4 * t + 2)) _ (hP.sub (ws' := (wL ao kl f ++ (wE a b u v ++ wP b k G ++ wM u k (pm 0 D) ++ wM v k (pm 1 D)))) [0, 1, 2, 3, 4, 5, 6, 7, 8, 9, 10, 11, 12, 13, 14, 15, 16, 17] rfl) ((hD.sub (ws' := (wL ao kl f ++ (wE a b u v ++ wP b k G ++ wM u k (pm 0 D) ++ wM v k (pm 1 D)))) [0, 1, 2, 3, 4, 5, 6, 7, 8, 9, 10, 11, 12, 13, 14, 15, 16, 17] (by decide) rfl).weaken (fun _ _ _ _ => trivial)) (Or.inr hf) y1) lX_m ⟨hX.ta hS, hKl⟩ tw2_138 tw1_0 ⟨by decide, by decide⟩ (by decide +kernel) tw2_136 tw2_137 hP hD hS (fun _ h => h) [0, 1, 2, 3, 4, 5, 6, 7, 8, 9, 10, 11, 12, 13, 14, 15, 16, 17] [18, 19, 20, 21, 22, 23, 24, 25, 26, 27, 28, 29, 30, 31, 32] rfl rfl (by decide) (by decide) d_Law_law_338 ⟨⟨Nat.le_of_ble_eq_true rfl, Nat.le_of_ble_eq_true rfl⟩, hc1, hc2⟩ rfl hl.1 rfl (Nat.le_of_ble_eq_true rfl) (fun H locs hP hD hS => ?_)
      have hP : va_P Dg classes (wD d k D ++ (wL ao kl (vp_updL f 0 (Int32.toInt64 (sRunR G (if (1 : Int32) = 0 then (pm 0 D) else (pm 1 D)) (1 : Int32) (xs (4 * t + 2))))) ++ (wE a b u v ++ wP b k G ++ wM u k (if (1 : Int32) = 0 then sRunM G (pm 0 D) (1 : Int32) (xs (4 * t + 2)) else (pm 0 D)) ++ wM v k (if (1 : Int32) = 0 then (pm 1 D) else sRunM G (pm 1 D) (1 : Int32) (xs (4 * t + 2)))))) H := hP
      have hD : va_D (lA s) (wD d k D ++ (wL ao kl (vp_updL f 0 (Int32.toInt64 (sRunR G (if (1 : Int32) = 0 then (pm 0 D) else (pm 1 D)) (1 : Int32) (xs (4 * t + 2))))) ++ (wE a b u v ++ wP b k G ++ wM u k (if (1 : Int32) = 0 then sRunM G (pm 0 D) (1 : Int32) (xs (4 * t + 2)) else (pm 0 D)) ++ wM v k (if (1 : Int32) = 0 then (pm 1 D) else sRunM G (pm 1 D) (1 : Int32) (xs (4 * t + 2)))))) := hD
      refine lv_istore hx hb d_Law_law_341 hl (by decide) rfl (fun ls hl => ?_)
      have hl : lv_has ls 7 [(5, .int 0), (4, .int (nI (4 * t))), (0, .ref b0), (1, .ref (a 0)), (2, .ref (d 0)), (3, .ref ao)] := hl
      refine lv_aload_n hx hb d_Law_law_343 rfl (lv_at hl 4 rfl) ?_
      refine lv_aload_n hx hb d_Law_law_344 rfl (lv_at hl 2 rfl) ?_
      refine lv_iload hx hb d_Law_law_345 (lv_at hl 1 rfl) ?_
      refine lv_iconst (v := 1) hx hb d_Law_law_347 (by decide) ?_
      refine lv_iadd hx hb d_Law_law_348 ?_
      rw [nI_1]
      refine va_sld hx hb hsc hbl hbA hS (vp_in_nI (n := 4 * t + 1) (by omega) (by omega)) d_Law_law_349 ?_
      rw [nI_clamp (n := 4 * t + 1) (by omega)]
      refine lv_if_eq (tgt := 357) hx hb d_Law_law_350 (by decide) (fun h9 => absurd h9 hz) (fun _ => ?_)
      refine lv_iconst (v := 1) hx hb d_Law_law_353 (by decide) ?_
      refine lv_goto (tgt := 358) hx hb d_Law_law_354 (by decide) ?_
      refine lv_aload_n hx hb d_Law_law_358 rfl (lv_at hl 2 rfl) ?_
      refine lv_iload hx hb d_Law_law_359 (lv_at hl 1 rfl) ?_
      refine lv_iconst (v := 2) hx hb d_Law_law_361 (by decide) ?_
      refine lv_iadd hx hb d_Law_law_362 ?_
      rw [nI_2]
      refine va_sld hx hb hsc hbl hbA hS (vp_in_nI (n := 4 * t + 2) (by omega) (by omega)) d_Law_law_363 ?_
      rw [nI_clamp (n := 4 * t + 2) (by omega)]
      refine km_Vi (wr := (wL ao kl (vp_updL f 0 (Int32.toInt64 (sRunR G (if (1 : Int32) = 0 then (pm 0 D) else (pm 1 D)) (1 : Int32) (xs (4 * t + 2))))) ++ (wE a b u v ++ wP b k G ++ wM u k (if (1 : Int32) = 0 then sRunM G (pm 0 D) (1 : Int32) (xs (4 * t + 2)) else (pm 0 D)) ++ wM v k (if (1 : Int32) = 0 then (pm 1 D) else sRunM G (pm 1 D) (1 : Int32) (xs (4 * t + 2)))))) F (c_Mod_run l Dg d k D (1 : Int32) (xs (4 * t + 2)) _ (hP.sub (ws' := wD d k D) [0, 1, 2, 3, 4, 5, 6, 7, 8, 9, 10, 11, 12, 13, 14] rfl) ((hD.sub (ws' := wD d k D) [0, 1, 2, 3, 4, 5, 6, 7, 8, 9, 10, 11, 12, 13, 14] (by decide) rfl).weaken (fun _ _ _ _ => trivial)) (Or.inr (by rw [fused_rel hR]; exact hf)) y2) kx_K hX.1 kw_Law_71 tw3_107 tw3_108 (va_recv (ci := 3) (q0 := 0) hX.1 hP rfl rfl) hP hD hS (fun _ h => h) [0, 1, 2, 3, 4, 5, 6, 7, 8, 9, 10, 11, 12, 13, 14] [15, 16, 17, 18, 19, 20, 21, 22, 23, 24, 25, 26, 27, 28, 29, 30, 31, 32] rfl rfl (by decide) (by decide) d_Law_law_364 ⟨⟨Nat.le_of_ble_eq_true rfl, Nat.le_of_ble_eq_true rfl⟩, hc1, hc2⟩ rfl hl.1 rfl (Nat.le_of_ble_eq_true rfl) (fun H locs hP hD hS => ?_)
      have hP : va_P Dg classes ((wL ao kl (vp_updL f 0 (Int32.toInt64 (sRunR G (if (1 : Int32) = 0 then (pm 0 D) else (pm 1 D)) (1 : Int32) (xs (4 * t + 2))))) ++ (wE a b u v ++ wP b k G ++ wM u k (if (1 : Int32) = 0 then sRunM G (pm 0 D) (1 : Int32) (xs (4 * t + 2)) else (pm 0 D)) ++ wM v k (if (1 : Int32) = 0 then (pm 1 D) else sRunM G (pm 1 D) (1 : Int32) (xs (4 * t + 2))))) ++ wD d k (dRunM D (1 : Int32) (xs (4 * t + 2)))) H := hP
      have hD : va_D (lA s) ((wL ao kl (vp_updL f 0 (Int32.toInt64 (sRunR G (if (1 : Int32) = 0 then (pm 0 D) else (pm 1 D)) (1 : Int32) (xs (4 * t + 2))))) ++ (wE a b u v ++ wP b k G ++ wM u k (if (1 : Int32) = 0 then sRunM G (pm 0 D) (1 : Int32) (xs (4 * t + 2)) else (pm 0 D)) ++ wM v k (if (1 : Int32) = 0 then (pm 1 D) else sRunM G (pm 1 D) (1 : Int32) (xs (4 * t + 2))))) ++ wD d k (dRunM D (1 : Int32) (xs (4 * t + 2)))) := hD
      refine lv_istore hx hb d_Law_law_367 hl (by decide) rfl (fun ls hl => ?_)
      have hl : lv_has ls 7 [(6, .int (dRunR D (1 : Int32) (xs (4 * t + 2)))), (5, .int 0), (4, .int (nI (4 * t))), (0, .ref b0), (1, .ref (a 0)), (2, .ref (d 0)), (3, .ref ao)] := hl
      refine lv_aload_n hx hb d_Law_law_369 rfl (lv_at hl 5 rfl) ?_
      refine kp_V F (c_Mod_thrown l Dg d k (dRunM D (1 : Int32) (xs (4 * t + 2))) _ (hP.sub (ws' := wD d k (dRunM D (1 : Int32) (xs (4 * t + 2)))) [18, 19, 20, 21, 22, 23, 24, 25, 26, 27, 28, 29, 30, 31, 32] rfl)) kx_K hX.1 kw_Law_49 tw3_40 tw3_41 (va_recv (ci := 3) (q0 := 18) hX.1 hP rfl rfl) hS d_Law_law_370 ⟨⟨Nat.le_of_ble_eq_true rfl, Nat.le_of_ble_eq_true rfl⟩, hc1, hc2⟩ rfl hl.1 rfl (Nat.le_of_ble_eq_true rfl) (fun locs hS => ?_)
      refine lv_iload hx hb d_Law_law_373 (lv_at hl 1 rfl) ?_
      refine lv_icmp_eq (tgt := 380) hx hb d_Law_law_375 (by decide) (fun _ => ?_) (fun h9 => absurd y7 h9)
      refine lv_iload hx hb d_Law_law_380 (lv_at hl 1 rfl) ?_
      refine lv_if_ne (tgt := 397) hx hb d_Law_law_382 (by decide) (fun h9 => absurd rfl h9) (fun _ => ?_)
      refine lv_aload_n hx hb d_Law_law_385 rfl (lv_at hl 6 rfl) ?_
      refine lv_iconst (v := 0) hx hb d_Law_law_386 (by decide) ?_
      refine va_lald hx hb hKl hP 0 0 rfl rfl (by unfold vp_in; decide) d_Law_law_387 ?_
      rw [show (vp_updL f 0 (Int32.toInt64 (sRunR G (if (1 : Int32) = 0 then (pm 0 D) else (pm 1 D)) (1 : Int32) (xs (4 * t + 2))))) (Int32.toNatClampNeg 0) = Int32.toInt64 (sRunR G (if (1 : Int32) = 0 then (pm 0 D) else (pm 1 D)) (1 : Int32) (xs (4 * t + 2))) from if_pos rfl]
      refine lv_iload hx hb d_Law_law_388 (lv_at hl 0 rfl) ?_
      rw [y3]
      refine lv_i2l hx hb d_Law_law_390 rfl ?_
      refine W.lcmp hx hb d_Law_law_391 ?_
      rw [lcmp_0]
      refine lv_if_eq (tgt := 397) hx hb d_Law_law_392 (by decide) (fun _ => ?_) (fun h9 => absurd rfl h9)
      refine lv_goto (tgt := 716) hx hb d_Law_law_397 (by decide) ?_
      rw [← y5, ← y6] at hP hD
      exact kk (vp_updL f 0 (Int32.toInt64 (sRunR G (if (1 : Int32) = 0 then (pm 0 D) else (pm 1 D)) (1 : Int32) (xs (4 * t + 2))))) G (dRunM D (1 : Int32) (xs (4 * t + 2))) H locs ls (y4.mono (by omega)) hP hD hS (lv_sub hl [2, 3, 4, 5, 6] rfl)

set_option maxRecDepth 100000 in
set_option maxHeartbeats 4000000 in
theorem law_stack {p : Program} {l : Launch} {e : Env} {s : State} {m : MethodId} {below : List Frame} {meth : Method} {c0 : Code} {H : Heap} {locs : List Loc} {cells slots : Nat} {Q : State → Prop} {ls : Array Slot} {Dg : va_G} {a b u v d : Nat → Nat} {k : Nat → ClassId} {kl : ClassId} {ao b0 L q vB tL t : Nat} {f : Nat → Int64} {xs : Nat → Int32} {G D : vSt} (F : CallFix p m c0 code 7 s #[Value.ref b0] lw_ok "FusedEngineLaw") (hl0 : l.stackTraces = false) (hX : lF Dg k q vB tL s) (hKl : va_K Dg classes [(kl, .long)] s) (hsc : va_X b0 L xs s s.heap) (hbl : b0 < s.heap.size) (ht : 4 * t + 4 ≤ L) (hL : L ≤ 2048) (hR : Rel (12000 * t) G D)
    (hP : va_P Dg classes ((wL ao kl f ++ (wE a b u v ++ wP b k G ++ wM u k (pm 0 D) ++ wM v k (pm 1 D))) ++ wD d k D) H) (hD : va_D (lA s) ((wL ao kl f ++ (wE a b u v ++ wP b k G ++ wM u k (pm 0 D) ++ wM v k (pm 1 D))) ++ wD d k D)) (hS : va_S (lA s) s.heap H locs) (hl : lv_has ls 7 [(4, .int (nI (4 * t))), (0, .ref b0), (1, .ref (a 0)), (2, .ref (d 0)), (3, .ref ao)]) (hc1 : cells + 1 ≤ room_1.cells) (hc2 : slots + 6 ≤ room_1.slots)
    (kk : ∀ (f : Nat → Int64) (G D : vSt) (H : Heap) (locs : List Loc) (ls : Array Slot), Rel (12000 * (t + 1)) G D → va_P Dg classes ((wL ao kl f ++ (wE a b u v ++ wP b k G ++ wM u k (pm 0 D) ++ wM v k (pm 1 D))) ++ wD d k D) H → va_D (lA s) ((wL ao kl f ++ (wE a b u v ++ wP b k G ++ wM u k (pm 0 D) ++ wM v k (pm 1 D))) ++ wD d k D) → va_S (lA s) s.heap H locs → lv_has ls 7 [(4, .int (nI (4 * t))), (0, .ref b0), (1, .ref (a 0)), (2, .ref (d 0)), (3, .ref ao)] → W p l e room_1 s m #[Value.ref b0] below meth c0 H locs (cells + 1) (slots + 6) Q (F0 m 716 ls [])) : W p l e room_1 s m #[Value.ref b0] below meth c0 H locs cells slots Q (F0 m 464 ls []) := by
  obtain ⟨hx, hb, hml, hown, hT⟩ := id F
  have hbA : ¬ lA s b0 := fun w => absurd w (by show ¬ s.heap.size ≤ b0; omega)
  by_cases hz : (xs (4 * t + 1)) = 0
  · by_cases hn : (xs (4 * t + 2)) < 0 ∨ ¬ (xs (4 * t + 2)) < (if (0 : Int32) = 0 then (pm 0 D) else (pm 1 D)) 4 0
    · obtain ⟨hRc, hpc⟩ := hR.code (dStC D (0 : Int32) (xs (4 * t + 2)))
      refine lv_aload_n hx hb d_Law_law_464 rfl (lv_at hl 2 rfl) ?_
      refine lv_aload_n hx hb d_Law_law_465 rfl (lv_at hl 1 rfl) ?_
      refine lv_iload hx hb d_Law_law_466 (lv_at hl 0 rfl) ?_
      refine lv_iconst (v := 1) hx hb d_Law_law_468 (by decide) ?_
      refine lv_iadd hx hb d_Law_law_469 ?_
      rw [nI_1]
      refine va_sld hx hb hsc hbl hbA hS (vp_in_nI (n := 4 * t + 1) (by omega) (by omega)) d_Law_law_470 ?_
      rw [nI_clamp (n := 4 * t + 1) (by omega)]
      refine lv_if_eq (tgt := 478) hx hb d_Law_law_471 (by decide) (fun _ => ?_) (fun h9 => absurd hz h9)
      refine lv_iconst (v := 0) hx hb d_Law_law_478 (by decide) ?_
      refine lv_aload_n hx hb d_Law_law_479 rfl (lv_at hl 1 rfl) ?_
      refine lv_iload hx hb d_Law_law_480 (lv_at hl 0 rfl) ?_
      refine lv_iconst (v := 2) hx hb d_Law_law_482 (by decide) ?_
      refine lv_iadd hx hb d_Law_law_483 ?_
      rw [nI_2]
      refine va_sld hx hb hsc hbl hbA hS (vp_in_nI (n := 4 * t + 2) (by omega) (by omega)) d_Law_law_484 ?_
      rw [nI_clamp (n := 4 * t + 2) (by omega)]
      refine lv_aload_n hx hb d_Law_law_485 rfl (lv_at hl 4 rfl) ?_
      refine kl_S (k := 4) (wr := wD d k D) F (e_Law_stack_NS l hl0 Dg a b u v k G (pm 0 D) (pm 1 D) ao kl f q vB s.heap.size (0 : Int32) (xs (4 * t + 2)) _ (hP.sub (ws' := (wL ao kl f ++ (wE a b u v ++ wP b k G ++ wM u k (pm 0 D) ++ wM v k (pm 1 D)))) [0, 1, 2, 3, 4, 5, 6, 7, 8, 9, 10, 11, 12, 13, 14, 15, 16, 17] rfl) ((hD.sub (ws' := (wL ao kl f ++ (wE a b u v ++ wP b k G ++ wM u k (pm 0 D) ++ wM v k (pm 1 D)))) [0, 1, 2, 3, 4, 5, 6, 7, 8, 9, 10, 11, 12, 13, 14, 15, 16, 17] (by decide) rfl).weaken (fun _ _ _ _ => trivial)) hn) lX_m ⟨hX.ta hS, hKl⟩ tw2_194 tw1_0 ⟨by decide, by decide⟩ (by decide +kernel) tw2_192 tw2_193 hP hD hS (fun _ h => h) [0, 1, 2, 3, 4, 5, 6, 7, 8, 9, 10, 11, 12, 13, 14, 15, 16, 17] [18, 19, 20, 21, 22, 23, 24, 25, 26, 27, 28, 29, 30, 31, 32] rfl rfl (by decide) (by decide) d_Law_law_486 ⟨⟨Nat.le_of_ble_eq_true rfl, Nat.le_of_ble_eq_true rfl⟩, hc1, hc2⟩ rfl hl.1 rfl (Nat.le_of_ble_eq_true rfl) (fun H locs hP hD hS => ?_)
      have hP : va_P Dg classes (wD d k D ++ (wL ao kl f ++ (wE a b u v ++ wP b k G ++ wM u k (pm 0 D) ++ wM v k (pm 1 D)))) H := hP
      have hD : va_D (lA s) (wD d k D ++ (wL ao kl f ++ (wE a b u v ++ wP b k G ++ wM u k (pm 0 D) ++ wM v k (pm 1 D)))) := hD
      refine lv_istore hx hb d_Law_law_489 hl (by decide) rfl (fun ls hl => ?_)
      have hl : lv_has ls 7 [(5, .int 1), (4, .int (nI (4 * t))), (0, .ref b0), (1, .ref (a 0)), (2, .ref (d 0)), (3, .ref ao)] := hl
      refine lv_aload_n hx hb d_Law_law_491 rfl (lv_at hl 4 rfl) ?_
      refine lv_aload_n hx hb d_Law_law_492 rfl (lv_at hl 2 rfl) ?_
      refine lv_iload hx hb d_Law_law_493 (lv_at hl 1 rfl) ?_
      refine lv_iconst (v := 1) hx hb d_Law_law_495 (by decide) ?_
      refine lv_iadd hx hb d_Law_law_496 ?_
      rw [nI_1]
      refine va_sld hx hb hsc hbl hbA hS (vp_in_nI (n := 4 * t + 1) (by omega) (by omega)) d_Law_law_497 ?_
      rw [nI_clamp (n := 4 * t + 1) (by omega)]
      refine lv_if_eq (tgt := 505) hx hb d_Law_law_498 (by decide) (fun _ => ?_) (fun h9 => absurd hz h9)
      refine lv_iconst (v := 0) hx hb d_Law_law_505 (by decide) ?_
      refine lv_aload_n hx hb d_Law_law_506 rfl (lv_at hl 2 rfl) ?_
      refine lv_iload hx hb d_Law_law_507 (lv_at hl 1 rfl) ?_
      refine lv_iconst (v := 2) hx hb d_Law_law_509 (by decide) ?_
      refine lv_iadd hx hb d_Law_law_510 ?_
      rw [nI_2]
      refine va_sld hx hb hsc hbl hbA hS (vp_in_nI (n := 4 * t + 2) (by omega) (by omega)) d_Law_law_511 ?_
      rw [nI_clamp (n := 4 * t + 2) (by omega)]
      refine km_Vi (wr := (wL ao kl f ++ (wE a b u v ++ wP b k G ++ wM u k (pm 0 D) ++ wM v k (pm 1 D)))) F (c_Mod_stack l Dg d k D (0 : Int32) (xs (4 * t + 2)) _ (hP.sub (ws' := wD d k D) [0, 1, 2, 3, 4, 5, 6, 7, 8, 9, 10, 11, 12, 13, 14] rfl) ((hD.sub (ws' := wD d k D) [0, 1, 2, 3, 4, 5, 6, 7, 8, 9, 10, 11, 12, 13, 14] (by decide) rfl).weaken (fun _ _ _ _ => trivial)) (stack_rel hR (0 : Int32) (xs (4 * t + 2))).1) kx_K hX.1 kw_Law_82 tw3_154 tw3_155 (va_recv (ci := 3) (q0 := 0) hX.1 hP rfl rfl) hP hD hS (fun _ h => h) [0, 1, 2, 3, 4, 5, 6, 7, 8, 9, 10, 11, 12, 13, 14] [15, 16, 17, 18, 19, 20, 21, 22, 23, 24, 25, 26, 27, 28, 29, 30, 31, 32] rfl rfl (by decide) (by decide) d_Law_law_512 ⟨⟨Nat.le_of_ble_eq_true rfl, Nat.le_of_ble_eq_true rfl⟩, hc1, hc2⟩ rfl hl.1 rfl (Nat.le_of_ble_eq_true rfl) (fun H locs hP hD hS => ?_)
      have hP : va_P Dg classes ((wL ao kl f ++ (wE a b u v ++ wP b k G ++ wM u k (pm 0 D) ++ wM v k (pm 1 D))) ++ wD d k (u2 D 14 0 (dStC D (0 : Int32) (xs (4 * t + 2))))) H := hP
      have hD : va_D (lA s) ((wL ao kl f ++ (wE a b u v ++ wP b k G ++ wM u k (pm 0 D) ++ wM v k (pm 1 D))) ++ wD d k (u2 D 14 0 (dStC D (0 : Int32) (xs (4 * t + 2))))) := hD
      refine lv_istore hx hb d_Law_law_515 hl (by decide) rfl (fun ls hl => ?_)
      have hl : lv_has ls 7 [(6, .int (dStR D (0 : Int32) (xs (4 * t + 2)))), (5, .int 1), (4, .int (nI (4 * t))), (0, .ref b0), (1, .ref (a 0)), (2, .ref (d 0)), (3, .ref ao)] := hl
      refine lv_aload_n hx hb d_Law_law_517 rfl (lv_at hl 5 rfl) ?_
      refine kp_V F (c_Mod_thrown l Dg d k (u2 D 14 0 (dStC D (0 : Int32) (xs (4 * t + 2)))) _ (hP.sub (ws' := wD d k (u2 D 14 0 (dStC D (0 : Int32) (xs (4 * t + 2))))) [18, 19, 20, 21, 22, 23, 24, 25, 26, 27, 28, 29, 30, 31, 32] rfl)) kx_K hX.1 kw_Law_49 tw3_40 tw3_41 (va_recv (ci := 3) (q0 := 18) hX.1 hP rfl rfl) hS d_Law_law_518 ⟨⟨Nat.le_of_ble_eq_true rfl, Nat.le_of_ble_eq_true rfl⟩, hc1, hc2⟩ rfl hl.1 rfl (Nat.le_of_ble_eq_true rfl) (fun locs hS => ?_)
      refine lv_iload hx hb d_Law_law_521 (lv_at hl 1 rfl) ?_
      refine lv_icmp_eq (tgt := 528) hx hb d_Law_law_523 (by decide) (fun _ => ?_) (fun h9 => absurd (by rw [u2_eq]; exact (stack_rel hR (0 : Int32) (xs (4 * t + 2))).2.1 hn) h9)
      refine lv_iload hx hb d_Law_law_528 (lv_at hl 1 rfl) ?_
      refine lv_if_ne (tgt := 545) hx hb d_Law_law_530 (by decide) (fun _ => ?_) (fun h9 => absurd h9 (by decide))
      refine lv_goto (tgt := 716) hx hb d_Law_law_545 (by decide) ?_
      rw [← hpc 0, ← hpc 1] at hP hD
      exact kk f G (u2 D 14 0 (dStC D (0 : Int32) (xs (4 * t + 2)))) H locs ls (hRc.mono (by omega)) hP hD hS (lv_sub hl [2, 3, 4, 5, 6] rfl)
    · obtain ⟨hRc, hpc⟩ := hR.code (dStC D (0 : Int32) (xs (4 * t + 2)))
      have y0 := (stack_rel hR (0 : Int32) (xs (4 * t + 2))).2.2 (fun w => hn (Or.inl w)) (Decidable.byContradiction (fun w => hn (Or.inr w)))
      refine lv_aload_n hx hb d_Law_law_464 rfl (lv_at hl 2 rfl) ?_
      refine lv_aload_n hx hb d_Law_law_465 rfl (lv_at hl 1 rfl) ?_
      refine lv_iload hx hb d_Law_law_466 (lv_at hl 0 rfl) ?_
      refine lv_iconst (v := 1) hx hb d_Law_law_468 (by decide) ?_
      refine lv_iadd hx hb d_Law_law_469 ?_
      rw [nI_1]
      refine va_sld hx hb hsc hbl hbA hS (vp_in_nI (n := 4 * t + 1) (by omega) (by omega)) d_Law_law_470 ?_
      rw [nI_clamp (n := 4 * t + 1) (by omega)]
      refine lv_if_eq (tgt := 478) hx hb d_Law_law_471 (by decide) (fun _ => ?_) (fun h9 => absurd hz h9)
      refine lv_iconst (v := 0) hx hb d_Law_law_478 (by decide) ?_
      refine lv_aload_n hx hb d_Law_law_479 rfl (lv_at hl 1 rfl) ?_
      refine lv_iload hx hb d_Law_law_480 (lv_at hl 0 rfl) ?_
      refine lv_iconst (v := 2) hx hb d_Law_law_482 (by decide) ?_
      refine lv_iadd hx hb d_Law_law_483 ?_
      rw [nI_2]
      refine va_sld hx hb hsc hbl hbA hS (vp_in_nI (n := 4 * t + 2) (by omega) (by omega)) d_Law_law_484 ?_
      rw [nI_clamp (n := 4 * t + 2) (by omega)]
      refine lv_aload_n hx hb d_Law_law_485 rfl (lv_at hl 4 rfl) ?_
      refine kl_S (k := 4) (wr := wD d k D) F (n_Law_stack l Dg a b u v k G (pm 0 D) (pm 1 D) ao kl f q vB s.heap.size (0 : Int32) (xs (4 * t + 2)) _ (hP.sub (ws' := (wL ao kl f ++ (wE a b u v ++ wP b k G ++ wM u k (pm 0 D) ++ wM v k (pm 1 D)))) [0, 1, 2, 3, 4, 5, 6, 7, 8, 9, 10, 11, 12, 13, 14, 15, 16, 17] rfl) ((hD.sub (ws' := (wL ao kl f ++ (wE a b u v ++ wP b k G ++ wM u k (pm 0 D) ++ wM v k (pm 1 D)))) [0, 1, 2, 3, 4, 5, 6, 7, 8, 9, 10, 11, 12, 13, 14, 15, 16, 17] (by decide) rfl).weaken (fun _ _ _ _ => trivial)) (fun w => hn (Or.inl w)) (Decidable.byContradiction (fun w => hn (Or.inr w))) y0.2.1) lX_m ⟨hX.ta hS, hKl⟩ tw2_194 tw1_0 ⟨by decide, by decide⟩ (by decide +kernel) tw2_192 tw2_193 hP hD hS (fun _ h => h) [0, 1, 2, 3, 4, 5, 6, 7, 8, 9, 10, 11, 12, 13, 14, 15, 16, 17] [18, 19, 20, 21, 22, 23, 24, 25, 26, 27, 28, 29, 30, 31, 32] rfl rfl (by decide) (by decide) d_Law_law_486 ⟨⟨Nat.le_of_ble_eq_true rfl, Nat.le_of_ble_eq_true rfl⟩, hc1, hc2⟩ rfl hl.1 rfl (Nat.le_of_ble_eq_true rfl) (fun H locs hP hD hS => ?_)
      have hP : va_P Dg classes (wD d k D ++ (wL ao kl (vp_updL f 0 (Int32.toInt64 ((if (0 : Int32) = 0 then (pm 0 D) else (pm 1 D)) 0 (Int32.toNatClampNeg (xs (4 * t + 2)))))) ++ (wE a b u v ++ wP b k G ++ wM u k (pm 0 D) ++ wM v k (pm 1 D)))) H := hP
      have hD : va_D (lA s) (wD d k D ++ (wL ao kl (vp_updL f 0 (Int32.toInt64 ((if (0 : Int32) = 0 then (pm 0 D) else (pm 1 D)) 0 (Int32.toNatClampNeg (xs (4 * t + 2)))))) ++ (wE a b u v ++ wP b k G ++ wM u k (pm 0 D) ++ wM v k (pm 1 D)))) := hD
      refine lv_istore hx hb d_Law_law_489 hl (by decide) rfl (fun ls hl => ?_)
      have hl : lv_has ls 7 [(5, .int 0), (4, .int (nI (4 * t))), (0, .ref b0), (1, .ref (a 0)), (2, .ref (d 0)), (3, .ref ao)] := hl
      refine lv_aload_n hx hb d_Law_law_491 rfl (lv_at hl 4 rfl) ?_
      refine lv_aload_n hx hb d_Law_law_492 rfl (lv_at hl 2 rfl) ?_
      refine lv_iload hx hb d_Law_law_493 (lv_at hl 1 rfl) ?_
      refine lv_iconst (v := 1) hx hb d_Law_law_495 (by decide) ?_
      refine lv_iadd hx hb d_Law_law_496 ?_
      rw [nI_1]
      refine va_sld hx hb hsc hbl hbA hS (vp_in_nI (n := 4 * t + 1) (by omega) (by omega)) d_Law_law_497 ?_
      rw [nI_clamp (n := 4 * t + 1) (by omega)]
      refine lv_if_eq (tgt := 505) hx hb d_Law_law_498 (by decide) (fun _ => ?_) (fun h9 => absurd hz h9)
      refine lv_iconst (v := 0) hx hb d_Law_law_505 (by decide) ?_
      refine lv_aload_n hx hb d_Law_law_506 rfl (lv_at hl 2 rfl) ?_
      refine lv_iload hx hb d_Law_law_507 (lv_at hl 1 rfl) ?_
      refine lv_iconst (v := 2) hx hb d_Law_law_509 (by decide) ?_
      refine lv_iadd hx hb d_Law_law_510 ?_
      rw [nI_2]
      refine va_sld hx hb hsc hbl hbA hS (vp_in_nI (n := 4 * t + 2) (by omega) (by omega)) d_Law_law_511 ?_
      rw [nI_clamp (n := 4 * t + 2) (by omega)]
      refine km_Vi (wr := (wL ao kl (vp_updL f 0 (Int32.toInt64 ((if (0 : Int32) = 0 then (pm 0 D) else (pm 1 D)) 0 (Int32.toNatClampNeg (xs (4 * t + 2)))))) ++ (wE a b u v ++ wP b k G ++ wM u k (pm 0 D) ++ wM v k (pm 1 D)))) F (c_Mod_stack l Dg d k D (0 : Int32) (xs (4 * t + 2)) _ (hP.sub (ws' := wD d k D) [0, 1, 2, 3, 4, 5, 6, 7, 8, 9, 10, 11, 12, 13, 14] rfl) ((hD.sub (ws' := wD d k D) [0, 1, 2, 3, 4, 5, 6, 7, 8, 9, 10, 11, 12, 13, 14] (by decide) rfl).weaken (fun _ _ _ _ => trivial)) (stack_rel hR (0 : Int32) (xs (4 * t + 2))).1) kx_K hX.1 kw_Law_82 tw3_154 tw3_155 (va_recv (ci := 3) (q0 := 0) hX.1 hP rfl rfl) hP hD hS (fun _ h => h) [0, 1, 2, 3, 4, 5, 6, 7, 8, 9, 10, 11, 12, 13, 14] [15, 16, 17, 18, 19, 20, 21, 22, 23, 24, 25, 26, 27, 28, 29, 30, 31, 32] rfl rfl (by decide) (by decide) d_Law_law_512 ⟨⟨Nat.le_of_ble_eq_true rfl, Nat.le_of_ble_eq_true rfl⟩, hc1, hc2⟩ rfl hl.1 rfl (Nat.le_of_ble_eq_true rfl) (fun H locs hP hD hS => ?_)
      have hP : va_P Dg classes ((wL ao kl (vp_updL f 0 (Int32.toInt64 ((if (0 : Int32) = 0 then (pm 0 D) else (pm 1 D)) 0 (Int32.toNatClampNeg (xs (4 * t + 2)))))) ++ (wE a b u v ++ wP b k G ++ wM u k (pm 0 D) ++ wM v k (pm 1 D))) ++ wD d k (u2 D 14 0 (dStC D (0 : Int32) (xs (4 * t + 2))))) H := hP
      have hD : va_D (lA s) ((wL ao kl (vp_updL f 0 (Int32.toInt64 ((if (0 : Int32) = 0 then (pm 0 D) else (pm 1 D)) 0 (Int32.toNatClampNeg (xs (4 * t + 2)))))) ++ (wE a b u v ++ wP b k G ++ wM u k (pm 0 D) ++ wM v k (pm 1 D))) ++ wD d k (u2 D 14 0 (dStC D (0 : Int32) (xs (4 * t + 2))))) := hD
      refine lv_istore hx hb d_Law_law_515 hl (by decide) rfl (fun ls hl => ?_)
      have hl : lv_has ls 7 [(6, .int (dStR D (0 : Int32) (xs (4 * t + 2)))), (5, .int 0), (4, .int (nI (4 * t))), (0, .ref b0), (1, .ref (a 0)), (2, .ref (d 0)), (3, .ref ao)] := hl
      refine lv_aload_n hx hb d_Law_law_517 rfl (lv_at hl 5 rfl) ?_
      refine kp_V F (c_Mod_thrown l Dg d k (u2 D 14 0 (dStC D (0 : Int32) (xs (4 * t + 2)))) _ (hP.sub (ws' := wD d k (u2 D 14 0 (dStC D (0 : Int32) (xs (4 * t + 2))))) [18, 19, 20, 21, 22, 23, 24, 25, 26, 27, 28, 29, 30, 31, 32] rfl)) kx_K hX.1 kw_Law_49 tw3_40 tw3_41 (va_recv (ci := 3) (q0 := 18) hX.1 hP rfl rfl) hS d_Law_law_518 ⟨⟨Nat.le_of_ble_eq_true rfl, Nat.le_of_ble_eq_true rfl⟩, hc1, hc2⟩ rfl hl.1 rfl (Nat.le_of_ble_eq_true rfl) (fun locs hS => ?_)
      refine lv_iload hx hb d_Law_law_521 (lv_at hl 1 rfl) ?_
      refine lv_icmp_eq (tgt := 528) hx hb d_Law_law_523 (by decide) (fun _ => ?_) (fun h9 => absurd (by rw [u2_eq]; exact y0.1) h9)
      refine lv_iload hx hb d_Law_law_528 (lv_at hl 1 rfl) ?_
      refine lv_if_ne (tgt := 545) hx hb d_Law_law_530 (by decide) (fun h9 => absurd rfl h9) (fun _ => ?_)
      refine lv_aload_n hx hb d_Law_law_533 rfl (lv_at hl 6 rfl) ?_
      refine lv_iconst (v := 0) hx hb d_Law_law_534 (by decide) ?_
      refine va_lald hx hb hKl hP 0 0 rfl rfl (by unfold vp_in; decide) d_Law_law_535 ?_
      rw [show (vp_updL f 0 (Int32.toInt64 ((if (0 : Int32) = 0 then (pm 0 D) else (pm 1 D)) 0 (Int32.toNatClampNeg (xs (4 * t + 2)))))) (Int32.toNatClampNeg 0) = Int32.toInt64 ((if (0 : Int32) = 0 then (pm 0 D) else (pm 1 D)) 0 (Int32.toNatClampNeg (xs (4 * t + 2)))) from if_pos rfl]
      refine lv_iload hx hb d_Law_law_536 (lv_at hl 0 rfl) ?_
      rw [y0.2.2]
      refine lv_i2l hx hb d_Law_law_538 rfl ?_
      refine W.lcmp hx hb d_Law_law_539 ?_
      rw [lcmp_0]
      refine lv_if_eq (tgt := 545) hx hb d_Law_law_540 (by decide) (fun _ => ?_) (fun h9 => absurd rfl h9)
      refine lv_goto (tgt := 716) hx hb d_Law_law_545 (by decide) ?_
      rw [← hpc 0, ← hpc 1] at hP hD
      exact kk (vp_updL f 0 (Int32.toInt64 ((if (0 : Int32) = 0 then (pm 0 D) else (pm 1 D)) 0 (Int32.toNatClampNeg (xs (4 * t + 2)))))) G (u2 D 14 0 (dStC D (0 : Int32) (xs (4 * t + 2)))) H locs ls (hRc.mono (by omega)) hP hD hS (lv_sub hl [2, 3, 4, 5, 6] rfl)
  · by_cases hn : (xs (4 * t + 2)) < 0 ∨ ¬ (xs (4 * t + 2)) < (if (1 : Int32) = 0 then (pm 0 D) else (pm 1 D)) 4 0
    · obtain ⟨hRc, hpc⟩ := hR.code (dStC D (1 : Int32) (xs (4 * t + 2)))
      refine lv_aload_n hx hb d_Law_law_464 rfl (lv_at hl 2 rfl) ?_
      refine lv_aload_n hx hb d_Law_law_465 rfl (lv_at hl 1 rfl) ?_
      refine lv_iload hx hb d_Law_law_466 (lv_at hl 0 rfl) ?_
      refine lv_iconst (v := 1) hx hb d_Law_law_468 (by decide) ?_
      refine lv_iadd hx hb d_Law_law_469 ?_
      rw [nI_1]
      refine va_sld hx hb hsc hbl hbA hS (vp_in_nI (n := 4 * t + 1) (by omega) (by omega)) d_Law_law_470 ?_
      rw [nI_clamp (n := 4 * t + 1) (by omega)]
      refine lv_if_eq (tgt := 478) hx hb d_Law_law_471 (by decide) (fun h9 => absurd h9 hz) (fun _ => ?_)
      refine lv_iconst (v := 1) hx hb d_Law_law_474 (by decide) ?_
      refine lv_goto (tgt := 479) hx hb d_Law_law_475 (by decide) ?_
      refine lv_aload_n hx hb d_Law_law_479 rfl (lv_at hl 1 rfl) ?_
      refine lv_iload hx hb d_Law_law_480 (lv_at hl 0 rfl) ?_
      refine lv_iconst (v := 2) hx hb d_Law_law_482 (by decide) ?_
      refine lv_iadd hx hb d_Law_law_483 ?_
      rw [nI_2]
      refine va_sld hx hb hsc hbl hbA hS (vp_in_nI (n := 4 * t + 2) (by omega) (by omega)) d_Law_law_484 ?_
      rw [nI_clamp (n := 4 * t + 2) (by omega)]
      refine lv_aload_n hx hb d_Law_law_485 rfl (lv_at hl 4 rfl) ?_
      refine kl_S (k := 4) (wr := wD d k D) F (e_Law_stack_NS l hl0 Dg a b u v k G (pm 0 D) (pm 1 D) ao kl f q vB s.heap.size (1 : Int32) (xs (4 * t + 2)) _ (hP.sub (ws' := (wL ao kl f ++ (wE a b u v ++ wP b k G ++ wM u k (pm 0 D) ++ wM v k (pm 1 D)))) [0, 1, 2, 3, 4, 5, 6, 7, 8, 9, 10, 11, 12, 13, 14, 15, 16, 17] rfl) ((hD.sub (ws' := (wL ao kl f ++ (wE a b u v ++ wP b k G ++ wM u k (pm 0 D) ++ wM v k (pm 1 D)))) [0, 1, 2, 3, 4, 5, 6, 7, 8, 9, 10, 11, 12, 13, 14, 15, 16, 17] (by decide) rfl).weaken (fun _ _ _ _ => trivial)) hn) lX_m ⟨hX.ta hS, hKl⟩ tw2_194 tw1_0 ⟨by decide, by decide⟩ (by decide +kernel) tw2_192 tw2_193 hP hD hS (fun _ h => h) [0, 1, 2, 3, 4, 5, 6, 7, 8, 9, 10, 11, 12, 13, 14, 15, 16, 17] [18, 19, 20, 21, 22, 23, 24, 25, 26, 27, 28, 29, 30, 31, 32] rfl rfl (by decide) (by decide) d_Law_law_486 ⟨⟨Nat.le_of_ble_eq_true rfl, Nat.le_of_ble_eq_true rfl⟩, hc1, hc2⟩ rfl hl.1 rfl (Nat.le_of_ble_eq_true rfl) (fun H locs hP hD hS => ?_)
      have hP : va_P Dg classes (wD d k D ++ (wL ao kl f ++ (wE a b u v ++ wP b k G ++ wM u k (pm 0 D) ++ wM v k (pm 1 D)))) H := hP
      have hD : va_D (lA s) (wD d k D ++ (wL ao kl f ++ (wE a b u v ++ wP b k G ++ wM u k (pm 0 D) ++ wM v k (pm 1 D)))) := hD
      refine lv_istore hx hb d_Law_law_489 hl (by decide) rfl (fun ls hl => ?_)
      have hl : lv_has ls 7 [(5, .int 1), (4, .int (nI (4 * t))), (0, .ref b0), (1, .ref (a 0)), (2, .ref (d 0)), (3, .ref ao)] := hl
      refine lv_aload_n hx hb d_Law_law_491 rfl (lv_at hl 4 rfl) ?_
      refine lv_aload_n hx hb d_Law_law_492 rfl (lv_at hl 2 rfl) ?_
      refine lv_iload hx hb d_Law_law_493 (lv_at hl 1 rfl) ?_
      refine lv_iconst (v := 1) hx hb d_Law_law_495 (by decide) ?_
      refine lv_iadd hx hb d_Law_law_496 ?_
      rw [nI_1]
      refine va_sld hx hb hsc hbl hbA hS (vp_in_nI (n := 4 * t + 1) (by omega) (by omega)) d_Law_law_497 ?_
      rw [nI_clamp (n := 4 * t + 1) (by omega)]
      refine lv_if_eq (tgt := 505) hx hb d_Law_law_498 (by decide) (fun h9 => absurd h9 hz) (fun _ => ?_)
      refine lv_iconst (v := 1) hx hb d_Law_law_501 (by decide) ?_
      refine lv_goto (tgt := 506) hx hb d_Law_law_502 (by decide) ?_
      refine lv_aload_n hx hb d_Law_law_506 rfl (lv_at hl 2 rfl) ?_
      refine lv_iload hx hb d_Law_law_507 (lv_at hl 1 rfl) ?_
      refine lv_iconst (v := 2) hx hb d_Law_law_509 (by decide) ?_
      refine lv_iadd hx hb d_Law_law_510 ?_
      rw [nI_2]
      refine va_sld hx hb hsc hbl hbA hS (vp_in_nI (n := 4 * t + 2) (by omega) (by omega)) d_Law_law_511 ?_
      rw [nI_clamp (n := 4 * t + 2) (by omega)]
      refine km_Vi (wr := (wL ao kl f ++ (wE a b u v ++ wP b k G ++ wM u k (pm 0 D) ++ wM v k (pm 1 D)))) F (c_Mod_stack l Dg d k D (1 : Int32) (xs (4 * t + 2)) _ (hP.sub (ws' := wD d k D) [0, 1, 2, 3, 4, 5, 6, 7, 8, 9, 10, 11, 12, 13, 14] rfl) ((hD.sub (ws' := wD d k D) [0, 1, 2, 3, 4, 5, 6, 7, 8, 9, 10, 11, 12, 13, 14] (by decide) rfl).weaken (fun _ _ _ _ => trivial)) (stack_rel hR (1 : Int32) (xs (4 * t + 2))).1) kx_K hX.1 kw_Law_82 tw3_154 tw3_155 (va_recv (ci := 3) (q0 := 0) hX.1 hP rfl rfl) hP hD hS (fun _ h => h) [0, 1, 2, 3, 4, 5, 6, 7, 8, 9, 10, 11, 12, 13, 14] [15, 16, 17, 18, 19, 20, 21, 22, 23, 24, 25, 26, 27, 28, 29, 30, 31, 32] rfl rfl (by decide) (by decide) d_Law_law_512 ⟨⟨Nat.le_of_ble_eq_true rfl, Nat.le_of_ble_eq_true rfl⟩, hc1, hc2⟩ rfl hl.1 rfl (Nat.le_of_ble_eq_true rfl) (fun H locs hP hD hS => ?_)
      have hP : va_P Dg classes ((wL ao kl f ++ (wE a b u v ++ wP b k G ++ wM u k (pm 0 D) ++ wM v k (pm 1 D))) ++ wD d k (u2 D 14 0 (dStC D (1 : Int32) (xs (4 * t + 2))))) H := hP
      have hD : va_D (lA s) ((wL ao kl f ++ (wE a b u v ++ wP b k G ++ wM u k (pm 0 D) ++ wM v k (pm 1 D))) ++ wD d k (u2 D 14 0 (dStC D (1 : Int32) (xs (4 * t + 2))))) := hD
      refine lv_istore hx hb d_Law_law_515 hl (by decide) rfl (fun ls hl => ?_)
      have hl : lv_has ls 7 [(6, .int (dStR D (1 : Int32) (xs (4 * t + 2)))), (5, .int 1), (4, .int (nI (4 * t))), (0, .ref b0), (1, .ref (a 0)), (2, .ref (d 0)), (3, .ref ao)] := hl
      refine lv_aload_n hx hb d_Law_law_517 rfl (lv_at hl 5 rfl) ?_
      refine kp_V F (c_Mod_thrown l Dg d k (u2 D 14 0 (dStC D (1 : Int32) (xs (4 * t + 2)))) _ (hP.sub (ws' := wD d k (u2 D 14 0 (dStC D (1 : Int32) (xs (4 * t + 2))))) [18, 19, 20, 21, 22, 23, 24, 25, 26, 27, 28, 29, 30, 31, 32] rfl)) kx_K hX.1 kw_Law_49 tw3_40 tw3_41 (va_recv (ci := 3) (q0 := 18) hX.1 hP rfl rfl) hS d_Law_law_518 ⟨⟨Nat.le_of_ble_eq_true rfl, Nat.le_of_ble_eq_true rfl⟩, hc1, hc2⟩ rfl hl.1 rfl (Nat.le_of_ble_eq_true rfl) (fun locs hS => ?_)
      refine lv_iload hx hb d_Law_law_521 (lv_at hl 1 rfl) ?_
      refine lv_icmp_eq (tgt := 528) hx hb d_Law_law_523 (by decide) (fun _ => ?_) (fun h9 => absurd (by rw [u2_eq]; exact (stack_rel hR (1 : Int32) (xs (4 * t + 2))).2.1 hn) h9)
      refine lv_iload hx hb d_Law_law_528 (lv_at hl 1 rfl) ?_
      refine lv_if_ne (tgt := 545) hx hb d_Law_law_530 (by decide) (fun _ => ?_) (fun h9 => absurd h9 (by decide))
      refine lv_goto (tgt := 716) hx hb d_Law_law_545 (by decide) ?_
      rw [← hpc 0, ← hpc 1] at hP hD
      exact kk f G (u2 D 14 0 (dStC D (1 : Int32) (xs (4 * t + 2)))) H locs ls (hRc.mono (by omega)) hP hD hS (lv_sub hl [2, 3, 4, 5, 6] rfl)
    · obtain ⟨hRc, hpc⟩ := hR.code (dStC D (1 : Int32) (xs (4 * t + 2)))
      have y0 := (stack_rel hR (1 : Int32) (xs (4 * t + 2))).2.2 (fun w => hn (Or.inl w)) (Decidable.byContradiction (fun w => hn (Or.inr w)))
      refine lv_aload_n hx hb d_Law_law_464 rfl (lv_at hl 2 rfl) ?_
      refine lv_aload_n hx hb d_Law_law_465 rfl (lv_at hl 1 rfl) ?_
      refine lv_iload hx hb d_Law_law_466 (lv_at hl 0 rfl) ?_
      refine lv_iconst (v := 1) hx hb d_Law_law_468 (by decide) ?_
      refine lv_iadd hx hb d_Law_law_469 ?_
      rw [nI_1]
      refine va_sld hx hb hsc hbl hbA hS (vp_in_nI (n := 4 * t + 1) (by omega) (by omega)) d_Law_law_470 ?_
      rw [nI_clamp (n := 4 * t + 1) (by omega)]
      refine lv_if_eq (tgt := 478) hx hb d_Law_law_471 (by decide) (fun h9 => absurd h9 hz) (fun _ => ?_)
      refine lv_iconst (v := 1) hx hb d_Law_law_474 (by decide) ?_
      refine lv_goto (tgt := 479) hx hb d_Law_law_475 (by decide) ?_
      refine lv_aload_n hx hb d_Law_law_479 rfl (lv_at hl 1 rfl) ?_
      refine lv_iload hx hb d_Law_law_480 (lv_at hl 0 rfl) ?_
      refine lv_iconst (v := 2) hx hb d_Law_law_482 (by decide) ?_
      refine lv_iadd hx hb d_Law_law_483 ?_
      rw [nI_2]
      refine va_sld hx hb hsc hbl hbA hS (vp_in_nI (n := 4 * t + 2) (by omega) (by omega)) d_Law_law_484 ?_
      rw [nI_clamp (n := 4 * t + 2) (by omega)]
      refine lv_aload_n hx hb d_Law_law_485 rfl (lv_at hl 4 rfl) ?_
      refine kl_S (k := 4) (wr := wD d k D) F (n_Law_stack l Dg a b u v k G (pm 0 D) (pm 1 D) ao kl f q vB s.heap.size (1 : Int32) (xs (4 * t + 2)) _ (hP.sub (ws' := (wL ao kl f ++ (wE a b u v ++ wP b k G ++ wM u k (pm 0 D) ++ wM v k (pm 1 D)))) [0, 1, 2, 3, 4, 5, 6, 7, 8, 9, 10, 11, 12, 13, 14, 15, 16, 17] rfl) ((hD.sub (ws' := (wL ao kl f ++ (wE a b u v ++ wP b k G ++ wM u k (pm 0 D) ++ wM v k (pm 1 D)))) [0, 1, 2, 3, 4, 5, 6, 7, 8, 9, 10, 11, 12, 13, 14, 15, 16, 17] (by decide) rfl).weaken (fun _ _ _ _ => trivial)) (fun w => hn (Or.inl w)) (Decidable.byContradiction (fun w => hn (Or.inr w))) y0.2.1) lX_m ⟨hX.ta hS, hKl⟩ tw2_194 tw1_0 ⟨by decide, by decide⟩ (by decide +kernel) tw2_192 tw2_193 hP hD hS (fun _ h => h) [0, 1, 2, 3, 4, 5, 6, 7, 8, 9, 10, 11, 12, 13, 14, 15, 16, 17] [18, 19, 20, 21, 22, 23, 24, 25, 26, 27, 28, 29, 30, 31, 32] rfl rfl (by decide) (by decide) d_Law_law_486 ⟨⟨Nat.le_of_ble_eq_true rfl, Nat.le_of_ble_eq_true rfl⟩, hc1, hc2⟩ rfl hl.1 rfl (Nat.le_of_ble_eq_true rfl) (fun H locs hP hD hS => ?_)
      have hP : va_P Dg classes (wD d k D ++ (wL ao kl (vp_updL f 0 (Int32.toInt64 ((if (1 : Int32) = 0 then (pm 0 D) else (pm 1 D)) 0 (Int32.toNatClampNeg (xs (4 * t + 2)))))) ++ (wE a b u v ++ wP b k G ++ wM u k (pm 0 D) ++ wM v k (pm 1 D)))) H := hP
      have hD : va_D (lA s) (wD d k D ++ (wL ao kl (vp_updL f 0 (Int32.toInt64 ((if (1 : Int32) = 0 then (pm 0 D) else (pm 1 D)) 0 (Int32.toNatClampNeg (xs (4 * t + 2)))))) ++ (wE a b u v ++ wP b k G ++ wM u k (pm 0 D) ++ wM v k (pm 1 D)))) := hD
      refine lv_istore hx hb d_Law_law_489 hl (by decide) rfl (fun ls hl => ?_)
      have hl : lv_has ls 7 [(5, .int 0), (4, .int (nI (4 * t))), (0, .ref b0), (1, .ref (a 0)), (2, .ref (d 0)), (3, .ref ao)] := hl
      refine lv_aload_n hx hb d_Law_law_491 rfl (lv_at hl 4 rfl) ?_
      refine lv_aload_n hx hb d_Law_law_492 rfl (lv_at hl 2 rfl) ?_
      refine lv_iload hx hb d_Law_law_493 (lv_at hl 1 rfl) ?_
      refine lv_iconst (v := 1) hx hb d_Law_law_495 (by decide) ?_
      refine lv_iadd hx hb d_Law_law_496 ?_
      rw [nI_1]
      refine va_sld hx hb hsc hbl hbA hS (vp_in_nI (n := 4 * t + 1) (by omega) (by omega)) d_Law_law_497 ?_
      rw [nI_clamp (n := 4 * t + 1) (by omega)]
      refine lv_if_eq (tgt := 505) hx hb d_Law_law_498 (by decide) (fun h9 => absurd h9 hz) (fun _ => ?_)
      refine lv_iconst (v := 1) hx hb d_Law_law_501 (by decide) ?_
      refine lv_goto (tgt := 506) hx hb d_Law_law_502 (by decide) ?_
      refine lv_aload_n hx hb d_Law_law_506 rfl (lv_at hl 2 rfl) ?_
      refine lv_iload hx hb d_Law_law_507 (lv_at hl 1 rfl) ?_
      refine lv_iconst (v := 2) hx hb d_Law_law_509 (by decide) ?_
      refine lv_iadd hx hb d_Law_law_510 ?_
      rw [nI_2]
      refine va_sld hx hb hsc hbl hbA hS (vp_in_nI (n := 4 * t + 2) (by omega) (by omega)) d_Law_law_511 ?_
      rw [nI_clamp (n := 4 * t + 2) (by omega)]
      refine km_Vi (wr := (wL ao kl (vp_updL f 0 (Int32.toInt64 ((if (1 : Int32) = 0 then (pm 0 D) else (pm 1 D)) 0 (Int32.toNatClampNeg (xs (4 * t + 2)))))) ++ (wE a b u v ++ wP b k G ++ wM u k (pm 0 D) ++ wM v k (pm 1 D)))) F (c_Mod_stack l Dg d k D (1 : Int32) (xs (4 * t + 2)) _ (hP.sub (ws' := wD d k D) [0, 1, 2, 3, 4, 5, 6, 7, 8, 9, 10, 11, 12, 13, 14] rfl) ((hD.sub (ws' := wD d k D) [0, 1, 2, 3, 4, 5, 6, 7, 8, 9, 10, 11, 12, 13, 14] (by decide) rfl).weaken (fun _ _ _ _ => trivial)) (stack_rel hR (1 : Int32) (xs (4 * t + 2))).1) kx_K hX.1 kw_Law_82 tw3_154 tw3_155 (va_recv (ci := 3) (q0 := 0) hX.1 hP rfl rfl) hP hD hS (fun _ h => h) [0, 1, 2, 3, 4, 5, 6, 7, 8, 9, 10, 11, 12, 13, 14] [15, 16, 17, 18, 19, 20, 21, 22, 23, 24, 25, 26, 27, 28, 29, 30, 31, 32] rfl rfl (by decide) (by decide) d_Law_law_512 ⟨⟨Nat.le_of_ble_eq_true rfl, Nat.le_of_ble_eq_true rfl⟩, hc1, hc2⟩ rfl hl.1 rfl (Nat.le_of_ble_eq_true rfl) (fun H locs hP hD hS => ?_)
      have hP : va_P Dg classes ((wL ao kl (vp_updL f 0 (Int32.toInt64 ((if (1 : Int32) = 0 then (pm 0 D) else (pm 1 D)) 0 (Int32.toNatClampNeg (xs (4 * t + 2)))))) ++ (wE a b u v ++ wP b k G ++ wM u k (pm 0 D) ++ wM v k (pm 1 D))) ++ wD d k (u2 D 14 0 (dStC D (1 : Int32) (xs (4 * t + 2))))) H := hP
      have hD : va_D (lA s) ((wL ao kl (vp_updL f 0 (Int32.toInt64 ((if (1 : Int32) = 0 then (pm 0 D) else (pm 1 D)) 0 (Int32.toNatClampNeg (xs (4 * t + 2)))))) ++ (wE a b u v ++ wP b k G ++ wM u k (pm 0 D) ++ wM v k (pm 1 D))) ++ wD d k (u2 D 14 0 (dStC D (1 : Int32) (xs (4 * t + 2))))) := hD
      refine lv_istore hx hb d_Law_law_515 hl (by decide) rfl (fun ls hl => ?_)
      have hl : lv_has ls 7 [(6, .int (dStR D (1 : Int32) (xs (4 * t + 2)))), (5, .int 0), (4, .int (nI (4 * t))), (0, .ref b0), (1, .ref (a 0)), (2, .ref (d 0)), (3, .ref ao)] := hl
      refine lv_aload_n hx hb d_Law_law_517 rfl (lv_at hl 5 rfl) ?_
      refine kp_V F (c_Mod_thrown l Dg d k (u2 D 14 0 (dStC D (1 : Int32) (xs (4 * t + 2)))) _ (hP.sub (ws' := wD d k (u2 D 14 0 (dStC D (1 : Int32) (xs (4 * t + 2))))) [18, 19, 20, 21, 22, 23, 24, 25, 26, 27, 28, 29, 30, 31, 32] rfl)) kx_K hX.1 kw_Law_49 tw3_40 tw3_41 (va_recv (ci := 3) (q0 := 18) hX.1 hP rfl rfl) hS d_Law_law_518 ⟨⟨Nat.le_of_ble_eq_true rfl, Nat.le_of_ble_eq_true rfl⟩, hc1, hc2⟩ rfl hl.1 rfl (Nat.le_of_ble_eq_true rfl) (fun locs hS => ?_)
      refine lv_iload hx hb d_Law_law_521 (lv_at hl 1 rfl) ?_
      refine lv_icmp_eq (tgt := 528) hx hb d_Law_law_523 (by decide) (fun _ => ?_) (fun h9 => absurd (by rw [u2_eq]; exact y0.1) h9)
      refine lv_iload hx hb d_Law_law_528 (lv_at hl 1 rfl) ?_
      refine lv_if_ne (tgt := 545) hx hb d_Law_law_530 (by decide) (fun h9 => absurd rfl h9) (fun _ => ?_)
      refine lv_aload_n hx hb d_Law_law_533 rfl (lv_at hl 6 rfl) ?_
      refine lv_iconst (v := 0) hx hb d_Law_law_534 (by decide) ?_
      refine va_lald hx hb hKl hP 0 0 rfl rfl (by unfold vp_in; decide) d_Law_law_535 ?_
      rw [show (vp_updL f 0 (Int32.toInt64 ((if (1 : Int32) = 0 then (pm 0 D) else (pm 1 D)) 0 (Int32.toNatClampNeg (xs (4 * t + 2)))))) (Int32.toNatClampNeg 0) = Int32.toInt64 ((if (1 : Int32) = 0 then (pm 0 D) else (pm 1 D)) 0 (Int32.toNatClampNeg (xs (4 * t + 2)))) from if_pos rfl]
      refine lv_iload hx hb d_Law_law_536 (lv_at hl 0 rfl) ?_
      rw [y0.2.2]
      refine lv_i2l hx hb d_Law_law_538 rfl ?_
      refine W.lcmp hx hb d_Law_law_539 ?_
      rw [lcmp_0]
      refine lv_if_eq (tgt := 545) hx hb d_Law_law_540 (by decide) (fun _ => ?_) (fun h9 => absurd rfl h9)
      refine lv_goto (tgt := 716) hx hb d_Law_law_545 (by decide) ?_
      rw [← hpc 0, ← hpc 1] at hP hD
      exact kk (vp_updL f 0 (Int32.toInt64 ((if (1 : Int32) = 0 then (pm 0 D) else (pm 1 D)) 0 (Int32.toNatClampNeg (xs (4 * t + 2)))))) G (u2 D 14 0 (dStC D (1 : Int32) (xs (4 * t + 2)))) H locs ls (hRc.mono (by omega)) hP hD hS (lv_sub hl [2, 3, 4, 5, 6] rfl)

set_option maxRecDepth 100000 in
set_option maxHeartbeats 4000000 in
theorem law_local {p : Program} {l : Launch} {e : Env} {s : State} {m : MethodId} {below : List Frame} {meth : Method} {c0 : Code} {H : Heap} {locs : List Loc} {cells slots : Nat} {Q : State → Prop} {ls : Array Slot} {Dg : va_G} {a b u v d : Nat → Nat} {k : Nat → ClassId} {kl : ClassId} {ao b0 L q vB tL t : Nat} {f : Nat → Int64} {xs : Nat → Int32} {G D : vSt} (F : CallFix p m c0 code 7 s #[Value.ref b0] lw_ok "FusedEngineLaw") (hl0 : l.stackTraces = false) (hX : lF Dg k q vB tL s) (hKl : va_K Dg classes [(kl, .long)] s) (hsc : va_X b0 L xs s s.heap) (hbl : b0 < s.heap.size) (ht : 4 * t + 4 ≤ L) (hL : L ≤ 2048) (hR : Rel (12000 * t) G D)
    (hP : va_P Dg classes ((wL ao kl f ++ (wE a b u v ++ wP b k G ++ wM u k (pm 0 D) ++ wM v k (pm 1 D))) ++ wD d k D) H) (hD : va_D (lA s) ((wL ao kl f ++ (wE a b u v ++ wP b k G ++ wM u k (pm 0 D) ++ wM v k (pm 1 D))) ++ wD d k D)) (hS : va_S (lA s) s.heap H locs) (hl : lv_has ls 7 [(4, .int (nI (4 * t))), (0, .ref b0), (1, .ref (a 0)), (2, .ref (d 0)), (3, .ref ao)]) (hc1 : cells + 1 ≤ room_1.cells) (hc2 : slots + 6 ≤ room_1.slots)
    (kk : ∀ (f : Nat → Int64) (G D : vSt) (H : Heap) (locs : List Loc) (ls : Array Slot), Rel (12000 * (t + 1)) G D → va_P Dg classes ((wL ao kl f ++ (wE a b u v ++ wP b k G ++ wM u k (pm 0 D) ++ wM v k (pm 1 D))) ++ wD d k D) H → va_D (lA s) ((wL ao kl f ++ (wE a b u v ++ wP b k G ++ wM u k (pm 0 D) ++ wM v k (pm 1 D))) ++ wD d k D) → va_S (lA s) s.heap H locs → lv_has ls 7 [(4, .int (nI (4 * t))), (0, .ref b0), (1, .ref (a 0)), (2, .ref (d 0)), (3, .ref ao)] → W p l e room_1 s m #[Value.ref b0] below meth c0 H locs (cells + 1) (slots + 6) Q (F0 m 716 ls [])) : W p l e room_1 s m #[Value.ref b0] below meth c0 H locs cells slots Q (F0 m 548 ls []) := by
  obtain ⟨hx, hb, hml, hown, hT⟩ := id F
  have hbA : ¬ lA s b0 := fun w => absurd w (by show ¬ s.heap.size ≤ b0; omega)
  by_cases hz : (xs (4 * t + 1)) = 0
  · by_cases hn : (xs (4 * t + 2)) < 0 ∨ ¬ (xs (4 * t + 2)) < 8
    · obtain ⟨hRc, hpc⟩ := hR.code (dLoC (xs (4 * t + 2)))
      refine lv_aload_n hx hb d_Law_law_548 rfl (lv_at hl 2 rfl) ?_
      refine lv_aload_n hx hb d_Law_law_549 rfl (lv_at hl 1 rfl) ?_
      refine lv_iload hx hb d_Law_law_550 (lv_at hl 0 rfl) ?_
      refine lv_iconst (v := 1) hx hb d_Law_law_552 (by decide) ?_
      refine lv_iadd hx hb d_Law_law_553 ?_
      rw [nI_1]
      refine va_sld hx hb hsc hbl hbA hS (vp_in_nI (n := 4 * t + 1) (by omega) (by omega)) d_Law_law_554 ?_
      rw [nI_clamp (n := 4 * t + 1) (by omega)]
      refine lv_if_eq (tgt := 562) hx hb d_Law_law_555 (by decide) (fun _ => ?_) (fun h9 => absurd hz h9)
      refine lv_iconst (v := 0) hx hb d_Law_law_562 (by decide) ?_
      refine lv_aload_n hx hb d_Law_law_563 rfl (lv_at hl 1 rfl) ?_
      refine lv_iload hx hb d_Law_law_564 (lv_at hl 0 rfl) ?_
      refine lv_iconst (v := 2) hx hb d_Law_law_566 (by decide) ?_
      refine lv_iadd hx hb d_Law_law_567 ?_
      rw [nI_2]
      refine va_sld hx hb hsc hbl hbA hS (vp_in_nI (n := 4 * t + 2) (by omega) (by omega)) d_Law_law_568 ?_
      rw [nI_clamp (n := 4 * t + 2) (by omega)]
      refine lv_aload_n hx hb d_Law_law_569 rfl (lv_at hl 4 rfl) ?_
      refine kl_S (k := 4) (wr := wD d k D) F (e_Law_local_NS l hl0 Dg a b u v k G (pm 0 D) (pm 1 D) ao kl f q vB s.heap.size (0 : Int32) (xs (4 * t + 2)) _ (hP.sub (ws' := (wL ao kl f ++ (wE a b u v ++ wP b k G ++ wM u k (pm 0 D) ++ wM v k (pm 1 D)))) [0, 1, 2, 3, 4, 5, 6, 7, 8, 9, 10, 11, 12, 13, 14, 15, 16, 17] rfl) ((hD.sub (ws' := (wL ao kl f ++ (wE a b u v ++ wP b k G ++ wM u k (pm 0 D) ++ wM v k (pm 1 D)))) [0, 1, 2, 3, 4, 5, 6, 7, 8, 9, 10, 11, 12, 13, 14, 15, 16, 17] (by decide) rfl).weaken (fun _ _ _ _ => trivial)) hn) lX_m ⟨hX.ta hS, hKl⟩ tw2_202 tw1_0 ⟨by decide, by decide⟩ (by decide +kernel) tw2_200 tw2_201 hP hD hS (fun _ h => h) [0, 1, 2, 3, 4, 5, 6, 7, 8, 9, 10, 11, 12, 13, 14, 15, 16, 17] [18, 19, 20, 21, 22, 23, 24, 25, 26, 27, 28, 29, 30, 31, 32] rfl rfl (by decide) (by decide) d_Law_law_570 ⟨⟨Nat.le_of_ble_eq_true rfl, Nat.le_of_ble_eq_true rfl⟩, hc1, hc2⟩ rfl hl.1 rfl (Nat.le_of_ble_eq_true rfl) (fun H locs hP hD hS => ?_)
      have hP : va_P Dg classes (wD d k D ++ (wL ao kl f ++ (wE a b u v ++ wP b k G ++ wM u k (pm 0 D) ++ wM v k (pm 1 D)))) H := hP
      have hD : va_D (lA s) (wD d k D ++ (wL ao kl f ++ (wE a b u v ++ wP b k G ++ wM u k (pm 0 D) ++ wM v k (pm 1 D)))) := hD
      refine lv_istore hx hb d_Law_law_573 hl (by decide) rfl (fun ls hl => ?_)
      have hl : lv_has ls 7 [(5, .int 1), (4, .int (nI (4 * t))), (0, .ref b0), (1, .ref (a 0)), (2, .ref (d 0)), (3, .ref ao)] := hl
      refine lv_aload_n hx hb d_Law_law_575 rfl (lv_at hl 4 rfl) ?_
      refine lv_aload_n hx hb d_Law_law_576 rfl (lv_at hl 2 rfl) ?_
      refine lv_iload hx hb d_Law_law_577 (lv_at hl 1 rfl) ?_
      refine lv_iconst (v := 1) hx hb d_Law_law_579 (by decide) ?_
      refine lv_iadd hx hb d_Law_law_580 ?_
      rw [nI_1]
      refine va_sld hx hb hsc hbl hbA hS (vp_in_nI (n := 4 * t + 1) (by omega) (by omega)) d_Law_law_581 ?_
      rw [nI_clamp (n := 4 * t + 1) (by omega)]
      refine lv_if_eq (tgt := 589) hx hb d_Law_law_582 (by decide) (fun _ => ?_) (fun h9 => absurd hz h9)
      refine lv_iconst (v := 0) hx hb d_Law_law_589 (by decide) ?_
      refine lv_aload_n hx hb d_Law_law_590 rfl (lv_at hl 2 rfl) ?_
      refine lv_iload hx hb d_Law_law_591 (lv_at hl 1 rfl) ?_
      refine lv_iconst (v := 2) hx hb d_Law_law_593 (by decide) ?_
      refine lv_iadd hx hb d_Law_law_594 ?_
      rw [nI_2]
      refine va_sld hx hb hsc hbl hbA hS (vp_in_nI (n := 4 * t + 2) (by omega) (by omega)) d_Law_law_595 ?_
      rw [nI_clamp (n := 4 * t + 2) (by omega)]
      refine km_Vi (wr := (wL ao kl f ++ (wE a b u v ++ wP b k G ++ wM u k (pm 0 D) ++ wM v k (pm 1 D)))) F (c_Mod_local l Dg d k D (0 : Int32) (xs (4 * t + 2)) _ (hP.sub (ws' := wD d k D) [0, 1, 2, 3, 4, 5, 6, 7, 8, 9, 10, 11, 12, 13, 14] rfl) ((hD.sub (ws' := wD d k D) [0, 1, 2, 3, 4, 5, 6, 7, 8, 9, 10, 11, 12, 13, 14] (by decide) rfl).weaken (fun _ _ _ _ => trivial)) (local_rel D (0 : Int32) (xs (4 * t + 2))).1) kx_K hX.1 kw_Law_85 tw3_158 tw3_159 (va_recv (ci := 3) (q0 := 0) hX.1 hP rfl rfl) hP hD hS (fun _ h => h) [0, 1, 2, 3, 4, 5, 6, 7, 8, 9, 10, 11, 12, 13, 14] [15, 16, 17, 18, 19, 20, 21, 22, 23, 24, 25, 26, 27, 28, 29, 30, 31, 32] rfl rfl (by decide) (by decide) d_Law_law_596 ⟨⟨Nat.le_of_ble_eq_true rfl, Nat.le_of_ble_eq_true rfl⟩, hc1, hc2⟩ rfl hl.1 rfl (Nat.le_of_ble_eq_true rfl) (fun H locs hP hD hS => ?_)
      have hP : va_P Dg classes ((wL ao kl f ++ (wE a b u v ++ wP b k G ++ wM u k (pm 0 D) ++ wM v k (pm 1 D))) ++ wD d k (u2 D 14 0 (dLoC (xs (4 * t + 2))))) H := hP
      have hD : va_D (lA s) ((wL ao kl f ++ (wE a b u v ++ wP b k G ++ wM u k (pm 0 D) ++ wM v k (pm 1 D))) ++ wD d k (u2 D 14 0 (dLoC (xs (4 * t + 2))))) := hD
      refine lv_istore hx hb d_Law_law_599 hl (by decide) rfl (fun ls hl => ?_)
      have hl : lv_has ls 7 [(6, .int (dLoR D (0 : Int32) (xs (4 * t + 2)))), (5, .int 1), (4, .int (nI (4 * t))), (0, .ref b0), (1, .ref (a 0)), (2, .ref (d 0)), (3, .ref ao)] := hl
      refine lv_aload_n hx hb d_Law_law_601 rfl (lv_at hl 5 rfl) ?_
      refine kp_V F (c_Mod_thrown l Dg d k (u2 D 14 0 (dLoC (xs (4 * t + 2)))) _ (hP.sub (ws' := wD d k (u2 D 14 0 (dLoC (xs (4 * t + 2))))) [18, 19, 20, 21, 22, 23, 24, 25, 26, 27, 28, 29, 30, 31, 32] rfl)) kx_K hX.1 kw_Law_49 tw3_40 tw3_41 (va_recv (ci := 3) (q0 := 18) hX.1 hP rfl rfl) hS d_Law_law_602 ⟨⟨Nat.le_of_ble_eq_true rfl, Nat.le_of_ble_eq_true rfl⟩, hc1, hc2⟩ rfl hl.1 rfl (Nat.le_of_ble_eq_true rfl) (fun locs hS => ?_)
      refine lv_iload hx hb d_Law_law_605 (lv_at hl 1 rfl) ?_
      refine lv_icmp_eq (tgt := 612) hx hb d_Law_law_607 (by decide) (fun _ => ?_) (fun h9 => absurd (by rw [u2_eq]; exact (local_rel D (0 : Int32) (xs (4 * t + 2))).2.1 hn) h9)
      refine lv_iload hx hb d_Law_law_612 (lv_at hl 1 rfl) ?_
      refine lv_if_ne (tgt := 629) hx hb d_Law_law_614 (by decide) (fun _ => ?_) (fun h9 => absurd h9 (by decide))
      refine lv_goto (tgt := 716) hx hb d_Law_law_629 (by decide) ?_
      rw [← hpc 0, ← hpc 1] at hP hD
      exact kk f G (u2 D 14 0 (dLoC (xs (4 * t + 2)))) H locs ls (hRc.mono (by omega)) hP hD hS (lv_sub hl [2, 3, 4, 5, 6] rfl)
    · obtain ⟨hRc, hpc⟩ := hR.code (dLoC (xs (4 * t + 2)))
      have y0 := (local_rel D (0 : Int32) (xs (4 * t + 2))).2.2 (fun w => hn (Or.inl w)) (Decidable.byContradiction (fun w => hn (Or.inr w)))
      refine lv_aload_n hx hb d_Law_law_548 rfl (lv_at hl 2 rfl) ?_
      refine lv_aload_n hx hb d_Law_law_549 rfl (lv_at hl 1 rfl) ?_
      refine lv_iload hx hb d_Law_law_550 (lv_at hl 0 rfl) ?_
      refine lv_iconst (v := 1) hx hb d_Law_law_552 (by decide) ?_
      refine lv_iadd hx hb d_Law_law_553 ?_
      rw [nI_1]
      refine va_sld hx hb hsc hbl hbA hS (vp_in_nI (n := 4 * t + 1) (by omega) (by omega)) d_Law_law_554 ?_
      rw [nI_clamp (n := 4 * t + 1) (by omega)]
      refine lv_if_eq (tgt := 562) hx hb d_Law_law_555 (by decide) (fun _ => ?_) (fun h9 => absurd hz h9)
      refine lv_iconst (v := 0) hx hb d_Law_law_562 (by decide) ?_
      refine lv_aload_n hx hb d_Law_law_563 rfl (lv_at hl 1 rfl) ?_
      refine lv_iload hx hb d_Law_law_564 (lv_at hl 0 rfl) ?_
      refine lv_iconst (v := 2) hx hb d_Law_law_566 (by decide) ?_
      refine lv_iadd hx hb d_Law_law_567 ?_
      rw [nI_2]
      refine va_sld hx hb hsc hbl hbA hS (vp_in_nI (n := 4 * t + 2) (by omega) (by omega)) d_Law_law_568 ?_
      rw [nI_clamp (n := 4 * t + 2) (by omega)]
      refine lv_aload_n hx hb d_Law_law_569 rfl (lv_at hl 4 rfl) ?_
      refine kl_S (k := 4) (wr := wD d k D) F (n_Law_local l Dg a b u v k G (pm 0 D) (pm 1 D) ao kl f q vB s.heap.size (0 : Int32) (xs (4 * t + 2)) _ (hP.sub (ws' := (wL ao kl f ++ (wE a b u v ++ wP b k G ++ wM u k (pm 0 D) ++ wM v k (pm 1 D)))) [0, 1, 2, 3, 4, 5, 6, 7, 8, 9, 10, 11, 12, 13, 14, 15, 16, 17] rfl) ((hD.sub (ws' := (wL ao kl f ++ (wE a b u v ++ wP b k G ++ wM u k (pm 0 D) ++ wM v k (pm 1 D)))) [0, 1, 2, 3, 4, 5, 6, 7, 8, 9, 10, 11, 12, 13, 14, 15, 16, 17] (by decide) rfl).weaken (fun _ _ _ _ => trivial)) (fun w => hn (Or.inl w)) (Decidable.byContradiction (fun w => hn (Or.inr w))) y0.2.1) lX_m ⟨hX.ta hS, hKl⟩ tw2_202 tw1_0 ⟨by decide, by decide⟩ (by decide +kernel) tw2_200 tw2_201 hP hD hS (fun _ h => h) [0, 1, 2, 3, 4, 5, 6, 7, 8, 9, 10, 11, 12, 13, 14, 15, 16, 17] [18, 19, 20, 21, 22, 23, 24, 25, 26, 27, 28, 29, 30, 31, 32] rfl rfl (by decide) (by decide) d_Law_law_570 ⟨⟨Nat.le_of_ble_eq_true rfl, Nat.le_of_ble_eq_true rfl⟩, hc1, hc2⟩ rfl hl.1 rfl (Nat.le_of_ble_eq_true rfl) (fun H locs hP hD hS => ?_)
      have hP : va_P Dg classes (wD d k D ++ (wL ao kl (vp_updL f 0 (Int32.toInt64 ((if (0 : Int32) = 0 then (pm 0 D) else (pm 1 D)) 1 (Int32.toNatClampNeg (xs (4 * t + 2)))))) ++ (wE a b u v ++ wP b k G ++ wM u k (pm 0 D) ++ wM v k (pm 1 D)))) H := hP
      have hD : va_D (lA s) (wD d k D ++ (wL ao kl (vp_updL f 0 (Int32.toInt64 ((if (0 : Int32) = 0 then (pm 0 D) else (pm 1 D)) 1 (Int32.toNatClampNeg (xs (4 * t + 2)))))) ++ (wE a b u v ++ wP b k G ++ wM u k (pm 0 D) ++ wM v k (pm 1 D)))) := hD
      refine lv_istore hx hb d_Law_law_573 hl (by decide) rfl (fun ls hl => ?_)
      have hl : lv_has ls 7 [(5, .int 0), (4, .int (nI (4 * t))), (0, .ref b0), (1, .ref (a 0)), (2, .ref (d 0)), (3, .ref ao)] := hl
      refine lv_aload_n hx hb d_Law_law_575 rfl (lv_at hl 4 rfl) ?_
      refine lv_aload_n hx hb d_Law_law_576 rfl (lv_at hl 2 rfl) ?_
      refine lv_iload hx hb d_Law_law_577 (lv_at hl 1 rfl) ?_
      refine lv_iconst (v := 1) hx hb d_Law_law_579 (by decide) ?_
      refine lv_iadd hx hb d_Law_law_580 ?_
      rw [nI_1]
      refine va_sld hx hb hsc hbl hbA hS (vp_in_nI (n := 4 * t + 1) (by omega) (by omega)) d_Law_law_581 ?_
      rw [nI_clamp (n := 4 * t + 1) (by omega)]
      refine lv_if_eq (tgt := 589) hx hb d_Law_law_582 (by decide) (fun _ => ?_) (fun h9 => absurd hz h9)
      refine lv_iconst (v := 0) hx hb d_Law_law_589 (by decide) ?_
      refine lv_aload_n hx hb d_Law_law_590 rfl (lv_at hl 2 rfl) ?_
      refine lv_iload hx hb d_Law_law_591 (lv_at hl 1 rfl) ?_
      refine lv_iconst (v := 2) hx hb d_Law_law_593 (by decide) ?_
      refine lv_iadd hx hb d_Law_law_594 ?_
      rw [nI_2]
      refine va_sld hx hb hsc hbl hbA hS (vp_in_nI (n := 4 * t + 2) (by omega) (by omega)) d_Law_law_595 ?_
      rw [nI_clamp (n := 4 * t + 2) (by omega)]
      refine km_Vi (wr := (wL ao kl (vp_updL f 0 (Int32.toInt64 ((if (0 : Int32) = 0 then (pm 0 D) else (pm 1 D)) 1 (Int32.toNatClampNeg (xs (4 * t + 2)))))) ++ (wE a b u v ++ wP b k G ++ wM u k (pm 0 D) ++ wM v k (pm 1 D)))) F (c_Mod_local l Dg d k D (0 : Int32) (xs (4 * t + 2)) _ (hP.sub (ws' := wD d k D) [0, 1, 2, 3, 4, 5, 6, 7, 8, 9, 10, 11, 12, 13, 14] rfl) ((hD.sub (ws' := wD d k D) [0, 1, 2, 3, 4, 5, 6, 7, 8, 9, 10, 11, 12, 13, 14] (by decide) rfl).weaken (fun _ _ _ _ => trivial)) (local_rel D (0 : Int32) (xs (4 * t + 2))).1) kx_K hX.1 kw_Law_85 tw3_158 tw3_159 (va_recv (ci := 3) (q0 := 0) hX.1 hP rfl rfl) hP hD hS (fun _ h => h) [0, 1, 2, 3, 4, 5, 6, 7, 8, 9, 10, 11, 12, 13, 14] [15, 16, 17, 18, 19, 20, 21, 22, 23, 24, 25, 26, 27, 28, 29, 30, 31, 32] rfl rfl (by decide) (by decide) d_Law_law_596 ⟨⟨Nat.le_of_ble_eq_true rfl, Nat.le_of_ble_eq_true rfl⟩, hc1, hc2⟩ rfl hl.1 rfl (Nat.le_of_ble_eq_true rfl) (fun H locs hP hD hS => ?_)
      have hP : va_P Dg classes ((wL ao kl (vp_updL f 0 (Int32.toInt64 ((if (0 : Int32) = 0 then (pm 0 D) else (pm 1 D)) 1 (Int32.toNatClampNeg (xs (4 * t + 2)))))) ++ (wE a b u v ++ wP b k G ++ wM u k (pm 0 D) ++ wM v k (pm 1 D))) ++ wD d k (u2 D 14 0 (dLoC (xs (4 * t + 2))))) H := hP
      have hD : va_D (lA s) ((wL ao kl (vp_updL f 0 (Int32.toInt64 ((if (0 : Int32) = 0 then (pm 0 D) else (pm 1 D)) 1 (Int32.toNatClampNeg (xs (4 * t + 2)))))) ++ (wE a b u v ++ wP b k G ++ wM u k (pm 0 D) ++ wM v k (pm 1 D))) ++ wD d k (u2 D 14 0 (dLoC (xs (4 * t + 2))))) := hD
      refine lv_istore hx hb d_Law_law_599 hl (by decide) rfl (fun ls hl => ?_)
      have hl : lv_has ls 7 [(6, .int (dLoR D (0 : Int32) (xs (4 * t + 2)))), (5, .int 0), (4, .int (nI (4 * t))), (0, .ref b0), (1, .ref (a 0)), (2, .ref (d 0)), (3, .ref ao)] := hl
      refine lv_aload_n hx hb d_Law_law_601 rfl (lv_at hl 5 rfl) ?_
      refine kp_V F (c_Mod_thrown l Dg d k (u2 D 14 0 (dLoC (xs (4 * t + 2)))) _ (hP.sub (ws' := wD d k (u2 D 14 0 (dLoC (xs (4 * t + 2))))) [18, 19, 20, 21, 22, 23, 24, 25, 26, 27, 28, 29, 30, 31, 32] rfl)) kx_K hX.1 kw_Law_49 tw3_40 tw3_41 (va_recv (ci := 3) (q0 := 18) hX.1 hP rfl rfl) hS d_Law_law_602 ⟨⟨Nat.le_of_ble_eq_true rfl, Nat.le_of_ble_eq_true rfl⟩, hc1, hc2⟩ rfl hl.1 rfl (Nat.le_of_ble_eq_true rfl) (fun locs hS => ?_)
      refine lv_iload hx hb d_Law_law_605 (lv_at hl 1 rfl) ?_
      refine lv_icmp_eq (tgt := 612) hx hb d_Law_law_607 (by decide) (fun _ => ?_) (fun h9 => absurd (by rw [u2_eq]; exact y0.1) h9)
      refine lv_iload hx hb d_Law_law_612 (lv_at hl 1 rfl) ?_
      refine lv_if_ne (tgt := 629) hx hb d_Law_law_614 (by decide) (fun h9 => absurd rfl h9) (fun _ => ?_)
      refine lv_aload_n hx hb d_Law_law_617 rfl (lv_at hl 6 rfl) ?_
      refine lv_iconst (v := 0) hx hb d_Law_law_618 (by decide) ?_
      refine va_lald hx hb hKl hP 0 0 rfl rfl (by unfold vp_in; decide) d_Law_law_619 ?_
      rw [show (vp_updL f 0 (Int32.toInt64 ((if (0 : Int32) = 0 then (pm 0 D) else (pm 1 D)) 1 (Int32.toNatClampNeg (xs (4 * t + 2)))))) (Int32.toNatClampNeg 0) = Int32.toInt64 ((if (0 : Int32) = 0 then (pm 0 D) else (pm 1 D)) 1 (Int32.toNatClampNeg (xs (4 * t + 2)))) from if_pos rfl]
      refine lv_iload hx hb d_Law_law_620 (lv_at hl 0 rfl) ?_
      rw [y0.2.2]
      refine lv_i2l hx hb d_Law_law_622 rfl ?_
      refine W.lcmp hx hb d_Law_law_623 ?_
      rw [lcmp_0]
      refine lv_if_eq (tgt := 629) hx hb d_Law_law_624 (by decide) (fun _ => ?_) (fun h9 => absurd rfl h9)
      refine lv_goto (tgt := 716) hx hb d_Law_law_629 (by decide) ?_
      rw [← hpc 0, ← hpc 1] at hP hD
      exact kk (vp_updL f 0 (Int32.toInt64 ((if (0 : Int32) = 0 then (pm 0 D) else (pm 1 D)) 1 (Int32.toNatClampNeg (xs (4 * t + 2)))))) G (u2 D 14 0 (dLoC (xs (4 * t + 2)))) H locs ls (hRc.mono (by omega)) hP hD hS (lv_sub hl [2, 3, 4, 5, 6] rfl)
  · by_cases hn : (xs (4 * t + 2)) < 0 ∨ ¬ (xs (4 * t + 2)) < 8
    · obtain ⟨hRc, hpc⟩ := hR.code (dLoC (xs (4 * t + 2)))
      refine lv_aload_n hx hb d_Law_law_548 rfl (lv_at hl 2 rfl) ?_
      refine lv_aload_n hx hb d_Law_law_549 rfl (lv_at hl 1 rfl) ?_
      refine lv_iload hx hb d_Law_law_550 (lv_at hl 0 rfl) ?_
      refine lv_iconst (v := 1) hx hb d_Law_law_552 (by decide) ?_
      refine lv_iadd hx hb d_Law_law_553 ?_
      rw [nI_1]
      refine va_sld hx hb hsc hbl hbA hS (vp_in_nI (n := 4 * t + 1) (by omega) (by omega)) d_Law_law_554 ?_
      rw [nI_clamp (n := 4 * t + 1) (by omega)]
      refine lv_if_eq (tgt := 562) hx hb d_Law_law_555 (by decide) (fun h9 => absurd h9 hz) (fun _ => ?_)
      refine lv_iconst (v := 1) hx hb d_Law_law_558 (by decide) ?_
      refine lv_goto (tgt := 563) hx hb d_Law_law_559 (by decide) ?_
      refine lv_aload_n hx hb d_Law_law_563 rfl (lv_at hl 1 rfl) ?_
      refine lv_iload hx hb d_Law_law_564 (lv_at hl 0 rfl) ?_
      refine lv_iconst (v := 2) hx hb d_Law_law_566 (by decide) ?_
      refine lv_iadd hx hb d_Law_law_567 ?_
      rw [nI_2]
      refine va_sld hx hb hsc hbl hbA hS (vp_in_nI (n := 4 * t + 2) (by omega) (by omega)) d_Law_law_568 ?_
      rw [nI_clamp (n := 4 * t + 2) (by omega)]
      refine lv_aload_n hx hb d_Law_law_569 rfl (lv_at hl 4 rfl) ?_
      refine kl_S (k := 4) (wr := wD d k D) F (e_Law_local_NS l hl0 Dg a b u v k G (pm 0 D) (pm 1 D) ao kl f q vB s.heap.size (1 : Int32) (xs (4 * t + 2)) _ (hP.sub (ws' := (wL ao kl f ++ (wE a b u v ++ wP b k G ++ wM u k (pm 0 D) ++ wM v k (pm 1 D)))) [0, 1, 2, 3, 4, 5, 6, 7, 8, 9, 10, 11, 12, 13, 14, 15, 16, 17] rfl) ((hD.sub (ws' := (wL ao kl f ++ (wE a b u v ++ wP b k G ++ wM u k (pm 0 D) ++ wM v k (pm 1 D)))) [0, 1, 2, 3, 4, 5, 6, 7, 8, 9, 10, 11, 12, 13, 14, 15, 16, 17] (by decide) rfl).weaken (fun _ _ _ _ => trivial)) hn) lX_m ⟨hX.ta hS, hKl⟩ tw2_202 tw1_0 ⟨by decide, by decide⟩ (by decide +kernel) tw2_200 tw2_201 hP hD hS (fun _ h => h) [0, 1, 2, 3, 4, 5, 6, 7, 8, 9, 10, 11, 12, 13, 14, 15, 16, 17] [18, 19, 20, 21, 22, 23, 24, 25, 26, 27, 28, 29, 30, 31, 32] rfl rfl (by decide) (by decide) d_Law_law_570 ⟨⟨Nat.le_of_ble_eq_true rfl, Nat.le_of_ble_eq_true rfl⟩, hc1, hc2⟩ rfl hl.1 rfl (Nat.le_of_ble_eq_true rfl) (fun H locs hP hD hS => ?_)
      have hP : va_P Dg classes (wD d k D ++ (wL ao kl f ++ (wE a b u v ++ wP b k G ++ wM u k (pm 0 D) ++ wM v k (pm 1 D)))) H := hP
      have hD : va_D (lA s) (wD d k D ++ (wL ao kl f ++ (wE a b u v ++ wP b k G ++ wM u k (pm 0 D) ++ wM v k (pm 1 D)))) := hD
      refine lv_istore hx hb d_Law_law_573 hl (by decide) rfl (fun ls hl => ?_)
      have hl : lv_has ls 7 [(5, .int 1), (4, .int (nI (4 * t))), (0, .ref b0), (1, .ref (a 0)), (2, .ref (d 0)), (3, .ref ao)] := hl
      refine lv_aload_n hx hb d_Law_law_575 rfl (lv_at hl 4 rfl) ?_
      refine lv_aload_n hx hb d_Law_law_576 rfl (lv_at hl 2 rfl) ?_
      refine lv_iload hx hb d_Law_law_577 (lv_at hl 1 rfl) ?_
      refine lv_iconst (v := 1) hx hb d_Law_law_579 (by decide) ?_
      refine lv_iadd hx hb d_Law_law_580 ?_
      rw [nI_1]
      refine va_sld hx hb hsc hbl hbA hS (vp_in_nI (n := 4 * t + 1) (by omega) (by omega)) d_Law_law_581 ?_
      rw [nI_clamp (n := 4 * t + 1) (by omega)]
      refine lv_if_eq (tgt := 589) hx hb d_Law_law_582 (by decide) (fun h9 => absurd h9 hz) (fun _ => ?_)
      refine lv_iconst (v := 1) hx hb d_Law_law_585 (by decide) ?_
      refine lv_goto (tgt := 590) hx hb d_Law_law_586 (by decide) ?_
      refine lv_aload_n hx hb d_Law_law_590 rfl (lv_at hl 2 rfl) ?_
      refine lv_iload hx hb d_Law_law_591 (lv_at hl 1 rfl) ?_
      refine lv_iconst (v := 2) hx hb d_Law_law_593 (by decide) ?_
      refine lv_iadd hx hb d_Law_law_594 ?_
      rw [nI_2]
      refine va_sld hx hb hsc hbl hbA hS (vp_in_nI (n := 4 * t + 2) (by omega) (by omega)) d_Law_law_595 ?_
      rw [nI_clamp (n := 4 * t + 2) (by omega)]
      refine km_Vi (wr := (wL ao kl f ++ (wE a b u v ++ wP b k G ++ wM u k (pm 0 D) ++ wM v k (pm 1 D)))) F (c_Mod_local l Dg d k D (1 : Int32) (xs (4 * t + 2)) _ (hP.sub (ws' := wD d k D) [0, 1, 2, 3, 4, 5, 6, 7, 8, 9, 10, 11, 12, 13, 14] rfl) ((hD.sub (ws' := wD d k D) [0, 1, 2, 3, 4, 5, 6, 7, 8, 9, 10, 11, 12, 13, 14] (by decide) rfl).weaken (fun _ _ _ _ => trivial)) (local_rel D (1 : Int32) (xs (4 * t + 2))).1) kx_K hX.1 kw_Law_85 tw3_158 tw3_159 (va_recv (ci := 3) (q0 := 0) hX.1 hP rfl rfl) hP hD hS (fun _ h => h) [0, 1, 2, 3, 4, 5, 6, 7, 8, 9, 10, 11, 12, 13, 14] [15, 16, 17, 18, 19, 20, 21, 22, 23, 24, 25, 26, 27, 28, 29, 30, 31, 32] rfl rfl (by decide) (by decide) d_Law_law_596 ⟨⟨Nat.le_of_ble_eq_true rfl, Nat.le_of_ble_eq_true rfl⟩, hc1, hc2⟩ rfl hl.1 rfl (Nat.le_of_ble_eq_true rfl) (fun H locs hP hD hS => ?_)
      have hP : va_P Dg classes ((wL ao kl f ++ (wE a b u v ++ wP b k G ++ wM u k (pm 0 D) ++ wM v k (pm 1 D))) ++ wD d k (u2 D 14 0 (dLoC (xs (4 * t + 2))))) H := hP
      have hD : va_D (lA s) ((wL ao kl f ++ (wE a b u v ++ wP b k G ++ wM u k (pm 0 D) ++ wM v k (pm 1 D))) ++ wD d k (u2 D 14 0 (dLoC (xs (4 * t + 2))))) := hD
      refine lv_istore hx hb d_Law_law_599 hl (by decide) rfl (fun ls hl => ?_)
      have hl : lv_has ls 7 [(6, .int (dLoR D (1 : Int32) (xs (4 * t + 2)))), (5, .int 1), (4, .int (nI (4 * t))), (0, .ref b0), (1, .ref (a 0)), (2, .ref (d 0)), (3, .ref ao)] := hl
      refine lv_aload_n hx hb d_Law_law_601 rfl (lv_at hl 5 rfl) ?_
      refine kp_V F (c_Mod_thrown l Dg d k (u2 D 14 0 (dLoC (xs (4 * t + 2)))) _ (hP.sub (ws' := wD d k (u2 D 14 0 (dLoC (xs (4 * t + 2))))) [18, 19, 20, 21, 22, 23, 24, 25, 26, 27, 28, 29, 30, 31, 32] rfl)) kx_K hX.1 kw_Law_49 tw3_40 tw3_41 (va_recv (ci := 3) (q0 := 18) hX.1 hP rfl rfl) hS d_Law_law_602 ⟨⟨Nat.le_of_ble_eq_true rfl, Nat.le_of_ble_eq_true rfl⟩, hc1, hc2⟩ rfl hl.1 rfl (Nat.le_of_ble_eq_true rfl) (fun locs hS => ?_)
      refine lv_iload hx hb d_Law_law_605 (lv_at hl 1 rfl) ?_
      refine lv_icmp_eq (tgt := 612) hx hb d_Law_law_607 (by decide) (fun _ => ?_) (fun h9 => absurd (by rw [u2_eq]; exact (local_rel D (1 : Int32) (xs (4 * t + 2))).2.1 hn) h9)
      refine lv_iload hx hb d_Law_law_612 (lv_at hl 1 rfl) ?_
      refine lv_if_ne (tgt := 629) hx hb d_Law_law_614 (by decide) (fun _ => ?_) (fun h9 => absurd h9 (by decide))
      refine lv_goto (tgt := 716) hx hb d_Law_law_629 (by decide) ?_
      rw [← hpc 0, ← hpc 1] at hP hD
      exact kk f G (u2 D 14 0 (dLoC (xs (4 * t + 2)))) H locs ls (hRc.mono (by omega)) hP hD hS (lv_sub hl [2, 3, 4, 5, 6] rfl)
    · obtain ⟨hRc, hpc⟩ := hR.code (dLoC (xs (4 * t + 2)))
      have y0 := (local_rel D (1 : Int32) (xs (4 * t + 2))).2.2 (fun w => hn (Or.inl w)) (Decidable.byContradiction (fun w => hn (Or.inr w)))
      refine lv_aload_n hx hb d_Law_law_548 rfl (lv_at hl 2 rfl) ?_
      refine lv_aload_n hx hb d_Law_law_549 rfl (lv_at hl 1 rfl) ?_
      refine lv_iload hx hb d_Law_law_550 (lv_at hl 0 rfl) ?_
      refine lv_iconst (v := 1) hx hb d_Law_law_552 (by decide) ?_
      refine lv_iadd hx hb d_Law_law_553 ?_
      rw [nI_1]
      refine va_sld hx hb hsc hbl hbA hS (vp_in_nI (n := 4 * t + 1) (by omega) (by omega)) d_Law_law_554 ?_
      rw [nI_clamp (n := 4 * t + 1) (by omega)]
      refine lv_if_eq (tgt := 562) hx hb d_Law_law_555 (by decide) (fun h9 => absurd h9 hz) (fun _ => ?_)
      refine lv_iconst (v := 1) hx hb d_Law_law_558 (by decide) ?_
      refine lv_goto (tgt := 563) hx hb d_Law_law_559 (by decide) ?_
      refine lv_aload_n hx hb d_Law_law_563 rfl (lv_at hl 1 rfl) ?_
      refine lv_iload hx hb d_Law_law_564 (lv_at hl 0 rfl) ?_
      refine lv_iconst (v := 2) hx hb d_Law_law_566 (by decide) ?_
      refine lv_iadd hx hb d_Law_law_567 ?_
      rw [nI_2]
      refine va_sld hx hb hsc hbl hbA hS (vp_in_nI (n := 4 * t + 2) (by omega) (by omega)) d_Law_law_568 ?_
      rw [nI_clamp (n := 4 * t + 2) (by omega)]
      refine lv_aload_n hx hb d_Law_law_569 rfl (lv_at hl 4 rfl) ?_
      refine kl_S (k := 4) (wr := wD d k D) F (n_Law_local l Dg a b u v k G (pm 0 D) (pm 1 D) ao kl f q vB s.heap.size (1 : Int32) (xs (4 * t + 2)) _ (hP.sub (ws' := (wL ao kl f ++ (wE a b u v ++ wP b k G ++ wM u k (pm 0 D) ++ wM v k (pm 1 D)))) [0, 1, 2, 3, 4, 5, 6, 7, 8, 9, 10, 11, 12, 13, 14, 15, 16, 17] rfl) ((hD.sub (ws' := (wL ao kl f ++ (wE a b u v ++ wP b k G ++ wM u k (pm 0 D) ++ wM v k (pm 1 D)))) [0, 1, 2, 3, 4, 5, 6, 7, 8, 9, 10, 11, 12, 13, 14, 15, 16, 17] (by decide) rfl).weaken (fun _ _ _ _ => trivial)) (fun w => hn (Or.inl w)) (Decidable.byContradiction (fun w => hn (Or.inr w))) y0.2.1) lX_m ⟨hX.ta hS, hKl⟩ tw2_202 tw1_0 ⟨by decide, by decide⟩ (by decide +kernel) tw2_200 tw2_201 hP hD hS (fun _ h => h) [0, 1, 2, 3, 4, 5, 6, 7, 8, 9, 10, 11, 12, 13, 14, 15, 16, 17] [18, 19, 20, 21, 22, 23, 24, 25, 26, 27, 28, 29, 30, 31, 32] rfl rfl (by decide) (by decide) d_Law_law_570 ⟨⟨Nat.le_of_ble_eq_true rfl, Nat.le_of_ble_eq_true rfl⟩, hc1, hc2⟩ rfl hl.1 rfl (Nat.le_of_ble_eq_true rfl) (fun H locs hP hD hS => ?_)
      have hP : va_P Dg classes (wD d k D ++ (wL ao kl (vp_updL f 0 (Int32.toInt64 ((if (1 : Int32) = 0 then (pm 0 D) else (pm 1 D)) 1 (Int32.toNatClampNeg (xs (4 * t + 2)))))) ++ (wE a b u v ++ wP b k G ++ wM u k (pm 0 D) ++ wM v k (pm 1 D)))) H := hP
      have hD : va_D (lA s) (wD d k D ++ (wL ao kl (vp_updL f 0 (Int32.toInt64 ((if (1 : Int32) = 0 then (pm 0 D) else (pm 1 D)) 1 (Int32.toNatClampNeg (xs (4 * t + 2)))))) ++ (wE a b u v ++ wP b k G ++ wM u k (pm 0 D) ++ wM v k (pm 1 D)))) := hD
      refine lv_istore hx hb d_Law_law_573 hl (by decide) rfl (fun ls hl => ?_)
      have hl : lv_has ls 7 [(5, .int 0), (4, .int (nI (4 * t))), (0, .ref b0), (1, .ref (a 0)), (2, .ref (d 0)), (3, .ref ao)] := hl
      refine lv_aload_n hx hb d_Law_law_575 rfl (lv_at hl 4 rfl) ?_
      refine lv_aload_n hx hb d_Law_law_576 rfl (lv_at hl 2 rfl) ?_
      refine lv_iload hx hb d_Law_law_577 (lv_at hl 1 rfl) ?_
      refine lv_iconst (v := 1) hx hb d_Law_law_579 (by decide) ?_
      refine lv_iadd hx hb d_Law_law_580 ?_
      rw [nI_1]
      refine va_sld hx hb hsc hbl hbA hS (vp_in_nI (n := 4 * t + 1) (by omega) (by omega)) d_Law_law_581 ?_
      rw [nI_clamp (n := 4 * t + 1) (by omega)]
      refine lv_if_eq (tgt := 589) hx hb d_Law_law_582 (by decide) (fun h9 => absurd h9 hz) (fun _ => ?_)
      refine lv_iconst (v := 1) hx hb d_Law_law_585 (by decide) ?_
      refine lv_goto (tgt := 590) hx hb d_Law_law_586 (by decide) ?_
      refine lv_aload_n hx hb d_Law_law_590 rfl (lv_at hl 2 rfl) ?_
      refine lv_iload hx hb d_Law_law_591 (lv_at hl 1 rfl) ?_
      refine lv_iconst (v := 2) hx hb d_Law_law_593 (by decide) ?_
      refine lv_iadd hx hb d_Law_law_594 ?_
      rw [nI_2]
      refine va_sld hx hb hsc hbl hbA hS (vp_in_nI (n := 4 * t + 2) (by omega) (by omega)) d_Law_law_595 ?_
      rw [nI_clamp (n := 4 * t + 2) (by omega)]
      refine km_Vi (wr := (wL ao kl (vp_updL f 0 (Int32.toInt64 ((if (1 : Int32) = 0 then (pm 0 D) else (pm 1 D)) 1 (Int32.toNatClampNeg (xs (4 * t + 2)))))) ++ (wE a b u v ++ wP b k G ++ wM u k (pm 0 D) ++ wM v k (pm 1 D)))) F (c_Mod_local l Dg d k D (1 : Int32) (xs (4 * t + 2)) _ (hP.sub (ws' := wD d k D) [0, 1, 2, 3, 4, 5, 6, 7, 8, 9, 10, 11, 12, 13, 14] rfl) ((hD.sub (ws' := wD d k D) [0, 1, 2, 3, 4, 5, 6, 7, 8, 9, 10, 11, 12, 13, 14] (by decide) rfl).weaken (fun _ _ _ _ => trivial)) (local_rel D (1 : Int32) (xs (4 * t + 2))).1) kx_K hX.1 kw_Law_85 tw3_158 tw3_159 (va_recv (ci := 3) (q0 := 0) hX.1 hP rfl rfl) hP hD hS (fun _ h => h) [0, 1, 2, 3, 4, 5, 6, 7, 8, 9, 10, 11, 12, 13, 14] [15, 16, 17, 18, 19, 20, 21, 22, 23, 24, 25, 26, 27, 28, 29, 30, 31, 32] rfl rfl (by decide) (by decide) d_Law_law_596 ⟨⟨Nat.le_of_ble_eq_true rfl, Nat.le_of_ble_eq_true rfl⟩, hc1, hc2⟩ rfl hl.1 rfl (Nat.le_of_ble_eq_true rfl) (fun H locs hP hD hS => ?_)
      have hP : va_P Dg classes ((wL ao kl (vp_updL f 0 (Int32.toInt64 ((if (1 : Int32) = 0 then (pm 0 D) else (pm 1 D)) 1 (Int32.toNatClampNeg (xs (4 * t + 2)))))) ++ (wE a b u v ++ wP b k G ++ wM u k (pm 0 D) ++ wM v k (pm 1 D))) ++ wD d k (u2 D 14 0 (dLoC (xs (4 * t + 2))))) H := hP
      have hD : va_D (lA s) ((wL ao kl (vp_updL f 0 (Int32.toInt64 ((if (1 : Int32) = 0 then (pm 0 D) else (pm 1 D)) 1 (Int32.toNatClampNeg (xs (4 * t + 2)))))) ++ (wE a b u v ++ wP b k G ++ wM u k (pm 0 D) ++ wM v k (pm 1 D))) ++ wD d k (u2 D 14 0 (dLoC (xs (4 * t + 2))))) := hD
      refine lv_istore hx hb d_Law_law_599 hl (by decide) rfl (fun ls hl => ?_)
      have hl : lv_has ls 7 [(6, .int (dLoR D (1 : Int32) (xs (4 * t + 2)))), (5, .int 0), (4, .int (nI (4 * t))), (0, .ref b0), (1, .ref (a 0)), (2, .ref (d 0)), (3, .ref ao)] := hl
      refine lv_aload_n hx hb d_Law_law_601 rfl (lv_at hl 5 rfl) ?_
      refine kp_V F (c_Mod_thrown l Dg d k (u2 D 14 0 (dLoC (xs (4 * t + 2)))) _ (hP.sub (ws' := wD d k (u2 D 14 0 (dLoC (xs (4 * t + 2))))) [18, 19, 20, 21, 22, 23, 24, 25, 26, 27, 28, 29, 30, 31, 32] rfl)) kx_K hX.1 kw_Law_49 tw3_40 tw3_41 (va_recv (ci := 3) (q0 := 18) hX.1 hP rfl rfl) hS d_Law_law_602 ⟨⟨Nat.le_of_ble_eq_true rfl, Nat.le_of_ble_eq_true rfl⟩, hc1, hc2⟩ rfl hl.1 rfl (Nat.le_of_ble_eq_true rfl) (fun locs hS => ?_)
      refine lv_iload hx hb d_Law_law_605 (lv_at hl 1 rfl) ?_
      refine lv_icmp_eq (tgt := 612) hx hb d_Law_law_607 (by decide) (fun _ => ?_) (fun h9 => absurd (by rw [u2_eq]; exact y0.1) h9)
      refine lv_iload hx hb d_Law_law_612 (lv_at hl 1 rfl) ?_
      refine lv_if_ne (tgt := 629) hx hb d_Law_law_614 (by decide) (fun h9 => absurd rfl h9) (fun _ => ?_)
      refine lv_aload_n hx hb d_Law_law_617 rfl (lv_at hl 6 rfl) ?_
      refine lv_iconst (v := 0) hx hb d_Law_law_618 (by decide) ?_
      refine va_lald hx hb hKl hP 0 0 rfl rfl (by unfold vp_in; decide) d_Law_law_619 ?_
      rw [show (vp_updL f 0 (Int32.toInt64 ((if (1 : Int32) = 0 then (pm 0 D) else (pm 1 D)) 1 (Int32.toNatClampNeg (xs (4 * t + 2)))))) (Int32.toNatClampNeg 0) = Int32.toInt64 ((if (1 : Int32) = 0 then (pm 0 D) else (pm 1 D)) 1 (Int32.toNatClampNeg (xs (4 * t + 2)))) from if_pos rfl]
      refine lv_iload hx hb d_Law_law_620 (lv_at hl 0 rfl) ?_
      rw [y0.2.2]
      refine lv_i2l hx hb d_Law_law_622 rfl ?_
      refine W.lcmp hx hb d_Law_law_623 ?_
      rw [lcmp_0]
      refine lv_if_eq (tgt := 629) hx hb d_Law_law_624 (by decide) (fun _ => ?_) (fun h9 => absurd rfl h9)
      refine lv_goto (tgt := 716) hx hb d_Law_law_629 (by decide) ?_
      rw [← hpc 0, ← hpc 1] at hP hD
      exact kk (vp_updL f 0 (Int32.toInt64 ((if (1 : Int32) = 0 then (pm 0 D) else (pm 1 D)) 1 (Int32.toNatClampNeg (xs (4 * t + 2)))))) G (u2 D 14 0 (dLoC (xs (4 * t + 2)))) H locs ls (hRc.mono (by omega)) hP hD hS (lv_sub hl [2, 3, 4, 5, 6] rfl)

set_option maxRecDepth 100000 in
set_option maxHeartbeats 4000000 in
theorem law_out {p : Program} {l : Launch} {e : Env} {s : State} {m : MethodId} {below : List Frame} {meth : Method} {c0 : Code} {H : Heap} {locs : List Loc} {cells slots : Nat} {Q : State → Prop} {ls : Array Slot} {Dg : va_G} {a b u v d : Nat → Nat} {k : Nat → ClassId} {kl : ClassId} {ao b0 L q vB tL t : Nat} {f : Nat → Int64} {xs : Nat → Int32} {G D : vSt} (F : CallFix p m c0 code 7 s #[Value.ref b0] lw_ok "FusedEngineLaw") (hl0 : l.stackTraces = false) (hX : lF Dg k q vB tL s) (hKl : va_K Dg classes [(kl, .long)] s) (hsc : va_X b0 L xs s s.heap) (hbl : b0 < s.heap.size) (ht : 4 * t + 4 ≤ L) (hL : L ≤ 2048) (hR : Rel (12000 * t) G D)
    (hP : va_P Dg classes ((wL ao kl f ++ (wE a b u v ++ wP b k G ++ wM u k (pm 0 D) ++ wM v k (pm 1 D))) ++ wD d k D) H) (hD : va_D (lA s) ((wL ao kl f ++ (wE a b u v ++ wP b k G ++ wM u k (pm 0 D) ++ wM v k (pm 1 D))) ++ wD d k D)) (hS : va_S (lA s) s.heap H locs) (hl : lv_has ls 7 [(4, .int (nI (4 * t))), (0, .ref b0), (1, .ref (a 0)), (2, .ref (d 0)), (3, .ref ao)]) (hc1 : cells + 1 ≤ room_1.cells) (hc2 : slots + 6 ≤ room_1.slots)
    (kk : ∀ (f : Nat → Int64) (G D : vSt) (H : Heap) (locs : List Loc) (ls : Array Slot), Rel (12000 * (t + 1)) G D → va_P Dg classes ((wL ao kl f ++ (wE a b u v ++ wP b k G ++ wM u k (pm 0 D) ++ wM v k (pm 1 D))) ++ wD d k D) H → va_D (lA s) ((wL ao kl f ++ (wE a b u v ++ wP b k G ++ wM u k (pm 0 D) ++ wM v k (pm 1 D))) ++ wD d k D) → va_S (lA s) s.heap H locs → lv_has ls 7 [(4, .int (nI (4 * t))), (0, .ref b0), (1, .ref (a 0)), (2, .ref (d 0)), (3, .ref ao)] → W p l e room_1 s m #[Value.ref b0] below meth c0 H locs (cells + 1) (slots + 6) Q (F0 m 716 ls [])) : W p l e room_1 s m #[Value.ref b0] below meth c0 H locs cells slots Q (F0 m 632 ls []) := by
  obtain ⟨hx, hb, hml, hown, hT⟩ := id F
  have hbA : ¬ lA s b0 := fun w => absurd w (by show ¬ s.heap.size ≤ b0; omega)
  by_cases hz : (xs (4 * t + 1)) = 0
  · by_cases hn : (xs (4 * t + 2)) < 0 ∨ ¬ (xs (4 * t + 2)) < sMin ((if (0 : Int32) = 0 then (pm 0 D) else (pm 1 D)) 4 2) 60
    · obtain ⟨hRc, hpc⟩ := hR.code (dOuC D (0 : Int32) (xs (4 * t + 2)))
      refine lv_aload_n hx hb d_Law_law_632 rfl (lv_at hl 2 rfl) ?_
      refine lv_aload_n hx hb d_Law_law_633 rfl (lv_at hl 1 rfl) ?_
      refine lv_iload hx hb d_Law_law_634 (lv_at hl 0 rfl) ?_
      refine lv_iconst (v := 1) hx hb d_Law_law_636 (by decide) ?_
      refine lv_iadd hx hb d_Law_law_637 ?_
      rw [nI_1]
      refine va_sld hx hb hsc hbl hbA hS (vp_in_nI (n := 4 * t + 1) (by omega) (by omega)) d_Law_law_638 ?_
      rw [nI_clamp (n := 4 * t + 1) (by omega)]
      refine lv_if_eq (tgt := 646) hx hb d_Law_law_639 (by decide) (fun _ => ?_) (fun h9 => absurd hz h9)
      refine lv_iconst (v := 0) hx hb d_Law_law_646 (by decide) ?_
      refine lv_aload_n hx hb d_Law_law_647 rfl (lv_at hl 1 rfl) ?_
      refine lv_iload hx hb d_Law_law_648 (lv_at hl 0 rfl) ?_
      refine lv_iconst (v := 2) hx hb d_Law_law_650 (by decide) ?_
      refine lv_iadd hx hb d_Law_law_651 ?_
      rw [nI_2]
      refine va_sld hx hb hsc hbl hbA hS (vp_in_nI (n := 4 * t + 2) (by omega) (by omega)) d_Law_law_652 ?_
      rw [nI_clamp (n := 4 * t + 2) (by omega)]
      refine lv_aload_n hx hb d_Law_law_653 rfl (lv_at hl 4 rfl) ?_
      refine kl_S (k := 4) (wr := wD d k D) F (e_Law_out_NS l hl0 Dg a b u v k G (pm 0 D) (pm 1 D) ao kl f q vB s.heap.size (0 : Int32) (xs (4 * t + 2)) _ (hP.sub (ws' := (wL ao kl f ++ (wE a b u v ++ wP b k G ++ wM u k (pm 0 D) ++ wM v k (pm 1 D)))) [0, 1, 2, 3, 4, 5, 6, 7, 8, 9, 10, 11, 12, 13, 14, 15, 16, 17] rfl) ((hD.sub (ws' := (wL ao kl f ++ (wE a b u v ++ wP b k G ++ wM u k (pm 0 D) ++ wM v k (pm 1 D)))) [0, 1, 2, 3, 4, 5, 6, 7, 8, 9, 10, 11, 12, 13, 14, 15, 16, 17] (by decide) rfl).weaken (fun _ _ _ _ => trivial)) hn) lX_m ⟨hX.ta hS, hKl⟩ tw2_210 tw1_0 ⟨by decide, by decide⟩ (by decide +kernel) tw2_208 tw2_209 hP hD hS (fun _ h => h) [0, 1, 2, 3, 4, 5, 6, 7, 8, 9, 10, 11, 12, 13, 14, 15, 16, 17] [18, 19, 20, 21, 22, 23, 24, 25, 26, 27, 28, 29, 30, 31, 32] rfl rfl (by decide) (by decide) d_Law_law_654 ⟨⟨Nat.le_of_ble_eq_true rfl, Nat.le_of_ble_eq_true rfl⟩, hc1, hc2⟩ rfl hl.1 rfl (Nat.le_of_ble_eq_true rfl) (fun H locs hP hD hS => ?_)
      have hP : va_P Dg classes (wD d k D ++ (wL ao kl f ++ (wE a b u v ++ wP b k G ++ wM u k (pm 0 D) ++ wM v k (pm 1 D)))) H := hP
      have hD : va_D (lA s) (wD d k D ++ (wL ao kl f ++ (wE a b u v ++ wP b k G ++ wM u k (pm 0 D) ++ wM v k (pm 1 D)))) := hD
      refine lv_istore hx hb d_Law_law_657 hl (by decide) rfl (fun ls hl => ?_)
      have hl : lv_has ls 7 [(5, .int 1), (4, .int (nI (4 * t))), (0, .ref b0), (1, .ref (a 0)), (2, .ref (d 0)), (3, .ref ao)] := hl
      refine lv_aload_n hx hb d_Law_law_659 rfl (lv_at hl 4 rfl) ?_
      refine lv_aload_n hx hb d_Law_law_660 rfl (lv_at hl 2 rfl) ?_
      refine lv_iload hx hb d_Law_law_661 (lv_at hl 1 rfl) ?_
      refine lv_iconst (v := 1) hx hb d_Law_law_663 (by decide) ?_
      refine lv_iadd hx hb d_Law_law_664 ?_
      rw [nI_1]
      refine va_sld hx hb hsc hbl hbA hS (vp_in_nI (n := 4 * t + 1) (by omega) (by omega)) d_Law_law_665 ?_
      rw [nI_clamp (n := 4 * t + 1) (by omega)]
      refine lv_if_eq (tgt := 673) hx hb d_Law_law_666 (by decide) (fun _ => ?_) (fun h9 => absurd hz h9)
      refine lv_iconst (v := 0) hx hb d_Law_law_673 (by decide) ?_
      refine lv_aload_n hx hb d_Law_law_674 rfl (lv_at hl 2 rfl) ?_
      refine lv_iload hx hb d_Law_law_675 (lv_at hl 1 rfl) ?_
      refine lv_iconst (v := 2) hx hb d_Law_law_677 (by decide) ?_
      refine lv_iadd hx hb d_Law_law_678 ?_
      rw [nI_2]
      refine va_sld hx hb hsc hbl hbA hS (vp_in_nI (n := 4 * t + 2) (by omega) (by omega)) d_Law_law_679 ?_
      rw [nI_clamp (n := 4 * t + 2) (by omega)]
      refine km_Vi (wr := (wL ao kl f ++ (wE a b u v ++ wP b k G ++ wM u k (pm 0 D) ++ wM v k (pm 1 D)))) F (c_Mod_out l Dg d k D (0 : Int32) (xs (4 * t + 2)) _ (hP.sub (ws' := wD d k D) [0, 1, 2, 3, 4, 5, 6, 7, 8, 9, 10, 11, 12, 13, 14] rfl) ((hD.sub (ws' := wD d k D) [0, 1, 2, 3, 4, 5, 6, 7, 8, 9, 10, 11, 12, 13, 14] (by decide) rfl).weaken (fun _ _ _ _ => trivial)) (outs_rel hR (by omega) (0 : Int32) (xs (4 * t + 2))).1) kx_K hX.1 kw_Law_88 tw3_162 tw3_163 (va_recv (ci := 3) (q0 := 0) hX.1 hP rfl rfl) hP hD hS (fun _ h => h) [0, 1, 2, 3, 4, 5, 6, 7, 8, 9, 10, 11, 12, 13, 14] [15, 16, 17, 18, 19, 20, 21, 22, 23, 24, 25, 26, 27, 28, 29, 30, 31, 32] rfl rfl (by decide) (by decide) d_Law_law_680 ⟨⟨Nat.le_of_ble_eq_true rfl, Nat.le_of_ble_eq_true rfl⟩, hc1, hc2⟩ rfl hl.1 rfl (Nat.le_of_ble_eq_true rfl) (fun H locs hP hD hS => ?_)
      have hP : va_P Dg classes ((wL ao kl f ++ (wE a b u v ++ wP b k G ++ wM u k (pm 0 D) ++ wM v k (pm 1 D))) ++ wD d k (u2 D 14 0 (dOuC D (0 : Int32) (xs (4 * t + 2))))) H := hP
      have hD : va_D (lA s) ((wL ao kl f ++ (wE a b u v ++ wP b k G ++ wM u k (pm 0 D) ++ wM v k (pm 1 D))) ++ wD d k (u2 D 14 0 (dOuC D (0 : Int32) (xs (4 * t + 2))))) := hD
      refine lv_istore hx hb d_Law_law_683 hl (by decide) rfl (fun ls hl => ?_)
      have hl : lv_has ls 7 [(6, .int (dOuR D (0 : Int32) (xs (4 * t + 2)))), (5, .int 1), (4, .int (nI (4 * t))), (0, .ref b0), (1, .ref (a 0)), (2, .ref (d 0)), (3, .ref ao)] := hl
      refine lv_aload_n hx hb d_Law_law_685 rfl (lv_at hl 5 rfl) ?_
      refine kp_V F (c_Mod_thrown l Dg d k (u2 D 14 0 (dOuC D (0 : Int32) (xs (4 * t + 2)))) _ (hP.sub (ws' := wD d k (u2 D 14 0 (dOuC D (0 : Int32) (xs (4 * t + 2))))) [18, 19, 20, 21, 22, 23, 24, 25, 26, 27, 28, 29, 30, 31, 32] rfl)) kx_K hX.1 kw_Law_49 tw3_40 tw3_41 (va_recv (ci := 3) (q0 := 18) hX.1 hP rfl rfl) hS d_Law_law_686 ⟨⟨Nat.le_of_ble_eq_true rfl, Nat.le_of_ble_eq_true rfl⟩, hc1, hc2⟩ rfl hl.1 rfl (Nat.le_of_ble_eq_true rfl) (fun locs hS => ?_)
      refine lv_iload hx hb d_Law_law_689 (lv_at hl 1 rfl) ?_
      refine lv_icmp_eq (tgt := 696) hx hb d_Law_law_691 (by decide) (fun _ => ?_) (fun h9 => absurd (by rw [u2_eq]; exact (outs_rel hR (by omega) (0 : Int32) (xs (4 * t + 2))).2.1 hn) h9)
      refine lv_iload hx hb d_Law_law_696 (lv_at hl 1 rfl) ?_
      refine lv_if_ne (tgt := 713) hx hb d_Law_law_698 (by decide) (fun _ => ?_) (fun h9 => absurd h9 (by decide))
      refine lv_goto (tgt := 716) hx hb d_Law_law_713 (by decide) ?_
      rw [← hpc 0, ← hpc 1] at hP hD
      exact kk f G (u2 D 14 0 (dOuC D (0 : Int32) (xs (4 * t + 2)))) H locs ls (hRc.mono (by omega)) hP hD hS (lv_sub hl [2, 3, 4, 5, 6] rfl)
    · obtain ⟨hRc, hpc⟩ := hR.code (dOuC D (0 : Int32) (xs (4 * t + 2)))
      have y0 := (outs_rel hR (by omega) (0 : Int32) (xs (4 * t + 2))).2.2 (fun w => hn (Or.inl w)) (Decidable.byContradiction (fun w => hn (Or.inr w)))
      refine lv_aload_n hx hb d_Law_law_632 rfl (lv_at hl 2 rfl) ?_
      refine lv_aload_n hx hb d_Law_law_633 rfl (lv_at hl 1 rfl) ?_
      refine lv_iload hx hb d_Law_law_634 (lv_at hl 0 rfl) ?_
      refine lv_iconst (v := 1) hx hb d_Law_law_636 (by decide) ?_
      refine lv_iadd hx hb d_Law_law_637 ?_
      rw [nI_1]
      refine va_sld hx hb hsc hbl hbA hS (vp_in_nI (n := 4 * t + 1) (by omega) (by omega)) d_Law_law_638 ?_
      rw [nI_clamp (n := 4 * t + 1) (by omega)]
      refine lv_if_eq (tgt := 646) hx hb d_Law_law_639 (by decide) (fun _ => ?_) (fun h9 => absurd hz h9)
      refine lv_iconst (v := 0) hx hb d_Law_law_646 (by decide) ?_
      refine lv_aload_n hx hb d_Law_law_647 rfl (lv_at hl 1 rfl) ?_
      refine lv_iload hx hb d_Law_law_648 (lv_at hl 0 rfl) ?_
      refine lv_iconst (v := 2) hx hb d_Law_law_650 (by decide) ?_
      refine lv_iadd hx hb d_Law_law_651 ?_
      rw [nI_2]
      refine va_sld hx hb hsc hbl hbA hS (vp_in_nI (n := 4 * t + 2) (by omega) (by omega)) d_Law_law_652 ?_
      rw [nI_clamp (n := 4 * t + 2) (by omega)]
      refine lv_aload_n hx hb d_Law_law_653 rfl (lv_at hl 4 rfl) ?_
      refine kl_S (k := 4) (wr := wD d k D) F (n_Law_out l Dg a b u v k G (pm 0 D) (pm 1 D) ao kl f q vB s.heap.size (0 : Int32) (xs (4 * t + 2)) _ (hP.sub (ws' := (wL ao kl f ++ (wE a b u v ++ wP b k G ++ wM u k (pm 0 D) ++ wM v k (pm 1 D)))) [0, 1, 2, 3, 4, 5, 6, 7, 8, 9, 10, 11, 12, 13, 14, 15, 16, 17] rfl) ((hD.sub (ws' := (wL ao kl f ++ (wE a b u v ++ wP b k G ++ wM u k (pm 0 D) ++ wM v k (pm 1 D)))) [0, 1, 2, 3, 4, 5, 6, 7, 8, 9, 10, 11, 12, 13, 14, 15, 16, 17] (by decide) rfl).weaken (fun _ _ _ _ => trivial)) (fun w => hn (Or.inl w)) (Decidable.byContradiction (fun w => hn (Or.inr w))) y0.2.1) lX_m ⟨hX.ta hS, hKl⟩ tw2_210 tw1_0 ⟨by decide, by decide⟩ (by decide +kernel) tw2_208 tw2_209 hP hD hS (fun _ h => h) [0, 1, 2, 3, 4, 5, 6, 7, 8, 9, 10, 11, 12, 13, 14, 15, 16, 17] [18, 19, 20, 21, 22, 23, 24, 25, 26, 27, 28, 29, 30, 31, 32] rfl rfl (by decide) (by decide) d_Law_law_654 ⟨⟨Nat.le_of_ble_eq_true rfl, Nat.le_of_ble_eq_true rfl⟩, hc1, hc2⟩ rfl hl.1 rfl (Nat.le_of_ble_eq_true rfl) (fun H locs hP hD hS => ?_)
      have hP : va_P Dg classes (wD d k D ++ (wL ao kl (vp_updL f 0 (Int32.toInt64 ((if (0 : Int32) = 0 then (pm 0 D) else (pm 1 D)) 2 (Int32.toNatClampNeg (xs (4 * t + 2)))))) ++ (wE a b u v ++ wP b k G ++ wM u k (pm 0 D) ++ wM v k (pm 1 D)))) H := hP
      have hD : va_D (lA s) (wD d k D ++ (wL ao kl (vp_updL f 0 (Int32.toInt64 ((if (0 : Int32) = 0 then (pm 0 D) else (pm 1 D)) 2 (Int32.toNatClampNeg (xs (4 * t + 2)))))) ++ (wE a b u v ++ wP b k G ++ wM u k (pm 0 D) ++ wM v k (pm 1 D)))) := hD
      refine lv_istore hx hb d_Law_law_657 hl (by decide) rfl (fun ls hl => ?_)
      have hl : lv_has ls 7 [(5, .int 0), (4, .int (nI (4 * t))), (0, .ref b0), (1, .ref (a 0)), (2, .ref (d 0)), (3, .ref ao)] := hl
      refine lv_aload_n hx hb d_Law_law_659 rfl (lv_at hl 4 rfl) ?_
      refine lv_aload_n hx hb d_Law_law_660 rfl (lv_at hl 2 rfl) ?_
      refine lv_iload hx hb d_Law_law_661 (lv_at hl 1 rfl) ?_
      refine lv_iconst (v := 1) hx hb d_Law_law_663 (by decide) ?_
      refine lv_iadd hx hb d_Law_law_664 ?_
      rw [nI_1]
      refine va_sld hx hb hsc hbl hbA hS (vp_in_nI (n := 4 * t + 1) (by omega) (by omega)) d_Law_law_665 ?_
      rw [nI_clamp (n := 4 * t + 1) (by omega)]
      refine lv_if_eq (tgt := 673) hx hb d_Law_law_666 (by decide) (fun _ => ?_) (fun h9 => absurd hz h9)
      refine lv_iconst (v := 0) hx hb d_Law_law_673 (by decide) ?_
      refine lv_aload_n hx hb d_Law_law_674 rfl (lv_at hl 2 rfl) ?_
      refine lv_iload hx hb d_Law_law_675 (lv_at hl 1 rfl) ?_
      refine lv_iconst (v := 2) hx hb d_Law_law_677 (by decide) ?_
      refine lv_iadd hx hb d_Law_law_678 ?_
      rw [nI_2]
      refine va_sld hx hb hsc hbl hbA hS (vp_in_nI (n := 4 * t + 2) (by omega) (by omega)) d_Law_law_679 ?_
      rw [nI_clamp (n := 4 * t + 2) (by omega)]
      refine km_Vi (wr := (wL ao kl (vp_updL f 0 (Int32.toInt64 ((if (0 : Int32) = 0 then (pm 0 D) else (pm 1 D)) 2 (Int32.toNatClampNeg (xs (4 * t + 2)))))) ++ (wE a b u v ++ wP b k G ++ wM u k (pm 0 D) ++ wM v k (pm 1 D)))) F (c_Mod_out l Dg d k D (0 : Int32) (xs (4 * t + 2)) _ (hP.sub (ws' := wD d k D) [0, 1, 2, 3, 4, 5, 6, 7, 8, 9, 10, 11, 12, 13, 14] rfl) ((hD.sub (ws' := wD d k D) [0, 1, 2, 3, 4, 5, 6, 7, 8, 9, 10, 11, 12, 13, 14] (by decide) rfl).weaken (fun _ _ _ _ => trivial)) (outs_rel hR (by omega) (0 : Int32) (xs (4 * t + 2))).1) kx_K hX.1 kw_Law_88 tw3_162 tw3_163 (va_recv (ci := 3) (q0 := 0) hX.1 hP rfl rfl) hP hD hS (fun _ h => h) [0, 1, 2, 3, 4, 5, 6, 7, 8, 9, 10, 11, 12, 13, 14] [15, 16, 17, 18, 19, 20, 21, 22, 23, 24, 25, 26, 27, 28, 29, 30, 31, 32] rfl rfl (by decide) (by decide) d_Law_law_680 ⟨⟨Nat.le_of_ble_eq_true rfl, Nat.le_of_ble_eq_true rfl⟩, hc1, hc2⟩ rfl hl.1 rfl (Nat.le_of_ble_eq_true rfl) (fun H locs hP hD hS => ?_)
      have hP : va_P Dg classes ((wL ao kl (vp_updL f 0 (Int32.toInt64 ((if (0 : Int32) = 0 then (pm 0 D) else (pm 1 D)) 2 (Int32.toNatClampNeg (xs (4 * t + 2)))))) ++ (wE a b u v ++ wP b k G ++ wM u k (pm 0 D) ++ wM v k (pm 1 D))) ++ wD d k (u2 D 14 0 (dOuC D (0 : Int32) (xs (4 * t + 2))))) H := hP
      have hD : va_D (lA s) ((wL ao kl (vp_updL f 0 (Int32.toInt64 ((if (0 : Int32) = 0 then (pm 0 D) else (pm 1 D)) 2 (Int32.toNatClampNeg (xs (4 * t + 2)))))) ++ (wE a b u v ++ wP b k G ++ wM u k (pm 0 D) ++ wM v k (pm 1 D))) ++ wD d k (u2 D 14 0 (dOuC D (0 : Int32) (xs (4 * t + 2))))) := hD
      refine lv_istore hx hb d_Law_law_683 hl (by decide) rfl (fun ls hl => ?_)
      have hl : lv_has ls 7 [(6, .int (dOuR D (0 : Int32) (xs (4 * t + 2)))), (5, .int 0), (4, .int (nI (4 * t))), (0, .ref b0), (1, .ref (a 0)), (2, .ref (d 0)), (3, .ref ao)] := hl
      refine lv_aload_n hx hb d_Law_law_685 rfl (lv_at hl 5 rfl) ?_
      refine kp_V F (c_Mod_thrown l Dg d k (u2 D 14 0 (dOuC D (0 : Int32) (xs (4 * t + 2)))) _ (hP.sub (ws' := wD d k (u2 D 14 0 (dOuC D (0 : Int32) (xs (4 * t + 2))))) [18, 19, 20, 21, 22, 23, 24, 25, 26, 27, 28, 29, 30, 31, 32] rfl)) kx_K hX.1 kw_Law_49 tw3_40 tw3_41 (va_recv (ci := 3) (q0 := 18) hX.1 hP rfl rfl) hS d_Law_law_686 ⟨⟨Nat.le_of_ble_eq_true rfl, Nat.le_of_ble_eq_true rfl⟩, hc1, hc2⟩ rfl hl.1 rfl (Nat.le_of_ble_eq_true rfl) (fun locs hS => ?_)
      refine lv_iload hx hb d_Law_law_689 (lv_at hl 1 rfl) ?_
      refine lv_icmp_eq (tgt := 696) hx hb d_Law_law_691 (by decide) (fun _ => ?_) (fun h9 => absurd (by rw [u2_eq]; exact y0.1) h9)
      refine lv_iload hx hb d_Law_law_696 (lv_at hl 1 rfl) ?_
      refine lv_if_ne (tgt := 713) hx hb d_Law_law_698 (by decide) (fun h9 => absurd rfl h9) (fun _ => ?_)
      refine lv_aload_n hx hb d_Law_law_701 rfl (lv_at hl 6 rfl) ?_
      refine lv_iconst (v := 0) hx hb d_Law_law_702 (by decide) ?_
      refine va_lald hx hb hKl hP 0 0 rfl rfl (by unfold vp_in; decide) d_Law_law_703 ?_
      rw [show (vp_updL f 0 (Int32.toInt64 ((if (0 : Int32) = 0 then (pm 0 D) else (pm 1 D)) 2 (Int32.toNatClampNeg (xs (4 * t + 2)))))) (Int32.toNatClampNeg 0) = Int32.toInt64 ((if (0 : Int32) = 0 then (pm 0 D) else (pm 1 D)) 2 (Int32.toNatClampNeg (xs (4 * t + 2)))) from if_pos rfl]
      refine lv_iload hx hb d_Law_law_704 (lv_at hl 0 rfl) ?_
      rw [y0.2.2]
      refine lv_i2l hx hb d_Law_law_706 rfl ?_
      refine W.lcmp hx hb d_Law_law_707 ?_
      rw [lcmp_0]
      refine lv_if_eq (tgt := 713) hx hb d_Law_law_708 (by decide) (fun _ => ?_) (fun h9 => absurd rfl h9)
      refine lv_goto (tgt := 716) hx hb d_Law_law_713 (by decide) ?_
      rw [← hpc 0, ← hpc 1] at hP hD
      exact kk (vp_updL f 0 (Int32.toInt64 ((if (0 : Int32) = 0 then (pm 0 D) else (pm 1 D)) 2 (Int32.toNatClampNeg (xs (4 * t + 2)))))) G (u2 D 14 0 (dOuC D (0 : Int32) (xs (4 * t + 2)))) H locs ls (hRc.mono (by omega)) hP hD hS (lv_sub hl [2, 3, 4, 5, 6] rfl)
  · by_cases hn : (xs (4 * t + 2)) < 0 ∨ ¬ (xs (4 * t + 2)) < sMin ((if (1 : Int32) = 0 then (pm 0 D) else (pm 1 D)) 4 2) 60
    · obtain ⟨hRc, hpc⟩ := hR.code (dOuC D (1 : Int32) (xs (4 * t + 2)))
      refine lv_aload_n hx hb d_Law_law_632 rfl (lv_at hl 2 rfl) ?_
      refine lv_aload_n hx hb d_Law_law_633 rfl (lv_at hl 1 rfl) ?_
      refine lv_iload hx hb d_Law_law_634 (lv_at hl 0 rfl) ?_
      refine lv_iconst (v := 1) hx hb d_Law_law_636 (by decide) ?_
      refine lv_iadd hx hb d_Law_law_637 ?_
      rw [nI_1]
      refine va_sld hx hb hsc hbl hbA hS (vp_in_nI (n := 4 * t + 1) (by omega) (by omega)) d_Law_law_638 ?_
      rw [nI_clamp (n := 4 * t + 1) (by omega)]
      refine lv_if_eq (tgt := 646) hx hb d_Law_law_639 (by decide) (fun h9 => absurd h9 hz) (fun _ => ?_)
      refine lv_iconst (v := 1) hx hb d_Law_law_642 (by decide) ?_
      refine lv_goto (tgt := 647) hx hb d_Law_law_643 (by decide) ?_
      refine lv_aload_n hx hb d_Law_law_647 rfl (lv_at hl 1 rfl) ?_
      refine lv_iload hx hb d_Law_law_648 (lv_at hl 0 rfl) ?_
      refine lv_iconst (v := 2) hx hb d_Law_law_650 (by decide) ?_
      refine lv_iadd hx hb d_Law_law_651 ?_
      rw [nI_2]
      refine va_sld hx hb hsc hbl hbA hS (vp_in_nI (n := 4 * t + 2) (by omega) (by omega)) d_Law_law_652 ?_
      rw [nI_clamp (n := 4 * t + 2) (by omega)]
      refine lv_aload_n hx hb d_Law_law_653 rfl (lv_at hl 4 rfl) ?_
      refine kl_S (k := 4) (wr := wD d k D) F (e_Law_out_NS l hl0 Dg a b u v k G (pm 0 D) (pm 1 D) ao kl f q vB s.heap.size (1 : Int32) (xs (4 * t + 2)) _ (hP.sub (ws' := (wL ao kl f ++ (wE a b u v ++ wP b k G ++ wM u k (pm 0 D) ++ wM v k (pm 1 D)))) [0, 1, 2, 3, 4, 5, 6, 7, 8, 9, 10, 11, 12, 13, 14, 15, 16, 17] rfl) ((hD.sub (ws' := (wL ao kl f ++ (wE a b u v ++ wP b k G ++ wM u k (pm 0 D) ++ wM v k (pm 1 D)))) [0, 1, 2, 3, 4, 5, 6, 7, 8, 9, 10, 11, 12, 13, 14, 15, 16, 17] (by decide) rfl).weaken (fun _ _ _ _ => trivial)) hn) lX_m ⟨hX.ta hS, hKl⟩ tw2_210 tw1_0 ⟨by decide, by decide⟩ (by decide +kernel) tw2_208 tw2_209 hP hD hS (fun _ h => h) [0, 1, 2, 3, 4, 5, 6, 7, 8, 9, 10, 11, 12, 13, 14, 15, 16, 17] [18, 19, 20, 21, 22, 23, 24, 25, 26, 27, 28, 29, 30, 31, 32] rfl rfl (by decide) (by decide) d_Law_law_654 ⟨⟨Nat.le_of_ble_eq_true rfl, Nat.le_of_ble_eq_true rfl⟩, hc1, hc2⟩ rfl hl.1 rfl (Nat.le_of_ble_eq_true rfl) (fun H locs hP hD hS => ?_)
      have hP : va_P Dg classes (wD d k D ++ (wL ao kl f ++ (wE a b u v ++ wP b k G ++ wM u k (pm 0 D) ++ wM v k (pm 1 D)))) H := hP
      have hD : va_D (lA s) (wD d k D ++ (wL ao kl f ++ (wE a b u v ++ wP b k G ++ wM u k (pm 0 D) ++ wM v k (pm 1 D)))) := hD
      refine lv_istore hx hb d_Law_law_657 hl (by decide) rfl (fun ls hl => ?_)
      have hl : lv_has ls 7 [(5, .int 1), (4, .int (nI (4 * t))), (0, .ref b0), (1, .ref (a 0)), (2, .ref (d 0)), (3, .ref ao)] := hl
      refine lv_aload_n hx hb d_Law_law_659 rfl (lv_at hl 4 rfl) ?_
      refine lv_aload_n hx hb d_Law_law_660 rfl (lv_at hl 2 rfl) ?_
      refine lv_iload hx hb d_Law_law_661 (lv_at hl 1 rfl) ?_
      refine lv_iconst (v := 1) hx hb d_Law_law_663 (by decide) ?_
      refine lv_iadd hx hb d_Law_law_664 ?_
      rw [nI_1]
      refine va_sld hx hb hsc hbl hbA hS (vp_in_nI (n := 4 * t + 1) (by omega) (by omega)) d_Law_law_665 ?_
      rw [nI_clamp (n := 4 * t + 1) (by omega)]
      refine lv_if_eq (tgt := 673) hx hb d_Law_law_666 (by decide) (fun h9 => absurd h9 hz) (fun _ => ?_)
      refine lv_iconst (v := 1) hx hb d_Law_law_669 (by decide) ?_
      refine lv_goto (tgt := 674) hx hb d_Law_law_670 (by decide) ?_
      refine lv_aload_n hx hb d_Law_law_674 rfl (lv_at hl 2 rfl) ?_
      refine lv_iload hx hb d_Law_law_675 (lv_at hl 1 rfl) ?_
      refine lv_iconst (v := 2) hx hb d_Law_law_677 (by decide) ?_
      refine lv_iadd hx hb d_Law_law_678 ?_
      rw [nI_2]
      refine va_sld hx hb hsc hbl hbA hS (vp_in_nI (n := 4 * t + 2) (by omega) (by omega)) d_Law_law_679 ?_
      rw [nI_clamp (n := 4 * t + 2) (by omega)]
      refine km_Vi (wr := (wL ao kl f ++ (wE a b u v ++ wP b k G ++ wM u k (pm 0 D) ++ wM v k (pm 1 D)))) F (c_Mod_out l Dg d k D (1 : Int32) (xs (4 * t + 2)) _ (hP.sub (ws' := wD d k D) [0, 1, 2, 3, 4, 5, 6, 7, 8, 9, 10, 11, 12, 13, 14] rfl) ((hD.sub (ws' := wD d k D) [0, 1, 2, 3, 4, 5, 6, 7, 8, 9, 10, 11, 12, 13, 14] (by decide) rfl).weaken (fun _ _ _ _ => trivial)) (outs_rel hR (by omega) (1 : Int32) (xs (4 * t + 2))).1) kx_K hX.1 kw_Law_88 tw3_162 tw3_163 (va_recv (ci := 3) (q0 := 0) hX.1 hP rfl rfl) hP hD hS (fun _ h => h) [0, 1, 2, 3, 4, 5, 6, 7, 8, 9, 10, 11, 12, 13, 14] [15, 16, 17, 18, 19, 20, 21, 22, 23, 24, 25, 26, 27, 28, 29, 30, 31, 32] rfl rfl (by decide) (by decide) d_Law_law_680 ⟨⟨Nat.le_of_ble_eq_true rfl, Nat.le_of_ble_eq_true rfl⟩, hc1, hc2⟩ rfl hl.1 rfl (Nat.le_of_ble_eq_true rfl) (fun H locs hP hD hS => ?_)
      have hP : va_P Dg classes ((wL ao kl f ++ (wE a b u v ++ wP b k G ++ wM u k (pm 0 D) ++ wM v k (pm 1 D))) ++ wD d k (u2 D 14 0 (dOuC D (1 : Int32) (xs (4 * t + 2))))) H := hP
      have hD : va_D (lA s) ((wL ao kl f ++ (wE a b u v ++ wP b k G ++ wM u k (pm 0 D) ++ wM v k (pm 1 D))) ++ wD d k (u2 D 14 0 (dOuC D (1 : Int32) (xs (4 * t + 2))))) := hD
      refine lv_istore hx hb d_Law_law_683 hl (by decide) rfl (fun ls hl => ?_)
      have hl : lv_has ls 7 [(6, .int (dOuR D (1 : Int32) (xs (4 * t + 2)))), (5, .int 1), (4, .int (nI (4 * t))), (0, .ref b0), (1, .ref (a 0)), (2, .ref (d 0)), (3, .ref ao)] := hl
      refine lv_aload_n hx hb d_Law_law_685 rfl (lv_at hl 5 rfl) ?_
      refine kp_V F (c_Mod_thrown l Dg d k (u2 D 14 0 (dOuC D (1 : Int32) (xs (4 * t + 2)))) _ (hP.sub (ws' := wD d k (u2 D 14 0 (dOuC D (1 : Int32) (xs (4 * t + 2))))) [18, 19, 20, 21, 22, 23, 24, 25, 26, 27, 28, 29, 30, 31, 32] rfl)) kx_K hX.1 kw_Law_49 tw3_40 tw3_41 (va_recv (ci := 3) (q0 := 18) hX.1 hP rfl rfl) hS d_Law_law_686 ⟨⟨Nat.le_of_ble_eq_true rfl, Nat.le_of_ble_eq_true rfl⟩, hc1, hc2⟩ rfl hl.1 rfl (Nat.le_of_ble_eq_true rfl) (fun locs hS => ?_)
      refine lv_iload hx hb d_Law_law_689 (lv_at hl 1 rfl) ?_
      refine lv_icmp_eq (tgt := 696) hx hb d_Law_law_691 (by decide) (fun _ => ?_) (fun h9 => absurd (by rw [u2_eq]; exact (outs_rel hR (by omega) (1 : Int32) (xs (4 * t + 2))).2.1 hn) h9)
      refine lv_iload hx hb d_Law_law_696 (lv_at hl 1 rfl) ?_
      refine lv_if_ne (tgt := 713) hx hb d_Law_law_698 (by decide) (fun _ => ?_) (fun h9 => absurd h9 (by decide))
      refine lv_goto (tgt := 716) hx hb d_Law_law_713 (by decide) ?_
      rw [← hpc 0, ← hpc 1] at hP hD
      exact kk f G (u2 D 14 0 (dOuC D (1 : Int32) (xs (4 * t + 2)))) H locs ls (hRc.mono (by omega)) hP hD hS (lv_sub hl [2, 3, 4, 5, 6] rfl)
    · obtain ⟨hRc, hpc⟩ := hR.code (dOuC D (1 : Int32) (xs (4 * t + 2)))
      have y0 := (outs_rel hR (by omega) (1 : Int32) (xs (4 * t + 2))).2.2 (fun w => hn (Or.inl w)) (Decidable.byContradiction (fun w => hn (Or.inr w)))
      refine lv_aload_n hx hb d_Law_law_632 rfl (lv_at hl 2 rfl) ?_
      refine lv_aload_n hx hb d_Law_law_633 rfl (lv_at hl 1 rfl) ?_
      refine lv_iload hx hb d_Law_law_634 (lv_at hl 0 rfl) ?_
      refine lv_iconst (v := 1) hx hb d_Law_law_636 (by decide) ?_
      refine lv_iadd hx hb d_Law_law_637 ?_
      rw [nI_1]
      refine va_sld hx hb hsc hbl hbA hS (vp_in_nI (n := 4 * t + 1) (by omega) (by omega)) d_Law_law_638 ?_
      rw [nI_clamp (n := 4 * t + 1) (by omega)]
      refine lv_if_eq (tgt := 646) hx hb d_Law_law_639 (by decide) (fun h9 => absurd h9 hz) (fun _ => ?_)
      refine lv_iconst (v := 1) hx hb d_Law_law_642 (by decide) ?_
      refine lv_goto (tgt := 647) hx hb d_Law_law_643 (by decide) ?_
      refine lv_aload_n hx hb d_Law_law_647 rfl (lv_at hl 1 rfl) ?_
      refine lv_iload hx hb d_Law_law_648 (lv_at hl 0 rfl) ?_
      refine lv_iconst (v := 2) hx hb d_Law_law_650 (by decide) ?_
      refine lv_iadd hx hb d_Law_law_651 ?_
      rw [nI_2]
      refine va_sld hx hb hsc hbl hbA hS (vp_in_nI (n := 4 * t + 2) (by omega) (by omega)) d_Law_law_652 ?_
      rw [nI_clamp (n := 4 * t + 2) (by omega)]
      refine lv_aload_n hx hb d_Law_law_653 rfl (lv_at hl 4 rfl) ?_
      refine kl_S (k := 4) (wr := wD d k D) F (n_Law_out l Dg a b u v k G (pm 0 D) (pm 1 D) ao kl f q vB s.heap.size (1 : Int32) (xs (4 * t + 2)) _ (hP.sub (ws' := (wL ao kl f ++ (wE a b u v ++ wP b k G ++ wM u k (pm 0 D) ++ wM v k (pm 1 D)))) [0, 1, 2, 3, 4, 5, 6, 7, 8, 9, 10, 11, 12, 13, 14, 15, 16, 17] rfl) ((hD.sub (ws' := (wL ao kl f ++ (wE a b u v ++ wP b k G ++ wM u k (pm 0 D) ++ wM v k (pm 1 D)))) [0, 1, 2, 3, 4, 5, 6, 7, 8, 9, 10, 11, 12, 13, 14, 15, 16, 17] (by decide) rfl).weaken (fun _ _ _ _ => trivial)) (fun w => hn (Or.inl w)) (Decidable.byContradiction (fun w => hn (Or.inr w))) y0.2.1) lX_m ⟨hX.ta hS, hKl⟩ tw2_210 tw1_0 ⟨by decide, by decide⟩ (by decide +kernel) tw2_208 tw2_209 hP hD hS (fun _ h => h) [0, 1, 2, 3, 4, 5, 6, 7, 8, 9, 10, 11, 12, 13, 14, 15, 16, 17] [18, 19, 20, 21, 22, 23, 24, 25, 26, 27, 28, 29, 30, 31, 32] rfl rfl (by decide) (by decide) d_Law_law_654 ⟨⟨Nat.le_of_ble_eq_true rfl, Nat.le_of_ble_eq_true rfl⟩, hc1, hc2⟩ rfl hl.1 rfl (Nat.le_of_ble_eq_true rfl) (fun H locs hP hD hS => ?_)
      have hP : va_P Dg classes (wD d k D ++ (wL ao kl (vp_updL f 0 (Int32.toInt64 ((if (1 : Int32) = 0 then (pm 0 D) else (pm 1 D)) 2 (Int32.toNatClampNeg (xs (4 * t + 2)))))) ++ (wE a b u v ++ wP b k G ++ wM u k (pm 0 D) ++ wM v k (pm 1 D)))) H := hP
      have hD : va_D (lA s) (wD d k D ++ (wL ao kl (vp_updL f 0 (Int32.toInt64 ((if (1 : Int32) = 0 then (pm 0 D) else (pm 1 D)) 2 (Int32.toNatClampNeg (xs (4 * t + 2)))))) ++ (wE a b u v ++ wP b k G ++ wM u k (pm 0 D) ++ wM v k (pm 1 D)))) := hD
      refine lv_istore hx hb d_Law_law_657 hl (by decide) rfl (fun ls hl => ?_)
      have hl : lv_has ls 7 [(5, .int 0), (4, .int (nI (4 * t))), (0, .ref b0), (1, .ref (a 0)), (2, .ref (d 0)), (3, .ref ao)] := hl
      refine lv_aload_n hx hb d_Law_law_659 rfl (lv_at hl 4 rfl) ?_
      refine lv_aload_n hx hb d_Law_law_660 rfl (lv_at hl 2 rfl) ?_
      refine lv_iload hx hb d_Law_law_661 (lv_at hl 1 rfl) ?_
      refine lv_iconst (v := 1) hx hb d_Law_law_663 (by decide) ?_
      refine lv_iadd hx hb d_Law_law_664 ?_
      rw [nI_1]
      refine va_sld hx hb hsc hbl hbA hS (vp_in_nI (n := 4 * t + 1) (by omega) (by omega)) d_Law_law_665 ?_
      rw [nI_clamp (n := 4 * t + 1) (by omega)]
      refine lv_if_eq (tgt := 673) hx hb d_Law_law_666 (by decide) (fun h9 => absurd h9 hz) (fun _ => ?_)
      refine lv_iconst (v := 1) hx hb d_Law_law_669 (by decide) ?_
      refine lv_goto (tgt := 674) hx hb d_Law_law_670 (by decide) ?_
      refine lv_aload_n hx hb d_Law_law_674 rfl (lv_at hl 2 rfl) ?_
      refine lv_iload hx hb d_Law_law_675 (lv_at hl 1 rfl) ?_
      refine lv_iconst (v := 2) hx hb d_Law_law_677 (by decide) ?_
      refine lv_iadd hx hb d_Law_law_678 ?_
      rw [nI_2]
      refine va_sld hx hb hsc hbl hbA hS (vp_in_nI (n := 4 * t + 2) (by omega) (by omega)) d_Law_law_679 ?_
      rw [nI_clamp (n := 4 * t + 2) (by omega)]
      refine km_Vi (wr := (wL ao kl (vp_updL f 0 (Int32.toInt64 ((if (1 : Int32) = 0 then (pm 0 D) else (pm 1 D)) 2 (Int32.toNatClampNeg (xs (4 * t + 2)))))) ++ (wE a b u v ++ wP b k G ++ wM u k (pm 0 D) ++ wM v k (pm 1 D)))) F (c_Mod_out l Dg d k D (1 : Int32) (xs (4 * t + 2)) _ (hP.sub (ws' := wD d k D) [0, 1, 2, 3, 4, 5, 6, 7, 8, 9, 10, 11, 12, 13, 14] rfl) ((hD.sub (ws' := wD d k D) [0, 1, 2, 3, 4, 5, 6, 7, 8, 9, 10, 11, 12, 13, 14] (by decide) rfl).weaken (fun _ _ _ _ => trivial)) (outs_rel hR (by omega) (1 : Int32) (xs (4 * t + 2))).1) kx_K hX.1 kw_Law_88 tw3_162 tw3_163 (va_recv (ci := 3) (q0 := 0) hX.1 hP rfl rfl) hP hD hS (fun _ h => h) [0, 1, 2, 3, 4, 5, 6, 7, 8, 9, 10, 11, 12, 13, 14] [15, 16, 17, 18, 19, 20, 21, 22, 23, 24, 25, 26, 27, 28, 29, 30, 31, 32] rfl rfl (by decide) (by decide) d_Law_law_680 ⟨⟨Nat.le_of_ble_eq_true rfl, Nat.le_of_ble_eq_true rfl⟩, hc1, hc2⟩ rfl hl.1 rfl (Nat.le_of_ble_eq_true rfl) (fun H locs hP hD hS => ?_)
      have hP : va_P Dg classes ((wL ao kl (vp_updL f 0 (Int32.toInt64 ((if (1 : Int32) = 0 then (pm 0 D) else (pm 1 D)) 2 (Int32.toNatClampNeg (xs (4 * t + 2)))))) ++ (wE a b u v ++ wP b k G ++ wM u k (pm 0 D) ++ wM v k (pm 1 D))) ++ wD d k (u2 D 14 0 (dOuC D (1 : Int32) (xs (4 * t + 2))))) H := hP
      have hD : va_D (lA s) ((wL ao kl (vp_updL f 0 (Int32.toInt64 ((if (1 : Int32) = 0 then (pm 0 D) else (pm 1 D)) 2 (Int32.toNatClampNeg (xs (4 * t + 2)))))) ++ (wE a b u v ++ wP b k G ++ wM u k (pm 0 D) ++ wM v k (pm 1 D))) ++ wD d k (u2 D 14 0 (dOuC D (1 : Int32) (xs (4 * t + 2))))) := hD
      refine lv_istore hx hb d_Law_law_683 hl (by decide) rfl (fun ls hl => ?_)
      have hl : lv_has ls 7 [(6, .int (dOuR D (1 : Int32) (xs (4 * t + 2)))), (5, .int 0), (4, .int (nI (4 * t))), (0, .ref b0), (1, .ref (a 0)), (2, .ref (d 0)), (3, .ref ao)] := hl
      refine lv_aload_n hx hb d_Law_law_685 rfl (lv_at hl 5 rfl) ?_
      refine kp_V F (c_Mod_thrown l Dg d k (u2 D 14 0 (dOuC D (1 : Int32) (xs (4 * t + 2)))) _ (hP.sub (ws' := wD d k (u2 D 14 0 (dOuC D (1 : Int32) (xs (4 * t + 2))))) [18, 19, 20, 21, 22, 23, 24, 25, 26, 27, 28, 29, 30, 31, 32] rfl)) kx_K hX.1 kw_Law_49 tw3_40 tw3_41 (va_recv (ci := 3) (q0 := 18) hX.1 hP rfl rfl) hS d_Law_law_686 ⟨⟨Nat.le_of_ble_eq_true rfl, Nat.le_of_ble_eq_true rfl⟩, hc1, hc2⟩ rfl hl.1 rfl (Nat.le_of_ble_eq_true rfl) (fun locs hS => ?_)
      refine lv_iload hx hb d_Law_law_689 (lv_at hl 1 rfl) ?_
      refine lv_icmp_eq (tgt := 696) hx hb d_Law_law_691 (by decide) (fun _ => ?_) (fun h9 => absurd (by rw [u2_eq]; exact y0.1) h9)
      refine lv_iload hx hb d_Law_law_696 (lv_at hl 1 rfl) ?_
      refine lv_if_ne (tgt := 713) hx hb d_Law_law_698 (by decide) (fun h9 => absurd rfl h9) (fun _ => ?_)
      refine lv_aload_n hx hb d_Law_law_701 rfl (lv_at hl 6 rfl) ?_
      refine lv_iconst (v := 0) hx hb d_Law_law_702 (by decide) ?_
      refine va_lald hx hb hKl hP 0 0 rfl rfl (by unfold vp_in; decide) d_Law_law_703 ?_
      rw [show (vp_updL f 0 (Int32.toInt64 ((if (1 : Int32) = 0 then (pm 0 D) else (pm 1 D)) 2 (Int32.toNatClampNeg (xs (4 * t + 2)))))) (Int32.toNatClampNeg 0) = Int32.toInt64 ((if (1 : Int32) = 0 then (pm 0 D) else (pm 1 D)) 2 (Int32.toNatClampNeg (xs (4 * t + 2)))) from if_pos rfl]
      refine lv_iload hx hb d_Law_law_704 (lv_at hl 0 rfl) ?_
      rw [y0.2.2]
      refine lv_i2l hx hb d_Law_law_706 rfl ?_
      refine W.lcmp hx hb d_Law_law_707 ?_
      rw [lcmp_0]
      refine lv_if_eq (tgt := 713) hx hb d_Law_law_708 (by decide) (fun _ => ?_) (fun h9 => absurd rfl h9)
      refine lv_goto (tgt := 716) hx hb d_Law_law_713 (by decide) ?_
      rw [← hpc 0, ← hpc 1] at hP hD
      exact kk (vp_updL f 0 (Int32.toInt64 ((if (1 : Int32) = 0 then (pm 0 D) else (pm 1 D)) 2 (Int32.toNatClampNeg (xs (4 * t + 2)))))) G (u2 D 14 0 (dOuC D (1 : Int32) (xs (4 * t + 2)))) H locs ls (hRc.mono (by omega)) hP hD hS (lv_sub hl [2, 3, 4, 5, 6] rfl)
