set_option maxRecDepth 100000 in
set_option maxHeartbeats 4000000 in
theorem law_clear {p : Program} {l : Launch} {e : Env} {s : State} {m : MethodId} {below : List Frame} {meth : Method} {c0 : Code} {H : Heap} {locs : List Loc} {cells slots : Nat} {Q : State → Prop} {ls : Array Slot} {Dg : va_G} {a b u v d : Nat → Nat} {k : Nat → ClassId} {kl : ClassId} {ao b0 L q vB tL t : Nat} {f : Nat → Int64} {xs : Nat → Int32} {G D : vSt} (F : CallFix p m c0 code 7 s #[Value.ref b0] lw_ok "FusedEngineLaw") (hl0 : l.stackTraces = false) (hX : lF Dg k q vB tL s) (hKl : va_K Dg classes [(kl, .long)] s) (hsc : va_X b0 L xs s s.heap) (hbl : b0 < s.heap.size) (ht : 4 * t + 4 ≤ L) (hL : L ≤ 2048) (hR : Rel (12000 * t) G D)
    (hP : va_P Dg classes ((wL ao kl f ++ (wE a b u v ++ wP b k G ++ wM u k (pm 0 D) ++ wM v k (pm 1 D))) ++ wD d k D) H) (hD : va_D (lA s) ((wL ao kl f ++ (wE a b u v ++ wP b k G ++ wM u k (pm 0 D) ++ wM v k (pm 1 D))) ++ wD d k D)) (hS : va_S (lA s) s.heap H locs) (hl : lv_has ls 7 [(4, .int (nI (4 * t))), (0, .ref b0), (1, .ref (a 0)), (2, .ref (d 0)), (3, .ref ao)]) (hc1 : cells + 1 ≤ room_1.cells) (hc2 : slots + 6 ≤ room_1.slots)
    (kk : ∀ (f : Nat → Int64) (G D : vSt) (H : Heap) (locs : List Loc) (ls : Array Slot), Rel (12000 * (t + 1)) G D → va_P Dg classes ((wL ao kl f ++ (wE a b u v ++ wP b k G ++ wM u k (pm 0 D) ++ wM v k (pm 1 D))) ++ wD d k D) H → va_D (lA s) ((wL ao kl f ++ (wE a b u v ++ wP b k G ++ wM u k (pm 0 D) ++ wM v k (pm 1 D))) ++ wD d k D) → va_S (lA s) s.heap H locs → lv_has ls 7 [(4, .int (nI (4 * t))), (0, .ref b0), (1, .ref (a 0)), (2, .ref (d 0)), (3, .ref ao)] → W p l e room_1 s m #[Value.ref b0] below meth c0 H locs (cells + 1) (slots + 6) Q (F0 m 716 ls [])) : W p l e room_1 s m #[Value.ref b0] below meth c0 H locs cells slots Q (F0 m 224 ls []) := by
  obtain ⟨hx, hb, hml, hown, hT⟩ := id F
  have hbA : ¬ lA s b0 := fun w => absurd w (by show ¬ s.heap.size ≤ b0; omega)
  have hc3 : cells ≤ room_1.cells := by omega
  have hc4 : slots ≤ room_1.slots := by omega
  obtain ⟨y1, y2⟩ := clear_rel hR
  refine lv_aload_n hx hb d_Law_law_224 rfl (lv_at hl 2 rfl) ?_
  refine km_Vv (wr := wL ao kl f ++ wD d k D) F (c_Eng_clear l Dg a b u v k G (pm 0 D) (pm 1 D) _ (hP.sub (ws' := (wE a b u v ++ wP b k G ++ wM u k (pm 0 D) ++ wM v k (pm 1 D))) [1, 2, 3, 4, 5, 6, 7, 8, 9, 10, 11, 12, 13, 14, 15, 16, 17] rfl) ((hD.sub (ws' := (wE a b u v ++ wP b k G ++ wM u k (pm 0 D) ++ wM v k (pm 1 D))) [1, 2, 3, 4, 5, 6, 7, 8, 9, 10, 11, 12, 13, 14, 15, 16, 17] (by decide) rfl).weaken (fun _ _ _ _ => trivial))) kx_K hX.1 kw_Law_57 tw1_113 tw1_114 (va_recv (ci := 0) (q0 := 1) hX.1 hP rfl rfl) hP hD hS (fun _ h => h) [1, 2, 3, 4, 5, 6, 7, 8, 9, 10, 11, 12, 13, 14, 15, 16, 17] [0, 18, 19, 20, 21, 22, 23, 24, 25, 26, 27, 28, 29, 30, 31, 32] rfl rfl (by decide) (by decide) d_Law_law_225 ⟨⟨Nat.le_of_ble_eq_true rfl, Nat.le_of_ble_eq_true rfl⟩, hc3, hc4⟩ rfl hl.1 rfl (Nat.le_of_ble_eq_true rfl) (fun H locs hP hD hS => ?_)
  have hP : va_P Dg classes ((wL ao kl f ++ wD d k D) ++ (wE a b u v ++ wP b k (sNone G) ++ wM u k (sBegin (pm 0 D)) ++ wM v k (sBegin (pm 1 D)))) H := hP
  have hD : va_D (lA s) ((wL ao kl f ++ wD d k D) ++ (wE a b u v ++ wP b k (sNone G) ++ wM u k (sBegin (pm 0 D)) ++ wM v k (sBegin (pm 1 D)))) := hD
  refine lv_aload_n hx hb d_Law_law_228 rfl (lv_at hl 3 rfl) ?_
  refine km_Vv (wr := wL ao kl f ++ (wE a b u v ++ wP b k (sNone G) ++ wM u k (sBegin (pm 0 D)) ++ wM v k (sBegin (pm 1 D)))) F (c_Mod_clear l Dg d k D _ (hP.sub (ws' := wD d k D) [1, 2, 3, 4, 5, 6, 7, 8, 9, 10, 11, 12, 13, 14, 15] rfl) ((hD.sub (ws' := wD d k D) [1, 2, 3, 4, 5, 6, 7, 8, 9, 10, 11, 12, 13, 14, 15] (by decide) rfl).weaken (fun _ _ _ _ => trivial)) ) kx_K hX.1 kw_Law_60 tw3_72 tw3_73 (va_recv (ci := 3) (q0 := 1) hX.1 hP rfl rfl) hP hD hS (fun _ h => h) [1, 2, 3, 4, 5, 6, 7, 8, 9, 10, 11, 12, 13, 14, 15] [0, 16, 17, 18, 19, 20, 21, 22, 23, 24, 25, 26, 27, 28, 29, 30, 31, 32] rfl rfl (by decide) (by decide) d_Law_law_229 ⟨⟨Nat.le_of_ble_eq_true rfl, Nat.le_of_ble_eq_true rfl⟩, hc3, hc4⟩ rfl hl.1 rfl (Nat.le_of_ble_eq_true rfl) (fun H locs hP hD hS => ?_)
  have hP : va_P Dg classes ((wL ao kl f ++ (wE a b u v ++ wP b k (sNone G) ++ wM u k (sBegin (pm 0 D)) ++ wM v k (sBegin (pm 1 D)))) ++ wD d k (dClear D)) H := hP
  have hD : va_D (lA s) ((wL ao kl f ++ (wE a b u v ++ wP b k (sNone G) ++ wM u k (sBegin (pm 0 D)) ++ wM v k (sBegin (pm 1 D)))) ++ wD d k (dClear D)) := hD
  refine lv_goto (tgt := 716) hx hb d_Law_law_232 (by decide) ?_
  rw [← y2 0 (by omega), ← y2 1 (by omega)] at hP hD
  refine W.widen (k := cells + 1) (n := slots + 6) (by omega) (by omega) ?_
  exact kk f (sNone G) (dClear D) H locs ls (y1.mono (by omega)) hP hD hS hl

set_option maxRecDepth 100000 in
set_option maxHeartbeats 4000000 in
theorem law_restart {p : Program} {l : Launch} {e : Env} {s : State} {m : MethodId} {below : List Frame} {meth : Method} {c0 : Code} {H : Heap} {locs : List Loc} {cells slots : Nat} {Q : State → Prop} {ls : Array Slot} {Dg : va_G} {a b u v d : Nat → Nat} {k : Nat → ClassId} {kl : ClassId} {ao b0 L q vB tL t : Nat} {f : Nat → Int64} {xs : Nat → Int32} {G D : vSt} (F : CallFix p m c0 code 7 s #[Value.ref b0] lw_ok "FusedEngineLaw") (hl0 : l.stackTraces = false) (hX : lF Dg k q vB tL s) (hKl : va_K Dg classes [(kl, .long)] s) (hsc : va_X b0 L xs s s.heap) (hbl : b0 < s.heap.size) (ht : 4 * t + 4 ≤ L) (hL : L ≤ 2048) (hR : Rel (12000 * t) G D)
    (hP : va_P Dg classes ((wL ao kl f ++ (wE a b u v ++ wP b k G ++ wM u k (pm 0 D) ++ wM v k (pm 1 D))) ++ wD d k D) H) (hD : va_D (lA s) ((wL ao kl f ++ (wE a b u v ++ wP b k G ++ wM u k (pm 0 D) ++ wM v k (pm 1 D))) ++ wD d k D)) (hS : va_S (lA s) s.heap H locs) (hl : lv_has ls 7 [(4, .int (nI (4 * t))), (0, .ref b0), (1, .ref (a 0)), (2, .ref (d 0)), (3, .ref ao)]) (hc1 : cells + 1 ≤ room_1.cells) (hc2 : slots + 6 ≤ room_1.slots)
    (kk : ∀ (f : Nat → Int64) (G D : vSt) (H : Heap) (locs : List Loc) (ls : Array Slot), Rel (12000 * (t + 1)) G D → va_P Dg classes ((wL ao kl f ++ (wE a b u v ++ wP b k G ++ wM u k (pm 0 D) ++ wM v k (pm 1 D))) ++ wD d k D) H → va_D (lA s) ((wL ao kl f ++ (wE a b u v ++ wP b k G ++ wM u k (pm 0 D) ++ wM v k (pm 1 D))) ++ wD d k D) → va_S (lA s) s.heap H locs → lv_has ls 7 [(4, .int (nI (4 * t))), (0, .ref b0), (1, .ref (a 0)), (2, .ref (d 0)), (3, .ref ao)] → W p l e room_1 s m #[Value.ref b0] below meth c0 H locs (cells + 1) (slots + 6) Q (F0 m 716 ls [])) : W p l e room_1 s m #[Value.ref b0] below meth c0 H locs cells slots Q (F0 m 400 ls []) := by
  obtain ⟨hx, hb, hml, hown, hT⟩ := id F
  have hbA : ¬ lA s b0 := fun w => absurd w (by show ¬ s.heap.size ≤ b0; omega)
  have hc3 : cells ≤ room_1.cells := by omega
  have hc4 : slots ≤ room_1.slots := by omega
  have y1 : Rel (12000 * (t + 1)) G (dBeg (u2 D 14 0 0)) := (hR.code 0).1.begin _
  have y2 : ∀ i, i < 2 → pm i (dBeg (u2 D 14 0 0)) = sBegin (pm i D) := fun i hi => by rw [pm_begin _ hi, (hR.code 0).2]
  refine lv_aload_n hx hb d_Law_law_400 rfl (lv_at hl 2 rfl) ?_
  refine km_Vv (wr := wL ao kl f ++ wD d k D) F (c_Eng_restart l Dg a b u v k G (pm 0 D) (pm 1 D) _ (hP.sub (ws' := (wE a b u v ++ wP b k G ++ wM u k (pm 0 D) ++ wM v k (pm 1 D))) [1, 2, 3, 4, 5, 6, 7, 8, 9, 10, 11, 12, 13, 14, 15, 16, 17] rfl) ((hD.sub (ws' := (wE a b u v ++ wP b k G ++ wM u k (pm 0 D) ++ wM v k (pm 1 D))) [1, 2, 3, 4, 5, 6, 7, 8, 9, 10, 11, 12, 13, 14, 15, 16, 17] (by decide) rfl).weaken (fun _ _ _ _ => trivial))) kx_K hX.1 kw_Law_72 tw1_157 tw1_158 (va_recv (ci := 0) (q0 := 1) hX.1 hP rfl rfl) hP hD hS (fun _ h => h) [1, 2, 3, 4, 5, 6, 7, 8, 9, 10, 11, 12, 13, 14, 15, 16, 17] [0, 18, 19, 20, 21, 22, 23, 24, 25, 26, 27, 28, 29, 30, 31, 32] rfl rfl (by decide) (by decide) d_Law_law_401 ⟨⟨Nat.le_of_ble_eq_true rfl, Nat.le_of_ble_eq_true rfl⟩, hc3, hc4⟩ rfl hl.1 rfl (Nat.le_of_ble_eq_true rfl) (fun H locs hP hD hS => ?_)
  have hP : va_P Dg classes ((wL ao kl f ++ wD d k D) ++ (wE a b u v ++ wP b k G ++ wM u k (sBegin (pm 0 D)) ++ wM v k (sBegin (pm 1 D)))) H := hP
  have hD : va_D (lA s) ((wL ao kl f ++ wD d k D) ++ (wE a b u v ++ wP b k G ++ wM u k (sBegin (pm 0 D)) ++ wM v k (sBegin (pm 1 D)))) := hD
  refine lv_aload_n hx hb d_Law_law_404 rfl (lv_at hl 3 rfl) ?_
  refine km_Vv (wr := wL ao kl f ++ (wE a b u v ++ wP b k G ++ wM u k (sBegin (pm 0 D)) ++ wM v k (sBegin (pm 1 D)))) F (c_Mod_restart l Dg d k D _ (hP.sub (ws' := wD d k D) [1, 2, 3, 4, 5, 6, 7, 8, 9, 10, 11, 12, 13, 14, 15] rfl) ((hD.sub (ws' := wD d k D) [1, 2, 3, 4, 5, 6, 7, 8, 9, 10, 11, 12, 13, 14, 15] (by decide) rfl).weaken (fun _ _ _ _ => trivial)) ) kx_K hX.1 kw_Law_75 tw3_146 tw3_147 (va_recv (ci := 3) (q0 := 1) hX.1 hP rfl rfl) hP hD hS (fun _ h => h) [1, 2, 3, 4, 5, 6, 7, 8, 9, 10, 11, 12, 13, 14, 15] [0, 16, 17, 18, 19, 20, 21, 22, 23, 24, 25, 26, 27, 28, 29, 30, 31, 32] rfl rfl (by decide) (by decide) d_Law_law_405 ⟨⟨Nat.le_of_ble_eq_true rfl, Nat.le_of_ble_eq_true rfl⟩, hc3, hc4⟩ rfl hl.1 rfl (Nat.le_of_ble_eq_true rfl) (fun H locs hP hD hS => ?_)
  have hP : va_P Dg classes ((wL ao kl f ++ (wE a b u v ++ wP b k G ++ wM u k (sBegin (pm 0 D)) ++ wM v k (sBegin (pm 1 D)))) ++ wD d k (dBeg (u2 D 14 0 0))) H := hP
  have hD : va_D (lA s) ((wL ao kl f ++ (wE a b u v ++ wP b k G ++ wM u k (sBegin (pm 0 D)) ++ wM v k (sBegin (pm 1 D)))) ++ wD d k (dBeg (u2 D 14 0 0))) := hD
  refine lv_goto (tgt := 716) hx hb d_Law_law_408 (by decide) ?_
  rw [← y2 0 (by omega), ← y2 1 (by omega)] at hP hD
  refine W.widen (k := cells + 1) (n := slots + 6) (by omega) (by omega) ?_
  exact kk f G (dBeg (u2 D 14 0 0)) H locs ls y1 hP hD hS hl

set_option maxRecDepth 100000 in
set_option maxHeartbeats 4000000 in
theorem law_fuse {p : Program} {l : Launch} {e : Env} {s : State} {m : MethodId} {below : List Frame} {meth : Method} {c0 : Code} {H : Heap} {locs : List Loc} {cells slots : Nat} {Q : State → Prop} {ls : Array Slot} {Dg : va_G} {a b u v d : Nat → Nat} {k : Nat → ClassId} {kl : ClassId} {ao b0 L q vB tL t : Nat} {f : Nat → Int64} {xs : Nat → Int32} {G D : vSt} (F : CallFix p m c0 code 7 s #[Value.ref b0] lw_ok "FusedEngineLaw") (hl0 : l.stackTraces = false) (hX : lF Dg k q vB tL s) (hKl : va_K Dg classes [(kl, .long)] s) (hsc : va_X b0 L xs s s.heap) (hbl : b0 < s.heap.size) (ht : 4 * t + 4 ≤ L) (hL : L ≤ 2048) (hR : Rel (12000 * t) G D)
    (hP : va_P Dg classes ((wL ao kl f ++ (wE a b u v ++ wP b k G ++ wM u k (pm 0 D) ++ wM v k (pm 1 D))) ++ wD d k D) H) (hD : va_D (lA s) ((wL ao kl f ++ (wE a b u v ++ wP b k G ++ wM u k (pm 0 D) ++ wM v k (pm 1 D))) ++ wD d k D)) (hS : va_S (lA s) s.heap H locs) (hl : lv_has ls 7 [(4, .int (nI (4 * t))), (0, .ref b0), (1, .ref (a 0)), (2, .ref (d 0)), (3, .ref ao)]) (hc1 : cells + 1 ≤ room_1.cells) (hc2 : slots + 6 ≤ room_1.slots)
    (kk : ∀ (f : Nat → Int64) (G D : vSt) (H : Heap) (locs : List Loc) (ls : Array Slot), Rel (12000 * (t + 1)) G D → va_P Dg classes ((wL ao kl f ++ (wE a b u v ++ wP b k G ++ wM u k (pm 0 D) ++ wM v k (pm 1 D))) ++ wD d k D) H → va_D (lA s) ((wL ao kl f ++ (wE a b u v ++ wP b k G ++ wM u k (pm 0 D) ++ wM v k (pm 1 D))) ++ wD d k D) → va_S (lA s) s.heap H locs → lv_has ls 7 [(4, .int (nI (4 * t))), (0, .ref b0), (1, .ref (a 0)), (2, .ref (d 0)), (3, .ref ao)] → W p l e room_1 s m #[Value.ref b0] below meth c0 H locs (cells + 1) (slots + 6) Q (F0 m 716 ls [])) : W p l e room_1 s m #[Value.ref b0] below meth c0 H locs cells slots Q (F0 m 235 ls []) := by
  obtain ⟨hx, hb, hml, hown, hT⟩ := id F
  have hbA : ¬ lA s b0 := fun w => absurd w (by show ¬ s.heap.size ≤ b0; omega)
  have hc3 : cells ≤ room_1.cells := by omega
  have hc4 : slots ≤ room_1.slots := by omega
  obtain ⟨y1, y2, y3⟩ := fuse_rel hR
  refine lv_aload_n hx hb d_Law_law_235 rfl (lv_at hl 2 rfl) ?_
  refine km_Vi (wr := wL ao kl f ++ wD d k D) F (c_Eng_fuse l Dg a b u v k G (pm 0 D) (pm 1 D) tL _ (hP.sub (ws' := (wE a b u v ++ wP b k G ++ wM u k (pm 0 D) ++ wM v k (pm 1 D))) [1, 2, 3, 4, 5, 6, 7, 8, 9, 10, 11, 12, 13, 14, 15, 16, 17] rfl) ((hD.sub (ws' := (wE a b u v ++ wP b k G ++ wM u k (pm 0 D) ++ wM v k (pm 1 D))) [1, 2, 3, 4, 5, 6, 7, 8, 9, 10, 11, 12, 13, 14, 15, 16, 17] (by decide) rfl).weaken (fun _ _ _ _ => trivial)) (pOk_rel hR).1) kx_rl ⟨hX.1, hX.rl hS (hD.sub (ws' := (wE a b u v ++ wP b k G ++ wM u k (pm 0 D) ++ wM v k (pm 1 D))) [1, 2, 3, 4, 5, 6, 7, 8, 9, 10, 11, 12, 13, 14, 15, 16, 17] (by decide) rfl)⟩ kw_Law_61 tw1_132 tw1_133 (va_recv (ci := 0) (q0 := 1) hX.1 hP rfl rfl) hP hD hS (fun _ h => h) [1, 2, 3, 4, 5, 6, 7, 8, 9, 10, 11, 12, 13, 14, 15, 16, 17] [0, 18, 19, 20, 21, 22, 23, 24, 25, 26, 27, 28, 29, 30, 31, 32] rfl rfl (by decide) (by decide) d_Law_law_236 ⟨⟨Nat.le_of_ble_eq_true rfl, Nat.le_of_ble_eq_true rfl⟩, hc3, hc4⟩ rfl hl.1 rfl (Nat.le_of_ble_eq_true rfl) (fun H locs hP hD hS => ?_)
  have hP : va_P Dg classes ((wL ao kl f ++ wD d k D) ++ (wE a b u v ++ wP b k (sFuM G) ++ wM u k (sBegin (pm 0 D)) ++ wM v k (sBegin (pm 1 D)))) H := hP
  have hD : va_D (lA s) ((wL ao kl f ++ wD d k D) ++ (wE a b u v ++ wP b k (sFuM G) ++ wM u k (sBegin (pm 0 D)) ++ wM v k (sBegin (pm 1 D)))) := hD
  refine lv_aload_n hx hb d_Law_law_239 rfl (lv_at hl 3 rfl) ?_
  refine km_Vi (wr := wL ao kl f ++ (wE a b u v ++ wP b k (sFuM G) ++ wM u k (sBegin (pm 0 D)) ++ wM v k (sBegin (pm 1 D)))) F (c_Mod_fuse l Dg d k D _ (hP.sub (ws' := wD d k D) [1, 2, 3, 4, 5, 6, 7, 8, 9, 10, 11, 12, 13, 14, 15] rfl) ((hD.sub (ws' := wD d k D) [1, 2, 3, 4, 5, 6, 7, 8, 9, 10, 11, 12, 13, 14, 15] (by decide) rfl).weaken (fun _ _ _ _ => trivial)) (pOk_rel hR).2.1 (pOk_rel hR).2.2) kx_K hX.1 kw_Law_64 tw3_76 tw3_77 (va_recv (ci := 3) (q0 := 1) hX.1 hP rfl rfl) hP hD hS (fun _ h => h) [1, 2, 3, 4, 5, 6, 7, 8, 9, 10, 11, 12, 13, 14, 15] [0, 16, 17, 18, 19, 20, 21, 22, 23, 24, 25, 26, 27, 28, 29, 30, 31, 32] rfl rfl (by decide) (by decide) d_Law_law_240 ⟨⟨Nat.le_of_ble_eq_true rfl, Nat.le_of_ble_eq_true rfl⟩, hc3, hc4⟩ rfl hl.1 rfl (Nat.le_of_ble_eq_true rfl) (fun H locs hP hD hS => ?_)
  have hP : va_P Dg classes ((wL ao kl f ++ (wE a b u v ++ wP b k (sFuM G) ++ wM u k (sBegin (pm 0 D)) ++ wM v k (sBegin (pm 1 D)))) ++ wD d k (dFuM D)) H := hP
  have hD : va_D (lA s) ((wL ao kl f ++ (wE a b u v ++ wP b k (sFuM G) ++ wM u k (sBegin (pm 0 D)) ++ wM v k (sBegin (pm 1 D)))) ++ wD d k (dFuM D)) := hD
  refine lv_icmp_eq (tgt := 716) hx hb d_Law_law_243 (by decide) (fun _ => ?_) (fun h9 => absurd y3 h9)
  rw [← y2 0 (by omega), ← y2 1 (by omega)] at hP hD
  refine W.widen (k := cells + 1) (n := slots + 6) (by omega) (by omega) ?_
  exact kk f (sFuM G) (dFuM D) H locs ls (y1.mono (by omega)) hP hD hS hl

set_option maxRecDepth 100000 in
set_option maxHeartbeats 4000000 in
theorem law_about {p : Program} {l : Launch} {e : Env} {s : State} {m : MethodId} {below : List Frame} {meth : Method} {c0 : Code} {H : Heap} {locs : List Loc} {cells slots : Nat} {Q : State → Prop} {ls : Array Slot} {Dg : va_G} {a b u v d : Nat → Nat} {k : Nat → ClassId} {kl : ClassId} {ao b0 L q vB tL t : Nat} {f : Nat → Int64} {xs : Nat → Int32} {G D : vSt} (F : CallFix p m c0 code 7 s #[Value.ref b0] lw_ok "FusedEngineLaw") (hl0 : l.stackTraces = false) (hX : lF Dg k q vB tL s) (hKl : va_K Dg classes [(kl, .long)] s) (hsc : va_X b0 L xs s s.heap) (hbl : b0 < s.heap.size) (ht : 4 * t + 4 ≤ L) (hL : L ≤ 2048) (hR : Rel (12000 * t) G D)
    (hP : va_P Dg classes ((wL ao kl f ++ (wE a b u v ++ wP b k G ++ wM u k (pm 0 D) ++ wM v k (pm 1 D))) ++ wD d k D) H) (hD : va_D (lA s) ((wL ao kl f ++ (wE a b u v ++ wP b k G ++ wM u k (pm 0 D) ++ wM v k (pm 1 D))) ++ wD d k D)) (hS : va_S (lA s) s.heap H locs) (hl : lv_has ls 7 [(4, .int (nI (4 * t))), (0, .ref b0), (1, .ref (a 0)), (2, .ref (d 0)), (3, .ref ao)]) (hc1 : cells + 1 ≤ room_1.cells) (hc2 : slots + 6 ≤ room_1.slots)
    (kk : ∀ (f : Nat → Int64) (G D : vSt) (H : Heap) (locs : List Loc) (ls : Array Slot), Rel (12000 * (t + 1)) G D → va_P Dg classes ((wL ao kl f ++ (wE a b u v ++ wP b k G ++ wM u k (pm 0 D) ++ wM v k (pm 1 D))) ++ wD d k D) H → va_D (lA s) ((wL ao kl f ++ (wE a b u v ++ wP b k G ++ wM u k (pm 0 D) ++ wM v k (pm 1 D))) ++ wD d k D) → va_S (lA s) s.heap H locs → lv_has ls 7 [(4, .int (nI (4 * t))), (0, .ref b0), (1, .ref (a 0)), (2, .ref (d 0)), (3, .ref ao)] → W p l e room_1 s m #[Value.ref b0] below meth c0 H locs (cells + 1) (slots + 6) Q (F0 m 716 ls [])) : W p l e room_1 s m #[Value.ref b0] below meth c0 H locs cells slots Q (F0 m 411 ls []) := by
  obtain ⟨hx, hb, hml, hown, hT⟩ := id F
  have hbA : ¬ lA s b0 := fun w => absurd w (by show ¬ s.heap.size ≤ b0; omega)
  have hc3 : cells ≤ room_1.cells := by omega
  have hc4 : slots ≤ room_1.slots := by omega
  by_cases hz : (xs (4 * t + 1)) = 0
  · skip
    refine lv_aload_n hx hb d_Law_law_411 rfl (lv_at hl 2 rfl) ?_
    refine lv_aload_n hx hb d_Law_law_412 rfl (lv_at hl 1 rfl) ?_
    refine lv_iload hx hb d_Law_law_413 (lv_at hl 0 rfl) ?_
    refine lv_iconst (v := 1) hx hb d_Law_law_415 (by decide) ?_
    refine lv_iadd hx hb d_Law_law_416 ?_
    rw [nI_1]
    refine va_sld hx hb hsc hbl hbA hS (vp_in_nI (n := 4 * t + 1) (by omega) (by omega)) d_Law_law_417 ?_
    rw [nI_clamp (n := 4 * t + 1) (by omega)]
    refine lv_if_eq (tgt := 425) hx hb d_Law_law_418 (by decide) (fun _ => ?_) (fun h9 => absurd hz h9)
    refine lv_iconst (v := 0) hx hb d_Law_law_425 (by decide) ?_
    refine lv_aload_n hx hb d_Law_law_426 rfl (lv_at hl 1 rfl) ?_
    refine lv_iload hx hb d_Law_law_427 (lv_at hl 0 rfl) ?_
    refine lv_iconst (v := 2) hx hb d_Law_law_429 (by decide) ?_
    refine lv_iadd hx hb d_Law_law_430 ?_
    rw [nI_2]
    refine va_sld hx hb hsc hbl hbA hS (vp_in_nI (n := 4 * t + 2) (by omega) (by omega)) d_Law_law_431 ?_
    rw [nI_clamp (n := 4 * t + 2) (by omega)]
    refine kp_V F (c_Eng_about l Dg a b u v k G (pm 0 D) (pm 1 D) (0 : Int32) (xs (4 * t + 2)) _ (hP.sub (ws' := (wE a b u v ++ wP b k G ++ wM u k (pm 0 D) ++ wM v k (pm 1 D))) [1, 2, 3, 4, 5, 6, 7, 8, 9, 10, 11, 12, 13, 14, 15, 16, 17] rfl)) kx_K hX.1 kw_Law_76 tw1_161 tw1_162 (va_recv (ci := 0) (q0 := 1) hX.1 hP rfl rfl) hS d_Law_law_432 ⟨⟨Nat.le_of_ble_eq_true rfl, Nat.le_of_ble_eq_true rfl⟩, hc3, hc4⟩ rfl hl.1 rfl (Nat.le_of_ble_eq_true rfl) (fun locs hS => ?_)
    refine lv_aload_n hx hb d_Law_law_435 rfl (lv_at hl 3 rfl) ?_
    refine lv_aload_n hx hb d_Law_law_436 rfl (lv_at hl 1 rfl) ?_
    refine lv_iload hx hb d_Law_law_437 (lv_at hl 0 rfl) ?_
    refine lv_iconst (v := 1) hx hb d_Law_law_439 (by decide) ?_
    refine lv_iadd hx hb d_Law_law_440 ?_
    rw [nI_1]
    refine va_sld hx hb hsc hbl hbA hS (vp_in_nI (n := 4 * t + 1) (by omega) (by omega)) d_Law_law_441 ?_
    rw [nI_clamp (n := 4 * t + 1) (by omega)]
    refine lv_if_eq (tgt := 449) hx hb d_Law_law_442 (by decide) (fun _ => ?_) (fun h9 => absurd hz h9)
    refine lv_iconst (v := 0) hx hb d_Law_law_449 (by decide) ?_
    refine lv_aload_n hx hb d_Law_law_450 rfl (lv_at hl 1 rfl) ?_
    refine lv_iload hx hb d_Law_law_451 (lv_at hl 0 rfl) ?_
    refine lv_iconst (v := 2) hx hb d_Law_law_453 (by decide) ?_
    refine lv_iadd hx hb d_Law_law_454 ?_
    rw [nI_2]
    refine va_sld hx hb hsc hbl hbA hS (vp_in_nI (n := 4 * t + 2) (by omega) (by omega)) d_Law_law_455 ?_
    rw [nI_clamp (n := 4 * t + 2) (by omega)]
    refine km_Vi (wr := (wL ao kl f ++ (wE a b u v ++ wP b k G ++ wM u k (pm 0 D) ++ wM v k (pm 1 D)))) F (c_Mod_about l Dg d k D (0 : Int32) (xs (4 * t + 2)) _ (hP.sub (ws' := wD d k D) [18, 19, 20, 21, 22, 23, 24, 25, 26, 27, 28, 29, 30, 31, 32] rfl) ((hD.sub (ws' := wD d k D) [18, 19, 20, 21, 22, 23, 24, 25, 26, 27, 28, 29, 30, 31, 32] (by decide) rfl).weaken (fun _ _ _ _ => trivial))) kx_K hX.1 kw_Law_79 tw3_150 tw3_151 (va_recv (ci := 3) (q0 := 18) hX.1 hP rfl rfl) hP hD hS (fun _ h => h) [18, 19, 20, 21, 22, 23, 24, 25, 26, 27, 28, 29, 30, 31, 32] [0, 1, 2, 3, 4, 5, 6, 7, 8, 9, 10, 11, 12, 13, 14, 15, 16, 17] rfl rfl (by decide) (by decide) d_Law_law_456 ⟨⟨Nat.le_of_ble_eq_true rfl, Nat.le_of_ble_eq_true rfl⟩, hc3, hc4⟩ rfl hl.1 rfl (Nat.le_of_ble_eq_true rfl) (fun H locs hP hD hS => ?_)
    have hP : va_P Dg classes ((wL ao kl f ++ (wE a b u v ++ wP b k G ++ wM u k (pm 0 D) ++ wM v k (pm 1 D))) ++ wD d k (u2 D 14 0 0)) H := hP
    have hD : va_D (lA s) ((wL ao kl f ++ (wE a b u v ++ wP b k G ++ wM u k (pm 0 D) ++ wM v k (pm 1 D))) ++ wD d k (u2 D 14 0 0)) := hD
    refine lv_icmp_eq (tgt := 716) hx hb d_Law_law_459 (by decide) (fun _ => ?_) (fun h9 => absurd (about_rel D (0 : Int32) (xs (4 * t + 2))) h9)
    rw [← (hR.code 0).2 0, ← (hR.code 0).2 1] at hP hD
    refine W.widen (k := cells + 1) (n := slots + 6) (by omega) (by omega) ?_
    exact kk f G (u2 D 14 0 0) H locs ls ((hR.code 0).1.mono (by omega)) hP hD hS hl
  · skip
    refine lv_aload_n hx hb d_Law_law_411 rfl (lv_at hl 2 rfl) ?_
    refine lv_aload_n hx hb d_Law_law_412 rfl (lv_at hl 1 rfl) ?_
    refine lv_iload hx hb d_Law_law_413 (lv_at hl 0 rfl) ?_
    refine lv_iconst (v := 1) hx hb d_Law_law_415 (by decide) ?_
    refine lv_iadd hx hb d_Law_law_416 ?_
    rw [nI_1]
    refine va_sld hx hb hsc hbl hbA hS (vp_in_nI (n := 4 * t + 1) (by omega) (by omega)) d_Law_law_417 ?_
    rw [nI_clamp (n := 4 * t + 1) (by omega)]
    refine lv_if_eq (tgt := 425) hx hb d_Law_law_418 (by decide) (fun h9 => absurd h9 hz) (fun _ => ?_)
    refine lv_iconst (v := 1) hx hb d_Law_law_421 (by decide) ?_
    refine lv_goto (tgt := 426) hx hb d_Law_law_422 (by decide) ?_
    refine lv_aload_n hx hb d_Law_law_426 rfl (lv_at hl 1 rfl) ?_
    refine lv_iload hx hb d_Law_law_427 (lv_at hl 0 rfl) ?_
    refine lv_iconst (v := 2) hx hb d_Law_law_429 (by decide) ?_
    refine lv_iadd hx hb d_Law_law_430 ?_
    rw [nI_2]
    refine va_sld hx hb hsc hbl hbA hS (vp_in_nI (n := 4 * t + 2) (by omega) (by omega)) d_Law_law_431 ?_
    rw [nI_clamp (n := 4 * t + 2) (by omega)]
    refine kp_V F (c_Eng_about l Dg a b u v k G (pm 0 D) (pm 1 D) (1 : Int32) (xs (4 * t + 2)) _ (hP.sub (ws' := (wE a b u v ++ wP b k G ++ wM u k (pm 0 D) ++ wM v k (pm 1 D))) [1, 2, 3, 4, 5, 6, 7, 8, 9, 10, 11, 12, 13, 14, 15, 16, 17] rfl)) kx_K hX.1 kw_Law_76 tw1_161 tw1_162 (va_recv (ci := 0) (q0 := 1) hX.1 hP rfl rfl) hS d_Law_law_432 ⟨⟨Nat.le_of_ble_eq_true rfl, Nat.le_of_ble_eq_true rfl⟩, hc3, hc4⟩ rfl hl.1 rfl (Nat.le_of_ble_eq_true rfl) (fun locs hS => ?_)
    refine lv_aload_n hx hb d_Law_law_435 rfl (lv_at hl 3 rfl) ?_
    refine lv_aload_n hx hb d_Law_law_436 rfl (lv_at hl 1 rfl) ?_
    refine lv_iload hx hb d_Law_law_437 (lv_at hl 0 rfl) ?_
    refine lv_iconst (v := 1) hx hb d_Law_law_439 (by decide) ?_
    refine lv_iadd hx hb d_Law_law_440 ?_
    rw [nI_1]
    refine va_sld hx hb hsc hbl hbA hS (vp_in_nI (n := 4 * t + 1) (by omega) (by omega)) d_Law_law_441 ?_
    rw [nI_clamp (n := 4 * t + 1) (by omega)]
    refine lv_if_eq (tgt := 449) hx hb d_Law_law_442 (by decide) (fun h9 => absurd h9 hz) (fun _ => ?_)
    refine lv_iconst (v := 1) hx hb d_Law_law_445 (by decide) ?_
    refine lv_goto (tgt := 450) hx hb d_Law_law_446 (by decide) ?_
    refine lv_aload_n hx hb d_Law_law_450 rfl (lv_at hl 1 rfl) ?_
    refine lv_iload hx hb d_Law_law_451 (lv_at hl 0 rfl) ?_
    refine lv_iconst (v := 2) hx hb d_Law_law_453 (by decide) ?_
    refine lv_iadd hx hb d_Law_law_454 ?_
    rw [nI_2]
    refine va_sld hx hb hsc hbl hbA hS (vp_in_nI (n := 4 * t + 2) (by omega) (by omega)) d_Law_law_455 ?_
    rw [nI_clamp (n := 4 * t + 2) (by omega)]
    refine km_Vi (wr := (wL ao kl f ++ (wE a b u v ++ wP b k G ++ wM u k (pm 0 D) ++ wM v k (pm 1 D)))) F (c_Mod_about l Dg d k D (1 : Int32) (xs (4 * t + 2)) _ (hP.sub (ws' := wD d k D) [18, 19, 20, 21, 22, 23, 24, 25, 26, 27, 28, 29, 30, 31, 32] rfl) ((hD.sub (ws' := wD d k D) [18, 19, 20, 21, 22, 23, 24, 25, 26, 27, 28, 29, 30, 31, 32] (by decide) rfl).weaken (fun _ _ _ _ => trivial))) kx_K hX.1 kw_Law_79 tw3_150 tw3_151 (va_recv (ci := 3) (q0 := 18) hX.1 hP rfl rfl) hP hD hS (fun _ h => h) [18, 19, 20, 21, 22, 23, 24, 25, 26, 27, 28, 29, 30, 31, 32] [0, 1, 2, 3, 4, 5, 6, 7, 8, 9, 10, 11, 12, 13, 14, 15, 16, 17] rfl rfl (by decide) (by decide) d_Law_law_456 ⟨⟨Nat.le_of_ble_eq_true rfl, Nat.le_of_ble_eq_true rfl⟩, hc3, hc4⟩ rfl hl.1 rfl (Nat.le_of_ble_eq_true rfl) (fun H locs hP hD hS => ?_)
    have hP : va_P Dg classes ((wL ao kl f ++ (wE a b u v ++ wP b k G ++ wM u k (pm 0 D) ++ wM v k (pm 1 D))) ++ wD d k (u2 D 14 0 0)) H := hP
    have hD : va_D (lA s) ((wL ao kl f ++ (wE a b u v ++ wP b k G ++ wM u k (pm 0 D) ++ wM v k (pm 1 D))) ++ wD d k (u2 D 14 0 0)) := hD
    refine lv_icmp_eq (tgt := 716) hx hb d_Law_law_459 (by decide) (fun _ => ?_) (fun h9 => absurd (about_rel D (1 : Int32) (xs (4 * t + 2))) h9)
    rw [← (hR.code 0).2 0, ← (hR.code 0).2 1] at hP hD
    refine W.widen (k := cells + 1) (n := slots + 6) (by omega) (by omega) ?_
    exact kk f G (u2 D 14 0 0) H locs ls ((hR.code 0).1.mono (by omega)) hP hD hS hl
