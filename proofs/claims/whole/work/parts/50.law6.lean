/-! THE LAW: from its entry to its loop -/
set_option maxRecDepth 100000 in
set_option maxHeartbeats 4000000 in
theorem law_start {p : Program} {l : Launch} {e : Env} {s : State} {m : MethodId} {below : List Frame} {meth : Method} {c0 : Code} {Q : State → Prop} {ls : Array Slot} {Dg : va_G} {k : Nat → ClassId} {b0 L q vB tL : Nat} {xs : Nat → Int32} (F : CallFix p m c0 code 7 s #[Value.ref b0] lw_ok "FusedEngineLaw") (hl0 : l.stackTraces = false) (hX : lF Dg k q vB tL s) (hsc : va_X b0 L xs s s.heap) (hbl : b0 < s.heap.size) (hL : L ≤ 2048) (hl : lv_has ls 7 [(0, .ref b0)])
    (kk : ∀ (H : Heap) (locs : List Loc) (ls : Array Slot) (k n : Nat), k ≤ room_1.cells → n ≤ room_1.slots → va_S (lA s) s.heap H locs → W p l e room_1 s m #[Value.ref b0] below meth c0 H locs k n Q (F0 m 722 ls [])) : W p l e room_1 s m #[Value.ref b0] below meth c0 s.heap [] 0 0 Q (F0 m 0 ls []) := by
  obtain ⟨hx, hb, hml, hown, hT⟩ := id F
  have hA : ∀ z : Nat, s.heap.size ≤ z → lA s z := fun _ h => h
  have hP : va_P Dg classes [] s.heap := fun j z h => by simp at h
  have hD : va_D (lA s) [] := ⟨fun i j y z h => by simp at h, fun i z h => by simp at h⟩
  have hS : va_S (lA s) s.heap s.heap [] := va_S.rf
  refine va_new (D := Dg) (ci := 0) (fs := [.null, .null, .null]) (C := R_Eng) (T := F_Eng) (N := 3) hx hb hT in_Eng t_Eng t_Eng_ok hown (hT _ tw1_18) (hT _ tw1_19) (hT _ tw1_1) hX.1 hP hD hS hA rfl (by intro j hj; have hj2 : j < 3 := hj; rcases (show j = 0 ∨ j = 1 ∨ j = 2 by omega) with rfl | rfl | rfl <;> rfl) (Nat.le_of_ble_eq_true rfl) (Nat.le_of_ble_eq_true rfl) d_Law_law_0 (fun q0 H hP hD hS => ?_)
  have hP : va_P Dg classes [(q0, .inr (0, [.null, .null, .null]))] H := hP
  have hD : va_D (lA s) [(q0, .inr (0, [.null, .null, .null]))] := hD
  refine W.widen (k := 1) (n := 3) (Nat.le_of_ble_eq_true rfl) (Nat.le_of_ble_eq_true rfl) ?_
  refine lv_dup hx hb d_Law_law_3 rfl ?_
  refine kc_I (k := 0) (wr := []) F (c_Eng_init l Dg k q0 _ hP (hD.weaken (fun _ _ _ _ => trivial))) kx_E ⟨hX.1, hX.2.2.2.2.2.2⟩ kw_Law_39 tw1_21 rfl hP hD hS hA [0] [] rfl rfl (by decide) (by decide) d_Law_law_4 ⟨⟨Nat.le_of_ble_eq_true rfl, Nat.le_of_ble_eq_true rfl⟩, Nat.le_of_ble_eq_true rfl, Nat.le_of_ble_eq_true rfl⟩ rfl hl.1 rfl (Nat.le_of_ble_eq_true rfl) (fun w H locs ho hP hD hS => ?_)
  have hP : va_P Dg classes (w4 w.1 w.2.1 w.2.2.1 w.2.2.2 k vZ vZ vZ) H := hP
  have hD : va_D (lA s) (w4 w.1 w.2.1 w.2.2.1 w.2.2.2 k vZ vZ vZ) := hD
  refine W.widen (k := 17) (n := 666) (Nat.le_of_ble_eq_true rfl) (Nat.le_of_ble_eq_true rfl) ?_
  rw [← ho]
  refine lv_astore_n hx hb d_Law_law_7 rfl hl (by decide) rfl (fun ls hl => ?_)
  have hl : lv_has ls 7 [(1, .ref (w.1 0)), (0, .ref b0)] := hl
  refine va_new (D := Dg) (ci := 3) (fs := [.int 0, .int 0, .null, .null, .int 0, .null, .null, .null, .null, .null, .null, .null, .null, .null, .null, .null, .null]) (C := R_Mod) (T := F_Mod) (N := 17) hx hb hT in_Mod t_Mod t_Mod_ok hown (hT _ tw2_220) (hT _ tw2_221) (hT _ tw1_4) hX.1 hP hD hS hA rfl (by intro j hj; have hj2 : j < 17 := hj; rcases (show j = 0 ∨ j = 1 ∨ j = 2 ∨ j = 3 ∨ j = 4 ∨ j = 5 ∨ j = 6 ∨ j = 7 ∨ j = 8 ∨ j = 9 ∨ j = 10 ∨ j = 11 ∨ j = 12 ∨ j = 13 ∨ j = 14 ∨ j = 15 ∨ j = 16 by omega) with rfl | rfl | rfl | rfl | rfl | rfl | rfl | rfl | rfl | rfl | rfl | rfl | rfl | rfl | rfl | rfl | rfl <;> rfl) (Nat.le_of_ble_eq_true rfl) (Nat.le_of_ble_eq_true rfl) d_Law_law_8 (fun q8 H hP hD hS => ?_)
  have hP : va_P Dg classes ((w4 w.1 w.2.1 w.2.2.1 w.2.2.2 k vZ vZ vZ) ++ [(q8, .inr (3, [.int 0, .int 0, .null, .null, .int 0, .null, .null, .null, .null, .null, .null, .null, .null, .null, .null, .null, .null]))]) H := hP
  have hD : va_D (lA s) ((w4 w.1 w.2.1 w.2.2.1 w.2.2.2 k vZ vZ vZ) ++ [(q8, .inr (3, [.int 0, .int 0, .null, .null, .int 0, .null, .null, .null, .null, .null, .null, .null, .null, .null, .null, .null, .null]))]) := hD
  refine W.widen (k := 18) (n := 683) (Nat.le_of_ble_eq_true rfl) (Nat.le_of_ble_eq_true rfl) ?_
  refine lv_dup hx hb d_Law_law_11 rfl ?_
  refine kc_I (k := 0) (wr := (w4 w.1 w.2.1 w.2.2.1 w.2.2.2 k vZ vZ vZ)) F (c_Mod_init l Dg k q8 _ (hP.sub (ws' := [(q8, .inr (3, [.int 0, .int 0, .null, .null, .int 0, .null, .null, .null, .null, .null, .null, .null, .null, .null, .null, .null, .null]))]) [17] rfl) ((hD.sub (ws' := [(q8, .inr (3, [.int 0, .int 0, .null, .null, .int 0, .null, .null, .null, .null, .null, .null, .null, .null, .null, .null, .null, .null]))]) [17] (by decide) rfl).weaken (fun _ _ _ _ => trivial))) kx_K hX.1 kw_Law_42 tw2_223 rfl hP hD hS hA [17] [0, 1, 2, 3, 4, 5, 6, 7, 8, 9, 10, 11, 12, 13, 14, 15, 16] rfl rfl (by decide) (by decide) d_Law_law_12 ⟨⟨Nat.le_of_ble_eq_true rfl, Nat.le_of_ble_eq_true rfl⟩, Nat.le_of_ble_eq_true rfl, Nat.le_of_ble_eq_true rfl⟩ rfl hl.1 rfl (Nat.le_of_ble_eq_true rfl) (fun dd H locs ho2 hP hD hS => ?_)
  have hP : va_P Dg classes ((w4 w.1 w.2.1 w.2.2.1 w.2.2.2 k vZ vZ vZ) ++ wD dd.1 k dd.2) H := hP
  have hD : va_D (lA s) ((w4 w.1 w.2.1 w.2.2.1 w.2.2.2 k vZ vZ vZ) ++ wD dd.1 k dd.2) := hD
  refine W.widen (k := 32) (n := 1251) (Nat.le_of_ble_eq_true rfl) (Nat.le_of_ble_eq_true rfl) ?_
  obtain ⟨ho2, hdr, hdz⟩ := ho2
  rw [← ho2]
  refine lv_astore_n hx hb d_Law_law_15 rfl hl (by decide) rfl (fun ls hl => ?_)
  have hl : lv_has ls 7 [(2, .ref (dd.1 0)), (1, .ref (w.1 0)), (0, .ref b0)] := hl
  refine lv_iconst (v := 1) hx hb d_Law_law_16 (by decide) ?_
  refine va_newa (atype := .long) (n := 1) (N' := 1) (ty := .long) (a0 := (1, .inr (.inl (fun _ => 0)))) hx hb (hT _ tw3_165) rfl hX.1 hP hD hS hA (fun _ => rfl) (by decide) (by decide) (by decide) (Nat.le_of_ble_eq_true rfl) (Nat.le_of_ble_eq_true rfl) d_Law_law_17 (fun ao kl H hK4 hP hD hS => ?_)
  have hKl : va_K Dg classes [(kl, .long)] s := hK4.sub (tys' := [(kl, .long)]) [3] rfl
  have hP := hP.sub (ws' := ((wL ao kl (fun _ => 0) ++ (wE w.1 w.2.1 w.2.2.1 w.2.2.2 ++ wP w.2.1 k vZ ++ wM w.2.2.1 k vZ ++ wM w.2.2.2 k vZ)) ++ wD dd.1 k dd.2)) [32, 0, 1, 2, 3, 4, 5, 6, 7, 8, 9, 10, 11, 12, 13, 14, 15, 16, 17, 18, 19, 20, 21, 22, 23, 24, 25, 26, 27, 28, 29, 30, 31] rfl
  have hD := hD.sub (ws' := ((wL ao kl (fun _ => 0) ++ (wE w.1 w.2.1 w.2.2.1 w.2.2.2 ++ wP w.2.1 k vZ ++ wM w.2.2.1 k vZ ++ wM w.2.2.2 k vZ)) ++ wD dd.1 k dd.2)) [32, 0, 1, 2, 3, 4, 5, 6, 7, 8, 9, 10, 11, 12, 13, 14, 15, 16, 17, 18, 19, 20, 21, 22, 23, 24, 25, 26, 27, 28, 29, 30, 31] (by decide) rfl
  refine W.widen (k := 33) (n := 1252) (Nat.le_of_ble_eq_true rfl) (Nat.le_of_ble_eq_true rfl) ?_
  obtain ⟨hR, hp⟩ := rel_start hdr hdz
  have hP : va_P Dg classes ((wL ao kl (fun _ => 0) ++ (wE w.1 w.2.1 w.2.2.1 w.2.2.2 ++ wP w.2.1 k vZ ++ wM w.2.2.1 k (pm 0 dd.2) ++ wM w.2.2.2 k (pm 1 dd.2))) ++ wD dd.1 k dd.2) H := by rw [hp 0, hp 1]; exact hP
  have hD : va_D (lA s) ((wL ao kl (fun _ => 0) ++ (wE w.1 w.2.1 w.2.2.1 w.2.2.2 ++ wP w.2.1 k vZ ++ wM w.2.2.1 k (pm 0 dd.2) ++ wM w.2.2.2 k (pm 1 dd.2))) ++ wD dd.1 k dd.2) := by rw [hp 0, hp 1]; exact hD
  refine lv_astore_n hx hb d_Law_law_19 rfl hl (by decide) rfl (fun ls hl => ?_)
  have hl : lv_has ls 7 [(3, .ref ao), (2, .ref (dd.1 0)), (1, .ref (w.1 0)), (0, .ref b0)] := hl
  refine lv_iconst (v := 0) hx hb d_Law_law_20 (by decide) ?_
  refine lv_istore hx hb d_Law_law_21 hl (by decide) rfl (fun ls hl => ?_)
  have hl : lv_has ls 7 [(4, .int 0), (3, .ref ao), (2, .ref (dd.1 0)), (1, .ref (w.1 0)), (0, .ref b0)] := hl
  exact law_loop F hl0 hX hKl hsc hbl hL hR hP hD hS (lv_sub hl [0, 4, 3, 2, 1] rfl) (Nat.le_of_ble_eq_true rfl) (Nat.le_of_ble_eq_true rfl) kk
