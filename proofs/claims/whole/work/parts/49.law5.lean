/-! THE LAW: its loop -/
theorem law_go {L t : Nat} (hL : L ≤ 2048) (ht : t ≤ 600) (h : ¬ Int32.ofNat L - 4 < nI (4 * t)) : 4 * t + 4 ≤ L := by
  have e1 : (Int32.ofNat L - 4).toInt = (L : Int) - 4 := pk_sub_toInt (a := L) (b := 4) (by omega) (by decide)
  have := mt Int32.lt_iff_toInt_lt.mpr h
  rw [e1, nI_toInt (by omega)] at this
  omega
set_option maxRecDepth 100000 in
set_option maxHeartbeats 4000000 in
theorem law_loop {p : Program} {l : Launch} {e : Env} {s : State} {m : MethodId} {below : List Frame} {meth : Method} {c0 : Code} {H : Heap} {locs : List Loc} {ck cn : Nat} {Q : State → Prop} {ls : Array Slot} {Dg : va_G} {a b u v d : Nat → Nat} {k : Nat → ClassId} {kl : ClassId} {ao b0 L q vB tL : Nat} {f : Nat → Int64} {xs : Nat → Int32} {G D : vSt} (F : CallFix p m c0 code 7 s #[Value.ref b0] lw_ok "FusedEngineLaw") (hl0 : l.stackTraces = false) (hX : lF Dg k q vB tL s) (hKl : va_K Dg classes [(kl, .long)] s) (hsc : va_X b0 L xs s s.heap) (hbl : b0 < s.heap.size) (hL : L ≤ 2048) (hR : Rel 0 G D)
    (hP : va_P Dg classes ((wL ao kl f ++ (wE a b u v ++ wP b k G ++ wM u k (pm 0 D) ++ wM v k (pm 1 D))) ++ wD d k D) H) (hD : va_D (lA s) ((wL ao kl f ++ (wE a b u v ++ wP b k G ++ wM u k (pm 0 D) ++ wM v k (pm 1 D))) ++ wD d k D)) (hS : va_S (lA s) s.heap H locs) (hl : lv_has ls 7 [(4, .int (nI (4 * 0))), (0, .ref b0), (1, .ref (a 0)), (2, .ref (d 0)), (3, .ref ao)]) (hc1 : ck + 520 ≤ room_1.cells) (hc2 : cn + 3200 ≤ room_1.slots)
    (kk : ∀ (H : Heap) (locs : List Loc) (ls : Array Slot) (k n : Nat), k ≤ room_1.cells → n ≤ room_1.slots → va_S (lA s) s.heap H locs → W p l e room_1 s m #[Value.ref b0] below meth c0 H locs k n Q (F0 m 722 ls [])) : W p l e room_1 s m #[Value.ref b0] below meth c0 H locs ck cn Q (F0 m 23 ls []) := by
  obtain ⟨hx, hb, hml, hown, hT⟩ := id F
  have hbA : ¬ lA s b0 := fun w => absurd w (by show ¬ s.heap.size ≤ b0; omega)
  refine k_loop (σ := Nat × (Nat → Int64) × vSt × vSt) (fun g x H locs ls k9 n9 => g + x.1 = 520 ∧ x.1 ≤ 512 ∧ k9 = ck + x.1 ∧ n9 = cn + 6 * x.1 ∧ Rel (12000 * x.1) x.2.2.1 x.2.2.2 ∧ va_P Dg classes ((wL ao kl x.2.1 ++ (wE a b u v ++ wP b k x.2.2.1 ++ wM u k (pm 0 x.2.2.2) ++ wM v k (pm 1 x.2.2.2))) ++ wD d k x.2.2.2) H ∧ va_D (lA s) ((wL ao kl x.2.1 ++ (wE a b u v ++ wP b k x.2.2.1 ++ wM u k (pm 0 x.2.2.2) ++ wM v k (pm 1 x.2.2.2))) ++ wD d k x.2.2.2) ∧ va_S (lA s) s.heap H locs ∧ lv_has ls 7 [(4, .int (nI (4 * x.1))), (0, .ref b0), (1, .ref (a 0)), (2, .ref (d 0)), (3, .ref ao)]) ?_ 520 (0, f, G, D) ⟨rfl, by show 0 ≤ 512; omega, rfl, rfl, hR, hP, hD, hS, hl⟩
  clear hP hD hS hl hR
  rintro g ⟨t, f, G, D⟩ H locs ls k9 n9 ⟨hg, ht5, hk9, hn9, hR, hP, hD, hS, hl⟩ ih
  have hg : g + t = 520 := hg
  have ht5 : t ≤ 512 := ht5
  have hk9 : k9 = ck + t := hk9
  have hn9 : n9 = cn + 6 * t := hn9
  have hR : Rel (12000 * t) G D := hR
  have hP : va_P Dg classes ((wL ao kl f ++ (wE a b u v ++ wP b k G ++ wM u k (pm 0 D) ++ wM v k (pm 1 D))) ++ wD d k D) H := hP
  have hD : va_D (lA s) ((wL ao kl f ++ (wE a b u v ++ wP b k G ++ wM u k (pm 0 D) ++ wM v k (pm 1 D))) ++ wD d k D) := hD
  have hl : lv_has ls 7 [(4, .int (nI (4 * t))), (0, .ref b0), (1, .ref (a 0)), (2, .ref (d 0)), (3, .ref ao)] := hl
  refine lv_iload hx hb d_Law_law_23 (lv_at hl 0 rfl) ?_
  refine lv_aload_n hx hb d_Law_law_25 rfl (lv_at hl 1 rfl) ?_
  refine va_slen hx hb hsc hbl hbA hS d_Law_law_26 ?_
  refine lv_iconst (v := 4) hx hb d_Law_law_27 (by decide) ?_
  refine lv_isub hx hb d_Law_law_28 ?_
  refine lv_icmp_gt (tgt := 722) hx hb d_Law_law_29 (by decide) (fun _ => kk H locs ls k9 n9 (by omega) (by omega) hS) (fun h29 => ?_)
  have ht : 4 * t + 4 ≤ L := law_go hL (by omega) h29
  have hc3 : k9 + 1 ≤ room_1.cells := by omega
  have hc4 : n9 + 6 ≤ room_1.slots := by omega
  have back : ∀ (f : Nat → Int64) (G D : vSt) (H : Heap) (locs : List Loc) (ls : Array Slot), Rel (12000 * (t + 1)) G D → va_P Dg classes ((wL ao kl f ++ (wE a b u v ++ wP b k G ++ wM u k (pm 0 D) ++ wM v k (pm 1 D))) ++ wD d k D) H → va_D (lA s) ((wL ao kl f ++ (wE a b u v ++ wP b k G ++ wM u k (pm 0 D) ++ wM v k (pm 1 D))) ++ wD d k D) → va_S (lA s) s.heap H locs → lv_has ls 7 [(4, .int (nI (4 * t))), (0, .ref b0), (1, .ref (a 0)), (2, .ref (d 0)), (3, .ref ao)] → W p l e room_1 s m #[Value.ref b0] below meth c0 H locs (k9 + 1) (n9 + 6) Q (F0 m 716 ls []) := by
    intro f G D H locs ls hR hP hD hS hl
    refine lv_iinc (k := 0) (v := nI (4 * (t + 1))) hx hb d_Law_law_716 hl rfl (nI_4 (4 * t)) (by decide) rfl (fun ls hl => ?_)
    refine lv_goto (tgt := 23) hx hb d_Law_law_719 (by decide) ?_
    exact ih (g - 1) (t + 1, f, G, D) H locs ls (k9 + 1) (n9 + 6) (by omega) ⟨by show g - 1 + (t + 1) = 520; omega, by show t + 1 ≤ 512; omega, by show k9 + 1 = ck + (t + 1); omega, by show n9 + 6 = cn + 6 * (t + 1); omega, hR, hP, hD, hS, hl⟩
  refine lv_aload_n hx hb d_Law_law_32 rfl (lv_at hl 1 rfl) ?_
  refine lv_iload hx hb d_Law_law_33 (lv_at hl 0 rfl) ?_
  refine va_sld hx hb hsc hbl hbA hS (vp_in_nI (n := 4 * t) (by omega) (by omega)) d_Law_law_35 ?_
  refine lv_bipush (v := 15) hx hb d_Law_law_36 (by decide) ?_
  refine lv_iand hx hb d_Law_law_38 ?_
  rw [pk_and _ 4 (m := 15) (by decide)]
  have hr : (xs (nI (4 * t)).toNatClampNeg).toBitVec.toNat % 2 ^ 4 < 16 := Nat.mod_lt _ (by decide)
  generalize (xs (nI (4 * t)).toNatClampNeg).toBitVec.toNat % 2 ^ 4 = r at hr ⊢
  have dflt : W p l e room_1 s m #[Value.ref b0] below meth c0 H locs k9 n9 Q (F0 m 716 ls []) := by
    refine W.widen (k := k9 + 1) (n := n9 + 6) (by omega) (by omega) ?_
    exact back f G D H locs ls (hR.mono (by omega)) hP hD hS hl
  have hcase : r = 0 ∨ r = 1 ∨ r = 2 ∨ r = 3 ∨ r = 4 ∨ r = 5 ∨ r = 6 ∨ r = 7 ∨ r = 8 ∨ r = 9 ∨ r = 10 ∨ r = 11 ∨ r = 12 ∨ r = 13 ∨ r = 14 ∨ r = 15 := by omega
  rcases hcase with rfl | rfl | rfl | rfl | rfl | rfl | rfl | rfl | rfl | rfl | rfl | rfl | rfl | rfl | rfl | rfl
  · refine lv_tableIn (x := nI 0) (off := 57) (tgt := 96) hx hb d_Law_law_39 (by decide) (by decide) rfl (by decide) ?_
    exact law_add F hl0 hX hKl hsc hbl ht hL hR hP hD hS hl hc3 hc4 back
  · refine lv_tableIn (x := nI 1) (off := 125) (tgt := 164) hx hb d_Law_law_39 (by decide) (by decide) rfl (by decide) ?_
    exact law_change F hl0 hX hKl hsc hbl ht hL hR hP hD hS hl hc3 hc4 back
  · refine lv_tableIn (x := nI 2) (off := 185) (tgt := 224) hx hb d_Law_law_39 (by decide) (by decide) rfl (by decide) ?_
    exact law_clear F hl0 hX hKl hsc hbl ht hL hR hP hD hS hl hc3 hc4 back
  · refine lv_tableIn (x := nI 3) (off := 196) (tgt := 235) hx hb d_Law_law_39 (by decide) (by decide) rfl (by decide) ?_
    exact law_fuse F hl0 hX hKl hsc hbl ht hL hR hP hD hS hl hc3 hc4 back
  · refine lv_tableIn (x := nI 4) (off := 209) (tgt := 248) hx hb d_Law_law_39 (by decide) (by decide) rfl (by decide) ?_
    exact law_look F hl0 hX hKl hsc hbl ht hL hR hP hD hS hl hc3 hc4 back
  · refine lv_tableIn (x := nI 5) (off := 277) (tgt := 316) hx hb d_Law_law_39 (by decide) (by decide) rfl (by decide) ?_
    exact law_run F hl0 hX hKl hsc hbl ht hL hR hP hD hS hl hc3 hc4 back
  · refine lv_tableIn (x := nI 6) (off := 361) (tgt := 400) hx hb d_Law_law_39 (by decide) (by decide) rfl (by decide) ?_
    exact law_restart F hl0 hX hKl hsc hbl ht hL hR hP hD hS hl hc3 hc4 back
  · refine lv_tableIn (x := nI 7) (off := 372) (tgt := 411) hx hb d_Law_law_39 (by decide) (by decide) rfl (by decide) ?_
    exact law_about F hl0 hX hKl hsc hbl ht hL hR hP hD hS hl hc3 hc4 back
  · refine lv_tableIn (x := nI 8) (off := 425) (tgt := 464) hx hb d_Law_law_39 (by decide) (by decide) rfl (by decide) ?_
    exact law_stack F hl0 hX hKl hsc hbl ht hL hR hP hD hS hl hc3 hc4 back
  · refine lv_tableIn (x := nI 9) (off := 509) (tgt := 548) hx hb d_Law_law_39 (by decide) (by decide) rfl (by decide) ?_
    exact law_local F hl0 hX hKl hsc hbl ht hL hR hP hD hS hl hc3 hc4 back
  · refine lv_tableIn (x := nI 10) (off := 593) (tgt := 632) hx hb d_Law_law_39 (by decide) (by decide) rfl (by decide) ?_
    exact law_out F hl0 hX hKl hsc hbl ht hL hR hP hD hS hl hc3 hc4 back
  · refine lv_tableOut (x := nI 11) (tgt := 716) hx hb d_Law_law_39 (by decide) (by decide) ?_
    exact dflt
  · refine lv_tableOut (x := nI 12) (tgt := 716) hx hb d_Law_law_39 (by decide) (by decide) ?_
    exact dflt
  · refine lv_tableOut (x := nI 13) (tgt := 716) hx hb d_Law_law_39 (by decide) (by decide) ?_
    exact dflt
  · refine lv_tableOut (x := nI 14) (tgt := 716) hx hb d_Law_law_39 (by decide) (by decide) ?_
    exact dflt
  · refine lv_tableOut (x := nI 15) (tgt := 716) hx hb d_Law_law_39 (by decide) (by decide) ?_
    exact dflt
