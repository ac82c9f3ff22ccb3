theorem dtr_all {D : vSt} {m c : Int32} (hm : dOk D m) (ht : dTrap D m c = 0) : ∃ i h r o : Nat, i < 2 ∧ m = nI i ∧ D 5 (tn m) = nI h ∧ D 6 (tn m) = nI r ∧ D 7 (tn m) = nI o ∧ h ≤ 40 ∧ r ≤ 10 ∧ o < 2 ^ 30 ∧ ¬ nI h < sNeed c ∧ ¬ (c = 82 ∧ r = 0) ∧ ¬ (¬ sPuts c = 0 ∧ h = 40) ∧ ¬ (c = 67 ∧ r = 10) ∧ ¬ (c = 47 ∧ D 10 (40 * m + D 5 (tn m) - 1).toNatClampNeg = 0) := by
  obtain ⟨i, h, r, o, hi, em, e0, e1, e2, b0, b1, b2⟩ := hm
  unfold dTrap at ht
  by_cases c1 : D 5 (tn m) < sNeed c
  · rw [if_pos c1] at ht; exact absurd ht (by decide)
  rw [if_neg c1] at ht
  by_cases c2 : c = 82 ∧ D 6 (tn m) = 0
  · rw [if_pos c2] at ht; exact absurd ht (by decide)
  rw [if_neg c2] at ht
  by_cases c3 : ¬ sPuts c = 0 ∧ D 5 (tn m) = 40
  · rw [if_pos c3] at ht; exact absurd ht (by decide)
  rw [if_neg c3] at ht
  by_cases c4 : c = 67 ∧ D 6 (tn m) = 10
  · rw [if_pos c4] at ht; exact absurd ht (by decide)
  rw [if_neg c4] at ht
  by_cases c5 : c = 47 ∧ D 10 (40 * m + D 5 (tn m) - 1).toNatClampNeg = 0
  · rw [if_pos c5] at ht; exact absurd ht (by decide)
  rw [e0] at c1 c3
  rw [e1] at c2 c4
  exact ⟨i, h, r, o, hi, em, e0, e1, e2, b0, b1, b2, c1, fun z => c2 ⟨z.1, by rw [z.2]; rfl⟩, fun z => c3 ⟨z.1, by rw [z.2]; rfl⟩, fun z => c4 ⟨z.1, by rw [z.2]; rfl⟩, c5⟩
theorem u2_at (S : vSt) (r k : Nat) (v : Int32) : (u2 S r k v) r k = v := by
  show (if r = r then upd (S r) k v else S r) k = v
  rw [if_pos rfl]
  show (if k = k then v else S r k) = v
  rw [if_pos rfl]
theorem u2_no (S : vSt) (r k r' : Nat) (v : Int32) (h : r' ≠ r) : (u2 S r k v) r' = S r' := if_neg h
theorem dPop_5 {D : vSt} {m : Int32} {h : Nat} (e : D 5 (tn m) = nI h) (h1 : 1 ≤ h) : (dPop D m) 5 (tn m) = nI (h - 1) := by
  unfold dPop
  rw [u2_at, e]
  exact pk_sub (b := 1) h1
theorem dPush_5 {D : vSt} {m x : Int32} {h : Nat} (e : D 5 (tn m) = nI h) : (dPush D m x) 5 (tn m) = nI (h + 1) := by
  unfold dPush
  rw [u2_at, e]
  exact (nI_succ h).symm
theorem dTop_eq {D : vSt} {m : Int32} : dTop D m = D 10 (40 * m + (D 5 (tn m) - 1)).toNatClampNeg := by
  unfold dTop dPop
  rw [u2_at]

set_option maxRecDepth 100000 in
set_option maxHeartbeats 4000000 in
theorem c_Mod_work (l : Launch) (Dg : va_G) (a : Nat → Nat) (k : Nat → ClassId) (D : vSt) (mm c n : Int32) (H : Heap) (hP : va_P Dg classes (wD a k D) H) (hD : va_D (fun _ => True) (wD a k D)) (hc : okC c) (hm : dOk D mm) (ht : dTrap D mm c = 0) (hn : c = 76 ∨ c = 83 → vp_in n 8) : kMv l y_Mod_work b_Mod_work 6 2 41 [.ref (a 0), .int mm, .int c, .int n] H (va_K Dg classes (kTy k)) Dg (wD a k D) (wD a k (dWork D mm c n)) := by
  refine k_of (by decide) (Nat.le_of_ble_eq_true rfl) ?_
  intro p e s m below meth cd ls F hlocks hret hname hh hX hl
  subst hh
  obtain ⟨hx, hb, hml, hown, hT⟩ := id F
  have hK : va_K Dg classes (kTy k) s := hX
  have hA : ∀ q : Nat, s.heap.size ≤ q → va_A (wD a k D) s.heap.size q := fun q h => Or.inr h
  have hD := hD.self (sz := s.heap.size)
  have hS : va_S (va_A (wD a k D) s.heap.size) s.heap s.heap [] := va_S.rf
  have hl : lv_has ls 6 [(0, .ref (a 0)), (1, .int mm), (2, .int c), (3, .int n)] := hl
  rcases hc with rfl | rfl | rfl | rfl | rfl | rfl | rfl | rfl | rfl | rfl | rfl | rfl | rfl | rfl | rfl | rfl | rfl | rfl
  · obtain ⟨i, h, r, o, hi, em, e0, e1, e2, b0, b1, b2, c1, c2, c3, c4, c5⟩ := dtr_all hm ht
    have h40 : h < 40 := by rcases Nat.lt_or_ge h 40 with q | q; exact q; exact absurd ⟨by decide, by omega⟩ c3
    refine lv_aload_n hx hb d_Mod_work_0 rfl (lv_at hl 0 rfl) ?_
    refine lv_iload_n hx hb d_Mod_work_1 rfl (lv_at hl 2 rfl) ?_
    refine kp_V F (c_Mod_takes l Dg a k D 80 _ hP (by unfold okC; decide)) kx_K hK kw_Mod_106 tw3_120 ts_24 (va_recv (ci := 3) (q0 := 0) hK hP rfl rfl) hS d_Mod_work_2 ⟨⟨by decide, by decide⟩, Nat.le_refl _, Nat.le_refl _⟩ rfl hl.1 rfl (Nat.le_of_ble_eq_true rfl) (fun locs hS => ?_)
    refine lv_if_le (tgt := 22) hx hb d_Mod_work_5 (by decide) (fun _ => ?_) (fun h9 => absurd (by decide) h9)
    refine lv_iconst (v := 0) hx hb d_Mod_work_22 (by decide) ?_
    refine lv_istore hx hb d_Mod_work_23 hl (by decide) rfl (fun ls hl => ?_)
    have hl : lv_has ls 6 [(4, .int 0), (0, .ref (a 0)), (1, .int mm), (2, .int 80), (3, .int n)] := hl
    refine lv_aload_n hx hb d_Mod_work_25 rfl (lv_at hl 1 rfl) ?_
    refine lv_iload_n hx hb d_Mod_work_26 rfl (lv_at hl 3 rfl) ?_
    refine kp_V F (c_Mod_takes l Dg a k D 80 _ hP (by unfold okC; decide)) kx_K hK kw_Mod_106 tw3_120 ts_24 (va_recv (ci := 3) (q0 := 0) hK hP rfl rfl) hS d_Mod_work_27 ⟨⟨by decide, by decide⟩, Nat.le_refl _, Nat.le_refl _⟩ rfl hl.1 rfl (Nat.le_of_ble_eq_true rfl) (fun locs hS => ?_)
    refine lv_iconst (v := 2) hx hb d_Mod_work_30 (by decide) ?_
    refine lv_icmp_ne (tgt := 42) hx hb d_Mod_work_31 (by decide) (fun _ => ?_) (fun h9 => absurd h9 (by decide))
    refine lv_iconst (v := 0) hx hb d_Mod_work_42 (by decide) ?_
    refine lv_istore hx hb d_Mod_work_43 hl (by decide) rfl (fun ls hl => ?_)
    have hl : lv_has ls 6 [(5, .int 0), (4, .int 0), (0, .ref (a 0)), (1, .int mm), (2, .int 80), (3, .int n)] := hl
    refine lv_iload_n hx hb d_Mod_work_45 rfl (lv_at hl 4 rfl) ?_
    refine kp_S F (c_Mod_isPlain l Dg k 80 _ ) kx_K hK kw_Mod_57 tw3_54 hS d_Mod_work_46 ⟨⟨by decide, by decide⟩, Nat.le_refl _, Nat.le_refl _⟩ rfl hl.1 rfl (Nat.le_of_ble_eq_true rfl) (fun locs hS => ?_)
    refine lv_if_eq (tgt := 65) hx hb d_Mod_work_49 (by decide) (fun _ => ?_) (fun h9 => absurd (by decide) h9)
    refine lv_iload_n hx hb d_Mod_work_65 rfl (lv_at hl 4 rfl) ?_
    refine lv_bipush (v := 80) hx hb d_Mod_work_66 (by decide) ?_
    refine lv_icmp_ne (tgt := 77) hx hb d_Mod_work_68 (by decide) (fun h9 => absurd (by decide) h9) (fun _ => ?_)
    refine lv_aload_n hx hb d_Mod_work_71 rfl (lv_at hl 2 rfl) ?_
    refine lv_iload_n hx hb d_Mod_work_72 rfl (lv_at hl 3 rfl) ?_
    refine lv_iload_n hx hb d_Mod_work_73 rfl (lv_at hl 5 rfl) ?_
    refine km_Vv (wr := []) F (c_Mod_push l Dg a k D mm n _ hP (hD.weaken (fun _ _ _ _ => trivial)) (dm_in hm) (ix_40 (c := 40) (i := i) (h := h) 40 rfl em e0 (by omega) (by decide))) kx_K hK kw_Mod_116 tw3_135 ts_27 (va_recv (ci := 3) (q0 := 0) hK hP rfl rfl) hP hD hS hA [0, 1, 2, 3, 4, 5, 6, 7, 8, 9, 10, 11, 12, 13, 14] [] rfl rfl (by decide) (by decide) d_Mod_work_74 ⟨⟨by decide, by decide⟩, Nat.le_refl _, Nat.le_refl _⟩ rfl hl.1 rfl (Nat.le_of_ble_eq_true rfl) (fun H locs hP hD hS => ?_)
    have hP : va_P Dg classes (wD a k (dPush D mm n)) H := hP
    have hD : va_D (va_A (wD a k D) s.heap.size) (wD a k (dPush D mm n)) := hD
    obtain ⟨Ds1, hDs1⟩ : ∃ z9, z9 = (dPush D mm n) := ⟨_, rfl⟩
    rw [← hDs1] at hP hD
    refine lv_iload_n hx hb d_Mod_work_77 rfl (lv_at hl 4 rfl) ?_
    refine lv_bipush (v := 76) hx hb d_Mod_work_78 (by decide) ?_
    refine lv_icmp_ne (tgt := 99) hx hb d_Mod_work_80 (by decide) (fun _ => ?_) (fun h9 => absurd h9 (by decide))
    refine lv_iload_n hx hb d_Mod_work_99 rfl (lv_at hl 4 rfl) ?_
    refine lv_bipush (v := 83) hx hb d_Mod_work_100 (by decide) ?_
    refine lv_icmp_ne (tgt := 118) hx hb d_Mod_work_102 (by decide) (fun _ => ?_) (fun h9 => absurd h9 (by decide))
    refine lv_iload_n hx hb d_Mod_work_118 rfl (lv_at hl 4 rfl) ?_
    refine lv_bipush (v := 79) hx hb d_Mod_work_119 (by decide) ?_
    refine lv_icmp_ne (tgt := 131) hx hb d_Mod_work_121 (by decide) (fun _ => ?_) (fun h9 => absurd h9 (by decide))
    refine lv_iload_n hx hb d_Mod_work_131 rfl (lv_at hl 4 rfl) ?_
    refine lv_bipush (v := 68) hx hb d_Mod_work_132 (by decide) ?_
    refine lv_icmp_eq (tgt := 143) hx hb d_Mod_work_134 (by decide) (fun h9 => absurd h9 (by decide)) (fun _ => ?_)
    refine lv_iload_n hx hb d_Mod_work_137 rfl (lv_at hl 4 rfl) ?_
    refine lv_bipush (v := 88) hx hb d_Mod_work_138 (by decide) ?_
    refine lv_icmp_ne (tgt := 150) hx hb d_Mod_work_140 (by decide) (fun _ => ?_) (fun h9 => absurd h9 (by decide))
    refine lv_iload_n hx hb d_Mod_work_150 rfl (lv_at hl 4 rfl) ?_
    refine lv_bipush (v := 68) hx hb d_Mod_work_151 (by decide) ?_
    refine lv_icmp_ne (tgt := 163) hx hb d_Mod_work_153 (by decide) (fun _ => ?_) (fun h9 => absurd h9 (by decide))
    refine lv_iload_n hx hb d_Mod_work_163 rfl (lv_at hl 4 rfl) ?_
    refine lv_bipush (v := 88) hx hb d_Mod_work_164 (by decide) ?_
    refine lv_icmp_ne (tgt := 176) hx hb d_Mod_work_166 (by decide) (fun _ => ?_) (fun h9 => absurd h9 (by decide))
    exact km_v F hlocks hret hP hD hS d_Mod_work_176 (by subst hDs1; unfold dWork; rw [if_pos rfl])
  · obtain ⟨i, h, r, o, hi, em, e0, e1, e2, b0, b1, b2, c1, c2, c3, c4, c5⟩ := dtr_all hm ht
    have h40 : h < 40 := by rcases Nat.lt_or_ge h 40 with q | q; exact q; exact absurd ⟨by decide, by omega⟩ c3
    refine lv_aload_n hx hb d_Mod_work_0 rfl (lv_at hl 0 rfl) ?_
    refine lv_iload_n hx hb d_Mod_work_1 rfl (lv_at hl 2 rfl) ?_
    refine kp_V F (c_Mod_takes l Dg a k D 76 _ hP (by unfold okC; decide)) kx_K hK kw_Mod_106 tw3_120 ts_24 (va_recv (ci := 3) (q0 := 0) hK hP rfl rfl) hS d_Mod_work_2 ⟨⟨by decide, by decide⟩, Nat.le_refl _, Nat.le_refl _⟩ rfl hl.1 rfl (Nat.le_of_ble_eq_true rfl) (fun locs hS => ?_)
    refine lv_if_le (tgt := 22) hx hb d_Mod_work_5 (by decide) (fun _ => ?_) (fun h9 => absurd (by decide) h9)
    refine lv_iconst (v := 0) hx hb d_Mod_work_22 (by decide) ?_
    refine lv_istore hx hb d_Mod_work_23 hl (by decide) rfl (fun ls hl => ?_)
    have hl : lv_has ls 6 [(4, .int 0), (0, .ref (a 0)), (1, .int mm), (2, .int 76), (3, .int n)] := hl
    refine lv_aload_n hx hb d_Mod_work_25 rfl (lv_at hl 1 rfl) ?_
    refine lv_iload_n hx hb d_Mod_work_26 rfl (lv_at hl 3 rfl) ?_
    refine kp_V F (c_Mod_takes l Dg a k D 76 _ hP (by unfold okC; decide)) kx_K hK kw_Mod_106 tw3_120 ts_24 (va_recv (ci := 3) (q0 := 0) hK hP rfl rfl) hS d_Mod_work_27 ⟨⟨by decide, by decide⟩, Nat.le_refl _, Nat.le_refl _⟩ rfl hl.1 rfl (Nat.le_of_ble_eq_true rfl) (fun locs hS => ?_)
    refine lv_iconst (v := 2) hx hb d_Mod_work_30 (by decide) ?_
    refine lv_icmp_ne (tgt := 42) hx hb d_Mod_work_31 (by decide) (fun _ => ?_) (fun h9 => absurd h9 (by decide))
    refine lv_iconst (v := 0) hx hb d_Mod_work_42 (by decide) ?_
    refine lv_istore hx hb d_Mod_work_43 hl (by decide) rfl (fun ls hl => ?_)
    have hl : lv_has ls 6 [(5, .int 0), (4, .int 0), (0, .ref (a 0)), (1, .int mm), (2, .int 76), (3, .int n)] := hl
    refine lv_iload_n hx hb d_Mod_work_45 rfl (lv_at hl 4 rfl) ?_
    refine kp_S F (c_Mod_isPlain l Dg k 76 _ ) kx_K hK kw_Mod_57 tw3_54 hS d_Mod_work_46 ⟨⟨by decide, by decide⟩, Nat.le_refl _, Nat.le_refl _⟩ rfl hl.1 rfl (Nat.le_of_ble_eq_true rfl) (fun locs hS => ?_)
    refine lv_if_eq (tgt := 65) hx hb d_Mod_work_49 (by decide) (fun _ => ?_) (fun h9 => absurd (by decide) h9)
    refine lv_iload_n hx hb d_Mod_work_65 rfl (lv_at hl 4 rfl) ?_
    refine lv_bipush (v := 80) hx hb d_Mod_work_66 (by decide) ?_
    refine lv_icmp_ne (tgt := 77) hx hb d_Mod_work_68 (by decide) (fun _ => ?_) (fun h9 => absurd h9 (by decide))
    refine lv_iload_n hx hb d_Mod_work_77 rfl (lv_at hl 4 rfl) ?_
    refine lv_bipush (v := 76) hx hb d_Mod_work_78 (by decide) ?_
    refine lv_icmp_ne (tgt := 99) hx hb d_Mod_work_80 (by decide) (fun h9 => absurd (by decide) h9) (fun _ => ?_)
    refine lv_aload_n hx hb d_Mod_work_83 rfl (lv_at hl 2 rfl) ?_
    refine lv_iload_n hx hb d_Mod_work_84 rfl (lv_at hl 3 rfl) ?_
    refine lv_aload_n hx hb d_Mod_work_85 rfl (lv_at hl 2 rfl) ?_
    refine va_get (D := Dg) (ci := 3) (v := .ref (a 12)) (C := R_Mod) (T := F_Mod) (N := 17) hx hb hT in_Mod hown hK hP 0 rfl rfl 14 (by decide) (hT _ tw3_0) (fun _ h9 => h9) rfl d_Mod_work_86 ?_
    refine lv_bipush (v := 8) hx hb d_Mod_work_89 (by decide) ?_
    refine lv_iload_n hx hb d_Mod_work_91 rfl (lv_at hl 3 rfl) ?_
    refine lv_imul hx hb d_Mod_work_92 ?_
    refine lv_iload_n hx hb d_Mod_work_93 rfl (lv_at hl 5 rfl) ?_
    refine lv_iadd hx hb d_Mod_work_94 ?_
    refine va_iald (f := (D 11)) hx hb hK hP 12 0 rfl rfl (by rw [em]; obtain ⟨j, hj, ej⟩ := vp_in_of (hn (Or.inl rfl)) (by decide); rw [ej, show (8 : Int32) = nI 8 from rfl, pk_mul, nI_add]; exact vp_in_nI (by omega) (by decide)) d_Mod_work_95 ?_
    refine km_Vv (wr := []) F (c_Mod_push l Dg a k D mm ((D 11) ((8 * mm) + n).toNatClampNeg) _ hP (hD.weaken (fun _ _ _ _ => trivial)) (dm_in hm) (ix_40 (c := 40) (i := i) (h := h) 40 rfl em e0 (by omega) (by decide))) kx_K hK kw_Mod_116 tw3_135 ts_27 (va_recv (ci := 3) (q0 := 0) hK hP rfl rfl) hP hD hS hA [0, 1, 2, 3, 4, 5, 6, 7, 8, 9, 10, 11, 12, 13, 14] [] rfl rfl (by decide) (by decide) d_Mod_work_96 ⟨⟨by decide, by decide⟩, Nat.le_refl _, Nat.le_refl _⟩ rfl hl.1 rfl (Nat.le_of_ble_eq_true rfl) (fun H locs hP hD hS => ?_)
    have hP : va_P Dg classes (wD a k (dPush D mm ((D 11) ((8 * mm) + n).toNatClampNeg))) H := hP
    have hD : va_D (va_A (wD a k D) s.heap.size) (wD a k (dPush D mm ((D 11) ((8 * mm) + n).toNatClampNeg))) := hD
    obtain ⟨Ds2, hDs2⟩ : ∃ z9, z9 = (dPush D mm ((D 11) ((8 * mm) + n).toNatClampNeg)) := ⟨_, rfl⟩
    rw [← hDs2] at hP hD
    refine lv_iload_n hx hb d_Mod_work_99 rfl (lv_at hl 4 rfl) ?_
    refine lv_bipush (v := 83) hx hb d_Mod_work_100 (by decide) ?_
    refine lv_icmp_ne (tgt := 118) hx hb d_Mod_work_102 (by decide) (fun _ => ?_) (fun h9 => absurd h9 (by decide))
    refine lv_iload_n hx hb d_Mod_work_118 rfl (lv_at hl 4 rfl) ?_
    refine lv_bipush (v := 79) hx hb d_Mod_work_119 (by decide) ?_
    refine lv_icmp_ne (tgt := 131) hx hb d_Mod_work_121 (by decide) (fun _ => ?_) (fun h9 => absurd h9 (by decide))
    refine lv_iload_n hx hb d_Mod_work_131 rfl (lv_at hl 4 rfl) ?_
    refine lv_bipush (v := 68) hx hb d_Mod_work_132 (by decide) ?_
    refine lv_icmp_eq (tgt := 143) hx hb d_Mod_work_134 (by decide) (fun h9 => absurd h9 (by decide)) (fun _ => ?_)
    refine lv_iload_n hx hb d_Mod_work_137 rfl (lv_at hl 4 rfl) ?_
    refine lv_bipush (v := 88) hx hb d_Mod_work_138 (by decide) ?_
    refine lv_icmp_ne (tgt := 150) hx hb d_Mod_work_140 (by decide) (fun _ => ?_) (fun h9 => absurd h9 (by decide))
    refine lv_iload_n hx hb d_Mod_work_150 rfl (lv_at hl 4 rfl) ?_
    refine lv_bipush (v := 68) hx hb d_Mod_work_151 (by decide) ?_
    refine lv_icmp_ne (tgt := 163) hx hb d_Mod_work_153 (by decide) (fun _ => ?_) (fun h9 => absurd h9 (by decide))
    refine lv_iload_n hx hb d_Mod_work_163 rfl (lv_at hl 4 rfl) ?_
    refine lv_bipush (v := 88) hx hb d_Mod_work_164 (by decide) ?_
    refine lv_icmp_ne (tgt := 176) hx hb d_Mod_work_166 (by decide) (fun _ => ?_) (fun h9 => absurd h9 (by decide))
    exact km_v F hlocks hret hP hD hS d_Mod_work_176 (by subst hDs2; unfold dWork; rw [if_neg (by decide), if_pos rfl])
  · obtain ⟨i, h, r, o, hi, em, e0, e1, e2, b0, b1, b2, c1, c2, c3, c4, c5⟩ := dtr_all hm ht
    have hd := tr_n (d := 1) (by decide) c1
    refine lv_aload_n hx hb d_Mod_work_0 rfl (lv_at hl 0 rfl) ?_
    refine lv_iload_n hx hb d_Mod_work_1 rfl (lv_at hl 2 rfl) ?_
    refine kp_V F (c_Mod_takes l Dg a k D 83 _ hP (by unfold okC; decide)) kx_K hK kw_Mod_106 tw3_120 ts_24 (va_recv (ci := 3) (q0 := 0) hK hP rfl rfl) hS d_Mod_work_2 ⟨⟨by decide, by decide⟩, Nat.le_refl _, Nat.le_refl _⟩ rfl hl.1 rfl (Nat.le_of_ble_eq_true rfl) (fun locs hS => ?_)
    refine lv_if_le (tgt := 22) hx hb d_Mod_work_5 (by decide) (fun h9 => absurd h9 (by decide)) (fun _ => ?_)
    refine lv_iload_n hx hb d_Mod_work_8 rfl (lv_at hl 2 rfl) ?_
    refine lv_bipush (v := 90) hx hb d_Mod_work_9 (by decide) ?_
    refine lv_icmp_eq (tgt := 22) hx hb d_Mod_work_11 (by decide) (fun h9 => absurd h9 (by decide)) (fun _ => ?_)
    refine lv_aload_n hx hb d_Mod_work_14 rfl (lv_at hl 0 rfl) ?_
    refine lv_iload_n hx hb d_Mod_work_15 rfl (lv_at hl 1 rfl) ?_
    refine km_Vi (wr := []) F (c_Mod_pop l Dg a k D mm _ hP (hD.weaken (fun _ _ _ _ => trivial)) (dm_in hm) (ix_40 (c := 40) (i := i) (h := h - 1) 40 rfl em (dPop_5 e0 (by omega)) (by omega) (by decide))) kx_K hK kw_Mod_109 tw3_128 ts_26 (va_recv (ci := 3) (q0 := 0) hK hP rfl rfl) hP hD hS hA [0, 1, 2, 3, 4, 5, 6, 7, 8, 9, 10, 11, 12, 13, 14] [] rfl rfl (by decide) (by decide) d_Mod_work_16 ⟨⟨by decide, by decide⟩, Nat.le_refl _, Nat.le_refl _⟩ rfl hl.1 rfl (Nat.le_of_ble_eq_true rfl) (fun H locs hP hD hS => ?_)
    have hP : va_P Dg classes (wD a k (dPop D mm)) H := hP
    have hD : va_D (va_A (wD a k D) s.heap.size) (wD a k (dPop D mm)) := hD
    obtain ⟨Ds3, hDs3⟩ : ∃ z9, z9 = (dPop D mm) := ⟨_, rfl⟩
    rw [← hDs3] at hP hD
    refine lv_goto (tgt := 23) hx hb d_Mod_work_19 (by decide) ?_
    refine lv_istore hx hb d_Mod_work_23 hl (by decide) rfl (fun ls hl => ?_)
    have hl : lv_has ls 6 [(4, .int (dTop D mm)), (0, .ref (a 0)), (1, .int mm), (2, .int 83), (3, .int n)] := hl
    refine lv_aload_n hx hb d_Mod_work_25 rfl (lv_at hl 1 rfl) ?_
    refine lv_iload_n hx hb d_Mod_work_26 rfl (lv_at hl 3 rfl) ?_
    refine kp_V F (c_Mod_takes l Dg a k Ds3 83 _ hP (by unfold okC; decide)) kx_K hK kw_Mod_106 tw3_120 ts_24 (va_recv (ci := 3) (q0 := 0) hK hP rfl rfl) hS d_Mod_work_27 ⟨⟨by decide, by decide⟩, Nat.le_refl _, Nat.le_refl _⟩ rfl hl.1 rfl (Nat.le_of_ble_eq_true rfl) (fun locs hS => ?_)
    refine lv_iconst (v := 2) hx hb d_Mod_work_30 (by decide) ?_
    refine lv_icmp_ne (tgt := 42) hx hb d_Mod_work_31 (by decide) (fun _ => ?_) (fun h9 => absurd h9 (by decide))
    refine lv_iconst (v := 0) hx hb d_Mod_work_42 (by decide) ?_
    refine lv_istore hx hb d_Mod_work_43 hl (by decide) rfl (fun ls hl => ?_)
    have hl : lv_has ls 6 [(5, .int 0), (4, .int (dTop D mm)), (0, .ref (a 0)), (1, .int mm), (2, .int 83), (3, .int n)] := hl
    refine lv_iload_n hx hb d_Mod_work_45 rfl (lv_at hl 4 rfl) ?_
    refine kp_S F (c_Mod_isPlain l Dg k 83 _ ) kx_K hK kw_Mod_57 tw3_54 hS d_Mod_work_46 ⟨⟨by decide, by decide⟩, Nat.le_refl _, Nat.le_refl _⟩ rfl hl.1 rfl (Nat.le_of_ble_eq_true rfl) (fun locs hS => ?_)
    refine lv_if_eq (tgt := 65) hx hb d_Mod_work_49 (by decide) (fun _ => ?_) (fun h9 => absurd (by decide) h9)
    refine lv_iload_n hx hb d_Mod_work_65 rfl (lv_at hl 4 rfl) ?_
    refine lv_bipush (v := 80) hx hb d_Mod_work_66 (by decide) ?_
    refine lv_icmp_ne (tgt := 77) hx hb d_Mod_work_68 (by decide) (fun _ => ?_) (fun h9 => absurd h9 (by decide))
    refine lv_iload_n hx hb d_Mod_work_77 rfl (lv_at hl 4 rfl) ?_
    refine lv_bipush (v := 76) hx hb d_Mod_work_78 (by decide) ?_
    refine lv_icmp_ne (tgt := 99) hx hb d_Mod_work_80 (by decide) (fun _ => ?_) (fun h9 => absurd h9 (by decide))
    refine lv_iload_n hx hb d_Mod_work_99 rfl (lv_at hl 4 rfl) ?_
    refine lv_bipush (v := 83) hx hb d_Mod_work_100 (by decide) ?_
    refine lv_icmp_ne (tgt := 118) hx hb d_Mod_work_102 (by decide) (fun h9 => absurd (by decide) h9) (fun _ => ?_)
    refine lv_aload_n hx hb d_Mod_work_105 rfl (lv_at hl 2 rfl) ?_
    refine va_get (D := Dg) (ci := 3) (v := .ref (a 12)) (C := R_Mod) (T := F_Mod) (N := 17) hx hb hT in_Mod hown hK hP 0 rfl rfl 14 (by decide) (hT _ tw3_0) (fun _ h9 => h9) rfl d_Mod_work_106 ?_
    refine lv_bipush (v := 8) hx hb d_Mod_work_109 (by decide) ?_
    refine lv_iload_n hx hb d_Mod_work_111 rfl (lv_at hl 3 rfl) ?_
    refine lv_imul hx hb d_Mod_work_112 ?_
    refine lv_iload_n hx hb d_Mod_work_113 rfl (lv_at hl 5 rfl) ?_
    refine lv_iadd hx hb d_Mod_work_114 ?_
    refine lv_iload hx hb d_Mod_work_115 (lv_at hl 1 rfl) ?_
    refine va_iast hx hb hK hP hD hS 12 0 rfl rfl (by rw [em]; obtain ⟨j, hj, ej⟩ := vp_in_of (hn (Or.inr rfl)) (by decide); rw [ej, show (8 : Int32) = nI 8 from rfl, pk_mul, nI_add]; exact vp_in_nI (by omega) (by decide)) d_Mod_work_117 (fun H locs hP hD hS => ?_)
    have hP : va_P Dg classes (wD a k (u2 Ds3 11 ((8 * mm) + n).toNatClampNeg (dTop D mm))) H := hP
    have hD : va_D (va_A (wD a k D) s.heap.size) (wD a k (u2 Ds3 11 ((8 * mm) + n).toNatClampNeg (dTop D mm))) := hD
    obtain ⟨Ds4, hDs4⟩ : ∃ z9, z9 = (u2 Ds3 11 ((8 * mm) + n).toNatClampNeg (dTop D mm)) := ⟨_, rfl⟩
    rw [← hDs4] at hP hD
    refine lv_iload_n hx hb d_Mod_work_118 rfl (lv_at hl 4 rfl) ?_
    refine lv_bipush (v := 79) hx hb d_Mod_work_119 (by decide) ?_
    refine lv_icmp_ne (tgt := 131) hx hb d_Mod_work_121 (by decide) (fun _ => ?_) (fun h9 => absurd h9 (by decide))
    refine lv_iload_n hx hb d_Mod_work_131 rfl (lv_at hl 4 rfl) ?_
    refine lv_bipush (v := 68) hx hb d_Mod_work_132 (by decide) ?_
    refine lv_icmp_eq (tgt := 143) hx hb d_Mod_work_134 (by decide) (fun h9 => absurd h9 (by decide)) (fun _ => ?_)
    refine lv_iload_n hx hb d_Mod_work_137 rfl (lv_at hl 4 rfl) ?_
    refine lv_bipush (v := 88) hx hb d_Mod_work_138 (by decide) ?_
    refine lv_icmp_ne (tgt := 150) hx hb d_Mod_work_140 (by decide) (fun _ => ?_) (fun h9 => absurd h9 (by decide))
    refine lv_iload_n hx hb d_Mod_work_150 rfl (lv_at hl 4 rfl) ?_
    refine lv_bipush (v := 68) hx hb d_Mod_work_151 (by decide) ?_
    refine lv_icmp_ne (tgt := 163) hx hb d_Mod_work_153 (by decide) (fun _ => ?_) (fun h9 => absurd h9 (by decide))
    refine lv_iload_n hx hb d_Mod_work_163 rfl (lv_at hl 4 rfl) ?_
    refine lv_bipush (v := 88) hx hb d_Mod_work_164 (by decide) ?_
    refine lv_icmp_ne (tgt := 176) hx hb d_Mod_work_166 (by decide) (fun _ => ?_) (fun h9 => absurd h9 (by decide))
    exact km_v F hlocks hret hP hD hS d_Mod_work_176 (by subst hDs4 hDs3; unfold dWork; rw [if_neg (by decide), if_neg (by decide), if_pos rfl])
  · obtain ⟨i, h, r, o, hi, em, e0, e1, e2, b0, b1, b2, c1, c2, c3, c4, c5⟩ := dtr_all hm ht
    have hd := tr_n (d := 2) (by decide) c1
    have hz : (43 : Int32) = 47 → ¬ dTop D mm = 0 := fun z w => c5 ⟨z, by rw [dTop_eq] at w; rw [show 40 * mm + D 5 (tn mm) - 1 = 40 * mm + (D 5 (tn mm) - 1) by rw [e0, em, show (40 : Int32) = nI 40 from rfl, show (1 : Int32) = nI 1 from rfl, pk_mul, nI_add, pk_sub (by omega), pk_sub (by omega), nI_add]; congr 1; omega]; exact w⟩
    refine lv_aload_n hx hb d_Mod_work_0 rfl (lv_at hl 0 rfl) ?_
    refine lv_iload_n hx hb d_Mod_work_1 rfl (lv_at hl 2 rfl) ?_
    refine kp_V F (c_Mod_takes l Dg a k D 43 _ hP (by unfold okC; decide)) kx_K hK kw_Mod_106 tw3_120 ts_24 (va_recv (ci := 3) (q0 := 0) hK hP rfl rfl) hS d_Mod_work_2 ⟨⟨by decide, by decide⟩, Nat.le_refl _, Nat.le_refl _⟩ rfl hl.1 rfl (Nat.le_of_ble_eq_true rfl) (fun locs hS => ?_)
    refine lv_if_le (tgt := 22) hx hb d_Mod_work_5 (by decide) (fun h9 => absurd h9 (by decide)) (fun _ => ?_)
    refine lv_iload_n hx hb d_Mod_work_8 rfl (lv_at hl 2 rfl) ?_
    refine lv_bipush (v := 90) hx hb d_Mod_work_9 (by decide) ?_
    refine lv_icmp_eq (tgt := 22) hx hb d_Mod_work_11 (by decide) (fun h9 => absurd h9 (by decide)) (fun _ => ?_)
    refine lv_aload_n hx hb d_Mod_work_14 rfl (lv_at hl 0 rfl) ?_
    refine lv_iload_n hx hb d_Mod_work_15 rfl (lv_at hl 1 rfl) ?_
    refine km_Vi (wr := []) F (c_Mod_pop l Dg a k D mm _ hP (hD.weaken (fun _ _ _ _ => trivial)) (dm_in hm) (ix_40 (c := 40) (i := i) (h := h - 1) 40 rfl em (dPop_5 e0 (by omega)) (by omega) (by decide))) kx_K hK kw_Mod_109 tw3_128 ts_26 (va_recv (ci := 3) (q0 := 0) hK hP rfl rfl) hP hD hS hA [0, 1, 2, 3, 4, 5, 6, 7, 8, 9, 10, 11, 12, 13, 14] [] rfl rfl (by decide) (by decide) d_Mod_work_16 ⟨⟨by decide, by decide⟩, Nat.le_refl _, Nat.le_refl _⟩ rfl hl.1 rfl (Nat.le_of_ble_eq_true rfl) (fun H locs hP hD hS => ?_)
    have hP : va_P Dg classes (wD a k (dPop D mm)) H := hP
    have hD : va_D (va_A (wD a k D) s.heap.size) (wD a k (dPop D mm)) := hD
    obtain ⟨Ds5, hDs5⟩ : ∃ z9, z9 = (dPop D mm) := ⟨_, rfl⟩
    rw [← hDs5] at hP hD
    refine lv_goto (tgt := 23) hx hb d_Mod_work_19 (by decide) ?_
    refine lv_istore hx hb d_Mod_work_23 hl (by decide) rfl (fun ls hl => ?_)
    have hl : lv_has ls 6 [(4, .int (dTop D mm)), (0, .ref (a 0)), (1, .int mm), (2, .int 43), (3, .int n)] := hl
    refine lv_aload_n hx hb d_Mod_work_25 rfl (lv_at hl 1 rfl) ?_
    refine lv_iload_n hx hb d_Mod_work_26 rfl (lv_at hl 3 rfl) ?_
    refine kp_V F (c_Mod_takes l Dg a k Ds5 43 _ hP (by unfold okC; decide)) kx_K hK kw_Mod_106 tw3_120 ts_24 (va_recv (ci := 3) (q0 := 0) hK hP rfl rfl) hS d_Mod_work_27 ⟨⟨by decide, by decide⟩, Nat.le_refl _, Nat.le_refl _⟩ rfl hl.1 rfl (Nat.le_of_ble_eq_true rfl) (fun locs hS => ?_)
    refine lv_iconst (v := 2) hx hb d_Mod_work_30 (by decide) ?_
    refine lv_icmp_ne (tgt := 42) hx hb d_Mod_work_31 (by decide) (fun h9 => absurd (by decide) h9) (fun _ => ?_)
    refine lv_aload_n hx hb d_Mod_work_34 rfl (lv_at hl 1 rfl) ?_
    refine lv_iload_n hx hb d_Mod_work_35 rfl (lv_at hl 2 rfl) ?_
    refine km_Vi (wr := []) F (c_Mod_pop l Dg a k Ds5 mm _ hP (hD.weaken (fun _ _ _ _ => trivial)) (dm_in hm) (ix_40 (c := 40) (i := i) (h := (h - 1) - 1) 40 rfl em (dPop_5 (by rw [hDs5]; exact dPop_5 e0 (by omega)) (by omega)) (by omega) (by decide))) kx_K hK kw_Mod_109 tw3_128 ts_26 (va_recv (ci := 3) (q0 := 0) hK hP rfl rfl) hP hD hS hA [0, 1, 2, 3, 4, 5, 6, 7, 8, 9, 10, 11, 12, 13, 14] [] rfl rfl (by decide) (by decide) d_Mod_work_36 ⟨⟨by decide, by decide⟩, Nat.le_refl _, Nat.le_refl _⟩ rfl hl.1 rfl (Nat.le_of_ble_eq_true rfl) (fun H locs hP hD hS => ?_)
    have hP : va_P Dg classes (wD a k (dPop Ds5 mm)) H := hP
    have hD : va_D (va_A (wD a k D) s.heap.size) (wD a k (dPop Ds5 mm)) := hD
    obtain ⟨Ds6, hDs6⟩ : ∃ z9, z9 = (dPop Ds5 mm) := ⟨_, rfl⟩
    rw [← hDs6] at hP hD
    refine lv_goto (tgt := 43) hx hb d_Mod_work_39 (by decide) ?_
    refine lv_istore hx hb d_Mod_work_43 hl (by decide) rfl (fun ls hl => ?_)
    have hl : lv_has ls 6 [(5, .int (dTop Ds5 mm)), (4, .int (dTop D mm)), (0, .ref (a 0)), (1, .int mm), (2, .int 43), (3, .int n)] := hl
    refine lv_iload_n hx hb d_Mod_work_45 rfl (lv_at hl 4 rfl) ?_
    refine kp_S F (c_Mod_isPlain l Dg k 43 _ ) kx_K hK kw_Mod_57 tw3_54 hS d_Mod_work_46 ⟨⟨by decide, by decide⟩, Nat.le_refl _, Nat.le_refl _⟩ rfl hl.1 rfl (Nat.le_of_ble_eq_true rfl) (fun locs hS => ?_)
    refine lv_if_eq (tgt := 65) hx hb d_Mod_work_49 (by decide) (fun h9 => absurd h9 (by decide)) (fun _ => ?_)
    refine lv_aload_n hx hb d_Mod_work_52 rfl (lv_at hl 2 rfl) ?_
    refine lv_iload_n hx hb d_Mod_work_53 rfl (lv_at hl 3 rfl) ?_
    refine lv_iload_n hx hb d_Mod_work_54 rfl (lv_at hl 4 rfl) ?_
    refine lv_iload hx hb d_Mod_work_55 (lv_at hl 0 rfl) ?_
    refine lv_iload hx hb d_Mod_work_57 (lv_at hl 1 rfl) ?_
    refine kp_S F (c_Mod_reckon l Dg k 43 (dTop Ds5 mm) (dTop D mm) _ (by decide) hz) kx_K hK kw_Mod_112 tw3_131 hS d_Mod_work_59 ⟨⟨by decide, by decide⟩, Nat.le_refl _, Nat.le_refl _⟩ rfl hl.1 rfl (Nat.le_of_ble_eq_true rfl) (fun locs hS => ?_)
    refine km_Vv (wr := []) F (c_Mod_push l Dg a k Ds6 mm (sRes 43 (dTop Ds5 mm) (dTop D mm)) _ hP (hD.weaken (fun _ _ _ _ => trivial)) (dm_in hm) (ix_40 (c := 40) (i := i) (h := ((h - 1) - 1)) 40 rfl em (by rw [hDs6]; exact dPop_5 (by rw [hDs5]; exact dPop_5 e0 (by omega)) (by omega)) (by omega) (by decide))) kx_K hK kw_Mod_116 tw3_135 ts_27 (va_recv (ci := 3) (q0 := 0) hK hP rfl rfl) hP hD hS hA [0, 1, 2, 3, 4, 5, 6, 7, 8, 9, 10, 11, 12, 13, 14] [] rfl rfl (by decide) (by decide) d_Mod_work_62 ⟨⟨by decide, by decide⟩, Nat.le_refl _, Nat.le_refl _⟩ rfl hl.1 rfl (Nat.le_of_ble_eq_true rfl) (fun H locs hP hD hS => ?_)
    have hP : va_P Dg classes (wD a k (dPush Ds6 mm (sRes 43 (dTop Ds5 mm) (dTop D mm)))) H := hP
    have hD : va_D (va_A (wD a k D) s.heap.size) (wD a k (dPush Ds6 mm (sRes 43 (dTop Ds5 mm) (dTop D mm)))) := hD
    obtain ⟨Ds7, hDs7⟩ : ∃ z9, z9 = (dPush Ds6 mm (sRes 43 (dTop Ds5 mm) (dTop D mm))) := ⟨_, rfl⟩
    rw [← hDs7] at hP hD
    refine lv_iload_n hx hb d_Mod_work_65 rfl (lv_at hl 4 rfl) ?_
    refine lv_bipush (v := 80) hx hb d_Mod_work_66 (by decide) ?_
    refine lv_icmp_ne (tgt := 77) hx hb d_Mod_work_68 (by decide) (fun _ => ?_) (fun h9 => absurd h9 (by decide))
    refine lv_iload_n hx hb d_Mod_work_77 rfl (lv_at hl 4 rfl) ?_
    refine lv_bipush (v := 76) hx hb d_Mod_work_78 (by decide) ?_
    refine lv_icmp_ne (tgt := 99) hx hb d_Mod_work_80 (by decide) (fun _ => ?_) (fun h9 => absurd h9 (by decide))
    refine lv_iload_n hx hb d_Mod_work_99 rfl (lv_at hl 4 rfl) ?_
    refine lv_bipush (v := 83) hx hb d_Mod_work_100 (by decide) ?_
    refine lv_icmp_ne (tgt := 118) hx hb d_Mod_work_102 (by decide) (fun _ => ?_) (fun h9 => absurd h9 (by decide))
    refine lv_iload_n hx hb d_Mod_work_118 rfl (lv_at hl 4 rfl) ?_
    refine lv_bipush (v := 79) hx hb d_Mod_work_119 (by decide) ?_
    refine lv_icmp_ne (tgt := 131) hx hb d_Mod_work_121 (by decide) (fun _ => ?_) (fun h9 => absurd h9 (by decide))
    refine lv_iload_n hx hb d_Mod_work_131 rfl (lv_at hl 4 rfl) ?_
    refine lv_bipush (v := 68) hx hb d_Mod_work_132 (by decide) ?_
    refine lv_icmp_eq (tgt := 143) hx hb d_Mod_work_134 (by decide) (fun h9 => absurd h9 (by decide)) (fun _ => ?_)
    refine lv_iload_n hx hb d_Mod_work_137 rfl (lv_at hl 4 rfl) ?_
    refine lv_bipush (v := 88) hx hb d_Mod_work_138 (by decide) ?_
    refine lv_icmp_ne (tgt := 150) hx hb d_Mod_work_140 (by decide) (fun _ => ?_) (fun h9 => absurd h9 (by decide))
    refine lv_iload_n hx hb d_Mod_work_150 rfl (lv_at hl 4 rfl) ?_
    refine lv_bipush (v := 68) hx hb d_Mod_work_151 (by decide) ?_
    refine lv_icmp_ne (tgt := 163) hx hb d_Mod_work_153 (by decide) (fun _ => ?_) (fun h9 => absurd h9 (by decide))
    refine lv_iload_n hx hb d_Mod_work_163 rfl (lv_at hl 4 rfl) ?_
    refine lv_bipush (v := 88) hx hb d_Mod_work_164 (by decide) ?_
    refine lv_icmp_ne (tgt := 176) hx hb d_Mod_work_166 (by decide) (fun _ => ?_) (fun h9 => absurd h9 (by decide))
    exact km_v F hlocks hret hP hD hS d_Mod_work_176 (by subst hDs7 hDs6 hDs5; unfold dWork; rw [if_neg (by decide), if_neg (by decide), if_neg (by decide), if_neg (by decide), if_neg (by decide), if_neg (by decide), if_neg (by decide), if_neg (by decide), if_neg (by decide), if_neg (by decide), if_neg (by decide), if_neg (by decide)])
  · obtain ⟨i, h, r, o, hi, em, e0, e1, e2, b0, b1, b2, c1, c2, c3, c4, c5⟩ := dtr_all hm ht
    have hd := tr_n (d := 2) (by decide) c1
    have hz : (45 : Int32) = 47 → ¬ dTop D mm = 0 := fun z w => c5 ⟨z, by rw [dTop_eq] at w; rw [show 40 * mm + D 5 (tn mm) - 1 = 40 * mm + (D 5 (tn mm) - 1) by rw [e0, em, show (40 : Int32) = nI 40 from rfl, show (1 : Int32) = nI 1 from rfl, pk_mul, nI_add, pk_sub (by omega), pk_sub (by omega), nI_add]; congr 1; omega]; exact w⟩
    refine lv_aload_n hx hb d_Mod_work_0 rfl (lv_at hl 0 rfl) ?_
    refine lv_iload_n hx hb d_Mod_work_1 rfl (lv_at hl 2 rfl) ?_
    refine kp_V F (c_Mod_takes l Dg a k D 45 _ hP (by unfold okC; decide)) kx_K hK kw_Mod_106 tw3_120 ts_24 (va_recv (ci := 3) (q0 := 0) hK hP rfl rfl) hS d_Mod_work_2 ⟨⟨by decide, by decide⟩, Nat.le_refl _, Nat.le_refl _⟩ rfl hl.1 rfl (Nat.le_of_ble_eq_true rfl) (fun locs hS => ?_)
    refine lv_if_le (tgt := 22) hx hb d_Mod_work_5 (by decide) (fun h9 => absurd h9 (by decide)) (fun _ => ?_)
    refine lv_iload_n hx hb d_Mod_work_8 rfl (lv_at hl 2 rfl) ?_
    refine lv_bipush (v := 90) hx hb d_Mod_work_9 (by decide) ?_
    refine lv_icmp_eq (tgt := 22) hx hb d_Mod_work_11 (by decide) (fun h9 => absurd h9 (by decide)) (fun _ => ?_)
    refine lv_aload_n hx hb d_Mod_work_14 rfl (lv_at hl 0 rfl) ?_
    refine lv_iload_n hx hb d_Mod_work_15 rfl (lv_at hl 1 rfl) ?_
    refine km_Vi (wr := []) F (c_Mod_pop l Dg a k D mm _ hP (hD.weaken (fun _ _ _ _ => trivial)) (dm_in hm) (ix_40 (c := 40) (i := i) (h := h - 1) 40 rfl em (dPop_5 e0 (by omega)) (by omega) (by decide))) kx_K hK kw_Mod_109 tw3_128 ts_26 (va_recv (ci := 3) (q0 := 0) hK hP rfl rfl) hP hD hS hA [0, 1, 2, 3, 4, 5, 6, 7, 8, 9, 10, 11, 12, 13, 14] [] rfl rfl (by decide) (by decide) d_Mod_work_16 ⟨⟨by decide, by decide⟩, Nat.le_refl _, Nat.le_refl _⟩ rfl hl.1 rfl (Nat.le_of_ble_eq_true rfl) (fun H locs hP hD hS => ?_)
    have hP : va_P Dg classes (wD a k (dPop D mm)) H := hP
    have hD : va_D (va_A (wD a k D) s.heap.size) (wD a k (dPop D mm)) := hD
    obtain ⟨Ds8, hDs8⟩ : ∃ z9, z9 = (dPop D mm) := ⟨_, rfl⟩
    rw [← hDs8] at hP hD
    refine lv_goto (tgt := 23) hx hb d_Mod_work_19 (by decide) ?_
    refine lv_istore hx hb d_Mod_work_23 hl (by decide) rfl (fun ls hl => ?_)
    have hl : lv_has ls 6 [(4, .int (dTop D mm)), (0, .ref (a 0)), (1, .int mm), (2, .int 45), (3, .int n)] := hl
    refine lv_aload_n hx hb d_Mod_work_25 rfl (lv_at hl 1 rfl) ?_
    refine lv_iload_n hx hb d_Mod_work_26 rfl (lv_at hl 3 rfl) ?_
    refine kp_V F (c_Mod_takes l Dg a k Ds8 45 _ hP (by unfold okC; decide)) kx_K hK kw_Mod_106 tw3_120 ts_24 (va_recv (ci := 3) (q0 := 0) hK hP rfl rfl) hS d_Mod_work_27 ⟨⟨by decide, by decide⟩, Nat.le_refl _, Nat.le_refl _⟩ rfl hl.1 rfl (Nat.le_of_ble_eq_true rfl) (fun locs hS => ?_)
    refine lv_iconst (v := 2) hx hb d_Mod_work_30 (by decide) ?_
    refine lv_icmp_ne (tgt := 42) hx hb d_Mod_work_31 (by decide) (fun h9 => absurd (by decide) h9) (fun _ => ?_)
    refine lv_aload_n hx hb d_Mod_work_34 rfl (lv_at hl 1 rfl) ?_
    refine lv_iload_n hx hb d_Mod_work_35 rfl (lv_at hl 2 rfl) ?_
    refine km_Vi (wr := []) F (c_Mod_pop l Dg a k Ds8 mm _ hP (hD.weaken (fun _ _ _ _ => trivial)) (dm_in hm) (ix_40 (c := 40) (i := i) (h := (h - 1) - 1) 40 rfl em (dPop_5 (by rw [hDs8]; exact dPop_5 e0 (by omega)) (by omega)) (by omega) (by decide))) kx_K hK kw_Mod_109 tw3_128 ts_26 (va_recv (ci := 3) (q0 := 0) hK hP rfl rfl) hP hD hS hA [0, 1, 2, 3, 4, 5, 6, 7, 8, 9, 10, 11, 12, 13, 14] [] rfl rfl (by decide) (by decide) d_Mod_work_36 ⟨⟨by decide, by decide⟩, Nat.le_refl _, Nat.le_refl _⟩ rfl hl.1 rfl (Nat.le_of_ble_eq_true rfl) (fun H locs hP hD hS => ?_)
    have hP : va_P Dg classes (wD a k (dPop Ds8 mm)) H := hP
    have hD : va_D (va_A (wD a k D) s.heap.size) (wD a k (dPop Ds8 mm)) := hD
    obtain ⟨Ds9, hDs9⟩ : ∃ z9, z9 = (dPop Ds8 mm) := ⟨_, rfl⟩
    rw [← hDs9] at hP hD
    refine lv_goto (tgt := 43) hx hb d_Mod_work_39 (by decide) ?_
    refine lv_istore hx hb d_Mod_work_43 hl (by decide) rfl (fun ls hl => ?_)
    have hl : lv_has ls 6 [(5, .int (dTop Ds8 mm)), (4, .int (dTop D mm)), (0, .ref (a 0)), (1, .int mm), (2, .int 45), (3, .int n)] := hl
    refine lv_iload_n hx hb d_Mod_work_45 rfl (lv_at hl 4 rfl) ?_
    refine kp_S F (c_Mod_isPlain l Dg k 45 _ ) kx_K hK kw_Mod_57 tw3_54 hS d_Mod_work_46 ⟨⟨by decide, by decide⟩, Nat.le_refl _, Nat.le_refl _⟩ rfl hl.1 rfl (Nat.le_of_ble_eq_true rfl) (fun locs hS => ?_)
    refine lv_if_eq (tgt := 65) hx hb d_Mod_work_49 (by decide) (fun h9 => absurd h9 (by decide)) (fun _ => ?_)
    refine lv_aload_n hx hb d_Mod_work_52 rfl (lv_at hl 2 rfl) ?_
    refine lv_iload_n hx hb d_Mod_work_53 rfl (lv_at hl 3 rfl) ?_
    refine lv_iload_n hx hb d_Mod_work_54 rfl (lv_at hl 4 rfl) ?_
    refine lv_iload hx hb d_Mod_work_55 (lv_at hl 0 rfl) ?_
    refine lv_iload hx hb d_Mod_work_57 (lv_at hl 1 rfl) ?_
    refine kp_S F (c_Mod_reckon l Dg k 45 (dTop Ds8 mm) (dTop D mm) _ (by decide) hz) kx_K hK kw_Mod_112 tw3_131 hS d_Mod_work_59 ⟨⟨by decide, by decide⟩, Nat.le_refl _, Nat.le_refl _⟩ rfl hl.1 rfl (Nat.le_of_ble_eq_true rfl) (fun locs hS => ?_)
    refine km_Vv (wr := []) F (c_Mod_push l Dg a k Ds9 mm (sRes 45 (dTop Ds8 mm) (dTop D mm)) _ hP (hD.weaken (fun _ _ _ _ => trivial)) (dm_in hm) (ix_40 (c := 40) (i := i) (h := ((h - 1) - 1)) 40 rfl em (by rw [hDs9]; exact dPop_5 (by rw [hDs8]; exact dPop_5 e0 (by omega)) (by omega)) (by omega) (by decide))) kx_K hK kw_Mod_116 tw3_135 ts_27 (va_recv (ci := 3) (q0 := 0) hK hP rfl rfl) hP hD hS hA [0, 1, 2, 3, 4, 5, 6, 7, 8, 9, 10, 11, 12, 13, 14] [] rfl rfl (by decide) (by decide) d_Mod_work_62 ⟨⟨by decide, by decide⟩, Nat.le_refl _, Nat.le_refl _⟩ rfl hl.1 rfl (Nat.le_of_ble_eq_true rfl) (fun H locs hP hD hS => ?_)
    have hP : va_P Dg classes (wD a k (dPush Ds9 mm (sRes 45 (dTop Ds8 mm) (dTop D mm)))) H := hP
    have hD : va_D (va_A (wD a k D) s.heap.size) (wD a k (dPush Ds9 mm (sRes 45 (dTop Ds8 mm) (dTop D mm)))) := hD
    obtain ⟨Ds10, hDs10⟩ : ∃ z9, z9 = (dPush Ds9 mm (sRes 45 (dTop Ds8 mm) (dTop D mm))) := ⟨_, rfl⟩
    rw [← hDs10] at hP hD
    refine lv_iload_n hx hb d_Mod_work_65 rfl (lv_at hl 4 rfl) ?_
    refine lv_bipush (v := 80) hx hb d_Mod_work_66 (by decide) ?_
    refine lv_icmp_ne (tgt := 77) hx hb d_Mod_work_68 (by decide) (fun _ => ?_) (fun h9 => absurd h9 (by decide))
    refine lv_iload_n hx hb d_Mod_work_77 rfl (lv_at hl 4 rfl) ?_
    refine lv_bipush (v := 76) hx hb d_Mod_work_78 (by decide) ?_
    refine lv_icmp_ne (tgt := 99) hx hb d_Mod_work_80 (by decide) (fun _ => ?_) (fun h9 => absurd h9 (by decide))
    refine lv_iload_n hx hb d_Mod_work_99 rfl (lv_at hl 4 rfl) ?_
    refine lv_bipush (v := 83) hx hb d_Mod_work_100 (by decide) ?_
    refine lv_icmp_ne (tgt := 118) hx hb d_Mod_work_102 (by decide) (fun _ => ?_) (fun h9 => absurd h9 (by decide))
    refine lv_iload_n hx hb d_Mod_work_118 rfl (lv_at hl 4 rfl) ?_
    refine lv_bipush (v := 79) hx hb d_Mod_work_119 (by decide) ?_
    refine lv_icmp_ne (tgt := 131) hx hb d_Mod_work_121 (by decide) (fun _ => ?_) (fun h9 => absurd h9 (by decide))
    refine lv_iload_n hx hb d_Mod_work_131 rfl (lv_at hl 4 rfl) ?_
    refine lv_bipush (v := 68) hx hb d_Mod_work_132 (by decide) ?_
    refine lv_icmp_eq (tgt := 143) hx hb d_Mod_work_134 (by decide) (fun h9 => absurd h9 (by decide)) (fun _ => ?_)
    refine lv_iload_n hx hb d_Mod_work_137 rfl (lv_at hl 4 rfl) ?_
    refine lv_bipush (v := 88) hx hb d_Mod_work_138 (by decide) ?_
    refine lv_icmp_ne (tgt := 150) hx hb d_Mod_work_140 (by decide) (fun _ => ?_) (fun h9 => absurd h9 (by decide))
    refine lv_iload_n hx hb d_Mod_work_150 rfl (lv_at hl 4 rfl) ?_
    refine lv_bipush (v := 68) hx hb d_Mod_work_151 (by decide) ?_
    refine lv_icmp_ne (tgt := 163) hx hb d_Mod_work_153 (by decide) (fun _ => ?_) (fun h9 => absurd h9 (by decide))
    refine lv_iload_n hx hb d_Mod_work_163 rfl (lv_at hl 4 rfl) ?_
    refine lv_bipush (v := 88) hx hb d_Mod_work_164 (by decide) ?_
    refine lv_icmp_ne (tgt := 176) hx hb d_Mod_work_166 (by decide) (fun _ => ?_) (fun h9 => absurd h9 (by decide))
    exact km_v F hlocks hret hP hD hS d_Mod_work_176 (by subst hDs10 hDs9 hDs8; unfold dWork; rw [if_neg (by decide), if_neg (by decide), if_neg (by decide), if_neg (by decide), if_neg (by decide), if_neg (by decide), if_neg (by decide), if_neg (by decide), if_neg (by decide), if_neg (by decide), if_neg (by decide), if_neg (by decide)])
  · obtain ⟨i, h, r, o, hi, em, e0, e1, e2, b0, b1, b2, c1, c2, c3, c4, c5⟩ := dtr_all hm ht
    have hd := tr_n (d := 2) (by decide) c1
    have hz : (42 : Int32) = 47 → ¬ dTop D mm = 0 := fun z w => c5 ⟨z, by rw [dTop_eq] at w; rw [show 40 * mm + D 5 (tn mm) - 1 = 40 * mm + (D 5 (tn mm) - 1) by rw [e0, em, show (40 : Int32) = nI 40 from rfl, show (1 : Int32) = nI 1 from rfl, pk_mul, nI_add, pk_sub (by omega), pk_sub (by omega), nI_add]; congr 1; omega]; exact w⟩
    refine lv_aload_n hx hb d_Mod_work_0 rfl (lv_at hl 0 rfl) ?_
    refine lv_iload_n hx hb d_Mod_work_1 rfl (lv_at hl 2 rfl) ?_
    refine kp_V F (c_Mod_takes l Dg a k D 42 _ hP (by unfold okC; decide)) kx_K hK kw_Mod_106 tw3_120 ts_24 (va_recv (ci := 3) (q0 := 0) hK hP rfl rfl) hS d_Mod_work_2 ⟨⟨by decide, by decide⟩, Nat.le_refl _, Nat.le_refl _⟩ rfl hl.1 rfl (Nat.le_of_ble_eq_true rfl) (fun locs hS => ?_)
    refine lv_if_le (tgt := 22) hx hb d_Mod_work_5 (by decide) (fun h9 => absurd h9 (by decide)) (fun _ => ?_)
    refine lv_iload_n hx hb d_Mod_work_8 rfl (lv_at hl 2 rfl) ?_
    refine lv_bipush (v := 90) hx hb d_Mod_work_9 (by decide) ?_
    refine lv_icmp_eq (tgt := 22) hx hb d_Mod_work_11 (by decide) (fun h9 => absurd h9 (by decide)) (fun _ => ?_)
    refine lv_aload_n hx hb d_Mod_work_14 rfl (lv_at hl 0 rfl) ?_
    refine lv_iload_n hx hb d_Mod_work_15 rfl (lv_at hl 1 rfl) ?_
    refine km_Vi (wr := []) F (c_Mod_pop l Dg a k D mm _ hP (hD.weaken (fun _ _ _ _ => trivial)) (dm_in hm) (ix_40 (c := 40) (i := i) (h := h - 1) 40 rfl em (dPop_5 e0 (by omega)) (by omega) (by decide))) kx_K hK kw_Mod_109 tw3_128 ts_26 (va_recv (ci := 3) (q0 := 0) hK hP rfl rfl) hP hD hS hA [0, 1, 2, 3, 4, 5, 6, 7, 8, 9, 10, 11, 12, 13, 14] [] rfl rfl (by decide) (by decide) d_Mod_work_16 ⟨⟨by decide, by decide⟩, Nat.le_refl _, Nat.le_refl _⟩ rfl hl.1 rfl (Nat.le_of_ble_eq_true rfl) (fun H locs hP hD hS => ?_)
    have hP : va_P Dg classes (wD a k (dPop D mm)) H := hP
    have hD : va_D (va_A (wD a k D) s.heap.size) (wD a k (dPop D mm)) := hD
    obtain ⟨Ds11, hDs11⟩ : ∃ z9, z9 = (dPop D mm) := ⟨_, rfl⟩
    rw [← hDs11] at hP hD
    refine lv_goto (tgt := 23) hx hb d_Mod_work_19 (by decide) ?_
    refine lv_istore hx hb d_Mod_work_23 hl (by decide) rfl (fun ls hl => ?_)
    have hl : lv_has ls 6 [(4, .int (dTop D mm)), (0, .ref (a 0)), (1, .int mm), (2, .int 42), (3, .int n)] := hl
    refine lv_aload_n hx hb d_Mod_work_25 rfl (lv_at hl 1 rfl) ?_
    refine lv_iload_n hx hb d_Mod_work_26 rfl (lv_at hl 3 rfl) ?_
    refine kp_V F (c_Mod_takes l Dg a k Ds11 42 _ hP (by unfold okC; decide)) kx_K hK kw_Mod_106 tw3_120 ts_24 (va_recv (ci := 3) (q0 := 0) hK hP rfl rfl) hS d_Mod_work_27 ⟨⟨by decide, by decide⟩, Nat.le_refl _, Nat.le_refl _⟩ rfl hl.1 rfl (Nat.le_of_ble_eq_true rfl) (fun locs hS => ?_)
    refine lv_iconst (v := 2) hx hb d_Mod_work_30 (by decide) ?_
    refine lv_icmp_ne (tgt := 42) hx hb d_Mod_work_31 (by decide) (fun h9 => absurd (by decide) h9) (fun _ => ?_)
    refine lv_aload_n hx hb d_Mod_work_34 rfl (lv_at hl 1 rfl) ?_
    refine lv_iload_n hx hb d_Mod_work_35 rfl (lv_at hl 2 rfl) ?_
    refine km_Vi (wr := []) F (c_Mod_pop l Dg a k Ds11 mm _ hP (hD.weaken (fun _ _ _ _ => trivial)) (dm_in hm) (ix_40 (c := 40) (i := i) (h := (h - 1) - 1) 40 rfl em (dPop_5 (by rw [hDs11]; exact dPop_5 e0 (by omega)) (by omega)) (by omega) (by decide))) kx_K hK kw_Mod_109 tw3_128 ts_26 (va_recv (ci := 3) (q0 := 0) hK hP rfl rfl) hP hD hS hA [0, 1, 2, 3, 4, 5, 6, 7, 8, 9, 10, 11, 12, 13, 14] [] rfl rfl (by decide) (by decide) d_Mod_work_36 ⟨⟨by decide, by decide⟩, Nat.le_refl _, Nat.le_refl _⟩ rfl hl.1 rfl (Nat.le_of_ble_eq_true rfl) (fun H locs hP hD hS => ?_)
    have hP : va_P Dg classes (wD a k (dPop Ds11 mm)) H := hP
    have hD : va_D (va_A (wD a k D) s.heap.size) (wD a k (dPop Ds11 mm)) := hD
    obtain ⟨Ds12, hDs12⟩ : ∃ z9, z9 = (dPop Ds11 mm) := ⟨_, rfl⟩
    rw [← hDs12] at hP hD
    refine lv_goto (tgt := 43) hx hb d_Mod_work_39 (by decide) ?_
    refine lv_istore hx hb d_Mod_work_43 hl (by decide) rfl (fun ls hl => ?_)
    have hl : lv_has ls 6 [(5, .int (dTop Ds11 mm)), (4, .int (dTop D mm)), (0, .ref (a 0)), (1, .int mm), (2, .int 42), (3, .int n)] := hl
    refine lv_iload_n hx hb d_Mod_work_45 rfl (lv_at hl 4 rfl) ?_
    refine kp_S F (c_Mod_isPlain l Dg k 42 _ ) kx_K hK kw_Mod_57 tw3_54 hS d_Mod_work_46 ⟨⟨by decide, by decide⟩, Nat.le_refl _, Nat.le_refl _⟩ rfl hl.1 rfl (Nat.le_of_ble_eq_true rfl) (fun locs hS => ?_)
    refine lv_if_eq (tgt := 65) hx hb d_Mod_work_49 (by decide) (fun h9 => absurd h9 (by decide)) (fun _ => ?_)
    refine lv_aload_n hx hb d_Mod_work_52 rfl (lv_at hl 2 rfl) ?_
    refine lv_iload_n hx hb d_Mod_work_53 rfl (lv_at hl 3 rfl) ?_
    refine lv_iload_n hx hb d_Mod_work_54 rfl (lv_at hl 4 rfl) ?_
    refine lv_iload hx hb d_Mod_work_55 (lv_at hl 0 rfl) ?_
    refine lv_iload hx hb d_Mod_work_57 (lv_at hl 1 rfl) ?_
    refine kp_S F (c_Mod_reckon l Dg k 42 (dTop Ds11 mm) (dTop D mm) _ (by decide) hz) kx_K hK kw_Mod_112 tw3_131 hS d_Mod_work_59 ⟨⟨by decide, by decide⟩, Nat.le_refl _, Nat.le_refl _⟩ rfl hl.1 rfl (Nat.le_of_ble_eq_true rfl) (fun locs hS => ?_)
    refine km_Vv (wr := []) F (c_Mod_push l Dg a k Ds12 mm (sRes 42 (dTop Ds11 mm) (dTop D mm)) _ hP (hD.weaken (fun _ _ _ _ => trivial)) (dm_in hm) (ix_40 (c := 40) (i := i) (h := ((h - 1) - 1)) 40 rfl em (by rw [hDs12]; exact dPop_5 (by rw [hDs11]; exact dPop_5 e0 (by omega)) (by omega)) (by omega) (by decide))) kx_K hK kw_Mod_116 tw3_135 ts_27 (va_recv (ci := 3) (q0 := 0) hK hP rfl rfl) hP hD hS hA [0, 1, 2, 3, 4, 5, 6, 7, 8, 9, 10, 11, 12, 13, 14] [] rfl rfl (by decide) (by decide) d_Mod_work_62 ⟨⟨by decide, by decide⟩, Nat.le_refl _, Nat.le_refl _⟩ rfl hl.1 rfl (Nat.le_of_ble_eq_true rfl) (fun H locs hP hD hS => ?_)
    have hP : va_P Dg classes (wD a k (dPush Ds12 mm (sRes 42 (dTop Ds11 mm) (dTop D mm)))) H := hP
    have hD : va_D (va_A (wD a k D) s.heap.size) (wD a k (dPush Ds12 mm (sRes 42 (dTop Ds11 mm) (dTop D mm)))) := hD
    obtain ⟨Ds13, hDs13⟩ : ∃ z9, z9 = (dPush Ds12 mm (sRes 42 (dTop Ds11 mm) (dTop D mm))) := ⟨_, rfl⟩
    rw [← hDs13] at hP hD
    refine lv_iload_n hx hb d_Mod_work_65 rfl (lv_at hl 4 rfl) ?_
    refine lv_bipush (v := 80) hx hb d_Mod_work_66 (by decide) ?_
    refine lv_icmp_ne (tgt := 77) hx hb d_Mod_work_68 (by decide) (fun _ => ?_) (fun h9 => absurd h9 (by decide))
    refine lv_iload_n hx hb d_Mod_work_77 rfl (lv_at hl 4 rfl) ?_
    refine lv_bipush (v := 76) hx hb d_Mod_work_78 (by decide) ?_
    refine lv_icmp_ne (tgt := 99) hx hb d_Mod_work_80 (by decide) (fun _ => ?_) (fun h9 => absurd h9 (by decide))
    refine lv_iload_n hx hb d_Mod_work_99 rfl (lv_at hl 4 rfl) ?_
    refine lv_bipush (v := 83) hx hb d_Mod_work_100 (by decide) ?_
    refine lv_icmp_ne (tgt := 118) hx hb d_Mod_work_102 (by decide) (fun _ => ?_) (fun h9 => absurd h9 (by decide))
    refine lv_iload_n hx hb d_Mod_work_118 rfl (lv_at hl 4 rfl) ?_
    refine lv_bipush (v := 79) hx hb d_Mod_work_119 (by decide) ?_
    refine lv_icmp_ne (tgt := 131) hx hb d_Mod_work_121 (by decide) (fun _ => ?_) (fun h9 => absurd h9 (by decide))
    refine lv_iload_n hx hb d_Mod_work_131 rfl (lv_at hl 4 rfl) ?_
    refine lv_bipush (v := 68) hx hb d_Mod_work_132 (by decide) ?_
    refine lv_icmp_eq (tgt := 143) hx hb d_Mod_work_134 (by decide) (fun h9 => absurd h9 (by decide)) (fun _ => ?_)
    refine lv_iload_n hx hb d_Mod_work_137 rfl (lv_at hl 4 rfl) ?_
    refine lv_bipush (v := 88) hx hb d_Mod_work_138 (by decide) ?_
    refine lv_icmp_ne (tgt := 150) hx hb d_Mod_work_140 (by decide) (fun _ => ?_) (fun h9 => absurd h9 (by decide))
    refine lv_iload_n hx hb d_Mod_work_150 rfl (lv_at hl 4 rfl) ?_
    refine lv_bipush (v := 68) hx hb d_Mod_work_151 (by decide) ?_
    refine lv_icmp_ne (tgt := 163) hx hb d_Mod_work_153 (by decide) (fun _ => ?_) (fun h9 => absurd h9 (by decide))
    refine lv_iload_n hx hb d_Mod_work_163 rfl (lv_at hl 4 rfl) ?_
    refine lv_bipush (v := 88) hx hb d_Mod_work_164 (by decide) ?_
    refine lv_icmp_ne (tgt := 176) hx hb d_Mod_work_166 (by decide) (fun _ => ?_) (fun h9 => absurd h9 (by decide))
    exact km_v F hlocks hret hP hD hS d_Mod_work_176 (by subst hDs13 hDs12 hDs11; unfold dWork; rw [if_neg (by decide), if_neg (by decide), if_neg (by decide), if_neg (by decide), if_neg (by decide), if_neg (by decide), if_neg (by decide), if_neg (by decide), if_neg (by decide), if_neg (by decide), if_neg (by decide), if_neg (by decide)])
  · obtain ⟨i, h, r, o, hi, em, e0, e1, e2, b0, b1, b2, c1, c2, c3, c4, c5⟩ := dtr_all hm ht
    have hd := tr_n (d := 2) (by decide) c1
    have hz : (47 : Int32) = 47 → ¬ dTop D mm = 0 := fun z w => c5 ⟨z, by rw [dTop_eq] at w; rw [show 40 * mm + D 5 (tn mm) - 1 = 40 * mm + (D 5 (tn mm) - 1) by rw [e0, em, show (40 : Int32) = nI 40 from rfl, show (1 : Int32) = nI 1 from rfl, pk_mul, nI_add, pk_sub (by omega), pk_sub (by omega), nI_add]; congr 1; omega]; exact w⟩
    refine lv_aload_n hx hb d_Mod_work_0 rfl (lv_at hl 0 rfl) ?_
    refine lv_iload_n hx hb d_Mod_work_1 rfl (lv_at hl 2 rfl) ?_
    refine kp_V F (c_Mod_takes l Dg a k D 47 _ hP (by unfold okC; decide)) kx_K hK kw_Mod_106 tw3_120 ts_24 (va_recv (ci := 3) (q0 := 0) hK hP rfl rfl) hS d_Mod_work_2 ⟨⟨by decide, by decide⟩, Nat.le_refl _, Nat.le_refl _⟩ rfl hl.1 rfl (Nat.le_of_ble_eq_true rfl) (fun locs hS => ?_)
    refine lv_if_le (tgt := 22) hx hb d_Mod_work_5 (by decide) (fun h9 => absurd h9 (by decide)) (fun _ => ?_)
    refine lv_iload_n hx hb d_Mod_work_8 rfl (lv_at hl 2 rfl) ?_
    refine lv_bipush (v := 90) hx hb d_Mod_work_9 (by decide) ?_
    refine lv_icmp_eq (tgt := 22) hx hb d_Mod_work_11 (by decide) (fun h9 => absurd h9 (by decide)) (fun _ => ?_)
    refine lv_aload_n hx hb d_Mod_work_14 rfl (lv_at hl 0 rfl) ?_
    refine lv_iload_n hx hb d_Mod_work_15 rfl (lv_at hl 1 rfl) ?_
    refine km_Vi (wr := []) F (c_Mod_pop l Dg a k D mm _ hP (hD.weaken (fun _ _ _ _ => trivial)) (dm_in hm) (ix_40 (c := 40) (i := i) (h := h - 1) 40 rfl em (dPop_5 e0 (by omega)) (by omega) (by decide))) kx_K hK kw_Mod_109 tw3_128 ts_26 (va_recv (ci := 3) (q0 := 0) hK hP rfl rfl) hP hD hS hA [0, 1, 2, 3, 4, 5, 6, 7, 8, 9, 10, 11, 12, 13, 14] [] rfl rfl (by decide) (by decide) d_Mod_work_16 ⟨⟨by decide, by decide⟩, Nat.le_refl _, Nat.le_refl _⟩ rfl hl.1 rfl (Nat.le_of_ble_eq_true rfl) (fun H locs hP hD hS => ?_)
    have hP : va_P Dg classes (wD a k (dPop D mm)) H := hP
    have hD : va_D (va_A (wD a k D) s.heap.size) (wD a k (dPop D mm)) := hD
    obtain ⟨Ds14, hDs14⟩ : ∃ z9, z9 = (dPop D mm) := ⟨_, rfl⟩
    rw [← hDs14] at hP hD
    refine lv_goto (tgt := 23) hx hb d_Mod_work_19 (by decide) ?_
    refine lv_istore hx hb d_Mod_work_23 hl (by decide) rfl (fun ls hl => ?_)
    have hl : lv_has ls 6 [(4, .int (dTop D mm)), (0, .ref (a 0)), (1, .int mm), (2, .int 47), (3, .int n)] := hl
    refine lv_aload_n hx hb d_Mod_work_25 rfl (lv_at hl 1 rfl) ?_
    refine lv_iload_n hx hb d_Mod_work_26 rfl (lv_at hl 3 rfl) ?_
    refine kp_V F (c_Mod_takes l Dg a k Ds14 47 _ hP (by unfold okC; decide)) kx_K hK kw_Mod_106 tw3_120 ts_24 (va_recv (ci := 3) (q0 := 0) hK hP rfl rfl) hS d_Mod_work_27 ⟨⟨by decide, by decide⟩, Nat.le_refl _, Nat.le_refl _⟩ rfl hl.1 rfl (Nat.le_of_ble_eq_true rfl) (fun locs hS => ?_)
    refine lv_iconst (v := 2) hx hb d_Mod_work_30 (by decide) ?_
    refine lv_icmp_ne (tgt := 42) hx hb d_Mod_work_31 (by decide) (fun h9 => absurd (by decide) h9) (fun _ => ?_)
    refine lv_aload_n hx hb d_Mod_work_34 rfl (lv_at hl 1 rfl) ?_
    refine lv_iload_n hx hb d_Mod_work_35 rfl (lv_at hl 2 rfl) ?_
    refine km_Vi (wr := []) F (c_Mod_pop l Dg a k Ds14 mm _ hP (hD.weaken (fun _ _ _ _ => trivial)) (dm_in hm) (ix_40 (c := 40) (i := i) (h := (h - 1) - 1) 40 rfl em (dPop_5 (by rw [hDs14]; exact dPop_5 e0 (by omega)) (by omega)) (by omega) (by decide))) kx_K hK kw_Mod_109 tw3_128 ts_26 (va_recv (ci := 3) (q0 := 0) hK hP rfl rfl) hP hD hS hA [0, 1, 2, 3, 4, 5, 6, 7, 8, 9, 10, 11, 12, 13, 14] [] rfl rfl (by decide) (by decide) d_Mod_work_36 ⟨⟨by decide, by decide⟩, Nat.le_refl _, Nat.le_refl _⟩ rfl hl.1 rfl (Nat.le_of_ble_eq_true rfl) (fun H locs hP hD hS => ?_)
    have hP : va_P Dg classes (wD a k (dPop Ds14 mm)) H := hP
    have hD : va_D (va_A (wD a k D) s.heap.size) (wD a k (dPop Ds14 mm)) := hD
    obtain ⟨Ds15, hDs15⟩ : ∃ z9, z9 = (dPop Ds14 mm) := ⟨_, rfl⟩
    rw [← hDs15] at hP hD
    refine lv_goto (tgt := 43) hx hb d_Mod_work_39 (by decide) ?_
    refine lv_istore hx hb d_Mod_work_43 hl (by decide) rfl (fun ls hl => ?_)
    have hl : lv_has ls 6 [(5, .int (dTop Ds14 mm)), (4, .int (dTop D mm)), (0, .ref (a 0)), (1, .int mm), (2, .int 47), (3, .int n)] := hl
    refine lv_iload_n hx hb d_Mod_work_45 rfl (lv_at hl 4 rfl) ?_
    refine kp_S F (c_Mod_isPlain l Dg k 47 _ ) kx_K hK kw_Mod_57 tw3_54 hS d_Mod_work_46 ⟨⟨by decide, by decide⟩, Nat.le_refl _, Nat.le_refl _⟩ rfl hl.1 rfl (Nat.le_of_ble_eq_true rfl) (fun locs hS => ?_)
    refine lv_if_eq (tgt := 65) hx hb d_Mod_work_49 (by decide) (fun h9 => absurd h9 (by decide)) (fun _ => ?_)
    refine lv_aload_n hx hb d_Mod_work_52 rfl (lv_at hl 2 rfl) ?_
    refine lv_iload_n hx hb d_Mod_work_53 rfl (lv_at hl 3 rfl) ?_
    refine lv_iload_n hx hb d_Mod_work_54 rfl (lv_at hl 4 rfl) ?_
    refine lv_iload hx hb d_Mod_work_55 (lv_at hl 0 rfl) ?_
    refine lv_iload hx hb d_Mod_work_57 (lv_at hl 1 rfl) ?_
    refine kp_S F (c_Mod_reckon l Dg k 47 (dTop Ds14 mm) (dTop D mm) _ (by decide) hz) kx_K hK kw_Mod_112 tw3_131 hS d_Mod_work_59 ⟨⟨by decide, by decide⟩, Nat.le_refl _, Nat.le_refl _⟩ rfl hl.1 rfl (Nat.le_of_ble_eq_true rfl) (fun locs hS => ?_)
    refine km_Vv (wr := []) F (c_Mod_push l Dg a k Ds15 mm (sRes 47 (dTop Ds14 mm) (dTop D mm)) _ hP (hD.weaken (fun _ _ _ _ => trivial)) (dm_in hm) (ix_40 (c := 40) (i := i) (h := ((h - 1) - 1)) 40 rfl em (by rw [hDs15]; exact dPop_5 (by rw [hDs14]; exact dPop_5 e0 (by omega)) (by omega)) (by omega) (by decide))) kx_K hK kw_Mod_116 tw3_135 ts_27 (va_recv (ci := 3) (q0 := 0) hK hP rfl rfl) hP hD hS hA [0, 1, 2, 3, 4, 5, 6, 7, 8, 9, 10, 11, 12, 13, 14] [] rfl rfl (by decide) (by decide) d_Mod_work_62 ⟨⟨by decide, by decide⟩, Nat.le_refl _, Nat.le_refl _⟩ rfl hl.1 rfl (Nat.le_of_ble_eq_true rfl) (fun H locs hP hD hS => ?_)
    have hP : va_P Dg classes (wD a k (dPush Ds15 mm (sRes 47 (dTop Ds14 mm) (dTop D mm)))) H := hP
    have hD : va_D (va_A (wD a k D) s.heap.size) (wD a k (dPush Ds15 mm (sRes 47 (dTop Ds14 mm) (dTop D mm)))) := hD
    obtain ⟨Ds16, hDs16⟩ : ∃ z9, z9 = (dPush Ds15 mm (sRes 47 (dTop Ds14 mm) (dTop D mm))) := ⟨_, rfl⟩
    rw [← hDs16] at hP hD
    refine lv_iload_n hx hb d_Mod_work_65 rfl (lv_at hl 4 rfl) ?_
    refine lv_bipush (v := 80) hx hb d_Mod_work_66 (by decide) ?_
    refine lv_icmp_ne (tgt := 77) hx hb d_Mod_work_68 (by decide) (fun _ => ?_) (fun h9 => absurd h9 (by decide))
    refine lv_iload_n hx hb d_Mod_work_77 rfl (lv_at hl 4 rfl) ?_
    refine lv_bipush (v := 76) hx hb d_Mod_work_78 (by decide) ?_
    refine lv_icmp_ne (tgt := 99) hx hb d_Mod_work_80 (by decide) (fun _ => ?_) (fun h9 => absurd h9 (by decide))
    refine lv_iload_n hx hb d_Mod_work_99 rfl (lv_at hl 4 rfl) ?_
    refine lv_bipush (v := 83) hx hb d_Mod_work_100 (by decide) ?_
    refine lv_icmp_ne (tgt := 118) hx hb d_Mod_work_102 (by decide) (fun _ => ?_) (fun h9 => absurd h9 (by decide))
    refine lv_iload_n hx hb d_Mod_work_118 rfl (lv_at hl 4 rfl) ?_
    refine lv_bipush (v := 79) hx hb d_Mod_work_119 (by decide) ?_
    refine lv_icmp_ne (tgt := 131) hx hb d_Mod_work_121 (by decide) (fun _ => ?_) (fun h9 => absurd h9 (by decide))
    refine lv_iload_n hx hb d_Mod_work_131 rfl (lv_at hl 4 rfl) ?_
    refine lv_bipush (v := 68) hx hb d_Mod_work_132 (by decide) ?_
    refine lv_icmp_eq (tgt := 143) hx hb d_Mod_work_134 (by decide) (fun h9 => absurd h9 (by decide)) (fun _ => ?_)
    refine lv_iload_n hx hb d_Mod_work_137 rfl (lv_at hl 4 rfl) ?_
    refine lv_bipush (v := 88) hx hb d_Mod_work_138 (by decide) ?_
    refine lv_icmp_ne (tgt := 150) hx hb d_Mod_work_140 (by decide) (fun _ => ?_) (fun h9 => absurd h9 (by decide))
    refine lv_iload_n hx hb d_Mod_work_150 rfl (lv_at hl 4 rfl) ?_
    refine lv_bipush (v := 68) hx hb d_Mod_work_151 (by decide) ?_
    refine lv_icmp_ne (tgt := 163) hx hb d_Mod_work_153 (by decide) (fun _ => ?_) (fun h9 => absurd h9 (by decide))
    refine lv_iload_n hx hb d_Mod_work_163 rfl (lv_at hl 4 rfl) ?_
    refine lv_bipush (v := 88) hx hb d_Mod_work_164 (by decide) ?_
    refine lv_icmp_ne (tgt := 176) hx hb d_Mod_work_166 (by decide) (fun _ => ?_) (fun h9 => absurd h9 (by decide))
    exact km_v F hlocks hret hP hD hS d_Mod_work_176 (by subst hDs16 hDs15 hDs14; unfold dWork; rw [if_neg (by decide), if_neg (by decide), if_neg (by decide), if_neg (by decide), if_neg (by decide), if_neg (by decide), if_neg (by decide), if_neg (by decide), if_neg (by decide), if_neg (by decide), if_neg (by decide), if_neg (by decide)])
  · obtain ⟨i, h, r, o, hi, em, e0, e1, e2, b0, b1, b2, c1, c2, c3, c4, c5⟩ := dtr_all hm ht
    have hd := tr_n (d := 2) (by decide) c1
    have hz : (60 : Int32) = 47 → ¬ dTop D mm = 0 := fun z w => c5 ⟨z, by rw [dTop_eq] at w; rw [show 40 * mm + D 5 (tn mm) - 1 = 40 * mm + (D 5 (tn mm) - 1) by rw [e0, em, show (40 : Int32) = nI 40 from rfl, show (1 : Int32) = nI 1 from rfl, pk_mul, nI_add, pk_sub (by omega), pk_sub (by omega), nI_add]; congr 1; omega]; exact w⟩
    refine lv_aload_n hx hb d_Mod_work_0 rfl (lv_at hl 0 rfl) ?_
    refine lv_iload_n hx hb d_Mod_work_1 rfl (lv_at hl 2 rfl) ?_
    refine kp_V F (c_Mod_takes l Dg a k D 60 _ hP (by unfold okC; decide)) kx_K hK kw_Mod_106 tw3_120 ts_24 (va_recv (ci := 3) (q0 := 0) hK hP rfl rfl) hS d_Mod_work_2 ⟨⟨by decide, by decide⟩, Nat.le_refl _, Nat.le_refl _⟩ rfl hl.1 rfl (Nat.le_of_ble_eq_true rfl) (fun locs hS => ?_)
    refine lv_if_le (tgt := 22) hx hb d_Mod_work_5 (by decide) (fun h9 => absurd h9 (by decide)) (fun _ => ?_)
    refine lv_iload_n hx hb d_Mod_work_8 rfl (lv_at hl 2 rfl) ?_
    refine lv_bipush (v := 90) hx hb d_Mod_work_9 (by decide) ?_
    refine lv_icmp_eq (tgt := 22) hx hb d_Mod_work_11 (by decide) (fun h9 => absurd h9 (by decide)) (fun _ => ?_)
    refine lv_aload_n hx hb d_Mod_work_14 rfl (lv_at hl 0 rfl) ?_
    refine lv_iload_n hx hb d_Mod_work_15 rfl (lv_at hl 1 rfl) ?_
    refine km_Vi (wr := []) F (c_Mod_pop l Dg a k D mm _ hP (hD.weaken (fun _ _ _ _ => trivial)) (dm_in hm) (ix_40 (c := 40) (i := i) (h := h - 1) 40 rfl em (dPop_5 e0 (by omega)) (by omega) (by decide))) kx_K hK kw_Mod_109 tw3_128 ts_26 (va_recv (ci := 3) (q0 := 0) hK hP rfl rfl) hP hD hS hA [0, 1, 2, 3, 4, 5, 6, 7, 8, 9, 10, 11, 12, 13, 14] [] rfl rfl (by decide) (by decide) d_Mod_work_16 ⟨⟨by decide, by decide⟩, Nat.le_refl _, Nat.le_refl _⟩ rfl hl.1 rfl (Nat.le_of_ble_eq_true rfl) (fun H locs hP hD hS => ?_)
    have hP : va_P Dg classes (wD a k (dPop D mm)) H := hP
    have hD : va_D (va_A (wD a k D) s.heap.size) (wD a k (dPop D mm)) := hD
    obtain ⟨Ds17, hDs17⟩ : ∃ z9, z9 = (dPop D mm) := ⟨_, rfl⟩
    rw [← hDs17] at hP hD
    refine lv_goto (tgt := 23) hx hb d_Mod_work_19 (by decide) ?_
    refine lv_istore hx hb d_Mod_work_23 hl (by decide) rfl (fun ls hl => ?_)
    have hl : lv_has ls 6 [(4, .int (dTop D mm)), (0, .ref (a 0)), (1, .int mm), (2, .int 60), (3, .int n)] := hl
    refine lv_aload_n hx hb d_Mod_work_25 rfl (lv_at hl 1 rfl) ?_
    refine lv_iload_n hx hb d_Mod_work_26 rfl (lv_at hl 3 rfl) ?_
    refine kp_V F (c_Mod_takes l Dg a k Ds17 60 _ hP (by unfold okC; decide)) kx_K hK kw_Mod_106 tw3_120 ts_24 (va_recv (ci := 3) (q0 := 0) hK hP rfl rfl) hS d_Mod_work_27 ⟨⟨by decide, by decide⟩, Nat.le_refl _, Nat.le_refl _⟩ rfl hl.1 rfl (Nat.le_of_ble_eq_true rfl) (fun locs hS => ?_)
    refine lv_iconst (v := 2) hx hb d_Mod_work_30 (by decide) ?_
    refine lv_icmp_ne (tgt := 42) hx hb d_Mod_work_31 (by decide) (fun h9 => absurd (by decide) h9) (fun _ => ?_)
    refine lv_aload_n hx hb d_Mod_work_34 rfl (lv_at hl 1 rfl) ?_
    refine lv_iload_n hx hb d_Mod_work_35 rfl (lv_at hl 2 rfl) ?_
    refine km_Vi (wr := []) F (c_Mod_pop l Dg a k Ds17 mm _ hP (hD.weaken (fun _ _ _ _ => trivial)) (dm_in hm) (ix_40 (c := 40) (i := i) (h := (h - 1) - 1) 40 rfl em (dPop_5 (by rw [hDs17]; exact dPop_5 e0 (by omega)) (by omega)) (by omega) (by decide))) kx_K hK kw_Mod_109 tw3_128 ts_26 (va_recv (ci := 3) (q0 := 0) hK hP rfl rfl) hP hD hS hA [0, 1, 2, 3, 4, 5, 6, 7, 8, 9, 10, 11, 12, 13, 14] [] rfl rfl (by decide) (by decide) d_Mod_work_36 ⟨⟨by decide, by decide⟩, Nat.le_refl _, Nat.le_refl _⟩ rfl hl.1 rfl (Nat.le_of_ble_eq_true rfl) (fun H locs hP hD hS => ?_)
    have hP : va_P Dg classes (wD a k (dPop Ds17 mm)) H := hP
    have hD : va_D (va_A (wD a k D) s.heap.size) (wD a k (dPop Ds17 mm)) := hD
    obtain ⟨Ds18, hDs18⟩ : ∃ z9, z9 = (dPop Ds17 mm) := ⟨_, rfl⟩
    rw [← hDs18] at hP hD
    refine lv_goto (tgt := 43) hx hb d_Mod_work_39 (by decide) ?_
    refine lv_istore hx hb d_Mod_work_43 hl (by decide) rfl (fun ls hl => ?_)
    have hl : lv_has ls 6 [(5, .int (dTop Ds17 mm)), (4, .int (dTop D mm)), (0, .ref (a 0)), (1, .int mm), (2, .int 60), (3, .int n)] := hl
    refine lv_iload_n hx hb d_Mod_work_45 rfl (lv_at hl 4 rfl) ?_
    refine kp_S F (c_Mod_isPlain l Dg k 60 _ ) kx_K hK kw_Mod_57 tw3_54 hS d_Mod_work_46 ⟨⟨by decide, by decide⟩, Nat.le_refl _, Nat.le_refl _⟩ rfl hl.1 rfl (Nat.le_of_ble_eq_true rfl) (fun locs hS => ?_)
    refine lv_if_eq (tgt := 65) hx hb d_Mod_work_49 (by decide) (fun h9 => absurd h9 (by decide)) (fun _ => ?_)
    refine lv_aload_n hx hb d_Mod_work_52 rfl (lv_at hl 2 rfl) ?_
    refine lv_iload_n hx hb d_Mod_work_53 rfl (lv_at hl 3 rfl) ?_
    refine lv_iload_n hx hb d_Mod_work_54 rfl (lv_at hl 4 rfl) ?_
    refine lv_iload hx hb d_Mod_work_55 (lv_at hl 0 rfl) ?_
    refine lv_iload hx hb d_Mod_work_57 (lv_at hl 1 rfl) ?_
    refine kp_S F (c_Mod_reckon l Dg k 60 (dTop Ds17 mm) (dTop D mm) _ (by decide) hz) kx_K hK kw_Mod_112 tw3_131 hS d_Mod_work_59 ⟨⟨by decide, by decide⟩, Nat.le_refl _, Nat.le_refl _⟩ rfl hl.1 rfl (Nat.le_of_ble_eq_true rfl) (fun locs hS => ?_)
    refine km_Vv (wr := []) F (c_Mod_push l Dg a k Ds18 mm (sRes 60 (dTop Ds17 mm) (dTop D mm)) _ hP (hD.weaken (fun _ _ _ _ => trivial)) (dm_in hm) (ix_40 (c := 40) (i := i) (h := ((h - 1) - 1)) 40 rfl em (by rw [hDs18]; exact dPop_5 (by rw [hDs17]; exact dPop_5 e0 (by omega)) (by omega)) (by omega) (by decide))) kx_K hK kw_Mod_116 tw3_135 ts_27 (va_recv (ci := 3) (q0 := 0) hK hP rfl rfl) hP hD hS hA [0, 1, 2, 3, 4, 5, 6, 7, 8, 9, 10, 11, 12, 13, 14] [] rfl rfl (by decide) (by decide) d_Mod_work_62 ⟨⟨by decide, by decide⟩, Nat.le_refl _, Nat.le_refl _⟩ rfl hl.1 rfl (Nat.le_of_ble_eq_true rfl) (fun H locs hP hD hS => ?_)
    have hP : va_P Dg classes (wD a k (dPush Ds18 mm (sRes 60 (dTop Ds17 mm) (dTop D mm)))) H := hP
    have hD : va_D (va_A (wD a k D) s.heap.size) (wD a k (dPush Ds18 mm (sRes 60 (dTop Ds17 mm) (dTop D mm)))) := hD
    obtain ⟨Ds19, hDs19⟩ : ∃ z9, z9 = (dPush Ds18 mm (sRes 60 (dTop Ds17 mm) (dTop D mm))) := ⟨_, rfl⟩
    rw [← hDs19] at hP hD
    refine lv_iload_n hx hb d_Mod_work_65 rfl (lv_at hl 4 rfl) ?_
    refine lv_bipush (v := 80) hx hb d_Mod_work_66 (by decide) ?_
    refine lv_icmp_ne (tgt := 77) hx hb d_Mod_work_68 (by decide) (fun _ => ?_) (fun h9 => absurd h9 (by decide))
    refine lv_iload_n hx hb d_Mod_work_77 rfl (lv_at hl 4 rfl) ?_
    refine lv_bipush (v := 76) hx hb d_Mod_work_78 (by decide) ?_
    refine lv_icmp_ne (tgt := 99) hx hb d_Mod_work_80 (by decide) (fun _ => ?_) (fun h9 => absurd h9 (by decide))
    refine lv_iload_n hx hb d_Mod_work_99 rfl (lv_at hl 4 rfl) ?_
    refine lv_bipush (v := 83) hx hb d_Mod_work_100 (by decide) ?_
    refine lv_icmp_ne (tgt := 118) hx hb d_Mod_work_102 (by decide) (fun _ => ?_) (fun h9 => absurd h9 (by decide))
    refine lv_iload_n hx hb d_Mod_work_118 rfl (lv_at hl 4 rfl) ?_
    refine lv_bipush (v := 79) hx hb d_Mod_work_119 (by decide) ?_
    refine lv_icmp_ne (tgt := 131) hx hb d_Mod_work_121 (by decide) (fun _ => ?_) (fun h9 => absurd h9 (by decide))
    refine lv_iload_n hx hb d_Mod_work_131 rfl (lv_at hl 4 rfl) ?_
    refine lv_bipush (v := 68) hx hb d_Mod_work_132 (by decide) ?_
    refine lv_icmp_eq (tgt := 143) hx hb d_Mod_work_134 (by decide) (fun h9 => absurd h9 (by decide)) (fun _ => ?_)
    refine lv_iload_n hx hb d_Mod_work_137 rfl (lv_at hl 4 rfl) ?_
    refine lv_bipush (v := 88) hx hb d_Mod_work_138 (by decide) ?_
    refine lv_icmp_ne (tgt := 150) hx hb d_Mod_work_140 (by decide) (fun _ => ?_) (fun h9 => absurd h9 (by decide))
    refine lv_iload_n hx hb d_Mod_work_150 rfl (lv_at hl 4 rfl) ?_
    refine lv_bipush (v := 68) hx hb d_Mod_work_151 (by decide) ?_
    refine lv_icmp_ne (tgt := 163) hx hb d_Mod_work_153 (by decide) (fun _ => ?_) (fun h9 => absurd h9 (by decide))
    refine lv_iload_n hx hb d_Mod_work_163 rfl (lv_at hl 4 rfl) ?_
    refine lv_bipush (v := 88) hx hb d_Mod_work_164 (by decide) ?_
    refine lv_icmp_ne (tgt := 176) hx hb d_Mod_work_166 (by decide) (fun _ => ?_) (fun h9 => absurd h9 (by decide))
    exact km_v F hlocks hret hP hD hS d_Mod_work_176 (by subst hDs19 hDs18 hDs17; unfold dWork; rw [if_neg (by decide), if_neg (by decide), if_neg (by decide), if_neg (by decide), if_neg (by decide), if_neg (by decide), if_neg (by decide), if_neg (by decide), if_neg (by decide), if_neg (by decide), if_neg (by decide), if_neg (by decide)])
  · obtain ⟨i, h, r, o, hi, em, e0, e1, e2, b0, b1, b2, c1, c2, c3, c4, c5⟩ := dtr_all hm ht
    have hd := tr_n (d := 2) (by decide) c1
    have hz : (61 : Int32) = 47 → ¬ dTop D mm = 0 := fun z w => c5 ⟨z, by rw [dTop_eq] at w; rw [show 40 * mm + D 5 (tn mm) - 1 = 40 * mm + (D 5 (tn mm) - 1) by rw [e0, em, show (40 : Int32) = nI 40 from rfl, show (1 : Int32) = nI 1 from rfl, pk_mul, nI_add, pk_sub (by omega), pk_sub (by omega), nI_add]; congr 1; omega]; exact w⟩
    refine lv_aload_n hx hb d_Mod_work_0 rfl (lv_at hl 0 rfl) ?_
    refine lv_iload_n hx hb d_Mod_work_1 rfl (lv_at hl 2 rfl) ?_
    refine kp_V F (c_Mod_takes l Dg a k D 61 _ hP (by unfold okC; decide)) kx_K hK kw_Mod_106 tw3_120 ts_24 (va_recv (ci := 3) (q0 := 0) hK hP rfl rfl) hS d_Mod_work_2 ⟨⟨by decide, by decide⟩, Nat.le_refl _, Nat.le_refl _⟩ rfl hl.1 rfl (Nat.le_of_ble_eq_true rfl) (fun locs hS => ?_)
    refine lv_if_le (tgt := 22) hx hb d_Mod_work_5 (by decide) (fun h9 => absurd h9 (by decide)) (fun _ => ?_)
    refine lv_iload_n hx hb d_Mod_work_8 rfl (lv_at hl 2 rfl) ?_
    refine lv_bipush (v := 90) hx hb d_Mod_work_9 (by decide) ?_
    refine lv_icmp_eq (tgt := 22) hx hb d_Mod_work_11 (by decide) (fun h9 => absurd h9 (by decide)) (fun _ => ?_)
    refine lv_aload_n hx hb d_Mod_work_14 rfl (lv_at hl 0 rfl) ?_
    refine lv_iload_n hx hb d_Mod_work_15 rfl (lv_at hl 1 rfl) ?_
    refine km_Vi (wr := []) F (c_Mod_pop l Dg a k D mm _ hP (hD.weaken (fun _ _ _ _ => trivial)) (dm_in hm) (ix_40 (c := 40) (i := i) (h := h - 1) 40 rfl em (dPop_5 e0 (by omega)) (by omega) (by decide))) kx_K hK kw_Mod_109 tw3_128 ts_26 (va_recv (ci := 3) (q0 := 0) hK hP rfl rfl) hP hD hS hA [0, 1, 2, 3, 4, 5, 6, 7, 8, 9, 10, 11, 12, 13, 14] [] rfl rfl (by decide) (by decide) d_Mod_work_16 ⟨⟨by decide, by decide⟩, Nat.le_refl _, Nat.le_refl _⟩ rfl hl.1 rfl (Nat.le_of_ble_eq_true rfl) (fun H locs hP hD hS => ?_)
    have hP : va_P Dg classes (wD a k (dPop D mm)) H := hP
    have hD : va_D (va_A (wD a k D) s.heap.size) (wD a k (dPop D mm)) := hD
    obtain ⟨Ds20, hDs20⟩ : ∃ z9, z9 = (dPop D mm) := ⟨_, rfl⟩
    rw [← hDs20] at hP hD
    refine lv_goto (tgt := 23) hx hb d_Mod_work_19 (by decide) ?_
    refine lv_istore hx hb d_Mod_work_23 hl (by decide) rfl (fun ls hl => ?_)
    have hl : lv_has ls 6 [(4, .int (dTop D mm)), (0, .ref (a 0)), (1, .int mm), (2, .int 61), (3, .int n)] := hl
    refine lv_aload_n hx hb d_Mod_work_25 rfl (lv_at hl 1 rfl) ?_
    refine lv_iload_n hx hb d_Mod_work_26 rfl (lv_at hl 3 rfl) ?_
    refine kp_V F (c_Mod_takes l Dg a k Ds20 61 _ hP (by unfold okC; decide)) kx_K hK kw_Mod_106 tw3_120 ts_24 (va_recv (ci := 3) (q0 := 0) hK hP rfl rfl) hS d_Mod_work_27 ⟨⟨by decide, by decide⟩, Nat.le_refl _, Nat.le_refl _⟩ rfl hl.1 rfl (Nat.le_of_ble_eq_true rfl) (fun locs hS => ?_)
    refine lv_iconst (v := 2) hx hb d_Mod_work_30 (by decide) ?_
    refine lv_icmp_ne (tgt := 42) hx hb d_Mod_work_31 (by decide) (fun h9 => absurd (by decide) h9) (fun _ => ?_)
    refine lv_aload_n hx hb d_Mod_work_34 rfl (lv_at hl 1 rfl) ?_
    refine lv_iload_n hx hb d_Mod_work_35 rfl (lv_at hl 2 rfl) ?_
    refine km_Vi (wr := []) F (c_Mod_pop l Dg a k Ds20 mm _ hP (hD.weaken (fun _ _ _ _ => trivial)) (dm_in hm) (ix_40 (c := 40) (i := i) (h := (h - 1) - 1) 40 rfl em (dPop_5 (by rw [hDs20]; exact dPop_5 e0 (by omega)) (by omega)) (by omega) (by decide))) kx_K hK kw_Mod_109 tw3_128 ts_26 (va_recv (ci := 3) (q0 := 0) hK hP rfl rfl) hP hD hS hA [0, 1, 2, 3, 4, 5, 6, 7, 8, 9, 10, 11, 12, 13, 14] [] rfl rfl (by decide) (by decide) d_Mod_work_36 ⟨⟨by decide, by decide⟩, Nat.le_refl _, Nat.le_refl _⟩ rfl hl.1 rfl (Nat.le_of_ble_eq_true rfl) (fun H locs hP hD hS => ?_)
    have hP : va_P Dg classes (wD a k (dPop Ds20 mm)) H := hP
    have hD : va_D (va_A (wD a k D) s.heap.size) (wD a k (dPop Ds20 mm)) := hD
    obtain ⟨Ds21, hDs21⟩ : ∃ z9, z9 = (dPop Ds20 mm) := ⟨_, rfl⟩
    rw [← hDs21] at hP hD
    refine lv_goto (tgt := 43) hx hb d_Mod_work_39 (by decide) ?_
    refine lv_istore hx hb d_Mod_work_43 hl (by decide) rfl (fun ls hl => ?_)
    have hl : lv_has ls 6 [(5, .int (dTop Ds20 mm)), (4, .int (dTop D mm)), (0, .ref (a 0)), (1, .int mm), (2, .int 61), (3, .int n)] := hl
    refine lv_iload_n hx hb d_Mod_work_45 rfl (lv_at hl 4 rfl) ?_
    refine kp_S F (c_Mod_isPlain l Dg k 61 _ ) kx_K hK kw_Mod_57 tw3_54 hS d_Mod_work_46 ⟨⟨by decide, by decide⟩, Nat.le_refl _, Nat.le_refl _⟩ rfl hl.1 rfl (Nat.le_of_ble_eq_true rfl) (fun locs hS => ?_)
    refine lv_if_eq (tgt := 65) hx hb d_Mod_work_49 (by decide) (fun h9 => absurd h9 (by decide)) (fun _ => ?_)
    refine lv_aload_n hx hb d_Mod_work_52 rfl (lv_at hl 2 rfl) ?_
    refine lv_iload_n hx hb d_Mod_work_53 rfl (lv_at hl 3 rfl) ?_
    refine lv_iload_n hx hb d_Mod_work_54 rfl (lv_at hl 4 rfl) ?_
    refine lv_iload hx hb d_Mod_work_55 (lv_at hl 0 rfl) ?_
    refine lv_iload hx hb d_Mod_work_57 (lv_at hl 1 rfl) ?_
    refine kp_S F (c_Mod_reckon l Dg k 61 (dTop Ds20 mm) (dTop D mm) _ (by decide) hz) kx_K hK kw_Mod_112 tw3_131 hS d_Mod_work_59 ⟨⟨by decide, by decide⟩, Nat.le_refl _, Nat.le_refl _⟩ rfl hl.1 rfl (Nat.le_of_ble_eq_true rfl) (fun locs hS => ?_)
    refine km_Vv (wr := []) F (c_Mod_push l Dg a k Ds21 mm (sRes 61 (dTop Ds20 mm) (dTop D mm)) _ hP (hD.weaken (fun _ _ _ _ => trivial)) (dm_in hm) (ix_40 (c := 40) (i := i) (h := ((h - 1) - 1)) 40 rfl em (by rw [hDs21]; exact dPop_5 (by rw [hDs20]; exact dPop_5 e0 (by omega)) (by omega)) (by omega) (by decide))) kx_K hK kw_Mod_116 tw3_135 ts_27 (va_recv (ci := 3) (q0 := 0) hK hP rfl rfl) hP hD hS hA [0, 1, 2, 3, 4, 5, 6, 7, 8, 9, 10, 11, 12, 13, 14] [] rfl rfl (by decide) (by decide) d_Mod_work_62 ⟨⟨by decide, by decide⟩, Nat.le_refl _, Nat.le_refl _⟩ rfl hl.1 rfl (Nat.le_of_ble_eq_true rfl) (fun H locs hP hD hS => ?_)
    have hP : va_P Dg classes (wD a k (dPush Ds21 mm (sRes 61 (dTop Ds20 mm) (dTop D mm)))) H := hP
    have hD : va_D (va_A (wD a k D) s.heap.size) (wD a k (dPush Ds21 mm (sRes 61 (dTop Ds20 mm) (dTop D mm)))) := hD
    obtain ⟨Ds22, hDs22⟩ : ∃ z9, z9 = (dPush Ds21 mm (sRes 61 (dTop Ds20 mm) (dTop D mm))) := ⟨_, rfl⟩
    rw [← hDs22] at hP hD
    refine lv_iload_n hx hb d_Mod_work_65 rfl (lv_at hl 4 rfl) ?_
    refine lv_bipush (v := 80) hx hb d_Mod_work_66 (by decide) ?_
    refine lv_icmp_ne (tgt := 77) hx hb d_Mod_work_68 (by decide) (fun _ => ?_) (fun h9 => absurd h9 (by decide))
    refine lv_iload_n hx hb d_Mod_work_77 rfl (lv_at hl 4 rfl) ?_
    refine lv_bipush (v := 76) hx hb d_Mod_work_78 (by decide) ?_
    refine lv_icmp_ne (tgt := 99) hx hb d_Mod_work_80 (by decide) (fun _ => ?_) (fun h9 => absurd h9 (by decide))
    refine lv_iload_n hx hb d_Mod_work_99 rfl (lv_at hl 4 rfl) ?_
    refine lv_bipush (v := 83) hx hb d_Mod_work_100 (by decide) ?_
    refine lv_icmp_ne (tgt := 118) hx hb d_Mod_work_102 (by decide) (fun _ => ?_) (fun h9 => absurd h9 (by decide))
    refine lv_iload_n hx hb d_Mod_work_118 rfl (lv_at hl 4 rfl) ?_
    refine lv_bipush (v := 79) hx hb d_Mod_work_119 (by decide) ?_
    refine lv_icmp_ne (tgt := 131) hx hb d_Mod_work_121 (by decide) (fun _ => ?_) (fun h9 => absurd h9 (by decide))
    refine lv_iload_n hx hb d_Mod_work_131 rfl (lv_at hl 4 rfl) ?_
    refine lv_bipush (v := 68) hx hb d_Mod_work_132 (by decide) ?_
    refine lv_icmp_eq (tgt := 143) hx hb d_Mod_work_134 (by decide) (fun h9 => absurd h9 (by decide)) (fun _ => ?_)
    refine lv_iload_n hx hb d_Mod_work_137 rfl (lv_at hl 4 rfl) ?_
    refine lv_bipush (v := 88) hx hb d_Mod_work_138 (by decide) ?_
    refine lv_icmp_ne (tgt := 150) hx hb d_Mod_work_140 (by decide) (fun _ => ?_) (fun h9 => absurd h9 (by decide))
    refine lv_iload_n hx hb d_Mod_work_150 rfl (lv_at hl 4 rfl) ?_
    refine lv_bipush (v := 68) hx hb d_Mod_work_151 (by decide) ?_
    refine lv_icmp_ne (tgt := 163) hx hb d_Mod_work_153 (by decide) (fun _ => ?_) (fun h9 => absurd h9 (by decide))
    refine lv_iload_n hx hb d_Mod_work_163 rfl (lv_at hl 4 rfl) ?_
    refine lv_bipush (v := 88) hx hb d_Mod_work_164 (by decide) ?_
    refine lv_icmp_ne (tgt := 176) hx hb d_Mod_work_166 (by decide) (fun _ => ?_) (fun h9 => absurd h9 (by decide))
    exact km_v F hlocks hret hP hD hS d_Mod_work_176 (by subst hDs22 hDs21 hDs20; unfold dWork; rw [if_neg (by decide), if_neg (by decide), if_neg (by decide), if_neg (by decide), if_neg (by decide), if_neg (by decide), if_neg (by decide), if_neg (by decide), if_neg (by decide), if_neg (by decide), if_neg (by decide), if_neg (by decide)])
  · obtain ⟨i, h, r, o, hi, em, e0, e1, e2, b0, b1, b2, c1, c2, c3, c4, c5⟩ := dtr_all hm ht
    have hd := tr_n (d := 1) (by decide) c1
    have h40 : h < 40 := by rcases Nat.lt_or_ge h 40 with q | q; exact q; exact absurd ⟨by decide, by omega⟩ c3
    refine lv_aload_n hx hb d_Mod_work_0 rfl (lv_at hl 0 rfl) ?_
    refine lv_iload_n hx hb d_Mod_work_1 rfl (lv_at hl 2 rfl) ?_
    refine kp_V F (c_Mod_takes l Dg a k D 68 _ hP (by unfold okC; decide)) kx_K hK kw_Mod_106 tw3_120 ts_24 (va_recv (ci := 3) (q0 := 0) hK hP rfl rfl) hS d_Mod_work_2 ⟨⟨by decide, by decide⟩, Nat.le_refl _, Nat.le_refl _⟩ rfl hl.1 rfl (Nat.le_of_ble_eq_true rfl) (fun locs hS => ?_)
    refine lv_if_le (tgt := 22) hx hb d_Mod_work_5 (by decide) (fun h9 => absurd h9 (by decide)) (fun _ => ?_)
    refine lv_iload_n hx hb d_Mod_work_8 rfl (lv_at hl 2 rfl) ?_
    refine lv_bipush (v := 90) hx hb d_Mod_work_9 (by decide) ?_
    refine lv_icmp_eq (tgt := 22) hx hb d_Mod_work_11 (by decide) (fun h9 => absurd h9 (by decide)) (fun _ => ?_)
    refine lv_aload_n hx hb d_Mod_work_14 rfl (lv_at hl 0 rfl) ?_
    refine lv_iload_n hx hb d_Mod_work_15 rfl (lv_at hl 1 rfl) ?_
    refine km_Vi (wr := []) F (c_Mod_pop l Dg a k D mm _ hP (hD.weaken (fun _ _ _ _ => trivial)) (dm_in hm) (ix_40 (c := 40) (i := i) (h := h - 1) 40 rfl em (dPop_5 e0 (by omega)) (by omega) (by decide))) kx_K hK kw_Mod_109 tw3_128 ts_26 (va_recv (ci := 3) (q0 := 0) hK hP rfl rfl) hP hD hS hA [0, 1, 2, 3, 4, 5, 6, 7, 8, 9, 10, 11, 12, 13, 14] [] rfl rfl (by decide) (by decide) d_Mod_work_16 ⟨⟨by decide, by decide⟩, Nat.le_refl _, Nat.le_refl _⟩ rfl hl.1 rfl (Nat.le_of_ble_eq_true rfl) (fun H locs hP hD hS => ?_)
    have hP : va_P Dg classes (wD a k (dPop D mm)) H := hP
    have hD : va_D (va_A (wD a k D) s.heap.size) (wD a k (dPop D mm)) := hD
    obtain ⟨Ds23, hDs23⟩ : ∃ z9, z9 = (dPop D mm) := ⟨_, rfl⟩
    rw [← hDs23] at hP hD
    refine lv_goto (tgt := 23) hx hb d_Mod_work_19 (by decide) ?_
    refine lv_istore hx hb d_Mod_work_23 hl (by decide) rfl (fun ls hl => ?_)
    have hl : lv_has ls 6 [(4, .int (dTop D mm)), (0, .ref (a 0)), (1, .int mm), (2, .int 68), (3, .int n)] := hl
    refine lv_aload_n hx hb d_Mod_work_25 rfl (lv_at hl 1 rfl) ?_
    refine lv_iload_n hx hb d_Mod_work_26 rfl (lv_at hl 3 rfl) ?_
    refine kp_V F (c_Mod_takes l Dg a k Ds23 68 _ hP (by unfold okC; decide)) kx_K hK kw_Mod_106 tw3_120 ts_24 (va_recv (ci := 3) (q0 := 0) hK hP rfl rfl) hS d_Mod_work_27 ⟨⟨by decide, by decide⟩, Nat.le_refl _, Nat.le_refl _⟩ rfl hl.1 rfl (Nat.le_of_ble_eq_true rfl) (fun locs hS => ?_)
    refine lv_iconst (v := 2) hx hb d_Mod_work_30 (by decide) ?_
    refine lv_icmp_ne (tgt := 42) hx hb d_Mod_work_31 (by decide) (fun _ => ?_) (fun h9 => absurd h9 (by decide))
    refine lv_iconst (v := 0) hx hb d_Mod_work_42 (by decide) ?_
    refine lv_istore hx hb d_Mod_work_43 hl (by decide) rfl (fun ls hl => ?_)
    have hl : lv_has ls 6 [(5, .int 0), (4, .int (dTop D mm)), (0, .ref (a 0)), (1, .int mm), (2, .int 68), (3, .int n)] := hl
    refine lv_iload_n hx hb d_Mod_work_45 rfl (lv_at hl 4 rfl) ?_
    refine kp_S F (c_Mod_isPlain l Dg k 68 _ ) kx_K hK kw_Mod_57 tw3_54 hS d_Mod_work_46 ⟨⟨by decide, by decide⟩, Nat.le_refl _, Nat.le_refl _⟩ rfl hl.1 rfl (Nat.le_of_ble_eq_true rfl) (fun locs hS => ?_)
    refine lv_if_eq (tgt := 65) hx hb d_Mod_work_49 (by decide) (fun _ => ?_) (fun h9 => absurd (by decide) h9)
    refine lv_iload_n hx hb d_Mod_work_65 rfl (lv_at hl 4 rfl) ?_
    refine lv_bipush (v := 80) hx hb d_Mod_work_66 (by decide) ?_
    refine lv_icmp_ne (tgt := 77) hx hb d_Mod_work_68 (by decide) (fun _ => ?_) (fun h9 => absurd h9 (by decide))
    refine lv_iload_n hx hb d_Mod_work_77 rfl (lv_at hl 4 rfl) ?_
    refine lv_bipush (v := 76) hx hb d_Mod_work_78 (by decide) ?_
    refine lv_icmp_ne (tgt := 99) hx hb d_Mod_work_80 (by decide) (fun _ => ?_) (fun h9 => absurd h9 (by decide))
    refine lv_iload_n hx hb d_Mod_work_99 rfl (lv_at hl 4 rfl) ?_
    refine lv_bipush (v := 83) hx hb d_Mod_work_100 (by decide) ?_
    refine lv_icmp_ne (tgt := 118) hx hb d_Mod_work_102 (by decide) (fun _ => ?_) (fun h9 => absurd h9 (by decide))
    refine lv_iload_n hx hb d_Mod_work_118 rfl (lv_at hl 4 rfl) ?_
    refine lv_bipush (v := 79) hx hb d_Mod_work_119 (by decide) ?_
    refine lv_icmp_ne (tgt := 131) hx hb d_Mod_work_121 (by decide) (fun _ => ?_) (fun h9 => absurd h9 (by decide))
    refine lv_iload_n hx hb d_Mod_work_131 rfl (lv_at hl 4 rfl) ?_
    refine lv_bipush (v := 68) hx hb d_Mod_work_132 (by decide) ?_
    refine lv_icmp_eq (tgt := 143) hx hb d_Mod_work_134 (by decide) (fun _ => ?_) (fun h9 => absurd (by decide) h9)
    refine lv_aload_n hx hb d_Mod_work_143 rfl (lv_at hl 2 rfl) ?_
    refine lv_iload_n hx hb d_Mod_work_144 rfl (lv_at hl 3 rfl) ?_
    refine lv_iload hx hb d_Mod_work_145 (lv_at hl 1 rfl) ?_
    refine km_Vv (wr := []) F (c_Mod_push l Dg a k Ds23 mm (dTop D mm) _ hP (hD.weaken (fun _ _ _ _ => trivial)) (dm_in hm) (ix_40 (c := 40) (i := i) (h := (h - 1)) 40 rfl em (by rw [hDs23]; exact dPop_5 e0 (by omega)) (by omega) (by decide))) kx_K hK kw_Mod_116 tw3_135 ts_27 (va_recv (ci := 3) (q0 := 0) hK hP rfl rfl) hP hD hS hA [0, 1, 2, 3, 4, 5, 6, 7, 8, 9, 10, 11, 12, 13, 14] [] rfl rfl (by decide) (by decide) d_Mod_work_147 ⟨⟨by decide, by decide⟩, Nat.le_refl _, Nat.le_refl _⟩ rfl hl.1 rfl (Nat.le_of_ble_eq_true rfl) (fun H locs hP hD hS => ?_)
    have hP : va_P Dg classes (wD a k (dPush Ds23 mm (dTop D mm))) H := hP
    have hD : va_D (va_A (wD a k D) s.heap.size) (wD a k (dPush Ds23 mm (dTop D mm))) := hD
    obtain ⟨Ds24, hDs24⟩ : ∃ z9, z9 = (dPush Ds23 mm (dTop D mm)) := ⟨_, rfl⟩
    rw [← hDs24] at hP hD
    refine lv_iload_n hx hb d_Mod_work_150 rfl (lv_at hl 4 rfl) ?_
    refine lv_bipush (v := 68) hx hb d_Mod_work_151 (by decide) ?_
    refine lv_icmp_ne (tgt := 163) hx hb d_Mod_work_153 (by decide) (fun h9 => absurd (by decide) h9) (fun _ => ?_)
    refine lv_aload_n hx hb d_Mod_work_156 rfl (lv_at hl 2 rfl) ?_
    refine lv_iload_n hx hb d_Mod_work_157 rfl (lv_at hl 3 rfl) ?_
    refine lv_iload hx hb d_Mod_work_158 (lv_at hl 1 rfl) ?_
    refine km_Vv (wr := []) F (c_Mod_push l Dg a k Ds24 mm (dTop D mm) _ hP (hD.weaken (fun _ _ _ _ => trivial)) (dm_in hm) (ix_40 (c := 40) (i := i) (h := ((h - 1) + 1)) 40 rfl em (by rw [hDs24]; exact dPush_5 (by rw [hDs23]; exact dPop_5 e0 (by omega))) (by omega) (by decide))) kx_K hK kw_Mod_116 tw3_135 ts_27 (va_recv (ci := 3) (q0 := 0) hK hP rfl rfl) hP hD hS hA [0, 1, 2, 3, 4, 5, 6, 7, 8, 9, 10, 11, 12, 13, 14] [] rfl rfl (by decide) (by decide) d_Mod_work_160 ⟨⟨by decide, by decide⟩, Nat.le_refl _, Nat.le_refl _⟩ rfl hl.1 rfl (Nat.le_of_ble_eq_true rfl) (fun H locs hP hD hS => ?_)
    have hP : va_P Dg classes (wD a k (dPush Ds24 mm (dTop D mm))) H := hP
    have hD : va_D (va_A (wD a k D) s.heap.size) (wD a k (dPush Ds24 mm (dTop D mm))) := hD
    obtain ⟨Ds25, hDs25⟩ : ∃ z9, z9 = (dPush Ds24 mm (dTop D mm)) := ⟨_, rfl⟩
    rw [← hDs25] at hP hD
    refine lv_iload_n hx hb d_Mod_work_163 rfl (lv_at hl 4 rfl) ?_
    refine lv_bipush (v := 88) hx hb d_Mod_work_164 (by decide) ?_
    refine lv_icmp_ne (tgt := 176) hx hb d_Mod_work_166 (by decide) (fun _ => ?_) (fun h9 => absurd h9 (by decide))
    exact km_v F hlocks hret hP hD hS d_Mod_work_176 (by subst hDs25 hDs24 hDs23; unfold dWork; rw [if_neg (by decide), if_neg (by decide), if_neg (by decide), if_pos rfl])
  · obtain ⟨i, h, r, o, hi, em, e0, e1, e2, b0, b1, b2, c1, c2, c3, c4, c5⟩ := dtr_all hm ht
    have hd := tr_n (d := 2) (by decide) c1
    refine lv_aload_n hx hb d_Mod_work_0 rfl (lv_at hl 0 rfl) ?_
    refine lv_iload_n hx hb d_Mod_work_1 rfl (lv_at hl 2 rfl) ?_
    refine kp_V F (c_Mod_takes l Dg a k D 88 _ hP (by unfold okC; decide)) kx_K hK kw_Mod_106 tw3_120 ts_24 (va_recv (ci := 3) (q0 := 0) hK hP rfl rfl) hS d_Mod_work_2 ⟨⟨by decide, by decide⟩, Nat.le_refl _, Nat.le_refl _⟩ rfl hl.1 rfl (Nat.le_of_ble_eq_true rfl) (fun locs hS => ?_)
    refine lv_if_le (tgt := 22) hx hb d_Mod_work_5 (by decide) (fun h9 => absurd h9 (by decide)) (fun _ => ?_)
    refine lv_iload_n hx hb d_Mod_work_8 rfl (lv_at hl 2 rfl) ?_
    refine lv_bipush (v := 90) hx hb d_Mod_work_9 (by decide) ?_
    refine lv_icmp_eq (tgt := 22) hx hb d_Mod_work_11 (by decide) (fun h9 => absurd h9 (by decide)) (fun _ => ?_)
    refine lv_aload_n hx hb d_Mod_work_14 rfl (lv_at hl 0 rfl) ?_
    refine lv_iload_n hx hb d_Mod_work_15 rfl (lv_at hl 1 rfl) ?_
    refine km_Vi (wr := []) F (c_Mod_pop l Dg a k D mm _ hP (hD.weaken (fun _ _ _ _ => trivial)) (dm_in hm) (ix_40 (c := 40) (i := i) (h := h - 1) 40 rfl em (dPop_5 e0 (by omega)) (by omega) (by decide))) kx_K hK kw_Mod_109 tw3_128 ts_26 (va_recv (ci := 3) (q0 := 0) hK hP rfl rfl) hP hD hS hA [0, 1, 2, 3, 4, 5, 6, 7, 8, 9, 10, 11, 12, 13, 14] [] rfl rfl (by decide) (by decide) d_Mod_work_16 ⟨⟨by decide, by decide⟩, Nat.le_refl _, Nat.le_refl _⟩ rfl hl.1 rfl (Nat.le_of_ble_eq_true rfl) (fun H locs hP hD hS => ?_)
    have hP : va_P Dg classes (wD a k (dPop D mm)) H := hP
    have hD : va_D (va_A (wD a k D) s.heap.size) (wD a k (dPop D mm)) := hD
    obtain ⟨Ds26, hDs26⟩ : ∃ z9, z9 = (dPop D mm) := ⟨_, rfl⟩
    rw [← hDs26] at hP hD
    refine lv_goto (tgt := 23) hx hb d_Mod_work_19 (by decide) ?_
    refine lv_istore hx hb d_Mod_work_23 hl (by decide) rfl (fun ls hl => ?_)
    have hl : lv_has ls 6 [(4, .int (dTop D mm)), (0, .ref (a 0)), (1, .int mm), (2, .int 88), (3, .int n)] := hl
    refine lv_aload_n hx hb d_Mod_work_25 rfl (lv_at hl 1 rfl) ?_
    refine lv_iload_n hx hb d_Mod_work_26 rfl (lv_at hl 3 rfl) ?_
    refine kp_V F (c_Mod_takes l Dg a k Ds26 88 _ hP (by unfold okC; decide)) kx_K hK kw_Mod_106 tw3_120 ts_24 (va_recv (ci := 3) (q0 := 0) hK hP rfl rfl) hS d_Mod_work_27 ⟨⟨by decide, by decide⟩, Nat.le_refl _, Nat.le_refl _⟩ rfl hl.1 rfl (Nat.le_of_ble_eq_true rfl) (fun locs hS => ?_)
    refine lv_iconst (v := 2) hx hb d_Mod_work_30 (by decide) ?_
    refine lv_icmp_ne (tgt := 42) hx hb d_Mod_work_31 (by decide) (fun h9 => absurd (by decide) h9) (fun _ => ?_)
    refine lv_aload_n hx hb d_Mod_work_34 rfl (lv_at hl 1 rfl) ?_
    refine lv_iload_n hx hb d_Mod_work_35 rfl (lv_at hl 2 rfl) ?_
    refine km_Vi (wr := []) F (c_Mod_pop l Dg a k Ds26 mm _ hP (hD.weaken (fun _ _ _ _ => trivial)) (dm_in hm) (ix_40 (c := 40) (i := i) (h := (h - 1) - 1) 40 rfl em (dPop_5 (by rw [hDs26]; exact dPop_5 e0 (by omega)) (by omega)) (by omega) (by decide))) kx_K hK kw_Mod_109 tw3_128 ts_26 (va_recv (ci := 3) (q0 := 0) hK hP rfl rfl) hP hD hS hA [0, 1, 2, 3, 4, 5, 6, 7, 8, 9, 10, 11, 12, 13, 14] [] rfl rfl (by decide) (by decide) d_Mod_work_36 ⟨⟨by decide, by decide⟩, Nat.le_refl _, Nat.le_refl _⟩ rfl hl.1 rfl (Nat.le_of_ble_eq_true rfl) (fun H locs hP hD hS => ?_)
    have hP : va_P Dg classes (wD a k (dPop Ds26 mm)) H := hP
    have hD : va_D (va_A (wD a k D) s.heap.size) (wD a k (dPop Ds26 mm)) := hD
    obtain ⟨Ds27, hDs27⟩ : ∃ z9, z9 = (dPop Ds26 mm) := ⟨_, rfl⟩
    rw [← hDs27] at hP hD
    refine lv_goto (tgt := 43) hx hb d_Mod_work_39 (by decide) ?_
    refine lv_istore hx hb d_Mod_work_43 hl (by decide) rfl (fun ls hl => ?_)
    have hl : lv_has ls 6 [(5, .int (dTop Ds26 mm)), (4, .int (dTop D mm)), (0, .ref (a 0)), (1, .int mm), (2, .int 88), (3, .int n)] := hl
    refine lv_iload_n hx hb d_Mod_work_45 rfl (lv_at hl 4 rfl) ?_
    refine kp_S F (c_Mod_isPlain l Dg k 88 _ ) kx_K hK kw_Mod_57 tw3_54 hS d_Mod_work_46 ⟨⟨by decide, by decide⟩, Nat.le_refl _, Nat.le_refl _⟩ rfl hl.1 rfl (Nat.le_of_ble_eq_true rfl) (fun locs hS => ?_)
    refine lv_if_eq (tgt := 65) hx hb d_Mod_work_49 (by decide) (fun _ => ?_) (fun h9 => absurd (by decide) h9)
    refine lv_iload_n hx hb d_Mod_work_65 rfl (lv_at hl 4 rfl) ?_
    refine lv_bipush (v := 80) hx hb d_Mod_work_66 (by decide) ?_
    refine lv_icmp_ne (tgt := 77) hx hb d_Mod_work_68 (by decide) (fun _ => ?_) (fun h9 => absurd h9 (by decide))
    refine lv_iload_n hx hb d_Mod_work_77 rfl (lv_at hl 4 rfl) ?_
    refine lv_bipush (v := 76) hx hb d_Mod_work_78 (by decide) ?_
    refine lv_icmp_ne (tgt := 99) hx hb d_Mod_work_80 (by decide) (fun _ => ?_) (fun h9 => absurd h9 (by decide))
    refine lv_iload_n hx hb d_Mod_work_99 rfl (lv_at hl 4 rfl) ?_
    refine lv_bipush (v := 83) hx hb d_Mod_work_100 (by decide) ?_
    refine lv_icmp_ne (tgt := 118) hx hb d_Mod_work_102 (by decide) (fun _ => ?_) (fun h9 => absurd h9 (by decide))
    refine lv_iload_n hx hb d_Mod_work_118 rfl (lv_at hl 4 rfl) ?_
    refine lv_bipush (v := 79) hx hb d_Mod_work_119 (by decide) ?_
    refine lv_icmp_ne (tgt := 131) hx hb d_Mod_work_121 (by decide) (fun _ => ?_) (fun h9 => absurd h9 (by decide))
    refine lv_iload_n hx hb d_Mod_work_131 rfl (lv_at hl 4 rfl) ?_
    refine lv_bipush (v := 68) hx hb d_Mod_work_132 (by decide) ?_
    refine lv_icmp_eq (tgt := 143) hx hb d_Mod_work_134 (by decide) (fun h9 => absurd h9 (by decide)) (fun _ => ?_)
    refine lv_iload_n hx hb d_Mod_work_137 rfl (lv_at hl 4 rfl) ?_
    refine lv_bipush (v := 88) hx hb d_Mod_work_138 (by decide) ?_
    refine lv_icmp_ne (tgt := 150) hx hb d_Mod_work_140 (by decide) (fun h9 => absurd (by decide) h9) (fun _ => ?_)
    refine lv_aload_n hx hb d_Mod_work_143 rfl (lv_at hl 2 rfl) ?_
    refine lv_iload_n hx hb d_Mod_work_144 rfl (lv_at hl 3 rfl) ?_
    refine lv_iload hx hb d_Mod_work_145 (lv_at hl 1 rfl) ?_
    refine km_Vv (wr := []) F (c_Mod_push l Dg a k Ds27 mm (dTop D mm) _ hP (hD.weaken (fun _ _ _ _ => trivial)) (dm_in hm) (ix_40 (c := 40) (i := i) (h := ((h - 1) - 1)) 40 rfl em (by rw [hDs27]; exact dPop_5 (by rw [hDs26]; exact dPop_5 e0 (by omega)) (by omega)) (by omega) (by decide))) kx_K hK kw_Mod_116 tw3_135 ts_27 (va_recv (ci := 3) (q0 := 0) hK hP rfl rfl) hP hD hS hA [0, 1, 2, 3, 4, 5, 6, 7, 8, 9, 10, 11, 12, 13, 14] [] rfl rfl (by decide) (by decide) d_Mod_work_147 ⟨⟨by decide, by decide⟩, Nat.le_refl _, Nat.le_refl _⟩ rfl hl.1 rfl (Nat.le_of_ble_eq_true rfl) (fun H locs hP hD hS => ?_)
    have hP : va_P Dg classes (wD a k (dPush Ds27 mm (dTop D mm))) H := hP
    have hD : va_D (va_A (wD a k D) s.heap.size) (wD a k (dPush Ds27 mm (dTop D mm))) := hD
    obtain ⟨Ds28, hDs28⟩ : ∃ z9, z9 = (dPush Ds27 mm (dTop D mm)) := ⟨_, rfl⟩
    rw [← hDs28] at hP hD
    refine lv_iload_n hx hb d_Mod_work_150 rfl (lv_at hl 4 rfl) ?_
    refine lv_bipush (v := 68) hx hb d_Mod_work_151 (by decide) ?_
    refine lv_icmp_ne (tgt := 163) hx hb d_Mod_work_153 (by decide) (fun _ => ?_) (fun h9 => absurd h9 (by decide))
    refine lv_iload_n hx hb d_Mod_work_163 rfl (lv_at hl 4 rfl) ?_
    refine lv_bipush (v := 88) hx hb d_Mod_work_164 (by decide) ?_
    refine lv_icmp_ne (tgt := 176) hx hb d_Mod_work_166 (by decide) (fun h9 => absurd (by decide) h9) (fun _ => ?_)
    refine lv_aload_n hx hb d_Mod_work_169 rfl (lv_at hl 2 rfl) ?_
    refine lv_iload_n hx hb d_Mod_work_170 rfl (lv_at hl 3 rfl) ?_
    refine lv_iload hx hb d_Mod_work_171 (lv_at hl 0 rfl) ?_
    refine km_Vv (wr := []) F (c_Mod_push l Dg a k Ds28 mm (dTop Ds26 mm) _ hP (hD.weaken (fun _ _ _ _ => trivial)) (dm_in hm) (ix_40 (c := 40) (i := i) (h := (((h - 1) - 1) + 1)) 40 rfl em (by rw [hDs28]; exact dPush_5 (by rw [hDs27]; exact dPop_5 (by rw [hDs26]; exact dPop_5 e0 (by omega)) (by omega))) (by omega) (by decide))) kx_K hK kw_Mod_116 tw3_135 ts_27 (va_recv (ci := 3) (q0 := 0) hK hP rfl rfl) hP hD hS hA [0, 1, 2, 3, 4, 5, 6, 7, 8, 9, 10, 11, 12, 13, 14] [] rfl rfl (by decide) (by decide) d_Mod_work_173 ⟨⟨by decide, by decide⟩, Nat.le_refl _, Nat.le_refl _⟩ rfl hl.1 rfl (Nat.le_of_ble_eq_true rfl) (fun H locs hP hD hS => ?_)
    have hP : va_P Dg classes (wD a k (dPush Ds28 mm (dTop Ds26 mm))) H := hP
    have hD : va_D (va_A (wD a k D) s.heap.size) (wD a k (dPush Ds28 mm (dTop Ds26 mm))) := hD
    obtain ⟨Ds29, hDs29⟩ : ∃ z9, z9 = (dPush Ds28 mm (dTop Ds26 mm)) := ⟨_, rfl⟩
    rw [← hDs29] at hP hD
    exact km_v F hlocks hret hP hD hS d_Mod_work_176 (by subst hDs29 hDs28 hDs27 hDs26; unfold dWork; rw [if_neg (by decide), if_neg (by decide), if_neg (by decide), if_neg (by decide), if_pos rfl])
  · obtain ⟨i, h, r, o, hi, em, e0, e1, e2, b0, b1, b2, c1, c2, c3, c4, c5⟩ := dtr_all hm ht
    have hd := tr_n (d := 1) (by decide) c1
    refine lv_aload_n hx hb d_Mod_work_0 rfl (lv_at hl 0 rfl) ?_
    refine lv_iload_n hx hb d_Mod_work_1 rfl (lv_at hl 2 rfl) ?_
    refine kp_V F (c_Mod_takes l Dg a k D 79 _ hP (by unfold okC; decide)) kx_K hK kw_Mod_106 tw3_120 ts_24 (va_recv (ci := 3) (q0 := 0) hK hP rfl rfl) hS d_Mod_work_2 ⟨⟨by decide, by decide⟩, Nat.le_refl _, Nat.le_refl _⟩ rfl hl.1 rfl (Nat.le_of_ble_eq_true rfl) (fun locs hS => ?_)
    refine lv_if_le (tgt := 22) hx hb d_Mod_work_5 (by decide) (fun h9 => absurd h9 (by decide)) (fun _ => ?_)
    refine lv_iload_n hx hb d_Mod_work_8 rfl (lv_at hl 2 rfl) ?_
    refine lv_bipush (v := 90) hx hb d_Mod_work_9 (by decide) ?_
    refine lv_icmp_eq (tgt := 22) hx hb d_Mod_work_11 (by decide) (fun h9 => absurd h9 (by decide)) (fun _ => ?_)
    refine lv_aload_n hx hb d_Mod_work_14 rfl (lv_at hl 0 rfl) ?_
    refine lv_iload_n hx hb d_Mod_work_15 rfl (lv_at hl 1 rfl) ?_
    refine km_Vi (wr := []) F (c_Mod_pop l Dg a k D mm _ hP (hD.weaken (fun _ _ _ _ => trivial)) (dm_in hm) (ix_40 (c := 40) (i := i) (h := h - 1) 40 rfl em (dPop_5 e0 (by omega)) (by omega) (by decide))) kx_K hK kw_Mod_109 tw3_128 ts_26 (va_recv (ci := 3) (q0 := 0) hK hP rfl rfl) hP hD hS hA [0, 1, 2, 3, 4, 5, 6, 7, 8, 9, 10, 11, 12, 13, 14] [] rfl rfl (by decide) (by decide) d_Mod_work_16 ⟨⟨by decide, by decide⟩, Nat.le_refl _, Nat.le_refl _⟩ rfl hl.1 rfl (Nat.le_of_ble_eq_true rfl) (fun H locs hP hD hS => ?_)
    have hP : va_P Dg classes (wD a k (dPop D mm)) H := hP
    have hD : va_D (va_A (wD a k D) s.heap.size) (wD a k (dPop D mm)) := hD
    obtain ⟨Ds30, hDs30⟩ : ∃ z9, z9 = (dPop D mm) := ⟨_, rfl⟩
    rw [← hDs30] at hP hD
    refine lv_goto (tgt := 23) hx hb d_Mod_work_19 (by decide) ?_
    refine lv_istore hx hb d_Mod_work_23 hl (by decide) rfl (fun ls hl => ?_)
    have hl : lv_has ls 6 [(4, .int (dTop D mm)), (0, .ref (a 0)), (1, .int mm), (2, .int 79), (3, .int n)] := hl
    refine lv_aload_n hx hb d_Mod_work_25 rfl (lv_at hl 1 rfl) ?_
    refine lv_iload_n hx hb d_Mod_work_26 rfl (lv_at hl 3 rfl) ?_
    refine kp_V F (c_Mod_takes l Dg a k Ds30 79 _ hP (by unfold okC; decide)) kx_K hK kw_Mod_106 tw3_120 ts_24 (va_recv (ci := 3) (q0 := 0) hK hP rfl rfl) hS d_Mod_work_27 ⟨⟨by decide, by decide⟩, Nat.le_refl _, Nat.le_refl _⟩ rfl hl.1 rfl (Nat.le_of_ble_eq_true rfl) (fun locs hS => ?_)
    refine lv_iconst (v := 2) hx hb d_Mod_work_30 (by decide) ?_
    refine lv_icmp_ne (tgt := 42) hx hb d_Mod_work_31 (by decide) (fun _ => ?_) (fun h9 => absurd h9 (by decide))
    refine lv_iconst (v := 0) hx hb d_Mod_work_42 (by decide) ?_
    refine lv_istore hx hb d_Mod_work_43 hl (by decide) rfl (fun ls hl => ?_)
    have hl : lv_has ls 6 [(5, .int 0), (4, .int (dTop D mm)), (0, .ref (a 0)), (1, .int mm), (2, .int 79), (3, .int n)] := hl
    refine lv_iload_n hx hb d_Mod_work_45 rfl (lv_at hl 4 rfl) ?_
    refine kp_S F (c_Mod_isPlain l Dg k 79 _ ) kx_K hK kw_Mod_57 tw3_54 hS d_Mod_work_46 ⟨⟨by decide, by decide⟩, Nat.le_refl _, Nat.le_refl _⟩ rfl hl.1 rfl (Nat.le_of_ble_eq_true rfl) (fun locs hS => ?_)
    refine lv_if_eq (tgt := 65) hx hb d_Mod_work_49 (by decide) (fun _ => ?_) (fun h9 => absurd (by decide) h9)
    refine lv_iload_n hx hb d_Mod_work_65 rfl (lv_at hl 4 rfl) ?_
    refine lv_bipush (v := 80) hx hb d_Mod_work_66 (by decide) ?_
    refine lv_icmp_ne (tgt := 77) hx hb d_Mod_work_68 (by decide) (fun _ => ?_) (fun h9 => absurd h9 (by decide))
    refine lv_iload_n hx hb d_Mod_work_77 rfl (lv_at hl 4 rfl) ?_
    refine lv_bipush (v := 76) hx hb d_Mod_work_78 (by decide) ?_
    refine lv_icmp_ne (tgt := 99) hx hb d_Mod_work_80 (by decide) (fun _ => ?_) (fun h9 => absurd h9 (by decide))
    refine lv_iload_n hx hb d_Mod_work_99 rfl (lv_at hl 4 rfl) ?_
    refine lv_bipush (v := 83) hx hb d_Mod_work_100 (by decide) ?_
    refine lv_icmp_ne (tgt := 118) hx hb d_Mod_work_102 (by decide) (fun _ => ?_) (fun h9 => absurd h9 (by decide))
    refine lv_iload_n hx hb d_Mod_work_118 rfl (lv_at hl 4 rfl) ?_
    refine lv_bipush (v := 79) hx hb d_Mod_work_119 (by decide) ?_
    refine lv_icmp_ne (tgt := 131) hx hb d_Mod_work_121 (by decide) (fun h9 => absurd (by decide) h9) (fun _ => ?_)
    refine lv_aload_n hx hb d_Mod_work_124 rfl (lv_at hl 2 rfl) ?_
    refine lv_iload_n hx hb d_Mod_work_125 rfl (lv_at hl 3 rfl) ?_
    refine lv_iload hx hb d_Mod_work_126 (lv_at hl 1 rfl) ?_
    refine km_Vv (wr := []) F (c_Mod_say l Dg a k Ds30 mm (dTop D mm) _ hP (hD.weaken (fun _ _ _ _ => trivial)) (dm_in hm) (by rw [hDs30]; exact fun z => ix_40 (c := 60) (i := i) (h := o) 60 rfl em e2 (by have : o < 60 := (by rcases Nat.lt_or_ge o 60 with q | q; exact q; exact absurd (show (60 : Int32) ≤ D 7 (tn mm) by rw [e2]; exact nI_le (a := 60) q (by omega)) z); omega) (by decide))) kx_K hK kw_Mod_120 tw3_139 ts_28 (va_recv (ci := 3) (q0 := 0) hK hP rfl rfl) hP hD hS hA [0, 1, 2, 3, 4, 5, 6, 7, 8, 9, 10, 11, 12, 13, 14] [] rfl rfl (by decide) (by decide) d_Mod_work_128 ⟨⟨by decide, by decide⟩, Nat.le_refl _, Nat.le_refl _⟩ rfl hl.1 rfl (Nat.le_of_ble_eq_true rfl) (fun H locs hP hD hS => ?_)
    have hP : va_P Dg classes (wD a k (dSay Ds30 mm (dTop D mm))) H := hP
    have hD : va_D (va_A (wD a k D) s.heap.size) (wD a k (dSay Ds30 mm (dTop D mm))) := hD
    obtain ⟨Ds31, hDs31⟩ : ∃ z9, z9 = (dSay Ds30 mm (dTop D mm)) := ⟨_, rfl⟩
    rw [← hDs31] at hP hD
    refine lv_iload_n hx hb d_Mod_work_131 rfl (lv_at hl 4 rfl) ?_
    refine lv_bipush (v := 68) hx hb d_Mod_work_132 (by decide) ?_
    refine lv_icmp_eq (tgt := 143) hx hb d_Mod_work_134 (by decide) (fun h9 => absurd h9 (by decide)) (fun _ => ?_)
    refine lv_iload_n hx hb d_Mod_work_137 rfl (lv_at hl 4 rfl) ?_
    refine lv_bipush (v := 88) hx hb d_Mod_work_138 (by decide) ?_
    refine lv_icmp_ne (tgt := 150) hx hb d_Mod_work_140 (by decide) (fun _ => ?_) (fun h9 => absurd h9 (by decide))
    refine lv_iload_n hx hb d_Mod_work_150 rfl (lv_at hl 4 rfl) ?_
    refine lv_bipush (v := 68) hx hb d_Mod_work_151 (by decide) ?_
    refine lv_icmp_ne (tgt := 163) hx hb d_Mod_work_153 (by decide) (fun _ => ?_) (fun h9 => absurd h9 (by decide))
    refine lv_iload_n hx hb d_Mod_work_163 rfl (lv_at hl 4 rfl) ?_
    refine lv_bipush (v := 88) hx hb d_Mod_work_164 (by decide) ?_
    refine lv_icmp_ne (tgt := 176) hx hb d_Mod_work_166 (by decide) (fun _ => ?_) (fun h9 => absurd h9 (by decide))
    exact km_v F hlocks hret hP hD hS d_Mod_work_176 (by subst hDs31 hDs30; unfold dWork; rw [if_neg (by decide), if_neg (by decide), if_neg (by decide), if_neg (by decide), if_neg (by decide), if_pos rfl])
  · obtain ⟨i, h, r, o, hi, em, e0, e1, e2, b0, b1, b2, c1, c2, c3, c4, c5⟩ := dtr_all hm ht
    have hd := tr_n (d := 1) (by decide) c1
    refine lv_aload_n hx hb d_Mod_work_0 rfl (lv_at hl 0 rfl) ?_
    refine lv_iload_n hx hb d_Mod_work_1 rfl (lv_at hl 2 rfl) ?_
    refine kp_V F (c_Mod_takes l Dg a k D 86 _ hP (by unfold okC; decide)) kx_K hK kw_Mod_106 tw3_120 ts_24 (va_recv (ci := 3) (q0 := 0) hK hP rfl rfl) hS d_Mod_work_2 ⟨⟨by decide, by decide⟩, Nat.le_refl _, Nat.le_refl _⟩ rfl hl.1 rfl (Nat.le_of_ble_eq_true rfl) (fun locs hS => ?_)
    refine lv_if_le (tgt := 22) hx hb d_Mod_work_5 (by decide) (fun h9 => absurd h9 (by decide)) (fun _ => ?_)
    refine lv_iload_n hx hb d_Mod_work_8 rfl (lv_at hl 2 rfl) ?_
    refine lv_bipush (v := 90) hx hb d_Mod_work_9 (by decide) ?_
    refine lv_icmp_eq (tgt := 22) hx hb d_Mod_work_11 (by decide) (fun h9 => absurd h9 (by decide)) (fun _ => ?_)
    refine lv_aload_n hx hb d_Mod_work_14 rfl (lv_at hl 0 rfl) ?_
    refine lv_iload_n hx hb d_Mod_work_15 rfl (lv_at hl 1 rfl) ?_
    refine km_Vi (wr := []) F (c_Mod_pop l Dg a k D mm _ hP (hD.weaken (fun _ _ _ _ => trivial)) (dm_in hm) (ix_40 (c := 40) (i := i) (h := h - 1) 40 rfl em (dPop_5 e0 (by omega)) (by omega) (by decide))) kx_K hK kw_Mod_109 tw3_128 ts_26 (va_recv (ci := 3) (q0 := 0) hK hP rfl rfl) hP hD hS hA [0, 1, 2, 3, 4, 5, 6, 7, 8, 9, 10, 11, 12, 13, 14] [] rfl rfl (by decide) (by decide) d_Mod_work_16 ⟨⟨by decide, by decide⟩, Nat.le_refl _, Nat.le_refl _⟩ rfl hl.1 rfl (Nat.le_of_ble_eq_true rfl) (fun H locs hP hD hS => ?_)
    have hP : va_P Dg classes (wD a k (dPop D mm)) H := hP
    have hD : va_D (va_A (wD a k D) s.heap.size) (wD a k (dPop D mm)) := hD
    obtain ⟨Ds32, hDs32⟩ : ∃ z9, z9 = (dPop D mm) := ⟨_, rfl⟩
    rw [← hDs32] at hP hD
    refine lv_goto (tgt := 23) hx hb d_Mod_work_19 (by decide) ?_
    refine lv_istore hx hb d_Mod_work_23 hl (by decide) rfl (fun ls hl => ?_)
    have hl : lv_has ls 6 [(4, .int (dTop D mm)), (0, .ref (a 0)), (1, .int mm), (2, .int 86), (3, .int n)] := hl
    refine lv_aload_n hx hb d_Mod_work_25 rfl (lv_at hl 1 rfl) ?_
    refine lv_iload_n hx hb d_Mod_work_26 rfl (lv_at hl 3 rfl) ?_
    refine kp_V F (c_Mod_takes l Dg a k Ds32 86 _ hP (by unfold okC; decide)) kx_K hK kw_Mod_106 tw3_120 ts_24 (va_recv (ci := 3) (q0 := 0) hK hP rfl rfl) hS d_Mod_work_27 ⟨⟨by decide, by decide⟩, Nat.le_refl _, Nat.le_refl _⟩ rfl hl.1 rfl (Nat.le_of_ble_eq_true rfl) (fun locs hS => ?_)
    refine lv_iconst (v := 2) hx hb d_Mod_work_30 (by decide) ?_
    refine lv_icmp_ne (tgt := 42) hx hb d_Mod_work_31 (by decide) (fun _ => ?_) (fun h9 => absurd h9 (by decide))
    refine lv_iconst (v := 0) hx hb d_Mod_work_42 (by decide) ?_
    refine lv_istore hx hb d_Mod_work_43 hl (by decide) rfl (fun ls hl => ?_)
    have hl : lv_has ls 6 [(5, .int 0), (4, .int (dTop D mm)), (0, .ref (a 0)), (1, .int mm), (2, .int 86), (3, .int n)] := hl
    refine lv_iload_n hx hb d_Mod_work_45 rfl (lv_at hl 4 rfl) ?_
    refine kp_S F (c_Mod_isPlain l Dg k 86 _ ) kx_K hK kw_Mod_57 tw3_54 hS d_Mod_work_46 ⟨⟨by decide, by decide⟩, Nat.le_refl _, Nat.le_refl _⟩ rfl hl.1 rfl (Nat.le_of_ble_eq_true rfl) (fun locs hS => ?_)
    refine lv_if_eq (tgt := 65) hx hb d_Mod_work_49 (by decide) (fun _ => ?_) (fun h9 => absurd (by decide) h9)
    refine lv_iload_n hx hb d_Mod_work_65 rfl (lv_at hl 4 rfl) ?_
    refine lv_bipush (v := 80) hx hb d_Mod_work_66 (by decide) ?_
    refine lv_icmp_ne (tgt := 77) hx hb d_Mod_work_68 (by decide) (fun _ => ?_) (fun h9 => absurd h9 (by decide))
    refine lv_iload_n hx hb d_Mod_work_77 rfl (lv_at hl 4 rfl) ?_
    refine lv_bipush (v := 76) hx hb d_Mod_work_78 (by decide) ?_
    refine lv_icmp_ne (tgt := 99) hx hb d_Mod_work_80 (by decide) (fun _ => ?_) (fun h9 => absurd h9 (by decide))
    refine lv_iload_n hx hb d_Mod_work_99 rfl (lv_at hl 4 rfl) ?_
    refine lv_bipush (v := 83) hx hb d_Mod_work_100 (by decide) ?_
    refine lv_icmp_ne (tgt := 118) hx hb d_Mod_work_102 (by decide) (fun _ => ?_) (fun h9 => absurd h9 (by decide))
    refine lv_iload_n hx hb d_Mod_work_118 rfl (lv_at hl 4 rfl) ?_
    refine lv_bipush (v := 79) hx hb d_Mod_work_119 (by decide) ?_
    refine lv_icmp_ne (tgt := 131) hx hb d_Mod_work_121 (by decide) (fun _ => ?_) (fun h9 => absurd h9 (by decide))
    refine lv_iload_n hx hb d_Mod_work_131 rfl (lv_at hl 4 rfl) ?_
    refine lv_bipush (v := 68) hx hb d_Mod_work_132 (by decide) ?_
    refine lv_icmp_eq (tgt := 143) hx hb d_Mod_work_134 (by decide) (fun h9 => absurd h9 (by decide)) (fun _ => ?_)
    refine lv_iload_n hx hb d_Mod_work_137 rfl (lv_at hl 4 rfl) ?_
    refine lv_bipush (v := 88) hx hb d_Mod_work_138 (by decide) ?_
    refine lv_icmp_ne (tgt := 150) hx hb d_Mod_work_140 (by decide) (fun _ => ?_) (fun h9 => absurd h9 (by decide))
    refine lv_iload_n hx hb d_Mod_work_150 rfl (lv_at hl 4 rfl) ?_
    refine lv_bipush (v := 68) hx hb d_Mod_work_151 (by decide) ?_
    refine lv_icmp_ne (tgt := 163) hx hb d_Mod_work_153 (by decide) (fun _ => ?_) (fun h9 => absurd h9 (by decide))
    refine lv_iload_n hx hb d_Mod_work_163 rfl (lv_at hl 4 rfl) ?_
    refine lv_bipush (v := 88) hx hb d_Mod_work_164 (by decide) ?_
    refine lv_icmp_ne (tgt := 176) hx hb d_Mod_work_166 (by decide) (fun _ => ?_) (fun h9 => absurd h9 (by decide))
    exact km_v F hlocks hret hP hD hS d_Mod_work_176 (by subst hDs32; unfold dWork; rw [if_neg (by decide), if_neg (by decide), if_neg (by decide), if_neg (by decide), if_neg (by decide), if_neg (by decide), if_pos rfl])
  · obtain ⟨i, h, r, o, hi, em, e0, e1, e2, b0, b1, b2, c1, c2, c3, c4, c5⟩ := dtr_all hm ht
    refine lv_aload_n hx hb d_Mod_work_0 rfl (lv_at hl 0 rfl) ?_
    refine lv_iload_n hx hb d_Mod_work_1 rfl (lv_at hl 2 rfl) ?_
    refine kp_V F (c_Mod_takes l Dg a k D 74 _ hP (by unfold okC; decide)) kx_K hK kw_Mod_106 tw3_120 ts_24 (va_recv (ci := 3) (q0 := 0) hK hP rfl rfl) hS d_Mod_work_2 ⟨⟨by decide, by decide⟩, Nat.le_refl _, Nat.le_refl _⟩ rfl hl.1 rfl (Nat.le_of_ble_eq_true rfl) (fun locs hS => ?_)
    refine lv_if_le (tgt := 22) hx hb d_Mod_work_5 (by decide) (fun _ => ?_) (fun h9 => absurd (by decide) h9)
    refine lv_iconst (v := 0) hx hb d_Mod_work_22 (by decide) ?_
    refine lv_istore hx hb d_Mod_work_23 hl (by decide) rfl (fun ls hl => ?_)
    have hl : lv_has ls 6 [(4, .int 0), (0, .ref (a 0)), (1, .int mm), (2, .int 74), (3, .int n)] := hl
    refine lv_aload_n hx hb d_Mod_work_25 rfl (lv_at hl 1 rfl) ?_
    refine lv_iload_n hx hb d_Mod_work_26 rfl (lv_at hl 3 rfl) ?_
    refine kp_V F (c_Mod_takes l Dg a k D 74 _ hP (by unfold okC; decide)) kx_K hK kw_Mod_106 tw3_120 ts_24 (va_recv (ci := 3) (q0 := 0) hK hP rfl rfl) hS d_Mod_work_27 ⟨⟨by decide, by decide⟩, Nat.le_refl _, Nat.le_refl _⟩ rfl hl.1 rfl (Nat.le_of_ble_eq_true rfl) (fun locs hS => ?_)
    refine lv_iconst (v := 2) hx hb d_Mod_work_30 (by decide) ?_
    refine lv_icmp_ne (tgt := 42) hx hb d_Mod_work_31 (by decide) (fun _ => ?_) (fun h9 => absurd h9 (by decide))
    refine lv_iconst (v := 0) hx hb d_Mod_work_42 (by decide) ?_
    refine lv_istore hx hb d_Mod_work_43 hl (by decide) rfl (fun ls hl => ?_)
    have hl : lv_has ls 6 [(5, .int 0), (4, .int 0), (0, .ref (a 0)), (1, .int mm), (2, .int 74), (3, .int n)] := hl
    refine lv_iload_n hx hb d_Mod_work_45 rfl (lv_at hl 4 rfl) ?_
    refine kp_S F (c_Mod_isPlain l Dg k 74 _ ) kx_K hK kw_Mod_57 tw3_54 hS d_Mod_work_46 ⟨⟨by decide, by decide⟩, Nat.le_refl _, Nat.le_refl _⟩ rfl hl.1 rfl (Nat.le_of_ble_eq_true rfl) (fun locs hS => ?_)
    refine lv_if_eq (tgt := 65) hx hb d_Mod_work_49 (by decide) (fun _ => ?_) (fun h9 => absurd (by decide) h9)
    refine lv_iload_n hx hb d_Mod_work_65 rfl (lv_at hl 4 rfl) ?_
    refine lv_bipush (v := 80) hx hb d_Mod_work_66 (by decide) ?_
    refine lv_icmp_ne (tgt := 77) hx hb d_Mod_work_68 (by decide) (fun _ => ?_) (fun h9 => absurd h9 (by decide))
    refine lv_iload_n hx hb d_Mod_work_77 rfl (lv_at hl 4 rfl) ?_
    refine lv_bipush (v := 76) hx hb d_Mod_work_78 (by decide) ?_
    refine lv_icmp_ne (tgt := 99) hx hb d_Mod_work_80 (by decide) (fun _ => ?_) (fun h9 => absurd h9 (by decide))
    refine lv_iload_n hx hb d_Mod_work_99 rfl (lv_at hl 4 rfl) ?_
    refine lv_bipush (v := 83) hx hb d_Mod_work_100 (by decide) ?_
    refine lv_icmp_ne (tgt := 118) hx hb d_Mod_work_102 (by decide) (fun _ => ?_) (fun h9 => absurd h9 (by decide))
    refine lv_iload_n hx hb d_Mod_work_118 rfl (lv_at hl 4 rfl) ?_
    refine lv_bipush (v := 79) hx hb d_Mod_work_119 (by decide) ?_
    refine lv_icmp_ne (tgt := 131) hx hb d_Mod_work_121 (by decide) (fun _ => ?_) (fun h9 => absurd h9 (by decide))
    refine lv_iload_n hx hb d_Mod_work_131 rfl (lv_at hl 4 rfl) ?_
    refine lv_bipush (v := 68) hx hb d_Mod_work_132 (by decide) ?_
    refine lv_icmp_eq (tgt := 143) hx hb d_Mod_work_134 (by decide) (fun h9 => absurd h9 (by decide)) (fun _ => ?_)
    refine lv_iload_n hx hb d_Mod_work_137 rfl (lv_at hl 4 rfl) ?_
    refine lv_bipush (v := 88) hx hb d_Mod_work_138 (by decide) ?_
    refine lv_icmp_ne (tgt := 150) hx hb d_Mod_work_140 (by decide) (fun _ => ?_) (fun h9 => absurd h9 (by decide))
    refine lv_iload_n hx hb d_Mod_work_150 rfl (lv_at hl 4 rfl) ?_
    refine lv_bipush (v := 68) hx hb d_Mod_work_151 (by decide) ?_
    refine lv_icmp_ne (tgt := 163) hx hb d_Mod_work_153 (by decide) (fun _ => ?_) (fun h9 => absurd h9 (by decide))
    refine lv_iload_n hx hb d_Mod_work_163 rfl (lv_at hl 4 rfl) ?_
    refine lv_bipush (v := 88) hx hb d_Mod_work_164 (by decide) ?_
    refine lv_icmp_ne (tgt := 176) hx hb d_Mod_work_166 (by decide) (fun _ => ?_) (fun h9 => absurd h9 (by decide))
    exact km_v F hlocks hret hP hD hS d_Mod_work_176 (by unfold dWork; rw [if_neg (by decide), if_neg (by decide), if_neg (by decide), if_neg (by decide), if_neg (by decide), if_neg (by decide), if_neg (by decide), if_pos rfl])
  · obtain ⟨i, h, r, o, hi, em, e0, e1, e2, b0, b1, b2, c1, c2, c3, c4, c5⟩ := dtr_all hm ht
    have hd := tr_n (d := 1) (by decide) c1
    refine lv_aload_n hx hb d_Mod_work_0 rfl (lv_at hl 0 rfl) ?_
    refine lv_iload_n hx hb d_Mod_work_1 rfl (lv_at hl 2 rfl) ?_
    refine kp_V F (c_Mod_takes l Dg a k D 90 _ hP (by unfold okC; decide)) kx_K hK kw_Mod_106 tw3_120 ts_24 (va_recv (ci := 3) (q0 := 0) hK hP rfl rfl) hS d_Mod_work_2 ⟨⟨by decide, by decide⟩, Nat.le_refl _, Nat.le_refl _⟩ rfl hl.1 rfl (Nat.le_of_ble_eq_true rfl) (fun locs hS => ?_)
    refine lv_if_le (tgt := 22) hx hb d_Mod_work_5 (by decide) (fun h9 => absurd h9 (by decide)) (fun _ => ?_)
    refine lv_iload_n hx hb d_Mod_work_8 rfl (lv_at hl 2 rfl) ?_
    refine lv_bipush (v := 90) hx hb d_Mod_work_9 (by decide) ?_
    refine lv_icmp_eq (tgt := 22) hx hb d_Mod_work_11 (by decide) (fun _ => ?_) (fun h9 => absurd (by decide) h9)
    refine lv_iconst (v := 0) hx hb d_Mod_work_22 (by decide) ?_
    refine lv_istore hx hb d_Mod_work_23 hl (by decide) rfl (fun ls hl => ?_)
    have hl : lv_has ls 6 [(4, .int 0), (0, .ref (a 0)), (1, .int mm), (2, .int 90), (3, .int n)] := hl
    refine lv_aload_n hx hb d_Mod_work_25 rfl (lv_at hl 1 rfl) ?_
    refine lv_iload_n hx hb d_Mod_work_26 rfl (lv_at hl 3 rfl) ?_
    refine kp_V F (c_Mod_takes l Dg a k D 90 _ hP (by unfold okC; decide)) kx_K hK kw_Mod_106 tw3_120 ts_24 (va_recv (ci := 3) (q0 := 0) hK hP rfl rfl) hS d_Mod_work_27 ⟨⟨by decide, by decide⟩, Nat.le_refl _, Nat.le_refl _⟩ rfl hl.1 rfl (Nat.le_of_ble_eq_true rfl) (fun locs hS => ?_)
    refine lv_iconst (v := 2) hx hb d_Mod_work_30 (by decide) ?_
    refine lv_icmp_ne (tgt := 42) hx hb d_Mod_work_31 (by decide) (fun _ => ?_) (fun h9 => absurd h9 (by decide))
    refine lv_iconst (v := 0) hx hb d_Mod_work_42 (by decide) ?_
    refine lv_istore hx hb d_Mod_work_43 hl (by decide) rfl (fun ls hl => ?_)
    have hl : lv_has ls 6 [(5, .int 0), (4, .int 0), (0, .ref (a 0)), (1, .int mm), (2, .int 90), (3, .int n)] := hl
    refine lv_iload_n hx hb d_Mod_work_45 rfl (lv_at hl 4 rfl) ?_
    refine kp_S F (c_Mod_isPlain l Dg k 90 _ ) kx_K hK kw_Mod_57 tw3_54 hS d_Mod_work_46 ⟨⟨by decide, by decide⟩, Nat.le_refl _, Nat.le_refl _⟩ rfl hl.1 rfl (Nat.le_of_ble_eq_true rfl) (fun locs hS => ?_)
    refine lv_if_eq (tgt := 65) hx hb d_Mod_work_49 (by decide) (fun _ => ?_) (fun h9 => absurd (by decide) h9)
    refine lv_iload_n hx hb d_Mod_work_65 rfl (lv_at hl 4 rfl) ?_
    refine lv_bipush (v := 80) hx hb d_Mod_work_66 (by decide) ?_
    refine lv_icmp_ne (tgt := 77) hx hb d_Mod_work_68 (by decide) (fun _ => ?_) (fun h9 => absurd h9 (by decide))
    refine lv_iload_n hx hb d_Mod_work_77 rfl (lv_at hl 4 rfl) ?_
    refine lv_bipush (v := 76) hx hb d_Mod_work_78 (by decide) ?_
    refine lv_icmp_ne (tgt := 99) hx hb d_Mod_work_80 (by decide) (fun _ => ?_) (fun h9 => absurd h9 (by decide))
    refine lv_iload_n hx hb d_Mod_work_99 rfl (lv_at hl 4 rfl) ?_
    refine lv_bipush (v := 83) hx hb d_Mod_work_100 (by decide) ?_
    refine lv_icmp_ne (tgt := 118) hx hb d_Mod_work_102 (by decide) (fun _ => ?_) (fun h9 => absurd h9 (by decide))
    refine lv_iload_n hx hb d_Mod_work_118 rfl (lv_at hl 4 rfl) ?_
    refine lv_bipush (v := 79) hx hb d_Mod_work_119 (by decide) ?_
    refine lv_icmp_ne (tgt := 131) hx hb d_Mod_work_121 (by decide) (fun _ => ?_) (fun h9 => absurd h9 (by decide))
    refine lv_iload_n hx hb d_Mod_work_131 rfl (lv_at hl 4 rfl) ?_
    refine lv_bipush (v := 68) hx hb d_Mod_work_132 (by decide) ?_
    refine lv_icmp_eq (tgt := 143) hx hb d_Mod_work_134 (by decide) (fun h9 => absurd h9 (by decide)) (fun _ => ?_)
    refine lv_iload_n hx hb d_Mod_work_137 rfl (lv_at hl 4 rfl) ?_
    refine lv_bipush (v := 88) hx hb d_Mod_work_138 (by decide) ?_
    refine lv_icmp_ne (tgt := 150) hx hb d_Mod_work_140 (by decide) (fun _ => ?_) (fun h9 => absurd h9 (by decide))
    refine lv_iload_n hx hb d_Mod_work_150 rfl (lv_at hl 4 rfl) ?_
    refine lv_bipush (v := 68) hx hb d_Mod_work_151 (by decide) ?_
    refine lv_icmp_ne (tgt := 163) hx hb d_Mod_work_153 (by decide) (fun _ => ?_) (fun h9 => absurd h9 (by decide))
    refine lv_iload_n hx hb d_Mod_work_163 rfl (lv_at hl 4 rfl) ?_
    refine lv_bipush (v := 88) hx hb d_Mod_work_164 (by decide) ?_
    refine lv_icmp_ne (tgt := 176) hx hb d_Mod_work_166 (by decide) (fun _ => ?_) (fun h9 => absurd h9 (by decide))
    exact km_v F hlocks hret hP hD hS d_Mod_work_176 (by unfold dWork; rw [if_neg (by decide), if_neg (by decide), if_neg (by decide), if_neg (by decide), if_neg (by decide), if_neg (by decide), if_neg (by decide), if_neg (by decide), if_pos rfl])
  · obtain ⟨i, h, r, o, hi, em, e0, e1, e2, b0, b1, b2, c1, c2, c3, c4, c5⟩ := dtr_all hm ht
    refine lv_aload_n hx hb d_Mod_work_0 rfl (lv_at hl 0 rfl) ?_
    refine lv_iload_n hx hb d_Mod_work_1 rfl (lv_at hl 2 rfl) ?_
    refine kp_V F (c_Mod_takes l Dg a k D 67 _ hP (by unfold okC; decide)) kx_K hK kw_Mod_106 tw3_120 ts_24 (va_recv (ci := 3) (q0 := 0) hK hP rfl rfl) hS d_Mod_work_2 ⟨⟨by decide, by decide⟩, Nat.le_refl _, Nat.le_refl _⟩ rfl hl.1 rfl (Nat.le_of_ble_eq_true rfl) (fun locs hS => ?_)
    refine lv_if_le (tgt := 22) hx hb d_Mod_work_5 (by decide) (fun _ => ?_) (fun h9 => absurd (by decide) h9)
    refine lv_iconst (v := 0) hx hb d_Mod_work_22 (by decide) ?_
    refine lv_istore hx hb d_Mod_work_23 hl (by decide) rfl (fun ls hl => ?_)
    have hl : lv_has ls 6 [(4, .int 0), (0, .ref (a 0)), (1, .int mm), (2, .int 67), (3, .int n)] := hl
    refine lv_aload_n hx hb d_Mod_work_25 rfl (lv_at hl 1 rfl) ?_
    refine lv_iload_n hx hb d_Mod_work_26 rfl (lv_at hl 3 rfl) ?_
    refine kp_V F (c_Mod_takes l Dg a k D 67 _ hP (by unfold okC; decide)) kx_K hK kw_Mod_106 tw3_120 ts_24 (va_recv (ci := 3) (q0 := 0) hK hP rfl rfl) hS d_Mod_work_27 ⟨⟨by decide, by decide⟩, Nat.le_refl _, Nat.le_refl _⟩ rfl hl.1 rfl (Nat.le_of_ble_eq_true rfl) (fun locs hS => ?_)
    refine lv_iconst (v := 2) hx hb d_Mod_work_30 (by decide) ?_
    refine lv_icmp_ne (tgt := 42) hx hb d_Mod_work_31 (by decide) (fun _ => ?_) (fun h9 => absurd h9 (by decide))
    refine lv_iconst (v := 0) hx hb d_Mod_work_42 (by decide) ?_
    refine lv_istore hx hb d_Mod_work_43 hl (by decide) rfl (fun ls hl => ?_)
    have hl : lv_has ls 6 [(5, .int 0), (4, .int 0), (0, .ref (a 0)), (1, .int mm), (2, .int 67), (3, .int n)] := hl
    refine lv_iload_n hx hb d_Mod_work_45 rfl (lv_at hl 4 rfl) ?_
    refine kp_S F (c_Mod_isPlain l Dg k 67 _ ) kx_K hK kw_Mod_57 tw3_54 hS d_Mod_work_46 ⟨⟨by decide, by decide⟩, Nat.le_refl _, Nat.le_refl _⟩ rfl hl.1 rfl (Nat.le_of_ble_eq_true rfl) (fun locs hS => ?_)
    refine lv_if_eq (tgt := 65) hx hb d_Mod_work_49 (by decide) (fun _ => ?_) (fun h9 => absurd (by decide) h9)
    refine lv_iload_n hx hb d_Mod_work_65 rfl (lv_at hl 4 rfl) ?_
    refine lv_bipush (v := 80) hx hb d_Mod_work_66 (by decide) ?_
    refine lv_icmp_ne (tgt := 77) hx hb d_Mod_work_68 (by decide) (fun _ => ?_) (fun h9 => absurd h9 (by decide))
    refine lv_iload_n hx hb d_Mod_work_77 rfl (lv_at hl 4 rfl) ?_
    refine lv_bipush (v := 76) hx hb d_Mod_work_78 (by decide) ?_
    refine lv_icmp_ne (tgt := 99) hx hb d_Mod_work_80 (by decide) (fun _ => ?_) (fun h9 => absurd h9 (by decide))
    refine lv_iload_n hx hb d_Mod_work_99 rfl (lv_at hl 4 rfl) ?_
    refine lv_bipush (v := 83) hx hb d_Mod_work_100 (by decide) ?_
    refine lv_icmp_ne (tgt := 118) hx hb d_Mod_work_102 (by decide) (fun _ => ?_) (fun h9 => absurd h9 (by decide))
    refine lv_iload_n hx hb d_Mod_work_118 rfl (lv_at hl 4 rfl) ?_
    refine lv_bipush (v := 79) hx hb d_Mod_work_119 (by decide) ?_
    refine lv_icmp_ne (tgt := 131) hx hb d_Mod_work_121 (by decide) (fun _ => ?_) (fun h9 => absurd h9 (by decide))
    refine lv_iload_n hx hb d_Mod_work_131 rfl (lv_at hl 4 rfl) ?_
    refine lv_bipush (v := 68) hx hb d_Mod_work_132 (by decide) ?_
    refine lv_icmp_eq (tgt := 143) hx hb d_Mod_work_134 (by decide) (fun h9 => absurd h9 (by decide)) (fun _ => ?_)
    refine lv_iload_n hx hb d_Mod_work_137 rfl (lv_at hl 4 rfl) ?_
    refine lv_bipush (v := 88) hx hb d_Mod_work_138 (by decide) ?_
    refine lv_icmp_ne (tgt := 150) hx hb d_Mod_work_140 (by decide) (fun _ => ?_) (fun h9 => absurd h9 (by decide))
    refine lv_iload_n hx hb d_Mod_work_150 rfl (lv_at hl 4 rfl) ?_
    refine lv_bipush (v := 68) hx hb d_Mod_work_151 (by decide) ?_
    refine lv_icmp_ne (tgt := 163) hx hb d_Mod_work_153 (by decide) (fun _ => ?_) (fun h9 => absurd h9 (by decide))
    refine lv_iload_n hx hb d_Mod_work_163 rfl (lv_at hl 4 rfl) ?_
    refine lv_bipush (v := 88) hx hb d_Mod_work_164 (by decide) ?_
    refine lv_icmp_ne (tgt := 176) hx hb d_Mod_work_166 (by decide) (fun _ => ?_) (fun h9 => absurd h9 (by decide))
    exact km_v F hlocks hret hP hD hS d_Mod_work_176 (by unfold dWork; rw [if_neg (by decide), if_neg (by decide), if_neg (by decide), if_neg (by decide), if_neg (by decide), if_neg (by decide), if_neg (by decide), if_neg (by decide), if_neg (by decide), if_pos rfl])
  · obtain ⟨i, h, r, o, hi, em, e0, e1, e2, b0, b1, b2, c1, c2, c3, c4, c5⟩ := dtr_all hm ht
    refine lv_aload_n hx hb d_Mod_work_0 rfl (lv_at hl 0 rfl) ?_
    refine lv_iload_n hx hb d_Mod_work_1 rfl (lv_at hl 2 rfl) ?_
    refine kp_V F (c_Mod_takes l Dg a k D 82 _ hP (by unfold okC; decide)) kx_K hK kw_Mod_106 tw3_120 ts_24 (va_recv (ci := 3) (q0 := 0) hK hP rfl rfl) hS d_Mod_work_2 ⟨⟨by decide, by decide⟩, Nat.le_refl _, Nat.le_refl _⟩ rfl hl.1 rfl (Nat.le_of_ble_eq_true rfl) (fun locs hS => ?_)
    refine lv_if_le (tgt := 22) hx hb d_Mod_work_5 (by decide) (fun _ => ?_) (fun h9 => absurd (by decide) h9)
    refine lv_iconst (v := 0) hx hb d_Mod_work_22 (by decide) ?_
    refine lv_istore hx hb d_Mod_work_23 hl (by decide) rfl (fun ls hl => ?_)
    have hl : lv_has ls 6 [(4, .int 0), (0, .ref (a 0)), (1, .int mm), (2, .int 82), (3, .int n)] := hl
    refine lv_aload_n hx hb d_Mod_work_25 rfl (lv_at hl 1 rfl) ?_
    refine lv_iload_n hx hb d_Mod_work_26 rfl (lv_at hl 3 rfl) ?_
    refine kp_V F (c_Mod_takes l Dg a k D 82 _ hP (by unfold okC; decide)) kx_K hK kw_Mod_106 tw3_120 ts_24 (va_recv (ci := 3) (q0 := 0) hK hP rfl rfl) hS d_Mod_work_27 ⟨⟨by decide, by decide⟩, Nat.le_refl _, Nat.le_refl _⟩ rfl hl.1 rfl (Nat.le_of_ble_eq_true rfl) (fun locs hS => ?_)
    refine lv_iconst (v := 2) hx hb d_Mod_work_30 (by decide) ?_
    refine lv_icmp_ne (tgt := 42) hx hb d_Mod_work_31 (by decide) (fun _ => ?_) (fun h9 => absurd h9 (by decide))
    refine lv_iconst (v := 0) hx hb d_Mod_work_42 (by decide) ?_
    refine lv_istore hx hb d_Mod_work_43 hl (by decide) rfl (fun ls hl => ?_)
    have hl : lv_has ls 6 [(5, .int 0), (4, .int 0), (0, .ref (a 0)), (1, .int mm), (2, .int 82), (3, .int n)] := hl
    refine lv_iload_n hx hb d_Mod_work_45 rfl (lv_at hl 4 rfl) ?_
    refine kp_S F (c_Mod_isPlain l Dg k 82 _ ) kx_K hK kw_Mod_57 tw3_54 hS d_Mod_work_46 ⟨⟨by decide, by decide⟩, Nat.le_refl _, Nat.le_refl _⟩ rfl hl.1 rfl (Nat.le_of_ble_eq_true rfl) (fun locs hS => ?_)
    refine lv_if_eq (tgt := 65) hx hb d_Mod_work_49 (by decide) (fun _ => ?_) (fun h9 => absurd (by decide) h9)
    refine lv_iload_n hx hb d_Mod_work_65 rfl (lv_at hl 4 rfl) ?_
    refine lv_bipush (v := 80) hx hb d_Mod_work_66 (by decide) ?_
    refine lv_icmp_ne (tgt := 77) hx hb d_Mod_work_68 (by decide) (fun _ => ?_) (fun h9 => absurd h9 (by decide))
    refine lv_iload_n hx hb d_Mod_work_77 rfl (lv_at hl 4 rfl) ?_
    refine lv_bipush (v := 76) hx hb d_Mod_work_78 (by decide) ?_
    refine lv_icmp_ne (tgt := 99) hx hb d_Mod_work_80 (by decide) (fun _ => ?_) (fun h9 => absurd h9 (by decide))
    refine lv_iload_n hx hb d_Mod_work_99 rfl (lv_at hl 4 rfl) ?_
    refine lv_bipush (v := 83) hx hb d_Mod_work_100 (by decide) ?_
    refine lv_icmp_ne (tgt := 118) hx hb d_Mod_work_102 (by decide) (fun _ => ?_) (fun h9 => absurd h9 (by decide))
    refine lv_iload_n hx hb d_Mod_work_118 rfl (lv_at hl 4 rfl) ?_
    refine lv_bipush (v := 79) hx hb d_Mod_work_119 (by decide) ?_
    refine lv_icmp_ne (tgt := 131) hx hb d_Mod_work_121 (by decide) (fun _ => ?_) (fun h9 => absurd h9 (by decide))
    refine lv_iload_n hx hb d_Mod_work_131 rfl (lv_at hl 4 rfl) ?_
    refine lv_bipush (v := 68) hx hb d_Mod_work_132 (by decide) ?_
    refine lv_icmp_eq (tgt := 143) hx hb d_Mod_work_134 (by decide) (fun h9 => absurd h9 (by decide)) (fun _ => ?_)
    refine lv_iload_n hx hb d_Mod_work_137 rfl (lv_at hl 4 rfl) ?_
    refine lv_bipush (v := 88) hx hb d_Mod_work_138 (by decide) ?_
    refine lv_icmp_ne (tgt := 150) hx hb d_Mod_work_140 (by decide) (fun _ => ?_) (fun h9 => absurd h9 (by decide))
    refine lv_iload_n hx hb d_Mod_work_150 rfl (lv_at hl 4 rfl) ?_
    refine lv_bipush (v := 68) hx hb d_Mod_work_151 (by decide) ?_
    refine lv_icmp_ne (tgt := 163) hx hb d_Mod_work_153 (by decide) (fun _ => ?_) (fun h9 => absurd h9 (by decide))
    refine lv_iload_n hx hb d_Mod_work_163 rfl (lv_at hl 4 rfl) ?_
    refine lv_bipush (v := 88) hx hb d_Mod_work_164 (by decide) ?_
    refine lv_icmp_ne (tgt := 176) hx hb d_Mod_work_166 (by decide) (fun _ => ?_) (fun h9 => absurd h9 (by decide))
    exact km_v F hlocks hret hP hD hS d_Mod_work_176 (by unfold dWork; rw [if_neg (by decide), if_neg (by decide), if_neg (by decide), if_neg (by decide), if_neg (by decide), if_neg (by decide), if_neg (by decide), if_neg (by decide), if_neg (by decide), if_neg (by decide), if_pos rfl])
  · obtain ⟨i, h, r, o, hi, em, e0, e1, e2, b0, b1, b2, c1, c2, c3, c4, c5⟩ := dtr_all hm ht
    refine lv_aload_n hx hb d_Mod_work_0 rfl (lv_at hl 0 rfl) ?_
    refine lv_iload_n hx hb d_Mod_work_1 rfl (lv_at hl 2 rfl) ?_
    refine kp_V F (c_Mod_takes l Dg a k D 72 _ hP (by unfold okC; decide)) kx_K hK kw_Mod_106 tw3_120 ts_24 (va_recv (ci := 3) (q0 := 0) hK hP rfl rfl) hS d_Mod_work_2 ⟨⟨by decide, by decide⟩, Nat.le_refl _, Nat.le_refl _⟩ rfl hl.1 rfl (Nat.le_of_ble_eq_true rfl) (fun locs hS => ?_)
    refine lv_if_le (tgt := 22) hx hb d_Mod_work_5 (by decide) (fun _ => ?_) (fun h9 => absurd (by decide) h9)
    refine lv_iconst (v := 0) hx hb d_Mod_work_22 (by decide) ?_
    refine lv_istore hx hb d_Mod_work_23 hl (by decide) rfl (fun ls hl => ?_)
    have hl : lv_has ls 6 [(4, .int 0), (0, .ref (a 0)), (1, .int mm), (2, .int 72), (3, .int n)] := hl
    refine lv_aload_n hx hb d_Mod_work_25 rfl (lv_at hl 1 rfl) ?_
    refine lv_iload_n hx hb d_Mod_work_26 rfl (lv_at hl 3 rfl) ?_
    refine kp_V F (c_Mod_takes l Dg a k D 72 _ hP (by unfold okC; decide)) kx_K hK kw_Mod_106 tw3_120 ts_24 (va_recv (ci := 3) (q0 := 0) hK hP rfl rfl) hS d_Mod_work_27 ⟨⟨by decide, by decide⟩, Nat.le_refl _, Nat.le_refl _⟩ rfl hl.1 rfl (Nat.le_of_ble_eq_true rfl) (fun locs hS => ?_)
    refine lv_iconst (v := 2) hx hb d_Mod_work_30 (by decide) ?_
    refine lv_icmp_ne (tgt := 42) hx hb d_Mod_work_31 (by decide) (fun _ => ?_) (fun h9 => absurd h9 (by decide))
    refine lv_iconst (v := 0) hx hb d_Mod_work_42 (by decide) ?_
    refine lv_istore hx hb d_Mod_work_43 hl (by decide) rfl (fun ls hl => ?_)
    have hl : lv_has ls 6 [(5, .int 0), (4, .int 0), (0, .ref (a 0)), (1, .int mm), (2, .int 72), (3, .int n)] := hl
    refine lv_iload_n hx hb d_Mod_work_45 rfl (lv_at hl 4 rfl) ?_
    refine kp_S F (c_Mod_isPlain l Dg k 72 _ ) kx_K hK kw_Mod_57 tw3_54 hS d_Mod_work_46 ⟨⟨by decide, by decide⟩, Nat.le_refl _, Nat.le_refl _⟩ rfl hl.1 rfl (Nat.le_of_ble_eq_true rfl) (fun locs hS => ?_)
    refine lv_if_eq (tgt := 65) hx hb d_Mod_work_49 (by decide) (fun _ => ?_) (fun h9 => absurd (by decide) h9)
    refine lv_iload_n hx hb d_Mod_work_65 rfl (lv_at hl 4 rfl) ?_
    refine lv_bipush (v := 80) hx hb d_Mod_work_66 (by decide) ?_
    refine lv_icmp_ne (tgt := 77) hx hb d_Mod_work_68 (by decide) (fun _ => ?_) (fun h9 => absurd h9 (by decide))
    refine lv_iload_n hx hb d_Mod_work_77 rfl (lv_at hl 4 rfl) ?_
    refine lv_bipush (v := 76) hx hb d_Mod_work_78 (by decide) ?_
    refine lv_icmp_ne (tgt := 99) hx hb d_Mod_work_80 (by decide) (fun _ => ?_) (fun h9 => absurd h9 (by decide))
    refine lv_iload_n hx hb d_Mod_work_99 rfl (lv_at hl 4 rfl) ?_
    refine lv_bipush (v := 83) hx hb d_Mod_work_100 (by decide) ?_
    refine lv_icmp_ne (tgt := 118) hx hb d_Mod_work_102 (by decide) (fun _ => ?_) (fun h9 => absurd h9 (by decide))
    refine lv_iload_n hx hb d_Mod_work_118 rfl (lv_at hl 4 rfl) ?_
    refine lv_bipush (v := 79) hx hb d_Mod_work_119 (by decide) ?_
    refine lv_icmp_ne (tgt := 131) hx hb d_Mod_work_121 (by decide) (fun _ => ?_) (fun h9 => absurd h9 (by decide))
    refine lv_iload_n hx hb d_Mod_work_131 rfl (lv_at hl 4 rfl) ?_
    refine lv_bipush (v := 68) hx hb d_Mod_work_132 (by decide) ?_
    refine lv_icmp_eq (tgt := 143) hx hb d_Mod_work_134 (by decide) (fun h9 => absurd h9 (by decide)) (fun _ => ?_)
    refine lv_iload_n hx hb d_Mod_work_137 rfl (lv_at hl 4 rfl) ?_
    refine lv_bipush (v := 88) hx hb d_Mod_work_138 (by decide) ?_
    refine lv_icmp_ne (tgt := 150) hx hb d_Mod_work_140 (by decide) (fun _ => ?_) (fun h9 => absurd h9 (by decide))
    refine lv_iload_n hx hb d_Mod_work_150 rfl (lv_at hl 4 rfl) ?_
    refine lv_bipush (v := 68) hx hb d_Mod_work_151 (by decide) ?_
    refine lv_icmp_ne (tgt := 163) hx hb d_Mod_work_153 (by decide) (fun _ => ?_) (fun h9 => absurd h9 (by decide))
    refine lv_iload_n hx hb d_Mod_work_163 rfl (lv_at hl 4 rfl) ?_
    refine lv_bipush (v := 88) hx hb d_Mod_work_164 (by decide) ?_
    refine lv_icmp_ne (tgt := 176) hx hb d_Mod_work_166 (by decide) (fun _ => ?_) (fun h9 => absurd h9 (by decide))
    exact km_v F hlocks hret hP hD hS d_Mod_work_176 (by unfold dWork; rw [if_neg (by decide), if_neg (by decide), if_neg (by decide), if_neg (by decide), if_neg (by decide), if_neg (by decide), if_neg (by decide), if_neg (by decide), if_neg (by decide), if_neg (by decide), if_neg (by decide), if_pos rfl])

set_option maxRecDepth 100000 in
set_option maxHeartbeats 4000000 in
theorem c_Mod_next (l : Launch) (Dg : va_G) (a : Nat → Nat) (k : Nat → ClassId) (D : vSt) (mm c n : Int32) (H : Heap) (hP : va_P Dg classes (wD a k D) H) (hD : va_D (fun _ => True) (wD a k D)) (hc : okC c) (hm0 : vp_in mm 2) (ht0 : ¬ (c = 67 ∨ c = 82 ∨ c = 90) ∨ (dOk D mm ∧ dTrap D mm c = 0)) : kMi l y_Mod_next b_Mod_next 5 (some FieldType.int) 1 21 [.ref (a 0), .int mm, .int c, .int n] H (va_K Dg classes (kTy k)) Dg (wD a k D) (wD a k (dNxM D mm c)) (dNxR D mm c n) := by
  refine k_of (by decide) (Nat.le_of_ble_eq_true rfl) ?_
  intro p e s m below meth cd ls F hlocks hret hname hh hX hl
  subst hh
  obtain ⟨hx, hb, hml, hown, hT⟩ := id F
  have hK : va_K Dg classes (kTy k) s := hX
  have hA : ∀ q : Nat, s.heap.size ≤ q → va_A (wD a k D) s.heap.size q := fun q h => Or.inr h
  have hD := hD.self (sz := s.heap.size)
  have hS : va_S (va_A (wD a k D) s.heap.size) s.heap s.heap [] := va_S.rf
  have hl : lv_has ls 5 [(0, .ref (a 0)), (1, .int mm), (2, .int c), (3, .int n)] := hl
  rcases hc with rfl | rfl | rfl | rfl | rfl | rfl | rfl | rfl | rfl | rfl | rfl | rfl | rfl | rfl | rfl | rfl | rfl | rfl
  · skip
    refine lv_aload_n hx hb d_Mod_next_0 rfl (lv_at hl 0 rfl) ?_
    refine va_get (D := Dg) (ci := 3) (v := .ref (a 5)) (C := R_Mod) (T := F_Mod) (N := 17) hx hb hT in_Mod hown hK hP 0 rfl rfl 7 (by decide) (hT _ tw2_233) (fun _ h9 => h9) rfl d_Mod_next_1 ?_
    refine lv_iload_n hx hb d_Mod_next_4 rfl (lv_at hl 1 rfl) ?_
    refine va_iald (f := (D 4)) hx hb hK hP 5 0 rfl rfl hm0 d_Mod_next_5 ?_
    refine lv_iconst (v := 1) hx hb d_Mod_next_6 (by decide) ?_
    refine lv_iadd hx hb d_Mod_next_7 ?_
    refine lv_istore hx hb d_Mod_next_8 hl (by decide) rfl (fun ls hl => ?_)
    have hl : lv_has ls 5 [(4, .int (((D 4) mm.toNatClampNeg) + 1)), (0, .ref (a 0)), (1, .int mm), (2, .int 80), (3, .int n)] := hl
    refine lv_iload_n hx hb d_Mod_next_10 rfl (lv_at hl 3 rfl) ?_
    refine lv_bipush (v := 67) hx hb d_Mod_next_11 (by decide) ?_
    refine lv_icmp_ne (tgt := 44) hx hb d_Mod_next_13 (by decide) (fun _ => ?_) (fun h9 => absurd h9 (by decide))
    refine lv_iload_n hx hb d_Mod_next_44 rfl (lv_at hl 3 rfl) ?_
    refine lv_bipush (v := 82) hx hb d_Mod_next_45 (by decide) ?_
    refine lv_icmp_ne (tgt := 77) hx hb d_Mod_next_47 (by decide) (fun _ => ?_) (fun h9 => absurd h9 (by decide))
    refine lv_iload_n hx hb d_Mod_next_77 rfl (lv_at hl 3 rfl) ?_
    refine lv_bipush (v := 72) hx hb d_Mod_next_78 (by decide) ?_
    refine lv_icmp_ne (tgt := 90) hx hb d_Mod_next_80 (by decide) (fun _ => ?_) (fun h9 => absurd h9 (by decide))
    refine lv_iload_n hx hb d_Mod_next_90 rfl (lv_at hl 3 rfl) ?_
    refine lv_bipush (v := 90) hx hb d_Mod_next_91 (by decide) ?_
    refine lv_icmp_ne (tgt := 111) hx hb d_Mod_next_93 (by decide) (fun _ => ?_) (fun h9 => absurd h9 (by decide))
    refine lv_iload_n hx hb d_Mod_next_111 rfl (lv_at hl 3 rfl) ?_
    refine lv_bipush (v := 74) hx hb d_Mod_next_112 (by decide) ?_
    refine lv_icmp_eq (tgt := 123) hx hb d_Mod_next_114 (by decide) (fun h9 => absurd h9 (by decide)) (fun _ => ?_)
    refine lv_iload_n hx hb d_Mod_next_117 rfl (lv_at hl 3 rfl) ?_
    refine lv_bipush (v := 67) hx hb d_Mod_next_118 (by decide) ?_
    refine lv_icmp_ne (tgt := 127) hx hb d_Mod_next_120 (by decide) (fun _ => ?_) (fun h9 => absurd h9 (by decide))
    refine lv_iload_n hx hb d_Mod_next_127 rfl (lv_at hl 3 rfl) ?_
    refine lv_bipush (v := 72) hx hb d_Mod_next_128 (by decide) ?_
    refine lv_icmp_ne (tgt := 142) hx hb d_Mod_next_130 (by decide) (fun _ => ?_) (fun h9 => absurd h9 (by decide))
    refine lv_iload hx hb d_Mod_next_142 (lv_at hl 0 rfl) ?_
    exact km_i F hlocks hret hP hD hS d_Mod_next_144 (by unfold dNxR; rw [if_neg (by decide), if_neg (by decide), if_neg (by decide), if_neg (by decide), if_neg (by decide)]) (by unfold dNxM; rw [if_neg (by decide), if_neg (by decide), if_neg (by decide), if_neg (by decide)])
  · skip
    refine lv_aload_n hx hb d_Mod_next_0 rfl (lv_at hl 0 rfl) ?_
    refine va_get (D := Dg) (ci := 3) (v := .ref (a 5)) (C := R_Mod) (T := F_Mod) (N := 17) hx hb hT in_Mod hown hK hP 0 rfl rfl 7 (by decide) (hT _ tw2_233) (fun _ h9 => h9) rfl d_Mod_next_1 ?_
    refine lv_iload_n hx hb d_Mod_next_4 rfl (lv_at hl 1 rfl) ?_
    refine va_iald (f := (D 4)) hx hb hK hP 5 0 rfl rfl hm0 d_Mod_next_5 ?_
    refine lv_iconst (v := 1) hx hb d_Mod_next_6 (by decide) ?_
    refine lv_iadd hx hb d_Mod_next_7 ?_
    refine lv_istore hx hb d_Mod_next_8 hl (by decide) rfl (fun ls hl => ?_)
    have hl : lv_has ls 5 [(4, .int (((D 4) mm.toNatClampNeg) + 1)), (0, .ref (a 0)), (1, .int mm), (2, .int 76), (3, .int n)] := hl
    refine lv_iload_n hx hb d_Mod_next_10 rfl (lv_at hl 3 rfl) ?_
    refine lv_bipush (v := 67) hx hb d_Mod_next_11 (by decide) ?_
    refine lv_icmp_ne (tgt := 44) hx hb d_Mod_next_13 (by decide) (fun _ => ?_) (fun h9 => absurd h9 (by decide))
    refine lv_iload_n hx hb d_Mod_next_44 rfl (lv_at hl 3 rfl) ?_
    refine lv_bipush (v := 82) hx hb d_Mod_next_45 (by decide) ?_
    refine lv_icmp_ne (tgt := 77) hx hb d_Mod_next_47 (by decide) (fun _ => ?_) (fun h9 => absurd h9 (by decide))
    refine lv_iload_n hx hb d_Mod_next_77 rfl (lv_at hl 3 rfl) ?_
    refine lv_bipush (v := 72) hx hb d_Mod_next_78 (by decide) ?_
    refine lv_icmp_ne (tgt := 90) hx hb d_Mod_next_80 (by decide) (fun _ => ?_) (fun h9 => absurd h9 (by decide))
    refine lv_iload_n hx hb d_Mod_next_90 rfl (lv_at hl 3 rfl) ?_
    refine lv_bipush (v := 90) hx hb d_Mod_next_91 (by decide) ?_
    refine lv_icmp_ne (tgt := 111) hx hb d_Mod_next_93 (by decide) (fun _ => ?_) (fun h9 => absurd h9 (by decide))
    refine lv_iload_n hx hb d_Mod_next_111 rfl (lv_at hl 3 rfl) ?_
    refine lv_bipush (v := 74) hx hb d_Mod_next_112 (by decide) ?_
    refine lv_icmp_eq (tgt := 123) hx hb d_Mod_next_114 (by decide) (fun h9 => absurd h9 (by decide)) (fun _ => ?_)
    refine lv_iload_n hx hb d_Mod_next_117 rfl (lv_at hl 3 rfl) ?_
    refine lv_bipush (v := 67) hx hb d_Mod_next_118 (by decide) ?_
    refine lv_icmp_ne (tgt := 127) hx hb d_Mod_next_120 (by decide) (fun _ => ?_) (fun h9 => absurd h9 (by decide))
    refine lv_iload_n hx hb d_Mod_next_127 rfl (lv_at hl 3 rfl) ?_
    refine lv_bipush (v := 72) hx hb d_Mod_next_128 (by decide) ?_
    refine lv_icmp_ne (tgt := 142) hx hb d_Mod_next_130 (by decide) (fun _ => ?_) (fun h9 => absurd h9 (by decide))
    refine lv_iload hx hb d_Mod_next_142 (lv_at hl 0 rfl) ?_
    exact km_i F hlocks hret hP hD hS d_Mod_next_144 (by unfold dNxR; rw [if_neg (by decide), if_neg (by decide), if_neg (by decide), if_neg (by decide), if_neg (by decide)]) (by unfold dNxM; rw [if_neg (by decide), if_neg (by decide), if_neg (by decide), if_neg (by decide)])
  · skip
    refine lv_aload_n hx hb d_Mod_next_0 rfl (lv_at hl 0 rfl) ?_
    refine va_get (D := Dg) (ci := 3) (v := .ref (a 5)) (C := R_Mod) (T := F_Mod) (N := 17) hx hb hT in_Mod hown hK hP 0 rfl rfl 7 (by decide) (hT _ tw2_233) (fun _ h9 => h9) rfl d_Mod_next_1 ?_
    refine lv_iload_n hx hb d_Mod_next_4 rfl (lv_at hl 1 rfl) ?_
    refine va_iald (f := (D 4)) hx hb hK hP 5 0 rfl rfl hm0 d_Mod_next_5 ?_
    refine lv_iconst (v := 1) hx hb d_Mod_next_6 (by decide) ?_
    refine lv_iadd hx hb d_Mod_next_7 ?_
    refine lv_istore hx hb d_Mod_next_8 hl (by decide) rfl (fun ls hl => ?_)
    have hl : lv_has ls 5 [(4, .int (((D 4) mm.toNatClampNeg) + 1)), (0, .ref (a 0)), (1, .int mm), (2, .int 83), (3, .int n)] := hl
    refine lv_iload_n hx hb d_Mod_next_10 rfl (lv_at hl 3 rfl) ?_
    refine lv_bipush (v := 67) hx hb d_Mod_next_11 (by decide) ?_
    refine lv_icmp_ne (tgt := 44) hx hb d_Mod_next_13 (by decide) (fun _ => ?_) (fun h9 => absurd h9 (by decide))
    refine lv_iload_n hx hb d_Mod_next_44 rfl (lv_at hl 3 rfl) ?_
    refine lv_bipush (v := 82) hx hb d_Mod_next_45 (by decide) ?_
    refine lv_icmp_ne (tgt := 77) hx hb d_Mod_next_47 (by decide) (fun _ => ?_) (fun h9 => absurd h9 (by decide))
    refine lv_iload_n hx hb d_Mod_next_77 rfl (lv_at hl 3 rfl) ?_
    refine lv_bipush (v := 72) hx hb d_Mod_next_78 (by decide) ?_
    refine lv_icmp_ne (tgt := 90) hx hb d_Mod_next_80 (by decide) (fun _ => ?_) (fun h9 => absurd h9 (by decide))
    refine lv_iload_n hx hb d_Mod_next_90 rfl (lv_at hl 3 rfl) ?_
    refine lv_bipush (v := 90) hx hb d_Mod_next_91 (by decide) ?_
    refine lv_icmp_ne (tgt := 111) hx hb d_Mod_next_93 (by decide) (fun _ => ?_) (fun h9 => absurd h9 (by decide))
    refine lv_iload_n hx hb d_Mod_next_111 rfl (lv_at hl 3 rfl) ?_
    refine lv_bipush (v := 74) hx hb d_Mod_next_112 (by decide) ?_
    refine lv_icmp_eq (tgt := 123) hx hb d_Mod_next_114 (by decide) (fun h9 => absurd h9 (by decide)) (fun _ => ?_)
    refine lv_iload_n hx hb d_Mod_next_117 rfl (lv_at hl 3 rfl) ?_
    refine lv_bipush (v := 67) hx hb d_Mod_next_118 (by decide) ?_
    refine lv_icmp_ne (tgt := 127) hx hb d_Mod_next_120 (by decide) (fun _ => ?_) (fun h9 => absurd h9 (by decide))
    refine lv_iload_n hx hb d_Mod_next_127 rfl (lv_at hl 3 rfl) ?_
    refine lv_bipush (v := 72) hx hb d_Mod_next_128 (by decide) ?_
    refine lv_icmp_ne (tgt := 142) hx hb d_Mod_next_130 (by decide) (fun _ => ?_) (fun h9 => absurd h9 (by decide))
    refine lv_iload hx hb d_Mod_next_142 (lv_at hl 0 rfl) ?_
    exact km_i F hlocks hret hP hD hS d_Mod_next_144 (by unfold dNxR; rw [if_neg (by decide), if_neg (by decide), if_neg (by decide), if_neg (by decide), if_neg (by decide)]) (by unfold dNxM; rw [if_neg (by decide), if_neg (by decide), if_neg (by decide), if_neg (by decide)])
  · skip
    refine lv_aload_n hx hb d_Mod_next_0 rfl (lv_at hl 0 rfl) ?_
    refine va_get (D := Dg) (ci := 3) (v := .ref (a 5)) (C := R_Mod) (T := F_Mod) (N := 17) hx hb hT in_Mod hown hK hP 0 rfl rfl 7 (by decide) (hT _ tw2_233) (fun _ h9 => h9) rfl d_Mod_next_1 ?_
    refine lv_iload_n hx hb d_Mod_next_4 rfl (lv_at hl 1 rfl) ?_
    refine va_iald (f := (D 4)) hx hb hK hP 5 0 rfl rfl hm0 d_Mod_next_5 ?_
    refine lv_iconst (v := 1) hx hb d_Mod_next_6 (by decide) ?_
    refine lv_iadd hx hb d_Mod_next_7 ?_
    refine lv_istore hx hb d_Mod_next_8 hl (by decide) rfl (fun ls hl => ?_)
    have hl : lv_has ls 5 [(4, .int (((D 4) mm.toNatClampNeg) + 1)), (0, .ref (a 0)), (1, .int mm), (2, .int 43), (3, .int n)] := hl
    refine lv_iload_n hx hb d_Mod_next_10 rfl (lv_at hl 3 rfl) ?_
    refine lv_bipush (v := 67) hx hb d_Mod_next_11 (by decide) ?_
    refine lv_icmp_ne (tgt := 44) hx hb d_Mod_next_13 (by decide) (fun _ => ?_) (fun h9 => absurd h9 (by decide))
    refine lv_iload_n hx hb d_Mod_next_44 rfl (lv_at hl 3 rfl) ?_
    refine lv_bipush (v := 82) hx hb d_Mod_next_45 (by decide) ?_
    refine lv_icmp_ne (tgt := 77) hx hb d_Mod_next_47 (by decide) (fun _ => ?_) (fun h9 => absurd h9 (by decide))
    refine lv_iload_n hx hb d_Mod_next_77 rfl (lv_at hl 3 rfl) ?_
    refine lv_bipush (v := 72) hx hb d_Mod_next_78 (by decide) ?_
    refine lv_icmp_ne (tgt := 90) hx hb d_Mod_next_80 (by decide) (fun _ => ?_) (fun h9 => absurd h9 (by decide))
    refine lv_iload_n hx hb d_Mod_next_90 rfl (lv_at hl 3 rfl) ?_
    refine lv_bipush (v := 90) hx hb d_Mod_next_91 (by decide) ?_
    refine lv_icmp_ne (tgt := 111) hx hb d_Mod_next_93 (by decide) (fun _ => ?_) (fun h9 => absurd h9 (by decide))
    refine lv_iload_n hx hb d_Mod_next_111 rfl (lv_at hl 3 rfl) ?_
    refine lv_bipush (v := 74) hx hb d_Mod_next_112 (by decide) ?_
    refine lv_icmp_eq (tgt := 123) hx hb d_Mod_next_114 (by decide) (fun h9 => absurd h9 (by decide)) (fun _ => ?_)
    refine lv_iload_n hx hb d_Mod_next_117 rfl (lv_at hl 3 rfl) ?_
    refine lv_bipush (v := 67) hx hb d_Mod_next_118 (by decide) ?_
    refine lv_icmp_ne (tgt := 127) hx hb d_Mod_next_120 (by decide) (fun _ => ?_) (fun h9 => absurd h9 (by decide))
    refine lv_iload_n hx hb d_Mod_next_127 rfl (lv_at hl 3 rfl) ?_
    refine lv_bipush (v := 72) hx hb d_Mod_next_128 (by decide) ?_
    refine lv_icmp_ne (tgt := 142) hx hb d_Mod_next_130 (by decide) (fun _ => ?_) (fun h9 => absurd h9 (by decide))
    refine lv_iload hx hb d_Mod_next_142 (lv_at hl 0 rfl) ?_
    exact km_i F hlocks hret hP hD hS d_Mod_next_144 (by unfold dNxR; rw [if_neg (by decide), if_neg (by decide), if_neg (by decide), if_neg (by decide), if_neg (by decide)]) (by unfold dNxM; rw [if_neg (by decide), if_neg (by decide), if_neg (by decide), if_neg (by decide)])
  · skip
    refine lv_aload_n hx hb d_Mod_next_0 rfl (lv_at hl 0 rfl) ?_
    refine va_get (D := Dg) (ci := 3) (v := .ref (a 5)) (C := R_Mod) (T := F_Mod) (N := 17) hx hb hT in_Mod hown hK hP 0 rfl rfl 7 (by decide) (hT _ tw2_233) (fun _ h9 => h9) rfl d_Mod_next_1 ?_
    refine lv_iload_n hx hb d_Mod_next_4 rfl (lv_at hl 1 rfl) ?_
    refine va_iald (f := (D 4)) hx hb hK hP 5 0 rfl rfl hm0 d_Mod_next_5 ?_
    refine lv_iconst (v := 1) hx hb d_Mod_next_6 (by decide) ?_
    refine lv_iadd hx hb d_Mod_next_7 ?_
    refine lv_istore hx hb d_Mod_next_8 hl (by decide) rfl (fun ls hl => ?_)
    have hl : lv_has ls 5 [(4, .int (((D 4) mm.toNatClampNeg) + 1)), (0, .ref (a 0)), (1, .int mm), (2, .int 45), (3, .int n)] := hl
    refine lv_iload_n hx hb d_Mod_next_10 rfl (lv_at hl 3 rfl) ?_
    refine lv_bipush (v := 67) hx hb d_Mod_next_11 (by decide) ?_
    refine lv_icmp_ne (tgt := 44) hx hb d_Mod_next_13 (by decide) (fun _ => ?_) (fun h9 => absurd h9 (by decide))
    refine lv_iload_n hx hb d_Mod_next_44 rfl (lv_at hl 3 rfl) ?_
    refine lv_bipush (v := 82) hx hb d_Mod_next_45 (by decide) ?_
    refine lv_icmp_ne (tgt := 77) hx hb d_Mod_next_47 (by decide) (fun _ => ?_) (fun h9 => absurd h9 (by decide))
    refine lv_iload_n hx hb d_Mod_next_77 rfl (lv_at hl 3 rfl) ?_
    refine lv_bipush (v := 72) hx hb d_Mod_next_78 (by decide) ?_
    refine lv_icmp_ne (tgt := 90) hx hb d_Mod_next_80 (by decide) (fun _ => ?_) (fun h9 => absurd h9 (by decide))
    refine lv_iload_n hx hb d_Mod_next_90 rfl (lv_at hl 3 rfl) ?_
    refine lv_bipush (v := 90) hx hb d_Mod_next_91 (by decide) ?_
    refine lv_icmp_ne (tgt := 111) hx hb d_Mod_next_93 (by decide) (fun _ => ?_) (fun h9 => absurd h9 (by decide))
    refine lv_iload_n hx hb d_Mod_next_111 rfl (lv_at hl 3 rfl) ?_
    refine lv_bipush (v := 74) hx hb d_Mod_next_112 (by decide) ?_
    refine lv_icmp_eq (tgt := 123) hx hb d_Mod_next_114 (by decide) (fun h9 => absurd h9 (by decide)) (fun _ => ?_)
    refine lv_iload_n hx hb d_Mod_next_117 rfl (lv_at hl 3 rfl) ?_
    refine lv_bipush (v := 67) hx hb d_Mod_next_118 (by decide) ?_
    refine lv_icmp_ne (tgt := 127) hx hb d_Mod_next_120 (by decide) (fun _ => ?_) (fun h9 => absurd h9 (by decide))
    refine lv_iload_n hx hb d_Mod_next_127 rfl (lv_at hl 3 rfl) ?_
    refine lv_bipush (v := 72) hx hb d_Mod_next_128 (by decide) ?_
    refine lv_icmp_ne (tgt := 142) hx hb d_Mod_next_130 (by decide) (fun _ => ?_) (fun h9 => absurd h9 (by decide))
    refine lv_iload hx hb d_Mod_next_142 (lv_at hl 0 rfl) ?_
    exact km_i F hlocks hret hP hD hS d_Mod_next_144 (by unfold dNxR; rw [if_neg (by decide), if_neg (by decide), if_neg (by decide), if_neg (by decide), if_neg (by decide)]) (by unfold dNxM; rw [if_neg (by decide), if_neg (by decide), if_neg (by decide), if_neg (by decide)])
  · skip
    refine lv_aload_n hx hb d_Mod_next_0 rfl (lv_at hl 0 rfl) ?_
    refine va_get (D := Dg) (ci := 3) (v := .ref (a 5)) (C := R_Mod) (T := F_Mod) (N := 17) hx hb hT in_Mod hown hK hP 0 rfl rfl 7 (by decide) (hT _ tw2_233) (fun _ h9 => h9) rfl d_Mod_next_1 ?_
    refine lv_iload_n hx hb d_Mod_next_4 rfl (lv_at hl 1 rfl) ?_
    refine va_iald (f := (D 4)) hx hb hK hP 5 0 rfl rfl hm0 d_Mod_next_5 ?_
    refine lv_iconst (v := 1) hx hb d_Mod_next_6 (by decide) ?_
    refine lv_iadd hx hb d_Mod_next_7 ?_
    refine lv_istore hx hb d_Mod_next_8 hl (by decide) rfl (fun ls hl => ?_)
    have hl : lv_has ls 5 [(4, .int (((D 4) mm.toNatClampNeg) + 1)), (0, .ref (a 0)), (1, .int mm), (2, .int 42), (3, .int n)] := hl
    refine lv_iload_n hx hb d_Mod_next_10 rfl (lv_at hl 3 rfl) ?_
    refine lv_bipush (v := 67) hx hb d_Mod_next_11 (by decide) ?_
    refine lv_icmp_ne (tgt := 44) hx hb d_Mod_next_13 (by decide) (fun _ => ?_) (fun h9 => absurd h9 (by decide))
    refine lv_iload_n hx hb d_Mod_next_44 rfl (lv_at hl 3 rfl) ?_
    refine lv_bipush (v := 82) hx hb d_Mod_next_45 (by decide) ?_
    refine lv_icmp_ne (tgt := 77) hx hb d_Mod_next_47 (by decide) (fun _ => ?_) (fun h9 => absurd h9 (by decide))
    refine lv_iload_n hx hb d_Mod_next_77 rfl (lv_at hl 3 rfl) ?_
    refine lv_bipush (v := 72) hx hb d_Mod_next_78 (by decide) ?_
    refine lv_icmp_ne (tgt := 90) hx hb d_Mod_next_80 (by decide) (fun _ => ?_) (fun h9 => absurd h9 (by decide))
    refine lv_iload_n hx hb d_Mod_next_90 rfl (lv_at hl 3 rfl) ?_
    refine lv_bipush (v := 90) hx hb d_Mod_next_91 (by decide) ?_
    refine lv_icmp_ne (tgt := 111) hx hb d_Mod_next_93 (by decide) (fun _ => ?_) (fun h9 => absurd h9 (by decide))
    refine lv_iload_n hx hb d_Mod_next_111 rfl (lv_at hl 3 rfl) ?_
    refine lv_bipush (v := 74) hx hb d_Mod_next_112 (by decide) ?_
    refine lv_icmp_eq (tgt := 123) hx hb d_Mod_next_114 (by decide) (fun h9 => absurd h9 (by decide)) (fun _ => ?_)
    refine lv_iload_n hx hb d_Mod_next_117 rfl (lv_at hl 3 rfl) ?_
    refine lv_bipush (v := 67) hx hb d_Mod_next_118 (by decide) ?_
    refine lv_icmp_ne (tgt := 127) hx hb d_Mod_next_120 (by decide) (fun _ => ?_) (fun h9 => absurd h9 (by decide))
    refine lv_iload_n hx hb d_Mod_next_127 rfl (lv_at hl 3 rfl) ?_
    refine lv_bipush (v := 72) hx hb d_Mod_next_128 (by decide) ?_
    refine lv_icmp_ne (tgt := 142) hx hb d_Mod_next_130 (by decide) (fun _ => ?_) (fun h9 => absurd h9 (by decide))
    refine lv_iload hx hb d_Mod_next_142 (lv_at hl 0 rfl) ?_
    exact km_i F hlocks hret hP hD hS d_Mod_next_144 (by unfold dNxR; rw [if_neg (by decide), if_neg (by decide), if_neg (by decide), if_neg (by decide), if_neg (by decide)]) (by unfold dNxM; rw [if_neg (by decide), if_neg (by decide), if_neg (by decide), if_neg (by decide)])
  · skip
    refine lv_aload_n hx hb d_Mod_next_0 rfl (lv_at hl 0 rfl) ?_
    refine va_get (D := Dg) (ci := 3) (v := .ref (a 5)) (C := R_Mod) (T := F_Mod) (N := 17) hx hb hT in_Mod hown hK hP 0 rfl rfl 7 (by decide) (hT _ tw2_233) (fun _ h9 => h9) rfl d_Mod_next_1 ?_
    refine lv_iload_n hx hb d_Mod_next_4 rfl (lv_at hl 1 rfl) ?_
    refine va_iald (f := (D 4)) hx hb hK hP 5 0 rfl rfl hm0 d_Mod_next_5 ?_
    refine lv_iconst (v := 1) hx hb d_Mod_next_6 (by decide) ?_
    refine lv_iadd hx hb d_Mod_next_7 ?_
    refine lv_istore hx hb d_Mod_next_8 hl (by decide) rfl (fun ls hl => ?_)
    have hl : lv_has ls 5 [(4, .int (((D 4) mm.toNatClampNeg) + 1)), (0, .ref (a 0)), (1, .int mm), (2, .int 47), (3, .int n)] := hl
    refine lv_iload_n hx hb d_Mod_next_10 rfl (lv_at hl 3 rfl) ?_
    refine lv_bipush (v := 67) hx hb d_Mod_next_11 (by decide) ?_
    refine lv_icmp_ne (tgt := 44) hx hb d_Mod_next_13 (by decide) (fun _ => ?_) (fun h9 => absurd h9 (by decide))
    refine lv_iload_n hx hb d_Mod_next_44 rfl (lv_at hl 3 rfl) ?_
    refine lv_bipush (v := 82) hx hb d_Mod_next_45 (by decide) ?_
    refine lv_icmp_ne (tgt := 77) hx hb d_Mod_next_47 (by decide) (fun _ => ?_) (fun h9 => absurd h9 (by decide))
    refine lv_iload_n hx hb d_Mod_next_77 rfl (lv_at hl 3 rfl) ?_
    refine lv_bipush (v := 72) hx hb d_Mod_next_78 (by decide) ?_
    refine lv_icmp_ne (tgt := 90) hx hb d_Mod_next_80 (by decide) (fun _ => ?_) (fun h9 => absurd h9 (by decide))
    refine lv_iload_n hx hb d_Mod_next_90 rfl (lv_at hl 3 rfl) ?_
    refine lv_bipush (v := 90) hx hb d_Mod_next_91 (by decide) ?_
    refine lv_icmp_ne (tgt := 111) hx hb d_Mod_next_93 (by decide) (fun _ => ?_) (fun h9 => absurd h9 (by decide))
    refine lv_iload_n hx hb d_Mod_next_111 rfl (lv_at hl 3 rfl) ?_
    refine lv_bipush (v := 74) hx hb d_Mod_next_112 (by decide) ?_
    refine lv_icmp_eq (tgt := 123) hx hb d_Mod_next_114 (by decide) (fun h9 => absurd h9 (by decide)) (fun _ => ?_)
    refine lv_iload_n hx hb d_Mod_next_117 rfl (lv_at hl 3 rfl) ?_
    refine lv_bipush (v := 67) hx hb d_Mod_next_118 (by decide) ?_
    refine lv_icmp_ne (tgt := 127) hx hb d_Mod_next_120 (by decide) (fun _ => ?_) (fun h9 => absurd h9 (by decide))
    refine lv_iload_n hx hb d_Mod_next_127 rfl (lv_at hl 3 rfl) ?_
    refine lv_bipush (v := 72) hx hb d_Mod_next_128 (by decide) ?_
    refine lv_icmp_ne (tgt := 142) hx hb d_Mod_next_130 (by decide) (fun _ => ?_) (fun h9 => absurd h9 (by decide))
    refine lv_iload hx hb d_Mod_next_142 (lv_at hl 0 rfl) ?_
    exact km_i F hlocks hret hP hD hS d_Mod_next_144 (by unfold dNxR; rw [if_neg (by decide), if_neg (by decide), if_neg (by decide), if_neg (by decide), if_neg (by decide)]) (by unfold dNxM; rw [if_neg (by decide), if_neg (by decide), if_neg (by decide), if_neg (by decide)])
  · skip
    refine lv_aload_n hx hb d_Mod_next_0 rfl (lv_at hl 0 rfl) ?_
    refine va_get (D := Dg) (ci := 3) (v := .ref (a 5)) (C := R_Mod) (T := F_Mod) (N := 17) hx hb hT in_Mod hown hK hP 0 rfl rfl 7 (by decide) (hT _ tw2_233) (fun _ h9 => h9) rfl d_Mod_next_1 ?_
    refine lv_iload_n hx hb d_Mod_next_4 rfl (lv_at hl 1 rfl) ?_
    refine va_iald (f := (D 4)) hx hb hK hP 5 0 rfl rfl hm0 d_Mod_next_5 ?_
    refine lv_iconst (v := 1) hx hb d_Mod_next_6 (by decide) ?_
    refine lv_iadd hx hb d_Mod_next_7 ?_
    refine lv_istore hx hb d_Mod_next_8 hl (by decide) rfl (fun ls hl => ?_)
    have hl : lv_has ls 5 [(4, .int (((D 4) mm.toNatClampNeg) + 1)), (0, .ref (a 0)), (1, .int mm), (2, .int 60), (3, .int n)] := hl
    refine lv_iload_n hx hb d_Mod_next_10 rfl (lv_at hl 3 rfl) ?_
    refine lv_bipush (v := 67) hx hb d_Mod_next_11 (by decide) ?_
    refine lv_icmp_ne (tgt := 44) hx hb d_Mod_next_13 (by decide) (fun _ => ?_) (fun h9 => absurd h9 (by decide))
    refine lv_iload_n hx hb d_Mod_next_44 rfl (lv_at hl 3 rfl) ?_
    refine lv_bipush (v := 82) hx hb d_Mod_next_45 (by decide) ?_
    refine lv_icmp_ne (tgt := 77) hx hb d_Mod_next_47 (by decide) (fun _ => ?_) (fun h9 => absurd h9 (by decide))
    refine lv_iload_n hx hb d_Mod_next_77 rfl (lv_at hl 3 rfl) ?_
    refine lv_bipush (v := 72) hx hb d_Mod_next_78 (by decide) ?_
    refine lv_icmp_ne (tgt := 90) hx hb d_Mod_next_80 (by decide) (fun _ => ?_) (fun h9 => absurd h9 (by decide))
    refine lv_iload_n hx hb d_Mod_next_90 rfl (lv_at hl 3 rfl) ?_
    refine lv_bipush (v := 90) hx hb d_Mod_next_91 (by decide) ?_
    refine lv_icmp_ne (tgt := 111) hx hb d_Mod_next_93 (by decide) (fun _ => ?_) (fun h9 => absurd h9 (by decide))
    refine lv_iload_n hx hb d_Mod_next_111 rfl (lv_at hl 3 rfl) ?_
    refine lv_bipush (v := 74) hx hb d_Mod_next_112 (by decide) ?_
    refine lv_icmp_eq (tgt := 123) hx hb d_Mod_next_114 (by decide) (fun h9 => absurd h9 (by decide)) (fun _ => ?_)
    refine lv_iload_n hx hb d_Mod_next_117 rfl (lv_at hl 3 rfl) ?_
    refine lv_bipush (v := 67) hx hb d_Mod_next_118 (by decide) ?_
    refine lv_icmp_ne (tgt := 127) hx hb d_Mod_next_120 (by decide) (fun _ => ?_) (fun h9 => absurd h9 (by decide))
    refine lv_iload_n hx hb d_Mod_next_127 rfl (lv_at hl 3 rfl) ?_
    refine lv_bipush (v := 72) hx hb d_Mod_next_128 (by decide) ?_
    refine lv_icmp_ne (tgt := 142) hx hb d_Mod_next_130 (by decide) (fun _ => ?_) (fun h9 => absurd h9 (by decide))
    refine lv_iload hx hb d_Mod_next_142 (lv_at hl 0 rfl) ?_
    exact km_i F hlocks hret hP hD hS d_Mod_next_144 (by unfold dNxR; rw [if_neg (by decide), if_neg (by decide), if_neg (by decide), if_neg (by decide), if_neg (by decide)]) (by unfold dNxM; rw [if_neg (by decide), if_neg (by decide), if_neg (by decide), if_neg (by decide)])
  · skip
    refine lv_aload_n hx hb d_Mod_next_0 rfl (lv_at hl 0 rfl) ?_
    refine va_get (D := Dg) (ci := 3) (v := .ref (a 5)) (C := R_Mod) (T := F_Mod) (N := 17) hx hb hT in_Mod hown hK hP 0 rfl rfl 7 (by decide) (hT _ tw2_233) (fun _ h9 => h9) rfl d_Mod_next_1 ?_
    refine lv_iload_n hx hb d_Mod_next_4 rfl (lv_at hl 1 rfl) ?_
    refine va_iald (f := (D 4)) hx hb hK hP 5 0 rfl rfl hm0 d_Mod_next_5 ?_
    refine lv_iconst (v := 1) hx hb d_Mod_next_6 (by decide) ?_
    refine lv_iadd hx hb d_Mod_next_7 ?_
    refine lv_istore hx hb d_Mod_next_8 hl (by decide) rfl (fun ls hl => ?_)
    have hl : lv_has ls 5 [(4, .int (((D 4) mm.toNatClampNeg) + 1)), (0, .ref (a 0)), (1, .int mm), (2, .int 61), (3, .int n)] := hl
    refine lv_iload_n hx hb d_Mod_next_10 rfl (lv_at hl 3 rfl) ?_
    refine lv_bipush (v := 67) hx hb d_Mod_next_11 (by decide) ?_
    refine lv_icmp_ne (tgt := 44) hx hb d_Mod_next_13 (by decide) (fun _ => ?_) (fun h9 => absurd h9 (by decide))
    refine lv_iload_n hx hb d_Mod_next_44 rfl (lv_at hl 3 rfl) ?_
    refine lv_bipush (v := 82) hx hb d_Mod_next_45 (by decide) ?_
    refine lv_icmp_ne (tgt := 77) hx hb d_Mod_next_47 (by decide) (fun _ => ?_) (fun h9 => absurd h9 (by decide))
    refine lv_iload_n hx hb d_Mod_next_77 rfl (lv_at hl 3 rfl) ?_
    refine lv_bipush (v := 72) hx hb d_Mod_next_78 (by decide) ?_
    refine lv_icmp_ne (tgt := 90) hx hb d_Mod_next_80 (by decide) (fun _ => ?_) (fun h9 => absurd h9 (by decide))
    refine lv_iload_n hx hb d_Mod_next_90 rfl (lv_at hl 3 rfl) ?_
    refine lv_bipush (v := 90) hx hb d_Mod_next_91 (by decide) ?_
    refine lv_icmp_ne (tgt := 111) hx hb d_Mod_next_93 (by decide) (fun _ => ?_) (fun h9 => absurd h9 (by decide))
    refine lv_iload_n hx hb d_Mod_next_111 rfl (lv_at hl 3 rfl) ?_
    refine lv_bipush (v := 74) hx hb d_Mod_next_112 (by decide) ?_
    refine lv_icmp_eq (tgt := 123) hx hb d_Mod_next_114 (by decide) (fun h9 => absurd h9 (by decide)) (fun _ => ?_)
    refine lv_iload_n hx hb d_Mod_next_117 rfl (lv_at hl 3 rfl) ?_
    refine lv_bipush (v := 67) hx hb d_Mod_next_118 (by decide) ?_
    refine lv_icmp_ne (tgt := 127) hx hb d_Mod_next_120 (by decide) (fun _ => ?_) (fun h9 => absurd h9 (by decide))
    refine lv_iload_n hx hb d_Mod_next_127 rfl (lv_at hl 3 rfl) ?_
    refine lv_bipush (v := 72) hx hb d_Mod_next_128 (by decide) ?_
    refine lv_icmp_ne (tgt := 142) hx hb d_Mod_next_130 (by decide) (fun _ => ?_) (fun h9 => absurd h9 (by decide))
    refine lv_iload hx hb d_Mod_next_142 (lv_at hl 0 rfl) ?_
    exact km_i F hlocks hret hP hD hS d_Mod_next_144 (by unfold dNxR; rw [if_neg (by decide), if_neg (by decide), if_neg (by decide), if_neg (by decide), if_neg (by decide)]) (by unfold dNxM; rw [if_neg (by decide), if_neg (by decide), if_neg (by decide), if_neg (by decide)])
  · skip
    refine lv_aload_n hx hb d_Mod_next_0 rfl (lv_at hl 0 rfl) ?_
    refine va_get (D := Dg) (ci := 3) (v := .ref (a 5)) (C := R_Mod) (T := F_Mod) (N := 17) hx hb hT in_Mod hown hK hP 0 rfl rfl 7 (by decide) (hT _ tw2_233) (fun _ h9 => h9) rfl d_Mod_next_1 ?_
    refine lv_iload_n hx hb d_Mod_next_4 rfl (lv_at hl 1 rfl) ?_
    refine va_iald (f := (D 4)) hx hb hK hP 5 0 rfl rfl hm0 d_Mod_next_5 ?_
    refine lv_iconst (v := 1) hx hb d_Mod_next_6 (by decide) ?_
    refine lv_iadd hx hb d_Mod_next_7 ?_
    refine lv_istore hx hb d_Mod_next_8 hl (by decide) rfl (fun ls hl => ?_)
    have hl : lv_has ls 5 [(4, .int (((D 4) mm.toNatClampNeg) + 1)), (0, .ref (a 0)), (1, .int mm), (2, .int 68), (3, .int n)] := hl
    refine lv_iload_n hx hb d_Mod_next_10 rfl (lv_at hl 3 rfl) ?_
    refine lv_bipush (v := 67) hx hb d_Mod_next_11 (by decide) ?_
    refine lv_icmp_ne (tgt := 44) hx hb d_Mod_next_13 (by decide) (fun _ => ?_) (fun h9 => absurd h9 (by decide))
    refine lv_iload_n hx hb d_Mod_next_44 rfl (lv_at hl 3 rfl) ?_
    refine lv_bipush (v := 82) hx hb d_Mod_next_45 (by decide) ?_
    refine lv_icmp_ne (tgt := 77) hx hb d_Mod_next_47 (by decide) (fun _ => ?_) (fun h9 => absurd h9 (by decide))
    refine lv_iload_n hx hb d_Mod_next_77 rfl (lv_at hl 3 rfl) ?_
    refine lv_bipush (v := 72) hx hb d_Mod_next_78 (by decide) ?_
    refine lv_icmp_ne (tgt := 90) hx hb d_Mod_next_80 (by decide) (fun _ => ?_) (fun h9 => absurd h9 (by decide))
    refine lv_iload_n hx hb d_Mod_next_90 rfl (lv_at hl 3 rfl) ?_
    refine lv_bipush (v := 90) hx hb d_Mod_next_91 (by decide) ?_
    refine lv_icmp_ne (tgt := 111) hx hb d_Mod_next_93 (by decide) (fun _ => ?_) (fun h9 => absurd h9 (by decide))
    refine lv_iload_n hx hb d_Mod_next_111 rfl (lv_at hl 3 rfl) ?_
    refine lv_bipush (v := 74) hx hb d_Mod_next_112 (by decide) ?_
    refine lv_icmp_eq (tgt := 123) hx hb d_Mod_next_114 (by decide) (fun h9 => absurd h9 (by decide)) (fun _ => ?_)
    refine lv_iload_n hx hb d_Mod_next_117 rfl (lv_at hl 3 rfl) ?_
    refine lv_bipush (v := 67) hx hb d_Mod_next_118 (by decide) ?_
    refine lv_icmp_ne (tgt := 127) hx hb d_Mod_next_120 (by decide) (fun _ => ?_) (fun h9 => absurd h9 (by decide))
    refine lv_iload_n hx hb d_Mod_next_127 rfl (lv_at hl 3 rfl) ?_
    refine lv_bipush (v := 72) hx hb d_Mod_next_128 (by decide) ?_
    refine lv_icmp_ne (tgt := 142) hx hb d_Mod_next_130 (by decide) (fun _ => ?_) (fun h9 => absurd h9 (by decide))
    refine lv_iload hx hb d_Mod_next_142 (lv_at hl 0 rfl) ?_
    exact km_i F hlocks hret hP hD hS d_Mod_next_144 (by unfold dNxR; rw [if_neg (by decide), if_neg (by decide), if_neg (by decide), if_neg (by decide), if_neg (by decide)]) (by unfold dNxM; rw [if_neg (by decide), if_neg (by decide), if_neg (by decide), if_neg (by decide)])
  · skip
    refine lv_aload_n hx hb d_Mod_next_0 rfl (lv_at hl 0 rfl) ?_
    refine va_get (D := Dg) (ci := 3) (v := .ref (a 5)) (C := R_Mod) (T := F_Mod) (N := 17) hx hb hT in_Mod hown hK hP 0 rfl rfl 7 (by decide) (hT _ tw2_233) (fun _ h9 => h9) rfl d_Mod_next_1 ?_
    refine lv_iload_n hx hb d_Mod_next_4 rfl (lv_at hl 1 rfl) ?_
    refine va_iald (f := (D 4)) hx hb hK hP 5 0 rfl rfl hm0 d_Mod_next_5 ?_
    refine lv_iconst (v := 1) hx hb d_Mod_next_6 (by decide) ?_
    refine lv_iadd hx hb d_Mod_next_7 ?_
    refine lv_istore hx hb d_Mod_next_8 hl (by decide) rfl (fun ls hl => ?_)
    have hl : lv_has ls 5 [(4, .int (((D 4) mm.toNatClampNeg) + 1)), (0, .ref (a 0)), (1, .int mm), (2, .int 88), (3, .int n)] := hl
    refine lv_iload_n hx hb d_Mod_next_10 rfl (lv_at hl 3 rfl) ?_
    refine lv_bipush (v := 67) hx hb d_Mod_next_11 (by decide) ?_
    refine lv_icmp_ne (tgt := 44) hx hb d_Mod_next_13 (by decide) (fun _ => ?_) (fun h9 => absurd h9 (by decide))
    refine lv_iload_n hx hb d_Mod_next_44 rfl (lv_at hl 3 rfl) ?_
    refine lv_bipush (v := 82) hx hb d_Mod_next_45 (by decide) ?_
    refine lv_icmp_ne (tgt := 77) hx hb d_Mod_next_47 (by decide) (fun _ => ?_) (fun h9 => absurd h9 (by decide))
    refine lv_iload_n hx hb d_Mod_next_77 rfl (lv_at hl 3 rfl) ?_
    refine lv_bipush (v := 72) hx hb d_Mod_next_78 (by decide) ?_
    refine lv_icmp_ne (tgt := 90) hx hb d_Mod_next_80 (by decide) (fun _ => ?_) (fun h9 => absurd h9 (by decide))
    refine lv_iload_n hx hb d_Mod_next_90 rfl (lv_at hl 3 rfl) ?_
    refine lv_bipush (v := 90) hx hb d_Mod_next_91 (by decide) ?_
    refine lv_icmp_ne (tgt := 111) hx hb d_Mod_next_93 (by decide) (fun _ => ?_) (fun h9 => absurd h9 (by decide))
    refine lv_iload_n hx hb d_Mod_next_111 rfl (lv_at hl 3 rfl) ?_
    refine lv_bipush (v := 74) hx hb d_Mod_next_112 (by decide) ?_
    refine lv_icmp_eq (tgt := 123) hx hb d_Mod_next_114 (by decide) (fun h9 => absurd h9 (by decide)) (fun _ => ?_)
    refine lv_iload_n hx hb d_Mod_next_117 rfl (lv_at hl 3 rfl) ?_
    refine lv_bipush (v := 67) hx hb d_Mod_next_118 (by decide) ?_
    refine lv_icmp_ne (tgt := 127) hx hb d_Mod_next_120 (by decide) (fun _ => ?_) (fun h9 => absurd h9 (by decide))
    refine lv_iload_n hx hb d_Mod_next_127 rfl (lv_at hl 3 rfl) ?_
    refine lv_bipush (v := 72) hx hb d_Mod_next_128 (by decide) ?_
    refine lv_icmp_ne (tgt := 142) hx hb d_Mod_next_130 (by decide) (fun _ => ?_) (fun h9 => absurd h9 (by decide))
    refine lv_iload hx hb d_Mod_next_142 (lv_at hl 0 rfl) ?_
    exact km_i F hlocks hret hP hD hS d_Mod_next_144 (by unfold dNxR; rw [if_neg (by decide), if_neg (by decide), if_neg (by decide), if_neg (by decide), if_neg (by decide)]) (by unfold dNxM; rw [if_neg (by decide), if_neg (by decide), if_neg (by decide), if_neg (by decide)])
  · skip
    refine lv_aload_n hx hb d_Mod_next_0 rfl (lv_at hl 0 rfl) ?_
    refine va_get (D := Dg) (ci := 3) (v := .ref (a 5)) (C := R_Mod) (T := F_Mod) (N := 17) hx hb hT in_Mod hown hK hP 0 rfl rfl 7 (by decide) (hT _ tw2_233) (fun _ h9 => h9) rfl d_Mod_next_1 ?_
    refine lv_iload_n hx hb d_Mod_next_4 rfl (lv_at hl 1 rfl) ?_
    refine va_iald (f := (D 4)) hx hb hK hP 5 0 rfl rfl hm0 d_Mod_next_5 ?_
    refine lv_iconst (v := 1) hx hb d_Mod_next_6 (by decide) ?_
    refine lv_iadd hx hb d_Mod_next_7 ?_
    refine lv_istore hx hb d_Mod_next_8 hl (by decide) rfl (fun ls hl => ?_)
    have hl : lv_has ls 5 [(4, .int (((D 4) mm.toNatClampNeg) + 1)), (0, .ref (a 0)), (1, .int mm), (2, .int 79), (3, .int n)] := hl
    refine lv_iload_n hx hb d_Mod_next_10 rfl (lv_at hl 3 rfl) ?_
    refine lv_bipush (v := 67) hx hb d_Mod_next_11 (by decide) ?_
    refine lv_icmp_ne (tgt := 44) hx hb d_Mod_next_13 (by decide) (fun _ => ?_) (fun h9 => absurd h9 (by decide))
    refine lv_iload_n hx hb d_Mod_next_44 rfl (lv_at hl 3 rfl) ?_
    refine lv_bipush (v := 82) hx hb d_Mod_next_45 (by decide) ?_
    refine lv_icmp_ne (tgt := 77) hx hb d_Mod_next_47 (by decide) (fun _ => ?_) (fun h9 => absurd h9 (by decide))
    refine lv_iload_n hx hb d_Mod_next_77 rfl (lv_at hl 3 rfl) ?_
    refine lv_bipush (v := 72) hx hb d_Mod_next_78 (by decide) ?_
    refine lv_icmp_ne (tgt := 90) hx hb d_Mod_next_80 (by decide) (fun _ => ?_) (fun h9 => absurd h9 (by decide))
    refine lv_iload_n hx hb d_Mod_next_90 rfl (lv_at hl 3 rfl) ?_
    refine lv_bipush (v := 90) hx hb d_Mod_next_91 (by decide) ?_
    refine lv_icmp_ne (tgt := 111) hx hb d_Mod_next_93 (by decide) (fun _ => ?_) (fun h9 => absurd h9 (by decide))
    refine lv_iload_n hx hb d_Mod_next_111 rfl (lv_at hl 3 rfl) ?_
    refine lv_bipush (v := 74) hx hb d_Mod_next_112 (by decide) ?_
    refine lv_icmp_eq (tgt := 123) hx hb d_Mod_next_114 (by decide) (fun h9 => absurd h9 (by decide)) (fun _ => ?_)
    refine lv_iload_n hx hb d_Mod_next_117 rfl (lv_at hl 3 rfl) ?_
    refine lv_bipush (v := 67) hx hb d_Mod_next_118 (by decide) ?_
    refine lv_icmp_ne (tgt := 127) hx hb d_Mod_next_120 (by decide) (fun _ => ?_) (fun h9 => absurd h9 (by decide))
    refine lv_iload_n hx hb d_Mod_next_127 rfl (lv_at hl 3 rfl) ?_
    refine lv_bipush (v := 72) hx hb d_Mod_next_128 (by decide) ?_
    refine lv_icmp_ne (tgt := 142) hx hb d_Mod_next_130 (by decide) (fun _ => ?_) (fun h9 => absurd h9 (by decide))
    refine lv_iload hx hb d_Mod_next_142 (lv_at hl 0 rfl) ?_
    exact km_i F hlocks hret hP hD hS d_Mod_next_144 (by unfold dNxR; rw [if_neg (by decide), if_neg (by decide), if_neg (by decide), if_neg (by decide), if_neg (by decide)]) (by unfold dNxM; rw [if_neg (by decide), if_neg (by decide), if_neg (by decide), if_neg (by decide)])
  · skip
    refine lv_aload_n hx hb d_Mod_next_0 rfl (lv_at hl 0 rfl) ?_
    refine va_get (D := Dg) (ci := 3) (v := .ref (a 5)) (C := R_Mod) (T := F_Mod) (N := 17) hx hb hT in_Mod hown hK hP 0 rfl rfl 7 (by decide) (hT _ tw2_233) (fun _ h9 => h9) rfl d_Mod_next_1 ?_
    refine lv_iload_n hx hb d_Mod_next_4 rfl (lv_at hl 1 rfl) ?_
    refine va_iald (f := (D 4)) hx hb hK hP 5 0 rfl rfl hm0 d_Mod_next_5 ?_
    refine lv_iconst (v := 1) hx hb d_Mod_next_6 (by decide) ?_
    refine lv_iadd hx hb d_Mod_next_7 ?_
    refine lv_istore hx hb d_Mod_next_8 hl (by decide) rfl (fun ls hl => ?_)
    have hl : lv_has ls 5 [(4, .int (((D 4) mm.toNatClampNeg) + 1)), (0, .ref (a 0)), (1, .int mm), (2, .int 86), (3, .int n)] := hl
    refine lv_iload_n hx hb d_Mod_next_10 rfl (lv_at hl 3 rfl) ?_
    refine lv_bipush (v := 67) hx hb d_Mod_next_11 (by decide) ?_
    refine lv_icmp_ne (tgt := 44) hx hb d_Mod_next_13 (by decide) (fun _ => ?_) (fun h9 => absurd h9 (by decide))
    refine lv_iload_n hx hb d_Mod_next_44 rfl (lv_at hl 3 rfl) ?_
    refine lv_bipush (v := 82) hx hb d_Mod_next_45 (by decide) ?_
    refine lv_icmp_ne (tgt := 77) hx hb d_Mod_next_47 (by decide) (fun _ => ?_) (fun h9 => absurd h9 (by decide))
    refine lv_iload_n hx hb d_Mod_next_77 rfl (lv_at hl 3 rfl) ?_
    refine lv_bipush (v := 72) hx hb d_Mod_next_78 (by decide) ?_
    refine lv_icmp_ne (tgt := 90) hx hb d_Mod_next_80 (by decide) (fun _ => ?_) (fun h9 => absurd h9 (by decide))
    refine lv_iload_n hx hb d_Mod_next_90 rfl (lv_at hl 3 rfl) ?_
    refine lv_bipush (v := 90) hx hb d_Mod_next_91 (by decide) ?_
    refine lv_icmp_ne (tgt := 111) hx hb d_Mod_next_93 (by decide) (fun _ => ?_) (fun h9 => absurd h9 (by decide))
    refine lv_iload_n hx hb d_Mod_next_111 rfl (lv_at hl 3 rfl) ?_
    refine lv_bipush (v := 74) hx hb d_Mod_next_112 (by decide) ?_
    refine lv_icmp_eq (tgt := 123) hx hb d_Mod_next_114 (by decide) (fun h9 => absurd h9 (by decide)) (fun _ => ?_)
    refine lv_iload_n hx hb d_Mod_next_117 rfl (lv_at hl 3 rfl) ?_
    refine lv_bipush (v := 67) hx hb d_Mod_next_118 (by decide) ?_
    refine lv_icmp_ne (tgt := 127) hx hb d_Mod_next_120 (by decide) (fun _ => ?_) (fun h9 => absurd h9 (by decide))
    refine lv_iload_n hx hb d_Mod_next_127 rfl (lv_at hl 3 rfl) ?_
    refine lv_bipush (v := 72) hx hb d_Mod_next_128 (by decide) ?_
    refine lv_icmp_ne (tgt := 142) hx hb d_Mod_next_130 (by decide) (fun _ => ?_) (fun h9 => absurd h9 (by decide))
    refine lv_iload hx hb d_Mod_next_142 (lv_at hl 0 rfl) ?_
    exact km_i F hlocks hret hP hD hS d_Mod_next_144 (by unfold dNxR; rw [if_neg (by decide), if_neg (by decide), if_neg (by decide), if_neg (by decide), if_neg (by decide)]) (by unfold dNxM; rw [if_neg (by decide), if_neg (by decide), if_neg (by decide), if_neg (by decide)])
  · skip
    refine lv_aload_n hx hb d_Mod_next_0 rfl (lv_at hl 0 rfl) ?_
    refine va_get (D := Dg) (ci := 3) (v := .ref (a 5)) (C := R_Mod) (T := F_Mod) (N := 17) hx hb hT in_Mod hown hK hP 0 rfl rfl 7 (by decide) (hT _ tw2_233) (fun _ h9 => h9) rfl d_Mod_next_1 ?_
    refine lv_iload_n hx hb d_Mod_next_4 rfl (lv_at hl 1 rfl) ?_
    refine va_iald (f := (D 4)) hx hb hK hP 5 0 rfl rfl hm0 d_Mod_next_5 ?_
    refine lv_iconst (v := 1) hx hb d_Mod_next_6 (by decide) ?_
    refine lv_iadd hx hb d_Mod_next_7 ?_
    refine lv_istore hx hb d_Mod_next_8 hl (by decide) rfl (fun ls hl => ?_)
    have hl : lv_has ls 5 [(4, .int (((D 4) mm.toNatClampNeg) + 1)), (0, .ref (a 0)), (1, .int mm), (2, .int 74), (3, .int n)] := hl
    refine lv_iload_n hx hb d_Mod_next_10 rfl (lv_at hl 3 rfl) ?_
    refine lv_bipush (v := 67) hx hb d_Mod_next_11 (by decide) ?_
    refine lv_icmp_ne (tgt := 44) hx hb d_Mod_next_13 (by decide) (fun _ => ?_) (fun h9 => absurd h9 (by decide))
    refine lv_iload_n hx hb d_Mod_next_44 rfl (lv_at hl 3 rfl) ?_
    refine lv_bipush (v := 82) hx hb d_Mod_next_45 (by decide) ?_
    refine lv_icmp_ne (tgt := 77) hx hb d_Mod_next_47 (by decide) (fun _ => ?_) (fun h9 => absurd h9 (by decide))
    refine lv_iload_n hx hb d_Mod_next_77 rfl (lv_at hl 3 rfl) ?_
    refine lv_bipush (v := 72) hx hb d_Mod_next_78 (by decide) ?_
    refine lv_icmp_ne (tgt := 90) hx hb d_Mod_next_80 (by decide) (fun _ => ?_) (fun h9 => absurd h9 (by decide))
    refine lv_iload_n hx hb d_Mod_next_90 rfl (lv_at hl 3 rfl) ?_
    refine lv_bipush (v := 90) hx hb d_Mod_next_91 (by decide) ?_
    refine lv_icmp_ne (tgt := 111) hx hb d_Mod_next_93 (by decide) (fun _ => ?_) (fun h9 => absurd h9 (by decide))
    refine lv_iload_n hx hb d_Mod_next_111 rfl (lv_at hl 3 rfl) ?_
    refine lv_bipush (v := 74) hx hb d_Mod_next_112 (by decide) ?_
    refine lv_icmp_eq (tgt := 123) hx hb d_Mod_next_114 (by decide) (fun _ => ?_) (fun h9 => absurd (by decide) h9)
    refine lv_iload_n hx hb d_Mod_next_123 rfl (lv_at hl 4 rfl) ?_
    refine lv_goto (tgt := 144) hx hb d_Mod_next_124 (by decide) ?_
    exact km_i F hlocks hret hP hD hS d_Mod_next_144 (by unfold dNxR; rw [if_neg (by decide), if_neg (by decide), if_neg (by decide), if_neg (by decide), if_pos rfl]) (by unfold dNxM; rw [if_neg (by decide), if_neg (by decide), if_neg (by decide), if_neg (by decide)])
  · obtain ⟨hm, ht⟩ := ht0.resolve_left (fun z => z (by decide))
    obtain ⟨i, h, r, o, hi, em, e0, e1, e2, b0, b1, b2, c1, c2, c3, c4, c5⟩ := dtr_all hm ht
    have hd := tr_n (d := 1) (by decide) c1
    refine lv_aload_n hx hb d_Mod_next_0 rfl (lv_at hl 0 rfl) ?_
    refine va_get (D := Dg) (ci := 3) (v := .ref (a 5)) (C := R_Mod) (T := F_Mod) (N := 17) hx hb hT in_Mod hown hK hP 0 rfl rfl 7 (by decide) (hT _ tw2_233) (fun _ h9 => h9) rfl d_Mod_next_1 ?_
    refine lv_iload_n hx hb d_Mod_next_4 rfl (lv_at hl 1 rfl) ?_
    refine va_iald (f := (D 4)) hx hb hK hP 5 0 rfl rfl hm0 d_Mod_next_5 ?_
    refine lv_iconst (v := 1) hx hb d_Mod_next_6 (by decide) ?_
    refine lv_iadd hx hb d_Mod_next_7 ?_
    refine lv_istore hx hb d_Mod_next_8 hl (by decide) rfl (fun ls hl => ?_)
    have hl : lv_has ls 5 [(4, .int (((D 4) mm.toNatClampNeg) + 1)), (0, .ref (a 0)), (1, .int mm), (2, .int 90), (3, .int n)] := hl
    refine lv_iload_n hx hb d_Mod_next_10 rfl (lv_at hl 3 rfl) ?_
    refine lv_bipush (v := 67) hx hb d_Mod_next_11 (by decide) ?_
    refine lv_icmp_ne (tgt := 44) hx hb d_Mod_next_13 (by decide) (fun _ => ?_) (fun h9 => absurd h9 (by decide))
    refine lv_iload_n hx hb d_Mod_next_44 rfl (lv_at hl 3 rfl) ?_
    refine lv_bipush (v := 82) hx hb d_Mod_next_45 (by decide) ?_
    refine lv_icmp_ne (tgt := 77) hx hb d_Mod_next_47 (by decide) (fun _ => ?_) (fun h9 => absurd h9 (by decide))
    refine lv_iload_n hx hb d_Mod_next_77 rfl (lv_at hl 3 rfl) ?_
    refine lv_bipush (v := 72) hx hb d_Mod_next_78 (by decide) ?_
    refine lv_icmp_ne (tgt := 90) hx hb d_Mod_next_80 (by decide) (fun _ => ?_) (fun h9 => absurd h9 (by decide))
    refine lv_iload_n hx hb d_Mod_next_90 rfl (lv_at hl 3 rfl) ?_
    refine lv_bipush (v := 90) hx hb d_Mod_next_91 (by decide) ?_
    refine lv_icmp_ne (tgt := 111) hx hb d_Mod_next_93 (by decide) (fun h9 => absurd (by decide) h9) (fun _ => ?_)
    refine lv_aload_n hx hb d_Mod_next_96 rfl (lv_at hl 1 rfl) ?_
    refine lv_iload_n hx hb d_Mod_next_97 rfl (lv_at hl 2 rfl) ?_
    refine km_Vi (wr := []) F (c_Mod_pop l Dg a k D mm _ hP (hD.weaken (fun _ _ _ _ => trivial)) (dm_in hm) (ix_40 (c := 40) (i := i) (h := h - 1) 40 rfl em (dPop_5 e0 (by omega)) (by omega) (by decide))) kx_K hK kw_Mod_109 tw3_128 ts_26 (va_recv (ci := 3) (q0 := 0) hK hP rfl rfl) hP hD hS hA [0, 1, 2, 3, 4, 5, 6, 7, 8, 9, 10, 11, 12, 13, 14] [] rfl rfl (by decide) (by decide) d_Mod_next_98 ⟨⟨by decide, by decide⟩, Nat.le_refl _, Nat.le_refl _⟩ rfl hl.1 rfl (Nat.le_of_ble_eq_true rfl) (fun H locs hP hD hS => ?_)
    have hP : va_P Dg classes (wD a k (dPop D mm)) H := hP
    have hD : va_D (va_A (wD a k D) s.heap.size) (wD a k (dPop D mm)) := hD
    obtain ⟨Ds1, hDs1⟩ : ∃ z9, z9 = (dPop D mm) := ⟨_, rfl⟩
    rw [← hDs1] at hP hD
    refine lv_if_ne (tgt := 108) hx hb d_Mod_next_101 (by decide) (fun h101 => ?_) (fun h101 => ?_)
    · refine lv_iload hx hb d_Mod_next_108 (lv_at hl 0 rfl) ?_
      exact km_i F hlocks hret hP hD hS d_Mod_next_110 (by unfold dNxR; rw [if_neg (by decide), if_neg (by decide), if_neg (by decide), if_pos rfl, if_neg h101]) (by subst hDs1; unfold dNxM; rw [if_neg (by decide), if_neg (by decide), if_neg (by decide), if_pos rfl])
    · refine lv_iload_n hx hb d_Mod_next_104 rfl (lv_at hl 4 rfl) ?_
      refine lv_goto (tgt := 110) hx hb d_Mod_next_105 (by decide) ?_
      exact km_i F hlocks hret hP hD hS d_Mod_next_110 (by unfold dNxR; rw [if_neg (by decide), if_neg (by decide), if_neg (by decide), if_pos rfl, if_pos h101]) (by subst hDs1; unfold dNxM; rw [if_neg (by decide), if_neg (by decide), if_neg (by decide), if_pos rfl])
  · obtain ⟨hm, ht⟩ := ht0.resolve_left (fun z => z (by decide))
    obtain ⟨i, h, r, o, hi, em, e0, e1, e2, b0, b1, b2, c1, c2, c3, c4, c5⟩ := dtr_all hm ht
    refine lv_aload_n hx hb d_Mod_next_0 rfl (lv_at hl 0 rfl) ?_
    refine va_get (D := Dg) (ci := 3) (v := .ref (a 5)) (C := R_Mod) (T := F_Mod) (N := 17) hx hb hT in_Mod hown hK hP 0 rfl rfl 7 (by decide) (hT _ tw2_233) (fun _ h9 => h9) rfl d_Mod_next_1 ?_
    refine lv_iload_n hx hb d_Mod_next_4 rfl (lv_at hl 1 rfl) ?_
    refine va_iald (f := (D 4)) hx hb hK hP 5 0 rfl rfl hm0 d_Mod_next_5 ?_
    refine lv_iconst (v := 1) hx hb d_Mod_next_6 (by decide) ?_
    refine lv_iadd hx hb d_Mod_next_7 ?_
    refine lv_istore hx hb d_Mod_next_8 hl (by decide) rfl (fun ls hl => ?_)
    have hl : lv_has ls 5 [(4, .int (((D 4) mm.toNatClampNeg) + 1)), (0, .ref (a 0)), (1, .int mm), (2, .int 67), (3, .int n)] := hl
    refine lv_iload_n hx hb d_Mod_next_10 rfl (lv_at hl 3 rfl) ?_
    refine lv_bipush (v := 67) hx hb d_Mod_next_11 (by decide) ?_
    refine lv_icmp_ne (tgt := 44) hx hb d_Mod_next_13 (by decide) (fun h9 => absurd (by decide) h9) (fun _ => ?_)
    refine lv_aload_n hx hb d_Mod_next_16 rfl (lv_at hl 1 rfl) ?_
    refine va_get (D := Dg) (ci := 3) (v := .ref (a 13)) (C := R_Mod) (T := F_Mod) (N := 17) hx hb hT in_Mod hown hK hP 0 rfl rfl 15 (by decide) (hT _ tw3_1) (fun _ h9 => h9) rfl d_Mod_next_17 ?_
    refine lv_bipush (v := 10) hx hb d_Mod_next_20 (by decide) ?_
    refine lv_iload_n hx hb d_Mod_next_22 rfl (lv_at hl 2 rfl) ?_
    refine lv_imul hx hb d_Mod_next_23 ?_
    refine lv_aload_n hx hb d_Mod_next_24 rfl (lv_at hl 1 rfl) ?_
    refine va_get (D := Dg) (ci := 3) (v := .ref (a 7)) (C := R_Mod) (T := F_Mod) (N := 17) hx hb hT in_Mod hown hK hP 0 rfl rfl 9 (by decide) (hT _ tw2_235) (fun _ h9 => h9) rfl d_Mod_next_25 ?_
    refine lv_iload_n hx hb d_Mod_next_28 rfl (lv_at hl 2 rfl) ?_
    refine va_iald (f := (D 6)) hx hb hK hP 7 0 rfl rfl hm0 d_Mod_next_29 ?_
    refine lv_iadd hx hb d_Mod_next_30 ?_
    refine lv_iload hx hb d_Mod_next_31 (lv_at hl 0 rfl) ?_
    refine va_iast hx hb hK hP hD hS 13 0 rfl rfl (ix_40 (c := 10) (i := i) (h := r) 10 rfl em e1 (by have : r < 10 := (by rcases Nat.lt_or_ge r 10 with q | q; exact q; exact absurd ⟨rfl, by omega⟩ c4); omega) (by decide)) d_Mod_next_33 (fun H locs hP hD hS => ?_)
    have hP : va_P Dg classes (wD a k (u2 D 12 ((10 * mm) + ((D 6) mm.toNatClampNeg)).toNatClampNeg (((D 4) mm.toNatClampNeg) + 1))) H := hP
    have hD : va_D (va_A (wD a k D) s.heap.size) (wD a k (u2 D 12 ((10 * mm) + ((D 6) mm.toNatClampNeg)).toNatClampNeg (((D 4) mm.toNatClampNeg) + 1))) := hD
    obtain ⟨Ds2, hDs2⟩ : ∃ z9, z9 = (u2 D 12 ((10 * mm) + ((D 6) mm.toNatClampNeg)).toNatClampNeg (((D 4) mm.toNatClampNeg) + 1)) := ⟨_, rfl⟩
    rw [← hDs2] at hP hD
    refine lv_aload_n hx hb d_Mod_next_34 rfl (lv_at hl 1 rfl) ?_
    refine va_get (D := Dg) (ci := 3) (v := .ref (a 7)) (C := R_Mod) (T := F_Mod) (N := 17) hx hb hT in_Mod hown hK hP 0 rfl rfl 9 (by decide) (hT _ tw2_235) (fun _ h9 => h9) rfl d_Mod_next_35 ?_
    refine lv_iload_n hx hb d_Mod_next_38 rfl (lv_at hl 2 rfl) ?_
    refine lv_dup2_11 hx hb d_Mod_next_39 rfl rfl ?_
    refine va_iald (f := (D 6)) hx hb hK hP 7 0 (by rw [hDs2]; rfl) rfl hm0 d_Mod_next_40 ?_
    refine lv_iconst (v := 1) hx hb d_Mod_next_41 (by decide) ?_
    refine lv_iadd hx hb d_Mod_next_42 ?_
    refine va_iast hx hb hK hP hD hS 7 0 rfl rfl hm0 d_Mod_next_43 (fun H locs hP hD hS => ?_)
    have hP : va_P Dg classes (wD a k (u2 Ds2 6 mm.toNatClampNeg (((D 6) mm.toNatClampNeg) + 1))) H := hP
    have hD : va_D (va_A (wD a k D) s.heap.size) (wD a k (u2 Ds2 6 mm.toNatClampNeg (((D 6) mm.toNatClampNeg) + 1))) := hD
    obtain ⟨Ds3, hDs3⟩ : ∃ z9, z9 = (u2 Ds2 6 mm.toNatClampNeg (((D 6) mm.toNatClampNeg) + 1)) := ⟨_, rfl⟩
    rw [← hDs3] at hP hD
    refine lv_iload_n hx hb d_Mod_next_44 rfl (lv_at hl 3 rfl) ?_
    refine lv_bipush (v := 82) hx hb d_Mod_next_45 (by decide) ?_
    refine lv_icmp_ne (tgt := 77) hx hb d_Mod_next_47 (by decide) (fun _ => ?_) (fun h9 => absurd h9 (by decide))
    refine lv_iload_n hx hb d_Mod_next_77 rfl (lv_at hl 3 rfl) ?_
    refine lv_bipush (v := 72) hx hb d_Mod_next_78 (by decide) ?_
    refine lv_icmp_ne (tgt := 90) hx hb d_Mod_next_80 (by decide) (fun _ => ?_) (fun h9 => absurd h9 (by decide))
    refine lv_iload_n hx hb d_Mod_next_90 rfl (lv_at hl 3 rfl) ?_
    refine lv_bipush (v := 90) hx hb d_Mod_next_91 (by decide) ?_
    refine lv_icmp_ne (tgt := 111) hx hb d_Mod_next_93 (by decide) (fun _ => ?_) (fun h9 => absurd h9 (by decide))
    refine lv_iload_n hx hb d_Mod_next_111 rfl (lv_at hl 3 rfl) ?_
    refine lv_bipush (v := 74) hx hb d_Mod_next_112 (by decide) ?_
    refine lv_icmp_eq (tgt := 123) hx hb d_Mod_next_114 (by decide) (fun h9 => absurd h9 (by decide)) (fun _ => ?_)
    refine lv_iload_n hx hb d_Mod_next_117 rfl (lv_at hl 3 rfl) ?_
    refine lv_bipush (v := 67) hx hb d_Mod_next_118 (by decide) ?_
    refine lv_icmp_ne (tgt := 127) hx hb d_Mod_next_120 (by decide) (fun h9 => absurd (by decide) h9) (fun _ => ?_)
    refine lv_iload_n hx hb d_Mod_next_123 rfl (lv_at hl 4 rfl) ?_
    refine lv_goto (tgt := 144) hx hb d_Mod_next_124 (by decide) ?_
    exact km_i F hlocks hret hP hD hS d_Mod_next_144 (by unfold dNxR; rw [if_pos rfl]) (by subst hDs3 hDs2; unfold dNxM; rw [if_pos rfl])
  · obtain ⟨hm, ht⟩ := ht0.resolve_left (fun z => z (by decide))
    obtain ⟨i, h, r, o, hi, em, e0, e1, e2, b0, b1, b2, c1, c2, c3, c4, c5⟩ := dtr_all hm ht
    refine lv_aload_n hx hb d_Mod_next_0 rfl (lv_at hl 0 rfl) ?_
    refine va_get (D := Dg) (ci := 3) (v := .ref (a 5)) (C := R_Mod) (T := F_Mod) (N := 17) hx hb hT in_Mod hown hK hP 0 rfl rfl 7 (by decide) (hT _ tw2_233) (fun _ h9 => h9) rfl d_Mod_next_1 ?_
    refine lv_iload_n hx hb d_Mod_next_4 rfl (lv_at hl 1 rfl) ?_
    refine va_iald (f := (D 4)) hx hb hK hP 5 0 rfl rfl hm0 d_Mod_next_5 ?_
    refine lv_iconst (v := 1) hx hb d_Mod_next_6 (by decide) ?_
    refine lv_iadd hx hb d_Mod_next_7 ?_
    refine lv_istore hx hb d_Mod_next_8 hl (by decide) rfl (fun ls hl => ?_)
    have hl : lv_has ls 5 [(4, .int (((D 4) mm.toNatClampNeg) + 1)), (0, .ref (a 0)), (1, .int mm), (2, .int 82), (3, .int n)] := hl
    refine lv_iload_n hx hb d_Mod_next_10 rfl (lv_at hl 3 rfl) ?_
    refine lv_bipush (v := 67) hx hb d_Mod_next_11 (by decide) ?_
    refine lv_icmp_ne (tgt := 44) hx hb d_Mod_next_13 (by decide) (fun _ => ?_) (fun h9 => absurd h9 (by decide))
    refine lv_iload_n hx hb d_Mod_next_44 rfl (lv_at hl 3 rfl) ?_
    refine lv_bipush (v := 82) hx hb d_Mod_next_45 (by decide) ?_
    refine lv_icmp_ne (tgt := 77) hx hb d_Mod_next_47 (by decide) (fun h9 => absurd (by decide) h9) (fun _ => ?_)
    refine lv_aload_n hx hb d_Mod_next_50 rfl (lv_at hl 1 rfl) ?_
    refine va_get (D := Dg) (ci := 3) (v := .ref (a 7)) (C := R_Mod) (T := F_Mod) (N := 17) hx hb hT in_Mod hown hK hP 0 rfl rfl 9 (by decide) (hT _ tw2_235) (fun _ h9 => h9) rfl d_Mod_next_51 ?_
    refine lv_iload_n hx hb d_Mod_next_54 rfl (lv_at hl 2 rfl) ?_
    refine lv_dup2_11 hx hb d_Mod_next_55 rfl rfl ?_
    refine va_iald (f := (D 6)) hx hb hK hP 7 0 rfl rfl hm0 d_Mod_next_56 ?_
    refine lv_iconst (v := 1) hx hb d_Mod_next_57 (by decide) ?_
    refine lv_isub hx hb d_Mod_next_58 ?_
    refine va_iast hx hb hK hP hD hS 7 0 rfl rfl hm0 d_Mod_next_59 (fun H locs hP hD hS => ?_)
    have hP : va_P Dg classes (wD a k (u2 D 6 mm.toNatClampNeg (((D 6) mm.toNatClampNeg) - 1))) H := hP
    have hD : va_D (va_A (wD a k D) s.heap.size) (wD a k (u2 D 6 mm.toNatClampNeg (((D 6) mm.toNatClampNeg) - 1))) := hD
    obtain ⟨Ds4, hDs4⟩ : ∃ z9, z9 = (u2 D 6 mm.toNatClampNeg (((D 6) mm.toNatClampNeg) - 1)) := ⟨_, rfl⟩
    rw [← hDs4] at hP hD
    refine lv_aload_n hx hb d_Mod_next_60 rfl (lv_at hl 1 rfl) ?_
    refine va_get (D := Dg) (ci := 3) (v := .ref (a 13)) (C := R_Mod) (T := F_Mod) (N := 17) hx hb hT in_Mod hown hK hP 0 rfl rfl 15 (by decide) (hT _ tw3_1) (fun _ h9 => h9) rfl d_Mod_next_61 ?_
    refine lv_bipush (v := 10) hx hb d_Mod_next_64 (by decide) ?_
    refine lv_iload_n hx hb d_Mod_next_66 rfl (lv_at hl 2 rfl) ?_
    refine lv_imul hx hb d_Mod_next_67 ?_
    refine lv_aload_n hx hb d_Mod_next_68 rfl (lv_at hl 1 rfl) ?_
    refine va_get (D := Dg) (ci := 3) (v := .ref (a 7)) (C := R_Mod) (T := F_Mod) (N := 17) hx hb hT in_Mod hown hK hP 0 rfl rfl 9 (by decide) (hT _ tw2_235) (fun _ h9 => h9) rfl d_Mod_next_69 ?_
    refine lv_iload_n hx hb d_Mod_next_72 rfl (lv_at hl 2 rfl) ?_
    refine va_iald (f := (Ds4 6)) hx hb hK hP 7 0 rfl rfl hm0 d_Mod_next_73 ?_
    refine lv_iadd hx hb d_Mod_next_74 ?_
    refine va_iald (f := (D 12)) hx hb hK hP 13 0 (by rw [hDs4]; rfl) rfl (ix_40 (c := 10) (i := i) (h := r - 1) 10 rfl em (by rw [hDs4, u2_at, e1]; exact pk_sub (b := 1) (by rcases Nat.lt_or_ge 0 r with q | q; exact q; exact absurd ⟨rfl, by omega⟩ c2)) (by have : 1 ≤ r := (by rcases Nat.lt_or_ge 0 r with q | q; exact q; exact absurd ⟨rfl, by omega⟩ c2); omega) (by decide)) d_Mod_next_75 ?_
    exact km_i F hlocks hret hP hD hS d_Mod_next_76 (by unfold dNxR; rw [if_neg (by decide), if_pos rfl, hDs4]) (by subst hDs4; unfold dNxM; rw [if_neg (by decide), if_pos rfl])
  · skip
    refine lv_aload_n hx hb d_Mod_next_0 rfl (lv_at hl 0 rfl) ?_
    refine va_get (D := Dg) (ci := 3) (v := .ref (a 5)) (C := R_Mod) (T := F_Mod) (N := 17) hx hb hT in_Mod hown hK hP 0 rfl rfl 7 (by decide) (hT _ tw2_233) (fun _ h9 => h9) rfl d_Mod_next_1 ?_
    refine lv_iload_n hx hb d_Mod_next_4 rfl (lv_at hl 1 rfl) ?_
    refine va_iald (f := (D 4)) hx hb hK hP 5 0 rfl rfl hm0 d_Mod_next_5 ?_
    refine lv_iconst (v := 1) hx hb d_Mod_next_6 (by decide) ?_
    refine lv_iadd hx hb d_Mod_next_7 ?_
    refine lv_istore hx hb d_Mod_next_8 hl (by decide) rfl (fun ls hl => ?_)
    have hl : lv_has ls 5 [(4, .int (((D 4) mm.toNatClampNeg) + 1)), (0, .ref (a 0)), (1, .int mm), (2, .int 72), (3, .int n)] := hl
    refine lv_iload_n hx hb d_Mod_next_10 rfl (lv_at hl 3 rfl) ?_
    refine lv_bipush (v := 67) hx hb d_Mod_next_11 (by decide) ?_
    refine lv_icmp_ne (tgt := 44) hx hb d_Mod_next_13 (by decide) (fun _ => ?_) (fun h9 => absurd h9 (by decide))
    refine lv_iload_n hx hb d_Mod_next_44 rfl (lv_at hl 3 rfl) ?_
    refine lv_bipush (v := 82) hx hb d_Mod_next_45 (by decide) ?_
    refine lv_icmp_ne (tgt := 77) hx hb d_Mod_next_47 (by decide) (fun _ => ?_) (fun h9 => absurd h9 (by decide))
    refine lv_iload_n hx hb d_Mod_next_77 rfl (lv_at hl 3 rfl) ?_
    refine lv_bipush (v := 72) hx hb d_Mod_next_78 (by decide) ?_
    refine lv_icmp_ne (tgt := 90) hx hb d_Mod_next_80 (by decide) (fun h9 => absurd (by decide) h9) (fun _ => ?_)
    refine lv_aload_n hx hb d_Mod_next_83 rfl (lv_at hl 1 rfl) ?_
    refine va_get (D := Dg) (ci := 3) (v := .ref (a 9)) (C := R_Mod) (T := F_Mod) (N := 17) hx hb hT in_Mod hown hK hP 0 rfl rfl 11 (by decide) (hT _ tw2_237) (fun _ h9 => h9) rfl d_Mod_next_84 ?_
    refine lv_iload_n hx hb d_Mod_next_87 rfl (lv_at hl 2 rfl) ?_
    refine lv_iconst (v := 5) hx hb d_Mod_next_88 (by decide) ?_
    refine va_iast hx hb hK hP hD hS 9 0 rfl rfl hm0 d_Mod_next_89 (fun H locs hP hD hS => ?_)
    have hP : va_P Dg classes (wD a k (u2 D 8 mm.toNatClampNeg 5)) H := hP
    have hD : va_D (va_A (wD a k D) s.heap.size) (wD a k (u2 D 8 mm.toNatClampNeg 5)) := hD
    obtain ⟨Ds5, hDs5⟩ : ∃ z9, z9 = (u2 D 8 mm.toNatClampNeg 5) := ⟨_, rfl⟩
    rw [← hDs5] at hP hD
    refine lv_iload_n hx hb d_Mod_next_90 rfl (lv_at hl 3 rfl) ?_
    refine lv_bipush (v := 90) hx hb d_Mod_next_91 (by decide) ?_
    refine lv_icmp_ne (tgt := 111) hx hb d_Mod_next_93 (by decide) (fun _ => ?_) (fun h9 => absurd h9 (by decide))
    refine lv_iload_n hx hb d_Mod_next_111 rfl (lv_at hl 3 rfl) ?_
    refine lv_bipush (v := 74) hx hb d_Mod_next_112 (by decide) ?_
    refine lv_icmp_eq (tgt := 123) hx hb d_Mod_next_114 (by decide) (fun h9 => absurd h9 (by decide)) (fun _ => ?_)
    refine lv_iload_n hx hb d_Mod_next_117 rfl (lv_at hl 3 rfl) ?_
    refine lv_bipush (v := 67) hx hb d_Mod_next_118 (by decide) ?_
    refine lv_icmp_ne (tgt := 127) hx hb d_Mod_next_120 (by decide) (fun _ => ?_) (fun h9 => absurd h9 (by decide))
    refine lv_iload_n hx hb d_Mod_next_127 rfl (lv_at hl 3 rfl) ?_
    refine lv_bipush (v := 72) hx hb d_Mod_next_128 (by decide) ?_
    refine lv_icmp_ne (tgt := 142) hx hb d_Mod_next_130 (by decide) (fun h9 => absurd (by decide) h9) (fun _ => ?_)
    refine lv_aload_n hx hb d_Mod_next_133 rfl (lv_at hl 1 rfl) ?_
    refine va_get (D := Dg) (ci := 3) (v := .ref (a 5)) (C := R_Mod) (T := F_Mod) (N := 17) hx hb hT in_Mod hown hK hP 0 rfl rfl 7 (by decide) (hT _ tw2_233) (fun _ h9 => h9) rfl d_Mod_next_134 ?_
    refine lv_iload_n hx hb d_Mod_next_137 rfl (lv_at hl 2 rfl) ?_
    refine va_iald (f := (D 4)) hx hb hK hP 5 0 (by rw [hDs5]; rfl) rfl hm0 d_Mod_next_138 ?_
    refine lv_goto (tgt := 144) hx hb d_Mod_next_139 (by decide) ?_
    exact km_i F hlocks hret hP hD hS d_Mod_next_144 (by unfold dNxR; rw [if_neg (by decide), if_neg (by decide), if_pos rfl]) (by subst hDs5; unfold dNxM; rw [if_neg (by decide), if_neg (by decide), if_pos rfl])
