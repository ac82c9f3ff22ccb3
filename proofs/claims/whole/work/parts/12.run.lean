set_option maxRecDepth 100000 in
set_option maxHeartbeats 4000000 in
theorem c_Prg_has (l : Launch) (Dg : va_G) (b : Nat → Nat) (k : Nat → ClassId) (G : vSt) (q : Int32) (H : Heap) (hP : va_P Dg classes (wP b k G) H) : kPu l y_Prg_has b_Prg_has 2 (some FieldType.boolean) 0 0 [.ref (b 0), .int q] H (va_K Dg classes (kTy k)) (sHas G q) := by
  refine k_of (by decide) (Nat.le_of_ble_eq_true rfl) ?_
  intro p e s m below meth cd ls F hlocks hret hname hh hX hl
  subst hh
  obtain ⟨hx, hb, hml, hown, hT⟩ := id F
  have hK : va_K Dg classes (kTy k) s := hX
  have hS : va_S (fun _ => False) s.heap s.heap [] := va_S.rf
  have hl : lv_has ls 2 [(0, .ref (b 0)), (1, .int q)] := hl
  refine lv_iload_n hx hb d_Prg_has_0 rfl (lv_at hl 1 rfl) ?_
  refine lv_if_lt (tgt := 16) hx hb d_Prg_has_1 (by decide) (fun h1 => ?_) (fun h1 => ?_)
  · refine lv_iconst (v := 0) hx hb d_Prg_has_16 (by decide) ?_
    exact kp_z F hlocks hret hS d_Prg_has_17 rfl (by unfold sHas; rw [if_neg (fun z => Int32.not_lt.mpr z.1 h1)])
  · refine lv_iload_n hx hb d_Prg_has_4 rfl (lv_at hl 1 rfl) ?_
    refine lv_aload_n hx hb d_Prg_has_5 rfl (lv_at hl 0 rfl) ?_
    refine va_get (D := Dg) (ci := 2) (v := .int (G 5 0)) (C := R_Prg) (T := F_Prg) (N := 7) hx hb hT in_Prg hown hK hP 0 rfl rfl 5 (by decide) (hT _ tw1_41) (fun _ h9 => h9) rfl d_Prg_has_6 ?_
    refine lv_icmp_ge (tgt := 16) hx hb d_Prg_has_9 (by decide) (fun h9 => ?_) (fun h9 => ?_)
    · refine lv_iconst (v := 0) hx hb d_Prg_has_16 (by decide) ?_
      exact kp_z F hlocks hret hS d_Prg_has_17 rfl (by unfold sHas; rw [if_neg (fun z => Int32.not_lt.mpr h9 z.2)])
    · refine lv_iconst (v := 1) hx hb d_Prg_has_12 (by decide) ?_
      refine lv_goto (tgt := 17) hx hb d_Prg_has_13 (by decide) ?_
      exact kp_z F hlocks hret hS d_Prg_has_17 rfl (by unfold sHas; rw [if_pos ⟨Int32.not_lt.mp h1, Int32.not_le.mp h9⟩])

set_option maxRecDepth 100000 in
set_option maxHeartbeats 4000000 in
theorem c_Mac_doRow (l : Launch) (Dg : va_G) (a b : Nat → Nat) (k : Nat → ClassId) (M G : vSt) (j : Nat) (H : Heap) (hP : va_P Dg classes ((wM a k M) ++ (wP b k G)) H) (hD : va_D (fun _ => True) ((wM a k M) ++ (wP b k G))) (hj4 : j ≤ 4) (hro : rowOk G j M) : kMv l y_Mac_doRow b_Mac_doRow 6 3 68 [.ref (a 0), .ref (b 0), .int (nI j)] H (va_K Dg classes (kTy k)) Dg ((wM a k M) ++ (wP b k G)) (wM a k (sRow G j M) ++ wP b k G) := by
  refine k_of (by decide) (Nat.le_of_ble_eq_true rfl) ?_
  intro p e s m below meth cd ls F hlocks hret hname hh hX hl
  subst hh
  obtain ⟨hx, hb, hml, hown, hT⟩ := id F
  have hK : va_K Dg classes (kTy k) s := hX
  have hA : ∀ q : Nat, s.heap.size ≤ q → va_A ((wM a k M) ++ (wP b k G)) s.heap.size q := fun q h => Or.inr h
  have hD := hD.self (sz := s.heap.size)
  have hS : va_S (va_A ((wM a k M) ++ (wP b k G)) s.heap.size) s.heap s.heap [] := va_S.rf
  have hl : lv_has ls 6 [(0, .ref (a 0)), (1, .ref (b 0)), (2, .int (nI j))] := hl
  refine lv_iconst (v := 0) hx hb d_Mac_doRow_0 (by decide) ?_
  refine lv_istore_n hx hb d_Mac_doRow_1 rfl hl (by decide) rfl (fun ls hl => ?_)
  have hl : lv_has ls 6 [(3, .int 0), (0, .ref (a 0)), (1, .ref (b 0)), (2, .int (nI j))] := hl
  refine k_while (σ := Nat × vSt) (fun f x H locs ls => x.1 + f = j ∧ rowOk G f x.2 ∧ sRow G f x.2 = sRow G j M ∧ lv_has ls 6 [(3, .int (nI x.1)), (0, .ref (a 0)), (1, .ref (b 0)), (2, .int (nI j))] ∧ va_P Dg classes (wM a k x.2 ++ wP b k G) H ∧ va_D (va_A (wM a k M ++ wP b k G) s.heap.size) (wM a k x.2 ++ wP b k G) ∧ va_S (va_A (wM a k M ++ wP b k G) s.heap.size) s.heap H locs) ?_ j (0, M) ⟨by show 0 + j = j; omega, hro, rfl, (lv_sub hl [0, 1, 2, 3] rfl), hP, hD, hS⟩
  rintro f ⟨i, Mi⟩ H locs ls ⟨hif, hro5, hsr5, hl, hP, hD, hS⟩ ih
  have hl : lv_has ls 6 [(3, .int (nI i)), (0, .ref (a 0)), (1, .ref (b 0)), (2, .int (nI j))] := hl
  have hP : va_P Dg classes ((wM a k Mi) ++ (wP b k G)) H := hP
  have hD : va_D (va_A ((wM a k M) ++ (wP b k G)) s.heap.size) ((wM a k Mi) ++ (wP b k G)) := hD
  have hif : i + f = j := hif
  have hro5 : rowOk G f Mi := hro5
  have hsr5 : sRow G f Mi = sRow G j M := hsr5
  refine lv_iload_n hx hb d_Mac_doRow_2 rfl (lv_at hl 0 rfl) ?_
  refine lv_iload_n hx hb d_Mac_doRow_3 rfl (lv_at hl 3 rfl) ?_
  refine lv_icmp_ge (tgt := 78) hx hb d_Mac_doRow_4 (by decide) (fun h4 => ?_) (fun h4 => ?_)
  · refine km_v F hlocks hret hP hD hS d_Mac_doRow_78 ?_
    have hj : i = j := by have := (nI_leI (by omega) (by omega)).mp h4; omega
    obtain rfl : f = 0 := by omega
    exact congrArg (fun z => wM a k z ++ wP b k G) hsr5
  · refine lv_aload_n hx hb d_Mac_doRow_7 rfl (lv_at hl 1 rfl) ?_
    refine va_get (D := Dg) (ci := 1) (v := .int (Mi 4 4)) (C := R_Mac) (T := F_Mac) (N := 10) hx hb hT in_Mac hown hK hP 0 rfl rfl 8 (by decide) (hT _ tw1_79) (fun _ h9 => h9) rfl d_Mac_doRow_8 ?_
    refine lv_if_ne (tgt := 78) hx hb d_Mac_doRow_11 (by decide) (fun h11 => ?_) (fun h11 => ?_)
    · refine km_v F hlocks hret hP hD hS d_Mac_doRow_78 ?_
      rw [← hsr5]
      cases f with
      | zero => rfl
      | succ g => exact congrArg (fun z => wM a k z ++ wP b k G) (show Mi = (if Mi 4 4 = 0 then sRow G g (sStep G Mi) else Mi) by rw [if_neg h11])
    · have hf : i < j := by rcases Nat.lt_or_ge i j with z | z; exact z; exact absurd (nI_le z (by omega)) h4
      obtain ⟨f, rfl⟩ : ∃ g, f = g + 1 := ⟨f - 1, by omega⟩
      obtain ⟨hpl, hlt, hnm, hmo, hro5⟩ := hro5 h11
      have hsr5 : sRow G f (sStep G Mi) = sRow G j M := by rw [← hsr5]; show _ = (if Mi 4 4 = 0 then sRow G f (sStep G Mi) else Mi); rw [if_pos h11]
      refine lv_aload_n hx hb d_Mac_doRow_14 rfl (lv_at hl 2 rfl) ?_
      refine va_get (D := Dg) (ci := 2) (v := .ref (b 1)) (C := R_Prg) (T := F_Prg) (N := 7) hx hb hT in_Prg hown hK hP 5 rfl rfl 0 (by decide) (hT _ tw1_33) (fun _ h9 => h9) rfl d_Mac_doRow_15 ?_
      refine lv_aload_n hx hb d_Mac_doRow_18 rfl (lv_at hl 1 rfl) ?_
      refine va_get (D := Dg) (ci := 1) (v := .int (Mi 4 3)) (C := R_Mac) (T := F_Mac) (N := 10) hx hb hT in_Mac hown hK hP 0 rfl rfl 7 (by decide) (hT _ tw1_78) (fun _ h9 => h9) rfl d_Mac_doRow_19 ?_
      refine va_iald (f := (G 0)) hx hb hK hP 6 0 rfl rfl hpl d_Mac_doRow_22 ?_
      refine lv_istore hx hb d_Mac_doRow_23 hl (by decide) rfl (fun ls hl => ?_)
      have hl : lv_has ls 6 [(4, .int ((G 0) (Mi 4 3).toNatClampNeg)), (3, .int (nI i)), (0, .ref (a 0)), (1, .ref (b 0)), (2, .int (nI j))] := hl
      refine lv_aload_n hx hb d_Mac_doRow_25 rfl (lv_at hl 2 rfl) ?_
      refine lv_iload hx hb d_Mac_doRow_26 (lv_at hl 0 rfl) ?_
      refine kp_V F (c_Mac_trapOf l Dg a k Mi ((G 0) (Mi 4 3).toNatClampNeg) _ (hP.sub (ws' := (wM a k Mi)) [0, 1, 2, 3, 4] rfl) hlt hmo) kx_K hK kw_Mac_71 tw2_157 ts_8 (va_recv (ci := 1) (q0 := 0) hK hP rfl rfl) hS d_Mac_doRow_28 ⟨⟨by decide, by decide⟩, Nat.le_refl _, Nat.le_refl _⟩ rfl hl.1 rfl (Nat.le_of_ble_eq_true rfl) (fun locs hS => ?_)
      refine lv_istore hx hb d_Mac_doRow_31 hl (by decide) rfl (fun ls hl => ?_)
      have hl : lv_has ls 6 [(5, .int (sTrap Mi ((G 0) (Mi 4 3).toNatClampNeg))), (4, .int ((G 0) (Mi 4 3).toNatClampNeg)), (3, .int (nI i)), (0, .ref (a 0)), (1, .ref (b 0)), (2, .int (nI j))] := hl
      refine lv_iload hx hb d_Mac_doRow_33 (lv_at hl 0 rfl) ?_
      refine lv_if_ne (tgt := 66) hx hb d_Mac_doRow_35 (by decide) (fun h35 => ?_) (fun h35 => ?_)
      · refine lv_aload_n hx hb d_Mac_doRow_66 rfl (lv_at hl 3 rfl) ?_
        refine lv_iload hx hb d_Mac_doRow_67 (lv_at hl 0 rfl) ?_
        refine va_put (D := Dg) (ci := 1) (v := .int (sTrap Mi ((G 0) (Mi 4 3).toNatClampNeg))) (ty := .int) (C := R_Mac) (T := F_Mac) (N := 10) hx hb hT in_Mac t_Mac t_Mac_ok n_Mac hown hK hP hD hS 0 rfl rfl 8 (by decide) (hT _ tw1_79) (fun _ h9 => h9) rfl (by decide +kernel) rfl rfl (Nat.le_of_ble_eq_true rfl) d_Mac_doRow_69 (fun H locs hP hD hS => ?_)
        have hP : va_P Dg classes ((wM a k (u2 Mi 4 4 (sTrap Mi ((G 0) (Mi 4 3).toNatClampNeg)))) ++ (wP b k G)) H := hP
        have hD : va_D (va_A ((wM a k M) ++ (wP b k G)) s.heap.size) ((wM a k (u2 Mi 4 4 (sTrap Mi ((G 0) (Mi 4 3).toNatClampNeg)))) ++ (wP b k G)) := hD
        obtain ⟨Ms1, hMs1⟩ : ∃ z, z = (u2 Mi 4 4 (sTrap Mi ((G 0) (Mi 4 3).toNatClampNeg))) := ⟨_, rfl⟩
        rw [← hMs1] at hP hD
        refine lv_iinc (k := 2) (v := (nI (i + 1))) hx hb d_Mac_doRow_72 hl rfl (nI_succ _).symm (by decide) rfl (fun ls hl => ?_)
        have hl : lv_has ls 6 [(3, .int (nI (i + 1))), (5, .int (sTrap Mi ((G 0) (Mi 4 3).toNatClampNeg))), (4, .int ((G 0) (Mi 4 3).toNatClampNeg)), (0, .ref (a 0)), (1, .ref (b 0)), (2, .int (nI j))] := hl
        refine lv_goto (tgt := 2) hx hb d_Mac_doRow_75 (by decide) ?_
        exact ih f (i + 1, Ms1) H locs ls (by omega) ⟨by show i + 1 + f = j; omega, by show rowOk G f Ms1; rw [show Ms1 = sStep G Mi from (by rw [hMs1]; unfold sStep; rw [if_neg h35])]; exact hro5, by show sRow G f Ms1 = _; rw [show Ms1 = sStep G Mi from (by rw [hMs1]; unfold sStep; rw [if_neg h35])]; exact hsr5, (lv_sub hl [0, 3, 4, 5] rfl), hP.sub (ws' := (wM a k Ms1 ++ wP b k G)) [0, 1, 2, 3, 4, 5, 6, 7, 8, 9, 10] rfl, hD.sub (ws' := (wM a k Ms1 ++ wP b k G)) [0, 1, 2, 3, 4, 5, 6, 7, 8, 9, 10] (by decide) rfl, hS⟩
      · refine lv_aload_n hx hb d_Mac_doRow_38 rfl (lv_at hl 3 rfl) ?_
        refine lv_dup hx hb d_Mac_doRow_39 rfl ?_
        refine va_get (D := Dg) (ci := 1) (v := .int (Mi 4 5)) (C := R_Mac) (T := F_Mac) (N := 10) hx hb hT in_Mac hown hK hP 0 rfl rfl 9 (by decide) (hT _ tw1_80) (fun _ h9 => h9) rfl d_Mac_doRow_40 ?_
        refine lv_iconst (v := 1) hx hb d_Mac_doRow_43 (by decide) ?_
        refine lv_iadd hx hb d_Mac_doRow_44 ?_
        refine va_put (D := Dg) (ci := 1) (v := .int ((Mi 4 5) + 1)) (ty := .int) (C := R_Mac) (T := F_Mac) (N := 10) hx hb hT in_Mac t_Mac t_Mac_ok n_Mac hown hK hP hD hS 0 rfl rfl 9 (by decide) (hT _ tw1_80) (fun _ h9 => h9) rfl (by decide +kernel) rfl rfl (Nat.le_of_ble_eq_true rfl) d_Mac_doRow_45 (fun H locs hP hD hS => ?_)
        have hP : va_P Dg classes ((wM a k (u2 Mi 4 5 ((Mi 4 5) + 1))) ++ (wP b k G)) H := hP
        have hD : va_D (va_A ((wM a k M) ++ (wP b k G)) s.heap.size) ((wM a k (u2 Mi 4 5 ((Mi 4 5) + 1))) ++ (wP b k G)) := hD
        obtain ⟨Ms2, hMs2⟩ : ∃ z, z = (u2 Mi 4 5 ((Mi 4 5) + 1)) := ⟨_, rfl⟩
        rw [← hMs2] at hP hD
        refine lv_aload_n hx hb d_Mac_doRow_48 rfl (lv_at hl 3 rfl) ?_
        refine lv_iload hx hb d_Mac_doRow_49 (lv_at hl 1 rfl) ?_
        refine lv_aload_n hx hb d_Mac_doRow_51 rfl (lv_at hl 4 rfl) ?_
        refine va_get (D := Dg) (ci := 2) (v := .ref (b 2)) (C := R_Prg) (T := F_Prg) (N := 7) hx hb hT in_Prg hown hK hP 5 rfl rfl 1 (by decide) (hT _ tw1_35) (fun _ h9 => h9) rfl d_Mac_doRow_52 ?_
        refine lv_aload_n hx hb d_Mac_doRow_55 rfl (lv_at hl 3 rfl) ?_
        refine va_get (D := Dg) (ci := 1) (v := .int (Mi 4 3)) (C := R_Mac) (T := F_Mac) (N := 10) hx hb hT in_Mac hown hK hP 0 rfl rfl 7 (by decide) (hT _ tw1_78) (fun _ h9 => h9) (by rw [hMs2]; rfl) d_Mac_doRow_56 ?_
        refine va_iald (f := (G 1)) hx hb hK hP 7 0 rfl rfl hpl d_Mac_doRow_59 ?_
        refine km_Vv (wr := (wP b k G)) F (c_Mac_act l Dg a k Ms2 ((G 0) (Mi 4 3).toNatClampNeg) ((G 1) (Mi 4 3).toNatClampNeg) _ (hP.sub (ws' := (wM a k Ms2)) [0, 1, 2, 3, 4] rfl) ((hD.sub (ws' := (wM a k Ms2)) [0, 1, 2, 3, 4] (by decide) rfl).weaken (fun _ _ _ _ => trivial)) hlt (by rw [hMs2]; exact mOk_done hmo _) (by rw [hMs2]; exact sTrap_done _ h35) hnm) kx_K hK kw_Mac_78 tw2_167 ts_9 (va_recv (ci := 1) (q0 := 0) hK hP rfl rfl) hP hD hS hA [0, 1, 2, 3, 4] [5, 6, 7, 8, 9, 10] rfl rfl (by decide) (by decide) d_Mac_doRow_60 ⟨⟨by decide, by decide⟩, Nat.le_refl _, Nat.le_refl _⟩ rfl hl.1 rfl (Nat.le_of_ble_eq_true rfl) (fun H locs hP hD hS => ?_)
        have hP : va_P Dg classes ((wP b k G) ++ (wM a k (sAct Ms2 ((G 0) (Mi 4 3).toNatClampNeg) ((G 1) (Mi 4 3).toNatClampNeg)))) H := hP
        have hD : va_D (va_A ((wM a k M) ++ (wP b k G)) s.heap.size) ((wP b k G) ++ (wM a k (sAct Ms2 ((G 0) (Mi 4 3).toNatClampNeg) ((G 1) (Mi 4 3).toNatClampNeg)))) := hD
        obtain ⟨Ms3, hMs3⟩ : ∃ z, z = (sAct Ms2 ((G 0) (Mi 4 3).toNatClampNeg) ((G 1) (Mi 4 3).toNatClampNeg)) := ⟨_, rfl⟩
        rw [← hMs3] at hP hD
        refine lv_goto (tgt := 72) hx hb d_Mac_doRow_63 (by decide) ?_
        refine lv_iinc (k := 2) (v := (nI (i + 1))) hx hb d_Mac_doRow_72 hl rfl (nI_succ _).symm (by decide) rfl (fun ls hl => ?_)
        have hl : lv_has ls 6 [(3, .int (nI (i + 1))), (5, .int (sTrap Mi ((G 0) (Mi 4 3).toNatClampNeg))), (4, .int ((G 0) (Mi 4 3).toNatClampNeg)), (0, .ref (a 0)), (1, .ref (b 0)), (2, .int (nI j))] := hl
        refine lv_goto (tgt := 2) hx hb d_Mac_doRow_75 (by decide) ?_
        exact ih f (i + 1, Ms3) H locs ls (by omega) ⟨by show i + 1 + f = j; omega, by show rowOk G f Ms3; rw [show Ms3 = sStep G Mi from (by rw [hMs3, hMs2]; unfold sStep; rw [if_pos h35])]; exact hro5, by show sRow G f Ms3 = _; rw [show Ms3 = sStep G Mi from (by rw [hMs3, hMs2]; unfold sStep; rw [if_pos h35])]; exact hsr5, (lv_sub hl [0, 3, 4, 5] rfl), hP.sub (ws' := (wM a k Ms3 ++ wP b k G)) [6, 7, 8, 9, 10, 0, 1, 2, 3, 4, 5] rfl, hD.sub (ws' := (wM a k Ms3 ++ wP b k G)) [6, 7, 8, 9, 10, 0, 1, 2, 3, 4, 5] (by decide) rfl, hS⟩

set_option maxRecDepth 100000 in
set_option maxHeartbeats 4000000 in
theorem c_Mac_goOn (l : Launch) (Dg : va_G) (a b : Nat → Nat) (k : Nat → ClassId) (M G : vSt) (z n : Int32) (H : Heap) (hP : va_P Dg classes ((wM a k M) ++ (wP b k G)) H) (hD : va_D (fun _ => True) ((wM a k M) ++ (wP b k G))) (hro : runOk G z (sMost n) M) : kMi l y_Mac_goOn b_Mac_goOn 6 (some FieldType.int) 4 93 [.ref (a 0), .ref (b 0), .int z, .int n] H (va_K Dg classes (kTy k)) Dg ((wM a k M) ++ (wP b k G)) (wM a k (sRunM G M z n) ++ wP b k G) (sRunR G M z n) := by
  refine k_of (by decide) (Nat.le_of_ble_eq_true rfl) ?_
  intro p e s m below meth cd ls F hlocks hret hname hh hX hl
  subst hh
  obtain ⟨hx, hb, hml, hown, hT⟩ := id F
  have hK : va_K Dg classes (kTy k) s := hX
  have hA : ∀ q : Nat, s.heap.size ≤ q → va_A ((wM a k M) ++ (wP b k G)) s.heap.size q := fun q h => Or.inr h
  have hD := hD.self (sz := s.heap.size)
  have hS : va_S (va_A ((wM a k M) ++ (wP b k G)) s.heap.size) s.heap s.heap [] := va_S.rf
  have hl : lv_has ls 6 [(0, .ref (a 0)), (1, .ref (b 0)), (2, .int z), (3, .int n)] := hl
  have h3000 := sMost_le n
  refine lv_iload_n hx hb d_Mac_goOn_0 rfl (lv_at hl 3 rfl) ?_
  refine lv_sipush (v := 3000) hx hb d_Mac_goOn_1 (by decide) ?_
  refine va_mmin hx hb (hml.trans hl.1.symm) hown (hT _ tw2_147) (hT _ tw2_148) (hT _ tw1_17) (hT _ tw2_149) (Nat.le_of_ble_eq_true rfl) (Nat.le_of_ble_eq_true rfl) (Nat.le_refl _) (Nat.le_refl _) d_Mac_goOn_4 ?_
  change W _ _ _ _ _ _ _ _ _ _ _ _ _ _ _ (F0 m 7 ls (.int (sMin n 3000) :: []))
  refine lv_istore hx hb d_Mac_goOn_7 hl (by decide) rfl (fun ls hl => ?_)
  have hl : lv_has ls 6 [(4, .int (sMin n 3000)), (0, .ref (a 0)), (1, .ref (b 0)), (2, .int z), (3, .int n)] := hl
  refine lv_iconst (v := 0) hx hb d_Mac_goOn_9 (by decide) ?_
  refine lv_istore hx hb d_Mac_goOn_10 hl (by decide) rfl (fun ls hl => ?_)
  have hl : lv_has ls 6 [(5, .int 0), (4, .int (sMin n 3000)), (0, .ref (a 0)), (1, .ref (b 0)), (2, .int z), (3, .int n)] := hl
  refine k_while (σ := Nat × vSt) (fun f x H locs ls => x.1 + f = sMost n ∧ runOk G z f x.2 ∧ sGoL G z (sMost n) M = ((sGoL G z f x.2).1, (sGoL G z f x.2).2 + x.1) ∧ lv_has ls 6 [(5, .int (nI x.1)), (4, .int (sMin n 3000)), (0, .ref (a 0)), (1, .ref (b 0)), (2, .int z), (3, .int n)] ∧ va_P Dg classes (wM a k x.2 ++ wP b k G) H ∧ va_D (va_A (wM a k M ++ wP b k G) s.heap.size) (wM a k x.2 ++ wP b k G) ∧ va_S (va_A (wM a k M ++ wP b k G) s.heap.size) s.heap H locs) ?_ (sMost n) (0, M) ⟨by show 0 + sMost n = sMost n; omega, hro, rfl, (lv_sub hl [0, 1, 2, 3, 4, 5] rfl), hP, hD, hS⟩
  rintro f ⟨i, Mi⟩ H locs ls ⟨hif, hro5, hsr5, hl, hP, hD, hS⟩ ih
  have hl : lv_has ls 6 [(5, .int (nI i)), (4, .int (sMin n 3000)), (0, .ref (a 0)), (1, .ref (b 0)), (2, .int z), (3, .int n)] := hl
  have hP : va_P Dg classes ((wM a k Mi) ++ (wP b k G)) H := hP
  have hD : va_D (va_A ((wM a k M) ++ (wP b k G)) s.heap.size) ((wM a k Mi) ++ (wP b k G)) := hD
  have hif : i + f = sMost n := hif
  have hro5 : runOk G z f Mi := hro5
  have hsr5 : sGoL G z (sMost n) M = ((sGoL G z f Mi).1, (sGoL G z f Mi).2 + i) := hsr5
  refine lv_iload hx hb d_Mac_goOn_12 (lv_at hl 0 rfl) ?_
  refine lv_iload hx hb d_Mac_goOn_14 (lv_at hl 1 rfl) ?_
  refine lv_icmp_ge (tgt := 65) hx hb d_Mac_goOn_16 (by decide) (fun h16 => ?_) (fun h16 => ?_)
  · obtain rfl : f = 0 := by have := (sMost_iff n (by omega)).mp h16; omega
    have hg : sGoL G z (sMost n) M = (Mi, i) := by rw [hsr5]; show (Mi, 0 + i) = (Mi, i); rw [Nat.zero_add]
    refine lv_iload hx hb d_Mac_goOn_65 (lv_at hl 0 rfl) ?_
    refine lv_iload hx hb d_Mac_goOn_67 (lv_at hl 1 rfl) ?_
    refine lv_icmp_ge (tgt := 84) hx hb d_Mac_goOn_69 (by decide) (fun h69 => ?_) (fun h69 => ?_)
    · refine lv_iload hx hb d_Mac_goOn_84 (lv_at hl 0 rfl) ?_
      exact km_i F hlocks hret hP hD hS d_Mac_goOn_86 (by unfold sRunR; rw [hg]) (by unfold sRunM; rw [hg]; show _ = wM a k (if sMin n 3000 ≤ nI i then Mi else if Mi 4 4 = 0 then u2 Mi 4 4 4 else Mi) ++ wP b k G; rw [if_pos h69])
    · refine lv_aload_n hx hb d_Mac_goOn_72 rfl (lv_at hl 2 rfl) ?_
      refine va_get (D := Dg) (ci := 1) (v := .int (Mi 4 4)) (C := R_Mac) (T := F_Mac) (N := 10) hx hb hT in_Mac hown hK hP 0 rfl rfl 8 (by decide) (hT _ tw1_79) (fun _ h9 => h9) rfl d_Mac_goOn_73 ?_
      refine lv_if_ne (tgt := 84) hx hb d_Mac_goOn_76 (by decide) (fun h76 => ?_) (fun h76 => ?_)
      · refine lv_iload hx hb d_Mac_goOn_84 (lv_at hl 0 rfl) ?_
        exact km_i F hlocks hret hP hD hS d_Mac_goOn_86 (by unfold sRunR; rw [hg]) (by unfold sRunM; rw [hg]; show _ = wM a k (if sMin n 3000 ≤ nI i then Mi else if Mi 4 4 = 0 then u2 Mi 4 4 4 else Mi) ++ wP b k G; rw [if_neg h69, if_neg h76])
      · refine lv_aload_n hx hb d_Mac_goOn_79 rfl (lv_at hl 2 rfl) ?_
        refine lv_iconst (v := 4) hx hb d_Mac_goOn_80 (by decide) ?_
        refine va_put (D := Dg) (ci := 1) (v := .int 4) (ty := .int) (C := R_Mac) (T := F_Mac) (N := 10) hx hb hT in_Mac t_Mac t_Mac_ok n_Mac hown hK hP hD hS 0 rfl rfl 8 (by decide) (hT _ tw1_79) (fun _ h9 => h9) rfl (by decide +kernel) rfl rfl (Nat.le_of_ble_eq_true rfl) d_Mac_goOn_81 (fun H locs hP hD hS => ?_)
        have hP : va_P Dg classes ((wM a k (u2 Mi 4 4 4)) ++ (wP b k G)) H := hP
        have hD : va_D (va_A ((wM a k M) ++ (wP b k G)) s.heap.size) ((wM a k (u2 Mi 4 4 4)) ++ (wP b k G)) := hD
        obtain ⟨Ms1, hMs1⟩ : ∃ z, z = (u2 Mi 4 4 4) := ⟨_, rfl⟩
        rw [← hMs1] at hP hD
        refine lv_iload hx hb d_Mac_goOn_84 (lv_at hl 0 rfl) ?_
        exact km_i F hlocks hret hP hD hS d_Mac_goOn_86 (by unfold sRunR; rw [hg]) (by unfold sRunM; rw [hg]; show _ = wM a k (if sMin n 3000 ≤ nI i then Mi else if Mi 4 4 = 0 then u2 Mi 4 4 4 else Mi) ++ wP b k G; rw [if_neg h69, if_pos h76, hMs1])
  · refine lv_aload_n hx hb d_Mac_goOn_19 rfl (lv_at hl 2 rfl) ?_
    refine va_get (D := Dg) (ci := 1) (v := .int (Mi 4 4)) (C := R_Mac) (T := F_Mac) (N := 10) hx hb hT in_Mac hown hK hP 0 rfl rfl 8 (by decide) (hT _ tw1_79) (fun _ h9 => h9) rfl d_Mac_goOn_20 ?_
    refine lv_if_ne (tgt := 65) hx hb d_Mac_goOn_23 (by decide) (fun h23 => ?_) (fun h23 => ?_)
    · have hg : sGoL G z (sMost n) M = (Mi, i) := by
        rw [hsr5]
        cases f with
        | zero => show (Mi, 0 + i) = (Mi, i); rw [Nat.zero_add]
        | succ g =>
          have e9 : sGoL G z (g + 1) Mi = (if Mi 4 4 = 0 then (if sHas G (Mi 4 3) = 0 then (Mi, 0) else ((sGoL G z g (sRow G (sLen G z (Mi 4 3)) Mi)).1, (sGoL G z g (sRow G (sLen G z (Mi 4 3)) Mi)).2 + 1)) else (Mi, 0)) := rfl
          rw [e9, if_neg h23]; show (Mi, 0 + i) = (Mi, i); rw [Nat.zero_add]
      refine lv_iload hx hb d_Mac_goOn_65 (lv_at hl 0 rfl) ?_
      refine lv_iload hx hb d_Mac_goOn_67 (lv_at hl 1 rfl) ?_
      refine lv_icmp_ge (tgt := 84) hx hb d_Mac_goOn_69 (by decide) (fun h69 => ?_) (fun h69 => ?_)
      · refine lv_iload hx hb d_Mac_goOn_84 (lv_at hl 0 rfl) ?_
        exact km_i F hlocks hret hP hD hS d_Mac_goOn_86 (by unfold sRunR; rw [hg]) (by unfold sRunM; rw [hg]; show _ = wM a k (if sMin n 3000 ≤ nI i then Mi else if Mi 4 4 = 0 then u2 Mi 4 4 4 else Mi) ++ wP b k G; rw [if_pos h69])
      · refine lv_aload_n hx hb d_Mac_goOn_72 rfl (lv_at hl 2 rfl) ?_
        refine va_get (D := Dg) (ci := 1) (v := .int (Mi 4 4)) (C := R_Mac) (T := F_Mac) (N := 10) hx hb hT in_Mac hown hK hP 0 rfl rfl 8 (by decide) (hT _ tw1_79) (fun _ h9 => h9) rfl d_Mac_goOn_73 ?_
        refine lv_if_ne (tgt := 84) hx hb d_Mac_goOn_76 (by decide) (fun h76 => ?_) (fun h76 => ?_)
        · refine lv_iload hx hb d_Mac_goOn_84 (lv_at hl 0 rfl) ?_
          exact km_i F hlocks hret hP hD hS d_Mac_goOn_86 (by unfold sRunR; rw [hg]) (by unfold sRunM; rw [hg]; show _ = wM a k (if sMin n 3000 ≤ nI i then Mi else if Mi 4 4 = 0 then u2 Mi 4 4 4 else Mi) ++ wP b k G; rw [if_neg h69, if_neg h76])
        · refine lv_aload_n hx hb d_Mac_goOn_79 rfl (lv_at hl 2 rfl) ?_
          refine lv_iconst (v := 4) hx hb d_Mac_goOn_80 (by decide) ?_
          refine va_put (D := Dg) (ci := 1) (v := .int 4) (ty := .int) (C := R_Mac) (T := F_Mac) (N := 10) hx hb hT in_Mac t_Mac t_Mac_ok n_Mac hown hK hP hD hS 0 rfl rfl 8 (by decide) (hT _ tw1_79) (fun _ h9 => h9) rfl (by decide +kernel) rfl rfl (Nat.le_of_ble_eq_true rfl) d_Mac_goOn_81 (fun H locs hP hD hS => ?_)
          have hP : va_P Dg classes ((wM a k (u2 Mi 4 4 4)) ++ (wP b k G)) H := hP
          have hD : va_D (va_A ((wM a k M) ++ (wP b k G)) s.heap.size) ((wM a k (u2 Mi 4 4 4)) ++ (wP b k G)) := hD
          obtain ⟨Ms2, hMs2⟩ : ∃ z, z = (u2 Mi 4 4 4) := ⟨_, rfl⟩
          rw [← hMs2] at hP hD
          refine lv_iload hx hb d_Mac_goOn_84 (lv_at hl 0 rfl) ?_
          exact km_i F hlocks hret hP hD hS d_Mac_goOn_86 (by unfold sRunR; rw [hg]) (by unfold sRunM; rw [hg]; show _ = wM a k (if sMin n 3000 ≤ nI i then Mi else if Mi 4 4 = 0 then u2 Mi 4 4 4 else Mi) ++ wP b k G; rw [if_neg h69, if_pos h76, hMs2])
    · refine lv_aload_n hx hb d_Mac_goOn_26 rfl (lv_at hl 3 rfl) ?_
      refine lv_aload_n hx hb d_Mac_goOn_27 rfl (lv_at hl 2 rfl) ?_
      refine va_get (D := Dg) (ci := 1) (v := .int (Mi 4 3)) (C := R_Mac) (T := F_Mac) (N := 10) hx hb hT in_Mac hown hK hP 0 rfl rfl 7 (by decide) (hT _ tw1_78) (fun _ h9 => h9) rfl d_Mac_goOn_28 ?_
      refine kp_V F (c_Prg_has l Dg b k G (Mi 4 3) _ (hP.sub (ws' := (wP b k G)) [5, 6, 7, 8, 9, 10] rfl) ) kx_K hK kw_Mac_55 tw2_94 tw2_95 (va_recv (ci := 2) (q0 := 5) hK hP rfl rfl) hS d_Mac_goOn_31 ⟨⟨by decide, by decide⟩, Nat.le_refl _, Nat.le_refl _⟩ rfl hl.1 rfl (Nat.le_of_ble_eq_true rfl) (fun locs hS => ?_)
      refine lv_if_eq (tgt := 65) hx hb d_Mac_goOn_34 (by decide) (fun h34 => ?_) (fun h34 => ?_)
      · have hg : sGoL G z (sMost n) M = (Mi, i) := by
          rw [hsr5]
          cases f with
          | zero => show (Mi, 0 + i) = (Mi, i); rw [Nat.zero_add]
          | succ g =>
            have e9 : sGoL G z (g + 1) Mi = (if Mi 4 4 = 0 then (if sHas G (Mi 4 3) = 0 then (Mi, 0) else ((sGoL G z g (sRow G (sLen G z (Mi 4 3)) Mi)).1, (sGoL G z g (sRow G (sLen G z (Mi 4 3)) Mi)).2 + 1)) else (Mi, 0)) := rfl
            rw [e9, if_pos h23, if_pos h34]; show (Mi, 0 + i) = (Mi, i); rw [Nat.zero_add]
        refine lv_iload hx hb d_Mac_goOn_65 (lv_at hl 0 rfl) ?_
        refine lv_iload hx hb d_Mac_goOn_67 (lv_at hl 1 rfl) ?_
        refine lv_icmp_ge (tgt := 84) hx hb d_Mac_goOn_69 (by decide) (fun h69 => ?_) (fun h69 => ?_)
        · refine lv_iload hx hb d_Mac_goOn_84 (lv_at hl 0 rfl) ?_
          exact km_i F hlocks hret hP hD hS d_Mac_goOn_86 (by unfold sRunR; rw [hg]) (by unfold sRunM; rw [hg]; show _ = wM a k (if sMin n 3000 ≤ nI i then Mi else if Mi 4 4 = 0 then u2 Mi 4 4 4 else Mi) ++ wP b k G; rw [if_pos h69])
        · refine lv_aload_n hx hb d_Mac_goOn_72 rfl (lv_at hl 2 rfl) ?_
          refine va_get (D := Dg) (ci := 1) (v := .int (Mi 4 4)) (C := R_Mac) (T := F_Mac) (N := 10) hx hb hT in_Mac hown hK hP 0 rfl rfl 8 (by decide) (hT _ tw1_79) (fun _ h9 => h9) rfl d_Mac_goOn_73 ?_
          refine lv_if_ne (tgt := 84) hx hb d_Mac_goOn_76 (by decide) (fun h76 => ?_) (fun h76 => ?_)
          · refine lv_iload hx hb d_Mac_goOn_84 (lv_at hl 0 rfl) ?_
            exact km_i F hlocks hret hP hD hS d_Mac_goOn_86 (by unfold sRunR; rw [hg]) (by unfold sRunM; rw [hg]; show _ = wM a k (if sMin n 3000 ≤ nI i then Mi else if Mi 4 4 = 0 then u2 Mi 4 4 4 else Mi) ++ wP b k G; rw [if_neg h69, if_neg h76])
          · refine lv_aload_n hx hb d_Mac_goOn_79 rfl (lv_at hl 2 rfl) ?_
            refine lv_iconst (v := 4) hx hb d_Mac_goOn_80 (by decide) ?_
            refine va_put (D := Dg) (ci := 1) (v := .int 4) (ty := .int) (C := R_Mac) (T := F_Mac) (N := 10) hx hb hT in_Mac t_Mac t_Mac_ok n_Mac hown hK hP hD hS 0 rfl rfl 8 (by decide) (hT _ tw1_79) (fun _ h9 => h9) rfl (by decide +kernel) rfl rfl (Nat.le_of_ble_eq_true rfl) d_Mac_goOn_81 (fun H locs hP hD hS => ?_)
            have hP : va_P Dg classes ((wM a k (u2 Mi 4 4 4)) ++ (wP b k G)) H := hP
            have hD : va_D (va_A ((wM a k M) ++ (wP b k G)) s.heap.size) ((wM a k (u2 Mi 4 4 4)) ++ (wP b k G)) := hD
            obtain ⟨Ms3, hMs3⟩ : ∃ z, z = (u2 Mi 4 4 4) := ⟨_, rfl⟩
            rw [← hMs3] at hP hD
            refine lv_iload hx hb d_Mac_goOn_84 (lv_at hl 0 rfl) ?_
            exact km_i F hlocks hret hP hD hS d_Mac_goOn_86 (by unfold sRunR; rw [hg]) (by unfold sRunM; rw [hg]; show _ = wM a k (if sMin n 3000 ≤ nI i then Mi else if Mi 4 4 = 0 then u2 Mi 4 4 4 else Mi) ++ wP b k G; rw [if_neg h69, if_pos h76, hMs3])
      · have hf : i < sMost n := by rcases Nat.lt_or_ge i (sMost n) with y | y; exact y; exact absurd ((sMost_iff n (by omega)).mpr y) h16
        obtain ⟨f, rfl⟩ : ∃ g, f = g + 1 := ⟨f - 1, by omega⟩
        obtain ⟨hpl, hjj, hrow, hro7⟩ := hro5 h23 h34
        have hsr7 : sGoL G z (sMost n) M = ((sGoL G z f (sRow G (sLen G z (Mi 4 3)) Mi)).1, (sGoL G z f (sRow G (sLen G z (Mi 4 3)) Mi)).2 + (i + 1)) := by
          rw [hsr5]
          have e9 : sGoL G z (f + 1) Mi = (if Mi 4 4 = 0 then (if sHas G (Mi 4 3) = 0 then (Mi, 0) else ((sGoL G z f (sRow G (sLen G z (Mi 4 3)) Mi)).1, (sGoL G z f (sRow G (sLen G z (Mi 4 3)) Mi)).2 + 1)) else (Mi, 0)) := rfl
          rw [e9, if_pos h23, if_neg h34]
          show (_, _ + 1 + i) = (_, _ + (i + 1))
          rw [Nat.add_assoc, Nat.add_comm 1 i]
        refine lv_aload_n hx hb d_Mac_goOn_37 rfl (lv_at hl 2 rfl) ?_
        refine lv_aload_n hx hb d_Mac_goOn_38 rfl (lv_at hl 3 rfl) ?_
        refine lv_iload_n hx hb d_Mac_goOn_39 rfl (lv_at hl 4 rfl) ?_
        refine lv_if_eq (tgt := 55) hx hb d_Mac_goOn_40 (by decide) (fun h40 => ?_) (fun h40 => ?_)
        · refine lv_iconst (v := 1) hx hb d_Mac_goOn_55 (by decide) ?_
          have ej : sLen G z (Mi 4 3) = 1 := by unfold sLen; rw [if_pos h40]
          rw [ej] at hrow hro7 hsr7
          have hj4 : 1 ≤ 4 := by decide
          change W _ _ _ _ _ _ _ _ _ _ _ _ _ _ _ (F0 m 56 ls [.int (nI 1), .ref (b 0), .ref (a 0)])
          refine km_Vv (wr := []) F (c_Mac_doRow l Dg a b k Mi G 1 _ hP (hD.weaken (fun _ _ _ _ => trivial)) hj4 hrow) kx_K hK kw_Mac_64 tw2_153 ts_7 (va_recv (ci := 1) (q0 := 0) hK hP rfl rfl) hP hD hS hA [0, 1, 2, 3, 4, 5, 6, 7, 8, 9, 10] [] rfl rfl (by decide) (by decide) d_Mac_goOn_56 ⟨⟨by decide, by decide⟩, Nat.le_refl _, Nat.le_refl _⟩ rfl hl.1 rfl (Nat.le_of_ble_eq_true rfl) (fun H locs hP hD hS => ?_)
          have hP : va_P Dg classes ((wM a k (sRow G 1 Mi)) ++ (wP b k G)) H := hP
          have hD : va_D (va_A ((wM a k M) ++ (wP b k G)) s.heap.size) ((wM a k (sRow G 1 Mi)) ++ (wP b k G)) := hD
          obtain ⟨Ms4, hMs4⟩ : ∃ z, z = (sRow G 1 Mi) := ⟨_, rfl⟩
          rw [← hMs4] at hP hD
          refine lv_iinc (k := 0) (v := (nI (i + 1))) hx hb d_Mac_goOn_59 hl rfl (nI_succ _).symm (by decide) rfl (fun ls hl => ?_)
          have hl : lv_has ls 6 [(5, .int (nI (i + 1))), (4, .int (sMin n 3000)), (0, .ref (a 0)), (1, .ref (b 0)), (2, .int z), (3, .int n)] := hl
          refine lv_goto (tgt := 12) hx hb d_Mac_goOn_62 (by decide) ?_
          exact ih f (i + 1, Ms4) H locs ls (by omega) ⟨by show i + 1 + f = sMost n; omega, by show runOk G z f Ms4; rw [hMs4]; exact hro7, by show _ = ((sGoL G z f Ms4).1, (sGoL G z f Ms4).2 + (i + 1)); rw [hMs4]; exact hsr7, (lv_sub hl [0, 1, 2, 3, 4, 5] rfl), hP.sub (ws' := (wM a k Ms4 ++ wP b k G)) [0, 1, 2, 3, 4, 5, 6, 7, 8, 9, 10] rfl, hD.sub (ws' := (wM a k Ms4 ++ wP b k G)) [0, 1, 2, 3, 4, 5, 6, 7, 8, 9, 10] (by decide) rfl, hS⟩
        · refine lv_aload_n hx hb d_Mac_goOn_43 rfl (lv_at hl 3 rfl) ?_
          refine va_get (D := Dg) (ci := 2) (v := .ref (b 5)) (C := R_Prg) (T := F_Prg) (N := 7) hx hb hT in_Prg hown hK hP 5 rfl rfl 4 (by decide) (hT _ tw1_39) (fun _ h9 => h9) rfl d_Mac_goOn_44 ?_
          refine lv_aload_n hx hb d_Mac_goOn_47 rfl (lv_at hl 2 rfl) ?_
          refine va_get (D := Dg) (ci := 1) (v := .int (Mi 4 3)) (C := R_Mac) (T := F_Mac) (N := 10) hx hb hT in_Mac hown hK hP 0 rfl rfl 7 (by decide) (hT _ tw1_78) (fun _ h9 => h9) rfl d_Mac_goOn_48 ?_
          refine va_iald (f := (G 4)) hx hb hK hP 10 0 rfl rfl hpl d_Mac_goOn_51 ?_
          refine lv_goto (tgt := 56) hx hb d_Mac_goOn_52 (by decide) ?_
          obtain ⟨j, hj4, ejj⟩ := hjj h40
          have ej : sLen G z (Mi 4 3) = j := by unfold sLen; rw [if_neg h40, ejj, nI_clamp (by omega)]
          rw [ej] at hrow hro7 hsr7
          rw [ejj]
          refine km_Vv (wr := []) F (c_Mac_doRow l Dg a b k Mi G j _ hP (hD.weaken (fun _ _ _ _ => trivial)) hj4 hrow) kx_K hK kw_Mac_64 tw2_153 ts_7 (va_recv (ci := 1) (q0 := 0) hK hP rfl rfl) hP hD hS hA [0, 1, 2, 3, 4, 5, 6, 7, 8, 9, 10] [] rfl rfl (by decide) (by decide) d_Mac_goOn_56 ⟨⟨by decide, by decide⟩, Nat.le_refl _, Nat.le_refl _⟩ rfl hl.1 rfl (Nat.le_of_ble_eq_true rfl) (fun H locs hP hD hS => ?_)
          have hP : va_P Dg classes ((wM a k (sRow G j Mi)) ++ (wP b k G)) H := hP
          have hD : va_D (va_A ((wM a k M) ++ (wP b k G)) s.heap.size) ((wM a k (sRow G j Mi)) ++ (wP b k G)) := hD
          obtain ⟨Ms5, hMs5⟩ : ∃ z, z = (sRow G j Mi) := ⟨_, rfl⟩
          rw [← hMs5] at hP hD
          refine lv_iinc (k := 0) (v := (nI (i + 1))) hx hb d_Mac_goOn_59 hl rfl (nI_succ _).symm (by decide) rfl (fun ls hl => ?_)
          have hl : lv_has ls 6 [(5, .int (nI (i + 1))), (4, .int (sMin n 3000)), (0, .ref (a 0)), (1, .ref (b 0)), (2, .int z), (3, .int n)] := hl
          refine lv_goto (tgt := 12) hx hb d_Mac_goOn_62 (by decide) ?_
          exact ih f (i + 1, Ms5) H locs ls (by omega) ⟨by show i + 1 + f = sMost n; omega, by show runOk G z f Ms5; rw [hMs5]; exact hro7, by show _ = ((sGoL G z f Ms5).1, (sGoL G z f Ms5).2 + (i + 1)); rw [hMs5]; exact hsr7, (lv_sub hl [0, 1, 2, 3, 4, 5] rfl), hP.sub (ws' := (wM a k Ms5 ++ wP b k G)) [0, 1, 2, 3, 4, 5, 6, 7, 8, 9, 10] rfl, hD.sub (ws' := (wM a k Ms5 ++ wP b k G)) [0, 1, 2, 3, 4, 5, 6, 7, 8, 9, 10] (by decide) rfl, hS⟩
