section KZ
variable {p : Program} {l : Launch} {e : Env} {R : Room} {s : State} {m : MethodId} {args : Array Value} {below : List Frame} {meth : Method} {c : Code} {H : Heap} {locs : List Loc} {cc : ByteArray} {pc : Nat} {ls : Array Slot} {own : String} {nL : Nat}
theorem km_z {D : va_G} {w w1 w2 : va_W} {r v : Int32} {ty : FieldType} (F : CallFix p m c cc nL s args lw_ok own) (hlocks : meth.locks = false) (hr : meth.sig.returnType = some ty) (hP : va_P D classes w2 H) (hD : va_D (va_A w s.heap.size) w2) (hS : va_S (va_A w s.heap.size) s.heap H locs) (hd : decode cc pc = .ok (.ireturn, 1)) (hn : narrow ty (.int v) = .int v) (hv : v = r) (hw : w2 = w1) :
    W p l e R s m args below meth c H locs 0 0 (MQ below (kQi D s.heap w w1 r) args s 0 0 (va_A w s.heap.size)) (F0 m pc ls [.int v]) := by
  subst hw
  exact W.zret F.1 F.2.1 hr hn (fun t ht hW => ⟨⟨v, (), rfl, hv, by rw [ht]; exact hP, hD⟩, hS.F ht⟩) hS.2.2 hd hlocks
end KZ
theorem dWork_id {D : vSt} {m c n : Int32} (h : c = 67 ∨ c = 82 ∨ c = 90) : dWork D m c n = D := by
  rcases h with rfl | rfl | rfl
  · unfold dWork; rw [if_neg (by decide), if_neg (by decide), if_neg (by decide), if_neg (by decide), if_neg (by decide), if_neg (by decide), if_neg (by decide), if_neg (by decide), if_neg (by decide), if_pos rfl]
  · unfold dWork; rw [if_neg (by decide), if_neg (by decide), if_neg (by decide), if_neg (by decide), if_neg (by decide), if_neg (by decide), if_neg (by decide), if_neg (by decide), if_neg (by decide), if_neg (by decide), if_pos rfl]
  · unfold dWork; rw [if_neg (by decide), if_neg (by decide), if_neg (by decide), if_neg (by decide), if_neg (by decide), if_neg (by decide), if_neg (by decide), if_neg (by decide), if_pos rfl]
theorem dTrap_le {D : vSt} {m c : Int32} (h : dTrap D m c ≤ 0) : dTrap D m c = 0 := by
  revert h
  unfold dTrap
  split
  · intro h; exact absurd h (by decide)
  split
  · intro h; exact absurd h (by decide)
  split
  · intro h; exact absurd h (by decide)
  split
  · intro h; exact absurd h (by decide)
  split
  · intro h; exact absurd h (by decide)
  · intro _; rfl
theorem nx_ok {D : vSt} {m c n : Int32} (hm : dOk D m) (ht : dTrap D m c = 0) : ¬ (c = 67 ∨ c = 82 ∨ c = 90) ∨ (dOk (dWork D m c n) m ∧ dTrap (dWork D m c n) m c = 0) := by
  by_cases h : c = 67 ∨ c = 82 ∨ c = 90
  · rw [dWork_id h]; exact Or.inr ⟨hm, ht⟩
  · exact Or.inl h

set_option maxRecDepth 100000 in
set_option maxHeartbeats 4000000 in
theorem c_Mod_act (l : Launch) (Dg : va_G) (a : Nat → Nat) (k : Nat → ClassId) (D : vSt) (mm : Int32) (H : Heap) (hP : va_P Dg classes (wD a k D) H) (hD : va_D (fun _ => True) (wD a k D)) (hm : dOk D mm) (hpl : vp_in (D 4 (tn mm)) 80) (hc : okC (D 0 (D 4 (tn mm)).toNatClampNeg)) (hn : D 0 (D 4 (tn mm)).toNatClampNeg = 76 ∨ D 0 (D 4 (tn mm)).toNatClampNeg = 83 → vp_in (D 1 (D 4 (tn mm)).toNatClampNeg) 8) : kMi l y_Mod_act b_Mod_act 5 (some FieldType.boolean) 3 66 [.ref (a 0), .int mm] H (va_K Dg classes (kTy k)) Dg (wD a k D) (wD a k (dActM D mm)) (dActR D mm) := by
  refine k_of (by decide) (Nat.le_of_ble_eq_true rfl) ?_
  intro p e s m below meth cd ls F hlocks hret hname hh hX hl
  subst hh
  obtain ⟨hx, hb, hml, hown, hT⟩ := id F
  have hK : va_K Dg classes (kTy k) s := hX
  have hA : ∀ q : Nat, s.heap.size ≤ q → va_A (wD a k D) s.heap.size q := fun q h => Or.inr h
  have hD := hD.self (sz := s.heap.size)
  have hS : va_S (va_A (wD a k D) s.heap.size) s.heap s.heap [] := va_S.rf
  have hl : lv_has ls 5 [(0, .ref (a 0)), (1, .int mm)] := hl
  refine lv_aload_n hx hb d_Mod_act_0 rfl (lv_at hl 0 rfl) ?_
  refine va_get (D := Dg) (ci := 3) (v := .ref (a 1)) (C := R_Mod) (T := F_Mod) (N := 17) hx hb hT in_Mod hown hK hP 0 rfl rfl 2 (by decide) (hT _ tw2_228) (fun _ h9 => h9) rfl d_Mod_act_1 ?_
  refine lv_aload_n hx hb d_Mod_act_4 rfl (lv_at hl 0 rfl) ?_
  refine va_get (D := Dg) (ci := 3) (v := .ref (a 5)) (C := R_Mod) (T := F_Mod) (N := 17) hx hb hT in_Mod hown hK hP 0 rfl rfl 7 (by decide) (hT _ tw2_233) (fun _ h9 => h9) rfl d_Mod_act_5 ?_
  refine lv_iload_n hx hb d_Mod_act_8 rfl (lv_at hl 1 rfl) ?_
  refine va_iald (f := (D 4)) hx hb hK hP 5 0 rfl rfl (dm_in hm) d_Mod_act_9 ?_
  refine va_cald (f := (D 0)) hx hb hK hP 1 2 rfl rfl hpl d_Mod_act_10 ?_
  refine lv_istore_n hx hb d_Mod_act_11 rfl hl (by decide) rfl (fun ls hl => ?_)
  have hl : lv_has ls 5 [(2, .int ((D 0) ((D 4) mm.toNatClampNeg).toNatClampNeg)), (0, .ref (a 0)), (1, .int mm)] := hl
  refine lv_aload_n hx hb d_Mod_act_12 rfl (lv_at hl 1 rfl) ?_
  refine va_get (D := Dg) (ci := 3) (v := .ref (a 2)) (C := R_Mod) (T := F_Mod) (N := 17) hx hb hT in_Mod hown hK hP 0 rfl rfl 3 (by decide) (hT _ tw2_229) (fun _ h9 => h9) rfl d_Mod_act_13 ?_
  refine lv_aload_n hx hb d_Mod_act_16 rfl (lv_at hl 1 rfl) ?_
  refine va_get (D := Dg) (ci := 3) (v := .ref (a 5)) (C := R_Mod) (T := F_Mod) (N := 17) hx hb hT in_Mod hown hK hP 0 rfl rfl 7 (by decide) (hT _ tw2_233) (fun _ h9 => h9) rfl d_Mod_act_17 ?_
  refine lv_iload_n hx hb d_Mod_act_20 rfl (lv_at hl 2 rfl) ?_
  refine va_iald (f := (D 4)) hx hb hK hP 5 0 rfl rfl (dm_in hm) d_Mod_act_21 ?_
  refine va_iald (f := (D 1)) hx hb hK hP 2 0 rfl rfl hpl d_Mod_act_22 ?_
  refine lv_istore_n hx hb d_Mod_act_23 rfl hl (by decide) rfl (fun ls hl => ?_)
  have hl : lv_has ls 5 [(3, .int ((D 1) ((D 4) mm.toNatClampNeg).toNatClampNeg)), (2, .int ((D 0) ((D 4) mm.toNatClampNeg).toNatClampNeg)), (0, .ref (a 0)), (1, .int mm)] := hl
  refine lv_aload_n hx hb d_Mod_act_24 rfl (lv_at hl 2 rfl) ?_
  refine lv_iload_n hx hb d_Mod_act_25 rfl (lv_at hl 3 rfl) ?_
  refine lv_iload_n hx hb d_Mod_act_26 rfl (lv_at hl 1 rfl) ?_
  refine kp_V F (c_Mod_trap l Dg a k D mm ((D 0) ((D 4) mm.toNatClampNeg).toNatClampNeg) _ hP hc hm) kx_K hK kw_Mod_123 tw3_116 ts_23 (va_recv (ci := 3) (q0 := 0) hK hP rfl rfl) hS d_Mod_act_27 ⟨⟨by decide, by decide⟩, Nat.le_refl _, Nat.le_refl _⟩ rfl hl.1 rfl (Nat.le_of_ble_eq_true rfl) (fun locs hS => ?_)
  refine lv_istore hx hb d_Mod_act_30 hl (by decide) rfl (fun ls hl => ?_)
  have hl : lv_has ls 5 [(4, .int (dTrap D mm ((D 0) ((D 4) mm.toNatClampNeg).toNatClampNeg))), (3, .int ((D 1) ((D 4) mm.toNatClampNeg).toNatClampNeg)), (2, .int ((D 0) ((D 4) mm.toNatClampNeg).toNatClampNeg)), (0, .ref (a 0)), (1, .int mm)] := hl
  refine lv_iload hx hb d_Mod_act_32 (lv_at hl 0 rfl) ?_
  refine lv_if_le (tgt := 47) hx hb d_Mod_act_34 (by decide) (fun h34 => ?_) (fun h34 => ?_)
  · refine lv_aload_n hx hb d_Mod_act_47 rfl (lv_at hl 3 rfl) ?_
    refine lv_iload_n hx hb d_Mod_act_48 rfl (lv_at hl 4 rfl) ?_
    refine lv_iload_n hx hb d_Mod_act_49 rfl (lv_at hl 2 rfl) ?_
    refine lv_iload_n hx hb d_Mod_act_50 rfl (lv_at hl 1 rfl) ?_
    refine km_Vv (wr := []) F (c_Mod_work l Dg a k D mm ((D 0) ((D 4) mm.toNatClampNeg).toNatClampNeg) ((D 1) ((D 4) mm.toNatClampNeg).toNatClampNeg) _ hP (hD.weaken (fun _ _ _ _ => trivial)) hc hm (dTrap_le h34) hn) kx_K hK kw_Mod_126 tw3_124 ts_25 (va_recv (ci := 3) (q0 := 0) hK hP rfl rfl) hP hD hS hA [0, 1, 2, 3, 4, 5, 6, 7, 8, 9, 10, 11, 12, 13, 14] [] rfl rfl (by decide) (by decide) d_Mod_act_51 ⟨⟨by decide, by decide⟩, Nat.le_refl _, Nat.le_refl _⟩ rfl hl.1 rfl (Nat.le_of_ble_eq_true rfl) (fun H locs hP hD hS => ?_)
    have hP : va_P Dg classes (wD a k (dWork D mm ((D 0) ((D 4) mm.toNatClampNeg).toNatClampNeg) ((D 1) ((D 4) mm.toNatClampNeg).toNatClampNeg))) H := hP
    have hD : va_D (va_A (wD a k D) s.heap.size) (wD a k (dWork D mm ((D 0) ((D 4) mm.toNatClampNeg).toNatClampNeg) ((D 1) ((D 4) mm.toNatClampNeg).toNatClampNeg))) := hD
    obtain ⟨Ds1, hDs1⟩ : ∃ z9, z9 = (dWork D mm ((D 0) ((D 4) mm.toNatClampNeg).toNatClampNeg) ((D 1) ((D 4) mm.toNatClampNeg).toNatClampNeg)) := ⟨_, rfl⟩
    rw [← hDs1] at hP hD
    refine lv_aload_n hx hb d_Mod_act_54 rfl (lv_at hl 3 rfl) ?_
    refine va_get (D := Dg) (ci := 3) (v := .ref (a 5)) (C := R_Mod) (T := F_Mod) (N := 17) hx hb hT in_Mod hown hK hP 0 rfl rfl 7 (by decide) (hT _ tw2_233) (fun _ h9 => h9) rfl d_Mod_act_55 ?_
    refine lv_iload_n hx hb d_Mod_act_58 rfl (lv_at hl 4 rfl) ?_
    refine lv_aload_n hx hb d_Mod_act_59 rfl (lv_at hl 3 rfl) ?_
    refine lv_iload_n hx hb d_Mod_act_60 rfl (lv_at hl 4 rfl) ?_
    refine lv_iload_n hx hb d_Mod_act_61 rfl (lv_at hl 2 rfl) ?_
    refine lv_iload_n hx hb d_Mod_act_62 rfl (lv_at hl 1 rfl) ?_
    refine km_Vi (wr := []) F (c_Mod_next l Dg a k Ds1 mm ((D 0) ((D 4) mm.toNatClampNeg).toNatClampNeg) ((D 1) ((D 4) mm.toNatClampNeg).toNatClampNeg) _ hP (hD.weaken (fun _ _ _ _ => trivial)) hc (dm_in hm) (by rw [hDs1]; exact nx_ok hm (dTrap_le h34))) kx_K hK kw_Mod_129 tw3_143 ts_29 (va_recv (ci := 3) (q0 := 0) hK hP rfl rfl) hP hD hS hA [0, 1, 2, 3, 4, 5, 6, 7, 8, 9, 10, 11, 12, 13, 14] [] rfl rfl (by decide) (by decide) d_Mod_act_63 ⟨⟨by decide, by decide⟩, Nat.le_refl _, Nat.le_refl _⟩ rfl hl.1 rfl (Nat.le_of_ble_eq_true rfl) (fun H locs hP hD hS => ?_)
    have hP : va_P Dg classes (wD a k (dNxM Ds1 mm ((D 0) ((D 4) mm.toNatClampNeg).toNatClampNeg))) H := hP
    have hD : va_D (va_A (wD a k D) s.heap.size) (wD a k (dNxM Ds1 mm ((D 0) ((D 4) mm.toNatClampNeg).toNatClampNeg))) := hD
    obtain ⟨Ds2, hDs2⟩ : ∃ z9, z9 = (dNxM Ds1 mm ((D 0) ((D 4) mm.toNatClampNeg).toNatClampNeg)) := ⟨_, rfl⟩
    rw [← hDs2] at hP hD
    refine va_iast hx hb hK hP hD hS 5 0 rfl rfl (dm_in hm) d_Mod_act_66 (fun H locs hP hD hS => ?_)
    have hP : va_P Dg classes (wD a k (u2 Ds2 4 mm.toNatClampNeg (dNxR Ds1 mm ((D 0) ((D 4) mm.toNatClampNeg).toNatClampNeg) ((D 1) ((D 4) mm.toNatClampNeg).toNatClampNeg)))) H := hP
    have hD : va_D (va_A (wD a k D) s.heap.size) (wD a k (u2 Ds2 4 mm.toNatClampNeg (dNxR Ds1 mm ((D 0) ((D 4) mm.toNatClampNeg).toNatClampNeg) ((D 1) ((D 4) mm.toNatClampNeg).toNatClampNeg)))) := hD
    obtain ⟨Ds3, hDs3⟩ : ∃ z9, z9 = (u2 Ds2 4 mm.toNatClampNeg (dNxR Ds1 mm ((D 0) ((D 4) mm.toNatClampNeg).toNatClampNeg) ((D 1) ((D 4) mm.toNatClampNeg).toNatClampNeg))) := ⟨_, rfl⟩
    rw [← hDs3] at hP hD
    refine lv_aload_n hx hb d_Mod_act_67 rfl (lv_at hl 3 rfl) ?_
    refine va_get (D := Dg) (ci := 3) (v := .ref (a 10)) (C := R_Mod) (T := F_Mod) (N := 17) hx hb hT in_Mod hown hK hP 0 rfl rfl 12 (by decide) (hT _ tw2_238) (fun _ h9 => h9) rfl d_Mod_act_68 ?_
    refine lv_iload_n hx hb d_Mod_act_71 rfl (lv_at hl 4 rfl) ?_
    refine lv_dup2_11 hx hb d_Mod_act_72 rfl rfl ?_
    refine va_iald (f := (Ds2 9)) hx hb hK hP 10 0 (by rw [hDs3]; rfl) rfl (dm_in hm) d_Mod_act_73 ?_
    refine lv_iconst (v := 1) hx hb d_Mod_act_74 (by decide) ?_
    refine lv_iadd hx hb d_Mod_act_75 ?_
    refine va_iast hx hb hK hP hD hS 10 0 rfl rfl (dm_in hm) d_Mod_act_76 (fun H locs hP hD hS => ?_)
    have hP : va_P Dg classes (wD a k (u2 Ds3 9 mm.toNatClampNeg (((Ds2 9) mm.toNatClampNeg) + 1))) H := hP
    have hD : va_D (va_A (wD a k D) s.heap.size) (wD a k (u2 Ds3 9 mm.toNatClampNeg (((Ds2 9) mm.toNatClampNeg) + 1))) := hD
    obtain ⟨Ds4, hDs4⟩ : ∃ z9, z9 = (u2 Ds3 9 mm.toNatClampNeg (((Ds2 9) mm.toNatClampNeg) + 1)) := ⟨_, rfl⟩
    rw [← hDs4] at hP hD
    refine lv_iconst (v := 1) hx hb d_Mod_act_77 (by decide) ?_
    exact km_z F hlocks hret hP hD hS d_Mod_act_78 rfl (by unfold dActR; rw [if_pos h34]) (by subst hDs4 hDs3 hDs2 hDs1; unfold dActM; rw [if_pos h34])
  · refine lv_aload_n hx hb d_Mod_act_37 rfl (lv_at hl 3 rfl) ?_
    refine va_get (D := Dg) (ci := 3) (v := .ref (a 9)) (C := R_Mod) (T := F_Mod) (N := 17) hx hb hT in_Mod hown hK hP 0 rfl rfl 11 (by decide) (hT _ tw2_237) (fun _ h9 => h9) rfl d_Mod_act_38 ?_
    refine lv_iload_n hx hb d_Mod_act_41 rfl (lv_at hl 4 rfl) ?_
    refine lv_iload hx hb d_Mod_act_42 (lv_at hl 0 rfl) ?_
    refine va_iast hx hb hK hP hD hS 9 0 rfl rfl (dm_in hm) d_Mod_act_44 (fun H locs hP hD hS => ?_)
    have hP : va_P Dg classes (wD a k (u2 D 8 mm.toNatClampNeg (dTrap D mm ((D 0) ((D 4) mm.toNatClampNeg).toNatClampNeg)))) H := hP
    have hD : va_D (va_A (wD a k D) s.heap.size) (wD a k (u2 D 8 mm.toNatClampNeg (dTrap D mm ((D 0) ((D 4) mm.toNatClampNeg).toNatClampNeg)))) := hD
    obtain ⟨Ds5, hDs5⟩ : ∃ z9, z9 = (u2 D 8 mm.toNatClampNeg (dTrap D mm ((D 0) ((D 4) mm.toNatClampNeg).toNatClampNeg))) := ⟨_, rfl⟩
    rw [← hDs5] at hP hD
    refine lv_iconst (v := 0) hx hb d_Mod_act_45 (by decide) ?_
    exact km_z F hlocks hret hP hD hS d_Mod_act_46 rfl (by unfold dActR; rw [if_neg h34]) (by subst hDs5; unfold dActM; rw [if_neg h34])

set_option maxRecDepth 100000 in
set_option maxHeartbeats 4000000 in
theorem c_Mod_begin (l : Launch) (Dg : va_G) (a : Nat → Nat) (k : Nat → ClassId) (D : vSt) (H : Heap) (hP : va_P Dg classes (wD a k D) H) (hD : va_D (fun _ => True) (wD a k D)) : kMv l y_Mod_begin b_Mod_begin 2 0 0 [.ref (a 0)] H (va_K Dg classes (kTy k)) Dg (wD a k D) (wD a k (dBeg D)) := by
  refine k_of (by decide) (Nat.le_of_ble_eq_true rfl) ?_
  intro p e s m below meth cd ls F hlocks hret hname hh hX hl
  subst hh
  obtain ⟨hx, hb, hml, hown, hT⟩ := id F
  have hK : va_K Dg classes (kTy k) s := hX
  have hA : ∀ q : Nat, s.heap.size ≤ q → va_A (wD a k D) s.heap.size q := fun q h => Or.inr h
  have hD := hD.self (sz := s.heap.size)
  have hS : va_S (va_A (wD a k D) s.heap.size) s.heap s.heap [] := va_S.rf
  have hl : lv_has ls 2 [(0, .ref (a 0))] := hl
  refine lv_iconst (v := 0) hx hb d_Mod_begin_0 (by decide) ?_
  refine lv_istore_n hx hb d_Mod_begin_1 rfl hl (by decide) rfl (fun ls hl => ?_)
  have hl : lv_has ls 2 [(1, .int 0), (0, .ref (a 0))] := hl
  refine k_while (σ := Nat × vSt) (fun f x H locs ls => x.1 + f = 2 ∧ x.2 = dB1 D x.1 ∧ lv_has ls 2 [(1, .int (nI x.1)), (0, .ref (a 0))] ∧ va_P Dg classes (wD a k x.2) H ∧ va_D (va_A (wD a k D) s.heap.size) (wD a k x.2) ∧ va_S (va_A (wD a k D) s.heap.size) s.heap H locs) ?_ 2 (0, D) ⟨rfl, rfl, (lv_sub hl [0, 1] rfl), hP, hD, hS⟩
  rintro f ⟨i, Di⟩ H locs ls ⟨hif, hDi, hl, hP, hD, hS⟩ ih
  have hl : lv_has ls 2 [(1, .int (nI i)), (0, .ref (a 0))] := hl
  have hP : va_P Dg classes (wD a k Di) H := hP
  have hD : va_D (va_A (wD a k D) s.heap.size) (wD a k Di) := hD
  have hif : i + f = 2 := hif
  have hDi : Di = dB1 D i := hDi
  refine lv_iload_n hx hb d_Mod_begin_2 rfl (lv_at hl 0 rfl) ?_
  refine lv_iconst (v := 2) hx hb d_Mod_begin_3 (by decide) ?_
  refine lv_icmp_ge (tgt := 55) hx hb d_Mod_begin_4 (by decide) (fun h4 => ?_) (fun h4 => ?_)
  · have hiz : i = 2 := by have := (nI_leI (a := 2) (by decide) (by omega)).mp h4; omega
    rw [hiz] at hDi
    refine lv_iconst (v := 0) hx hb d_Mod_begin_55 (by decide) ?_
    refine lv_istore_n hx hb d_Mod_begin_56 rfl hl (by decide) rfl (fun ls hl => ?_)
    have hl : lv_has ls 2 [(1, .int 0), (0, .ref (a 0))] := hl
    refine k_while (σ := Nat × vSt) (fun f x H locs ls => x.1 + f = 16 ∧ x.2 = dB2 (dB1 D 2) x.1 ∧ lv_has ls 2 [(1, .int (nI x.1)), (0, .ref (a 0))] ∧ va_P Dg classes (wD a k x.2) H ∧ va_D (va_A (wD a k D) s.heap.size) (wD a k x.2) ∧ va_S (va_A (wD a k D) s.heap.size) s.heap H locs) ?_ 16 (0, Di) ⟨rfl, hDi, (lv_sub hl [0, 1] rfl), hP, hD, hS⟩
    rintro f ⟨i, Di⟩ H locs ls ⟨hif, hDi, hl, hP, hD, hS⟩ ih
    have hl : lv_has ls 2 [(1, .int (nI i)), (0, .ref (a 0))] := hl
    have hP : va_P Dg classes (wD a k Di) H := hP
    have hD : va_D (va_A (wD a k D) s.heap.size) (wD a k Di) := hD
    have hif : i + f = 16 := hif
    have hDi : Di = dB2 (dB1 D 2) i := hDi
    refine lv_iload_n hx hb d_Mod_begin_57 rfl (lv_at hl 0 rfl) ?_
    refine lv_bipush (v := 16) hx hb d_Mod_begin_58 (by decide) ?_
    refine lv_icmp_ge (tgt := 76) hx hb d_Mod_begin_60 (by decide) (fun h60 => ?_) (fun h60 => ?_)
    · exact km_v F hlocks hret hP hD hS d_Mod_begin_76 (by unfold dBeg; rw [hDi, show i = 16 by have := (nI_leI (a := 16) (by decide) (by omega)).mp h60; omega])
    · have hi : i < 16 := by rcases Nat.lt_or_ge i 16 with y | y; exact y; exact absurd (nI_le (a := 16) y (by omega)) h60
      refine lv_aload_n hx hb d_Mod_begin_63 rfl (lv_at hl 1 rfl) ?_
      refine va_get (D := Dg) (ci := 3) (v := .ref (a 12)) (C := R_Mod) (T := F_Mod) (N := 17) hx hb hT in_Mod hown hK hP 0 rfl rfl 14 (by decide) (hT _ tw3_0) (fun _ h9 => h9) rfl d_Mod_begin_64 ?_
      refine lv_iload_n hx hb d_Mod_begin_67 rfl (lv_at hl 0 rfl) ?_
      refine lv_iconst (v := 0) hx hb d_Mod_begin_68 (by decide) ?_
      refine va_iast hx hb hK hP hD hS 12 0 rfl rfl (vp_in_nI (by omega) (by decide)) d_Mod_begin_69 (fun H locs hP hD hS => ?_)
      have hP : va_P Dg classes (wD a k (u2 Di 11 (nI i).toNatClampNeg 0)) H := hP
      have hD : va_D (va_A (wD a k D) s.heap.size) (wD a k (u2 Di 11 (nI i).toNatClampNeg 0)) := hD
      obtain ⟨Ds1, hDs1⟩ : ∃ z9, z9 = (u2 Di 11 (nI i).toNatClampNeg 0) := ⟨_, rfl⟩
      rw [← hDs1] at hP hD
      refine lv_iinc (k := 0) (v := (nI (i + 1))) hx hb d_Mod_begin_70 hl rfl (nI_succ _).symm (by decide) rfl (fun ls hl => ?_)
      have hl : lv_has ls 2 [(1, .int (nI (i + 1))), (0, .ref (a 0))] := hl
      refine lv_goto (tgt := 57) hx hb d_Mod_begin_73 (by decide) ?_
      exact ih (f - 1) (i + 1, Ds1) H locs ls (by omega) ⟨by show i + 1 + (f - 1) = 16; omega, by show Ds1 = dB2 (dB1 D 2) (i + 1); rw [hDs1, hDi]; rfl, (lv_sub hl [0, 1] rfl), hP, hD, hS⟩
  · have hi : i < 2 := by rcases Nat.lt_or_ge i 2 with y | y; exact y; exact absurd (nI_le (a := 2) y (by omega)) h4
    refine lv_aload_n hx hb d_Mod_begin_7 rfl (lv_at hl 1 rfl) ?_
    refine va_get (D := Dg) (ci := 3) (v := .ref (a 5)) (C := R_Mod) (T := F_Mod) (N := 17) hx hb hT in_Mod hown hK hP 0 rfl rfl 7 (by decide) (hT _ tw2_233) (fun _ h9 => h9) rfl d_Mod_begin_8 ?_
    refine lv_iload_n hx hb d_Mod_begin_11 rfl (lv_at hl 0 rfl) ?_
    refine lv_iconst (v := 0) hx hb d_Mod_begin_12 (by decide) ?_
    refine va_iast hx hb hK hP hD hS 5 0 rfl rfl (vp_in_nI (by omega) (by decide)) d_Mod_begin_13 (fun H locs hP hD hS => ?_)
    have hP : va_P Dg classes (wD a k (u2 Di 4 (nI i).toNatClampNeg 0)) H := hP
    have hD : va_D (va_A (wD a k D) s.heap.size) (wD a k (u2 Di 4 (nI i).toNatClampNeg 0)) := hD
    obtain ⟨Ds2, hDs2⟩ : ∃ z9, z9 = (u2 Di 4 (nI i).toNatClampNeg 0) := ⟨_, rfl⟩
    rw [← hDs2] at hP hD
    refine lv_aload_n hx hb d_Mod_begin_14 rfl (lv_at hl 1 rfl) ?_
    refine va_get (D := Dg) (ci := 3) (v := .ref (a 6)) (C := R_Mod) (T := F_Mod) (N := 17) hx hb hT in_Mod hown hK hP 0 rfl rfl 8 (by decide) (hT _ tw2_234) (fun _ h9 => h9) rfl d_Mod_begin_15 ?_
    refine lv_iload_n hx hb d_Mod_begin_18 rfl (lv_at hl 0 rfl) ?_
    refine lv_iconst (v := 0) hx hb d_Mod_begin_19 (by decide) ?_
    refine va_iast hx hb hK hP hD hS 6 0 rfl rfl (vp_in_nI (by omega) (by decide)) d_Mod_begin_20 (fun H locs hP hD hS => ?_)
    have hP : va_P Dg classes (wD a k (u2 Ds2 5 (nI i).toNatClampNeg 0)) H := hP
    have hD : va_D (va_A (wD a k D) s.heap.size) (wD a k (u2 Ds2 5 (nI i).toNatClampNeg 0)) := hD
    obtain ⟨Ds3, hDs3⟩ : ∃ z9, z9 = (u2 Ds2 5 (nI i).toNatClampNeg 0) := ⟨_, rfl⟩
    rw [← hDs3] at hP hD
    refine lv_aload_n hx hb d_Mod_begin_21 rfl (lv_at hl 1 rfl) ?_
    refine va_get (D := Dg) (ci := 3) (v := .ref (a 7)) (C := R_Mod) (T := F_Mod) (N := 17) hx hb hT in_Mod hown hK hP 0 rfl rfl 9 (by decide) (hT _ tw2_235) (fun _ h9 => h9) rfl d_Mod_begin_22 ?_
    refine lv_iload_n hx hb d_Mod_begin_25 rfl (lv_at hl 0 rfl) ?_
    refine lv_iconst (v := 0) hx hb d_Mod_begin_26 (by decide) ?_
    refine va_iast hx hb hK hP hD hS 7 0 rfl rfl (vp_in_nI (by omega) (by decide)) d_Mod_begin_27 (fun H locs hP hD hS => ?_)
    have hP : va_P Dg classes (wD a k (u2 Ds3 6 (nI i).toNatClampNeg 0)) H := hP
    have hD : va_D (va_A (wD a k D) s.heap.size) (wD a k (u2 Ds3 6 (nI i).toNatClampNeg 0)) := hD
    obtain ⟨Ds4, hDs4⟩ : ∃ z9, z9 = (u2 Ds3 6 (nI i).toNatClampNeg 0) := ⟨_, rfl⟩
    rw [← hDs4] at hP hD
    refine lv_aload_n hx hb d_Mod_begin_28 rfl (lv_at hl 1 rfl) ?_
    refine va_get (D := Dg) (ci := 3) (v := .ref (a 8)) (C := R_Mod) (T := F_Mod) (N := 17) hx hb hT in_Mod hown hK hP 0 rfl rfl 10 (by decide) (hT _ tw2_236) (fun _ h9 => h9) rfl d_Mod_begin_29 ?_
    refine lv_iload_n hx hb d_Mod_begin_32 rfl (lv_at hl 0 rfl) ?_
    refine lv_iconst (v := 0) hx hb d_Mod_begin_33 (by decide) ?_
    refine va_iast hx hb hK hP hD hS 8 0 rfl rfl (vp_in_nI (by omega) (by decide)) d_Mod_begin_34 (fun H locs hP hD hS => ?_)
    have hP : va_P Dg classes (wD a k (u2 Ds4 7 (nI i).toNatClampNeg 0)) H := hP
    have hD : va_D (va_A (wD a k D) s.heap.size) (wD a k (u2 Ds4 7 (nI i).toNatClampNeg 0)) := hD
    obtain ⟨Ds5, hDs5⟩ : ∃ z9, z9 = (u2 Ds4 7 (nI i).toNatClampNeg 0) := ⟨_, rfl⟩
    rw [← hDs5] at hP hD
    refine lv_aload_n hx hb d_Mod_begin_35 rfl (lv_at hl 1 rfl) ?_
    refine va_get (D := Dg) (ci := 3) (v := .ref (a 9)) (C := R_Mod) (T := F_Mod) (N := 17) hx hb hT in_Mod hown hK hP 0 rfl rfl 11 (by decide) (hT _ tw2_237) (fun _ h9 => h9) rfl d_Mod_begin_36 ?_
    refine lv_iload_n hx hb d_Mod_begin_39 rfl (lv_at hl 0 rfl) ?_
    refine lv_iconst (v := 0) hx hb d_Mod_begin_40 (by decide) ?_
    refine va_iast hx hb hK hP hD hS 9 0 rfl rfl (vp_in_nI (by omega) (by decide)) d_Mod_begin_41 (fun H locs hP hD hS => ?_)
    have hP : va_P Dg classes (wD a k (u2 Ds5 8 (nI i).toNatClampNeg 0)) H := hP
    have hD : va_D (va_A (wD a k D) s.heap.size) (wD a k (u2 Ds5 8 (nI i).toNatClampNeg 0)) := hD
    obtain ⟨Ds6, hDs6⟩ : ∃ z9, z9 = (u2 Ds5 8 (nI i).toNatClampNeg 0) := ⟨_, rfl⟩
    rw [← hDs6] at hP hD
    refine lv_aload_n hx hb d_Mod_begin_42 rfl (lv_at hl 1 rfl) ?_
    refine va_get (D := Dg) (ci := 3) (v := .ref (a 10)) (C := R_Mod) (T := F_Mod) (N := 17) hx hb hT in_Mod hown hK hP 0 rfl rfl 12 (by decide) (hT _ tw2_238) (fun _ h9 => h9) rfl d_Mod_begin_43 ?_
    refine lv_iload_n hx hb d_Mod_begin_46 rfl (lv_at hl 0 rfl) ?_
    refine lv_iconst (v := 0) hx hb d_Mod_begin_47 (by decide) ?_
    refine va_iast hx hb hK hP hD hS 10 0 rfl rfl (vp_in_nI (by omega) (by decide)) d_Mod_begin_48 (fun H locs hP hD hS => ?_)
    have hP : va_P Dg classes (wD a k (u2 Ds6 9 (nI i).toNatClampNeg 0)) H := hP
    have hD : va_D (va_A (wD a k D) s.heap.size) (wD a k (u2 Ds6 9 (nI i).toNatClampNeg 0)) := hD
    obtain ⟨Ds7, hDs7⟩ : ∃ z9, z9 = (u2 Ds6 9 (nI i).toNatClampNeg 0) := ⟨_, rfl⟩
    rw [← hDs7] at hP hD
    refine lv_iinc (k := 0) (v := (nI (i + 1))) hx hb d_Mod_begin_49 hl rfl (nI_succ _).symm (by decide) rfl (fun ls hl => ?_)
    have hl : lv_has ls 2 [(1, .int (nI (i + 1))), (0, .ref (a 0))] := hl
    refine lv_goto (tgt := 2) hx hb d_Mod_begin_52 (by decide) ?_
    exact ih (f - 1) (i + 1, Ds7) H locs ls (by omega) ⟨by show i + 1 + (f - 1) = 2; omega, by show Ds7 = dB1 D (i + 1); rw [hDs7, hDs6, hDs5, hDs4, hDs3, hDs2, hDi]; rfl, (lv_sub hl [0, 1] rfl), hP, hD, hS⟩

set_option maxRecDepth 100000 in
set_option maxHeartbeats 4000000 in
theorem c_Mod_set (l : Launch) (Dg : va_G) (a : Nat → Nat) (k : Nat → ClassId) (D : vSt) (q c n : Int32) (H : Heap) (hP : va_P Dg classes (wD a k D) H) (hD : va_D (fun _ => True) (wD a k D)) (hq : vp_in q 80) : kMv l y_Mod_set b_Mod_set 4 1 21 [.ref (a 0), .int q, .int c, .int n] H (va_K Dg classes (kTy k)) Dg (wD a k D) (wD a k (dSet D q c n)) := by
  refine k_of (by decide) (Nat.le_of_ble_eq_true rfl) ?_
  intro p e s m below meth cd ls F hlocks hret hname hh hX hl
  subst hh
  obtain ⟨hx, hb, hml, hown, hT⟩ := id F
  have hK : va_K Dg classes (kTy k) s := hX
  have hA : ∀ q : Nat, s.heap.size ≤ q → va_A (wD a k D) s.heap.size q := fun q h => Or.inr h
  have hD := hD.self (sz := s.heap.size)
  have hS : va_S (va_A (wD a k D) s.heap.size) s.heap s.heap [] := va_S.rf
  have hl : lv_has ls 4 [(0, .ref (a 0)), (1, .int q), (2, .int c), (3, .int n)] := hl
  refine lv_aload_n hx hb d_Mod_set_0 rfl (lv_at hl 0 rfl) ?_
  refine va_get (D := Dg) (ci := 3) (v := .ref (a 1)) (C := R_Mod) (T := F_Mod) (N := 17) hx hb hT in_Mod hown hK hP 0 rfl rfl 2 (by decide) (hT _ tw2_228) (fun _ h9 => h9) rfl d_Mod_set_1 ?_
  refine lv_iload_n hx hb d_Mod_set_4 rfl (lv_at hl 1 rfl) ?_
  refine lv_iload_n hx hb d_Mod_set_5 rfl (lv_at hl 2 rfl) ?_
  refine lv_i2c (v := pCh c) hx hb d_Mod_set_6 rfl ?_
  refine va_cast hx hb hK hP hD hS 1 2 rfl rfl hq d_Mod_set_7 (fun H locs hP hD hS => ?_)
  have hP : va_P Dg classes (wD a k (u2 D 0 q.toNatClampNeg (vp_nar .char (pCh c)))) H := hP
  have hD : va_D (va_A (wD a k D) s.heap.size) (wD a k (u2 D 0 q.toNatClampNeg (vp_nar .char (pCh c)))) := hD
  obtain ⟨Ds1, hDs1⟩ : ∃ z9, z9 = (u2 D 0 q.toNatClampNeg (vp_nar .char (pCh c))) := ⟨_, rfl⟩
  rw [← hDs1] at hP hD
  refine lv_aload_n hx hb d_Mod_set_8 rfl (lv_at hl 0 rfl) ?_
  refine va_get (D := Dg) (ci := 3) (v := .ref (a 2)) (C := R_Mod) (T := F_Mod) (N := 17) hx hb hT in_Mod hown hK hP 0 rfl rfl 3 (by decide) (hT _ tw2_229) (fun _ h9 => h9) rfl d_Mod_set_9 ?_
  refine lv_iload_n hx hb d_Mod_set_12 rfl (lv_at hl 1 rfl) ?_
  refine lv_iload_n hx hb d_Mod_set_13 rfl (lv_at hl 3 rfl) ?_
  refine va_iast hx hb hK hP hD hS 2 0 rfl rfl hq d_Mod_set_14 (fun H locs hP hD hS => ?_)
  have hP : va_P Dg classes (wD a k (u2 Ds1 1 q.toNatClampNeg n)) H := hP
  have hD : va_D (va_A (wD a k D) s.heap.size) (wD a k (u2 Ds1 1 q.toNatClampNeg n)) := hD
  obtain ⟨Ds2, hDs2⟩ : ∃ z9, z9 = (u2 Ds1 1 q.toNatClampNeg n) := ⟨_, rfl⟩
  rw [← hDs2] at hP hD
  refine lv_aload_n hx hb d_Mod_set_15 rfl (lv_at hl 0 rfl) ?_
  refine lv_iconst (v := 0) hx hb d_Mod_set_16 (by decide) ?_
  refine va_put (D := Dg) (ci := 3) (v := .int 0) (ty := .boolean) (C := R_Mod) (T := F_Mod) (N := 17) hx hb hT in_Mod t_Mod t_Mod_ok n_Mod hown hK hP hD hS 0 rfl rfl 4 (by decide) (hT _ tw2_230) (fun _ h9 => h9) rfl (by decide +kernel) rfl rfl (Nat.le_of_ble_eq_true rfl) d_Mod_set_17 (fun H locs hP hD hS => ?_)
  have hP : va_P Dg classes (wD a k (u2 Ds2 14 2 0)) H := hP
  have hD : va_D (va_A (wD a k D) s.heap.size) (wD a k (u2 Ds2 14 2 0)) := hD
  obtain ⟨Ds3, hDs3⟩ : ∃ z9, z9 = (u2 Ds2 14 2 0) := ⟨_, rfl⟩
  rw [← hDs3] at hP hD
  refine lv_aload_n hx hb d_Mod_set_20 rfl (lv_at hl 0 rfl) ?_
  refine km_Vv (wr := []) F (c_Mod_begin l Dg a k Ds3  _ hP (hD.weaken (fun _ _ _ _ => trivial)) ) kx_K hK kw_Mod_72 tw3_65 ts_16 (va_recv (ci := 3) (q0 := 0) hK hP rfl rfl) hP hD hS hA [0, 1, 2, 3, 4, 5, 6, 7, 8, 9, 10, 11, 12, 13, 14] [] rfl rfl (by decide) (by decide) d_Mod_set_21 ⟨⟨by decide, by decide⟩, Nat.le_refl _, Nat.le_refl _⟩ rfl hl.1 rfl (Nat.le_of_ble_eq_true rfl) (fun H locs hP hD hS => ?_)
  have hP : va_P Dg classes (wD a k (dBeg Ds3)) H := hP
  have hD : va_D (va_A (wD a k D) s.heap.size) (wD a k (dBeg Ds3)) := hD
  obtain ⟨Ds4, hDs4⟩ : ∃ z9, z9 = (dBeg Ds3) := ⟨_, rfl⟩
  rw [← hDs4] at hP hD
  exact km_v F hlocks hret hP hD hS d_Mod_set_24 (by subst hDs4 hDs3 hDs2 hDs1; rfl)

set_option maxRecDepth 100000 in
set_option maxHeartbeats 4000000 in
theorem c_Mod_clear (l : Launch) (Dg : va_G) (a : Nat → Nat) (k : Nat → ClassId) (D : vSt) (H : Heap) (hP : va_P Dg classes (wD a k D) H) (hD : va_D (fun _ => True) (wD a k D)) : kMv l y_Mod_clear b_Mod_clear 1 1 21 [.ref (a 0)] H (va_K Dg classes (kTy k)) Dg (wD a k D) (wD a k (dClear D)) := by
  refine k_of (by decide) (Nat.le_of_ble_eq_true rfl) ?_
  intro p e s m below meth cd ls F hlocks hret hname hh hX hl
  subst hh
  obtain ⟨hx, hb, hml, hown, hT⟩ := id F
  have hK : va_K Dg classes (kTy k) s := hX
  have hA : ∀ q : Nat, s.heap.size ≤ q → va_A (wD a k D) s.heap.size q := fun q h => Or.inr h
  have hD := hD.self (sz := s.heap.size)
  have hS : va_S (va_A (wD a k D) s.heap.size) s.heap s.heap [] := va_S.rf
  have hl : lv_has ls 1 [(0, .ref (a 0))] := hl
  refine lv_aload_n hx hb d_Mod_clear_0 rfl (lv_at hl 0 rfl) ?_
  refine lv_iconst (v := 0) hx hb d_Mod_clear_1 (by decide) ?_
  refine va_put (D := Dg) (ci := 3) (v := .int 0) (ty := .int) (C := R_Mod) (T := F_Mod) (N := 17) hx hb hT in_Mod t_Mod t_Mod_ok n_Mod hown hK hP hD hS 0 rfl rfl 0 (by decide) (hT _ tw2_226) (fun _ h9 => h9) rfl (by decide +kernel) rfl rfl (Nat.le_of_ble_eq_true rfl) d_Mod_clear_2 (fun H locs hP hD hS => ?_)
  have hP : va_P Dg classes (wD a k (u2 D 14 0 0)) H := hP
  have hD : va_D (va_A (wD a k D) s.heap.size) (wD a k (u2 D 14 0 0)) := hD
  obtain ⟨Ds1, hDs1⟩ : ∃ z9, z9 = (u2 D 14 0 0) := ⟨_, rfl⟩
  rw [← hDs1] at hP hD
  refine lv_aload_n hx hb d_Mod_clear_5 rfl (lv_at hl 0 rfl) ?_
  refine lv_iconst (v := 0) hx hb d_Mod_clear_6 (by decide) ?_
  refine va_put (D := Dg) (ci := 3) (v := .int 0) (ty := .int) (C := R_Mod) (T := F_Mod) (N := 17) hx hb hT in_Mod t_Mod t_Mod_ok n_Mod hown hK hP hD hS 0 rfl rfl 1 (by decide) (hT _ tw2_227) (fun _ h9 => h9) rfl (by decide +kernel) rfl rfl (Nat.le_of_ble_eq_true rfl) d_Mod_clear_7 (fun H locs hP hD hS => ?_)
  have hP : va_P Dg classes (wD a k (u2 Ds1 14 1 0)) H := hP
  have hD : va_D (va_A (wD a k D) s.heap.size) (wD a k (u2 Ds1 14 1 0)) := hD
  obtain ⟨Ds2, hDs2⟩ : ∃ z9, z9 = (u2 Ds1 14 1 0) := ⟨_, rfl⟩
  rw [← hDs2] at hP hD
  refine lv_aload_n hx hb d_Mod_clear_10 rfl (lv_at hl 0 rfl) ?_
  refine lv_iconst (v := 0) hx hb d_Mod_clear_11 (by decide) ?_
  refine va_put (D := Dg) (ci := 3) (v := .int 0) (ty := .boolean) (C := R_Mod) (T := F_Mod) (N := 17) hx hb hT in_Mod t_Mod t_Mod_ok n_Mod hown hK hP hD hS 0 rfl rfl 4 (by decide) (hT _ tw2_230) (fun _ h9 => h9) rfl (by decide +kernel) rfl rfl (Nat.le_of_ble_eq_true rfl) d_Mod_clear_12 (fun H locs hP hD hS => ?_)
  have hP : va_P Dg classes (wD a k (u2 Ds2 14 2 0)) H := hP
  have hD : va_D (va_A (wD a k D) s.heap.size) (wD a k (u2 Ds2 14 2 0)) := hD
  obtain ⟨Ds3, hDs3⟩ : ∃ z9, z9 = (u2 Ds2 14 2 0) := ⟨_, rfl⟩
  rw [← hDs3] at hP hD
  refine lv_aload_n hx hb d_Mod_clear_15 rfl (lv_at hl 0 rfl) ?_
  refine km_Vv (wr := []) F (c_Mod_begin l Dg a k Ds3  _ hP (hD.weaken (fun _ _ _ _ => trivial)) ) kx_K hK kw_Mod_72 tw3_65 ts_16 (va_recv (ci := 3) (q0 := 0) hK hP rfl rfl) hP hD hS hA [0, 1, 2, 3, 4, 5, 6, 7, 8, 9, 10, 11, 12, 13, 14] [] rfl rfl (by decide) (by decide) d_Mod_clear_16 ⟨⟨by decide, by decide⟩, Nat.le_refl _, Nat.le_refl _⟩ rfl hl.1 rfl (Nat.le_of_ble_eq_true rfl) (fun H locs hP hD hS => ?_)
  have hP : va_P Dg classes (wD a k (dBeg Ds3)) H := hP
  have hD : va_D (va_A (wD a k D) s.heap.size) (wD a k (dBeg Ds3)) := hD
  obtain ⟨Ds4, hDs4⟩ : ∃ z9, z9 = (dBeg Ds3) := ⟨_, rfl⟩
  rw [← hDs4] at hP hD
  exact km_v F hlocks hret hP hD hS d_Mod_clear_19 (by subst hDs4 hDs3 hDs2 hDs1; rfl)

set_option maxRecDepth 100000 in
set_option maxHeartbeats 4000000 in
theorem c_Mod_restart (l : Launch) (Dg : va_G) (a : Nat → Nat) (k : Nat → ClassId) (D : vSt) (H : Heap) (hP : va_P Dg classes (wD a k D) H) (hD : va_D (fun _ => True) (wD a k D)) : kMv l y_Mod_restart b_Mod_restart 1 1 21 [.ref (a 0)] H (va_K Dg classes (kTy k)) Dg (wD a k D) (wD a k (dBeg (u2 D 14 0 0))) := by
  refine k_of (by decide) (Nat.le_of_ble_eq_true rfl) ?_
  intro p e s m below meth cd ls F hlocks hret hname hh hX hl
  subst hh
  obtain ⟨hx, hb, hml, hown, hT⟩ := id F
  have hK : va_K Dg classes (kTy k) s := hX
  have hA : ∀ q : Nat, s.heap.size ≤ q → va_A (wD a k D) s.heap.size q := fun q h => Or.inr h
  have hD := hD.self (sz := s.heap.size)
  have hS : va_S (va_A (wD a k D) s.heap.size) s.heap s.heap [] := va_S.rf
  have hl : lv_has ls 1 [(0, .ref (a 0))] := hl
  refine lv_aload_n hx hb d_Mod_restart_0 rfl (lv_at hl 0 rfl) ?_
  refine lv_iconst (v := 0) hx hb d_Mod_restart_1 (by decide) ?_
  refine va_put (D := Dg) (ci := 3) (v := .int 0) (ty := .int) (C := R_Mod) (T := F_Mod) (N := 17) hx hb hT in_Mod t_Mod t_Mod_ok n_Mod hown hK hP hD hS 0 rfl rfl 0 (by decide) (hT _ tw2_226) (fun _ h9 => h9) rfl (by decide +kernel) rfl rfl (Nat.le_of_ble_eq_true rfl) d_Mod_restart_2 (fun H locs hP hD hS => ?_)
  have hP : va_P Dg classes (wD a k (u2 D 14 0 0)) H := hP
  have hD : va_D (va_A (wD a k D) s.heap.size) (wD a k (u2 D 14 0 0)) := hD
  obtain ⟨Ds1, hDs1⟩ : ∃ z9, z9 = (u2 D 14 0 0) := ⟨_, rfl⟩
  rw [← hDs1] at hP hD
  refine lv_aload_n hx hb d_Mod_restart_5 rfl (lv_at hl 0 rfl) ?_
  refine km_Vv (wr := []) F (c_Mod_begin l Dg a k Ds1  _ hP (hD.weaken (fun _ _ _ _ => trivial)) ) kx_K hK kw_Mod_72 tw3_65 ts_16 (va_recv (ci := 3) (q0 := 0) hK hP rfl rfl) hP hD hS hA [0, 1, 2, 3, 4, 5, 6, 7, 8, 9, 10, 11, 12, 13, 14] [] rfl rfl (by decide) (by decide) d_Mod_restart_6 ⟨⟨by decide, by decide⟩, Nat.le_refl _, Nat.le_refl _⟩ rfl hl.1 rfl (Nat.le_of_ble_eq_true rfl) (fun H locs hP hD hS => ?_)
  have hP : va_P Dg classes (wD a k (dBeg Ds1)) H := hP
  have hD : va_D (va_A (wD a k D) s.heap.size) (wD a k (dBeg Ds1)) := hD
  obtain ⟨Ds2, hDs2⟩ : ∃ z9, z9 = (dBeg Ds1) := ⟨_, rfl⟩
  rw [← hDs2] at hP hD
  exact km_v F hlocks hret hP hD hS d_Mod_restart_9 (by subst hDs2 hDs1; rfl)

set_option maxRecDepth 100000 in
set_option maxHeartbeats 4000000 in
theorem c_Mod_add (l : Launch) (Dg : va_G) (a : Nat → Nat) (k : Nat → ClassId) (D : vSt) (c n : Int32) (H : Heap) (hP : va_P Dg classes (wD a k D) H) (hD : va_D (fun _ => True) (wD a k D)) (hsz : ∃ z : Nat, z ≤ 80 ∧ D 14 1 = nI z) : kMi l y_Mod_add b_Mod_add 3 (some FieldType.int) 3 61 [.ref (a 0), .int c, .int n] H (va_K Dg classes (kTy k)) Dg (wD a k D) (wD a k (dAddM D c n)) (dAddR D c n) := by
  refine k_of (by decide) (Nat.le_of_ble_eq_true rfl) ?_
  intro p e s m below meth cd ls F hlocks hret hname hh hX hl
  subst hh
  obtain ⟨hx, hb, hml, hown, hT⟩ := id F
  have hK : va_K Dg classes (kTy k) s := hX
  have hA : ∀ q : Nat, s.heap.size ≤ q → va_A (wD a k D) s.heap.size q := fun q h => Or.inr h
  have hD := hD.self (sz := s.heap.size)
  have hS : va_S (va_A (wD a k D) s.heap.size) s.heap s.heap [] := va_S.rf
  have hl : lv_has ls 3 [(0, .ref (a 0)), (1, .int c), (2, .int n)] := hl
  refine lv_aload_n hx hb d_Mod_add_0 rfl (lv_at hl 0 rfl) ?_
  refine lv_iload_n hx hb d_Mod_add_1 rfl (lv_at hl 1 rfl) ?_
  refine lv_iload_n hx hb d_Mod_add_2 rfl (lv_at hl 2 rfl) ?_
  refine kp_S F (c_Mod_fits l Dg k c n _ ) kx_K hK kw_Mod_75 tw3_48 hS d_Mod_add_3 ⟨⟨by decide, by decide⟩, Nat.le_refl _, Nat.le_refl _⟩ rfl hl.1 rfl (Nat.le_of_ble_eq_true rfl) (fun locs hS => ?_)
  refine lv_if_ne (tgt := 13) hx hb d_Mod_add_6 (by decide) (fun h6 => ?_) (fun h6 => ?_)
  · refine lv_aload_n hx hb d_Mod_add_13 rfl (lv_at hl 0 rfl) ?_
    refine va_get (D := Dg) (ci := 3) (v := .int (D 14 1)) (C := R_Mod) (T := F_Mod) (N := 17) hx hb hT in_Mod hown hK hP 0 rfl rfl 1 (by decide) (hT _ tw2_227) (fun _ h9 => h9) rfl d_Mod_add_14 ?_
    refine lv_bipush (v := 80) hx hb d_Mod_add_17 (by decide) ?_
    refine lv_icmp_ne (tgt := 26) hx hb d_Mod_add_19 (by decide) (fun h19 => ?_) (fun h19 => ?_)
    · refine lv_iconst (v := 0) hx hb d_Mod_add_26 (by decide) ?_
      refine va_put (D := Dg) (ci := 3) (v := .int 0) (ty := .int) (C := R_Mod) (T := F_Mod) (N := 17) hx hb hT in_Mod t_Mod t_Mod_ok n_Mod hown hK hP hD hS 0 rfl rfl 0 (by decide) (hT _ tw2_226) (fun _ h9 => h9) rfl (by decide +kernel) rfl rfl (Nat.le_of_ble_eq_true rfl) d_Mod_add_27 (fun H locs hP hD hS => ?_)
      have hP : va_P Dg classes (wD a k (u2 D 14 0 0)) H := hP
      have hD : va_D (va_A (wD a k D) s.heap.size) (wD a k (u2 D 14 0 0)) := hD
      obtain ⟨Ds1, hDs1⟩ : ∃ z9, z9 = (u2 D 14 0 0) := ⟨_, rfl⟩
      rw [← hDs1] at hP hD
      refine lv_aload_n hx hb d_Mod_add_30 rfl (lv_at hl 0 rfl) ?_
      refine va_get (D := Dg) (ci := 3) (v := .int 0) (C := R_Mod) (T := F_Mod) (N := 17) hx hb hT in_Mod hown hK hP 0 rfl rfl 0 (by decide) (hT _ tw2_226) (fun _ h9 => h9) (by rw [hDs1]; rfl) d_Mod_add_31 ?_
      refine lv_if_le (tgt := 39) hx hb d_Mod_add_34 (by decide) (fun _ => ?_) (fun h9 => absurd (by decide) h9)
      refine lv_aload_n hx hb d_Mod_add_39 rfl (lv_at hl 0 rfl) ?_
      refine lv_aload_n hx hb d_Mod_add_40 rfl (lv_at hl 0 rfl) ?_
      refine va_get (D := Dg) (ci := 3) (v := .int (D 14 1)) (C := R_Mod) (T := F_Mod) (N := 17) hx hb hT in_Mod hown hK hP 0 rfl rfl 1 (by decide) (hT _ tw2_227) (fun _ h9 => h9) (by rw [hDs1]; rfl) d_Mod_add_41 ?_
      refine lv_iload_n hx hb d_Mod_add_44 rfl (lv_at hl 1 rfl) ?_
      refine lv_iload_n hx hb d_Mod_add_45 rfl (lv_at hl 2 rfl) ?_
      refine km_Vv (wr := []) F (c_Mod_set l Dg a k Ds1 (D 14 1) c n _ hP (hD.weaken (fun _ _ _ _ => trivial)) (by obtain ⟨z, hz, ez⟩ := hsz; rw [ez]; have hne : z ≠ 80 := fun y => h19 (by rw [ez, y]; rfl); exact vp_in_nI (by omega) (by decide))) kx_K hK kw_Mod_82 tw3_61 ts_15 (va_recv (ci := 3) (q0 := 0) hK hP rfl rfl) hP hD hS hA [0, 1, 2, 3, 4, 5, 6, 7, 8, 9, 10, 11, 12, 13, 14] [] rfl rfl (by decide) (by decide) d_Mod_add_46 ⟨⟨by decide, by decide⟩, Nat.le_refl _, Nat.le_refl _⟩ rfl hl.1 rfl (Nat.le_of_ble_eq_true rfl) (fun H locs hP hD hS => ?_)
      have hP : va_P Dg classes (wD a k (dSet Ds1 (D 14 1) c n)) H := hP
      have hD : va_D (va_A (wD a k D) s.heap.size) (wD a k (dSet Ds1 (D 14 1) c n)) := hD
      obtain ⟨Ds2, hDs2⟩ : ∃ z9, z9 = (dSet Ds1 (D 14 1) c n) := ⟨_, rfl⟩
      rw [← hDs2] at hP hD
      refine lv_aload_n hx hb d_Mod_add_49 rfl (lv_at hl 0 rfl) ?_
      refine lv_dup hx hb d_Mod_add_50 rfl ?_
      refine va_get (D := Dg) (ci := 3) (v := .int (Ds2 14 1)) (C := R_Mod) (T := F_Mod) (N := 17) hx hb hT in_Mod hown hK hP 0 rfl rfl 1 (by decide) (hT _ tw2_227) (fun _ h9 => h9) rfl d_Mod_add_51 ?_
      refine lv_iconst (v := 1) hx hb d_Mod_add_54 (by decide) ?_
      refine lv_iadd hx hb d_Mod_add_55 ?_
      refine va_put (D := Dg) (ci := 3) (v := .int ((Ds2 14 1) + 1)) (ty := .int) (C := R_Mod) (T := F_Mod) (N := 17) hx hb hT in_Mod t_Mod t_Mod_ok n_Mod hown hK hP hD hS 0 rfl rfl 1 (by decide) (hT _ tw2_227) (fun _ h9 => h9) rfl (by decide +kernel) rfl rfl (Nat.le_of_ble_eq_true rfl) d_Mod_add_56 (fun H locs hP hD hS => ?_)
      have hP : va_P Dg classes (wD a k (u2 Ds2 14 1 ((Ds2 14 1) + 1))) H := hP
      have hD : va_D (va_A (wD a k D) s.heap.size) (wD a k (u2 Ds2 14 1 ((Ds2 14 1) + 1))) := hD
      obtain ⟨Ds3, hDs3⟩ : ∃ z9, z9 = (u2 Ds2 14 1 ((Ds2 14 1) + 1)) := ⟨_, rfl⟩
      rw [← hDs3] at hP hD
      refine lv_aload_n hx hb d_Mod_add_59 rfl (lv_at hl 0 rfl) ?_
      refine va_get (D := Dg) (ci := 3) (v := .int ((Ds2 14 1) + 1)) (C := R_Mod) (T := F_Mod) (N := 17) hx hb hT in_Mod hown hK hP 0 rfl rfl 1 (by decide) (hT _ tw2_227) (fun _ h9 => h9) (by rw [hDs3]; rfl) d_Mod_add_60 ?_
      refine lv_iconst (v := 1) hx hb d_Mod_add_63 (by decide) ?_
      refine lv_isub hx hb d_Mod_add_64 ?_
      exact km_i F hlocks hret hP hD hS d_Mod_add_65 (by subst hDs3 hDs2 hDs1; have hC : dAddC D c n = 0 := (by unfold dAddC; rw [if_neg h6, if_neg h19]); unfold dAddR; rw [hC, if_pos (by decide), u2_at]) (by subst hDs3 hDs2 hDs1; have hC : dAddC D c n = 0 := (by unfold dAddC; rw [if_neg h6, if_neg h19]); unfold dAddM; rw [hC, if_pos (by decide)])
    · refine lv_iconst (v := 2) hx hb d_Mod_add_22 (by decide) ?_
      refine lv_goto (tgt := 27) hx hb d_Mod_add_23 (by decide) ?_
      refine va_put (D := Dg) (ci := 3) (v := .int 2) (ty := .int) (C := R_Mod) (T := F_Mod) (N := 17) hx hb hT in_Mod t_Mod t_Mod_ok n_Mod hown hK hP hD hS 0 rfl rfl 0 (by decide) (hT _ tw2_226) (fun _ h9 => h9) rfl (by decide +kernel) rfl rfl (Nat.le_of_ble_eq_true rfl) d_Mod_add_27 (fun H locs hP hD hS => ?_)
      have hP : va_P Dg classes (wD a k (u2 D 14 0 2)) H := hP
      have hD : va_D (va_A (wD a k D) s.heap.size) (wD a k (u2 D 14 0 2)) := hD
      obtain ⟨Ds4, hDs4⟩ : ∃ z9, z9 = (u2 D 14 0 2) := ⟨_, rfl⟩
      rw [← hDs4] at hP hD
      refine lv_aload_n hx hb d_Mod_add_30 rfl (lv_at hl 0 rfl) ?_
      refine va_get (D := Dg) (ci := 3) (v := .int 2) (C := R_Mod) (T := F_Mod) (N := 17) hx hb hT in_Mod hown hK hP 0 rfl rfl 0 (by decide) (hT _ tw2_226) (fun _ h9 => h9) (by rw [hDs4]; rfl) d_Mod_add_31 ?_
      refine lv_if_le (tgt := 39) hx hb d_Mod_add_34 (by decide) (fun h9 => absurd h9 (by decide)) (fun _ => ?_)
      refine lv_iconst (v := 0) hx hb d_Mod_add_37 (by decide) ?_
      exact km_i F hlocks hret hP hD hS d_Mod_add_38 (by subst hDs4; have hC : dAddC D c n = 2 := (by unfold dAddC; rw [if_neg h6, if_pos h19]); unfold dAddR; rw [hC, if_neg (by decide)]) (by subst hDs4; have hC : dAddC D c n = 2 := (by unfold dAddC; rw [if_neg h6, if_pos h19]); unfold dAddM; rw [hC, if_neg (by decide)])
  · refine lv_iconst (v := 1) hx hb d_Mod_add_9 (by decide) ?_
    refine lv_goto (tgt := 27) hx hb d_Mod_add_10 (by decide) ?_
    refine va_put (D := Dg) (ci := 3) (v := .int 1) (ty := .int) (C := R_Mod) (T := F_Mod) (N := 17) hx hb hT in_Mod t_Mod t_Mod_ok n_Mod hown hK hP hD hS 0 rfl rfl 0 (by decide) (hT _ tw2_226) (fun _ h9 => h9) rfl (by decide +kernel) rfl rfl (Nat.le_of_ble_eq_true rfl) d_Mod_add_27 (fun H locs hP hD hS => ?_)
    have hP : va_P Dg classes (wD a k (u2 D 14 0 1)) H := hP
    have hD : va_D (va_A (wD a k D) s.heap.size) (wD a k (u2 D 14 0 1)) := hD
    obtain ⟨Ds5, hDs5⟩ : ∃ z9, z9 = (u2 D 14 0 1) := ⟨_, rfl⟩
    rw [← hDs5] at hP hD
    refine lv_aload_n hx hb d_Mod_add_30 rfl (lv_at hl 0 rfl) ?_
    refine va_get (D := Dg) (ci := 3) (v := .int 1) (C := R_Mod) (T := F_Mod) (N := 17) hx hb hT in_Mod hown hK hP 0 rfl rfl 0 (by decide) (hT _ tw2_226) (fun _ h9 => h9) (by rw [hDs5]; rfl) d_Mod_add_31 ?_
    refine lv_if_le (tgt := 39) hx hb d_Mod_add_34 (by decide) (fun h9 => absurd h9 (by decide)) (fun _ => ?_)
    refine lv_iconst (v := 0) hx hb d_Mod_add_37 (by decide) ?_
    exact km_i F hlocks hret hP hD hS d_Mod_add_38 (by subst hDs5; have hC : dAddC D c n = 1 := (by unfold dAddC; rw [if_pos h6]); unfold dAddR; rw [hC, if_neg (by decide)]) (by subst hDs5; have hC : dAddC D c n = 1 := (by unfold dAddC; rw [if_pos h6]); unfold dAddM; rw [hC, if_neg (by decide)])

theorem pOut_in {q : Int32} {z : Nat} (hz : z ≤ 80) (h : pOut q 0 (nI z - 1) = 0) : vp_in q 80 := by
  unfold pOut at h
  by_cases c1 : q < 0
  · rw [if_pos c1] at h; exact absurd h (by decide)
  rw [if_neg c1] at h
  by_cases c2 : q ≤ nI z - 1
  · have h1 := mt Int32.lt_iff_toInt_lt.mpr c1
    have h2 := Int32.le_iff_toInt_le.mp c2
    have e0 : (0 : Int32).toInt = 0 := by decide
    have e1 : (nI z - 1).toInt = (z : Int) - 1 := pk_sub_toInt (b := 1) (by omega) (by decide)
    rw [vp_in_iff]; omega
  · rw [if_neg c2] at h; exact absurd h (by decide)

set_option maxRecDepth 100000 in
set_option maxHeartbeats 4000000 in
theorem c_Mod_change (l : Launch) (Dg : va_G) (a : Nat → Nat) (k : Nat → ClassId) (D : vSt) (q c n : Int32) (H : Heap) (hP : va_P Dg classes (wD a k D) H) (hD : va_D (fun _ => True) (wD a k D)) (hsz : ∃ z : Nat, z ≤ 80 ∧ D 14 1 = nI z) : kMv l y_Mod_change b_Mod_change 4 3 61 [.ref (a 0), .int q, .int c, .int n] H (va_K Dg classes (kTy k)) Dg (wD a k D) (wD a k (dChg D q c n)) := by
  refine k_of (by decide) (Nat.le_of_ble_eq_true rfl) ?_
  intro p e s m below meth cd ls F hlocks hret hname hh hX hl
  subst hh
  obtain ⟨hx, hb, hml, hown, hT⟩ := id F
  have hK : va_K Dg classes (kTy k) s := hX
  have hA : ∀ q : Nat, s.heap.size ≤ q → va_A (wD a k D) s.heap.size q := fun q h => Or.inr h
  have hD := hD.self (sz := s.heap.size)
  have hS : va_S (va_A (wD a k D) s.heap.size) s.heap s.heap [] := va_S.rf
  have hl : lv_has ls 4 [(0, .ref (a 0)), (1, .int q), (2, .int c), (3, .int n)] := hl
  refine lv_aload_n hx hb d_Mod_change_0 rfl (lv_at hl 0 rfl) ?_
  refine lv_iload_n hx hb d_Mod_change_1 rfl (lv_at hl 1 rfl) ?_
  refine lv_iconst (v := 0) hx hb d_Mod_change_2 (by decide) ?_
  refine lv_aload_n hx hb d_Mod_change_3 rfl (lv_at hl 0 rfl) ?_
  refine va_get (D := Dg) (ci := 3) (v := .int (D 14 1)) (C := R_Mod) (T := F_Mod) (N := 17) hx hb hT in_Mod hown hK hP 0 rfl rfl 1 (by decide) (hT _ tw2_227) (fun _ h9 => h9) rfl d_Mod_change_4 ?_
  refine lv_iconst (v := 1) hx hb d_Mod_change_7 (by decide) ?_
  refine lv_isub hx hb d_Mod_change_8 ?_
  refine kp_S F (c_Mod_outside l Dg k q 0 ((D 14 1) - 1) _ ) kx_K hK kw_Mod_64 tw3_57 hS d_Mod_change_9 ⟨⟨by decide, by decide⟩, Nat.le_refl _, Nat.le_refl _⟩ rfl hl.1 rfl (Nat.le_of_ble_eq_true rfl) (fun locs hS => ?_)
  refine lv_if_eq (tgt := 19) hx hb d_Mod_change_12 (by decide) (fun h12 => ?_) (fun h12 => ?_)
  · refine lv_iload_n hx hb d_Mod_change_19 rfl (lv_at hl 2 rfl) ?_
    refine lv_iload_n hx hb d_Mod_change_20 rfl (lv_at hl 3 rfl) ?_
    refine kp_S F (c_Mod_fits l Dg k c n _ ) kx_K hK kw_Mod_75 tw3_48 hS d_Mod_change_21 ⟨⟨by decide, by decide⟩, Nat.le_refl _, Nat.le_refl _⟩ rfl hl.1 rfl (Nat.le_of_ble_eq_true rfl) (fun locs hS => ?_)
    refine lv_if_eq (tgt := 31) hx hb d_Mod_change_24 (by decide) (fun h24 => ?_) (fun h24 => ?_)
    · refine lv_iconst (v := 2) hx hb d_Mod_change_31 (by decide) ?_
      refine va_put (D := Dg) (ci := 3) (v := .int 2) (ty := .int) (C := R_Mod) (T := F_Mod) (N := 17) hx hb hT in_Mod t_Mod t_Mod_ok n_Mod hown hK hP hD hS 0 rfl rfl 0 (by decide) (hT _ tw2_226) (fun _ h9 => h9) rfl (by decide +kernel) rfl rfl (Nat.le_of_ble_eq_true rfl) d_Mod_change_32 (fun H locs hP hD hS => ?_)
      have hP : va_P Dg classes (wD a k (u2 D 14 0 2)) H := hP
      have hD : va_D (va_A (wD a k D) s.heap.size) (wD a k (u2 D 14 0 2)) := hD
      obtain ⟨Ds1, hDs1⟩ : ∃ z9, z9 = (u2 D 14 0 2) := ⟨_, rfl⟩
      rw [← hDs1] at hP hD
      refine lv_aload_n hx hb d_Mod_change_35 rfl (lv_at hl 0 rfl) ?_
      refine va_get (D := Dg) (ci := 3) (v := .int 2) (C := R_Mod) (T := F_Mod) (N := 17) hx hb hT in_Mod hown hK hP 0 rfl rfl 0 (by decide) (hT _ tw2_226) (fun _ h9 => h9) (by rw [hDs1]; rfl) d_Mod_change_36 ?_
      refine lv_if_ne (tgt := 49) hx hb d_Mod_change_39 (by decide) (fun _ => ?_) (fun h9 => absurd h9 (by decide))
      exact km_v F hlocks hret hP hD hS d_Mod_change_49 (by subst hDs1; have hC : dChgC D q c n = 2 := (by unfold dChgC; rw [if_pos h12, if_pos h24]); unfold dChg; rw [hC, if_neg (by decide)])
    · refine lv_iconst (v := 0) hx hb d_Mod_change_27 (by decide) ?_
      refine lv_goto (tgt := 32) hx hb d_Mod_change_28 (by decide) ?_
      refine va_put (D := Dg) (ci := 3) (v := .int 0) (ty := .int) (C := R_Mod) (T := F_Mod) (N := 17) hx hb hT in_Mod t_Mod t_Mod_ok n_Mod hown hK hP hD hS 0 rfl rfl 0 (by decide) (hT _ tw2_226) (fun _ h9 => h9) rfl (by decide +kernel) rfl rfl (Nat.le_of_ble_eq_true rfl) d_Mod_change_32 (fun H locs hP hD hS => ?_)
      have hP : va_P Dg classes (wD a k (u2 D 14 0 0)) H := hP
      have hD : va_D (va_A (wD a k D) s.heap.size) (wD a k (u2 D 14 0 0)) := hD
      obtain ⟨Ds2, hDs2⟩ : ∃ z9, z9 = (u2 D 14 0 0) := ⟨_, rfl⟩
      rw [← hDs2] at hP hD
      refine lv_aload_n hx hb d_Mod_change_35 rfl (lv_at hl 0 rfl) ?_
      refine va_get (D := Dg) (ci := 3) (v := .int 0) (C := R_Mod) (T := F_Mod) (N := 17) hx hb hT in_Mod hown hK hP 0 rfl rfl 0 (by decide) (hT _ tw2_226) (fun _ h9 => h9) (by rw [hDs2]; rfl) d_Mod_change_36 ?_
      refine lv_if_ne (tgt := 49) hx hb d_Mod_change_39 (by decide) (fun h9 => absurd (by decide) h9) (fun _ => ?_)
      refine lv_aload_n hx hb d_Mod_change_42 rfl (lv_at hl 0 rfl) ?_
      refine lv_iload_n hx hb d_Mod_change_43 rfl (lv_at hl 1 rfl) ?_
      refine lv_iload_n hx hb d_Mod_change_44 rfl (lv_at hl 2 rfl) ?_
      refine lv_iload_n hx hb d_Mod_change_45 rfl (lv_at hl 3 rfl) ?_
      refine km_Vv (wr := []) F (c_Mod_set l Dg a k Ds2 q c n _ hP (hD.weaken (fun _ _ _ _ => trivial)) (by obtain ⟨z, hz, ez⟩ := hsz; rw [ez] at h12; exact pOut_in hz h12)) kx_K hK kw_Mod_82 tw3_61 ts_15 (va_recv (ci := 3) (q0 := 0) hK hP rfl rfl) hP hD hS hA [0, 1, 2, 3, 4, 5, 6, 7, 8, 9, 10, 11, 12, 13, 14] [] rfl rfl (by decide) (by decide) d_Mod_change_46 ⟨⟨by decide, by decide⟩, Nat.le_refl _, Nat.le_refl _⟩ rfl hl.1 rfl (Nat.le_of_ble_eq_true rfl) (fun H locs hP hD hS => ?_)
      have hP : va_P Dg classes (wD a k (dSet Ds2 q c n)) H := hP
      have hD : va_D (va_A (wD a k D) s.heap.size) (wD a k (dSet Ds2 q c n)) := hD
      obtain ⟨Ds3, hDs3⟩ : ∃ z9, z9 = (dSet Ds2 q c n) := ⟨_, rfl⟩
      rw [← hDs3] at hP hD
      exact km_v F hlocks hret hP hD hS d_Mod_change_49 (by subst hDs3 hDs2; have hC : dChgC D q c n = 0 := (by unfold dChgC; rw [if_pos h12, if_neg h24]); unfold dChg; rw [hC, if_pos rfl])
  · refine lv_iconst (v := 1) hx hb d_Mod_change_15 (by decide) ?_
    refine lv_goto (tgt := 32) hx hb d_Mod_change_16 (by decide) ?_
    refine va_put (D := Dg) (ci := 3) (v := .int 1) (ty := .int) (C := R_Mod) (T := F_Mod) (N := 17) hx hb hT in_Mod t_Mod t_Mod_ok n_Mod hown hK hP hD hS 0 rfl rfl 0 (by decide) (hT _ tw2_226) (fun _ h9 => h9) rfl (by decide +kernel) rfl rfl (Nat.le_of_ble_eq_true rfl) d_Mod_change_32 (fun H locs hP hD hS => ?_)
    have hP : va_P Dg classes (wD a k (u2 D 14 0 1)) H := hP
    have hD : va_D (va_A (wD a k D) s.heap.size) (wD a k (u2 D 14 0 1)) := hD
    obtain ⟨Ds4, hDs4⟩ : ∃ z9, z9 = (u2 D 14 0 1) := ⟨_, rfl⟩
    rw [← hDs4] at hP hD
    refine lv_aload_n hx hb d_Mod_change_35 rfl (lv_at hl 0 rfl) ?_
    refine va_get (D := Dg) (ci := 3) (v := .int 1) (C := R_Mod) (T := F_Mod) (N := 17) hx hb hT in_Mod hown hK hP 0 rfl rfl 0 (by decide) (hT _ tw2_226) (fun _ h9 => h9) (by rw [hDs4]; rfl) d_Mod_change_36 ?_
    refine lv_if_ne (tgt := 49) hx hb d_Mod_change_39 (by decide) (fun _ => ?_) (fun h9 => absurd h9 (by decide))
    exact km_v F hlocks hret hP hD hS d_Mod_change_49 (by subst hDs4; have hC : dChgC D q c n = 1 := (by unfold dChgC; rw [if_neg h12]); unfold dChg; rw [hC, if_neg (by decide)])
