theorem c_Row_letterOf (l : Launch) (Dg : va_G) (k : Nat → ClassId) (tL r i : Nat) (H : Heap) (hr : r < 20) (hi : i < 4) : kPu l y_Row_letterOf b_Row_letterOf 2 (some FieldType.int) 0 0 [.int (nI r), .int (nI i)] H (rX Dg k tL H) (rl (4 * r + i)) := by
  refine k_of (by decide) (Nat.le_of_ble_eq_true rfl) ?_
  intro p e s m below meth cd ls F hlocks hret hname hh hX hl
  subst hh
  obtain ⟨hx, hb, hml, hown, hT⟩ := id F
  have hS : va_S (fun _ => False) s.heap s.heap [] := va_S.rf
  have hl : lv_has ls 2 [(0, .int (nI r)), (1, .int (nI i))] := hl
  refine va_gets hx hb hX.2.1 hS hown (hT _ tw1_146) (fun _ h9 => h9) d_Row_letterOf_0 ?_
  refine lv_iload_n hx hb d_Row_letterOf_3 rfl (lv_at hl 0 rfl) ?_
  refine lv_iconst (v := 4) hx hb d_Row_letterOf_4 (by decide) ?_
  refine lv_imul hx hb d_Row_letterOf_5 ?_
  refine lv_iload_n hx hb d_Row_letterOf_6 rfl (lv_at hl 1 rfl) ?_
  refine lv_iadd hx hb d_Row_letterOf_7 ?_
  have e9 : nI r * 4 + nI i = nI (4 * r + i) := by rw [show (4 : Int32) = nI 4 from rfl, pk_mul, nI_add, Nat.mul_comm]
  rw [e9]
  refine va_tc (v := .int (rl (4 * r + i))) hx hb hX.2.2 hS (vp_in_nI (by omega) (by decide)) (by rw [nI_clamp (by omega)]) d_Row_letterOf_8 ?_
  exact kp_i F hlocks hret hS d_Row_letterOf_9 rfl

theorem c_Row_lengthOf (l : Launch) (Dg : va_G) (k : Nat → ClassId) (tL : Nat) (x : Int32) (H : Heap) (hx0 : ∃ r, r < 20 ∧ x = nI r) : kPu l y_Row_lengthOf b_Row_lengthOf 2 (some FieldType.int) 1 21 [.int x] H (rX Dg k tL H) (nI (rn x.toNatClampNeg)) := by
  obtain ⟨r, hr, rfl⟩ := hx0
  rw [nI_clamp (by omega)]
  refine k_of (by decide) (Nat.le_of_ble_eq_true rfl) ?_
  intro p e s m below meth cd ls F hlocks hret hname hh hX hl
  subst hh
  obtain ⟨hx, hb, hml, hown, hT⟩ := id F
  have hS : va_S (fun _ => False) s.heap s.heap [] := va_S.rf
  have hl : lv_has ls 2 [(0, .int (nI r))] := hl
  have h4 := rn_le r hr
  refine lv_iconst (v := 0) hx hb d_Row_lengthOf_0 (by decide) ?_
  refine lv_istore_n hx hb d_Row_lengthOf_1 rfl hl (by decide) rfl (fun ls hl => ?_)
  have hl : lv_has ls 2 [(1, .int (nI 0)), (0, .int (nI r))] := hl
  refine k_while (σ := Nat) (fun f i H locs ls => i + f = rn r ∧ H = s.heap ∧ lv_has ls 2 [(1, .int (nI i)), (0, .int (nI r))] ∧ va_S (fun _ => False) s.heap H locs) ?_ (rn r) 0 ⟨by omega, rfl, hl, hS⟩
  rintro f i H locs ls ⟨hif, rfl, hl, hS⟩ ih
  refine lv_iload_n hx hb d_Row_lengthOf_2 rfl (lv_at hl 0 rfl) ?_
  refine lv_iconst (v := 4) hx hb d_Row_lengthOf_3 (by decide) ?_
  refine lv_icmp_ge (tgt := 23) hx hb d_Row_lengthOf_4 (by decide) (fun h4' => ?_) (fun h4' => ?_)
  · have := (nI_leI (a := 4) (b := i) (by omega) (by omega)).mp h4'
    refine lv_iload_n hx hb d_Row_lengthOf_23 rfl (lv_at hl 0 rfl) ?_
    exact kp_i F hlocks hret hS d_Row_lengthOf_24 (by rw [show i = rn r by omega])
  · have hi4 : i < 4 := by
      rcases Nat.lt_or_ge i 4 with z | z
      · exact z
      · exact absurd (nI_le (a := 4) z (by omega)) h4'
    refine lv_iload_n hx hb d_Row_lengthOf_7 rfl (lv_at hl 1 rfl) ?_
    refine lv_iload_n hx hb d_Row_lengthOf_8 rfl (lv_at hl 0 rfl) ?_
    refine kp_S F (c_Row_letterOf l Dg k tL r i _ hr hi4) rX_m hX kw_Row_13 tw1_144 hS d_Row_lengthOf_9 ⟨⟨by decide, by decide⟩, Nat.le_refl _, Nat.le_refl _⟩ rfl hl.1 rfl (Nat.le_of_ble_eq_true rfl) (fun locs hS => ?_)
    refine lv_bipush (v := 32) hx hb d_Row_lengthOf_12 (by decide) ?_
    refine lv_icmp_eq (tgt := 23) hx hb d_Row_lengthOf_14 (by decide) (fun h14 => ?_) (fun h14 => ?_)
    · refine lv_iload_n hx hb d_Row_lengthOf_23 rfl (lv_at hl 0 rfl) ?_
      have hz : i = rn r := by
        rcases Nat.lt_or_ge i (rn r) with z | z
        · exact absurd h14 (rn_in r hr i z)
        · omega
      exact kp_i F hlocks hret hS d_Row_lengthOf_24 (by rw [hz])
    · have hz : i < rn r := by
        rcases Nat.lt_or_ge i (rn r) with z | z
        · exact z
        · have : i = rn r := by omega
          rw [this] at h14 hi4
          exact absurd (rn_out r hr hi4) h14
      refine lv_iinc (k := 0) (v := nI (i + 1)) hx hb d_Row_lengthOf_17 hl rfl (nI_succ _).symm (by decide) rfl (fun ls hl => ?_)
      refine lv_goto (tgt := 2) hx hb d_Row_lengthOf_20 (by decide) ?_
      exact ih (f - 1) (i + 1) _ locs ls (by omega) ⟨by omega, rfl, hl, hS⟩

set_option maxRecDepth 100000 in
set_option maxHeartbeats 4000000 in
theorem c_Prg_isRowAt (l : Launch) (Dg : va_G) (b : Nat → Nat) (k : Nat → ClassId) (G : vSt) (tL : Nat) (q r : Nat) (H : Heap) (hP : va_P Dg classes (wP b k G) H) (hp : pOk G) (hq : q < 80) (hr : r < 20) : kPu l y_Prg_isRowAt b_Prg_isRowAt 5 (some FieldType.boolean) 1 21 [.ref (b 0), .int (nI q), .int (nI r), .int (nI (rn r))] H (rX Dg k tL H) (sMt G q r) := by
  refine k_of (by decide) (Nat.le_of_ble_eq_true rfl) ?_
  intro p e s m below meth cd ls F hlocks hret hname hh hX hl
  subst hh
  obtain ⟨hx, hb, hml, hown, hT⟩ := id F
  have hK : va_K Dg classes (kTy k) s := hX.1
  have hS : va_S (fun _ => False) s.heap s.heap [] := va_S.rf
  have hl : lv_has ls 5 [(0, .ref (b 0)), (1, .int (nI q)), (2, .int (nI r)), (3, .int (nI (rn r)))] := hl
  obtain ⟨z, hz80, ez⟩ := hp
  have h4 := rn_le r hr
  refine lv_iload_n hx hb d_Prg_isRowAt_0 rfl (lv_at hl 1 rfl) ?_
  refine lv_iload_n hx hb d_Prg_isRowAt_1 rfl (lv_at hl 3 rfl) ?_
  refine lv_iadd hx hb d_Prg_isRowAt_2 ?_
  refine lv_aload_n hx hb d_Prg_isRowAt_3 rfl (lv_at hl 0 rfl) ?_
  refine va_get (D := Dg) (ci := 2) (v := .int (G 5 0)) (C := R_Prg) (T := F_Prg) (N := 7) hx hb hT in_Prg hown hK hP 0 rfl rfl 5 (by decide) (hT _ tw1_41) (fun _ h9 => h9) rfl d_Prg_isRowAt_4 ?_
  refine lv_icmp_le (tgt := 12) hx hb d_Prg_isRowAt_7 (by decide) (fun h7 => ?_) (fun h7 => ?_)
  · have hqr : q + rn r ≤ 80 := by rw [ez, nI_add] at h7; have := (nI_leI (by omega) (by omega)).mp h7; omega
    refine lv_iconst (v := 0) hx hb d_Prg_isRowAt_12 (by decide) ?_
    refine lv_istore hx hb d_Prg_isRowAt_13 hl (by decide) rfl (fun ls hl => ?_)
    have hl : lv_has ls 5 [(4, .int 0), (0, .ref (b 0)), (1, .int (nI q)), (2, .int (nI r)), (3, .int (nI (rn r)))] := hl
    refine k_while (σ := Nat) (fun f x H locs ls => x + f = rn r ∧ mtF G q r f x = mtF G q r (rn r) 0 ∧ H = s.heap ∧ lv_has ls 5 [(4, .int (nI x)), (0, .ref (b 0)), (1, .int (nI q)), (2, .int (nI r)), (3, .int (nI (rn r)))] ∧ va_S (fun _ => False) s.heap H locs) ?_ (rn r) 0 ⟨by omega, rfl, rfl, (lv_sub hl [0, 1, 2, 3, 4] rfl), hS⟩
    rintro f i H locs ls ⟨hif, hmt, rfl, hl, hS⟩ ih
    have hl : lv_has ls 5 [(4, .int (nI i)), (0, .ref (b 0)), (1, .int (nI q)), (2, .int (nI r)), (3, .int (nI (rn r)))] := hl
    refine lv_iload hx hb d_Prg_isRowAt_15 (lv_at hl 0 rfl) ?_
    refine lv_iload_n hx hb d_Prg_isRowAt_17 rfl (lv_at hl 4 rfl) ?_
    refine lv_icmp_ge (tgt := 66) hx hb d_Prg_isRowAt_18 (by decide) (fun h18 => ?_) (fun h18 => ?_)
    · refine lv_iconst (v := 1) hx hb d_Prg_isRowAt_66 (by decide) ?_
      exact kp_z F hlocks hret hS d_Prg_isRowAt_67 rfl (by unfold sMt; rw [if_pos h7, ← hmt, show f = 0 by have := (nI_leI (by omega) (by omega)).mp h18; omega]; rfl)
    · have hi : i < rn r := by rcases Nat.lt_or_ge i (rn r) with y | y; exact y; exact absurd (nI_le y (by omega)) h18
      obtain ⟨f, rfl⟩ : ∃ g, f = g + 1 := ⟨f - 1, by omega⟩
      have hin : vp_in (nI q + nI i) 80 := by rw [nI_add]; exact vp_in_nI (by omega) (by decide)
      have emt : mtF G q r (f + 1) i = (if G 0 (nI q + nI i).toNatClampNeg = rl (4 * r + i) then (if i = 0 then mtF G q r f (i + 1) else if G 2 (nI q + nI i).toNatClampNeg = 0 then mtF G q r f (i + 1) else 0) else 0) := rfl
      refine lv_aload_n hx hb d_Prg_isRowAt_21 rfl (lv_at hl 1 rfl) ?_
      refine va_get (D := Dg) (ci := 2) (v := .ref (b 1)) (C := R_Prg) (T := F_Prg) (N := 7) hx hb hT in_Prg hown hK hP 0 rfl rfl 0 (by decide) (hT _ tw1_32) (fun _ h9 => h9) rfl d_Prg_isRowAt_22 ?_
      refine lv_iload_n hx hb d_Prg_isRowAt_25 rfl (lv_at hl 2 rfl) ?_
      refine lv_iload hx hb d_Prg_isRowAt_26 (lv_at hl 0 rfl) ?_
      refine lv_iadd hx hb d_Prg_isRowAt_28 ?_
      refine va_iald (f := (G 0)) hx hb hK hP 1 0 rfl rfl hin d_Prg_isRowAt_29 ?_
      refine lv_iload_n hx hb d_Prg_isRowAt_30 rfl (lv_at hl 3 rfl) ?_
      refine lv_iload hx hb d_Prg_isRowAt_31 (lv_at hl 0 rfl) ?_
      refine kp_S F (c_Row_letterOf l Dg k tL r i _ hr (by omega)) rX_m hX kw_Prg_74 tw1_144 hS d_Prg_isRowAt_33 ⟨⟨by decide, by decide⟩, Nat.le_refl _, Nat.le_refl _⟩ rfl hl.1 rfl (Nat.le_of_ble_eq_true rfl) (fun locs hS => ?_)
      refine lv_icmp_eq (tgt := 41) hx hb d_Prg_isRowAt_36 (by decide) (fun h36 => ?_) (fun h36 => ?_)
      · refine lv_iload hx hb d_Prg_isRowAt_41 (lv_at hl 0 rfl) ?_
        refine lv_if_le (tgt := 60) hx hb d_Prg_isRowAt_43 (by decide) (fun h43 => ?_) (fun h43 => ?_)
        · refine lv_iinc (k := 0) (v := (nI (i + 1))) hx hb d_Prg_isRowAt_60 hl rfl (nI_succ _).symm (by decide) rfl (fun ls hl => ?_)
          have hl : lv_has ls 5 [(4, .int (nI (i + 1))), (0, .ref (b 0)), (1, .int (nI q)), (2, .int (nI r)), (3, .int (nI (rn r)))] := hl
          refine lv_goto (tgt := 15) hx hb d_Prg_isRowAt_63 (by decide) ?_
          exact ih f (i + 1) _ locs ls (by omega) ⟨by omega, by rw [← hmt, emt, if_pos h36, if_pos (show i = 0 by have := (nI_leI (b := 0) (by omega) (by decide)).mp h43; omega)], rfl, (lv_sub hl [0, 1, 2, 3, 4] rfl), hS⟩
        · refine lv_aload_n hx hb d_Prg_isRowAt_46 rfl (lv_at hl 1 rfl) ?_
          refine va_get (D := Dg) (ci := 2) (v := .ref (b 3)) (C := R_Prg) (T := F_Prg) (N := 7) hx hb hT in_Prg hown hK hP 0 rfl rfl 2 (by decide) (hT _ tw1_36) (fun _ h9 => h9) rfl d_Prg_isRowAt_47 ?_
          refine lv_iload_n hx hb d_Prg_isRowAt_50 rfl (lv_at hl 2 rfl) ?_
          refine lv_iload hx hb d_Prg_isRowAt_51 (lv_at hl 0 rfl) ?_
          refine lv_iadd hx hb d_Prg_isRowAt_53 ?_
          refine va_zald (f := (G 2)) hx hb hK hP 3 1 rfl rfl hin d_Prg_isRowAt_54 ?_
          refine lv_if_eq (tgt := 60) hx hb d_Prg_isRowAt_55 (by decide) (fun h55 => ?_) (fun h55 => ?_)
          · refine lv_iinc (k := 0) (v := (nI (i + 1))) hx hb d_Prg_isRowAt_60 hl rfl (nI_succ _).symm (by decide) rfl (fun ls hl => ?_)
            have hl : lv_has ls 5 [(4, .int (nI (i + 1))), (0, .ref (b 0)), (1, .int (nI q)), (2, .int (nI r)), (3, .int (nI (rn r)))] := hl
            refine lv_goto (tgt := 15) hx hb d_Prg_isRowAt_63 (by decide) ?_
            exact ih f (i + 1) _ locs ls (by omega) ⟨by omega, by rw [← hmt, emt, if_pos h36, if_neg (fun y => h43 (by rw [y]; decide)), if_pos h55], rfl, (lv_sub hl [0, 1, 2, 3, 4] rfl), hS⟩
          · refine lv_iconst (v := 0) hx hb d_Prg_isRowAt_58 (by decide) ?_
            exact kp_z F hlocks hret hS d_Prg_isRowAt_59 rfl (by unfold sMt; rw [if_pos h7, ← hmt, emt, if_pos h36, if_neg (fun y => h43 (by rw [y]; decide)), if_neg h55])
      · refine lv_iconst (v := 0) hx hb d_Prg_isRowAt_39 (by decide) ?_
        exact kp_z F hlocks hret hS d_Prg_isRowAt_40 rfl (by unfold sMt; rw [if_pos h7, ← hmt, emt, if_neg h36])
  · refine lv_iconst (v := 0) hx hb d_Prg_isRowAt_10 (by decide) ?_
    exact kp_z F hlocks hret hS d_Prg_isRowAt_11 rfl (by unfold sMt; rw [if_neg h7])

set_option maxRecDepth 100000 in
set_option maxHeartbeats 4000000 in
theorem c_Prg_longestRowAt (l : Launch) (Dg : va_G) (b : Nat → Nat) (k : Nat → ClassId) (G : vSt) (tL : Nat) (q : Nat) (H : Heap) (hP : va_P Dg classes (wP b k G) H) (hp : pOk G) (hq : q < 80) : kPu l y_Prg_longestRowAt b_Prg_longestRowAt 6 (some FieldType.int) 2 45 [.ref (b 0), .int (nI q)] H (rX Dg k tL H) (sLong G q) := by
  refine k_of (by decide) (Nat.le_of_ble_eq_true rfl) ?_
  intro p e s m below meth cd ls F hlocks hret hname hh hX hl
  subst hh
  obtain ⟨hx, hb, hml, hown, hT⟩ := id F
  have hK : va_K Dg classes (kTy k) s := hX.1
  have hS : va_S (fun _ => False) s.heap s.heap [] := va_S.rf
  have hl : lv_has ls 6 [(0, .ref (b 0)), (1, .int (nI q))] := hl
  refine lv_iconst (v := (-1)) hx hb d_Prg_longestRowAt_0 (by decide) ?_
  refine lv_istore_n hx hb d_Prg_longestRowAt_1 rfl hl (by decide) rfl (fun ls hl => ?_)
  have hl : lv_has ls 6 [(2, .int (-1)), (0, .ref (b 0)), (1, .int (nI q))] := hl
  refine lv_iconst (v := 0) hx hb d_Prg_longestRowAt_2 (by decide) ?_
  refine lv_istore_n hx hb d_Prg_longestRowAt_3 rfl hl (by decide) rfl (fun ls hl => ?_)
  have hl : lv_has ls 6 [(3, .int 0), (2, .int (-1)), (0, .ref (b 0)), (1, .int (nI q))] := hl
  refine lv_iconst (v := 0) hx hb d_Prg_longestRowAt_4 (by decide) ?_
  refine lv_istore hx hb d_Prg_longestRowAt_5 hl (by decide) rfl (fun ls hl => ?_)
  have hl : lv_has ls 6 [(4, .int 0), (3, .int 0), (2, .int (-1)), (0, .ref (b 0)), (1, .int (nI q))] := hl
  refine k_while (σ := Nat × Int32 × Int32) (fun f x H locs ls => x.1 + f = 20 ∧ lgF G q f x.1 x.2.1 x.2.2 = sLong G q ∧ H = s.heap ∧ lv_has ls 6 [(4, .int (nI x.1)), (3, .int x.2.2), (2, .int x.2.1), (0, .ref (b 0)), (1, .int (nI q))] ∧ va_S (fun _ => False) s.heap H locs) ?_ 20 (0, -1, 0) ⟨rfl, rfl, rfl, (lv_sub hl [0, 1, 2, 3, 4] rfl), hS⟩
  rintro f ⟨r, best, bl⟩ H locs ls ⟨hif, hlg, rfl, hl, hS⟩ ih
  have hl : lv_has ls 6 [(4, .int (nI r)), (3, .int bl), (2, .int best), (0, .ref (b 0)), (1, .int (nI q))] := hl
  have hif : r + f = 20 := hif
  have hlg : lgF G q f r best bl = sLong G q := hlg
  refine lv_iload hx hb d_Prg_longestRowAt_7 (lv_at hl 0 rfl) ?_
  refine lv_bipush (v := 20) hx hb d_Prg_longestRowAt_9 (by decide) ?_
  refine lv_icmp_ge (tgt := 66) hx hb d_Prg_longestRowAt_11 (by decide) (fun h11 => ?_) (fun h11 => ?_)
  · refine lv_iload_n hx hb d_Prg_longestRowAt_66 rfl (lv_at hl 2 rfl) ?_
    exact kp_i F hlocks hret hS d_Prg_longestRowAt_67 (by rw [← hlg, show f = 0 by have := (nI_leI (a := 20) (by decide) (by omega)).mp h11; omega]; rfl)
  · have hr : r < 20 := by rcases Nat.lt_or_ge r 20 with y | y; exact y; exact absurd (nI_le (a := 20) y (by omega)) h11
    obtain ⟨f, rfl⟩ : ∃ g, f = g + 1 := ⟨f - 1, by omega⟩
    have elg : lgF G q (f + 1) r best bl = (if rl (4 * r + 0) = G 0 (nI q).toNatClampNeg then (if nI (rn r) ≤ bl then lgF G q f (r + 1) best bl else if sMt G q r = 0 then lgF G q f (r + 1) best bl else lgF G q f (r + 1) (nI r) (nI (rn r))) else lgF G q f (r + 1) best bl) := rfl
    refine lv_iload hx hb d_Prg_longestRowAt_14 (lv_at hl 0 rfl) ?_
    refine lv_iconst (v := 0) hx hb d_Prg_longestRowAt_16 (by decide) ?_
    refine kp_S F (c_Row_letterOf l Dg k tL r 0 _ hr (by decide)) rX_m hX kw_Prg_74 tw1_144 hS d_Prg_longestRowAt_17 ⟨⟨by decide, by decide⟩, Nat.le_refl _, Nat.le_refl _⟩ rfl hl.1 rfl (Nat.le_of_ble_eq_true rfl) (fun locs hS => ?_)
    refine lv_aload_n hx hb d_Prg_longestRowAt_20 rfl (lv_at hl 3 rfl) ?_
    refine va_get (D := Dg) (ci := 2) (v := .ref (b 1)) (C := R_Prg) (T := F_Prg) (N := 7) hx hb hT in_Prg hown hK hP 0 rfl rfl 0 (by decide) (hT _ tw1_32) (fun _ h9 => h9) rfl d_Prg_longestRowAt_21 ?_
    refine lv_iload_n hx hb d_Prg_longestRowAt_24 rfl (lv_at hl 4 rfl) ?_
    refine va_iald (f := (G 0)) hx hb hK hP 1 0 rfl rfl (vp_in_nI hq (by decide)) d_Prg_longestRowAt_25 ?_
    refine lv_icmp_ne (tgt := 60) hx hb d_Prg_longestRowAt_26 (by decide) (fun h26 => ?_) (fun h26 => ?_)
    · refine lv_iinc (k := 0) (v := (nI (r + 1))) hx hb d_Prg_longestRowAt_60 hl rfl (nI_succ _).symm (by decide) rfl (fun ls hl => ?_)
      have hl : lv_has ls 6 [(4, .int (nI (r + 1))), (3, .int bl), (2, .int best), (0, .ref (b 0)), (1, .int (nI q))] := hl
      refine lv_goto (tgt := 7) hx hb d_Prg_longestRowAt_63 (by decide) ?_
      exact ih f (r + 1, best, bl) _ locs ls (by omega) ⟨by show r + 1 + f = 20; omega, by show lgF G q f (r + 1) best bl = _; rw [← hlg, elg, if_neg h26], rfl, (lv_sub hl [0, 1, 2, 3, 4] rfl), hS⟩
    · refine lv_iload hx hb d_Prg_longestRowAt_29 (lv_at hl 0 rfl) ?_
      refine kp_S F (c_Row_lengthOf l Dg k tL (nI r) _ ⟨r, hr, rfl⟩) rX_m hX kw_Prg_69 tw1_149 hS d_Prg_longestRowAt_31 ⟨⟨by decide, by decide⟩, Nat.le_refl _, Nat.le_refl _⟩ rfl hl.1 rfl (Nat.le_of_ble_eq_true rfl) (fun locs hS => ?_)
      rw [nI_clamp (show r < 2 ^ 31 by omega)]
      refine lv_istore hx hb d_Prg_longestRowAt_34 hl (by decide) rfl (fun ls hl => ?_)
      have hl : lv_has ls 6 [(5, .int (nI (rn r))), (4, .int (nI r)), (3, .int bl), (2, .int best), (0, .ref (b 0)), (1, .int (nI q))] := hl
      refine lv_iload hx hb d_Prg_longestRowAt_36 (lv_at hl 0 rfl) ?_
      refine lv_iload_n hx hb d_Prg_longestRowAt_38 rfl (lv_at hl 2 rfl) ?_
      refine lv_icmp_le (tgt := 60) hx hb d_Prg_longestRowAt_39 (by decide) (fun h39 => ?_) (fun h39 => ?_)
      · refine lv_iinc (k := 1) (v := (nI (r + 1))) hx hb d_Prg_longestRowAt_60 hl rfl (nI_succ _).symm (by decide) rfl (fun ls hl => ?_)
        have hl : lv_has ls 6 [(4, .int (nI (r + 1))), (5, .int (nI (rn r))), (3, .int bl), (2, .int best), (0, .ref (b 0)), (1, .int (nI q))] := hl
        refine lv_goto (tgt := 7) hx hb d_Prg_longestRowAt_63 (by decide) ?_
        exact ih f (r + 1, best, bl) _ locs ls (by omega) ⟨by show r + 1 + f = 20; omega, by show lgF G q f (r + 1) best bl = _; rw [← hlg, elg, if_pos h26, if_pos h39], rfl, (lv_sub hl [0, 2, 3, 4, 5] rfl), hS⟩
      · refine lv_aload_n hx hb d_Prg_longestRowAt_42 rfl (lv_at hl 4 rfl) ?_
        refine lv_iload_n hx hb d_Prg_longestRowAt_43 rfl (lv_at hl 5 rfl) ?_
        refine lv_iload hx hb d_Prg_longestRowAt_44 (lv_at hl 1 rfl) ?_
        refine lv_iload hx hb d_Prg_longestRowAt_46 (lv_at hl 0 rfl) ?_
        refine kp_V F (c_Prg_isRowAt l Dg b k G tL q r _ hP hp hq hr) rX_m hX kw_Prg_78 tw1_154 ts_2 (va_recv (ci := 2) (q0 := 0) hK hP rfl rfl) hS d_Prg_longestRowAt_48 ⟨⟨by decide, by decide⟩, Nat.le_refl _, Nat.le_refl _⟩ rfl hl.1 rfl (Nat.le_of_ble_eq_true rfl) (fun locs hS => ?_)
        refine lv_if_eq (tgt := 60) hx hb d_Prg_longestRowAt_51 (by decide) (fun h51 => ?_) (fun h51 => ?_)
        · refine lv_iinc (k := 1) (v := (nI (r + 1))) hx hb d_Prg_longestRowAt_60 hl rfl (nI_succ _).symm (by decide) rfl (fun ls hl => ?_)
          have hl : lv_has ls 6 [(4, .int (nI (r + 1))), (5, .int (nI (rn r))), (3, .int bl), (2, .int best), (0, .ref (b 0)), (1, .int (nI q))] := hl
          refine lv_goto (tgt := 7) hx hb d_Prg_longestRowAt_63 (by decide) ?_
          exact ih f (r + 1, best, bl) _ locs ls (by omega) ⟨by show r + 1 + f = 20; omega, by show lgF G q f (r + 1) best bl = _; rw [← hlg, elg, if_pos h26, if_neg h39, if_pos h51], rfl, (lv_sub hl [0, 2, 3, 4, 5] rfl), hS⟩
        · refine lv_iload hx hb d_Prg_longestRowAt_54 (lv_at hl 1 rfl) ?_
          refine lv_istore_n hx hb d_Prg_longestRowAt_56 rfl hl (by decide) rfl (fun ls hl => ?_)
          have hl : lv_has ls 6 [(2, .int (nI r)), (5, .int (nI (rn r))), (4, .int (nI r)), (3, .int bl), (0, .ref (b 0)), (1, .int (nI q))] := hl
          refine lv_iload hx hb d_Prg_longestRowAt_57 (lv_at hl 1 rfl) ?_
          refine lv_istore_n hx hb d_Prg_longestRowAt_59 rfl hl (by decide) rfl (fun ls hl => ?_)
          have hl : lv_has ls 6 [(3, .int (nI (rn r))), (2, .int (nI r)), (5, .int (nI (rn r))), (4, .int (nI r)), (0, .ref (b 0)), (1, .int (nI q))] := hl
          refine lv_iinc (k := 3) (v := (nI (r + 1))) hx hb d_Prg_longestRowAt_60 hl rfl (nI_succ _).symm (by decide) rfl (fun ls hl => ?_)
          have hl : lv_has ls 6 [(4, .int (nI (r + 1))), (3, .int (nI (rn r))), (2, .int (nI r)), (5, .int (nI (rn r))), (0, .ref (b 0)), (1, .int (nI q))] := hl
          refine lv_goto (tgt := 7) hx hb d_Prg_longestRowAt_63 (by decide) ?_
          exact ih f (r + 1, (nI r), (nI (rn r))) _ locs ls (by omega) ⟨by show r + 1 + f = 20; omega, by show lgF G q f (r + 1) (nI r) (nI (rn r)) = _; rw [← hlg, elg, if_pos h26, if_neg h39, if_neg h51], rfl, (lv_sub hl [0, 1, 2, 4, 5] rfl), hS⟩

set_option maxRecDepth 100000 in
set_option maxHeartbeats 4000000 in
theorem c_Prg_fuseRows (l : Launch) (Dg : va_G) (b : Nat → Nat) (k : Nat → ClassId) (G : vSt) (tL : Nat) (H : Heap) (hP : va_P Dg classes (wP b k G) H) (hD : va_D (fun _ => True) (wP b k G)) (hp : pOk G) : kMi l y_Prg_fuseRows b_Prg_fuseRows 5 (some FieldType.int) 3 70 [.ref (b 0)] H (fun U => va_K Dg classes (kTy k) U ∧ rlX (va_A (wP b k G) H.size) tL H U) Dg (wP b k G) (wP b k (sFuM G)) (sFuR G) := by
  refine k_of (by decide) (Nat.le_of_ble_eq_true rfl) ?_
  intro p e s m below meth cd ls F hlocks hret hname hh hX hl
  subst hh
  obtain ⟨hx, hb, hml, hown, hT⟩ := id F
  have hK : va_K Dg classes (kTy k) s := hX.1
  have hA : ∀ q : Nat, s.heap.size ≤ q → va_A (wP b k G) s.heap.size q := fun q h => Or.inr h
  have hD := hD.self (sz := s.heap.size)
  have hS : va_S (va_A (wP b k G) s.heap.size) s.heap s.heap [] := va_S.rf
  have hl : lv_has ls 5 [(0, .ref (b 0))] := hl
  obtain ⟨z, hz80, ez⟩ := hp
  have efu : (sFuS G (G 5 0).toNatClampNeg) = sFuS G z := by rw [ez, nI_clamp (by omega)]
  refine lv_iconst (v := 0) hx hb d_Prg_fuseRows_0 (by decide) ?_
  refine lv_istore_n hx hb d_Prg_fuseRows_1 rfl hl (by decide) rfl (fun ls hl => ?_)
  have hl : lv_has ls 5 [(1, .int 0), (0, .ref (b 0))] := hl
  refine lv_iconst (v := 0) hx hb d_Prg_fuseRows_2 (by decide) ?_
  refine lv_istore_n hx hb d_Prg_fuseRows_3 rfl hl (by decide) rfl (fun ls hl => ?_)
  have hl : lv_has ls 5 [(2, .int 0), (1, .int 0), (0, .ref (b 0))] := hl
  refine lv_iconst (v := 0) hx hb d_Prg_fuseRows_4 (by decide) ?_
  refine lv_istore_n hx hb d_Prg_fuseRows_5 rfl hl (by decide) rfl (fun ls hl => ?_)
  have hl : lv_has ls 5 [(3, .int 0), (2, .int 0), (1, .int 0), (0, .ref (b 0))] := hl
  refine k_while (σ := Nat × vSt × Int32 × Int32) (fun f x H locs ls => x.1 + f = z ∧ x.2 = sFuS G x.1 ∧ lv_has ls 5 [(3, .int (nI x.1)), (2, .int x.2.2.2), (1, .int x.2.2.1), (0, .ref (b 0))] ∧ va_P Dg classes (wP b k x.2.1) H ∧ va_D (va_A (wP b k G) s.heap.size) (wP b k x.2.1) ∧ va_S (va_A (wP b k G) s.heap.size) s.heap H locs) ?_ z (0, G, 0, 0) ⟨by show 0 + z = z; omega, rfl, (lv_sub hl [0, 1, 2, 3] rfl), hP, hD, hS⟩
  rintro f ⟨i, Gi, cn, wi⟩ H locs ls ⟨hif, hGi, hl, hP, hD, hS⟩ ih
  have hl : lv_has ls 5 [(3, .int (nI i)), (2, .int wi), (1, .int cn), (0, .ref (b 0))] := hl
  have hP : va_P Dg classes (wP b k Gi) H := hP
  have hD : va_D (va_A (wP b k G) s.heap.size) (wP b k Gi) := hD
  have hif : i + f = z := hif
  have hGi : (Gi, cn, wi) = sFuS G i := hGi
  have hG1 : Gi = (sFuS G i).1 := congrArg Prod.fst hGi
  have hsz : Gi 5 0 = nI z := by rw [hG1, sFuS_5]; exact ez
  refine lv_iload_n hx hb d_Prg_fuseRows_6 rfl (lv_at hl 0 rfl) ?_
  refine lv_aload_n hx hb d_Prg_fuseRows_7 rfl (lv_at hl 3 rfl) ?_
  refine va_get (D := Dg) (ci := 2) (v := .int (Gi 5 0)) (C := R_Prg) (T := F_Prg) (N := 7) hx hb hT in_Prg hown hK hP 0 rfl rfl 5 (by decide) (hT _ tw1_41) (fun _ h9 => h9) rfl d_Prg_fuseRows_8 ?_
  refine lv_icmp_ge (tgt := 93) hx hb d_Prg_fuseRows_11 (by decide) (fun h11 => ?_) (fun h11 => ?_)
  · have hiz : i = z := by have := (nI_leI (by omega) (by omega)).mp (hsz ▸ h11); omega
    refine lv_aload_n hx hb d_Prg_fuseRows_93 rfl (lv_at hl 3 rfl) ?_
    refine lv_iconst (v := 1) hx hb d_Prg_fuseRows_94 (by decide) ?_
    refine va_put (D := Dg) (ci := 2) (v := .int 1) (ty := .boolean) (C := R_Prg) (T := F_Prg) (N := 7) hx hb hT in_Prg t_Prg t_Prg_ok n_Prg hown hK hP hD hS 0 rfl rfl 6 (by decide) (hT _ tw1_42) (fun _ h9 => h9) rfl (by decide +kernel) rfl rfl (Nat.le_of_ble_eq_true rfl) d_Prg_fuseRows_95 (fun H locs hP hD hS => ?_)
    have hP : va_P Dg classes (wP b k (u2 Gi 5 1 1)) H := hP
    have hD : va_D (va_A (wP b k G) s.heap.size) (wP b k (u2 Gi 5 1 1)) := hD
    obtain ⟨Gs1, hGs1⟩ : ∃ z, z = (u2 Gi 5 1 1) := ⟨_, rfl⟩
    rw [← hGs1] at hP hD
    refine lv_iload_n hx hb d_Prg_fuseRows_98 rfl (lv_at hl 2 rfl) ?_
    exact km_i F hlocks hret hP hD hS d_Prg_fuseRows_99 (by unfold sFuR; rw [efu, ← hiz, ← hGi]) (by subst hGs1; unfold sFuM; rw [efu, ← hiz, ← hGi])
  · have hi : i < z := by rcases Nat.lt_or_ge i z with y | y; exact y; exact absurd (by rw [hsz]; exact nI_le y (by omega)) h11
    obtain ⟨f, rfl⟩ : ∃ g, f = g + 1 := ⟨f - 1, by omega⟩
    have hin : vp_in (nI i) 80 := vp_in_nI (by omega) (by decide)
    refine lv_iload_n hx hb d_Prg_fuseRows_14 rfl (lv_at hl 1 rfl) ?_
    refine lv_if_le (tgt := 39) hx hb d_Prg_fuseRows_15 (by decide) (fun h15 => ?_) (fun h15 => ?_)
    · refine lv_aload_n hx hb d_Prg_fuseRows_39 rfl (lv_at hl 3 rfl) ?_
      refine lv_iload_n hx hb d_Prg_fuseRows_40 rfl (lv_at hl 0 rfl) ?_
      refine kp_V F (c_Prg_longestRowAt l Dg b k Gi tL i _ hP ⟨z, hz80, hsz⟩ (by omega)) rX_m ⟨hK, (hX.2.kept hS.2.1).narrow (fun _ h => h.elim)⟩ kw_Prg_65 tw1_141 ts_1 (va_recv (ci := 2) (q0 := 0) hK hP rfl rfl) hS d_Prg_fuseRows_41 ⟨⟨by decide, by decide⟩, Nat.le_refl _, Nat.le_refl _⟩ rfl hl.1 rfl (Nat.le_of_ble_eq_true rfl) (fun locs hS => ?_)
      refine lv_istore hx hb d_Prg_fuseRows_44 hl (by decide) rfl (fun ls hl => ?_)
      have hl : lv_has ls 5 [(4, .int (sLong Gi i)), (3, .int (nI i)), (2, .int wi), (1, .int cn), (0, .ref (b 0))] := hl
      refine lv_aload_n hx hb d_Prg_fuseRows_46 rfl (lv_at hl 4 rfl) ?_
      refine va_get (D := Dg) (ci := 2) (v := .ref (b 4)) (C := R_Prg) (T := F_Prg) (N := 7) hx hb hT in_Prg hown hK hP 0 rfl rfl 3 (by decide) (hT _ tw1_37) (fun _ h9 => h9) rfl d_Prg_fuseRows_47 ?_
      refine lv_iload_n hx hb d_Prg_fuseRows_50 rfl (lv_at hl 1 rfl) ?_
      refine lv_iload hx hb d_Prg_fuseRows_51 (lv_at hl 0 rfl) ?_
      refine va_iast hx hb hK hP hD hS 4 0 rfl rfl hin d_Prg_fuseRows_53 (fun H locs hP hD hS => ?_)
      have hP : va_P Dg classes (wP b k (u2 Gi 3 (nI i).toNatClampNeg (sLong Gi i))) H := hP
      have hD : va_D (va_A (wP b k G) s.heap.size) (wP b k (u2 Gi 3 (nI i).toNatClampNeg (sLong Gi i))) := hD
      obtain ⟨Gs2, hGs2⟩ : ∃ z, z = (u2 Gi 3 (nI i).toNatClampNeg (sLong Gi i)) := ⟨_, rfl⟩
      rw [← hGs2] at hP hD
      refine lv_aload_n hx hb d_Prg_fuseRows_54 rfl (lv_at hl 4 rfl) ?_
      refine va_get (D := Dg) (ci := 2) (v := .ref (b 5)) (C := R_Prg) (T := F_Prg) (N := 7) hx hb hT in_Prg hown hK hP 0 rfl rfl 4 (by decide) (hT _ tw1_38) (fun _ h9 => h9) rfl d_Prg_fuseRows_55 ?_
      refine lv_iload_n hx hb d_Prg_fuseRows_58 rfl (lv_at hl 1 rfl) ?_
      refine lv_iload hx hb d_Prg_fuseRows_59 (lv_at hl 0 rfl) ?_
      refine lv_iconst (v := (-1)) hx hb d_Prg_fuseRows_61 (by decide) ?_
      refine lv_icmp_ne (tgt := 69) hx hb d_Prg_fuseRows_62 (by decide) (fun h62 => ?_) (fun h62 => ?_)
      · refine lv_iload hx hb d_Prg_fuseRows_69 (lv_at hl 0 rfl) ?_
        refine kp_S F (c_Row_lengthOf l Dg k tL (sLong Gi i) _ ((sLong_or Gi i).resolve_left h62)) rX_m ⟨hK, (hX.2.kept hS.2.1).narrow (fun _ h => h.elim)⟩ kw_Prg_69 tw1_149 hS d_Prg_fuseRows_71 ⟨⟨by decide, by decide⟩, Nat.le_refl _, Nat.le_refl _⟩ rfl hl.1 rfl (Nat.le_of_ble_eq_true rfl) (fun locs hS => ?_)
        refine va_iast hx hb hK hP hD hS 5 0 rfl rfl hin d_Prg_fuseRows_74 (fun H locs hP hD hS => ?_)
        have hP : va_P Dg classes (wP b k (u2 Gs2 4 (nI i).toNatClampNeg (nI (rn (sLong Gi i).toNatClampNeg)))) H := hP
        have hD : va_D (va_A (wP b k G) s.heap.size) (wP b k (u2 Gs2 4 (nI i).toNatClampNeg (nI (rn (sLong Gi i).toNatClampNeg)))) := hD
        obtain ⟨Gs3, hGs3⟩ : ∃ z, z = (u2 Gs2 4 (nI i).toNatClampNeg (nI (rn (sLong Gi i).toNatClampNeg))) := ⟨_, rfl⟩
        rw [← hGs3] at hP hD
        refine lv_aload_n hx hb d_Prg_fuseRows_75 rfl (lv_at hl 4 rfl) ?_
        refine va_get (D := Dg) (ci := 2) (v := .ref (b 5)) (C := R_Prg) (T := F_Prg) (N := 7) hx hb hT in_Prg hown hK hP 0 rfl rfl 4 (by decide) (hT _ tw1_38) (fun _ h9 => h9) rfl d_Prg_fuseRows_76 ?_
        refine lv_iload_n hx hb d_Prg_fuseRows_79 rfl (lv_at hl 1 rfl) ?_
        refine va_iald (f := (Gs3 4)) hx hb hK hP 5 0 rfl rfl hin d_Prg_fuseRows_80 ?_
        refine lv_iconst (v := 1) hx hb d_Prg_fuseRows_81 (by decide) ?_
        refine lv_isub hx hb d_Prg_fuseRows_82 ?_
        refine lv_istore_n hx hb d_Prg_fuseRows_83 rfl hl (by decide) rfl (fun ls hl => ?_)
        have hl : lv_has ls 5 [(2, .int (((Gs3 4) (nI i).toNatClampNeg) - 1)), (4, .int (sLong Gi i)), (3, .int (nI i)), (1, .int cn), (0, .ref (b 0))] := hl
        refine lv_iinc (k := 3) (v := (cn + 1)) hx hb d_Prg_fuseRows_84 hl rfl rfl (by decide) rfl (fun ls hl => ?_)
        have hl : lv_has ls 5 [(1, .int (cn + 1)), (2, .int (((Gs3 4) (nI i).toNatClampNeg) - 1)), (4, .int (sLong Gi i)), (3, .int (nI i)), (0, .ref (b 0))] := hl
        refine lv_iinc (k := 3) (v := (nI (i + 1))) hx hb d_Prg_fuseRows_87 hl rfl (nI_succ _).symm (by decide) rfl (fun ls hl => ?_)
        have hl : lv_has ls 5 [(3, .int (nI (i + 1))), (1, .int (cn + 1)), (2, .int (((Gs3 4) (nI i).toNatClampNeg) - 1)), (4, .int (sLong Gi i)), (0, .ref (b 0))] := hl
        refine lv_goto (tgt := 6) hx hb d_Prg_fuseRows_90 (by decide) ?_
        exact ih f (i + 1, Gs3, (cn + 1), (((Gs3 4) (nI i).toNatClampNeg) - 1)) H locs ls (by omega) ⟨by show i + 1 + f = z; omega, by show (Gs3, (cn + 1), (((Gs3 4) (nI i).toNatClampNeg) - 1)) = sFu1 (sFuS G i) i; rw [← hGi]; clear hP hD; subst hGs3 hGs2; unfold sFu1; rw [if_pos h15]; unfold sFl; rw [if_neg h62], (lv_sub hl [0, 2, 1, 4] rfl), hP, hD, hS⟩
      · refine lv_iconst (v := 1) hx hb d_Prg_fuseRows_65 (by decide) ?_
        refine lv_goto (tgt := 74) hx hb d_Prg_fuseRows_66 (by decide) ?_
        refine va_iast hx hb hK hP hD hS 5 0 rfl rfl hin d_Prg_fuseRows_74 (fun H locs hP hD hS => ?_)
        have hP : va_P Dg classes (wP b k (u2 Gs2 4 (nI i).toNatClampNeg 1)) H := hP
        have hD : va_D (va_A (wP b k G) s.heap.size) (wP b k (u2 Gs2 4 (nI i).toNatClampNeg 1)) := hD
        obtain ⟨Gs4, hGs4⟩ : ∃ z, z = (u2 Gs2 4 (nI i).toNatClampNeg 1) := ⟨_, rfl⟩
        rw [← hGs4] at hP hD
        refine lv_aload_n hx hb d_Prg_fuseRows_75 rfl (lv_at hl 4 rfl) ?_
        refine va_get (D := Dg) (ci := 2) (v := .ref (b 5)) (C := R_Prg) (T := F_Prg) (N := 7) hx hb hT in_Prg hown hK hP 0 rfl rfl 4 (by decide) (hT _ tw1_38) (fun _ h9 => h9) rfl d_Prg_fuseRows_76 ?_
        refine lv_iload_n hx hb d_Prg_fuseRows_79 rfl (lv_at hl 1 rfl) ?_
        refine va_iald (f := (Gs4 4)) hx hb hK hP 5 0 rfl rfl hin d_Prg_fuseRows_80 ?_
        refine lv_iconst (v := 1) hx hb d_Prg_fuseRows_81 (by decide) ?_
        refine lv_isub hx hb d_Prg_fuseRows_82 ?_
        refine lv_istore_n hx hb d_Prg_fuseRows_83 rfl hl (by decide) rfl (fun ls hl => ?_)
        have hl : lv_has ls 5 [(2, .int (((Gs4 4) (nI i).toNatClampNeg) - 1)), (4, .int (sLong Gi i)), (3, .int (nI i)), (1, .int cn), (0, .ref (b 0))] := hl
        refine lv_iinc (k := 3) (v := (cn + 1)) hx hb d_Prg_fuseRows_84 hl rfl rfl (by decide) rfl (fun ls hl => ?_)
        have hl : lv_has ls 5 [(1, .int (cn + 1)), (2, .int (((Gs4 4) (nI i).toNatClampNeg) - 1)), (4, .int (sLong Gi i)), (3, .int (nI i)), (0, .ref (b 0))] := hl
        refine lv_iinc (k := 3) (v := (nI (i + 1))) hx hb d_Prg_fuseRows_87 hl rfl (nI_succ _).symm (by decide) rfl (fun ls hl => ?_)
        have hl : lv_has ls 5 [(3, .int (nI (i + 1))), (1, .int (cn + 1)), (2, .int (((Gs4 4) (nI i).toNatClampNeg) - 1)), (4, .int (sLong Gi i)), (0, .ref (b 0))] := hl
        refine lv_goto (tgt := 6) hx hb d_Prg_fuseRows_90 (by decide) ?_
        exact ih f (i + 1, Gs4, (cn + 1), (((Gs4 4) (nI i).toNatClampNeg) - 1)) H locs ls (by omega) ⟨by show i + 1 + f = z; omega, by show (Gs4, (cn + 1), (((Gs4 4) (nI i).toNatClampNeg) - 1)) = sFu1 (sFuS G i) i; rw [← hGi]; clear hP hD; subst hGs4 hGs2; unfold sFu1; rw [if_pos h15]; unfold sFl; rw [if_pos h62], (lv_sub hl [0, 2, 1, 4] rfl), hP, hD, hS⟩
    · refine lv_aload_n hx hb d_Prg_fuseRows_18 rfl (lv_at hl 3 rfl) ?_
      refine va_get (D := Dg) (ci := 2) (v := .ref (b 4)) (C := R_Prg) (T := F_Prg) (N := 7) hx hb hT in_Prg hown hK hP 0 rfl rfl 3 (by decide) (hT _ tw1_37) (fun _ h9 => h9) rfl d_Prg_fuseRows_19 ?_
      refine lv_iload_n hx hb d_Prg_fuseRows_22 rfl (lv_at hl 0 rfl) ?_
      refine lv_bipush (v := (-2)) hx hb d_Prg_fuseRows_23 (by decide) ?_
      refine va_iast hx hb hK hP hD hS 4 0 rfl rfl hin d_Prg_fuseRows_25 (fun H locs hP hD hS => ?_)
      have hP : va_P Dg classes (wP b k (u2 Gi 3 (nI i).toNatClampNeg (-2))) H := hP
      have hD : va_D (va_A (wP b k G) s.heap.size) (wP b k (u2 Gi 3 (nI i).toNatClampNeg (-2))) := hD
      obtain ⟨Gs5, hGs5⟩ : ∃ z, z = (u2 Gi 3 (nI i).toNatClampNeg (-2)) := ⟨_, rfl⟩
      rw [← hGs5] at hP hD
      refine lv_aload_n hx hb d_Prg_fuseRows_26 rfl (lv_at hl 3 rfl) ?_
      refine va_get (D := Dg) (ci := 2) (v := .ref (b 5)) (C := R_Prg) (T := F_Prg) (N := 7) hx hb hT in_Prg hown hK hP 0 rfl rfl 4 (by decide) (hT _ tw1_38) (fun _ h9 => h9) rfl d_Prg_fuseRows_27 ?_
      refine lv_iload_n hx hb d_Prg_fuseRows_30 rfl (lv_at hl 0 rfl) ?_
      refine lv_iconst (v := 1) hx hb d_Prg_fuseRows_31 (by decide) ?_
      refine va_iast hx hb hK hP hD hS 5 0 rfl rfl hin d_Prg_fuseRows_32 (fun H locs hP hD hS => ?_)
      have hP : va_P Dg classes (wP b k (u2 Gs5 4 (nI i).toNatClampNeg 1)) H := hP
      have hD : va_D (va_A (wP b k G) s.heap.size) (wP b k (u2 Gs5 4 (nI i).toNatClampNeg 1)) := hD
      obtain ⟨Gs6, hGs6⟩ : ∃ z, z = (u2 Gs5 4 (nI i).toNatClampNeg 1) := ⟨_, rfl⟩
      rw [← hGs6] at hP hD
      refine lv_iinc (k := 1) (v := (wi + (-1))) hx hb d_Prg_fuseRows_33 hl rfl (by rfl) (by decide) rfl (fun ls hl => ?_)
      have hl : lv_has ls 5 [(2, .int (wi + (-1))), (3, .int (nI i)), (1, .int cn), (0, .ref (b 0))] := hl
      refine lv_goto (tgt := 87) hx hb d_Prg_fuseRows_36 (by decide) ?_
      refine lv_iinc (k := 1) (v := (nI (i + 1))) hx hb d_Prg_fuseRows_87 hl rfl (nI_succ _).symm (by decide) rfl (fun ls hl => ?_)
      have hl : lv_has ls 5 [(3, .int (nI (i + 1))), (2, .int (wi + (-1))), (1, .int cn), (0, .ref (b 0))] := hl
      refine lv_goto (tgt := 6) hx hb d_Prg_fuseRows_90 (by decide) ?_
      exact ih f (i + 1, Gs6, cn, (wi + (-1))) H locs ls (by omega) ⟨by show i + 1 + f = z; omega, by show (Gs6, cn, (wi + (-1))) = sFu1 (sFuS G i) i; rw [← hGi]; clear hP hD; subst hGs6 hGs5; unfold sFu1; rw [if_neg h15], (lv_sub hl [0, 1, 2, 3] rfl), hP, hD, hS⟩
