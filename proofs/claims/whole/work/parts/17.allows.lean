/-! Program.allows -/
abbrev aX (q vB : Nat) (H : Heap) (U : State) : Prop := vk_R "FusedEngine$Program" 30 "PLS+-*/<=DXOVJZCRH" q U ∧ sX q vB H U
theorem aX_m {q vB : Nat} {H : Heap} : kXm (aX q vB H) := kx_and (fun _ _ hv h => vk_R.warm hv h) strX_m
def sIn8 (n : Int32) : Int32 := if n < 0 then 0 else if 8 ≤ n then 0 else 1
def alF (c : Int32) : Nat → Nat → Int32
  | 0, _ => 0
  | f + 1, i => if lt i = c then 1 else alF c f (i + 1)
def sAllow (c n : Int32) : Int32 := if c = 76 ∨ c = 83 then sIn8 n else alF c 18 0
set_option maxRecDepth 100000 in
set_option maxHeartbeats 4000000 in
theorem c_Prg_allows (l : Launch) (q vB : Nat) (c n : Int32) (H : Heap) : kPu l y_Prg_allows b_Prg_allows 3 (some FieldType.boolean) 4 85 [.int c, .int n] H (aX q vB H) (sAllow c n) := by
  refine k_of (by decide) (Nat.le_of_ble_eq_true rfl) ?_
  intro p e s m below meth cd ls F hlocks hret hname hh hX hl
  subst hh
  obtain ⟨hx, hb, hml, hown, hT⟩ := id F
  have hS : va_S (fun _ => False) s.heap s.heap [] := va_S.rf
  have hl : lv_has ls 3 [(0, .int c), (1, .int n)] := hl
  have tail : (c = 76 ∨ c = 83) → W p l e (kRm 4 85) s m #[Value.int c, Value.int n] below meth cd s.heap [] 0 0 (MQ below (kQp s.heap (sAllow c n)) #[Value.int c, Value.int n] s 0 0 (fun _ => False)) (F0 m 12 ls []) := by
    intro hc
    refine lv_iload_n hx hb d_Prg_allows_12 rfl (lv_at hl 1 rfl) ?_
    refine lv_if_lt (tgt := 26) hx hb d_Prg_allows_13 (by decide) (fun h13 => ?_) (fun h13 => ?_)
    · refine lv_iconst (v := 0) hx hb d_Prg_allows_26 (by decide) ?_
      exact kp_z F hlocks hret hS d_Prg_allows_27 rfl (by unfold sAllow sIn8; rw [if_pos hc, if_pos h13])
    · refine lv_iload_n hx hb d_Prg_allows_16 rfl (lv_at hl 1 rfl) ?_
      refine lv_bipush (v := 8) hx hb d_Prg_allows_17 (by decide) ?_
      refine lv_icmp_ge (tgt := 26) hx hb d_Prg_allows_19 (by decide) (fun h19 => ?_) (fun h19 => ?_)
      · refine lv_iconst (v := 0) hx hb d_Prg_allows_26 (by decide) ?_
        exact kp_z F hlocks hret hS d_Prg_allows_27 rfl (by unfold sAllow sIn8; rw [if_pos hc, if_neg h13, if_pos h19])
      · refine lv_iconst (v := 1) hx hb d_Prg_allows_22 (by decide) ?_
        refine lv_goto (tgt := 27) hx hb d_Prg_allows_23 (by decide) ?_
        exact kp_z F hlocks hret hS d_Prg_allows_27 rfl (by unfold sAllow sIn8; rw [if_pos hc, if_neg h13, if_neg h19])
  refine lv_iload_n hx hb d_Prg_allows_0 rfl (lv_at hl 0 rfl) ?_
  refine lv_bipush (v := 76) hx hb d_Prg_allows_1 (by decide) ?_
  refine lv_icmp_eq (tgt := 12) hx hb d_Prg_allows_3 (by decide) (fun h3 => tail (Or.inl h3)) (fun h3 => ?_)
  refine lv_iload_n hx hb d_Prg_allows_6 rfl (lv_at hl 0 rfl) ?_
  refine lv_bipush (v := 83) hx hb d_Prg_allows_7 (by decide) ?_
  refine lv_icmp_ne (tgt := 28) hx hb d_Prg_allows_9 (by decide) (fun h9 => ?_) (fun h9 => tail (Or.inr h9))
  have hc : ¬ (c = 76 ∨ c = 83) := fun z => z.elim h3 h9
  refine lv_iconst (v := 0) hx hb d_Prg_allows_28 (by decide) ?_
  refine lv_istore_n hx hb d_Prg_allows_29 rfl hl (by decide) rfl (fun ls hl => ?_)
  have hl : lv_has ls 3 [(2, .int (nI 0)), (0, .int c), (1, .int n)] := hl
  have recv : ∃ cell : Cell, s.heap[q]? = some cell ∧ cell.vm.isStatics = false ∧ s.vm.findClass "java/lang/String" = some cell.cls := (let ⟨c9, h1, h2, h3, _⟩ := hX.2.1; ⟨c9, h1, h2, h3⟩)
  refine k_while (σ := Nat) (fun f i H locs ls => i + f = 18 ∧ alF c f i = alF c 18 0 ∧ H = s.heap ∧ lv_has ls 3 [(2, .int (nI i)), (0, .int c), (1, .int n)] ∧ va_S (fun _ => False) s.heap H locs) ?_ 18 0 ⟨rfl, rfl, rfl, hl, hS⟩
  rintro f i H locs ls ⟨hif, hal, rfl, hl, hS⟩ ih
  refine lv_iload_n hx hb d_Prg_allows_30 rfl (lv_at hl 0 rfl) ?_
  refine va_ldcS hx hb hown hX.1 d_Prg_allows_31 ?_
  refine kp_V F (c_Str_length l q vB _) strX_m hX.2 kw_Prg_32 tw1_186 tw1_187 recv hS d_Prg_allows_33 ⟨⟨by decide, by decide⟩, Nat.le_refl _, Nat.le_refl _⟩ rfl hl.1 rfl (Nat.le_of_ble_eq_true rfl) (fun locs hS => ?_)
  refine lv_icmp_ge (tgt := 57) hx hb d_Prg_allows_36 (by decide) (fun h36 => ?_) (fun h36 => ?_)
  · have hf : f = 0 := by have := (nI_leI (by decide) (by omega)).mp h36; omega
    refine lv_iconst (v := 0) hx hb d_Prg_allows_57 (by decide) ?_
    exact kp_z F hlocks hret hS d_Prg_allows_58 rfl (by unfold sAllow; rw [if_neg hc, ← hal, hf]; rfl)
  · have hi : i < 18 := by
      rcases Nat.lt_or_ge i 18 with z | z
      · exact z
      · exact absurd (nI_le z (by omega)) h36
    obtain ⟨f, rfl⟩ : ∃ g, f = g + 1 := ⟨f - 1, by omega⟩
    have eal : alF c (f + 1) i = (if lt i = c then 1 else alF c f (i + 1)) := rfl
    refine va_ldcS hx hb hown hX.1 d_Prg_allows_39 ?_
    refine lv_iload_n hx hb d_Prg_allows_41 rfl (lv_at hl 0 rfl) ?_
    refine kp_V F (c_Str_charAt l q vB i _ hi) strX_m hX.2 kw_Prg_38 tw1_196 tw1_197 recv hS d_Prg_allows_42 ⟨⟨by decide, by decide⟩, Nat.le_refl _, Nat.le_refl _⟩ rfl hl.1 rfl (Nat.le_of_ble_eq_true rfl) (fun locs hS => ?_)
    refine lv_iload_n hx hb d_Prg_allows_45 rfl (lv_at hl 1 rfl) ?_
    refine lv_icmp_ne (tgt := 51) hx hb d_Prg_allows_46 (by decide) (fun h46 => ?_) (fun h46 => ?_)
    · refine lv_iinc (k := 0) (v := nI (i + 1)) hx hb d_Prg_allows_51 hl rfl (nI_succ _).symm (by decide) rfl (fun ls hl => ?_)
      refine lv_goto (tgt := 30) hx hb d_Prg_allows_54 (by decide) ?_
      exact ih f (i + 1) _ locs ls (by omega) ⟨by omega, by rw [← hal, eal, if_neg h46], rfl, hl, hS⟩
    · refine lv_iconst (v := 1) hx hb d_Prg_allows_49 (by decide) ?_
      exact kp_z F hlocks hret hS d_Prg_allows_50 rfl (by unfold sAllow; rw [if_neg hc, ← hal, eal, if_pos h46])
