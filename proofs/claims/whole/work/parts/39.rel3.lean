/-! THE RELATION: bounds; a row of letters -/
def tri (M : vSt) (h r o : Nat) : Prop := M 4 0 = nI h ∧ M 4 1 = nI r ∧ M 4 2 = nI o
def mB (b : Nat) (M : vSt) : Prop := ∃ h r o : Nat, tri M h r o ∧ h ≤ 40 ∧ r ≤ 10 ∧ o ≤ b
theorem mB.ok {b : Nat} {M : vSt} (h : mB b M) (hb : b < 2 ^ 30) : mOk M := by
  obtain ⟨h, r, o, ⟨e0, e1, e2⟩, b0, b1, b2⟩ := h
  exact ⟨h, r, o, e0, e1, e2, b0, b1, by omega⟩
theorem mB.mono {b b' : Nat} {M : vSt} (h : mB b M) (hb : b ≤ b') : mB b' M := by
  obtain ⟨h, r, o, e, b0, b1, b2⟩ := h
  exact ⟨h, r, o, e, b0, b1, by omega⟩
theorem tri_no {M : vSt} {h r o : Nat} (e : tri M h r o) {x k : Nat} (v : Int32) (hx : x ≠ 4 ∨ 3 ≤ k) : tri (u2 M x k v) h r o :=
  ⟨by rw [u2_ne _ _ (by omega)]; exact e.1, by rw [u2_ne _ _ (by omega)]; exact e.2.1, by rw [u2_ne _ _ (by omega)]; exact e.2.2⟩
theorem tri_push {M : vSt} {h r o : Nat} (e : tri M h r o) (v : Int32) : tri (sPush M v) (h + 1) r o := by
  unfold sPush
  refine ⟨by rw [u2_eq, e.1, nI_1], ?_, ?_⟩
  · rw [u2_ne _ _ (by omega), u2_ne _ _ (by omega)]; exact e.2.1
  · rw [u2_ne _ _ (by omega), u2_ne _ _ (by omega)]; exact e.2.2
theorem tri_pop {M : vSt} {h r o : Nat} (e : tri M h r o) (h1 : 1 ≤ h) : tri (sPop M) (h - 1) r o := by
  unfold sPop
  refine ⟨by rw [u2_eq, e.1]; exact pk_sub (b := 1) h1, ?_, ?_⟩
  · rw [u2_ne _ _ (by omega)]; exact e.2.1
  · rw [u2_ne _ _ (by omega)]; exact e.2.2
theorem tri_out {M : vSt} {h r o : Nat} (e : tri M h r o) (v : Int32) : tri (sOut M v) h r (o + 1) := by
  unfold sOut
  split
  · refine ⟨?_, ?_, by rw [u2_eq, e.2.2, nI_1]⟩
    · rw [u2_ne _ _ (by omega)]; exact e.1
    · rw [u2_ne _ _ (by omega)]; exact e.2.1
  · refine ⟨?_, ?_, by rw [u2_eq, e.2.2, nI_1]⟩
    · rw [u2_ne _ _ (by omega), u2_ne _ _ (by omega)]; exact e.1
    · rw [u2_ne _ _ (by omega), u2_ne _ _ (by omega)]; exact e.2.1
theorem tri_exch {M : vSt} {h r o : Nat} (e : tri M h r o) : tri (sExch M) h r o := by
  unfold sExch
  exact tri_no (tri_no e _ (by omega)) _ (by omega)
theorem tri_comb {M : vSt} {h r o : Nat} (e : tri M h r o) (c : Int32) (h2 : 2 ≤ h) : tri (sComb M c) (h - 1) r o := by
  unfold sComb
  have := tri_push (tri_pop (tri_pop e (by omega)) (by omega)) (sRes c (sTop (sPop M)) (sTop M))
  rw [show h - 1 - 1 + 1 = h - 1 by omega] at this
  exact this
theorem nI_i {a b : Nat} (ha : a < 2 ^ 31) (hb : b < 2 ^ 31) (e : nI a = nI b) : a = b := by
  have := congrArg Int32.toNatClampNeg e
  rw [nI_clamp ha, nI_clamp hb] at this
  exact this
theorem mB_act {M : vSt} {b : Nat} {c : Int32} (n : Int32) (hm : mB b M) (hb : b < 2 ^ 30) (hc : okC c) (ht : sTrap M c = 0) : mB (b + 1) (sAct M c n) := by
  obtain ⟨h, r, o, e, b5, b6, b7⟩ := hm
  obtain ⟨h', r', o', e0, e1, e2, c5, c6, -, t1, t2, t3, t4, -⟩ := tr_all (mB.ok ⟨h, r, o, e, b5, b6, b7⟩ hb) ht
  rw [e.1] at e0
  rw [e.2.1] at e1
  obtain rfl := nI_i (by omega) (by omega) e0
  obtain rfl := nI_i (by omega) (by omega) e1
  clear ht
  have h4 : sPuts c = 1 → h < 40 := by
    intro q
    have : ¬ h = 40 := fun w => t3 ⟨by rw [q]; decide, w⟩
    omega
  rcases hc with rfl | rfl | rfl | rfl | rfl | rfl | rfl | rfl | rfl | rfl | rfl | rfl | rfl | rfl | rfl | rfl | rfl | rfl
  · rw [sa_80]
    have := h4 pu_80
    exact ⟨h + 1, r, o, tri_no (tri_push e n) _ (by omega), by omega, by omega, by omega⟩
  · rw [sa_76]
    have := h4 pu_76
    exact ⟨h + 1, r, o, tri_no (tri_push e _) _ (by omega), by omega, by omega, by omega⟩
  · rw [sa_83]
    exact ⟨h - 1, r, o, tri_no (tri_no (tri_pop e (need1 ne_83 t1)) _ (by omega)) _ (by omega), by omega, by omega, by omega⟩
  · rw [sa_43]
    exact ⟨h - 1, r, o, tri_no (tri_comb e _ (need2 ne_43 t1)) _ (by omega), by omega, by omega, by omega⟩
  · rw [sa_45]
    exact ⟨h - 1, r, o, tri_no (tri_comb e _ (need2 ne_45 t1)) _ (by omega), by omega, by omega, by omega⟩
  · rw [sa_42]
    exact ⟨h - 1, r, o, tri_no (tri_comb e _ (need2 ne_42 t1)) _ (by omega), by omega, by omega, by omega⟩
  · rw [sa_47]
    exact ⟨h - 1, r, o, tri_no (tri_comb e _ (need2 ne_47 t1)) _ (by omega), by omega, by omega, by omega⟩
  · rw [sa_60]
    exact ⟨h - 1, r, o, tri_no (tri_comb e _ (need2 ne_60 t1)) _ (by omega), by omega, by omega, by omega⟩
  · rw [sa_61]
    exact ⟨h - 1, r, o, tri_no (tri_comb e _ (need2 ne_61 t1)) _ (by omega), by omega, by omega, by omega⟩
  · rw [sa_68]
    have := h4 pu_68
    exact ⟨h + 1, r, o, tri_no (tri_push e _) _ (by omega), by omega, by omega, by omega⟩
  · rw [sa_88]
    exact ⟨h, r, o, tri_no (tri_exch e) _ (by omega), by omega, by omega, by omega⟩
  · rw [sa_79]
    exact ⟨h - 1, r, o + 1, tri_no (tri_out (tri_pop e (need1 ne_79 t1)) _) _ (by omega), by omega, by omega, by omega⟩
  · rw [sa_86]
    exact ⟨h - 1, r, o, tri_no (tri_pop e (need1 ne_86 t1)) _ (by omega), by omega, by omega, by omega⟩
  · rw [sa_74]
    exact ⟨h, r, o, tri_no e _ (by omega), by omega, by omega, by omega⟩
  · rw [sa_90]
    exact ⟨h - 1, r, o, tri_no (tri_pop e (need1 ne_90 t1)) _ (by omega), by omega, by omega, by omega⟩
  · rw [sa_67]
    have : ¬ r = 10 := fun q => t4 ⟨rfl, q⟩
    refine ⟨h, r + 1, o, tri_no ⟨?_, by rw [u2_eq, e.2.1, nI_1], ?_⟩ _ (by omega), by omega, by omega, by omega⟩
    · rw [u2_ne _ _ (by omega), u2_ne _ _ (by omega)]; exact e.1
    · rw [u2_ne _ _ (by omega), u2_ne _ _ (by omega)]; exact e.2.2
  · rw [sa_82]
    have : ¬ r = 0 := fun q => t2 ⟨rfl, q⟩
    refine ⟨h, r - 1, o, tri_no ⟨?_, by rw [u2_eq, e.2.1]; exact pk_sub (b := 1) (by omega), ?_⟩ _ (by omega), by omega, by omega, by omega⟩
    · rw [u2_ne _ _ (by omega)]; exact e.1
    · rw [u2_ne _ _ (by omega)]; exact e.2.2
  · rw [sa_72]
    exact ⟨h, r, o, tri_no (tri_no e _ (by omega)) _ (by omega), by omega, by omega, by omega⟩
theorem mB_step {G M : vSt} {b : Nat} (hm : mB b M) (hb : b < 2 ^ 30) (hc : okC (G 0 (M 4 3).toNatClampNeg)) : mB (b + 1) (sStep G M) := by
  unfold sStep
  split
  · rename_i ht
    rw [q_act _ _ hc]
    obtain ⟨h, r, o, e, b5, b6, b7⟩ := mB_act (G 1 (M 4 3).toNatClampNeg) hm hb hc ht
    exact ⟨h, r, o, tri_no e _ (by omega), b5, b6, b7⟩
  · obtain ⟨h, r, o, e, b5, b6, b7⟩ := hm
    exact ⟨h, r, o, tri_no e _ (by omega), b5, b6, by omega⟩
/-- letters that go on to the next place -/
def inner (c : Int32) : Prop := c ≠ 74 ∧ c ≠ 90 ∧ c ≠ 67 ∧ c ≠ 82 ∧ c ≠ 72
theorem in_place {M : vSt} {c n : Int32} (hc : okC c) (hi : inner c) : (sAct M c n) 4 3 = M 4 3 + 1 := by
  obtain ⟨i1, i2, i3, i4, i5⟩ := hi
  rcases hc with rfl | rfl | rfl | rfl | rfl | rfl | rfl | rfl | rfl | rfl | rfl | rfl | rfl | rfl | rfl | rfl | rfl | rfl
  · rw [sa_80, u2_eq]
  · rw [sa_76, u2_eq]
  · rw [sa_83, u2_eq]
  · rw [sa_43, u2_eq]
  · rw [sa_45, u2_eq]
  · rw [sa_42, u2_eq]
  · rw [sa_47, u2_eq]
  · rw [sa_60, u2_eq]
  · rw [sa_61, u2_eq]
  · rw [sa_68, u2_eq]
  · rw [sa_88, u2_eq]
  · rw [sa_79, u2_eq]
  · rw [sa_86, u2_eq]
  · exact absurd rfl i1
  · exact absurd rfl i2
  · exact absurd rfl i3
  · exact absurd rfl i4
  · exact absurd rfl i5
theorem e4_push (M : vSt) (v : Int32) : (sPush M v) 4 4 = M 4 4 := by unfold sPush; rw [u2_ne _ _ (by omega), u2_ne _ _ (by omega)]
theorem e4_pop (M : vSt) : (sPop M) 4 4 = M 4 4 := by unfold sPop; rw [u2_ne _ _ (by omega)]
theorem e4_out (M : vSt) (v : Int32) : (sOut M v) 4 4 = M 4 4 := by
  unfold sOut
  split
  · rw [u2_ne _ _ (by omega)]
  · rw [u2_ne _ _ (by omega), u2_ne _ _ (by omega)]
theorem in_state {M : vSt} {c n : Int32} (hc : okC c) (hi : inner c) : (sAct M c n) 4 4 = M 4 4 := by
  obtain ⟨i1, i2, i3, i4, i5⟩ := hi
  rcases hc with rfl | rfl | rfl | rfl | rfl | rfl | rfl | rfl | rfl | rfl | rfl | rfl | rfl | rfl | rfl | rfl | rfl | rfl
  · rw [sa_80, u2_ne _ _ (by omega), e4_push]
  · rw [sa_76, u2_ne _ _ (by omega), e4_push]
  · rw [sa_83, u2_ne _ _ (by omega), u2_ne _ _ (by omega), e4_pop]
  · rw [sa_43, u2_ne _ _ (by omega)]; unfold sComb; rw [e4_push, e4_pop, e4_pop]
  · rw [sa_45, u2_ne _ _ (by omega)]; unfold sComb; rw [e4_push, e4_pop, e4_pop]
  · rw [sa_42, u2_ne _ _ (by omega)]; unfold sComb; rw [e4_push, e4_pop, e4_pop]
  · rw [sa_47, u2_ne _ _ (by omega)]; unfold sComb; rw [e4_push, e4_pop, e4_pop]
  · rw [sa_60, u2_ne _ _ (by omega)]; unfold sComb; rw [e4_push, e4_pop, e4_pop]
  · rw [sa_61, u2_ne _ _ (by omega)]; unfold sComb; rw [e4_push, e4_pop, e4_pop]
  · rw [sa_68, u2_ne _ _ (by omega), e4_push]
  · rw [sa_88, u2_ne _ _ (by omega)]; unfold sExch; rw [u2_ne _ _ (by omega), u2_ne _ _ (by omega)]
  · rw [sa_79, u2_ne _ _ (by omega), e4_out, e4_pop]
  · rw [sa_86, u2_ne _ _ (by omega), e4_pop]
  · exact absurd rfl i1
  · exact absurd rfl i2
  · exact absurd rfl i3
  · exact absurd rfl i4
  · exact absurd rfl i5
/-- j letters from place q on -/
def rowP (G : vSt) (z : Nat) (j q : Nat) : Prop := q + j ≤ z ∧ ∀ t, t < j → okC (G 0 (q + t)) ∧ (G 0 (q + t) = 76 ∨ G 0 (q + t) = 83 → vp_in (G 1 (q + t)) 8) ∧ (t + 1 < j → inner (G 0 (q + t)))
theorem rowP.next {G : vSt} {z j q : Nat} (h : rowP G z (j + 1) q) : rowP G z j (q + 1) :=
  ⟨by have := h.1; omega, fun t ht => by
    have := h.2 (t + 1) (by omega)
    rw [show q + (t + 1) = q + 1 + t by omega] at this
    exact ⟨this.1, this.2.1, fun w => this.2.2 (by omega)⟩⟩
theorem sRow_stop {G M : vSt} (h : ¬ M 4 4 = 0) : ∀ j, sRow G j M = M ∧ rowOk G j M := by
  intro j
  cases j with
  | zero => exact ⟨rfl, trivial⟩
  | succ j => exact ⟨by show (if M 4 4 = 0 then _ else _) = _; rw [if_neg h], fun w => absurd w h⟩
theorem row_rel {i z : Nat} {G : vSt} (hi : i < 2) (hz : z ≤ 80) : ∀ (j b q : Nat) (D : vSt), (∀ k, k < 80 → D 0 k = G 0 k) → (∀ k, k < 80 → D 1 k = G 1 k) → rowP G z j q → (0 < j → D 4 i = nI q ∧ D 8 i = 0) → mB b (pm i D) → b + j < 2 ^ 30 →
    rowOk G j (pm i D) ∧ rowOkD (nI i) j D ∧ pm i (dRow (nI i) j D) = sRow G j (pm i D) ∧ (∀ i', ¬ i = i' → pm i' (dRow (nI i) j D) = pm i' D) ∧ (∀ r, r = 0 ∨ r = 1 ∨ r = 2 ∨ r = 3 ∨ r = 14 → (dRow (nI i) j D) r = D r) ∧ mB (b + j) (sRow G j (pm i D)) := by
  intro j
  induction j with
  | zero => intro b q D _ _ _ _ hm _; exact ⟨trivial, trivial, rfl, fun _ _ => rfl, fun _ _ => rfl, hm⟩
  | succ j ih =>
    intro b q D e0 e1 hp hq hm hb
    obtain ⟨ep, es⟩ := hq (by omega)
    have hq80 : q < 80 := by have := hp.1; omega
    obtain ⟨hc, hn, hin⟩ := hp.2 0 (by omega)
    rw [Nat.add_zero] at hc hn hin
    have m3 : pm i D 4 3 = nI q := ep
    have m4 : pm i D 4 4 = 0 := es
    have hcl : (nI q).toNatClampNeg = q := nI_clamp (by omega)
    have hmo := hm.ok (by omega)
    have hv : vp_in (D 4 i) 80 := by rw [ep]; exact vp_in_nI hq80 (by decide)
    have hcD : okC (D 0 (D 4 i).toNatClampNeg) := by rw [ep, hcl, e0 q hq80]; exact hc
    have hnD : D 0 (D 4 i).toNatClampNeg = 76 ∨ D 0 (D 4 i).toNatClampNeg = 83 → vp_in (D 1 (D 4 i).toNatClampNeg) 8 := by rw [ep, hcl, e0 q hq80, e1 q hq80]; exact hn
    obtain ⟨s1, s2, s3⟩ := pm_step hi hmo e0 e1 hv hcD hnD
    have hw : ∀ r, r = 0 ∨ r = 1 ∨ r = 2 ∨ r = 3 ∨ r = 14 → (dActM D (nI i)) r = D r := fun r hr => w_act (by rw [ti hi]; exact hcD) hr
    have hms : mB (b + 1) (sStep G (pm i D)) := mB_step hm (by omega) (by rw [m3, hcl]; exact hc)
    have er : sRow G (j + 1) (pm i D) = sRow G j (sStep G (pm i D)) := by show (if (pm i D) 4 4 = 0 then _ else _) = _; rw [if_pos m4]
    have ed : dRow (nI i) (j + 1) D = if dActR D (nI i) = 0 then dActM D (nI i) else dRow (nI i) j (dActM D (nI i)) := rfl
    have hdo : dOk D (nI i) := by
      obtain ⟨h, r, o, x0, x1, x2, y0, y1, y2⟩ := hmo
      exact ⟨i, h, r, o, hi, rfl, by rw [ti hi]; exact x0, by rw [ti hi]; exact x1, by rw [ti hi]; exact x2, y0, y1, y2⟩
    have hrk : ∀ K, rowOk G j (sStep G (pm i D)) → (¬ dActR D (nI i) = 0 → rowOkD (nI i) j (dActM D (nI i))) → K = (rowOk G (j + 1) (pm i D) ∧ rowOkD (nI i) (j + 1) D) → K := by
      intro K k1 k2 k3
      rw [k3]
      refine ⟨fun _ => ⟨by rw [m3]; exact vp_in_nI hq80 (by decide), by rw [m3, hcl]; exact hc, by rw [m3, hcl]; exact hn, hmo, k1⟩, hdo, by rw [ti hi]; exact hv, by rw [ti hi]; exact hcD, by rw [ti hi]; exact hnD, k2⟩
    by_cases ct : sTrap (pm i D) (G 0 (D 4 i).toNatClampNeg) = 0
    · have c3 : ¬ dActR D (nI i) = 0 := fun w => s3.mp w ct
      rw [ed, if_neg c3, er]
      rw [ep, hcl] at ct
      have sst : sStep G (pm i D) = u2 (sAct (pm i D) (G 0 q) (G 1 q)) 4 5 (pm i D 4 5 + 1) := by
        unfold sStep
        rw [m3, hcl, if_pos ct, q_act _ _ hc]
      have nx : 0 < j → (dActM D (nI i)) 4 i = nI (q + 1) ∧ (dActM D (nI i)) 8 i = 0 := by
        intro w
        have hin2 := hin (by omega)
        refine ⟨?_, ?_⟩
        · show pm i (dActM D (nI i)) 4 3 = _
          rw [s1, sst, u2_ne _ _ (by omega), in_place hc hin2, m3, nI_1]
        · show pm i (dActM D (nI i)) 4 4 = _
          rw [s1, sst, u2_ne _ _ (by omega), in_state hc hin2, m4]
      obtain ⟨r1, r2, r3, r4, r5, r6⟩ := ih (b + 1) (q + 1) (dActM D (nI i)) (fun k hk => by rw [hw 0 (by omega)]; exact e0 k hk) (fun k hk => by rw [hw 1 (by omega)]; exact e1 k hk) hp.next nx (by rw [s1]; exact hms) (by omega)
      rw [s1] at r1 r3 r6
      have hh := hrk _ r1 (fun _ => r2) rfl
      exact ⟨hh.1, hh.2, r3, fun i' hne => (r4 i' hne).trans (s2 i' hne), fun r hr => (r5 r hr).trans (hw r hr), by rw [show b + (j + 1) = b + 1 + j by omega]; exact r6⟩
    · have c3 : dActR D (nI i) = 0 := s3.mpr ct
      rw [ed, if_pos c3, er]
      rw [ep, hcl] at ct
      have sst : sStep G (pm i D) = u2 (pm i D) 4 4 (sTrap (pm i D) (G 0 q)) := by
        unfold sStep
        rw [m3, hcl, if_neg ct]
      have ns : ¬ (sStep G (pm i D)) 4 4 = 0 := by rw [sst, u2_eq]; exact ct
      obtain ⟨r1, r2⟩ := sRow_stop (G := G) ns j
      have hh := hrk _ r2 (fun w => absurd c3 w) rfl
      rw [r1]
      exact ⟨hh.1, hh.2, s1, s2, hw, hms.mono (by omega)⟩
