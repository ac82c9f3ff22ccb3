set_option maxRecDepth 100000 in
set_option maxHeartbeats 4000000 in
theorem n_Law_add (l : Launch) (Dg : va_G) (a b u v : Nat → Nat) (k : Nat → ClassId) (G M N : vSt) (ao : Nat) (kl : ClassId) (f : Nat → Int64) (q vB B : Nat) (c n : Int32) (H : Heap) (hP : va_P Dg classes (wL ao kl f ++ (wE a b u v ++ wP b k G ++ wM u k M ++ wM v k N)) H) (hD : va_D (fun _ => True) (wL ao kl f ++ (wE a b u v ++ wP b k G ++ wM u k M ++ wM v k N))) (hal : ¬ sAllow c n = 0) (hp : ∃ z : Nat, z < 80 ∧ G 5 0 = nI z) : kLi l y_Law_add b_Law_add 5 [(0, 10, 13, 13), (0, 10, 17, 15)] 7 150 [.ref (a 0), .int c, .int n, .ref ao] H (lX Dg k kl q vB B H) Dg (wL ao kl f ++ (wE a b u v ++ wP b k G ++ wM u k M ++ wM v k N)) (wL ao kl (vp_updL f 0 (Int32.toInt64 (G 5 0))) ++ (wE a b u v ++ wP b k (sApp G c n) ++ wM u k (sBegin M) ++ wM v k (sBegin N))) 0 := by
  refine k_ofW (by decide) (Nat.le_of_ble_eq_true rfl) ?_
  intro p e s m below meth cd ls F hlocks hret hex hh hX hl
  subst hh
  obtain ⟨hx, hb, hml, hown, hT⟩ := id F
  have hK : va_K Dg classes (kTy k) s := hX.1.1
  have hA : ∀ q : Nat, s.heap.size ≤ q → va_A (wL ao kl f ++ (wE a b u v ++ wP b k G ++ wM u k M ++ wM v k N)) s.heap.size q := fun q h => Or.inr h
  have hD := hD.self (sz := s.heap.size)
  have hS : va_S (va_A (wL ao kl f ++ (wE a b u v ++ wP b k G ++ wM u k M ++ wM v k N)) s.heap.size) s.heap s.heap [] := va_S.rf
  have hl : lv_has ls 5 [(0, .ref (a 0)), (1, .int c), (2, .int n), (3, .ref ao)] := hl
  refine lv_aload_n hx hb d_Law_add_0 rfl (lv_at hl 3 rfl) ?_
  refine lv_iconst (v := 0) hx hb d_Law_add_1 (by decide) ?_
  refine lv_aload_n hx hb d_Law_add_2 rfl (lv_at hl 0 rfl) ?_
  refine lv_iload_n hx hb d_Law_add_3 rfl (lv_at hl 1 rfl) ?_
  refine lv_iload_n hx hb d_Law_add_4 rfl (lv_at hl 2 rfl) ?_
  refine km_Vi (wr := wL ao kl f) F (c_Eng_add l Dg a b u v k G M N q vB c n _ (hP.sub (ws' := (wE a b u v ++ wP b k G ++ wM u k M ++ wM v k N)) [1, 2, 3, 4, 5, 6, 7, 8, 9, 10, 11, 12, 13, 14, 15, 16, 17] rfl) ((hD.sub (ws' := (wE a b u v ++ wP b k G ++ wM u k M ++ wM v k N)) [1, 2, 3, 4, 5, 6, 7, 8, 9, 10, 11, 12, 13, 14, 15, 16, 17] (by decide) rfl).weaken (fun _ _ _ _ => trivial)) hal hp) kaX_m ⟨hX.1.1, hX.1.2.2⟩ kw_Law_7 tw1_178 tw1_179 (va_recv (ci := 0) (q0 := 1) hK hP rfl rfl) hP hD hS hA [1, 2, 3, 4, 5, 6, 7, 8, 9, 10, 11, 12, 13, 14, 15, 16, 17] [0] rfl rfl (by decide) (by decide) d_Law_add_5 ⟨⟨Nat.le_of_ble_eq_true rfl, Nat.le_of_ble_eq_true rfl⟩, Nat.le_of_ble_eq_true rfl, Nat.le_of_ble_eq_true rfl⟩ rfl hl.1 rfl (Nat.le_of_ble_eq_true rfl) (fun H locs hP hD hS => ?_)
  have hP : va_P Dg classes (wL ao kl f ++ (wE a b u v ++ wP b k (sApp G c n) ++ wM u k (sBegin M) ++ wM v k (sBegin N))) H := hP
  have hD : va_D (va_A (wL ao kl f ++ (wE a b u v ++ wP b k G ++ wM u k M ++ wM v k N)) s.heap.size) (wL ao kl f ++ (wE a b u v ++ wP b k (sApp G c n) ++ wM u k (sBegin M) ++ wM v k (sBegin N))) := hD
  refine lv_i2l hx hb d_Law_add_8 rfl ?_
  refine va_last hx hb hX.2 hP hD hS 0 0 rfl rfl (by unfold vp_in; decide) d_Law_add_9 (fun H locs hP hD hS => ?_)
  refine lv_goto (tgt := 21) hx hb d_Law_add_10 (by decide) ?_
  refine lv_iconst (v := 0) hx hb d_Law_add_21 (by decide) ?_
  refine W.widen (k := 1) (n := 6) (Nat.le_of_ble_eq_true rfl) (Nat.le_of_ble_eq_true rfl) ?_
  exact kl_i F hlocks hret hP hD hS d_Law_add_22 rfl rfl

set_option maxRecDepth 100000 in
set_option maxHeartbeats 4000000 in
theorem e_Law_add_IA (l : Launch) (hl0 : l.stackTraces = false) (Dg : va_G) (a b u v : Nat → Nat) (k : Nat → ClassId) (G M N : vSt) (ao : Nat) (kl : ClassId) (f : Nat → Int64) (q vB B : Nat) (c n : Int32) (H : Heap) (hP : va_P Dg classes (wL ao kl f ++ (wE a b u v ++ wP b k G ++ wM u k M ++ wM v k N)) H) (hD : va_D (fun _ => True) (wL ao kl f ++ (wE a b u v ++ wP b k G ++ wM u k M ++ wM v k N))) (hal : sAllow c n = 0) : kLi l y_Law_add b_Law_add 5 [(0, 10, 13, 13), (0, 10, 17, 15)] 7 150 [.ref (a 0), .int c, .int n, .ref ao] H (lX Dg k kl q vB B H) Dg (wL ao kl f ++ (wE a b u v ++ wP b k G ++ wM u k M ++ wM v k N)) (wL ao kl f ++ (wE a b u v ++ wP b k G ++ wM u k M ++ wM v k N)) 1 := by
  refine k_ofW (by decide) (Nat.le_of_ble_eq_true rfl) ?_
  intro p e s m below meth cd ls F hlocks hret hex hh hX hl
  subst hh
  obtain ⟨hx, hb, hml, hown, hT⟩ := id F
  have hK : va_K Dg classes (kTy k) s := hX.1.1
  have hA : ∀ q : Nat, s.heap.size ≤ q → va_A (wL ao kl f ++ (wE a b u v ++ wP b k G ++ wM u k M ++ wM v k N)) s.heap.size q := fun q h => Or.inr h
  have hD := hD.self (sz := s.heap.size)
  have hS : va_S (va_A (wL ao kl f ++ (wE a b u v ++ wP b k G ++ wM u k M ++ wM v k N)) s.heap.size) s.heap s.heap [] := va_S.rf
  have hl : lv_has ls 5 [(0, .ref (a 0)), (1, .int c), (2, .int n), (3, .ref ao)] := hl
  refine lv_aload_n hx hb d_Law_add_0 rfl (lv_at hl 3 rfl) ?_
  refine lv_iconst (v := 0) hx hb d_Law_add_1 (by decide) ?_
  refine lv_aload_n hx hb d_Law_add_2 rfl (lv_at hl 0 rfl) ?_
  refine lv_iload_n hx hb d_Law_add_3 rfl (lv_at hl 1 rfl) ?_
  refine lv_iload_n hx hb d_Law_add_4 rfl (lv_at hl 2 rfl) ?_
  refine kt_V F (t_Eng_add_IA l hl0 Dg a b u v k G M N q vB B c n _ (hP.sub (ws' := (wE a b u v ++ wP b k G ++ wM u k M ++ wM v k N)) [1, 2, 3, 4, 5, 6, 7, 8, 9, 10, 11, 12, 13, 14, 15, 16, 17] rfl) hal) taX_m hX.1 kw_Law_7 tw1_178 tw1_179 (va_recv (ci := 0) (q0 := 1) hK hP rfl rfl) [] ⟨0, 10, 13, 13⟩ [⟨0, 10, 17, 15⟩] hex (by decide) (by decide) (nm := xIA) tw1_175 hX.1.2.1.1.2.2.1 (fun z hz => absurd hz (by simp)) d_Law_add_5 ⟨⟨Nat.le_of_ble_eq_true rfl, Nat.le_of_ble_eq_true rfl⟩, Nat.le_of_ble_eq_true rfl, Nat.le_of_ble_eq_true rfl⟩ rfl hl.1 rfl (Nat.le_of_ble_eq_true rfl) (fun qx H hz9 hsame => ?_)
  have hP : va_P Dg classes (wL ao kl f ++ (wE a b u v ++ wP b k G ++ wM u k M ++ wM v k N)) H := hP.kept (fun j q hj => hsame q.1 ((hP j q hj).lt))
  have hS : va_S (va_A (wL ao kl f ++ (wE a b u v ++ wP b k G ++ wM u k M ++ wM v k N)) s.heap.size) s.heap H [] := ⟨hz9, fun q h1 _ => hsame q h1, hS.2.2⟩
  refine lv_astore hx hb d_Law_add_13 hl (by decide) rfl (fun ls hl => ?_)
  refine lv_iconst (v := 1) hx hb d_Law_add_15 (by decide) ?_
  exact kl_i F hlocks hret hP hD hS d_Law_add_16 rfl rfl

set_option maxRecDepth 100000 in
set_option maxHeartbeats 4000000 in
theorem e_Law_add_IS (l : Launch) (hl0 : l.stackTraces = false) (Dg : va_G) (a b u v : Nat → Nat) (k : Nat → ClassId) (G M N : vSt) (ao : Nat) (kl : ClassId) (f : Nat → Int64) (q vB B : Nat) (c n : Int32) (H : Heap) (hP : va_P Dg classes (wL ao kl f ++ (wE a b u v ++ wP b k G ++ wM u k M ++ wM v k N)) H) (hD : va_D (fun _ => True) (wL ao kl f ++ (wE a b u v ++ wP b k G ++ wM u k M ++ wM v k N))) (hal : ¬ sAllow c n = 0) (hsz : G 5 0 = 80) : kLi l y_Law_add b_Law_add 5 [(0, 10, 13, 13), (0, 10, 17, 15)] 7 150 [.ref (a 0), .int c, .int n, .ref ao] H (lX Dg k kl q vB B H) Dg (wL ao kl f ++ (wE a b u v ++ wP b k G ++ wM u k M ++ wM v k N)) (wL ao kl f ++ (wE a b u v ++ wP b k G ++ wM u k M ++ wM v k N)) 2 := by
  refine k_ofW (by decide) (Nat.le_of_ble_eq_true rfl) ?_
  intro p e s m below meth cd ls F hlocks hret hex hh hX hl
  subst hh
  obtain ⟨hx, hb, hml, hown, hT⟩ := id F
  have hK : va_K Dg classes (kTy k) s := hX.1.1
  have hA : ∀ q : Nat, s.heap.size ≤ q → va_A (wL ao kl f ++ (wE a b u v ++ wP b k G ++ wM u k M ++ wM v k N)) s.heap.size q := fun q h => Or.inr h
  have hD := hD.self (sz := s.heap.size)
  have hS : va_S (va_A (wL ao kl f ++ (wE a b u v ++ wP b k G ++ wM u k M ++ wM v k N)) s.heap.size) s.heap s.heap [] := va_S.rf
  have hl : lv_has ls 5 [(0, .ref (a 0)), (1, .int c), (2, .int n), (3, .ref ao)] := hl
  refine lv_aload_n hx hb d_Law_add_0 rfl (lv_at hl 3 rfl) ?_
  refine lv_iconst (v := 0) hx hb d_Law_add_1 (by decide) ?_
  refine lv_aload_n hx hb d_Law_add_2 rfl (lv_at hl 0 rfl) ?_
  refine lv_iload_n hx hb d_Law_add_3 rfl (lv_at hl 1 rfl) ?_
  refine lv_iload_n hx hb d_Law_add_4 rfl (lv_at hl 2 rfl) ?_
  refine kt_V F (t_Eng_add_IS l hl0 Dg a b u v k G M N q vB B c n _ (hP.sub (ws' := (wE a b u v ++ wP b k G ++ wM u k M ++ wM v k N)) [1, 2, 3, 4, 5, 6, 7, 8, 9, 10, 11, 12, 13, 14, 15, 16, 17] rfl) hal hsz) taX_m hX.1 kw_Law_7 tw1_178 tw1_179 (va_recv (ci := 0) (q0 := 1) hK hP rfl rfl) [⟨0, 10, 13, 13⟩] ⟨0, 10, 17, 15⟩ [] hex (by decide) (by decide) (nm := xIS) tw1_176 hX.1.2.1.1.2.2.2.1 (fun z hz => by rw [List.mem_singleton.mp hz]; exact ⟨by decide, by decide, xIA, tw1_175, hX.1.2.1.1.2.2.2.2.2.1⟩) d_Law_add_5 ⟨⟨Nat.le_of_ble_eq_true rfl, Nat.le_of_ble_eq_true rfl⟩, Nat.le_of_ble_eq_true rfl, Nat.le_of_ble_eq_true rfl⟩ rfl hl.1 rfl (Nat.le_of_ble_eq_true rfl) (fun qx H hz9 hsame => ?_)
  have hP : va_P Dg classes (wL ao kl f ++ (wE a b u v ++ wP b k G ++ wM u k M ++ wM v k N)) H := hP.kept (fun j q hj => hsame q.1 ((hP j q hj).lt))
  have hS : va_S (va_A (wL ao kl f ++ (wE a b u v ++ wP b k G ++ wM u k M ++ wM v k N)) s.heap.size) s.heap H [] := ⟨hz9, fun q h1 _ => hsame q h1, hS.2.2⟩
  refine lv_astore hx hb d_Law_add_17 hl (by decide) rfl (fun ls hl => ?_)
  refine lv_iconst (v := 2) hx hb d_Law_add_19 (by decide) ?_
  exact kl_i F hlocks hret hP hD hS d_Law_add_20 rfl rfl

set_option maxRecDepth 100000 in
set_option maxHeartbeats 4000000 in
theorem n_Law_change (l : Launch) (Dg : va_G) (a b u v : Nat → Nat) (k : Nat → ClassId) (G M N : vSt) (ao : Nat) (kl : ClassId) (f : Nat → Int64) (q vB B : Nat) (pl c n : Int32) (H : Heap) (hP : va_P Dg classes (wL ao kl f ++ (wE a b u v ++ wP b k G ++ wM u k M ++ wM v k N)) H) (hD : va_D (fun _ => True) (wL ao kl f ++ (wE a b u v ++ wP b k G ++ wM u k M ++ wM v k N))) (hha : ¬ sHas G pl = 0) (hal : ¬ sAllow c n = 0) (hp : pOk G) : kLi l y_Law_change b_Law_change 5 [(0, 7, 10, 21), (0, 7, 14, 13)] 7 150 [.ref (a 0), .int pl, .int c, .int n] H (lX Dg k kl q vB B H) Dg (wL ao kl f ++ (wE a b u v ++ wP b k G ++ wM u k M ++ wM v k N)) (wL ao kl f ++ (wE a b u v ++ wP b k (sRepl G pl c n) ++ wM u k (sBegin M) ++ wM v k (sBegin N))) 0 := by
  refine k_ofW (by decide) (Nat.le_of_ble_eq_true rfl) ?_
  intro p e s m below meth cd ls F hlocks hret hex hh hX hl
  subst hh
  obtain ⟨hx, hb, hml, hown, hT⟩ := id F
  have hK : va_K Dg classes (kTy k) s := hX.1.1
  have hA : ∀ q : Nat, s.heap.size ≤ q → va_A (wL ao kl f ++ (wE a b u v ++ wP b k G ++ wM u k M ++ wM v k N)) s.heap.size q := fun q h => Or.inr h
  have hD := hD.self (sz := s.heap.size)
  have hS : va_S (va_A (wL ao kl f ++ (wE a b u v ++ wP b k G ++ wM u k M ++ wM v k N)) s.heap.size) s.heap s.heap [] := va_S.rf
  have hl : lv_has ls 5 [(0, .ref (a 0)), (1, .int pl), (2, .int c), (3, .int n)] := hl
  refine lv_aload_n hx hb d_Law_change_0 rfl (lv_at hl 0 rfl) ?_
  refine lv_iload_n hx hb d_Law_change_1 rfl (lv_at hl 1 rfl) ?_
  refine lv_iload_n hx hb d_Law_change_2 rfl (lv_at hl 2 rfl) ?_
  refine lv_iload_n hx hb d_Law_change_3 rfl (lv_at hl 3 rfl) ?_
  refine km_Vv (wr := wL ao kl f) F (c_Eng_change l Dg a b u v k G M N q vB pl c n _ (hP.sub (ws' := (wE a b u v ++ wP b k G ++ wM u k M ++ wM v k N)) [1, 2, 3, 4, 5, 6, 7, 8, 9, 10, 11, 12, 13, 14, 15, 16, 17] rfl) ((hD.sub (ws' := (wE a b u v ++ wP b k G ++ wM u k M ++ wM v k N)) [1, 2, 3, 4, 5, 6, 7, 8, 9, 10, 11, 12, 13, 14, 15, 16, 17] (by decide) rfl).weaken (fun _ _ _ _ => trivial)) hha hal hp) kaX_m ⟨hX.1.1, hX.1.2.2⟩ kw_Law_17 tw2_102 tw2_103 (va_recv (ci := 0) (q0 := 1) hK hP rfl rfl) hP hD hS hA [1, 2, 3, 4, 5, 6, 7, 8, 9, 10, 11, 12, 13, 14, 15, 16, 17] [0] rfl rfl (by decide) (by decide) d_Law_change_4 ⟨⟨Nat.le_of_ble_eq_true rfl, Nat.le_of_ble_eq_true rfl⟩, Nat.le_of_ble_eq_true rfl, Nat.le_of_ble_eq_true rfl⟩ rfl hl.1 rfl (Nat.le_of_ble_eq_true rfl) (fun H locs hP hD hS => ?_)
  have hP : va_P Dg classes (wL ao kl f ++ (wE a b u v ++ wP b k (sRepl G pl c n) ++ wM u k (sBegin M) ++ wM v k (sBegin N))) H := hP
  have hD : va_D (va_A (wL ao kl f ++ (wE a b u v ++ wP b k G ++ wM u k M ++ wM v k N)) s.heap.size) (wL ao kl f ++ (wE a b u v ++ wP b k (sRepl G pl c n) ++ wM u k (sBegin M) ++ wM v k (sBegin N))) := hD
  refine lv_goto (tgt := 18) hx hb d_Law_change_7 (by decide) ?_
  refine lv_iconst (v := 0) hx hb d_Law_change_18 (by decide) ?_
  refine W.widen (k := 1) (n := 6) (Nat.le_of_ble_eq_true rfl) (Nat.le_of_ble_eq_true rfl) ?_
  exact kl_i F hlocks hret hP hD hS d_Law_change_19 rfl rfl

set_option maxRecDepth 100000 in
set_option maxHeartbeats 4000000 in
theorem e_Law_change_NS (l : Launch) (hl0 : l.stackTraces = false) (Dg : va_G) (a b u v : Nat → Nat) (k : Nat → ClassId) (G M N : vSt) (ao : Nat) (kl : ClassId) (f : Nat → Int64) (q vB B : Nat) (pl c n : Int32) (H : Heap) (hP : va_P Dg classes (wL ao kl f ++ (wE a b u v ++ wP b k G ++ wM u k M ++ wM v k N)) H) (hD : va_D (fun _ => True) (wL ao kl f ++ (wE a b u v ++ wP b k G ++ wM u k M ++ wM v k N))) (hha : sHas G pl = 0) : kLi l y_Law_change b_Law_change 5 [(0, 7, 10, 21), (0, 7, 14, 13)] 7 150 [.ref (a 0), .int pl, .int c, .int n] H (lX Dg k kl q vB B H) Dg (wL ao kl f ++ (wE a b u v ++ wP b k G ++ wM u k M ++ wM v k N)) (wL ao kl f ++ (wE a b u v ++ wP b k G ++ wM u k M ++ wM v k N)) 1 := by
  refine k_ofW (by decide) (Nat.le_of_ble_eq_true rfl) ?_
  intro p e s m below meth cd ls F hlocks hret hex hh hX hl
  subst hh
  obtain ⟨hx, hb, hml, hown, hT⟩ := id F
  have hK : va_K Dg classes (kTy k) s := hX.1.1
  have hA : ∀ q : Nat, s.heap.size ≤ q → va_A (wL ao kl f ++ (wE a b u v ++ wP b k G ++ wM u k M ++ wM v k N)) s.heap.size q := fun q h => Or.inr h
  have hD := hD.self (sz := s.heap.size)
  have hS : va_S (va_A (wL ao kl f ++ (wE a b u v ++ wP b k G ++ wM u k M ++ wM v k N)) s.heap.size) s.heap s.heap [] := va_S.rf
  have hl : lv_has ls 5 [(0, .ref (a 0)), (1, .int pl), (2, .int c), (3, .int n)] := hl
  refine lv_aload_n hx hb d_Law_change_0 rfl (lv_at hl 0 rfl) ?_
  refine lv_iload_n hx hb d_Law_change_1 rfl (lv_at hl 1 rfl) ?_
  refine lv_iload_n hx hb d_Law_change_2 rfl (lv_at hl 2 rfl) ?_
  refine lv_iload_n hx hb d_Law_change_3 rfl (lv_at hl 3 rfl) ?_
  refine kt_V F (t_Eng_change_NS l hl0 Dg a b u v k G M N B pl c n _ (hP.sub (ws' := (wE a b u v ++ wP b k G ++ wM u k M ++ wM v k N)) [1, 2, 3, 4, 5, 6, 7, 8, 9, 10, 11, 12, 13, 14, 15, 16, 17] rfl) hha) tX_m ⟨hX.1.1, hX.1.2.1⟩ kw_Law_17 tw2_102 tw2_103 (va_recv (ci := 0) (q0 := 1) hK hP rfl rfl) [] ⟨0, 7, 10, 21⟩ [⟨0, 7, 14, 13⟩] hex (by decide) (by decide) (nm := xNS) tw2_100 hX.1.2.1.1.2.2.2.2.1 (fun z hz => absurd hz (by simp)) d_Law_change_4 ⟨⟨Nat.le_of_ble_eq_true rfl, Nat.le_of_ble_eq_true rfl⟩, Nat.le_of_ble_eq_true rfl, Nat.le_of_ble_eq_true rfl⟩ rfl hl.1 rfl (Nat.le_of_ble_eq_true rfl) (fun qx H hz9 hsame => ?_)
  have hP : va_P Dg classes (wL ao kl f ++ (wE a b u v ++ wP b k G ++ wM u k M ++ wM v k N)) H := hP.kept (fun j q hj => hsame q.1 ((hP j q hj).lt))
  have hS : va_S (va_A (wL ao kl f ++ (wE a b u v ++ wP b k G ++ wM u k M ++ wM v k N)) s.heap.size) s.heap H [] := ⟨hz9, fun q h1 _ => hsame q h1, hS.2.2⟩
  refine lv_astore hx hb d_Law_change_10 hl (by decide) rfl (fun ls hl => ?_)
  refine lv_iconst (v := 1) hx hb d_Law_change_12 (by decide) ?_
  exact kl_i F hlocks hret hP hD hS d_Law_change_13 rfl rfl

set_option maxRecDepth 100000 in
set_option maxHeartbeats 4000000 in
theorem e_Law_change_IA (l : Launch) (hl0 : l.stackTraces = false) (Dg : va_G) (a b u v : Nat → Nat) (k : Nat → ClassId) (G M N : vSt) (ao : Nat) (kl : ClassId) (f : Nat → Int64) (q vB B : Nat) (pl c n : Int32) (H : Heap) (hP : va_P Dg classes (wL ao kl f ++ (wE a b u v ++ wP b k G ++ wM u k M ++ wM v k N)) H) (hD : va_D (fun _ => True) (wL ao kl f ++ (wE a b u v ++ wP b k G ++ wM u k M ++ wM v k N))) (hha : ¬ sHas G pl = 0) (hal : sAllow c n = 0) : kLi l y_Law_change b_Law_change 5 [(0, 7, 10, 21), (0, 7, 14, 13)] 7 150 [.ref (a 0), .int pl, .int c, .int n] H (lX Dg k kl q vB B H) Dg (wL ao kl f ++ (wE a b u v ++ wP b k G ++ wM u k M ++ wM v k N)) (wL ao kl f ++ (wE a b u v ++ wP b k G ++ wM u k M ++ wM v k N)) 2 := by
  refine k_ofW (by decide) (Nat.le_of_ble_eq_true rfl) ?_
  intro p e s m below meth cd ls F hlocks hret hex hh hX hl
  subst hh
  obtain ⟨hx, hb, hml, hown, hT⟩ := id F
  have hK : va_K Dg classes (kTy k) s := hX.1.1
  have hA : ∀ q : Nat, s.heap.size ≤ q → va_A (wL ao kl f ++ (wE a b u v ++ wP b k G ++ wM u k M ++ wM v k N)) s.heap.size q := fun q h => Or.inr h
  have hD := hD.self (sz := s.heap.size)
  have hS : va_S (va_A (wL ao kl f ++ (wE a b u v ++ wP b k G ++ wM u k M ++ wM v k N)) s.heap.size) s.heap s.heap [] := va_S.rf
  have hl : lv_has ls 5 [(0, .ref (a 0)), (1, .int pl), (2, .int c), (3, .int n)] := hl
  refine lv_aload_n hx hb d_Law_change_0 rfl (lv_at hl 0 rfl) ?_
  refine lv_iload_n hx hb d_Law_change_1 rfl (lv_at hl 1 rfl) ?_
  refine lv_iload_n hx hb d_Law_change_2 rfl (lv_at hl 2 rfl) ?_
  refine lv_iload_n hx hb d_Law_change_3 rfl (lv_at hl 3 rfl) ?_
  refine kt_V F (t_Eng_change_IA l hl0 Dg a b u v k G M N q vB B pl c n _ (hP.sub (ws' := (wE a b u v ++ wP b k G ++ wM u k M ++ wM v k N)) [1, 2, 3, 4, 5, 6, 7, 8, 9, 10, 11, 12, 13, 14, 15, 16, 17] rfl) hha hal) taX_m hX.1 kw_Law_17 tw2_102 tw2_103 (va_recv (ci := 0) (q0 := 1) hK hP rfl rfl) [⟨0, 7, 10, 21⟩] ⟨0, 7, 14, 13⟩ [] hex (by decide) (by decide) (nm := xIA) tw1_175 hX.1.2.1.1.2.2.1 (fun z hz => by rw [List.mem_singleton.mp hz]; exact ⟨by decide, by decide, xNS, tw2_100, hX.1.2.1.1.2.2.2.2.2.2⟩) d_Law_change_4 ⟨⟨Nat.le_of_ble_eq_true rfl, Nat.le_of_ble_eq_true rfl⟩, Nat.le_of_ble_eq_true rfl, Nat.le_of_ble_eq_true rfl⟩ rfl hl.1 rfl (Nat.le_of_ble_eq_true rfl) (fun qx H hz9 hsame => ?_)
  have hP : va_P Dg classes (wL ao kl f ++ (wE a b u v ++ wP b k G ++ wM u k M ++ wM v k N)) H := hP.kept (fun j q hj => hsame q.1 ((hP j q hj).lt))
  have hS : va_S (va_A (wL ao kl f ++ (wE a b u v ++ wP b k G ++ wM u k M ++ wM v k N)) s.heap.size) s.heap H [] := ⟨hz9, fun q h1 _ => hsame q h1, hS.2.2⟩
  refine lv_astore hx hb d_Law_change_14 hl (by decide) rfl (fun ls hl => ?_)
  refine lv_iconst (v := 2) hx hb d_Law_change_16 (by decide) ?_
  exact kl_i F hlocks hret hP hD hS d_Law_change_17 rfl rfl

set_option maxRecDepth 100000 in
set_option maxHeartbeats 4000000 in
theorem n_Law_look (l : Launch) (Dg : va_G) (a b u v : Nat → Nat) (k : Nat → ClassId) (G M N : vSt) (ao : Nat) (kl : ClassId) (f : Nat → Int64) (q vB B : Nat) (pl w : Int32) (H : Heap) (hP : va_P Dg classes (wL ao kl f ++ (wE a b u v ++ wP b k G ++ wM u k M ++ wM v k N)) H) (hD : va_D (fun _ => True) (wL ao kl f ++ (wE a b u v ++ wP b k G ++ wM u k M ++ wM v k N))) (hha : ¬ sHas G pl = 0) (hw0 : ¬ w < 0) (hw3 : w ≤ 3) (hfu : w = 2 → ¬ G 5 1 = 0) (hp : pOk G) : kLi l y_Law_look b_Law_look 5 [(0, 10, 13, 21)] 7 150 [.ref (a 0), .int pl, .int w, .ref ao] H (lX Dg k kl q vB B H) Dg (wL ao kl f ++ (wE a b u v ++ wP b k G ++ wM u k M ++ wM v k N)) (wL ao kl (vp_updL f 0 (Int32.toInt64 (sPFact G pl w))) ++ (wE a b u v ++ wP b k G ++ wM u k M ++ wM v k N)) 0 := by
  refine k_ofW (by decide) (Nat.le_of_ble_eq_true rfl) ?_
  intro p e s m below meth cd ls F hlocks hret hex hh hX hl
  subst hh
  obtain ⟨hx, hb, hml, hown, hT⟩ := id F
  have hK : va_K Dg classes (kTy k) s := hX.1.1
  have hA : ∀ q : Nat, s.heap.size ≤ q → va_A (wL ao kl f ++ (wE a b u v ++ wP b k G ++ wM u k M ++ wM v k N)) s.heap.size q := fun q h => Or.inr h
  have hD := hD.self (sz := s.heap.size)
  have hS : va_S (va_A (wL ao kl f ++ (wE a b u v ++ wP b k G ++ wM u k M ++ wM v k N)) s.heap.size) s.heap s.heap [] := va_S.rf
  have hl : lv_has ls 5 [(0, .ref (a 0)), (1, .int pl), (2, .int w), (3, .ref ao)] := hl
  refine lv_aload_n hx hb d_Law_look_0 rfl (lv_at hl 3 rfl) ?_
  refine lv_iconst (v := 0) hx hb d_Law_look_1 (by decide) ?_
  refine lv_aload_n hx hb d_Law_look_2 rfl (lv_at hl 0 rfl) ?_
  refine lv_iload_n hx hb d_Law_look_3 rfl (lv_at hl 1 rfl) ?_
  refine lv_iload_n hx hb d_Law_look_4 rfl (lv_at hl 2 rfl) ?_
  refine kp_V F (c_Eng_look l Dg a b u v k G M N pl w _ (hP.sub (ws' := (wE a b u v ++ wP b k G ++ wM u k M ++ wM v k N)) [1, 2, 3, 4, 5, 6, 7, 8, 9, 10, 11, 12, 13, 14, 15, 16, 17] rfl) hha hw0 hw3 hfu hp) kx_K hX.1.1 kw_Law_23 tw2_127 tw2_128 (va_recv (ci := 0) (q0 := 1) hK hP rfl rfl) hS d_Law_look_5 ⟨⟨Nat.le_of_ble_eq_true rfl, Nat.le_of_ble_eq_true rfl⟩, Nat.le_of_ble_eq_true rfl, Nat.le_of_ble_eq_true rfl⟩ rfl hl.1 rfl (Nat.le_of_ble_eq_true rfl) (fun locs hS => ?_)
  refine lv_i2l hx hb d_Law_look_8 rfl ?_
  refine va_last hx hb hX.2 hP hD hS 0 0 rfl rfl (by unfold vp_in; decide) d_Law_look_9 (fun H locs hP hD hS => ?_)
  refine lv_goto (tgt := 17) hx hb d_Law_look_10 (by decide) ?_
  refine lv_iconst (v := 0) hx hb d_Law_look_17 (by decide) ?_
  refine W.widen (k := 1) (n := 6) (Nat.le_of_ble_eq_true rfl) (Nat.le_of_ble_eq_true rfl) ?_
  exact kl_i F hlocks hret hP hD hS d_Law_look_18 rfl rfl

set_option maxRecDepth 100000 in
set_option maxHeartbeats 4000000 in
theorem e_Law_look_NS1 (l : Launch) (hl0 : l.stackTraces = false) (Dg : va_G) (a b u v : Nat → Nat) (k : Nat → ClassId) (G M N : vSt) (ao : Nat) (kl : ClassId) (f : Nat → Int64) (q vB B : Nat) (pl w : Int32) (H : Heap) (hP : va_P Dg classes (wL ao kl f ++ (wE a b u v ++ wP b k G ++ wM u k M ++ wM v k N)) H) (hD : va_D (fun _ => True) (wL ao kl f ++ (wE a b u v ++ wP b k G ++ wM u k M ++ wM v k N))) (hha : sHas G pl = 0) : kLi l y_Law_look b_Law_look 5 [(0, 10, 13, 21)] 7 150 [.ref (a 0), .int pl, .int w, .ref ao] H (lX Dg k kl q vB B H) Dg (wL ao kl f ++ (wE a b u v ++ wP b k G ++ wM u k M ++ wM v k N)) (wL ao kl f ++ (wE a b u v ++ wP b k G ++ wM u k M ++ wM v k N)) 1 := by
  refine k_ofW (by decide) (Nat.le_of_ble_eq_true rfl) ?_
  intro p e s m below meth cd ls F hlocks hret hex hh hX hl
  subst hh
  obtain ⟨hx, hb, hml, hown, hT⟩ := id F
  have hK : va_K Dg classes (kTy k) s := hX.1.1
  have hA : ∀ q : Nat, s.heap.size ≤ q → va_A (wL ao kl f ++ (wE a b u v ++ wP b k G ++ wM u k M ++ wM v k N)) s.heap.size q := fun q h => Or.inr h
  have hD := hD.self (sz := s.heap.size)
  have hS : va_S (va_A (wL ao kl f ++ (wE a b u v ++ wP b k G ++ wM u k M ++ wM v k N)) s.heap.size) s.heap s.heap [] := va_S.rf
  have hl : lv_has ls 5 [(0, .ref (a 0)), (1, .int pl), (2, .int w), (3, .ref ao)] := hl
  refine lv_aload_n hx hb d_Law_look_0 rfl (lv_at hl 3 rfl) ?_
  refine lv_iconst (v := 0) hx hb d_Law_look_1 (by decide) ?_
  refine lv_aload_n hx hb d_Law_look_2 rfl (lv_at hl 0 rfl) ?_
  refine lv_iload_n hx hb d_Law_look_3 rfl (lv_at hl 1 rfl) ?_
  refine lv_iload_n hx hb d_Law_look_4 rfl (lv_at hl 2 rfl) ?_
  refine kt_V F (t_Eng_look_NS1 l hl0 Dg a b u v k G M N B pl w _ (hP.sub (ws' := (wE a b u v ++ wP b k G ++ wM u k M ++ wM v k N)) [1, 2, 3, 4, 5, 6, 7, 8, 9, 10, 11, 12, 13, 14, 15, 16, 17] rfl) hha) tX_m ⟨hX.1.1, hX.1.2.1⟩ kw_Law_23 tw2_127 tw2_128 (va_recv (ci := 0) (q0 := 1) hK hP rfl rfl) [] ⟨0, 10, 13, 21⟩ [] hex (by decide) (by decide) (nm := xNS) tw2_100 hX.1.2.1.1.2.2.2.2.1 (fun z hz => absurd hz (by simp)) d_Law_look_5 ⟨⟨Nat.le_of_ble_eq_true rfl, Nat.le_of_ble_eq_true rfl⟩, Nat.le_of_ble_eq_true rfl, Nat.le_of_ble_eq_true rfl⟩ rfl hl.1 rfl (Nat.le_of_ble_eq_true rfl) (fun qx H hz9 hsame => ?_)
  have hP : va_P Dg classes (wL ao kl f ++ (wE a b u v ++ wP b k G ++ wM u k M ++ wM v k N)) H := hP.kept (fun j q hj => hsame q.1 ((hP j q hj).lt))
  have hS : va_S (va_A (wL ao kl f ++ (wE a b u v ++ wP b k G ++ wM u k M ++ wM v k N)) s.heap.size) s.heap H [] := ⟨hz9, fun q h1 _ => hsame q h1, hS.2.2⟩
  refine lv_astore hx hb d_Law_look_13 hl (by decide) rfl (fun ls hl => ?_)
  refine lv_iconst (v := 1) hx hb d_Law_look_15 (by decide) ?_
  exact kl_i F hlocks hret hP hD hS d_Law_look_16 rfl rfl

set_option maxRecDepth 100000 in
set_option maxHeartbeats 4000000 in
theorem e_Law_look_NS2 (l : Launch) (hl0 : l.stackTraces = false) (Dg : va_G) (a b u v : Nat → Nat) (k : Nat → ClassId) (G M N : vSt) (ao : Nat) (kl : ClassId) (f : Nat → Int64) (q vB B : Nat) (pl w : Int32) (H : Heap) (hP : va_P Dg classes (wL ao kl f ++ (wE a b u v ++ wP b k G ++ wM u k M ++ wM v k N)) H) (hD : va_D (fun _ => True) (wL ao kl f ++ (wE a b u v ++ wP b k G ++ wM u k M ++ wM v k N))) (hha : ¬ sHas G pl = 0) (hw : w < 0 ∨ ¬ w ≤ 3) : kLi l y_Law_look b_Law_look 5 [(0, 10, 13, 21)] 7 150 [.ref (a 0), .int pl, .int w, .ref ao] H (lX Dg k kl q vB B H) Dg (wL ao kl f ++ (wE a b u v ++ wP b k G ++ wM u k M ++ wM v k N)) (wL ao kl f ++ (wE a b u v ++ wP b k G ++ wM u k M ++ wM v k N)) 1 := by
  refine k_ofW (by decide) (Nat.le_of_ble_eq_true rfl) ?_
  intro p e s m below meth cd ls F hlocks hret hex hh hX hl
  subst hh
  obtain ⟨hx, hb, hml, hown, hT⟩ := id F
  have hK : va_K Dg classes (kTy k) s := hX.1.1
  have hA : ∀ q : Nat, s.heap.size ≤ q → va_A (wL ao kl f ++ (wE a b u v ++ wP b k G ++ wM u k M ++ wM v k N)) s.heap.size q := fun q h => Or.inr h
  have hD := hD.self (sz := s.heap.size)
  have hS : va_S (va_A (wL ao kl f ++ (wE a b u v ++ wP b k G ++ wM u k M ++ wM v k N)) s.heap.size) s.heap s.heap [] := va_S.rf
  have hl : lv_has ls 5 [(0, .ref (a 0)), (1, .int pl), (2, .int w), (3, .ref ao)] := hl
  refine lv_aload_n hx hb d_Law_look_0 rfl (lv_at hl 3 rfl) ?_
  refine lv_iconst (v := 0) hx hb d_Law_look_1 (by decide) ?_
  refine lv_aload_n hx hb d_Law_look_2 rfl (lv_at hl 0 rfl) ?_
  refine lv_iload_n hx hb d_Law_look_3 rfl (lv_at hl 1 rfl) ?_
  refine lv_iload_n hx hb d_Law_look_4 rfl (lv_at hl 2 rfl) ?_
  refine kt_V F (t_Eng_look_NS2 l hl0 Dg a b u v k G M N B pl w _ (hP.sub (ws' := (wE a b u v ++ wP b k G ++ wM u k M ++ wM v k N)) [1, 2, 3, 4, 5, 6, 7, 8, 9, 10, 11, 12, 13, 14, 15, 16, 17] rfl) hha hw) tX_m ⟨hX.1.1, hX.1.2.1⟩ kw_Law_23 tw2_127 tw2_128 (va_recv (ci := 0) (q0 := 1) hK hP rfl rfl) [] ⟨0, 10, 13, 21⟩ [] hex (by decide) (by decide) (nm := xNS) tw2_100 hX.1.2.1.1.2.2.2.2.1 (fun z hz => absurd hz (by simp)) d_Law_look_5 ⟨⟨Nat.le_of_ble_eq_true rfl, Nat.le_of_ble_eq_true rfl⟩, Nat.le_of_ble_eq_true rfl, Nat.le_of_ble_eq_true rfl⟩ rfl hl.1 rfl (Nat.le_of_ble_eq_true rfl) (fun qx H hz9 hsame => ?_)
  have hP : va_P Dg classes (wL ao kl f ++ (wE a b u v ++ wP b k G ++ wM u k M ++ wM v k N)) H := hP.kept (fun j q hj => hsame q.1 ((hP j q hj).lt))
  have hS : va_S (va_A (wL ao kl f ++ (wE a b u v ++ wP b k G ++ wM u k M ++ wM v k N)) s.heap.size) s.heap H [] := ⟨hz9, fun q h1 _ => hsame q h1, hS.2.2⟩
  refine lv_astore hx hb d_Law_look_13 hl (by decide) rfl (fun ls hl => ?_)
  refine lv_iconst (v := 1) hx hb d_Law_look_15 (by decide) ?_
  exact kl_i F hlocks hret hP hD hS d_Law_look_16 rfl rfl

set_option maxRecDepth 100000 in
set_option maxHeartbeats 4000000 in
theorem e_Law_look_NS3 (l : Launch) (hl0 : l.stackTraces = false) (Dg : va_G) (a b u v : Nat → Nat) (k : Nat → ClassId) (G M N : vSt) (ao : Nat) (kl : ClassId) (f : Nat → Int64) (q vB B : Nat) (pl : Int32) (H : Heap) (hP : va_P Dg classes (wL ao kl f ++ (wE a b u v ++ wP b k G ++ wM u k M ++ wM v k N)) H) (hD : va_D (fun _ => True) (wL ao kl f ++ (wE a b u v ++ wP b k G ++ wM u k M ++ wM v k N))) (hha : ¬ sHas G pl = 0) (hfu : G 5 1 = 0) : kLi l y_Law_look b_Law_look 5 [(0, 10, 13, 21)] 7 150 [.ref (a 0), .int pl, .int 2, .ref ao] H (lX Dg k kl q vB B H) Dg (wL ao kl f ++ (wE a b u v ++ wP b k G ++ wM u k M ++ wM v k N)) (wL ao kl f ++ (wE a b u v ++ wP b k G ++ wM u k M ++ wM v k N)) 1 := by
  refine k_ofW (by decide) (Nat.le_of_ble_eq_true rfl) ?_
  intro p e s m below meth cd ls F hlocks hret hex hh hX hl
  subst hh
  obtain ⟨hx, hb, hml, hown, hT⟩ := id F
  have hK : va_K Dg classes (kTy k) s := hX.1.1
  have hA : ∀ q : Nat, s.heap.size ≤ q → va_A (wL ao kl f ++ (wE a b u v ++ wP b k G ++ wM u k M ++ wM v k N)) s.heap.size q := fun q h => Or.inr h
  have hD := hD.self (sz := s.heap.size)
  have hS : va_S (va_A (wL ao kl f ++ (wE a b u v ++ wP b k G ++ wM u k M ++ wM v k N)) s.heap.size) s.heap s.heap [] := va_S.rf
  have hl : lv_has ls 5 [(0, .ref (a 0)), (1, .int pl), (2, .int 2), (3, .ref ao)] := hl
  refine lv_aload_n hx hb d_Law_look_0 rfl (lv_at hl 3 rfl) ?_
  refine lv_iconst (v := 0) hx hb d_Law_look_1 (by decide) ?_
  refine lv_aload_n hx hb d_Law_look_2 rfl (lv_at hl 0 rfl) ?_
  refine lv_iload_n hx hb d_Law_look_3 rfl (lv_at hl 1 rfl) ?_
  refine lv_iload_n hx hb d_Law_look_4 rfl (lv_at hl 2 rfl) ?_
  refine kt_V F (t_Eng_look_NS3 l hl0 Dg a b u v k G M N B pl _ (hP.sub (ws' := (wE a b u v ++ wP b k G ++ wM u k M ++ wM v k N)) [1, 2, 3, 4, 5, 6, 7, 8, 9, 10, 11, 12, 13, 14, 15, 16, 17] rfl) hha hfu) tX_m ⟨hX.1.1, hX.1.2.1⟩ kw_Law_23 tw2_127 tw2_128 (va_recv (ci := 0) (q0 := 1) hK hP rfl rfl) [] ⟨0, 10, 13, 21⟩ [] hex (by decide) (by decide) (nm := xNS) tw2_100 hX.1.2.1.1.2.2.2.2.1 (fun z hz => absurd hz (by simp)) d_Law_look_5 ⟨⟨Nat.le_of_ble_eq_true rfl, Nat.le_of_ble_eq_true rfl⟩, Nat.le_of_ble_eq_true rfl, Nat.le_of_ble_eq_true rfl⟩ rfl hl.1 rfl (Nat.le_of_ble_eq_true rfl) (fun qx H hz9 hsame => ?_)
  have hP : va_P Dg classes (wL ao kl f ++ (wE a b u v ++ wP b k G ++ wM u k M ++ wM v k N)) H := hP.kept (fun j q hj => hsame q.1 ((hP j q hj).lt))
  have hS : va_S (va_A (wL ao kl f ++ (wE a b u v ++ wP b k G ++ wM u k M ++ wM v k N)) s.heap.size) s.heap H [] := ⟨hz9, fun q h1 _ => hsame q h1, hS.2.2⟩
  refine lv_astore hx hb d_Law_look_13 hl (by decide) rfl (fun ls hl => ?_)
  refine lv_iconst (v := 1) hx hb d_Law_look_15 (by decide) ?_
  exact kl_i F hlocks hret hP hD hS d_Law_look_16 rfl rfl

set_option maxRecDepth 100000 in
set_option maxHeartbeats 4000000 in
theorem n_Law_run (l : Launch) (Dg : va_G) (a b u v : Nat → Nat) (k : Nat → ClassId) (G M N : vSt) (ao : Nat) (kl : ClassId) (f : Nat → Int64) (q vB B : Nat) (z n : Int32) (H : Heap) (hP : va_P Dg classes (wL ao kl f ++ (wE a b u v ++ wP b k G ++ wM u k M ++ wM v k N)) H) (hD : va_D (fun _ => True) (wL ao kl f ++ (wE a b u v ++ wP b k G ++ wM u k M ++ wM v k N))) (hfu : z = 0 ∨ ¬ G 5 1 = 0) (hro : runOk G z (sMost n) (if z = 0 then M else N)) : kLi l y_Law_run b_Law_run 5 [(0, 10, 13, 15)] 7 150 [.ref (a 0), .int z, .int n, .ref ao] H (lX Dg k kl q vB B H) Dg (wL ao kl f ++ (wE a b u v ++ wP b k G ++ wM u k M ++ wM v k N)) (wL ao kl (vp_updL f 0 (Int32.toInt64 (sRunR G (if z = 0 then M else N) z n))) ++ (wE a b u v ++ wP b k G ++ wM u k (if z = 0 then sRunM G M z n else M) ++ wM v k (if z = 0 then N else sRunM G N z n))) 0 := by
  refine k_ofW (by decide) (Nat.le_of_ble_eq_true rfl) ?_
  intro p e s m below meth cd ls F hlocks hret hex hh hX hl
  subst hh
  obtain ⟨hx, hb, hml, hown, hT⟩ := id F
  have hK : va_K Dg classes (kTy k) s := hX.1.1
  have hA : ∀ q : Nat, s.heap.size ≤ q → va_A (wL ao kl f ++ (wE a b u v ++ wP b k G ++ wM u k M ++ wM v k N)) s.heap.size q := fun q h => Or.inr h
  have hD := hD.self (sz := s.heap.size)
  have hS : va_S (va_A (wL ao kl f ++ (wE a b u v ++ wP b k G ++ wM u k M ++ wM v k N)) s.heap.size) s.heap s.heap [] := va_S.rf
  have hl : lv_has ls 5 [(0, .ref (a 0)), (1, .int z), (2, .int n), (3, .ref ao)] := hl
  refine lv_aload_n hx hb d_Law_run_0 rfl (lv_at hl 3 rfl) ?_
  refine lv_iconst (v := 0) hx hb d_Law_run_1 (by decide) ?_
  refine lv_aload_n hx hb d_Law_run_2 rfl (lv_at hl 0 rfl) ?_
  refine lv_iload_n hx hb d_Law_run_3 rfl (lv_at hl 1 rfl) ?_
  refine lv_iload_n hx hb d_Law_run_4 rfl (lv_at hl 2 rfl) ?_
  refine km_Vi (wr := wL ao kl f) F (c_Eng_run l Dg a b u v k G M N z n _ (hP.sub (ws' := (wE a b u v ++ wP b k G ++ wM u k M ++ wM v k N)) [1, 2, 3, 4, 5, 6, 7, 8, 9, 10, 11, 12, 13, 14, 15, 16, 17] rfl) ((hD.sub (ws' := (wE a b u v ++ wP b k G ++ wM u k M ++ wM v k N)) [1, 2, 3, 4, 5, 6, 7, 8, 9, 10, 11, 12, 13, 14, 15, 16, 17] (by decide) rfl).weaken (fun _ _ _ _ => trivial)) hfu hro) kx_K hX.1.1 kw_Law_26 tw2_140 tw2_141 (va_recv (ci := 0) (q0 := 1) hK hP rfl rfl) hP hD hS hA [1, 2, 3, 4, 5, 6, 7, 8, 9, 10, 11, 12, 13, 14, 15, 16, 17] [0] rfl rfl (by decide) (by decide) d_Law_run_5 ⟨⟨Nat.le_of_ble_eq_true rfl, Nat.le_of_ble_eq_true rfl⟩, Nat.le_of_ble_eq_true rfl, Nat.le_of_ble_eq_true rfl⟩ rfl hl.1 rfl (Nat.le_of_ble_eq_true rfl) (fun H locs hP hD hS => ?_)
  have hP : va_P Dg classes (wL ao kl f ++ (wE a b u v ++ wP b k G ++ wM u k (if z = 0 then sRunM G M z n else M) ++ wM v k (if z = 0 then N else sRunM G N z n))) H := hP
  have hD : va_D (va_A (wL ao kl f ++ (wE a b u v ++ wP b k G ++ wM u k M ++ wM v k N)) s.heap.size) (wL ao kl f ++ (wE a b u v ++ wP b k G ++ wM u k (if z = 0 then sRunM G M z n else M) ++ wM v k (if z = 0 then N else sRunM G N z n))) := hD
  refine lv_i2l hx hb d_Law_run_8 rfl ?_
  refine va_last hx hb hX.2 hP hD hS 0 0 rfl rfl (by unfold vp_in; decide) d_Law_run_9 (fun H locs hP hD hS => ?_)
  refine lv_goto (tgt := 17) hx hb d_Law_run_10 (by decide) ?_
  refine lv_iconst (v := 0) hx hb d_Law_run_17 (by decide) ?_
  refine W.widen (k := 1) (n := 6) (Nat.le_of_ble_eq_true rfl) (Nat.le_of_ble_eq_true rfl) ?_
  exact kl_i F hlocks hret hP hD hS d_Law_run_18 rfl rfl

set_option maxRecDepth 100000 in
set_option maxHeartbeats 4000000 in
theorem e_Law_run_IS (l : Launch) (hl0 : l.stackTraces = false) (Dg : va_G) (a b u v : Nat → Nat) (k : Nat → ClassId) (G M N : vSt) (ao : Nat) (kl : ClassId) (f : Nat → Int64) (q vB B : Nat) (z n : Int32) (H : Heap) (hP : va_P Dg classes (wL ao kl f ++ (wE a b u v ++ wP b k G ++ wM u k M ++ wM v k N)) H) (hD : va_D (fun _ => True) (wL ao kl f ++ (wE a b u v ++ wP b k G ++ wM u k M ++ wM v k N))) (hz : ¬ z = 0) (hfu : G 5 1 = 0) : kLi l y_Law_run b_Law_run 5 [(0, 10, 13, 15)] 7 150 [.ref (a 0), .int z, .int n, .ref ao] H (lX Dg k kl q vB B H) Dg (wL ao kl f ++ (wE a b u v ++ wP b k G ++ wM u k M ++ wM v k N)) (wL ao kl f ++ (wE a b u v ++ wP b k G ++ wM u k M ++ wM v k N)) 1 := by
  refine k_ofW (by decide) (Nat.le_of_ble_eq_true rfl) ?_
  intro p e s m below meth cd ls F hlocks hret hex hh hX hl
  subst hh
  obtain ⟨hx, hb, hml, hown, hT⟩ := id F
  have hK : va_K Dg classes (kTy k) s := hX.1.1
  have hA : ∀ q : Nat, s.heap.size ≤ q → va_A (wL ao kl f ++ (wE a b u v ++ wP b k G ++ wM u k M ++ wM v k N)) s.heap.size q := fun q h => Or.inr h
  have hD := hD.self (sz := s.heap.size)
  have hS : va_S (va_A (wL ao kl f ++ (wE a b u v ++ wP b k G ++ wM u k M ++ wM v k N)) s.heap.size) s.heap s.heap [] := va_S.rf
  have hl : lv_has ls 5 [(0, .ref (a 0)), (1, .int z), (2, .int n), (3, .ref ao)] := hl
  refine lv_aload_n hx hb d_Law_run_0 rfl (lv_at hl 3 rfl) ?_
  refine lv_iconst (v := 0) hx hb d_Law_run_1 (by decide) ?_
  refine lv_aload_n hx hb d_Law_run_2 rfl (lv_at hl 0 rfl) ?_
  refine lv_iload_n hx hb d_Law_run_3 rfl (lv_at hl 1 rfl) ?_
  refine lv_iload_n hx hb d_Law_run_4 rfl (lv_at hl 2 rfl) ?_
  refine kt_V F (t_Eng_run_IS l hl0 Dg a b u v k G M N B z n _ (hP.sub (ws' := (wE a b u v ++ wP b k G ++ wM u k M ++ wM v k N)) [1, 2, 3, 4, 5, 6, 7, 8, 9, 10, 11, 12, 13, 14, 15, 16, 17] rfl) hz hfu) tX_m ⟨hX.1.1, hX.1.2.1⟩ kw_Law_26 tw2_140 tw2_141 (va_recv (ci := 0) (q0 := 1) hK hP rfl rfl) [] ⟨0, 10, 13, 15⟩ [] hex (by decide) (by decide) (nm := xIS) tw1_176 hX.1.2.1.1.2.2.2.1 (fun z hz => absurd hz (by simp)) d_Law_run_5 ⟨⟨Nat.le_of_ble_eq_true rfl, Nat.le_of_ble_eq_true rfl⟩, Nat.le_of_ble_eq_true rfl, Nat.le_of_ble_eq_true rfl⟩ rfl hl.1 rfl (Nat.le_of_ble_eq_true rfl) (fun qx H hz9 hsame => ?_)
  have hP : va_P Dg classes (wL ao kl f ++ (wE a b u v ++ wP b k G ++ wM u k M ++ wM v k N)) H := hP.kept (fun j q hj => hsame q.1 ((hP j q hj).lt))
  have hS : va_S (va_A (wL ao kl f ++ (wE a b u v ++ wP b k G ++ wM u k M ++ wM v k N)) s.heap.size) s.heap H [] := ⟨hz9, fun q h1 _ => hsame q h1, hS.2.2⟩
  refine lv_astore hx hb d_Law_run_13 hl (by decide) rfl (fun ls hl => ?_)
  refine lv_iconst (v := 1) hx hb d_Law_run_15 (by decide) ?_
  exact kl_i F hlocks hret hP hD hS d_Law_run_16 rfl rfl

set_option maxRecDepth 100000 in
set_option maxHeartbeats 4000000 in
theorem n_Law_stack (l : Launch) (Dg : va_G) (a b u v : Nat → Nat) (k : Nat → ClassId) (G M N : vSt) (ao : Nat) (kl : ClassId) (f : Nat → Int64) (q vB B : Nat) (z i : Int32) (H : Heap) (hP : va_P Dg classes (wL ao kl f ++ (wE a b u v ++ wP b k G ++ wM u k M ++ wM v k N)) H) (hD : va_D (fun _ => True) (wL ao kl f ++ (wE a b u v ++ wP b k G ++ wM u k M ++ wM v k N))) (h0 : ¬ i < 0) (h1 : i < (if z = 0 then M else N) 4 0) (hin : vp_in i 40) : kLi l y_Law_stack b_Law_stack 5 [(0, 10, 13, 21)] 7 150 [.ref (a 0), .int z, .int i, .ref ao] H (lX Dg k kl q vB B H) Dg (wL ao kl f ++ (wE a b u v ++ wP b k G ++ wM u k M ++ wM v k N)) (wL ao kl (vp_updL f 0 (Int32.toInt64 ((if z = 0 then M else N) 0 i.toNatClampNeg))) ++ (wE a b u v ++ wP b k G ++ wM u k M ++ wM v k N)) 0 := by
  refine k_ofW (by decide) (Nat.le_of_ble_eq_true rfl) ?_
  intro p e s m below meth cd ls F hlocks hret hex hh hX hl
  subst hh
  obtain ⟨hx, hb, hml, hown, hT⟩ := id F
  have hK : va_K Dg classes (kTy k) s := hX.1.1
  have hA : ∀ q : Nat, s.heap.size ≤ q → va_A (wL ao kl f ++ (wE a b u v ++ wP b k G ++ wM u k M ++ wM v k N)) s.heap.size q := fun q h => Or.inr h
  have hD := hD.self (sz := s.heap.size)
  have hS : va_S (va_A (wL ao kl f ++ (wE a b u v ++ wP b k G ++ wM u k M ++ wM v k N)) s.heap.size) s.heap s.heap [] := va_S.rf
  have hl : lv_has ls 5 [(0, .ref (a 0)), (1, .int z), (2, .int i), (3, .ref ao)] := hl
  refine lv_aload_n hx hb d_Law_stack_0 rfl (lv_at hl 3 rfl) ?_
  refine lv_iconst (v := 0) hx hb d_Law_stack_1 (by decide) ?_
  refine lv_aload_n hx hb d_Law_stack_2 rfl (lv_at hl 0 rfl) ?_
  refine lv_iload_n hx hb d_Law_stack_3 rfl (lv_at hl 1 rfl) ?_
  refine lv_iload_n hx hb d_Law_stack_4 rfl (lv_at hl 2 rfl) ?_
  refine kp_V F (c_Eng_stack l Dg a b u v k G M N z i _ (hP.sub (ws' := (wE a b u v ++ wP b k G ++ wM u k M ++ wM v k N)) [1, 2, 3, 4, 5, 6, 7, 8, 9, 10, 11, 12, 13, 14, 15, 16, 17] rfl) h0 h1 hin) kx_K hX.1.1 kw_Law_30 tw2_196 tw2_197 (va_recv (ci := 0) (q0 := 1) hK hP rfl rfl) hS d_Law_stack_5 ⟨⟨Nat.le_of_ble_eq_true rfl, Nat.le_of_ble_eq_true rfl⟩, Nat.le_of_ble_eq_true rfl, Nat.le_of_ble_eq_true rfl⟩ rfl hl.1 rfl (Nat.le_of_ble_eq_true rfl) (fun locs hS => ?_)
  refine lv_i2l hx hb d_Law_stack_8 rfl ?_
  refine va_last hx hb hX.2 hP hD hS 0 0 rfl rfl (by unfold vp_in; decide) d_Law_stack_9 (fun H locs hP hD hS => ?_)
  refine lv_goto (tgt := 17) hx hb d_Law_stack_10 (by decide) ?_
  refine lv_iconst (v := 0) hx hb d_Law_stack_17 (by decide) ?_
  refine W.widen (k := 1) (n := 6) (Nat.le_of_ble_eq_true rfl) (Nat.le_of_ble_eq_true rfl) ?_
  exact kl_i F hlocks hret hP hD hS d_Law_stack_18 rfl rfl

set_option maxRecDepth 100000 in
set_option maxHeartbeats 4000000 in
theorem e_Law_stack_NS (l : Launch) (hl0 : l.stackTraces = false) (Dg : va_G) (a b u v : Nat → Nat) (k : Nat → ClassId) (G M N : vSt) (ao : Nat) (kl : ClassId) (f : Nat → Int64) (q vB B : Nat) (z i : Int32) (H : Heap) (hP : va_P Dg classes (wL ao kl f ++ (wE a b u v ++ wP b k G ++ wM u k M ++ wM v k N)) H) (hD : va_D (fun _ => True) (wL ao kl f ++ (wE a b u v ++ wP b k G ++ wM u k M ++ wM v k N))) (hno : i < 0 ∨ ¬ i < (if z = 0 then M else N) 4 0) : kLi l y_Law_stack b_Law_stack 5 [(0, 10, 13, 21)] 7 150 [.ref (a 0), .int z, .int i, .ref ao] H (lX Dg k kl q vB B H) Dg (wL ao kl f ++ (wE a b u v ++ wP b k G ++ wM u k M ++ wM v k N)) (wL ao kl f ++ (wE a b u v ++ wP b k G ++ wM u k M ++ wM v k N)) 1 := by
  refine k_ofW (by decide) (Nat.le_of_ble_eq_true rfl) ?_
  intro p e s m below meth cd ls F hlocks hret hex hh hX hl
  subst hh
  obtain ⟨hx, hb, hml, hown, hT⟩ := id F
  have hK : va_K Dg classes (kTy k) s := hX.1.1
  have hA : ∀ q : Nat, s.heap.size ≤ q → va_A (wL ao kl f ++ (wE a b u v ++ wP b k G ++ wM u k M ++ wM v k N)) s.heap.size q := fun q h => Or.inr h
  have hD := hD.self (sz := s.heap.size)
  have hS : va_S (va_A (wL ao kl f ++ (wE a b u v ++ wP b k G ++ wM u k M ++ wM v k N)) s.heap.size) s.heap s.heap [] := va_S.rf
  have hl : lv_has ls 5 [(0, .ref (a 0)), (1, .int z), (2, .int i), (3, .ref ao)] := hl
  refine lv_aload_n hx hb d_Law_stack_0 rfl (lv_at hl 3 rfl) ?_
  refine lv_iconst (v := 0) hx hb d_Law_stack_1 (by decide) ?_
  refine lv_aload_n hx hb d_Law_stack_2 rfl (lv_at hl 0 rfl) ?_
  refine lv_iload_n hx hb d_Law_stack_3 rfl (lv_at hl 1 rfl) ?_
  refine lv_iload_n hx hb d_Law_stack_4 rfl (lv_at hl 2 rfl) ?_
  refine kt_V F (t_Eng_stack_NS l hl0 Dg a b u v k G M N B z i _ (hP.sub (ws' := (wE a b u v ++ wP b k G ++ wM u k M ++ wM v k N)) [1, 2, 3, 4, 5, 6, 7, 8, 9, 10, 11, 12, 13, 14, 15, 16, 17] rfl) hno) tX_m ⟨hX.1.1, hX.1.2.1⟩ kw_Law_30 tw2_196 tw2_197 (va_recv (ci := 0) (q0 := 1) hK hP rfl rfl) [] ⟨0, 10, 13, 21⟩ [] hex (by decide) (by decide) (nm := xNS) tw2_100 hX.1.2.1.1.2.2.2.2.1 (fun z hz => absurd hz (by simp)) d_Law_stack_5 ⟨⟨Nat.le_of_ble_eq_true rfl, Nat.le_of_ble_eq_true rfl⟩, Nat.le_of_ble_eq_true rfl, Nat.le_of_ble_eq_true rfl⟩ rfl hl.1 rfl (Nat.le_of_ble_eq_true rfl) (fun qx H hz9 hsame => ?_)
  have hP : va_P Dg classes (wL ao kl f ++ (wE a b u v ++ wP b k G ++ wM u k M ++ wM v k N)) H := hP.kept (fun j q hj => hsame q.1 ((hP j q hj).lt))
  have hS : va_S (va_A (wL ao kl f ++ (wE a b u v ++ wP b k G ++ wM u k M ++ wM v k N)) s.heap.size) s.heap H [] := ⟨hz9, fun q h1 _ => hsame q h1, hS.2.2⟩
  refine lv_astore hx hb d_Law_stack_13 hl (by decide) rfl (fun ls hl => ?_)
  refine lv_iconst (v := 1) hx hb d_Law_stack_15 (by decide) ?_
  exact kl_i F hlocks hret hP hD hS d_Law_stack_16 rfl rfl

set_option maxRecDepth 100000 in
set_option maxHeartbeats 4000000 in
theorem n_Law_local (l : Launch) (Dg : va_G) (a b u v : Nat → Nat) (k : Nat → ClassId) (G M N : vSt) (ao : Nat) (kl : ClassId) (f : Nat → Int64) (q vB B : Nat) (z i : Int32) (H : Heap) (hP : va_P Dg classes (wL ao kl f ++ (wE a b u v ++ wP b k G ++ wM u k M ++ wM v k N)) H) (hD : va_D (fun _ => True) (wL ao kl f ++ (wE a b u v ++ wP b k G ++ wM u k M ++ wM v k N))) (h0 : ¬ i < 0) (h1 : i < 8) (hin : vp_in i 8) : kLi l y_Law_local b_Law_local 5 [(0, 10, 13, 21)] 7 150 [.ref (a 0), .int z, .int i, .ref ao] H (lX Dg k kl q vB B H) Dg (wL ao kl f ++ (wE a b u v ++ wP b k G ++ wM u k M ++ wM v k N)) (wL ao kl (vp_updL f 0 (Int32.toInt64 ((if z = 0 then M else N) 1 i.toNatClampNeg))) ++ (wE a b u v ++ wP b k G ++ wM u k M ++ wM v k N)) 0 := by
  refine k_ofW (by decide) (Nat.le_of_ble_eq_true rfl) ?_
  intro p e s m below meth cd ls F hlocks hret hex hh hX hl
  subst hh
  obtain ⟨hx, hb, hml, hown, hT⟩ := id F
  have hK : va_K Dg classes (kTy k) s := hX.1.1
  have hA : ∀ q : Nat, s.heap.size ≤ q → va_A (wL ao kl f ++ (wE a b u v ++ wP b k G ++ wM u k M ++ wM v k N)) s.heap.size q := fun q h => Or.inr h
  have hD := hD.self (sz := s.heap.size)
  have hS : va_S (va_A (wL ao kl f ++ (wE a b u v ++ wP b k G ++ wM u k M ++ wM v k N)) s.heap.size) s.heap s.heap [] := va_S.rf
  have hl : lv_has ls 5 [(0, .ref (a 0)), (1, .int z), (2, .int i), (3, .ref ao)] := hl
  refine lv_aload_n hx hb d_Law_local_0 rfl (lv_at hl 3 rfl) ?_
  refine lv_iconst (v := 0) hx hb d_Law_local_1 (by decide) ?_
  refine lv_aload_n hx hb d_Law_local_2 rfl (lv_at hl 0 rfl) ?_
  refine lv_iload_n hx hb d_Law_local_3 rfl (lv_at hl 1 rfl) ?_
  refine lv_iload_n hx hb d_Law_local_4 rfl (lv_at hl 2 rfl) ?_
  refine kp_V F (c_Eng_local l Dg a b u v k G M N z i _ (hP.sub (ws' := (wE a b u v ++ wP b k G ++ wM u k M ++ wM v k N)) [1, 2, 3, 4, 5, 6, 7, 8, 9, 10, 11, 12, 13, 14, 15, 16, 17] rfl) h0 h1 hin) kx_K hX.1.1 kw_Law_33 tw2_204 tw2_205 (va_recv (ci := 0) (q0 := 1) hK hP rfl rfl) hS d_Law_local_5 ⟨⟨Nat.le_of_ble_eq_true rfl, Nat.le_of_ble_eq_true rfl⟩, Nat.le_of_ble_eq_true rfl, Nat.le_of_ble_eq_true rfl⟩ rfl hl.1 rfl (Nat.le_of_ble_eq_true rfl) (fun locs hS => ?_)
  refine lv_i2l hx hb d_Law_local_8 rfl ?_
  refine va_last hx hb hX.2 hP hD hS 0 0 rfl rfl (by unfold vp_in; decide) d_Law_local_9 (fun H locs hP hD hS => ?_)
  refine lv_goto (tgt := 17) hx hb d_Law_local_10 (by decide) ?_
  refine lv_iconst (v := 0) hx hb d_Law_local_17 (by decide) ?_
  refine W.widen (k := 1) (n := 6) (Nat.le_of_ble_eq_true rfl) (Nat.le_of_ble_eq_true rfl) ?_
  exact kl_i F hlocks hret hP hD hS d_Law_local_18 rfl rfl

set_option maxRecDepth 100000 in
set_option maxHeartbeats 4000000 in
theorem e_Law_local_NS (l : Launch) (hl0 : l.stackTraces = false) (Dg : va_G) (a b u v : Nat → Nat) (k : Nat → ClassId) (G M N : vSt) (ao : Nat) (kl : ClassId) (f : Nat → Int64) (q vB B : Nat) (z i : Int32) (H : Heap) (hP : va_P Dg classes (wL ao kl f ++ (wE a b u v ++ wP b k G ++ wM u k M ++ wM v k N)) H) (hD : va_D (fun _ => True) (wL ao kl f ++ (wE a b u v ++ wP b k G ++ wM u k M ++ wM v k N))) (hno : i < 0 ∨ ¬ i < 8) : kLi l y_Law_local b_Law_local 5 [(0, 10, 13, 21)] 7 150 [.ref (a 0), .int z, .int i, .ref ao] H (lX Dg k kl q vB B H) Dg (wL ao kl f ++ (wE a b u v ++ wP b k G ++ wM u k M ++ wM v k N)) (wL ao kl f ++ (wE a b u v ++ wP b k G ++ wM u k M ++ wM v k N)) 1 := by
  refine k_ofW (by decide) (Nat.le_of_ble_eq_true rfl) ?_
  intro p e s m below meth cd ls F hlocks hret hex hh hX hl
  subst hh
  obtain ⟨hx, hb, hml, hown, hT⟩ := id F
  have hK : va_K Dg classes (kTy k) s := hX.1.1
  have hA : ∀ q : Nat, s.heap.size ≤ q → va_A (wL ao kl f ++ (wE a b u v ++ wP b k G ++ wM u k M ++ wM v k N)) s.heap.size q := fun q h => Or.inr h
  have hD := hD.self (sz := s.heap.size)
  have hS : va_S (va_A (wL ao kl f ++ (wE a b u v ++ wP b k G ++ wM u k M ++ wM v k N)) s.heap.size) s.heap s.heap [] := va_S.rf
  have hl : lv_has ls 5 [(0, .ref (a 0)), (1, .int z), (2, .int i), (3, .ref ao)] := hl
  refine lv_aload_n hx hb d_Law_local_0 rfl (lv_at hl 3 rfl) ?_
  refine lv_iconst (v := 0) hx hb d_Law_local_1 (by decide) ?_
  refine lv_aload_n hx hb d_Law_local_2 rfl (lv_at hl 0 rfl) ?_
  refine lv_iload_n hx hb d_Law_local_3 rfl (lv_at hl 1 rfl) ?_
  refine lv_iload_n hx hb d_Law_local_4 rfl (lv_at hl 2 rfl) ?_
  refine kt_V F (t_Eng_local_NS l hl0 Dg a b u v k G M N B z i _ (hP.sub (ws' := (wE a b u v ++ wP b k G ++ wM u k M ++ wM v k N)) [1, 2, 3, 4, 5, 6, 7, 8, 9, 10, 11, 12, 13, 14, 15, 16, 17] rfl) hno) tX_m ⟨hX.1.1, hX.1.2.1⟩ kw_Law_33 tw2_204 tw2_205 (va_recv (ci := 0) (q0 := 1) hK hP rfl rfl) [] ⟨0, 10, 13, 21⟩ [] hex (by decide) (by decide) (nm := xNS) tw2_100 hX.1.2.1.1.2.2.2.2.1 (fun z hz => absurd hz (by simp)) d_Law_local_5 ⟨⟨Nat.le_of_ble_eq_true rfl, Nat.le_of_ble_eq_true rfl⟩, Nat.le_of_ble_eq_true rfl, Nat.le_of_ble_eq_true rfl⟩ rfl hl.1 rfl (Nat.le_of_ble_eq_true rfl) (fun qx H hz9 hsame => ?_)
  have hP : va_P Dg classes (wL ao kl f ++ (wE a b u v ++ wP b k G ++ wM u k M ++ wM v k N)) H := hP.kept (fun j q hj => hsame q.1 ((hP j q hj).lt))
  have hS : va_S (va_A (wL ao kl f ++ (wE a b u v ++ wP b k G ++ wM u k M ++ wM v k N)) s.heap.size) s.heap H [] := ⟨hz9, fun q h1 _ => hsame q h1, hS.2.2⟩
  refine lv_astore hx hb d_Law_local_13 hl (by decide) rfl (fun ls hl => ?_)
  refine lv_iconst (v := 1) hx hb d_Law_local_15 (by decide) ?_
  exact kl_i F hlocks hret hP hD hS d_Law_local_16 rfl rfl

set_option maxRecDepth 100000 in
set_option maxHeartbeats 4000000 in
theorem n_Law_out (l : Launch) (Dg : va_G) (a b u v : Nat → Nat) (k : Nat → ClassId) (G M N : vSt) (ao : Nat) (kl : ClassId) (f : Nat → Int64) (q vB B : Nat) (z i : Int32) (H : Heap) (hP : va_P Dg classes (wL ao kl f ++ (wE a b u v ++ wP b k G ++ wM u k M ++ wM v k N)) H) (hD : va_D (fun _ => True) (wL ao kl f ++ (wE a b u v ++ wP b k G ++ wM u k M ++ wM v k N))) (h0 : ¬ i < 0) (h1 : i < sMin ((if z = 0 then M else N) 4 2) 60) (hin : vp_in i 60) : kLi l y_Law_out b_Law_out 5 [(0, 10, 13, 21)] 7 150 [.ref (a 0), .int z, .int i, .ref ao] H (lX Dg k kl q vB B H) Dg (wL ao kl f ++ (wE a b u v ++ wP b k G ++ wM u k M ++ wM v k N)) (wL ao kl (vp_updL f 0 (Int32.toInt64 ((if z = 0 then M else N) 2 i.toNatClampNeg))) ++ (wE a b u v ++ wP b k G ++ wM u k M ++ wM v k N)) 0 := by
  refine k_ofW (by decide) (Nat.le_of_ble_eq_true rfl) ?_
  intro p e s m below meth cd ls F hlocks hret hex hh hX hl
  subst hh
  obtain ⟨hx, hb, hml, hown, hT⟩ := id F
  have hK : va_K Dg classes (kTy k) s := hX.1.1
  have hA : ∀ q : Nat, s.heap.size ≤ q → va_A (wL ao kl f ++ (wE a b u v ++ wP b k G ++ wM u k M ++ wM v k N)) s.heap.size q := fun q h => Or.inr h
  have hD := hD.self (sz := s.heap.size)
  have hS : va_S (va_A (wL ao kl f ++ (wE a b u v ++ wP b k G ++ wM u k M ++ wM v k N)) s.heap.size) s.heap s.heap [] := va_S.rf
  have hl : lv_has ls 5 [(0, .ref (a 0)), (1, .int z), (2, .int i), (3, .ref ao)] := hl
  refine lv_aload_n hx hb d_Law_out_0 rfl (lv_at hl 3 rfl) ?_
  refine lv_iconst (v := 0) hx hb d_Law_out_1 (by decide) ?_
  refine lv_aload_n hx hb d_Law_out_2 rfl (lv_at hl 0 rfl) ?_
  refine lv_iload_n hx hb d_Law_out_3 rfl (lv_at hl 1 rfl) ?_
  refine lv_iload_n hx hb d_Law_out_4 rfl (lv_at hl 2 rfl) ?_
  refine kp_V F (c_Eng_out l Dg a b u v k G M N z i _ (hP.sub (ws' := (wE a b u v ++ wP b k G ++ wM u k M ++ wM v k N)) [1, 2, 3, 4, 5, 6, 7, 8, 9, 10, 11, 12, 13, 14, 15, 16, 17] rfl) h0 h1 hin) kx_K hX.1.1 kw_Law_36 tw2_212 tw2_213 (va_recv (ci := 0) (q0 := 1) hK hP rfl rfl) hS d_Law_out_5 ⟨⟨Nat.le_of_ble_eq_true rfl, Nat.le_of_ble_eq_true rfl⟩, Nat.le_of_ble_eq_true rfl, Nat.le_of_ble_eq_true rfl⟩ rfl hl.1 rfl (Nat.le_of_ble_eq_true rfl) (fun locs hS => ?_)
  refine lv_i2l hx hb d_Law_out_8 rfl ?_
  refine va_last hx hb hX.2 hP hD hS 0 0 rfl rfl (by unfold vp_in; decide) d_Law_out_9 (fun H locs hP hD hS => ?_)
  refine lv_goto (tgt := 17) hx hb d_Law_out_10 (by decide) ?_
  refine lv_iconst (v := 0) hx hb d_Law_out_17 (by decide) ?_
  refine W.widen (k := 1) (n := 6) (Nat.le_of_ble_eq_true rfl) (Nat.le_of_ble_eq_true rfl) ?_
  exact kl_i F hlocks hret hP hD hS d_Law_out_18 rfl rfl

set_option maxRecDepth 100000 in
set_option maxHeartbeats 4000000 in
theorem e_Law_out_NS (l : Launch) (hl0 : l.stackTraces = false) (Dg : va_G) (a b u v : Nat → Nat) (k : Nat → ClassId) (G M N : vSt) (ao : Nat) (kl : ClassId) (f : Nat → Int64) (q vB B : Nat) (z i : Int32) (H : Heap) (hP : va_P Dg classes (wL ao kl f ++ (wE a b u v ++ wP b k G ++ wM u k M ++ wM v k N)) H) (hD : va_D (fun _ => True) (wL ao kl f ++ (wE a b u v ++ wP b k G ++ wM u k M ++ wM v k N))) (hno : i < 0 ∨ ¬ i < sMin ((if z = 0 then M else N) 4 2) 60) : kLi l y_Law_out b_Law_out 5 [(0, 10, 13, 21)] 7 150 [.ref (a 0), .int z, .int i, .ref ao] H (lX Dg k kl q vB B H) Dg (wL ao kl f ++ (wE a b u v ++ wP b k G ++ wM u k M ++ wM v k N)) (wL ao kl f ++ (wE a b u v ++ wP b k G ++ wM u k M ++ wM v k N)) 1 := by
  refine k_ofW (by decide) (Nat.le_of_ble_eq_true rfl) ?_
  intro p e s m below meth cd ls F hlocks hret hex hh hX hl
  subst hh
  obtain ⟨hx, hb, hml, hown, hT⟩ := id F
  have hK : va_K Dg classes (kTy k) s := hX.1.1
  have hA : ∀ q : Nat, s.heap.size ≤ q → va_A (wL ao kl f ++ (wE a b u v ++ wP b k G ++ wM u k M ++ wM v k N)) s.heap.size q := fun q h => Or.inr h
  have hD := hD.self (sz := s.heap.size)
  have hS : va_S (va_A (wL ao kl f ++ (wE a b u v ++ wP b k G ++ wM u k M ++ wM v k N)) s.heap.size) s.heap s.heap [] := va_S.rf
  have hl : lv_has ls 5 [(0, .ref (a 0)), (1, .int z), (2, .int i), (3, .ref ao)] := hl
  refine lv_aload_n hx hb d_Law_out_0 rfl (lv_at hl 3 rfl) ?_
  refine lv_iconst (v := 0) hx hb d_Law_out_1 (by decide) ?_
  refine lv_aload_n hx hb d_Law_out_2 rfl (lv_at hl 0 rfl) ?_
  refine lv_iload_n hx hb d_Law_out_3 rfl (lv_at hl 1 rfl) ?_
  refine lv_iload_n hx hb d_Law_out_4 rfl (lv_at hl 2 rfl) ?_
  refine kt_V F (t_Eng_out_NS l hl0 Dg a b u v k G M N B z i _ (hP.sub (ws' := (wE a b u v ++ wP b k G ++ wM u k M ++ wM v k N)) [1, 2, 3, 4, 5, 6, 7, 8, 9, 10, 11, 12, 13, 14, 15, 16, 17] rfl) hno) tX_m ⟨hX.1.1, hX.1.2.1⟩ kw_Law_36 tw2_212 tw2_213 (va_recv (ci := 0) (q0 := 1) hK hP rfl rfl) [] ⟨0, 10, 13, 21⟩ [] hex (by decide) (by decide) (nm := xNS) tw2_100 hX.1.2.1.1.2.2.2.2.1 (fun z hz => absurd hz (by simp)) d_Law_out_5 ⟨⟨Nat.le_of_ble_eq_true rfl, Nat.le_of_ble_eq_true rfl⟩, Nat.le_of_ble_eq_true rfl, Nat.le_of_ble_eq_true rfl⟩ rfl hl.1 rfl (Nat.le_of_ble_eq_true rfl) (fun qx H hz9 hsame => ?_)
  have hP : va_P Dg classes (wL ao kl f ++ (wE a b u v ++ wP b k G ++ wM u k M ++ wM v k N)) H := hP.kept (fun j q hj => hsame q.1 ((hP j q hj).lt))
  have hS : va_S (va_A (wL ao kl f ++ (wE a b u v ++ wP b k G ++ wM u k M ++ wM v k N)) s.heap.size) s.heap H [] := ⟨hz9, fun q h1 _ => hsame q h1, hS.2.2⟩
  refine lv_astore hx hb d_Law_out_13 hl (by decide) rfl (fun ls hl => ?_)
  refine lv_iconst (v := 1) hx hb d_Law_out_15 (by decide) ?_
  exact kl_i F hlocks hret hP hD hS d_Law_out_16 rfl rfl
