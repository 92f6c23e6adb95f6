def w100 (cy : Nat → ClassId) (h0 h1 h2 h3 h4 h5 h6 h7 h8 h9 : Nat) : va_W := [(h0, .inr (9, [.ref h1, .ref h2, .ref h3, .null, .int 0, .ref h4, .int 0, .int 0, .int 0, .ref h5, .ref h6, .ref h7, .int 0, .int 0, .int 0, .ref h8, .ref h9])), (h1, .inl (cy 0, 559, .inl (fun _ => 0))), (h5, .inl (cy 0, 10, .inl (fun _ => 0)))]
set_option maxHeartbeats 4000000 in
set_option maxRecDepth 100000 in
theorem c100_X10_operator (l : Launch) (D : va_G) (cy : Nat → ClassId) (h0 h1 h2 h3 h4 h5 h6 h7 h8 h9 : Nat) (sz : Nat) : Met l yX10_operator (Cond.code yX10_operator cX10_operator 3 (some .int) :: GT) ({ frames := 4, cells := 0, slots := 0, locals := 90 }) (gN D cy (w100 cy h0 h1 h2 h3 h4 h5 h6 h7 h8 h9) [.ref h0] sz) (va_Qi (fun (r : Int32) (_ : Unit) => r = (-10)) (fun _ _ => True) (va_A (w100 cy h0 h1 h2 h3 h4 h5 h6 h7 h8 h9) sz)) 0 0 (va_A (w100 cy h0 h1 h2 h3 h4 h5 h6 h7 h8 h9) sz) := by
  refine Met.ofW (cc := cX10_operator) (maxL := 3) (ret := some .int) (by decide) rfl ?_
  intro p e s m args below meth c s₁ B hml hv
  obtain ⟨rfl, hsz, hP, hK, hD0⟩ := hv
  have hx := B.exec
  have hb := B.bytes
  have hr := B.returns
  have hts := atoms_spec (ws := (Cond.code yX10_operator cX10_operator 3 (some .int) :: GT)) B.pre
  have ht : ∀ w ∈ GT, w.before _ s = true := fun w h => hts w (List.mem_cons_of_mem _ h)
  have hown : s.vm.findClass RX10 = some m.cls := findClass_of_methodNamed B.named
  have hlocks := B.notSynchronized
  subst hsz
  have hD := hD0.self (sz := s.heap.size)
  generalize hAe : va_A (w100 cy h0 h1 h2 h3 h4 h5 h6 h7 h8 h9) s.heap.size = A at hD ⊢
  have hA : ∀ q : Nat, s.heap.size ≤ q → A q := fun q h => by rw [← hAe]; exact Or.inr h
  have hS : va_S A s.heap s.heap [] := va_S.rf
  have hD : va_D A ([(h0, .inr (9, [.ref h1, .ref h2, .ref h3, .null, .int 0, .ref h4, .int 0, .int 0, .int 0, .ref h5, .ref h6, .ref h7, .int 0, .int 0, .int 0, .ref h8, .ref h9])), (h1, .inl (cy 0, 559, .inl (fun _ => 0))), (h5, .inl (cy 0, 10, .inl (fun _ => 0)))]) := hD
  have hP : va_P D classes ([(h0, .inr (9, [.ref h1, .ref h2, .ref h3, .null, .int 0, .ref h4, .int 0, .int 0, .int 0, .ref h5, .ref h6, .ref h7, .int 0, .int 0, .int 0, .ref h8, .ref h9])), (h1, .inl (cy 0, 559, .inl (fun _ => 0))), (h5, .inl (cy 0, 10, .inl (fun _ => 0)))]) s.heap := hP
  have hl := lv_entry ([.ref h0]) (n := 3) (Nat.le_of_ble_eq_true rfl)
  rw [lg_entry_eq]
  generalize (lg_sl ([.ref h0]) ++ List.replicate (3 - (lg_sl ([.ref h0])).length) Slot.unset).toArray = ls at hl ⊢
  have hl : lv_has ls 3 [(0, .ref h0)] := hl
  refine lv_aload_n hx hb dX10_operator_0 rfl (lv_at hl 0 rfl) ?_
  refine va_get (D := D) (ci := 9) (v := .ref h1) (C := RX10) (T := TX10) (N := 17) hx hb hts i_X10 hown hK.1 hP 0 rfl rfl 0 (by decide) (ht _ kt_849) (fun _ h9 => h9) rfl dX10_operator_1 ?_
  refine lv_iconst (v := 2) hx hb dX10_operator_4 (by decide) ?_
  refine va_iald hx hb hK.1 hP 1 0 rfl rfl (vin (by decide)) dX10_operator_5 ?_
  refine lz_i 0 rfl ?_
  refine lv_bipush (v := 12) hx hb dX10_operator_6 (by decide) ?_
  refine lv_icmp_ne (tgt := 14) hx hb dX10_operator_8 (by decide) (fun _ => ?_) (fun c1 => absurd c1 (by decide))
  refine lv_aload_n hx hb dX10_operator_14 rfl (lv_at hl 0 rfl) ?_
  refine lv_aload_n hx hb dX10_operator_15 rfl (lv_at hl 0 rfl) ?_
  refine va_get (D := D) (ci := 9) (v := .ref h1) (C := RX10) (T := TX10) (N := 17) hx hb hts i_X10 hown hK.1 hP 0 rfl rfl 0 (by decide) (ht _ kt_849) (fun _ h9 => h9) rfl dX10_operator_16 ?_
  refine lv_bipush (v := 7) hx hb dX10_operator_19 (by decide) ?_
  refine va_iald hx hb hK.1 hP 1 0 rfl rfl (vin (by decide)) dX10_operator_21 ?_
  refine lz_i 0 rfl ?_
  refine va_put (D := D) (ci := 9) (v := .int 0) (ty := .int) (C := RX10) (T := TX10) (N := 17) hx hb hts i_X10 tyX10 tyX10_ok nmX10 hown hK.1 hP hD hS 0 rfl rfl 6 (by decide) (ht _ kt_855) (fun _ h9 => h9) rfl (by decide +kernel) rfl rfl (Nat.le_of_ble_eq_true rfl) dX10_operator_22 (fun H locs hP hD hS => ?_)
  have hP : va_P D classes ([(h0, .inr (9, [.ref h1, .ref h2, .ref h3, .null, .int 0, .ref h4, .int 0, .int 0, .int 0, .ref h5, .ref h6, .ref h7, .int 0, .int 0, .int 0, .ref h8, .ref h9])), (h1, .inl (cy 0, 559, .inl (fun _ => 0))), (h5, .inl (cy 0, 10, .inl (fun _ => 0)))]) H := hP
  have hD : va_D A ([(h0, .inr (9, [.ref h1, .ref h2, .ref h3, .null, .int 0, .ref h4, .int 0, .int 0, .int 0, .ref h5, .ref h6, .ref h7, .int 0, .int 0, .int 0, .ref h8, .ref h9])), (h1, .inl (cy 0, 559, .inl (fun _ => 0))), (h5, .inl (cy 0, 10, .inl (fun _ => 0)))]) := hD
  refine lv_aload_n hx hb dX10_operator_25 rfl (lv_at hl 0 rfl) ?_
  refine va_get (D := D) (ci := 9) (v := .ref h1) (C := RX10) (T := TX10) (N := 17) hx hb hts i_X10 hown hK.1 hP 0 rfl rfl 0 (by decide) (ht _ kt_849) (fun _ h9 => h9) rfl dX10_operator_26 ?_
  refine lv_bipush (v := 7) hx hb dX10_operator_29 (by decide) ?_
  refine lv_iconst (v := 0) hx hb dX10_operator_31 (by decide) ?_
  refine va_iast hx hb hK.1 hP hD hS 1 0 rfl rfl (vin (by decide)) dX10_operator_32 (fun H locs hP hD hS => ?_)
  rw [upd_zero] at hP hD
  have hP : va_P D classes ([(h0, .inr (9, [.ref h1, .ref h2, .ref h3, .null, .int 0, .ref h4, .int 0, .int 0, .int 0, .ref h5, .ref h6, .ref h7, .int 0, .int 0, .int 0, .ref h8, .ref h9])), (h1, .inl (cy 0, 559, .inl (fun _ => 0))), (h5, .inl (cy 0, 10, .inl (fun _ => 0)))]) H := hP
  have hD : va_D A ([(h0, .inr (9, [.ref h1, .ref h2, .ref h3, .null, .int 0, .ref h4, .int 0, .int 0, .int 0, .ref h5, .ref h6, .ref h7, .int 0, .int 0, .int 0, .ref h8, .ref h9])), (h1, .inl (cy 0, 559, .inl (fun _ => 0))), (h5, .inl (cy 0, 10, .inl (fun _ => 0)))]) := hD
  refine lv_aload_n hx hb dX10_operator_33 rfl (lv_at hl 0 rfl) ?_
  have hPc := hP.sub (ws' := (w99 cy h0 h1 h2 h3 h4 h5 h6 h7 h8 h9)) [0, 2] rfl
  have hDc := hD.sub (ws' := (w99 cy h0 h1 h2 h3 h4 h5 h6 h7 h8 h9)) [0, 2] (by decide +kernel) rfl
  have hFc := va_free (wc := (w99 cy h0 h1 h2 h3 h4 h5 h6 h7 h8 h9)) hD hS hA [0, 2] rfl
  refine va_callv (va_runV (As := []) (rest := []) ⟨hx, hb, hml, hown, hts⟩ (c99_X10_readText l D cy h0 h1 h2 h3 h4 h5 h6 h7 h8 h9 H.size) (cwV 0 hts (gt_V kt_968 kt_970 kp_33 kt_8 kt_971) rfl rfl rfl (by decide +kernel) ⟨Nat.le_of_ble_eq_true rfl, Nat.le_of_ble_eq_true rfl⟩) (gN_V hK hPc hDc hP (ci := 9) (q0 := 0) rfl rfl) rfl rfl hl.1 rfl (lv_room (Nat.le_of_ble_eq_true rfl)) dX10_operator_34 ⟨Nat.le_of_ble_eq_true rfl, Nat.le_of_ble_eq_true rfl⟩) hS (fun q _ h => hFc q h) hFc (fun u4 t H1 locs ht2 hvm hw3 hB hz1 hk1 hS => ?_)
  obtain ⟨hP1, hD1⟩ := hB
  rw [ht2] at hP1
  obtain ⟨hP, hD⟩ := va_join (wr := ([(h1, .inl (cy 0, 559, .inl (fun _ => 0)))] : va_W)) (w1 := (vw99 cy h0 h1 h2 h3 h4 h5 h6 h7 h8 h9 u4)) hP hD [0, 2] [1] rfl rfl (by decide +kernel) (by decide +kernel) hk1 hFc hP1 hD1
  generalize H1 = H at hP hS ⊢
  have hP : va_P D classes ([(h1, .inl (cy 0, 559, .inl (fun _ => 0))), (h0, .inr (9, [.ref h1, .ref h2, .ref h3, .null, .int 0, .ref h4, .int 0, .int 0, .int 1, .ref h5, .ref h6, .ref h7, .int 0, .int 0, .int 0, .ref h8, .ref h9])), (h5, .inl (cy 0, 10, .inl (upd (fun _ => 0) 5 (-147))))]) H := hP
  have hD : va_D A ([(h1, .inl (cy 0, 559, .inl (fun _ => 0))), (h0, .inr (9, [.ref h1, .ref h2, .ref h3, .null, .int 0, .ref h4, .int 0, .int 0, .int 1, .ref h5, .ref h6, .ref h7, .int 0, .int 0, .int 0, .ref h8, .ref h9])), (h5, .inl (cy 0, 10, .inl (upd (fun _ => 0) 5 (-147))))]) := hD
  refine W.widen (k := 0) (n := 0) (Nat.le_of_ble_eq_true rfl) (Nat.le_of_ble_eq_true rfl) ?_
  refine lv_aload_n hx hb dX10_operator_37 rfl (lv_at hl 0 rfl) ?_
  refine va_get (D := D) (ci := 9) (v := .int 1) (C := RX10) (T := TX10) (N := 17) hx hb hts i_X10 hown hK.1 hP 1 rfl rfl 8 (by decide) (ht _ kt_857) (fun _ h9 => h9) rfl dX10_operator_38 ?_
  refine lv_if_eq (tgt := 52) hx hb dX10_operator_41 (by decide) (fun c5 => absurd c5 (by decide)) (fun _ => ?_)
  refine lv_bipush (v := (-10)) hx hb dX10_operator_44 (by decide) ?_
  refine lv_aload_n hx hb dX10_operator_46 rfl (lv_at hl 0 rfl) ?_
  refine va_get (D := D) (ci := 9) (v := .int 0) (C := RX10) (T := TX10) (N := 17) hx hb hts i_X10 hown hK.1 hP 1 rfl rfl 7 (by decide) (ht _ kt_856) (fun _ h9 => h9) rfl dX10_operator_47 ?_
  refine lv_isub hx hb dX10_operator_50 ?_
  refine lz_i (-10) (by decide) ?_
  refine W.widen (k := 0) (n := 0) (Nat.le_of_ble_eq_true rfl) (Nat.le_of_ble_eq_true rfl) ?_
  exact W.iret (v := (-10)) hx hb hr (fun t ht2 hW => ⟨⟨(-10), (), rfl, rfl, trivial⟩, hS.F ht2⟩) hS.2.2 dX10_operator_51
def w101 (cy : Nat → ClassId) (h0 h1 h2 h3 h4 h5 h6 h7 h8 h9 : Nat) (i0 : Int32) : va_W := [(h0, .inr (9, [.ref h1, .ref h2, .ref h3, .null, .int 0, .ref h4, .int 0, .int 0, .int 0, .ref h5, .ref h6, .ref h7, .int 0, .int 0, .int 0, .ref h8, .ref h9])), (h1, .inl (cy 0, 559, .inl (fun _ => 0)))]
set_option maxHeartbeats 4000000 in
set_option maxRecDepth 100000 in
theorem c101_X10_isOperator (l : Launch) (D : va_G) (cy : Nat → ClassId) (h0 h1 h2 h3 h4 h5 h6 h7 h8 h9 : Nat) (i0 : Int32) : Met l yX10_isOperator (Cond.code yX10_isOperator cX10_isOperator 2 (some .boolean) :: GT) ({ frames := 1, cells := 0, slots := 0, locals := 22 }) (gP D cy (w101 cy h0 h1 h2 h3 h4 h5 h6 h7 h8 h9 i0) [.ref h0, .int i0]) (vp_Si (fun r => r = 0)) 0 0 (fun _ => False) := by
  refine Met.ofW (cc := cX10_isOperator) (maxL := 2) (ret := some .boolean) (by decide) rfl ?_
  intro p e s m args below meth c s₁ B hml hv
  obtain ⟨rfl, hP, hK⟩ := hv
  have hx := B.exec
  have hb := B.bytes
  have hr := B.returns
  have hts := atoms_spec (ws := (Cond.code yX10_isOperator cX10_isOperator 2 (some .boolean) :: GT)) B.pre
  have ht : ∀ w ∈ GT, w.before _ s = true := fun w h => hts w (List.mem_cons_of_mem _ h)
  have hown : s.vm.findClass RX10 = some m.cls := findClass_of_methodNamed B.named
  have hlocks := B.notSynchronized
  have hP : va_P D classes ([(h0, .inr (9, [.ref h1, .ref h2, .ref h3, .null, .int 0, .ref h4, .int 0, .int 0, .int 0, .ref h5, .ref h6, .ref h7, .int 0, .int 0, .int 0, .ref h8, .ref h9])), (h1, .inl (cy 0, 559, .inl (fun _ => 0)))]) s.heap := hP
  have hl := lv_entry ([.ref h0, .int i0]) (n := 2) (Nat.le_of_ble_eq_true rfl)
  rw [lg_entry_eq]
  generalize (lg_sl ([.ref h0, .int i0]) ++ List.replicate (2 - (lg_sl ([.ref h0, .int i0])).length) Slot.unset).toArray = ls at hl ⊢
  have hl : lv_has ls 2 [(0, .ref h0), (1, .int i0)] := hl
  refine lv_iload_n hx hb dX10_isOperator_0 rfl (lv_at hl 1 rfl) ?_
  refine lv_iconst (v := 0) hx hb dX10_isOperator_1 (by decide) ?_
  refine lv_aload_n hx hb dX10_isOperator_2 rfl (lv_at hl 0 rfl) ?_
  refine va_get (D := D) (ci := 9) (v := .ref h1) (C := RX10) (T := TX10) (N := 17) hx hb hts i_X10 hown hK.1 hP 0 rfl rfl 0 (by decide) (ht _ kt_849) (fun _ h9 => h9) rfl dX10_isOperator_3 ?_
  refine lv_iconst (v := 2) hx hb dX10_isOperator_6 (by decide) ?_
  refine va_iald hx hb hK.1 hP 1 0 rfl rfl (vin (by decide)) dX10_isOperator_7 ?_
  refine lz_i 0 rfl ?_
  refine lv_iconst (v := 1) hx hb dX10_isOperator_8 (by decide) ?_
  refine lv_isub hx hb dX10_isOperator_9 ?_
  refine lz_i (-1) (by decide) ?_
  refine vp_callSi (va_Run.run (va_runS (As := [.int i0, .int 0, .int (-1)]) (rest := []) ⟨hx, hb, hml, hown, hts⟩ (c83_X10_in l D cy i0) (va_cwS 3 hts (gt_S kt_905 kt_906 kt_8 kt_907) rfl rfl rfl (by decide +kernel) ⟨Nat.le_of_ble_eq_true rfl, Nat.le_of_ble_eq_true rfl⟩) (gP_S hK (hP.sub (ws' := (w83 cy i0)) [] rfl)) rfl rfl hl.1 rfl (lv_room (Nat.le_of_ble_eq_true rfl)) dX10_isOperator_10 ⟨Nat.le_of_ble_eq_true rfl, Nat.le_of_ble_eq_true rfl⟩)) (fun r1 hw2 => ?_)
  obtain rfl : r1 = 0 := hw2
  exact W.zret (v := 0) hx hb hr rfl (fun t ht2 hW => ⟨0, rfl, rfl, ht2⟩) (fun q h => by cases h) dX10_isOperator_13
def w102 (cy : Nat → ClassId) (h0 h1 h2 h3 h4 h5 h6 h7 h8 h9 : Nat) (i0 : Int32) : va_W := [(h0, .inr (9, [.ref h1, .ref h2, .ref h3, .null, .int 0, .ref h4, .int 0, .int 0, .int 0, .ref h5, .ref h6, .ref h7, .int 0, .int 0, .int 0, .ref h8, .ref h9])), (h1, .inl (cy 0, 559, .inl (fun _ => 0)))]
set_option maxHeartbeats 4000000 in
set_option maxRecDepth 100000 in
theorem c102_X10_remove (l : Launch) (D : va_G) (cy : Nat → ClassId) (h0 h1 h2 h3 h4 h5 h6 h7 h8 h9 : Nat) (i0 : Int32) : Met l yX10_remove (Cond.code yX10_remove cX10_remove 2 (some .int) :: GT) ({ frames := 2, cells := 0, slots := 0, locals := 43 }) (gP D cy (w102 cy h0 h1 h2 h3 h4 h5 h6 h7 h8 h9 i0) [.ref h0, .int i0]) (vp_Si (fun r => r = (-1))) 0 0 (fun _ => False) := by
  refine Met.ofW (cc := cX10_remove) (maxL := 2) (ret := some .int) (by decide) rfl ?_
  intro p e s m args below meth c s₁ B hml hv
  obtain ⟨rfl, hP, hK⟩ := hv
  have hx := B.exec
  have hb := B.bytes
  have hr := B.returns
  have hts := atoms_spec (ws := (Cond.code yX10_remove cX10_remove 2 (some .int) :: GT)) B.pre
  have ht : ∀ w ∈ GT, w.before _ s = true := fun w h => hts w (List.mem_cons_of_mem _ h)
  have hown : s.vm.findClass RX10 = some m.cls := findClass_of_methodNamed B.named
  have hlocks := B.notSynchronized
  have hP : va_P D classes ([(h0, .inr (9, [.ref h1, .ref h2, .ref h3, .null, .int 0, .ref h4, .int 0, .int 0, .int 0, .ref h5, .ref h6, .ref h7, .int 0, .int 0, .int 0, .ref h8, .ref h9])), (h1, .inl (cy 0, 559, .inl (fun _ => 0)))]) s.heap := hP
  have hl := lv_entry ([.ref h0, .int i0]) (n := 2) (Nat.le_of_ble_eq_true rfl)
  rw [lg_entry_eq]
  generalize (lg_sl ([.ref h0, .int i0]) ++ List.replicate (2 - (lg_sl ([.ref h0, .int i0])).length) Slot.unset).toArray = ls at hl ⊢
  have hl : lv_has ls 2 [(0, .ref h0), (1, .int i0)] := hl
  refine lv_aload_n hx hb dX10_remove_0 rfl (lv_at hl 0 rfl) ?_
  refine lv_iload_n hx hb dX10_remove_1 rfl (lv_at hl 1 rfl) ?_
  refine vp_callSi (va_Run.run (va_runV (As := [.int i0]) (rest := []) ⟨hx, hb, hml, hown, hts⟩ (c101_X10_isOperator l D cy h0 h1 h2 h3 h4 h5 h6 h7 h8 h9 i0) (cwV 1 hts (gt_V kt_1017 kt_1019 kp_44 kt_8 kt_1020) rfl rfl rfl (by decide +kernel) ⟨Nat.le_of_ble_eq_true rfl, Nat.le_of_ble_eq_true rfl⟩) (gP_V hK (hP.sub (ws' := (w101 cy h0 h1 h2 h3 h4 h5 h6 h7 h8 h9 i0)) [0, 1] rfl) hP (ci := 9) (q0 := 0) rfl rfl) rfl rfl hl.1 rfl (lv_room (Nat.le_of_ble_eq_true rfl)) dX10_remove_2 ⟨Nat.le_of_ble_eq_true rfl, Nat.le_of_ble_eq_true rfl⟩)) (fun r1 hw2 => ?_)
  obtain rfl : r1 = 0 := hw2
  refine lv_if_ne (tgt := 10) hx hb dX10_remove_5 (by decide) (fun c3 => absurd c3 (by decide)) (fun _ => ?_)
  refine lv_iconst (v := (-1)) hx hb dX10_remove_8 (by decide) ?_
  exact W.iret (v := (-1)) hx hb hr (fun t ht2 hW => ⟨(-1), rfl, rfl, ht2⟩) (fun q h => by cases h) dX10_remove_9
def w103 (cy : Nat → ClassId) (i0 : Int32) : va_W := []
set_option maxHeartbeats 4000000 in
set_option maxRecDepth 100000 in
theorem c103_X10_in (l : Launch) (D : va_G) (cy : Nat → ClassId) (i0 : Int32) : Met l yX10_in (Cond.code yX10_in cX10_in 3 (some .boolean) :: GT) ({ frames := 0, cells := 0, slots := 0, locals := 0 }) (gP D cy (w103 cy i0) [.int i0, .int 0, .int 4]) (vp_Si (fun r => (i0.toInt < 0 ∧ r = 0) ∨ (¬ i0.toInt < 0 ∧ 4 < i0.toInt ∧ r = 0) ∨ (¬ i0.toInt < 0 ∧ ¬ 4 < i0.toInt ∧ r = 1))) 0 0 (fun _ => False) := by
  refine Met.ofW (cc := cX10_in) (maxL := 3) (ret := some .boolean) (by decide) rfl ?_
  intro p e s m args below meth c s₁ B hml hv
  obtain ⟨rfl, hP, hK⟩ := hv
  have hx := B.exec
  have hb := B.bytes
  have hr := B.returns
  have hts := atoms_spec (ws := (Cond.code yX10_in cX10_in 3 (some .boolean) :: GT)) B.pre
  have ht : ∀ w ∈ GT, w.before _ s = true := fun w h => hts w (List.mem_cons_of_mem _ h)
  have hown : s.vm.findClass RX10 = some m.cls := findClass_of_methodNamed B.named
  have hlocks := B.notSynchronized
  have hP : va_P D classes ([]) s.heap := hP
  have hl := lv_entry ([.int i0, .int 0, .int 4]) (n := 3) (Nat.le_of_ble_eq_true rfl)
  rw [lg_entry_eq]
  generalize (lg_sl ([.int i0, .int 0, .int 4]) ++ List.replicate (3 - (lg_sl ([.int i0, .int 0, .int 4])).length) Slot.unset).toArray = ls at hl ⊢
  have hl : lv_has ls 3 [(0, .int i0), (1, .int 0), (2, .int 4)] := hl
  refine lv_iload_n hx hb dX10_in_0 rfl (lv_at hl 0 rfl) ?_
  refine lv_iload_n hx hb dX10_in_1 rfl (lv_at hl 1 rfl) ?_
  refine lv_icmp_lt (tgt := 14) hx hb dX10_in_2 (by decide) (fun c1 => ?_) (fun c1 => ?_)
  · have c1 : i0.toInt < 0 := i_lt c1 rfl rfl
    refine lv_iconst (v := 0) hx hb dX10_in_14 (by decide) ?_
    exact W.zret (v := 0) hx hb hr rfl (fun t ht2 hW => ⟨0, rfl, (Or.inl ⟨c1, rfl⟩), ht2⟩) (fun q h => by cases h) dX10_in_15
  · have c1 : ¬ i0.toInt < 0 := i_nlt c1 rfl rfl
    refine lv_iload_n hx hb dX10_in_5 rfl (lv_at hl 0 rfl) ?_
    refine lv_iload_n hx hb dX10_in_6 rfl (lv_at hl 2 rfl) ?_
    refine lv_icmp_gt (tgt := 14) hx hb dX10_in_7 (by decide) (fun c2 => ?_) (fun c2 => ?_)
    · have c2 : 4 < i0.toInt := i_lt c2 rfl rfl
      refine lv_iconst (v := 0) hx hb dX10_in_14 (by decide) ?_
      exact W.zret (v := 0) hx hb hr rfl (fun t ht2 hW => ⟨0, rfl, (Or.inr (Or.inl ⟨c1, c2, rfl⟩)), ht2⟩) (fun q h => by cases h) dX10_in_15
    · have c2 : ¬ 4 < i0.toInt := i_nlt c2 rfl rfl
      refine lv_iconst (v := 1) hx hb dX10_in_10 (by decide) ?_
      refine lv_goto (tgt := 15) hx hb dX10_in_11 (by decide) ?_
      exact W.zret (v := 1) hx hb hr rfl (fun t ht2 hW => ⟨1, rfl, (Or.inr (Or.inr (⟨c1, c2, rfl⟩))), ht2⟩) (fun q h => by cases h) dX10_in_15
def w104 (cy : Nat → ClassId) (h0 h1 h2 h3 h4 h5 h6 h7 h8 h9 : Nat) (i0 : Int32) : va_W := [(h0, .inr (9, [.ref h1, .ref h2, .ref h3, .null, .int 0, .ref h4, .int 0, .int 0, .int 0, .ref h5, .ref h6, .ref h7, .int 0, .int 0, .int 0, .ref h8, .ref h9])), (h1, .inl (cy 0, 559, .inl (fun _ => 0)))]
set_option maxHeartbeats 4000000 in
set_option maxRecDepth 100000 in
theorem c104_X10_policy (l : Launch) (D : va_G) (cy : Nat → ClassId) (h0 h1 h2 h3 h4 h5 h6 h7 h8 h9 : Nat) (i0 : Int32) (sz : Nat) : Met l yX10_policy (Cond.code yX10_policy cX10_policy 3 (some .int) :: GT) ({ frames := 1, cells := 0, slots := 0, locals := 22 }) (gN D cy (w104 cy h0 h1 h2 h3 h4 h5 h6 h7 h8 h9 i0) [.ref h0, .int i0] sz) (va_Qi (fun (r : Int32) (_ : Unit) => (i0.toInt < 0 ∧ r = (-2)) ∨ (¬ i0.toInt < 0 ∧ 4 < i0.toInt ∧ r = (-2)) ∨ (¬ i0.toInt < 0 ∧ ¬ 4 < i0.toInt ∧ r = 0)) (fun _ _ => True) (va_A (w104 cy h0 h1 h2 h3 h4 h5 h6 h7 h8 h9 i0) sz)) 0 0 (va_A (w104 cy h0 h1 h2 h3 h4 h5 h6 h7 h8 h9 i0) sz) := by
  refine Met.ofW (cc := cX10_policy) (maxL := 3) (ret := some .int) (by decide) rfl ?_
  intro p e s m args below meth c s₁ B hml hv
  obtain ⟨rfl, hsz, hP, hK, hD0⟩ := hv
  have hx := B.exec
  have hb := B.bytes
  have hr := B.returns
  have hts := atoms_spec (ws := (Cond.code yX10_policy cX10_policy 3 (some .int) :: GT)) B.pre
  have ht : ∀ w ∈ GT, w.before _ s = true := fun w h => hts w (List.mem_cons_of_mem _ h)
  have hown : s.vm.findClass RX10 = some m.cls := findClass_of_methodNamed B.named
  have hlocks := B.notSynchronized
  subst hsz
  have hD := hD0.self (sz := s.heap.size)
  generalize hAe : va_A (w104 cy h0 h1 h2 h3 h4 h5 h6 h7 h8 h9 i0) s.heap.size = A at hD ⊢
  have hA : ∀ q : Nat, s.heap.size ≤ q → A q := fun q h => by rw [← hAe]; exact Or.inr h
  have hS : va_S A s.heap s.heap [] := va_S.rf
  have hD : va_D A ([(h0, .inr (9, [.ref h1, .ref h2, .ref h3, .null, .int 0, .ref h4, .int 0, .int 0, .int 0, .ref h5, .ref h6, .ref h7, .int 0, .int 0, .int 0, .ref h8, .ref h9])), (h1, .inl (cy 0, 559, .inl (fun _ => 0)))]) := hD
  have hP : va_P D classes ([(h0, .inr (9, [.ref h1, .ref h2, .ref h3, .null, .int 0, .ref h4, .int 0, .int 0, .int 0, .ref h5, .ref h6, .ref h7, .int 0, .int 0, .int 0, .ref h8, .ref h9])), (h1, .inl (cy 0, 559, .inl (fun _ => 0)))]) s.heap := hP
  have hl := lv_entry ([.ref h0, .int i0]) (n := 3) (Nat.le_of_ble_eq_true rfl)
  rw [lg_entry_eq]
  generalize (lg_sl ([.ref h0, .int i0]) ++ List.replicate (3 - (lg_sl ([.ref h0, .int i0])).length) Slot.unset).toArray = ls at hl ⊢
  have hl : lv_has ls 3 [(0, .ref h0), (1, .int i0)] := hl
  refine lv_iload_n hx hb dX10_policy_0 rfl (lv_at hl 1 rfl) ?_
  refine lv_iconst (v := 0) hx hb dX10_policy_1 (by decide) ?_
  refine lv_iconst (v := 4) hx hb dX10_policy_2 (by decide) ?_
  refine vp_callSi (va_Run.run (va_runS (As := [.int i0, .int 0, .int 4]) (rest := []) ⟨hx, hb, hml, hown, hts⟩ (c103_X10_in l D cy i0) (va_cwS 3 hts (gt_S kt_905 kt_906 kt_8 kt_907) rfl rfl rfl (by decide +kernel) ⟨Nat.le_of_ble_eq_true rfl, Nat.le_of_ble_eq_true rfl⟩) (gP_S hK (hP.sub (ws' := (w103 cy i0)) [] rfl)) rfl rfl hl.1 rfl (lv_room (Nat.le_of_ble_eq_true rfl)) dX10_policy_3 ⟨Nat.le_of_ble_eq_true rfl, Nat.le_of_ble_eq_true rfl⟩)) (fun r1 hw2 => ?_)
  rcases hw2 with ⟨c3, rfl⟩ | ⟨c4, c5, rfl⟩ | ⟨c6, c7, rfl⟩
  · skip
    refine lv_if_ne (tgt := 12) hx hb dX10_policy_6 (by decide) (fun c8 => absurd c8 (by decide)) (fun _ => ?_)
    refine lv_bipush (v := (-2)) hx hb dX10_policy_9 (by decide) ?_
    refine W.widen (k := 0) (n := 0) (Nat.le_of_ble_eq_true rfl) (Nat.le_of_ble_eq_true rfl) ?_
    exact W.iret (v := (-2)) hx hb hr (fun t ht2 hW => ⟨⟨(-2), (), rfl, (Or.inl ⟨c3, rfl⟩), trivial⟩, hS.F ht2⟩) hS.2.2 dX10_policy_11
  · skip
    refine lv_if_ne (tgt := 12) hx hb dX10_policy_6 (by decide) (fun c9 => absurd c9 (by decide)) (fun _ => ?_)
    refine lv_bipush (v := (-2)) hx hb dX10_policy_9 (by decide) ?_
    refine W.widen (k := 0) (n := 0) (Nat.le_of_ble_eq_true rfl) (Nat.le_of_ble_eq_true rfl) ?_
    exact W.iret (v := (-2)) hx hb hr (fun t ht2 hW => ⟨⟨(-2), (), rfl, (Or.inr (Or.inl ⟨c4, c5, rfl⟩)), trivial⟩, hS.F ht2⟩) hS.2.2 dX10_policy_11
  · skip
    refine lv_if_ne (tgt := 12) hx hb dX10_policy_6 (by decide) (fun _ => ?_) (fun c10 => absurd c10 (by decide))
    refine lv_aload_n hx hb dX10_policy_12 rfl (lv_at hl 0 rfl) ?_
    refine va_get (D := D) (ci := 9) (v := .ref h1) (C := RX10) (T := TX10) (N := 17) hx hb hts i_X10 hown hK.1 hP 0 rfl rfl 0 (by decide) (ht _ kt_849) (fun _ h9 => h9) rfl dX10_policy_13 ?_
    refine lv_iconst (v := 5) hx hb dX10_policy_16 (by decide) ?_
    refine va_iald hx hb hK.1 hP 1 0 rfl rfl (vin (by decide)) dX10_policy_17 ?_
    refine lz_i 0 rfl ?_
    refine lv_istore_n (lv' := [(2, .int 0), (0, .ref h0), (1, .int i0)]) hx hb dX10_policy_18 rfl hl (by decide) rfl (fun ls hl => ?_)
    refine lv_aload_n hx hb dX10_policy_19 rfl (lv_at hl 1 rfl) ?_
    refine va_get (D := D) (ci := 9) (v := .ref h1) (C := RX10) (T := TX10) (N := 17) hx hb hts i_X10 hown hK.1 hP 0 rfl rfl 0 (by decide) (ht _ kt_849) (fun _ h9 => h9) rfl dX10_policy_20 ?_
    refine lv_iconst (v := 5) hx hb dX10_policy_23 (by decide) ?_
    refine lv_iload_n hx hb dX10_policy_24 rfl (lv_at hl 2 rfl) ?_
    refine va_iast hx hb hK.1 hP hD hS 1 0 rfl rfl (vin (by decide)) dX10_policy_25 (fun H locs hP hD hS => ?_)
    have hP : va_P D classes ([(h0, .inr (9, [.ref h1, .ref h2, .ref h3, .null, .int 0, .ref h4, .int 0, .int 0, .int 0, .ref h5, .ref h6, .ref h7, .int 0, .int 0, .int 0, .ref h8, .ref h9])), (h1, .inl (cy 0, 559, .inl (upd (fun _ => 0) 5 i0)))]) H := hP
    have hD : va_D A ([(h0, .inr (9, [.ref h1, .ref h2, .ref h3, .null, .int 0, .ref h4, .int 0, .int 0, .int 0, .ref h5, .ref h6, .ref h7, .int 0, .int 0, .int 0, .ref h8, .ref h9])), (h1, .inl (cy 0, 559, .inl (upd (fun _ => 0) 5 i0)))]) := hD
    refine lv_iload_n hx hb dX10_policy_26 rfl (lv_at hl 0 rfl) ?_
    refine W.widen (k := 0) (n := 0) (Nat.le_of_ble_eq_true rfl) (Nat.le_of_ble_eq_true rfl) ?_
    exact W.iret (v := 0) hx hb hr (fun t ht2 hW => ⟨⟨0, (), rfl, (Or.inr (Or.inr (⟨c6, c7, rfl⟩))), trivial⟩, hS.F ht2⟩) hS.2.2 dX10_policy_27
def w105 (cy : Nat → ClassId) (i0 : Int32) : va_W := []
set_option maxHeartbeats 4000000 in
set_option maxRecDepth 100000 in
theorem c105_X10_in (l : Launch) (D : va_G) (cy : Nat → ClassId) (i0 : Int32) : Met l yX10_in (Cond.code yX10_in cX10_in 3 (some .boolean) :: GT) ({ frames := 0, cells := 0, slots := 0, locals := 0 }) (gP D cy (w105 cy i0) [.int i0, .int 0, .int 1]) (vp_Si (fun r => (i0.toInt < 0 ∧ r = 0) ∨ (¬ i0.toInt < 0 ∧ 1 < i0.toInt ∧ r = 0) ∨ (¬ i0.toInt < 0 ∧ ¬ 1 < i0.toInt ∧ r = 1))) 0 0 (fun _ => False) := by
  refine Met.ofW (cc := cX10_in) (maxL := 3) (ret := some .boolean) (by decide) rfl ?_
  intro p e s m args below meth c s₁ B hml hv
  obtain ⟨rfl, hP, hK⟩ := hv
  have hx := B.exec
  have hb := B.bytes
  have hr := B.returns
  have hts := atoms_spec (ws := (Cond.code yX10_in cX10_in 3 (some .boolean) :: GT)) B.pre
  have ht : ∀ w ∈ GT, w.before _ s = true := fun w h => hts w (List.mem_cons_of_mem _ h)
  have hown : s.vm.findClass RX10 = some m.cls := findClass_of_methodNamed B.named
  have hlocks := B.notSynchronized
  have hP : va_P D classes ([]) s.heap := hP
  have hl := lv_entry ([.int i0, .int 0, .int 1]) (n := 3) (Nat.le_of_ble_eq_true rfl)
  rw [lg_entry_eq]
  generalize (lg_sl ([.int i0, .int 0, .int 1]) ++ List.replicate (3 - (lg_sl ([.int i0, .int 0, .int 1])).length) Slot.unset).toArray = ls at hl ⊢
  have hl : lv_has ls 3 [(0, .int i0), (1, .int 0), (2, .int 1)] := hl
  refine lv_iload_n hx hb dX10_in_0 rfl (lv_at hl 0 rfl) ?_
  refine lv_iload_n hx hb dX10_in_1 rfl (lv_at hl 1 rfl) ?_
  refine lv_icmp_lt (tgt := 14) hx hb dX10_in_2 (by decide) (fun c1 => ?_) (fun c1 => ?_)
  · have c1 : i0.toInt < 0 := i_lt c1 rfl rfl
    refine lv_iconst (v := 0) hx hb dX10_in_14 (by decide) ?_
    exact W.zret (v := 0) hx hb hr rfl (fun t ht2 hW => ⟨0, rfl, (Or.inl ⟨c1, rfl⟩), ht2⟩) (fun q h => by cases h) dX10_in_15
  · have c1 : ¬ i0.toInt < 0 := i_nlt c1 rfl rfl
    refine lv_iload_n hx hb dX10_in_5 rfl (lv_at hl 0 rfl) ?_
    refine lv_iload_n hx hb dX10_in_6 rfl (lv_at hl 2 rfl) ?_
    refine lv_icmp_gt (tgt := 14) hx hb dX10_in_7 (by decide) (fun c2 => ?_) (fun c2 => ?_)
    · have c2 : 1 < i0.toInt := i_lt c2 rfl rfl
      refine lv_iconst (v := 0) hx hb dX10_in_14 (by decide) ?_
      exact W.zret (v := 0) hx hb hr rfl (fun t ht2 hW => ⟨0, rfl, (Or.inr (Or.inl ⟨c1, c2, rfl⟩)), ht2⟩) (fun q h => by cases h) dX10_in_15
    · have c2 : ¬ 1 < i0.toInt := i_nlt c2 rfl rfl
      refine lv_iconst (v := 1) hx hb dX10_in_10 (by decide) ?_
      refine lv_goto (tgt := 15) hx hb dX10_in_11 (by decide) ?_
      exact W.zret (v := 1) hx hb hr rfl (fun t ht2 hW => ⟨1, rfl, (Or.inr (Or.inr (⟨c1, c2, rfl⟩))), ht2⟩) (fun q h => by cases h) dX10_in_15
def w106 (cy : Nat → ClassId) (h0 h1 h2 h3 h4 h5 h6 h7 h8 h9 : Nat) (i0 : Int32) : va_W := [(h0, .inr (9, [.ref h1, .ref h2, .ref h3, .null, .int 0, .ref h4, .int 0, .int 0, .int 0, .ref h5, .ref h6, .ref h7, .int 0, .int 0, .int 0, .ref h8, .ref h9])), (h1, .inl (cy 0, 559, .inl (fun _ => 0)))]
set_option maxHeartbeats 4000000 in
set_option maxRecDepth 100000 in
theorem c106_X10_discipline (l : Launch) (D : va_G) (cy : Nat → ClassId) (h0 h1 h2 h3 h4 h5 h6 h7 h8 h9 : Nat) (i0 : Int32) (sz : Nat) : Met l yX10_discipline (Cond.code yX10_discipline cX10_discipline 3 (some .int) :: GT) ({ frames := 1, cells := 0, slots := 0, locals := 22 }) (gN D cy (w106 cy h0 h1 h2 h3 h4 h5 h6 h7 h8 h9 i0) [.ref h0, .int i0] sz) (va_Qi (fun (r : Int32) (_ : Unit) => (i0.toInt < 0 ∧ r = (-2)) ∨ (¬ i0.toInt < 0 ∧ 1 < i0.toInt ∧ r = (-2)) ∨ (¬ i0.toInt < 0 ∧ ¬ 1 < i0.toInt ∧ r = 0)) (fun _ _ => True) (va_A (w106 cy h0 h1 h2 h3 h4 h5 h6 h7 h8 h9 i0) sz)) 0 0 (va_A (w106 cy h0 h1 h2 h3 h4 h5 h6 h7 h8 h9 i0) sz) := by
  refine Met.ofW (cc := cX10_discipline) (maxL := 3) (ret := some .int) (by decide) rfl ?_
  intro p e s m args below meth c s₁ B hml hv
  obtain ⟨rfl, hsz, hP, hK, hD0⟩ := hv
  have hx := B.exec
  have hb := B.bytes
  have hr := B.returns
  have hts := atoms_spec (ws := (Cond.code yX10_discipline cX10_discipline 3 (some .int) :: GT)) B.pre
  have ht : ∀ w ∈ GT, w.before _ s = true := fun w h => hts w (List.mem_cons_of_mem _ h)
  have hown : s.vm.findClass RX10 = some m.cls := findClass_of_methodNamed B.named
  have hlocks := B.notSynchronized
  subst hsz
  have hD := hD0.self (sz := s.heap.size)
  generalize hAe : va_A (w106 cy h0 h1 h2 h3 h4 h5 h6 h7 h8 h9 i0) s.heap.size = A at hD ⊢
  have hA : ∀ q : Nat, s.heap.size ≤ q → A q := fun q h => by rw [← hAe]; exact Or.inr h
  have hS : va_S A s.heap s.heap [] := va_S.rf
  have hD : va_D A ([(h0, .inr (9, [.ref h1, .ref h2, .ref h3, .null, .int 0, .ref h4, .int 0, .int 0, .int 0, .ref h5, .ref h6, .ref h7, .int 0, .int 0, .int 0, .ref h8, .ref h9])), (h1, .inl (cy 0, 559, .inl (fun _ => 0)))]) := hD
  have hP : va_P D classes ([(h0, .inr (9, [.ref h1, .ref h2, .ref h3, .null, .int 0, .ref h4, .int 0, .int 0, .int 0, .ref h5, .ref h6, .ref h7, .int 0, .int 0, .int 0, .ref h8, .ref h9])), (h1, .inl (cy 0, 559, .inl (fun _ => 0)))]) s.heap := hP
  have hl := lv_entry ([.ref h0, .int i0]) (n := 3) (Nat.le_of_ble_eq_true rfl)
  rw [lg_entry_eq]
  generalize (lg_sl ([.ref h0, .int i0]) ++ List.replicate (3 - (lg_sl ([.ref h0, .int i0])).length) Slot.unset).toArray = ls at hl ⊢
  have hl : lv_has ls 3 [(0, .ref h0), (1, .int i0)] := hl
  refine lv_iload_n hx hb dX10_discipline_0 rfl (lv_at hl 1 rfl) ?_
  refine lv_iconst (v := 0) hx hb dX10_discipline_1 (by decide) ?_
  refine lv_iconst (v := 1) hx hb dX10_discipline_2 (by decide) ?_
  refine vp_callSi (va_Run.run (va_runS (As := [.int i0, .int 0, .int 1]) (rest := []) ⟨hx, hb, hml, hown, hts⟩ (c105_X10_in l D cy i0) (va_cwS 3 hts (gt_S kt_905 kt_906 kt_8 kt_907) rfl rfl rfl (by decide +kernel) ⟨Nat.le_of_ble_eq_true rfl, Nat.le_of_ble_eq_true rfl⟩) (gP_S hK (hP.sub (ws' := (w105 cy i0)) [] rfl)) rfl rfl hl.1 rfl (lv_room (Nat.le_of_ble_eq_true rfl)) dX10_discipline_3 ⟨Nat.le_of_ble_eq_true rfl, Nat.le_of_ble_eq_true rfl⟩)) (fun r1 hw2 => ?_)
  rcases hw2 with ⟨c3, rfl⟩ | ⟨c4, c5, rfl⟩ | ⟨c6, c7, rfl⟩
  · skip
    refine lv_if_ne (tgt := 12) hx hb dX10_discipline_6 (by decide) (fun c8 => absurd c8 (by decide)) (fun _ => ?_)
    refine lv_bipush (v := (-2)) hx hb dX10_discipline_9 (by decide) ?_
    refine W.widen (k := 0) (n := 0) (Nat.le_of_ble_eq_true rfl) (Nat.le_of_ble_eq_true rfl) ?_
    exact W.iret (v := (-2)) hx hb hr (fun t ht2 hW => ⟨⟨(-2), (), rfl, (Or.inl ⟨c3, rfl⟩), trivial⟩, hS.F ht2⟩) hS.2.2 dX10_discipline_11
  · skip
    refine lv_if_ne (tgt := 12) hx hb dX10_discipline_6 (by decide) (fun c9 => absurd c9 (by decide)) (fun _ => ?_)
    refine lv_bipush (v := (-2)) hx hb dX10_discipline_9 (by decide) ?_
    refine W.widen (k := 0) (n := 0) (Nat.le_of_ble_eq_true rfl) (Nat.le_of_ble_eq_true rfl) ?_
    exact W.iret (v := (-2)) hx hb hr (fun t ht2 hW => ⟨⟨(-2), (), rfl, (Or.inr (Or.inl ⟨c4, c5, rfl⟩)), trivial⟩, hS.F ht2⟩) hS.2.2 dX10_discipline_11
  · skip
    refine lv_if_ne (tgt := 12) hx hb dX10_discipline_6 (by decide) (fun _ => ?_) (fun c10 => absurd c10 (by decide))
    refine lv_aload_n hx hb dX10_discipline_12 rfl (lv_at hl 0 rfl) ?_
    refine va_get (D := D) (ci := 9) (v := .ref h1) (C := RX10) (T := TX10) (N := 17) hx hb hts i_X10 hown hK.1 hP 0 rfl rfl 0 (by decide) (ht _ kt_849) (fun _ h9 => h9) rfl dX10_discipline_13 ?_
    refine lv_bipush (v := 6) hx hb dX10_discipline_16 (by decide) ?_
    refine va_iald hx hb hK.1 hP 1 0 rfl rfl (vin (by decide)) dX10_discipline_18 ?_
    refine lz_i 0 rfl ?_
    refine lv_istore_n (lv' := [(2, .int 0), (0, .ref h0), (1, .int i0)]) hx hb dX10_discipline_19 rfl hl (by decide) rfl (fun ls hl => ?_)
    refine lv_aload_n hx hb dX10_discipline_20 rfl (lv_at hl 1 rfl) ?_
    refine va_get (D := D) (ci := 9) (v := .ref h1) (C := RX10) (T := TX10) (N := 17) hx hb hts i_X10 hown hK.1 hP 0 rfl rfl 0 (by decide) (ht _ kt_849) (fun _ h9 => h9) rfl dX10_discipline_21 ?_
    refine lv_bipush (v := 6) hx hb dX10_discipline_24 (by decide) ?_
    refine lv_iload_n hx hb dX10_discipline_26 rfl (lv_at hl 2 rfl) ?_
    refine va_iast hx hb hK.1 hP hD hS 1 0 rfl rfl (vin (by decide)) dX10_discipline_27 (fun H locs hP hD hS => ?_)
    have hP : va_P D classes ([(h0, .inr (9, [.ref h1, .ref h2, .ref h3, .null, .int 0, .ref h4, .int 0, .int 0, .int 0, .ref h5, .ref h6, .ref h7, .int 0, .int 0, .int 0, .ref h8, .ref h9])), (h1, .inl (cy 0, 559, .inl (upd (fun _ => 0) 6 i0)))]) H := hP
    have hD : va_D A ([(h0, .inr (9, [.ref h1, .ref h2, .ref h3, .null, .int 0, .ref h4, .int 0, .int 0, .int 0, .ref h5, .ref h6, .ref h7, .int 0, .int 0, .int 0, .ref h8, .ref h9])), (h1, .inl (cy 0, 559, .inl (upd (fun _ => 0) 6 i0)))]) := hD
    refine lv_iload_n hx hb dX10_discipline_28 rfl (lv_at hl 0 rfl) ?_
    refine W.widen (k := 0) (n := 0) (Nat.le_of_ble_eq_true rfl) (Nat.le_of_ble_eq_true rfl) ?_
    exact W.iret (v := 0) hx hb hr (fun t ht2 hW => ⟨⟨0, (), rfl, (Or.inr (Or.inr (⟨c6, c7, rfl⟩))), trivial⟩, hS.F ht2⟩) hS.2.2 dX10_discipline_29
def w107 (cy : Nat → ClassId) (i0 : Int32) : va_W := []
set_option maxHeartbeats 4000000 in
set_option maxRecDepth 100000 in
theorem c107_X10_in (l : Launch) (D : va_G) (cy : Nat → ClassId) (i0 : Int32) : Met l yX10_in (Cond.code yX10_in cX10_in 3 (some .boolean) :: GT) ({ frames := 0, cells := 0, slots := 0, locals := 0 }) (gP D cy (w107 cy i0) [.int i0, .int 1, .int 100]) (vp_Si (fun r => (i0.toInt < 1 ∧ r = 0) ∨ (¬ i0.toInt < 1 ∧ 100 < i0.toInt ∧ r = 0) ∨ (¬ i0.toInt < 1 ∧ ¬ 100 < i0.toInt ∧ r = 1))) 0 0 (fun _ => False) := by
  refine Met.ofW (cc := cX10_in) (maxL := 3) (ret := some .boolean) (by decide) rfl ?_
  intro p e s m args below meth c s₁ B hml hv
  obtain ⟨rfl, hP, hK⟩ := hv
  have hx := B.exec
  have hb := B.bytes
  have hr := B.returns
  have hts := atoms_spec (ws := (Cond.code yX10_in cX10_in 3 (some .boolean) :: GT)) B.pre
  have ht : ∀ w ∈ GT, w.before _ s = true := fun w h => hts w (List.mem_cons_of_mem _ h)
  have hown : s.vm.findClass RX10 = some m.cls := findClass_of_methodNamed B.named
  have hlocks := B.notSynchronized
  have hP : va_P D classes ([]) s.heap := hP
  have hl := lv_entry ([.int i0, .int 1, .int 100]) (n := 3) (Nat.le_of_ble_eq_true rfl)
  rw [lg_entry_eq]
  generalize (lg_sl ([.int i0, .int 1, .int 100]) ++ List.replicate (3 - (lg_sl ([.int i0, .int 1, .int 100])).length) Slot.unset).toArray = ls at hl ⊢
  have hl : lv_has ls 3 [(0, .int i0), (1, .int 1), (2, .int 100)] := hl
  refine lv_iload_n hx hb dX10_in_0 rfl (lv_at hl 0 rfl) ?_
  refine lv_iload_n hx hb dX10_in_1 rfl (lv_at hl 1 rfl) ?_
  refine lv_icmp_lt (tgt := 14) hx hb dX10_in_2 (by decide) (fun c1 => ?_) (fun c1 => ?_)
  · have c1 : i0.toInt < 1 := i_lt c1 rfl rfl
    refine lv_iconst (v := 0) hx hb dX10_in_14 (by decide) ?_
    exact W.zret (v := 0) hx hb hr rfl (fun t ht2 hW => ⟨0, rfl, (Or.inl ⟨c1, rfl⟩), ht2⟩) (fun q h => by cases h) dX10_in_15
  · have c1 : ¬ i0.toInt < 1 := i_nlt c1 rfl rfl
    refine lv_iload_n hx hb dX10_in_5 rfl (lv_at hl 0 rfl) ?_
    refine lv_iload_n hx hb dX10_in_6 rfl (lv_at hl 2 rfl) ?_
    refine lv_icmp_gt (tgt := 14) hx hb dX10_in_7 (by decide) (fun c2 => ?_) (fun c2 => ?_)
    · have c2 : 100 < i0.toInt := i_lt c2 rfl rfl
      refine lv_iconst (v := 0) hx hb dX10_in_14 (by decide) ?_
      exact W.zret (v := 0) hx hb hr rfl (fun t ht2 hW => ⟨0, rfl, (Or.inr (Or.inl ⟨c1, c2, rfl⟩)), ht2⟩) (fun q h => by cases h) dX10_in_15
    · have c2 : ¬ 100 < i0.toInt := i_nlt c2 rfl rfl
      refine lv_iconst (v := 1) hx hb dX10_in_10 (by decide) ?_
      refine lv_goto (tgt := 15) hx hb dX10_in_11 (by decide) ?_
      exact W.zret (v := 1) hx hb hr rfl (fun t ht2 hW => ⟨1, rfl, (Or.inr (Or.inr (⟨c1, c2, rfl⟩))), ht2⟩) (fun q h => by cases h) dX10_in_15
def w108 (cy : Nat → ClassId) (h0 h1 h2 h3 h4 h5 h6 h7 h8 h9 : Nat) : va_W := [(h0, .inr (9, [.ref h1, .ref h2, .ref h3, .null, .int 0, .ref h4, .int 0, .int 0, .int 0, .ref h5, .ref h6, .ref h7, .int 0, .int 0, .int 0, .ref h8, .ref h9])), (h1, .inl (cy 0, 559, .inl (fun _ => 0)))]
set_option maxHeartbeats 4000000 in
set_option maxRecDepth 100000 in
theorem c108_X10_sizeOf (l : Launch) (D : va_G) (cy : Nat → ClassId) (h0 h1 h2 h3 h4 h5 h6 h7 h8 h9 : Nat) : Met l yX10_sizeOf (Cond.code yX10_sizeOf cX10_sizeOf 2 (some .int) :: GT) ({ frames := 0, cells := 0, slots := 0, locals := 0 }) (gP D cy (w108 cy h0 h1 h2 h3 h4 h5 h6 h7 h8 h9) [.ref h0, .int 0]) (vp_Si (fun r => r = 0)) 0 0 (fun _ => False) := by
  refine Met.ofW (cc := cX10_sizeOf) (maxL := 2) (ret := some .int) (by decide) rfl ?_
  intro p e s m args below meth c s₁ B hml hv
  obtain ⟨rfl, hP, hK⟩ := hv
  have hx := B.exec
  have hb := B.bytes
  have hr := B.returns
  have hts := atoms_spec (ws := (Cond.code yX10_sizeOf cX10_sizeOf 2 (some .int) :: GT)) B.pre
  have ht : ∀ w ∈ GT, w.before _ s = true := fun w h => hts w (List.mem_cons_of_mem _ h)
  have hown : s.vm.findClass RX10 = some m.cls := findClass_of_methodNamed B.named
  have hlocks := B.notSynchronized
  have hP : va_P D classes ([(h0, .inr (9, [.ref h1, .ref h2, .ref h3, .null, .int 0, .ref h4, .int 0, .int 0, .int 0, .ref h5, .ref h6, .ref h7, .int 0, .int 0, .int 0, .ref h8, .ref h9])), (h1, .inl (cy 0, 559, .inl (fun _ => 0)))]) s.heap := hP
  have hl := lv_entry ([.ref h0, .int 0]) (n := 2) (Nat.le_of_ble_eq_true rfl)
  rw [lg_entry_eq]
  generalize (lg_sl ([.ref h0, .int 0]) ++ List.replicate (2 - (lg_sl ([.ref h0, .int 0])).length) Slot.unset).toArray = ls at hl ⊢
  have hl : lv_has ls 2 [(0, .ref h0), (1, .int 0)] := hl
  refine lv_aload_n hx hb dX10_sizeOf_0 rfl (lv_at hl 0 rfl) ?_
  refine va_get (D := D) (ci := 9) (v := .ref h1) (C := RX10) (T := TX10) (N := 17) hx hb hts i_X10 hown hK.1 hP 0 rfl rfl 0 (by decide) (ht _ kt_849) (fun _ h9 => h9) rfl dX10_sizeOf_1 ?_
  refine lv_sipush (v := 533) hx hb dX10_sizeOf_4 (by decide) ?_
  refine lv_iload_n hx hb dX10_sizeOf_7 rfl (lv_at hl 1 rfl) ?_
  refine lv_iadd hx hb dX10_sizeOf_8 ?_
  refine lz_i 533 (by decide) ?_
  refine va_iald hx hb hK.1 hP 1 0 rfl rfl (vin (by decide)) dX10_sizeOf_9 ?_
  refine lz_i 0 rfl ?_
  refine lv_aload_n hx hb dX10_sizeOf_10 rfl (lv_at hl 0 rfl) ?_
  refine va_get (D := D) (ci := 9) (v := .ref h1) (C := RX10) (T := TX10) (N := 17) hx hb hts i_X10 hown hK.1 hP 0 rfl rfl 0 (by decide) (ht _ kt_849) (fun _ h9 => h9) rfl dX10_sizeOf_11 ?_
  refine lv_sipush (v := 507) hx hb dX10_sizeOf_14 (by decide) ?_
  refine lv_iload_n hx hb dX10_sizeOf_17 rfl (lv_at hl 1 rfl) ?_
  refine lv_iadd hx hb dX10_sizeOf_18 ?_
  refine lz_i 507 (by decide) ?_
  refine va_iald hx hb hK.1 hP 1 0 rfl rfl (vin (by decide)) dX10_sizeOf_19 ?_
  refine lz_i 0 rfl ?_
  refine lv_isub hx hb dX10_sizeOf_20 ?_
  refine lz_i 0 (by decide) ?_
  exact W.iret (v := 0) hx hb hr (fun t ht2 hW => ⟨0, rfl, rfl, ht2⟩) (fun q h => by cases h) dX10_sizeOf_21
def w109 (cy : Nat → ClassId) (h0 h1 h2 h3 h4 h5 h6 h7 h8 h9 : Nat) (i0 : Int32) : va_W := [(h0, .inr (9, [.ref h1, .ref h2, .ref h3, .null, .int 0, .ref h4, .int 0, .int 0, .int 0, .ref h5, .ref h6, .ref h7, .int 0, .int 0, .int 0, .ref h8, .ref h9])), (h1, .inl (cy 0, 559, .inl (fun _ => 0)))]
set_option maxHeartbeats 4000000 in
set_option maxRecDepth 100000 in
theorem c109_X10_step (l : Launch) (D : va_G) (cy : Nat → ClassId) (h0 h1 h2 h3 h4 h5 h6 h7 h8 h9 : Nat) (i0 : Int32) : Met l yX10_step (Cond.code yX10_step cX10_step 3 (some .int) :: GT) ({ frames := 1, cells := 0, slots := 0, locals := 22 }) (gP D cy (w109 cy h0 h1 h2 h3 h4 h5 h6 h7 h8 h9 i0) [.ref h0, .int i0]) (vp_Si (fun r => (i0.toInt < 1 ∧ r = (-2)) ∨ (¬ i0.toInt < 1 ∧ 100 < i0.toInt ∧ r = (-2)) ∨ (¬ i0.toInt < 1 ∧ ¬ 100 < i0.toInt ∧ ¬ i0.toInt ≤ 0 ∧ r = 0))) 0 0 (fun _ => False) := by
  refine Met.ofW (cc := cX10_step) (maxL := 3) (ret := some .int) (by decide) rfl ?_
  intro p e s m args below meth c s₁ B hml hv
  obtain ⟨rfl, hP, hK⟩ := hv
  have hx := B.exec
  have hb := B.bytes
  have hr := B.returns
  have hts := atoms_spec (ws := (Cond.code yX10_step cX10_step 3 (some .int) :: GT)) B.pre
  have ht : ∀ w ∈ GT, w.before _ s = true := fun w h => hts w (List.mem_cons_of_mem _ h)
  have hown : s.vm.findClass RX10 = some m.cls := findClass_of_methodNamed B.named
  have hlocks := B.notSynchronized
  have hP : va_P D classes ([(h0, .inr (9, [.ref h1, .ref h2, .ref h3, .null, .int 0, .ref h4, .int 0, .int 0, .int 0, .ref h5, .ref h6, .ref h7, .int 0, .int 0, .int 0, .ref h8, .ref h9])), (h1, .inl (cy 0, 559, .inl (fun _ => 0)))]) s.heap := hP
  have hl := lv_entry ([.ref h0, .int i0]) (n := 3) (Nat.le_of_ble_eq_true rfl)
  rw [lg_entry_eq]
  generalize (lg_sl ([.ref h0, .int i0]) ++ List.replicate (3 - (lg_sl ([.ref h0, .int i0])).length) Slot.unset).toArray = ls at hl ⊢
  have hl : lv_has ls 3 [(0, .ref h0), (1, .int i0)] := hl
  refine lv_iload_n hx hb dX10_step_0 rfl (lv_at hl 1 rfl) ?_
  refine lv_iconst (v := 1) hx hb dX10_step_1 (by decide) ?_
  refine lv_bipush (v := 100) hx hb dX10_step_2 (by decide) ?_
  refine vp_callSi (va_Run.run (va_runS (As := [.int i0, .int 1, .int 100]) (rest := []) ⟨hx, hb, hml, hown, hts⟩ (c107_X10_in l D cy i0) (va_cwS 3 hts (gt_S kt_905 kt_906 kt_8 kt_907) rfl rfl rfl (by decide +kernel) ⟨Nat.le_of_ble_eq_true rfl, Nat.le_of_ble_eq_true rfl⟩) (gP_S hK (hP.sub (ws' := (w107 cy i0)) [] rfl)) rfl rfl hl.1 rfl (lv_room (Nat.le_of_ble_eq_true rfl)) dX10_step_4 ⟨Nat.le_of_ble_eq_true rfl, Nat.le_of_ble_eq_true rfl⟩)) (fun r1 hw2 => ?_)
  rcases hw2 with ⟨c3, rfl⟩ | ⟨c4, c5, rfl⟩ | ⟨c6, c7, rfl⟩
  · skip
    refine lv_if_ne (tgt := 13) hx hb dX10_step_7 (by decide) (fun c8 => absurd c8 (by decide)) (fun _ => ?_)
    refine lv_bipush (v := (-2)) hx hb dX10_step_10 (by decide) ?_
    exact W.iret (v := (-2)) hx hb hr (fun t ht2 hW => ⟨(-2), rfl, (Or.inl ⟨c3, rfl⟩), ht2⟩) (fun q h => by cases h) dX10_step_12
  · skip
    refine lv_if_ne (tgt := 13) hx hb dX10_step_7 (by decide) (fun c9 => absurd c9 (by decide)) (fun _ => ?_)
    refine lv_bipush (v := (-2)) hx hb dX10_step_10 (by decide) ?_
    exact W.iret (v := (-2)) hx hb hr (fun t ht2 hW => ⟨(-2), rfl, (Or.inr (Or.inl ⟨c4, c5, rfl⟩)), ht2⟩) (fun q h => by cases h) dX10_step_12
  · skip
    refine lv_if_ne (tgt := 13) hx hb dX10_step_7 (by decide) (fun _ => ?_) (fun c10 => absurd c10 (by decide))
    refine lv_iconst (v := 0) hx hb dX10_step_13 (by decide) ?_
    refine lv_istore_n (lv' := [(2, .int 0), (0, .ref h0), (1, .int i0)]) hx hb dX10_step_14 rfl hl (by decide) rfl (fun ls hl => ?_)
    refine lv_iload_n hx hb dX10_step_15 rfl (lv_at hl 0 rfl) ?_
    refine lv_iload_n hx hb dX10_step_16 rfl (lv_at hl 2 rfl) ?_
    refine lv_icmp_ge (tgt := 38) hx hb dX10_step_17 (by decide) (fun c11 => ?_) (fun c11 => ?_)
    · have c11 : i0.toInt ≤ 0 := i_le c11 rfl rfl
      exact (by omega : False).elim
    · have c11 : ¬ i0.toInt ≤ 0 := i_nle c11 rfl rfl
      refine lv_aload_n hx hb dX10_step_20 rfl (lv_at hl 1 rfl) ?_
      refine lv_iconst (v := 0) hx hb dX10_step_21 (by decide) ?_
      refine vp_callSi (va_Run.run (va_runV (As := [.int 0]) (rest := []) ⟨hx, hb, hml, hown, hts⟩ (c108_X10_sizeOf l D cy h0 h1 h2 h3 h4 h5 h6 h7 h8 h9) (cwV 1 hts (gt_V kt_936 kt_938 kp_29 kt_8 kt_939) rfl rfl rfl (by decide +kernel) ⟨Nat.le_of_ble_eq_true rfl, Nat.le_of_ble_eq_true rfl⟩) (gP_V hK (hP.sub (ws' := (w108 cy h0 h1 h2 h3 h4 h5 h6 h7 h8 h9)) [0, 1] rfl) hP (ci := 9) (q0 := 0) rfl rfl) rfl rfl hl.1 rfl (lv_room (Nat.le_of_ble_eq_true rfl)) dX10_step_22 ⟨Nat.le_of_ble_eq_true rfl, Nat.le_of_ble_eq_true rfl⟩)) (fun r12 hw13 => ?_)
      obtain rfl : r12 = 0 := hw13
      refine lv_if_le (tgt := 38) hx hb dX10_step_25 (by decide) (fun _ => ?_) (fun c14 => absurd c14 (by decide))
      refine lv_iload_n hx hb dX10_step_38 rfl (lv_at hl 0 rfl) ?_
      exact W.iret (v := 0) hx hb hr (fun t ht2 hW => ⟨0, rfl, (Or.inr (Or.inr (⟨c6, c7, c11, rfl⟩))), ht2⟩) (fun q h => by cases h) dX10_step_39
def w110 (cy : Nat → ClassId) (i0 : Int32) : va_W := []
set_option maxHeartbeats 4000000 in
set_option maxRecDepth 100000 in
theorem c110_X10_in (l : Launch) (D : va_G) (cy : Nat → ClassId) (i0 : Int32) : Met l yX10_in (Cond.code yX10_in cX10_in 3 (some .boolean) :: GT) ({ frames := 0, cells := 0, slots := 0, locals := 0 }) (gP D cy (w110 cy i0) [.int i0, .int 1, .int 9999]) (vp_Si (fun r => (i0.toInt < 1 ∧ r = 0) ∨ (¬ i0.toInt < 1 ∧ 9999 < i0.toInt ∧ r = 0) ∨ (¬ i0.toInt < 1 ∧ ¬ 9999 < i0.toInt ∧ r = 1))) 0 0 (fun _ => False) := by
  refine Met.ofW (cc := cX10_in) (maxL := 3) (ret := some .boolean) (by decide) rfl ?_
  intro p e s m args below meth c s₁ B hml hv
  obtain ⟨rfl, hP, hK⟩ := hv
  have hx := B.exec
  have hb := B.bytes
  have hr := B.returns
  have hts := atoms_spec (ws := (Cond.code yX10_in cX10_in 3 (some .boolean) :: GT)) B.pre
  have ht : ∀ w ∈ GT, w.before _ s = true := fun w h => hts w (List.mem_cons_of_mem _ h)
  have hown : s.vm.findClass RX10 = some m.cls := findClass_of_methodNamed B.named
  have hlocks := B.notSynchronized
  have hP : va_P D classes ([]) s.heap := hP
  have hl := lv_entry ([.int i0, .int 1, .int 9999]) (n := 3) (Nat.le_of_ble_eq_true rfl)
  rw [lg_entry_eq]
  generalize (lg_sl ([.int i0, .int 1, .int 9999]) ++ List.replicate (3 - (lg_sl ([.int i0, .int 1, .int 9999])).length) Slot.unset).toArray = ls at hl ⊢
  have hl : lv_has ls 3 [(0, .int i0), (1, .int 1), (2, .int 9999)] := hl
  refine lv_iload_n hx hb dX10_in_0 rfl (lv_at hl 0 rfl) ?_
  refine lv_iload_n hx hb dX10_in_1 rfl (lv_at hl 1 rfl) ?_
  refine lv_icmp_lt (tgt := 14) hx hb dX10_in_2 (by decide) (fun c1 => ?_) (fun c1 => ?_)
  · have c1 : i0.toInt < 1 := i_lt c1 rfl rfl
    refine lv_iconst (v := 0) hx hb dX10_in_14 (by decide) ?_
    exact W.zret (v := 0) hx hb hr rfl (fun t ht2 hW => ⟨0, rfl, (Or.inl ⟨c1, rfl⟩), ht2⟩) (fun q h => by cases h) dX10_in_15
  · have c1 : ¬ i0.toInt < 1 := i_nlt c1 rfl rfl
    refine lv_iload_n hx hb dX10_in_5 rfl (lv_at hl 0 rfl) ?_
    refine lv_iload_n hx hb dX10_in_6 rfl (lv_at hl 2 rfl) ?_
    refine lv_icmp_gt (tgt := 14) hx hb dX10_in_7 (by decide) (fun c2 => ?_) (fun c2 => ?_)
    · have c2 : 9999 < i0.toInt := i_lt c2 rfl rfl
      refine lv_iconst (v := 0) hx hb dX10_in_14 (by decide) ?_
      exact W.zret (v := 0) hx hb hr rfl (fun t ht2 hW => ⟨0, rfl, (Or.inr (Or.inl ⟨c1, c2, rfl⟩)), ht2⟩) (fun q h => by cases h) dX10_in_15
    · have c2 : ¬ 9999 < i0.toInt := i_nlt c2 rfl rfl
      refine lv_iconst (v := 1) hx hb dX10_in_10 (by decide) ?_
      refine lv_goto (tgt := 15) hx hb dX10_in_11 (by decide) ?_
      exact W.zret (v := 1) hx hb hr rfl (fun t ht2 hW => ⟨1, rfl, (Or.inr (Or.inr (⟨c1, c2, rfl⟩))), ht2⟩) (fun q h => by cases h) dX10_in_15
def w111 (cy : Nat → ClassId) (h0 h1 h2 h3 h4 h5 h6 h7 h8 h9 : Nat) (i0 : Int32) : va_W := [(h0, .inr (9, [.ref h1, .ref h2, .ref h3, .null, .int 0, .ref h4, .int 0, .int 0, .int 0, .ref h5, .ref h6, .ref h7, .int 0, .int 0, .int 0, .ref h8, .ref h9])), (h1, .inl (cy 0, 559, .inl (fun _ => 0)))]
set_option maxHeartbeats 4000000 in
set_option maxRecDepth 100000 in
theorem c111_X10_run (l : Launch) (D : va_G) (cy : Nat → ClassId) (h0 h1 h2 h3 h4 h5 h6 h7 h8 h9 : Nat) (i0 : Int32) : Met l yX10_run (Cond.code yX10_run cX10_run 3 (some .int) :: GT) ({ frames := 1, cells := 0, slots := 0, locals := 22 }) (gP D cy (w111 cy h0 h1 h2 h3 h4 h5 h6 h7 h8 h9 i0) [.ref h0, .int i0]) (vp_Si (fun r => (i0.toInt < 1 ∧ r = (-2)) ∨ (¬ i0.toInt < 1 ∧ 9999 < i0.toInt ∧ r = (-2)) ∨ (¬ i0.toInt < 1 ∧ ¬ 9999 < i0.toInt ∧ r = 0))) 0 0 (fun _ => False) := by
  refine Met.ofW (cc := cX10_run) (maxL := 3) (ret := some .int) (by decide) rfl ?_
  intro p e s m args below meth c s₁ B hml hv
  obtain ⟨rfl, hP, hK⟩ := hv
  have hx := B.exec
  have hb := B.bytes
  have hr := B.returns
  have hts := atoms_spec (ws := (Cond.code yX10_run cX10_run 3 (some .int) :: GT)) B.pre
  have ht : ∀ w ∈ GT, w.before _ s = true := fun w h => hts w (List.mem_cons_of_mem _ h)
  have hown : s.vm.findClass RX10 = some m.cls := findClass_of_methodNamed B.named
  have hlocks := B.notSynchronized
  have hP : va_P D classes ([(h0, .inr (9, [.ref h1, .ref h2, .ref h3, .null, .int 0, .ref h4, .int 0, .int 0, .int 0, .ref h5, .ref h6, .ref h7, .int 0, .int 0, .int 0, .ref h8, .ref h9])), (h1, .inl (cy 0, 559, .inl (fun _ => 0)))]) s.heap := hP
  have hl := lv_entry ([.ref h0, .int i0]) (n := 3) (Nat.le_of_ble_eq_true rfl)
  rw [lg_entry_eq]
  generalize (lg_sl ([.ref h0, .int i0]) ++ List.replicate (3 - (lg_sl ([.ref h0, .int i0])).length) Slot.unset).toArray = ls at hl ⊢
  have hl : lv_has ls 3 [(0, .ref h0), (1, .int i0)] := hl
  refine lv_iload_n hx hb dX10_run_0 rfl (lv_at hl 1 rfl) ?_
  refine lv_iconst (v := 1) hx hb dX10_run_1 (by decide) ?_
  refine lv_sipush (v := 9999) hx hb dX10_run_2 (by decide) ?_
  refine vp_callSi (va_Run.run (va_runS (As := [.int i0, .int 1, .int 9999]) (rest := []) ⟨hx, hb, hml, hown, hts⟩ (c110_X10_in l D cy i0) (va_cwS 3 hts (gt_S kt_905 kt_906 kt_8 kt_907) rfl rfl rfl (by decide +kernel) ⟨Nat.le_of_ble_eq_true rfl, Nat.le_of_ble_eq_true rfl⟩) (gP_S hK (hP.sub (ws' := (w110 cy i0)) [] rfl)) rfl rfl hl.1 rfl (lv_room (Nat.le_of_ble_eq_true rfl)) dX10_run_5 ⟨Nat.le_of_ble_eq_true rfl, Nat.le_of_ble_eq_true rfl⟩)) (fun r1 hw2 => ?_)
  rcases hw2 with ⟨c3, rfl⟩ | ⟨c4, c5, rfl⟩ | ⟨c6, c7, rfl⟩
  · skip
    refine lv_if_ne (tgt := 14) hx hb dX10_run_8 (by decide) (fun c8 => absurd c8 (by decide)) (fun _ => ?_)
    refine lv_bipush (v := (-2)) hx hb dX10_run_11 (by decide) ?_
    exact W.iret (v := (-2)) hx hb hr (fun t ht2 hW => ⟨(-2), rfl, (Or.inl ⟨c3, rfl⟩), ht2⟩) (fun q h => by cases h) dX10_run_13
  · skip
    refine lv_if_ne (tgt := 14) hx hb dX10_run_8 (by decide) (fun c9 => absurd c9 (by decide)) (fun _ => ?_)
    refine lv_bipush (v := (-2)) hx hb dX10_run_11 (by decide) ?_
    exact W.iret (v := (-2)) hx hb hr (fun t ht2 hW => ⟨(-2), rfl, (Or.inr (Or.inl ⟨c4, c5, rfl⟩)), ht2⟩) (fun q h => by cases h) dX10_run_13
  · skip
    refine lv_if_ne (tgt := 14) hx hb dX10_run_8 (by decide) (fun _ => ?_) (fun c10 => absurd c10 (by decide))
    refine lv_aload_n hx hb dX10_run_14 rfl (lv_at hl 0 rfl) ?_
    refine va_get (D := D) (ci := 9) (v := .ref h1) (C := RX10) (T := TX10) (N := 17) hx hb hts i_X10 hown hK.1 hP 0 rfl rfl 0 (by decide) (ht _ kt_849) (fun _ h9 => h9) rfl dX10_run_15 ?_
    refine lv_iconst (v := 4) hx hb dX10_run_18 (by decide) ?_
    refine va_iald hx hb hK.1 hP 1 0 rfl rfl (vin (by decide)) dX10_run_19 ?_
    refine lz_i 0 rfl ?_
    refine lv_istore_n (lv' := [(2, .int 0), (0, .ref h0), (1, .int i0)]) hx hb dX10_run_20 rfl hl (by decide) rfl (fun ls hl => ?_)
    refine lv_aload_n hx hb dX10_run_21 rfl (lv_at hl 1 rfl) ?_
    refine lv_iconst (v := 0) hx hb dX10_run_22 (by decide) ?_
    refine vp_callSi (va_Run.run (va_runV (As := [.int 0]) (rest := []) ⟨hx, hb, hml, hown, hts⟩ (c108_X10_sizeOf l D cy h0 h1 h2 h3 h4 h5 h6 h7 h8 h9) (cwV 1 hts (gt_V kt_936 kt_938 kp_29 kt_8 kt_939) rfl rfl rfl (by decide +kernel) ⟨Nat.le_of_ble_eq_true rfl, Nat.le_of_ble_eq_true rfl⟩) (gP_V hK (hP.sub (ws' := (w108 cy h0 h1 h2 h3 h4 h5 h6 h7 h8 h9)) [0, 1] rfl) hP (ci := 9) (q0 := 0) rfl rfl) rfl rfl hl.1 rfl (lv_room (Nat.le_of_ble_eq_true rfl)) dX10_run_23 ⟨Nat.le_of_ble_eq_true rfl, Nat.le_of_ble_eq_true rfl⟩)) (fun r11 hw12 => ?_)
    obtain rfl : r11 = 0 := hw12
    refine lv_if_le (tgt := 48) hx hb dX10_run_26 (by decide) (fun _ => ?_) (fun c13 => absurd c13 (by decide))
    refine lv_aload_n hx hb dX10_run_48 rfl (lv_at hl 1 rfl) ?_
    refine va_get (D := D) (ci := 9) (v := .ref h1) (C := RX10) (T := TX10) (N := 17) hx hb hts i_X10 hown hK.1 hP 0 rfl rfl 0 (by decide) (ht _ kt_849) (fun _ h9 => h9) rfl dX10_run_49 ?_
    refine lv_iconst (v := 4) hx hb dX10_run_52 (by decide) ?_
    refine va_iald hx hb hK.1 hP 1 0 rfl rfl (vin (by decide)) dX10_run_53 ?_
    refine lz_i 0 rfl ?_
    refine lv_iload_n hx hb dX10_run_54 rfl (lv_at hl 0 rfl) ?_
    refine lv_isub hx hb dX10_run_55 ?_
    refine lz_i 0 (by decide) ?_
    exact W.iret (v := 0) hx hb hr (fun t ht2 hW => ⟨0, rfl, (Or.inr (Or.inr (⟨c6, c7, rfl⟩))), ht2⟩) (fun q h => by cases h) dX10_run_56
def w112 (cy : Nat → ClassId) (h0 h1 h2 h3 h4 h5 h6 h7 h8 h9 : Nat) : va_W := [(h0, .inr (9, [.ref h1, .ref h2, .ref h3, .null, .int 0, .ref h4, .int 0, .int 0, .int 0, .ref h5, .ref h6, .ref h7, .int 0, .int 0, .int 0, .ref h8, .ref h9])), (h1, .inl (cy 0, 559, .inl (fun _ => 0)))]
set_option maxHeartbeats 4000000 in
set_option maxRecDepth 100000 in
theorem c112_X10_next (l : Launch) (D : va_G) (cy : Nat → ClassId) (h0 h1 h2 h3 h4 h5 h6 h7 h8 h9 : Nat) : Met l yX10_next (Cond.code yX10_next cX10_next 2 (some .int) :: GT) ({ frames := 1, cells := 0, slots := 0, locals := 21 }) (gP D cy (w112 cy h0 h1 h2 h3 h4 h5 h6 h7 h8 h9) [.ref h0]) (vp_Si (fun r => r = (-5))) 0 0 (fun _ => False) := by
  refine Met.ofW (cc := cX10_next) (maxL := 2) (ret := some .int) (by decide) rfl ?_
  intro p e s m args below meth c s₁ B hml hv
  obtain ⟨rfl, hP, hK⟩ := hv
  have hx := B.exec
  have hb := B.bytes
  have hr := B.returns
  have hts := atoms_spec (ws := (Cond.code yX10_next cX10_next 2 (some .int) :: GT)) B.pre
  have ht : ∀ w ∈ GT, w.before _ s = true := fun w h => hts w (List.mem_cons_of_mem _ h)
  have hown : s.vm.findClass RX10 = some m.cls := findClass_of_methodNamed B.named
  have hlocks := B.notSynchronized
  have hP : va_P D classes ([(h0, .inr (9, [.ref h1, .ref h2, .ref h3, .null, .int 0, .ref h4, .int 0, .int 0, .int 0, .ref h5, .ref h6, .ref h7, .int 0, .int 0, .int 0, .ref h8, .ref h9])), (h1, .inl (cy 0, 559, .inl (fun _ => 0)))]) s.heap := hP
  have hl := lv_entry ([.ref h0]) (n := 2) (Nat.le_of_ble_eq_true rfl)
  rw [lg_entry_eq]
  generalize (lg_sl ([.ref h0]) ++ List.replicate (2 - (lg_sl ([.ref h0])).length) Slot.unset).toArray = ls at hl ⊢
  have hl : lv_has ls 2 [(0, .ref h0)] := hl
  refine lv_aload_n hx hb dX10_next_0 rfl (lv_at hl 0 rfl) ?_
  refine lv_iconst (v := 0) hx hb dX10_next_1 (by decide) ?_
  refine vp_callSi (va_Run.run (va_runV (As := [.int 0]) (rest := []) ⟨hx, hb, hml, hown, hts⟩ (c108_X10_sizeOf l D cy h0 h1 h2 h3 h4 h5 h6 h7 h8 h9) (cwV 1 hts (gt_V kt_936 kt_938 kp_29 kt_8 kt_939) rfl rfl rfl (by decide +kernel) ⟨Nat.le_of_ble_eq_true rfl, Nat.le_of_ble_eq_true rfl⟩) (gP_V hK (hP.sub (ws' := (w108 cy h0 h1 h2 h3 h4 h5 h6 h7 h8 h9)) [0, 1] rfl) hP (ci := 9) (q0 := 0) rfl rfl) rfl rfl hl.1 rfl (lv_room (Nat.le_of_ble_eq_true rfl)) dX10_next_2 ⟨Nat.le_of_ble_eq_true rfl, Nat.le_of_ble_eq_true rfl⟩)) (fun r1 hw2 => ?_)
  obtain rfl : r1 = 0 := hw2
  refine lv_if_ne (tgt := 11) hx hb dX10_next_5 (by decide) (fun c3 => absurd c3 (by decide)) (fun _ => ?_)
  refine lv_bipush (v := (-5)) hx hb dX10_next_8 (by decide) ?_
  exact W.iret (v := (-5)) hx hb hr (fun t ht2 hW => ⟨(-5), rfl, rfl, ht2⟩) (fun q h => by cases h) dX10_next_10
def w113 (cy : Nat → ClassId) (h0 h1 h2 h3 h4 h5 h6 h7 h8 h9 : Nat) (i0 i1 : Int32) : va_W := [(h0, .inr (9, [.ref h1, .ref h2, .ref h3, .null, .int 0, .ref h4, .int 0, .int 0, .int 0, .ref h5, .ref h6, .ref h7, .int 0, .int 0, .int 0, .ref h8, .ref h9])), (h1, .inl (cy 0, 559, .inl (fun _ => 0)))]
set_option maxHeartbeats 4000000 in
set_option maxRecDepth 100000 in
theorem c113_X10_pending (l : Launch) (D : va_G) (cy : Nat → ClassId) (h0 h1 h2 h3 h4 h5 h6 h7 h8 h9 : Nat) (i0 i1 : Int32) : Met l yX10_pending (Cond.code yX10_pending cX10_pending 3 (some .int) :: GT) ({ frames := 1, cells := 0, slots := 0, locals := 22 }) (gP D cy (w113 cy h0 h1 h2 h3 h4 h5 h6 h7 h8 h9 i0 i1) [.ref h0, .int i0, .int i1]) (vp_Si (fun r => r = (-1))) 0 0 (fun _ => False) := by
  refine Met.ofW (cc := cX10_pending) (maxL := 3) (ret := some .int) (by decide) rfl ?_
  intro p e s m args below meth c s₁ B hml hv
  obtain ⟨rfl, hP, hK⟩ := hv
  have hx := B.exec
  have hb := B.bytes
  have hr := B.returns
  have hts := atoms_spec (ws := (Cond.code yX10_pending cX10_pending 3 (some .int) :: GT)) B.pre
  have ht : ∀ w ∈ GT, w.before _ s = true := fun w h => hts w (List.mem_cons_of_mem _ h)
  have hown : s.vm.findClass RX10 = some m.cls := findClass_of_methodNamed B.named
  have hlocks := B.notSynchronized
  have hP : va_P D classes ([(h0, .inr (9, [.ref h1, .ref h2, .ref h3, .null, .int 0, .ref h4, .int 0, .int 0, .int 0, .ref h5, .ref h6, .ref h7, .int 0, .int 0, .int 0, .ref h8, .ref h9])), (h1, .inl (cy 0, 559, .inl (fun _ => 0)))]) s.heap := hP
  have hl := lv_entry ([.ref h0, .int i0, .int i1]) (n := 3) (Nat.le_of_ble_eq_true rfl)
  rw [lg_entry_eq]
  generalize (lg_sl ([.ref h0, .int i0, .int i1]) ++ List.replicate (3 - (lg_sl ([.ref h0, .int i0, .int i1])).length) Slot.unset).toArray = ls at hl ⊢
  have hl : lv_has ls 3 [(0, .ref h0), (1, .int i0), (2, .int i1)] := hl
  refine lv_iload_n hx hb dX10_pending_0 rfl (lv_at hl 1 rfl) ?_
  refine lv_iconst (v := 0) hx hb dX10_pending_1 (by decide) ?_
  refine lv_aload_n hx hb dX10_pending_2 rfl (lv_at hl 0 rfl) ?_
  refine lv_iconst (v := 0) hx hb dX10_pending_3 (by decide) ?_
  refine vp_callSi (va_Run.run (va_runV (As := [.int 0]) (rest := [.int 0, .int i0]) ⟨hx, hb, hml, hown, hts⟩ (c108_X10_sizeOf l D cy h0 h1 h2 h3 h4 h5 h6 h7 h8 h9) (cwV 1 hts (gt_V kt_936 kt_938 kp_29 kt_8 kt_939) rfl rfl rfl (by decide +kernel) ⟨Nat.le_of_ble_eq_true rfl, Nat.le_of_ble_eq_true rfl⟩) (gP_V hK (hP.sub (ws' := (w108 cy h0 h1 h2 h3 h4 h5 h6 h7 h8 h9)) [0, 1] rfl) hP (ci := 9) (q0 := 0) rfl rfl) rfl rfl hl.1 rfl (lv_room (Nat.le_of_ble_eq_true rfl)) dX10_pending_4 ⟨Nat.le_of_ble_eq_true rfl, Nat.le_of_ble_eq_true rfl⟩)) (fun r1 hw2 => ?_)
  obtain rfl : r1 = 0 := hw2
  refine lv_iconst (v := 1) hx hb dX10_pending_7 (by decide) ?_
  refine lv_isub hx hb dX10_pending_8 ?_
  refine lz_i (-1) (by decide) ?_
  refine vp_callSi (va_Run.run (va_runS (As := [.int i0, .int 0, .int (-1)]) (rest := []) ⟨hx, hb, hml, hown, hts⟩ (c83_X10_in l D cy i0) (va_cwS 3 hts (gt_S kt_905 kt_906 kt_8 kt_907) rfl rfl rfl (by decide +kernel) ⟨Nat.le_of_ble_eq_true rfl, Nat.le_of_ble_eq_true rfl⟩) (gP_S hK (hP.sub (ws' := (w83 cy i0)) [] rfl)) rfl rfl hl.1 rfl (lv_room (Nat.le_of_ble_eq_true rfl)) dX10_pending_9 ⟨Nat.le_of_ble_eq_true rfl, Nat.le_of_ble_eq_true rfl⟩)) (fun r3 hw4 => ?_)
  obtain rfl : r3 = 0 := hw4
  refine lv_if_eq (tgt := 35) hx hb dX10_pending_12 (by decide) (fun _ => ?_) (fun c5 => absurd c5 (by decide))
  refine lv_iconst (v := (-1)) hx hb dX10_pending_35 (by decide) ?_
  exact W.iret (v := (-1)) hx hb hr (fun t ht2 hW => ⟨(-1), rfl, rfl, ht2⟩) (fun q h => by cases h) dX10_pending_36
def w114 (cy : Nat → ClassId) (h0 h1 h2 h3 h4 h5 h6 h7 h8 h9 : Nat) (i0 i1 : Int32) : va_W := [(h0, .inr (9, [.ref h1, .ref h2, .ref h3, .null, .int 0, .ref h4, .int 0, .int 0, .int 0, .ref h5, .ref h6, .ref h7, .int 0, .int 0, .int 0, .ref h8, .ref h9])), (h1, .inl (cy 0, 559, .inl (fun _ => 0)))]
set_option maxHeartbeats 4000000 in
set_option maxRecDepth 100000 in
theorem c114_X10_told (l : Launch) (D : va_G) (cy : Nat → ClassId) (h0 h1 h2 h3 h4 h5 h6 h7 h8 h9 : Nat) (i0 i1 : Int32) : Met l yX10_told (Cond.code yX10_told cX10_told 3 (some .int) :: GT) ({ frames := 2, cells := 0, slots := 0, locals := 43 }) (gP D cy (w114 cy h0 h1 h2 h3 h4 h5 h6 h7 h8 h9 i0 i1) [.ref h0, .int i0, .int i1]) (vp_Si (fun r => r = (-1))) 0 0 (fun _ => False) := by
  refine Met.ofW (cc := cX10_told) (maxL := 3) (ret := some .int) (by decide) rfl ?_
  intro p e s m args below meth c s₁ B hml hv
  obtain ⟨rfl, hP, hK⟩ := hv
  have hx := B.exec
  have hb := B.bytes
  have hr := B.returns
  have hts := atoms_spec (ws := (Cond.code yX10_told cX10_told 3 (some .int) :: GT)) B.pre
  have ht : ∀ w ∈ GT, w.before _ s = true := fun w h => hts w (List.mem_cons_of_mem _ h)
  have hown : s.vm.findClass RX10 = some m.cls := findClass_of_methodNamed B.named
  have hlocks := B.notSynchronized
  have hP : va_P D classes ([(h0, .inr (9, [.ref h1, .ref h2, .ref h3, .null, .int 0, .ref h4, .int 0, .int 0, .int 0, .ref h5, .ref h6, .ref h7, .int 0, .int 0, .int 0, .ref h8, .ref h9])), (h1, .inl (cy 0, 559, .inl (fun _ => 0)))]) s.heap := hP
  have hl := lv_entry ([.ref h0, .int i0, .int i1]) (n := 3) (Nat.le_of_ble_eq_true rfl)
  rw [lg_entry_eq]
  generalize (lg_sl ([.ref h0, .int i0, .int i1]) ++ List.replicate (3 - (lg_sl ([.ref h0, .int i0, .int i1])).length) Slot.unset).toArray = ls at hl ⊢
  have hl : lv_has ls 3 [(0, .ref h0), (1, .int i0), (2, .int i1)] := hl
  refine lv_aload_n hx hb dX10_told_0 rfl (lv_at hl 0 rfl) ?_
  refine lv_iload_n hx hb dX10_told_1 rfl (lv_at hl 1 rfl) ?_
  refine vp_callSi (va_Run.run (va_runV (As := [.int i0]) (rest := []) ⟨hx, hb, hml, hown, hts⟩ (c101_X10_isOperator l D cy h0 h1 h2 h3 h4 h5 h6 h7 h8 h9 i0) (cwV 1 hts (gt_V kt_1017 kt_1019 kp_44 kt_8 kt_1020) rfl rfl rfl (by decide +kernel) ⟨Nat.le_of_ble_eq_true rfl, Nat.le_of_ble_eq_true rfl⟩) (gP_V hK (hP.sub (ws' := (w101 cy h0 h1 h2 h3 h4 h5 h6 h7 h8 h9 i0)) [0, 1] rfl) hP (ci := 9) (q0 := 0) rfl rfl) rfl rfl hl.1 rfl (lv_room (Nat.le_of_ble_eq_true rfl)) dX10_told_2 ⟨Nat.le_of_ble_eq_true rfl, Nat.le_of_ble_eq_true rfl⟩)) (fun r1 hw2 => ?_)
  obtain rfl : r1 = 0 := hw2
  refine lv_if_eq (tgt := 18) hx hb dX10_told_5 (by decide) (fun _ => ?_) (fun c3 => absurd c3 (by decide))
  refine lv_iconst (v := (-1)) hx hb dX10_told_18 (by decide) ?_
  exact W.iret (v := (-1)) hx hb hr (fun t ht2 hW => ⟨(-1), rfl, rfl, ht2⟩) (fun q h => by cases h) dX10_told_19
def w115 (cy : Nat → ClassId) (h0 h1 h2 h3 h4 h5 h6 h7 h8 h9 : Nat) (i0 i1 : Int32) : va_W := [(h0, .inr (9, [.ref h1, .ref h2, .ref h3, .null, .int 0, .ref h4, .int 0, .int 0, .int 0, .ref h5, .ref h6, .ref h7, .int 0, .int 0, .int 0, .ref h8, .ref h9])), (h1, .inl (cy 0, 559, .inl (fun _ => 0)))]
set_option maxHeartbeats 4000000 in
set_option maxRecDepth 100000 in
theorem c115_X10_of (l : Launch) (D : va_G) (cy : Nat → ClassId) (h0 h1 h2 h3 h4 h5 h6 h7 h8 h9 : Nat) (i0 i1 : Int32) : Met l yX10_of (Cond.code yX10_of cX10_of 3 (some .int) :: GT) ({ frames := 2, cells := 0, slots := 0, locals := 43 }) (gP D cy (w115 cy h0 h1 h2 h3 h4 h5 h6 h7 h8 h9 i0 i1) [.ref h0, .int i0, .int i1]) (vp_Si (fun r => r = (-1))) 0 0 (fun _ => False) := by
  refine Met.ofW (cc := cX10_of) (maxL := 3) (ret := some .int) (by decide) rfl ?_
  intro p e s m args below meth c s₁ B hml hv
  obtain ⟨rfl, hP, hK⟩ := hv
  have hx := B.exec
  have hb := B.bytes
  have hr := B.returns
  have hts := atoms_spec (ws := (Cond.code yX10_of cX10_of 3 (some .int) :: GT)) B.pre
  have ht : ∀ w ∈ GT, w.before _ s = true := fun w h => hts w (List.mem_cons_of_mem _ h)
  have hown : s.vm.findClass RX10 = some m.cls := findClass_of_methodNamed B.named
  have hlocks := B.notSynchronized
  have hP : va_P D classes ([(h0, .inr (9, [.ref h1, .ref h2, .ref h3, .null, .int 0, .ref h4, .int 0, .int 0, .int 0, .ref h5, .ref h6, .ref h7, .int 0, .int 0, .int 0, .ref h8, .ref h9])), (h1, .inl (cy 0, 559, .inl (fun _ => 0)))]) s.heap := hP
  have hl := lv_entry ([.ref h0, .int i0, .int i1]) (n := 3) (Nat.le_of_ble_eq_true rfl)
  rw [lg_entry_eq]
  generalize (lg_sl ([.ref h0, .int i0, .int i1]) ++ List.replicate (3 - (lg_sl ([.ref h0, .int i0, .int i1])).length) Slot.unset).toArray = ls at hl ⊢
  have hl : lv_has ls 3 [(0, .ref h0), (1, .int i0), (2, .int i1)] := hl
  refine lv_aload_n hx hb dX10_of_0 rfl (lv_at hl 0 rfl) ?_
  refine lv_iload_n hx hb dX10_of_1 rfl (lv_at hl 1 rfl) ?_
  refine vp_callSi (va_Run.run (va_runV (As := [.int i0]) (rest := []) ⟨hx, hb, hml, hown, hts⟩ (c84_X10_isSource l D cy h0 h1 h2 h3 h4 h5 h6 h7 h8 h9 i0) (cwV 1 hts (gt_V kt_912 kt_914 kp_23 kt_8 kt_915) rfl rfl rfl (by decide +kernel) ⟨Nat.le_of_ble_eq_true rfl, Nat.le_of_ble_eq_true rfl⟩) (gP_V hK (hP.sub (ws' := (w84 cy h0 h1 h2 h3 h4 h5 h6 h7 h8 h9 i0)) [0, 1] rfl) hP (ci := 9) (q0 := 0) rfl rfl) rfl rfl hl.1 rfl (lv_room (Nat.le_of_ble_eq_true rfl)) dX10_of_2 ⟨Nat.le_of_ble_eq_true rfl, Nat.le_of_ble_eq_true rfl⟩)) (fun r1 hw2 => ?_)
  obtain rfl : r1 = 0 := hw2
  refine lv_if_ne (tgt := 10) hx hb dX10_of_5 (by decide) (fun c3 => absurd c3 (by decide)) (fun _ => ?_)
  refine lv_iconst (v := (-1)) hx hb dX10_of_8 (by decide) ?_
  exact W.iret (v := (-1)) hx hb hr (fun t ht2 hW => ⟨(-1), rfl, rfl, ht2⟩) (fun q h => by cases h) dX10_of_9
def w116 (cy : Nat → ClassId) (h0 h1 h2 h3 h4 h5 h6 h7 h8 h9 : Nat) (i0 i1 i2 : Int32) : va_W := [(h0, .inr (9, [.ref h1, .ref h2, .ref h3, .null, .int 0, .ref h4, .int 0, .int 0, .int 0, .ref h5, .ref h6, .ref h7, .int 0, .int 0, .int 0, .ref h8, .ref h9])), (h1, .inl (cy 0, 559, .inl (fun _ => 0)))]
set_option maxHeartbeats 4000000 in
set_option maxRecDepth 100000 in
theorem c116_X10_value (l : Launch) (D : va_G) (cy : Nat → ClassId) (h0 h1 h2 h3 h4 h5 h6 h7 h8 h9 : Nat) (i0 i1 i2 : Int32) : Met l yX10_value (Cond.code yX10_value cX10_value 5 (some .int) :: GT) ({ frames := 3, cells := 0, slots := 0, locals := 65 }) (gP D cy (w116 cy h0 h1 h2 h3 h4 h5 h6 h7 h8 h9 i0 i1 i2) [.ref h0, .int i0, .int i1, .int i2]) (vp_Si (fun r => r = (-1000))) 0 0 (fun _ => False) := by
  refine Met.ofW (cc := cX10_value) (maxL := 5) (ret := some .int) (by decide) rfl ?_
  intro p e s m args below meth c s₁ B hml hv
  obtain ⟨rfl, hP, hK⟩ := hv
  have hx := B.exec
  have hb := B.bytes
  have hr := B.returns
  have hts := atoms_spec (ws := (Cond.code yX10_value cX10_value 5 (some .int) :: GT)) B.pre
  have ht : ∀ w ∈ GT, w.before _ s = true := fun w h => hts w (List.mem_cons_of_mem _ h)
  have hown : s.vm.findClass RX10 = some m.cls := findClass_of_methodNamed B.named
  have hlocks := B.notSynchronized
  have hP : va_P D classes ([(h0, .inr (9, [.ref h1, .ref h2, .ref h3, .null, .int 0, .ref h4, .int 0, .int 0, .int 0, .ref h5, .ref h6, .ref h7, .int 0, .int 0, .int 0, .ref h8, .ref h9])), (h1, .inl (cy 0, 559, .inl (fun _ => 0)))]) s.heap := hP
  have hl := lv_entry ([.ref h0, .int i0, .int i1, .int i2]) (n := 5) (Nat.le_of_ble_eq_true rfl)
  rw [lg_entry_eq]
  generalize (lg_sl ([.ref h0, .int i0, .int i1, .int i2]) ++ List.replicate (5 - (lg_sl ([.ref h0, .int i0, .int i1, .int i2])).length) Slot.unset).toArray = ls at hl ⊢
  have hl : lv_has ls 5 [(0, .ref h0), (1, .int i0), (2, .int i1), (3, .int i2)] := hl
  refine lv_aload_n hx hb dX10_value_0 rfl (lv_at hl 0 rfl) ?_
  refine lv_iload_n hx hb dX10_value_1 rfl (lv_at hl 1 rfl) ?_
  refine lv_iload_n hx hb dX10_value_2 rfl (lv_at hl 2 rfl) ?_
  refine vp_callSi (va_Run.run (va_runV (As := [.int i0, .int i1]) (rest := []) ⟨hx, hb, hml, hown, hts⟩ (c87_X10_isRow l D cy h0 h1 h2 h3 h4 h5 h6 h7 h8 h9 i0 i1) (cwV 2 hts (gt_V kt_956 kt_958 kp_32 kt_8 kt_959) rfl rfl rfl (by decide +kernel) ⟨Nat.le_of_ble_eq_true rfl, Nat.le_of_ble_eq_true rfl⟩) (gP_V hK (hP.sub (ws' := (w87 cy h0 h1 h2 h3 h4 h5 h6 h7 h8 h9 i0 i1)) [0, 1] rfl) hP (ci := 9) (q0 := 0) rfl rfl) rfl rfl hl.1 rfl (lv_room (Nat.le_of_ble_eq_true rfl)) dX10_value_3 ⟨Nat.le_of_ble_eq_true rfl, Nat.le_of_ble_eq_true rfl⟩)) (fun r1 hw2 => ?_)
  obtain rfl : r1 = 0 := hw2
  refine lv_if_ne (tgt := 13) hx hb dX10_value_6 (by decide) (fun c3 => absurd c3 (by decide)) (fun _ => ?_)
  refine lv_sipush (v := (-1000)) hx hb dX10_value_9 (by decide) ?_
  exact W.iret (v := (-1000)) hx hb hr (fun t ht2 hW => ⟨(-1000), rfl, rfl, ht2⟩) (fun q h => by cases h) dX10_value_12
def w117 (cy : Nat → ClassId) (h0 h1 h2 h3 h4 h5 h6 h7 h8 h9 : Nat) : va_W := [(h0, .inr (9, [.ref h1, .ref h2, .ref h3, .null, .int 0, .ref h4, .int 0, .int 0, .int 0, .ref h5, .ref h6, .ref h7, .int 0, .int 0, .int 0, .ref h8, .ref h9])), (h1, .inl (cy 0, 559, .inl (fun _ => 0)))]
set_option maxHeartbeats 4000000 in
set_option maxRecDepth 100000 in
theorem c117_X10_sizeOf (l : Launch) (D : va_G) (cy : Nat → ClassId) (h0 h1 h2 h3 h4 h5 h6 h7 h8 h9 : Nat) : Met l yX10_sizeOf (Cond.code yX10_sizeOf cX10_sizeOf 2 (some .int) :: GT) ({ frames := 0, cells := 0, slots := 0, locals := 0 }) (gP D cy (w117 cy h0 h1 h2 h3 h4 h5 h6 h7 h8 h9) [.ref h0, .int 25]) (vp_Si (fun r => r = 0)) 0 0 (fun _ => False) := by
  refine Met.ofW (cc := cX10_sizeOf) (maxL := 2) (ret := some .int) (by decide) rfl ?_
  intro p e s m args below meth c s₁ B hml hv
  obtain ⟨rfl, hP, hK⟩ := hv
  have hx := B.exec
  have hb := B.bytes
  have hr := B.returns
  have hts := atoms_spec (ws := (Cond.code yX10_sizeOf cX10_sizeOf 2 (some .int) :: GT)) B.pre
  have ht : ∀ w ∈ GT, w.before _ s = true := fun w h => hts w (List.mem_cons_of_mem _ h)
  have hown : s.vm.findClass RX10 = some m.cls := findClass_of_methodNamed B.named
  have hlocks := B.notSynchronized
  have hP : va_P D classes ([(h0, .inr (9, [.ref h1, .ref h2, .ref h3, .null, .int 0, .ref h4, .int 0, .int 0, .int 0, .ref h5, .ref h6, .ref h7, .int 0, .int 0, .int 0, .ref h8, .ref h9])), (h1, .inl (cy 0, 559, .inl (fun _ => 0)))]) s.heap := hP
  have hl := lv_entry ([.ref h0, .int 25]) (n := 2) (Nat.le_of_ble_eq_true rfl)
  rw [lg_entry_eq]
  generalize (lg_sl ([.ref h0, .int 25]) ++ List.replicate (2 - (lg_sl ([.ref h0, .int 25])).length) Slot.unset).toArray = ls at hl ⊢
  have hl : lv_has ls 2 [(0, .ref h0), (1, .int 25)] := hl
  refine lv_aload_n hx hb dX10_sizeOf_0 rfl (lv_at hl 0 rfl) ?_
  refine va_get (D := D) (ci := 9) (v := .ref h1) (C := RX10) (T := TX10) (N := 17) hx hb hts i_X10 hown hK.1 hP 0 rfl rfl 0 (by decide) (ht _ kt_849) (fun _ h9 => h9) rfl dX10_sizeOf_1 ?_
  refine lv_sipush (v := 533) hx hb dX10_sizeOf_4 (by decide) ?_
  refine lv_iload_n hx hb dX10_sizeOf_7 rfl (lv_at hl 1 rfl) ?_
  refine lv_iadd hx hb dX10_sizeOf_8 ?_
  refine lz_i 558 (by decide) ?_
  refine va_iald hx hb hK.1 hP 1 0 rfl rfl (vin (by decide)) dX10_sizeOf_9 ?_
  refine lz_i 0 rfl ?_
  refine lv_aload_n hx hb dX10_sizeOf_10 rfl (lv_at hl 0 rfl) ?_
  refine va_get (D := D) (ci := 9) (v := .ref h1) (C := RX10) (T := TX10) (N := 17) hx hb hts i_X10 hown hK.1 hP 0 rfl rfl 0 (by decide) (ht _ kt_849) (fun _ h9 => h9) rfl dX10_sizeOf_11 ?_
  refine lv_sipush (v := 507) hx hb dX10_sizeOf_14 (by decide) ?_
  refine lv_iload_n hx hb dX10_sizeOf_17 rfl (lv_at hl 1 rfl) ?_
  refine lv_iadd hx hb dX10_sizeOf_18 ?_
  refine lz_i 532 (by decide) ?_
  refine va_iald hx hb hK.1 hP 1 0 rfl rfl (vin (by decide)) dX10_sizeOf_19 ?_
  refine lz_i 0 rfl ?_
  refine lv_isub hx hb dX10_sizeOf_20 ?_
  refine lz_i 0 (by decide) ?_
  exact W.iret (v := 0) hx hb hr (fun t ht2 hW => ⟨0, rfl, rfl, ht2⟩) (fun q h => by cases h) dX10_sizeOf_21
