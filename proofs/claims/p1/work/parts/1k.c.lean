def w118 (cy : Nat → ClassId) (h0 h1 h2 h3 h4 h5 h6 h7 h8 h9 : Nat) (i0 i1 : Int32) : va_W := [(h0, .inr (9, [.ref h1, .ref h2, .ref h3, .null, .int 0, .ref h4, .int 0, .int 0, .int 0, .ref h5, .ref h6, .ref h7, .int 0, .int 0, .int 0, .ref h8, .ref h9])), (h1, .inl (cy 0, 559, .inl (fun _ => 0)))]
set_option maxHeartbeats 4000000 in
set_option maxRecDepth 100000 in
theorem c118_X10_output (l : Launch) (D : va_G) (cy : Nat → ClassId) (h0 h1 h2 h3 h4 h5 h6 h7 h8 h9 : Nat) (i0 i1 : Int32) : Met l yX10_output (Cond.code yX10_output cX10_output 3 (some .int) :: GT) ({ frames := 1, cells := 0, slots := 0, locals := 22 }) (gP D cy (w118 cy h0 h1 h2 h3 h4 h5 h6 h7 h8 h9 i0 i1) [.ref h0, .int i0, .int i1]) (vp_Si (fun r => r = (-1))) 0 0 (fun _ => False) := by
  refine Met.ofW (cc := cX10_output) (maxL := 3) (ret := some .int) (by decide) rfl ?_
  intro p e s m args below meth c s₁ B hml hv
  obtain ⟨rfl, hP, hK⟩ := hv
  have hx := B.exec
  have hb := B.bytes
  have hr := B.returns
  have hts := atoms_spec (ws := (Cond.code yX10_output cX10_output 3 (some .int) :: GT)) B.pre
  have ht : ∀ w ∈ GT, w.before _ s = true := fun w h => hts w (List.mem_cons_of_mem _ h)
  have hown : s.vm.findClass RX10 = some m.cls := findClass_of_methodNamed B.named
  have hlocks := B.notSynchronized
  have hP : va_P D classes ([(h0, .inr (9, [.ref h1, .ref h2, .ref h3, .null, .int 0, .ref h4, .int 0, .int 0, .int 0, .ref h5, .ref h6, .ref h7, .int 0, .int 0, .int 0, .ref h8, .ref h9])), (h1, .inl (cy 0, 559, .inl (fun _ => 0)))]) s.heap := hP
  have hl := lv_entry ([.ref h0, .int i0, .int i1]) (n := 3) (Nat.le_of_ble_eq_true rfl)
  rw [lg_entry_eq]
  generalize (lg_sl ([.ref h0, .int i0, .int i1]) ++ List.replicate (3 - (lg_sl ([.ref h0, .int i0, .int i1])).length) Slot.unset).toArray = ls at hl ⊢
  have hl : lv_has ls 3 [(0, .ref h0), (1, .int i0), (2, .int i1)] := hl
  refine lv_iload_n hx hb dX10_output_0 rfl (lv_at hl 1 rfl) ?_
  refine lv_iconst (v := 0) hx hb dX10_output_1 (by decide) ?_
  refine lv_aload_n hx hb dX10_output_2 rfl (lv_at hl 0 rfl) ?_
  refine lv_bipush (v := 25) hx hb dX10_output_3 (by decide) ?_
  refine vp_callSi (va_Run.run (va_runV (As := [.int 25]) (rest := [.int 0, .int i0]) ⟨hx, hb, hml, hown, hts⟩ (c117_X10_sizeOf l D cy h0 h1 h2 h3 h4 h5 h6 h7 h8 h9) (cwV 1 hts (gt_V kt_936 kt_938 kp_29 kt_8 kt_939) rfl rfl rfl (by decide +kernel) ⟨Nat.le_of_ble_eq_true rfl, Nat.le_of_ble_eq_true rfl⟩) (gP_V hK (hP.sub (ws' := (w117 cy h0 h1 h2 h3 h4 h5 h6 h7 h8 h9)) [0, 1] rfl) hP (ci := 9) (q0 := 0) rfl rfl) rfl rfl hl.1 rfl (lv_room (Nat.le_of_ble_eq_true rfl)) dX10_output_5 ⟨Nat.le_of_ble_eq_true rfl, Nat.le_of_ble_eq_true rfl⟩)) (fun r1 hw2 => ?_)
  obtain rfl : r1 = 0 := hw2
  refine lv_iconst (v := 1) hx hb dX10_output_8 (by decide) ?_
  refine lv_isub hx hb dX10_output_9 ?_
  refine lz_i (-1) (by decide) ?_
  refine vp_callSi (va_Run.run (va_runS (As := [.int i0, .int 0, .int (-1)]) (rest := []) ⟨hx, hb, hml, hown, hts⟩ (c83_X10_in l D cy i0) (va_cwS 3 hts (gt_S kt_905 kt_906 kt_8 kt_907) rfl rfl rfl (by decide +kernel) ⟨Nat.le_of_ble_eq_true rfl, Nat.le_of_ble_eq_true rfl⟩) (gP_S hK (hP.sub (ws' := (w83 cy i0)) [] rfl)) rfl rfl hl.1 rfl (lv_room (Nat.le_of_ble_eq_true rfl)) dX10_output_10 ⟨Nat.le_of_ble_eq_true rfl, Nat.le_of_ble_eq_true rfl⟩)) (fun r3 hw4 => ?_)
  obtain rfl : r3 = 0 := hw4
  refine lv_if_eq (tgt := 24) hx hb dX10_output_13 (by decide) (fun _ => ?_) (fun c5 => absurd c5 (by decide))
  refine lv_iconst (v := (-1)) hx hb dX10_output_24 (by decide) ?_
  exact W.iret (v := (-1)) hx hb hr (fun t ht2 hW => ⟨(-1), rfl, rfl, ht2⟩) (fun q h => by cases h) dX10_output_25
def w119 (cy : Nat → ClassId) (h0 h1 h2 h3 h4 h5 h6 h7 h8 h9 : Nat) (i0 : Int32) : va_W := [(h0, .inr (9, [.ref h1, .ref h2, .ref h3, .null, .int 0, .ref h4, .int 0, .int 0, .int 0, .ref h5, .ref h6, .ref h7, .int 0, .int 0, .int 0, .ref h8, .ref h9])), (h7, .inl (cy 0, 8, .inl (fun _ => 0))), (h1, .inl (cy 0, 559, .inl (fun _ => 0)))]
def vw119 (cy : Nat → ClassId) (h0 h1 h2 h3 h4 h5 h6 h7 h8 h9 : Nat) (i0 : Int32) (u : Nat → Nat) : va_W := [(h0, .inr (9, [.ref h1, .ref h2, .ref h3, .null, .int 0, .ref h4, .int 0, .int 0, .int 0, .ref h5, .ref h6, .ref h7, .int 0, .int 0, .int 0, .ref h8, .ref h9])), (h7, .inl (cy 0, 8, .inl (upd (upd (upd (fun _ => 0) 3 (-1)) 2 (-1)) 1 (-1)))), (h1, .inl (cy 0, 559, .inl (fun _ => 0)))]
set_option maxHeartbeats 4000000 in
set_option maxRecDepth 100000 in
theorem c119_X10_isAsked (l : Launch) (D : va_G) (cy : Nat → ClassId) (h0 h1 h2 h3 h4 h5 h6 h7 h8 h9 : Nat) (i0 : Int32) (sz : Nat) : Met l yX10_isAsked (Cond.code yX10_isAsked cX10_isAsked 5 (some .boolean) :: GT) ({ frames := 0, cells := 0, slots := 0, locals := 0 }) (gN D cy (w119 cy h0 h1 h2 h3 h4 h5 h6 h7 h8 h9 i0) [.ref h0, .int i0] sz) (va_Qi (fun (r : Int32) (_ : Nat → Nat) => r = 0) (fun u t => va_P D classes (vw119 cy h0 h1 h2 h3 h4 h5 h6 h7 h8 h9 i0 u) t.heap ∧ va_D (va_A (w119 cy h0 h1 h2 h3 h4 h5 h6 h7 h8 h9 i0) sz) (vw119 cy h0 h1 h2 h3 h4 h5 h6 h7 h8 h9 i0 u)) (va_A (w119 cy h0 h1 h2 h3 h4 h5 h6 h7 h8 h9 i0) sz)) 0 0 (va_A (w119 cy h0 h1 h2 h3 h4 h5 h6 h7 h8 h9 i0) sz) := by
  refine Met.ofW (cc := cX10_isAsked) (maxL := 5) (ret := some .boolean) (by decide) rfl ?_
  intro p e s m args below meth c s₁ B hml hv
  obtain ⟨rfl, hsz, hP, hK, hD0⟩ := hv
  have hx := B.exec
  have hb := B.bytes
  have hr := B.returns
  have hts := atoms_spec (ws := (Cond.code yX10_isAsked cX10_isAsked 5 (some .boolean) :: GT)) B.pre
  have ht : ∀ w ∈ GT, w.before _ s = true := fun w h => hts w (List.mem_cons_of_mem _ h)
  have hown : s.vm.findClass RX10 = some m.cls := findClass_of_methodNamed B.named
  have hlocks := B.notSynchronized
  subst hsz
  have hD := hD0.self (sz := s.heap.size)
  generalize hAe : va_A (w119 cy h0 h1 h2 h3 h4 h5 h6 h7 h8 h9 i0) s.heap.size = A at hD ⊢
  have hA : ∀ q : Nat, s.heap.size ≤ q → A q := fun q h => by rw [← hAe]; exact Or.inr h
  have hS : va_S A s.heap s.heap [] := va_S.rf
  have hD : va_D A ([(h0, .inr (9, [.ref h1, .ref h2, .ref h3, .null, .int 0, .ref h4, .int 0, .int 0, .int 0, .ref h5, .ref h6, .ref h7, .int 0, .int 0, .int 0, .ref h8, .ref h9])), (h7, .inl (cy 0, 8, .inl (fun _ => 0))), (h1, .inl (cy 0, 559, .inl (fun _ => 0)))]) := hD
  have hP : va_P D classes ([(h0, .inr (9, [.ref h1, .ref h2, .ref h3, .null, .int 0, .ref h4, .int 0, .int 0, .int 0, .ref h5, .ref h6, .ref h7, .int 0, .int 0, .int 0, .ref h8, .ref h9])), (h7, .inl (cy 0, 8, .inl (fun _ => 0))), (h1, .inl (cy 0, 559, .inl (fun _ => 0)))]) s.heap := hP
  have hl := lv_entry ([.ref h0, .int i0]) (n := 5) (Nat.le_of_ble_eq_true rfl)
  rw [lg_entry_eq]
  generalize (lg_sl ([.ref h0, .int i0]) ++ List.replicate (5 - (lg_sl ([.ref h0, .int i0])).length) Slot.unset).toArray = ls at hl ⊢
  have hl : lv_has ls 5 [(0, .ref h0), (1, .int i0)] := hl
  refine lv_iload_n hx hb dX10_isAsked_0 rfl (lv_at hl 1 rfl) ?_
  refine lv_istore_n (lv' := [(2, .int i0), (0, .ref h0), (1, .int i0)]) hx hb dX10_isAsked_1 rfl hl (by decide) rfl (fun ls hl => ?_)
  refine lv_aload_n hx hb dX10_isAsked_2 rfl (lv_at hl 1 rfl) ?_
  refine va_get (D := D) (ci := 9) (v := .ref h7) (C := RX10) (T := TX10) (N := 17) hx hb hts i_X10 hown hK.1 hP 0 rfl rfl 11 (by decide) (ht _ kt_860) (fun _ h9 => h9) rfl dX10_isAsked_3 ?_
  refine lv_iconst (v := 4) hx hb dX10_isAsked_6 (by decide) ?_
  refine lv_iconst (v := 0) hx hb dX10_isAsked_7 (by decide) ?_
  refine va_iast hx hb hK.1 hP hD hS 1 0 rfl rfl (vin (by decide)) dX10_isAsked_8 (fun H locs hP hD hS => ?_)
  rw [upd_zero] at hP hD
  have hP : va_P D classes ([(h0, .inr (9, [.ref h1, .ref h2, .ref h3, .null, .int 0, .ref h4, .int 0, .int 0, .int 0, .ref h5, .ref h6, .ref h7, .int 0, .int 0, .int 0, .ref h8, .ref h9])), (h7, .inl (cy 0, 8, .inl (fun _ => 0))), (h1, .inl (cy 0, 559, .inl (fun _ => 0)))]) H := hP
  have hD : va_D A ([(h0, .inr (9, [.ref h1, .ref h2, .ref h3, .null, .int 0, .ref h4, .int 0, .int 0, .int 0, .ref h5, .ref h6, .ref h7, .int 0, .int 0, .int 0, .ref h8, .ref h9])), (h7, .inl (cy 0, 8, .inl (fun _ => 0))), (h1, .inl (cy 0, 559, .inl (fun _ => 0)))]) := hD
  refine lv_iconst (v := 2) hx hb dX10_isAsked_9 (by decide) ?_
  refine lv_istore_n (lv' := [(3, .int 2), (2, .int i0), (0, .ref h0), (1, .int i0)]) hx hb dX10_isAsked_10 rfl hl (by decide) rfl (fun ls hl => ?_)
  refine lv_iload_n hx hb dX10_isAsked_11 rfl (lv_at hl 0 rfl) ?_
  refine lv_if_lt (tgt := 128) hx hb dX10_isAsked_12 (by decide) (fun c1 => absurd c1 (by decide)) (fun _ => ?_)
  refine lv_aload_n hx hb dX10_isAsked_15 rfl (lv_at hl 2 rfl) ?_
  refine va_get (D := D) (ci := 9) (v := .ref h7) (C := RX10) (T := TX10) (N := 17) hx hb hts i_X10 hown hK.1 hP 0 rfl rfl 11 (by decide) (ht _ kt_860) (fun _ h9 => h9) rfl dX10_isAsked_16 ?_
  refine lv_iconst (v := 1) hx hb dX10_isAsked_19 (by decide) ?_
  refine lv_iload_n hx hb dX10_isAsked_20 rfl (lv_at hl 0 rfl) ?_
  refine lv_iadd hx hb dX10_isAsked_21 ?_
  refine lz_i 3 (by decide) ?_
  refine lv_iconst (v := (-1)) hx hb dX10_isAsked_22 (by decide) ?_
  refine va_iast hx hb hK.1 hP hD hS 1 0 rfl rfl (vin (by decide)) dX10_isAsked_23 (fun H locs hP hD hS => ?_)
  have hP : va_P D classes ([(h0, .inr (9, [.ref h1, .ref h2, .ref h3, .null, .int 0, .ref h4, .int 0, .int 0, .int 0, .ref h5, .ref h6, .ref h7, .int 0, .int 0, .int 0, .ref h8, .ref h9])), (h7, .inl (cy 0, 8, .inl (upd (fun _ => 0) 3 (-1)))), (h1, .inl (cy 0, 559, .inl (fun _ => 0)))]) H := hP
  have hD : va_D A ([(h0, .inr (9, [.ref h1, .ref h2, .ref h3, .null, .int 0, .ref h4, .int 0, .int 0, .int 0, .ref h5, .ref h6, .ref h7, .int 0, .int 0, .int 0, .ref h8, .ref h9])), (h7, .inl (cy 0, 8, .inl (upd (fun _ => 0) 3 (-1)))), (h1, .inl (cy 0, 559, .inl (fun _ => 0)))]) := hD
  refine lv_iload_n hx hb dX10_isAsked_24 rfl (lv_at hl 0 rfl) ?_
  refine lv_aload_n hx hb dX10_isAsked_25 rfl (lv_at hl 2 rfl) ?_
  refine va_get (D := D) (ci := 9) (v := .ref h1) (C := RX10) (T := TX10) (N := 17) hx hb hts i_X10 hown hK.1 hP 0 rfl rfl 0 (by decide) (ht _ kt_849) (fun _ h9 => h9) rfl dX10_isAsked_26 ?_
  refine lv_iconst (v := 0) hx hb dX10_isAsked_29 (by decide) ?_
  refine va_iald hx hb hK.1 hP 2 0 rfl rfl (vin (by decide)) dX10_isAsked_30 ?_
  refine lz_i 0 rfl ?_
  refine lv_icmp_lt (tgt := 37) hx hb dX10_isAsked_31 (by decide) (fun c2 => absurd c2 (by decide)) (fun _ => ?_)
  refine lv_goto (tgt := 122) hx hb dX10_isAsked_34 (by decide) ?_
  refine lv_iinc (v := 1) (lv' := [(3, .int 1), (2, .int i0), (0, .ref h0), (1, .int i0)]) hx hb dX10_isAsked_122 hl (k := 0) rfl (by decide) (by decide) rfl (fun ls hl => ?_)
  refine lv_goto (tgt := 11) hx hb dX10_isAsked_125 (by decide) ?_
  refine lv_iload_n hx hb dX10_isAsked_11 rfl (lv_at hl 0 rfl) ?_
  refine lv_if_lt (tgt := 128) hx hb dX10_isAsked_12 (by decide) (fun c3 => absurd c3 (by decide)) (fun _ => ?_)
  refine lv_aload_n hx hb dX10_isAsked_15 rfl (lv_at hl 2 rfl) ?_
  refine va_get (D := D) (ci := 9) (v := .ref h7) (C := RX10) (T := TX10) (N := 17) hx hb hts i_X10 hown hK.1 hP 0 rfl rfl 11 (by decide) (ht _ kt_860) (fun _ h9 => h9) rfl dX10_isAsked_16 ?_
  refine lv_iconst (v := 1) hx hb dX10_isAsked_19 (by decide) ?_
  refine lv_iload_n hx hb dX10_isAsked_20 rfl (lv_at hl 0 rfl) ?_
  refine lv_iadd hx hb dX10_isAsked_21 ?_
  refine lz_i 2 (by decide) ?_
  refine lv_iconst (v := (-1)) hx hb dX10_isAsked_22 (by decide) ?_
  refine va_iast hx hb hK.1 hP hD hS 1 0 rfl rfl (vin (by decide)) dX10_isAsked_23 (fun H locs hP hD hS => ?_)
  have hP : va_P D classes ([(h0, .inr (9, [.ref h1, .ref h2, .ref h3, .null, .int 0, .ref h4, .int 0, .int 0, .int 0, .ref h5, .ref h6, .ref h7, .int 0, .int 0, .int 0, .ref h8, .ref h9])), (h7, .inl (cy 0, 8, .inl (upd (upd (fun _ => 0) 3 (-1)) 2 (-1)))), (h1, .inl (cy 0, 559, .inl (fun _ => 0)))]) H := hP
  have hD : va_D A ([(h0, .inr (9, [.ref h1, .ref h2, .ref h3, .null, .int 0, .ref h4, .int 0, .int 0, .int 0, .ref h5, .ref h6, .ref h7, .int 0, .int 0, .int 0, .ref h8, .ref h9])), (h7, .inl (cy 0, 8, .inl (upd (upd (fun _ => 0) 3 (-1)) 2 (-1)))), (h1, .inl (cy 0, 559, .inl (fun _ => 0)))]) := hD
  refine lv_iload_n hx hb dX10_isAsked_24 rfl (lv_at hl 0 rfl) ?_
  refine lv_aload_n hx hb dX10_isAsked_25 rfl (lv_at hl 2 rfl) ?_
  refine va_get (D := D) (ci := 9) (v := .ref h1) (C := RX10) (T := TX10) (N := 17) hx hb hts i_X10 hown hK.1 hP 0 rfl rfl 0 (by decide) (ht _ kt_849) (fun _ h9 => h9) rfl dX10_isAsked_26 ?_
  refine lv_iconst (v := 0) hx hb dX10_isAsked_29 (by decide) ?_
  refine va_iald hx hb hK.1 hP 2 0 rfl rfl (vin (by decide)) dX10_isAsked_30 ?_
  refine lz_i 0 rfl ?_
  refine lv_icmp_lt (tgt := 37) hx hb dX10_isAsked_31 (by decide) (fun c4 => absurd c4 (by decide)) (fun _ => ?_)
  refine lv_goto (tgt := 122) hx hb dX10_isAsked_34 (by decide) ?_
  refine lv_iinc (v := 0) (lv' := [(3, .int 0), (2, .int i0), (0, .ref h0), (1, .int i0)]) hx hb dX10_isAsked_122 hl (k := 0) rfl (by decide) (by decide) rfl (fun ls hl => ?_)
  refine lv_goto (tgt := 11) hx hb dX10_isAsked_125 (by decide) ?_
  refine lv_iload_n hx hb dX10_isAsked_11 rfl (lv_at hl 0 rfl) ?_
  refine lv_if_lt (tgt := 128) hx hb dX10_isAsked_12 (by decide) (fun c5 => absurd c5 (by decide)) (fun _ => ?_)
  refine lv_aload_n hx hb dX10_isAsked_15 rfl (lv_at hl 2 rfl) ?_
  refine va_get (D := D) (ci := 9) (v := .ref h7) (C := RX10) (T := TX10) (N := 17) hx hb hts i_X10 hown hK.1 hP 0 rfl rfl 11 (by decide) (ht _ kt_860) (fun _ h9 => h9) rfl dX10_isAsked_16 ?_
  refine lv_iconst (v := 1) hx hb dX10_isAsked_19 (by decide) ?_
  refine lv_iload_n hx hb dX10_isAsked_20 rfl (lv_at hl 0 rfl) ?_
  refine lv_iadd hx hb dX10_isAsked_21 ?_
  refine lz_i 1 (by decide) ?_
  refine lv_iconst (v := (-1)) hx hb dX10_isAsked_22 (by decide) ?_
  refine va_iast hx hb hK.1 hP hD hS 1 0 rfl rfl (vin (by decide)) dX10_isAsked_23 (fun H locs hP hD hS => ?_)
  have hP : va_P D classes ([(h0, .inr (9, [.ref h1, .ref h2, .ref h3, .null, .int 0, .ref h4, .int 0, .int 0, .int 0, .ref h5, .ref h6, .ref h7, .int 0, .int 0, .int 0, .ref h8, .ref h9])), (h7, .inl (cy 0, 8, .inl (upd (upd (upd (fun _ => 0) 3 (-1)) 2 (-1)) 1 (-1)))), (h1, .inl (cy 0, 559, .inl (fun _ => 0)))]) H := hP
  have hD : va_D A ([(h0, .inr (9, [.ref h1, .ref h2, .ref h3, .null, .int 0, .ref h4, .int 0, .int 0, .int 0, .ref h5, .ref h6, .ref h7, .int 0, .int 0, .int 0, .ref h8, .ref h9])), (h7, .inl (cy 0, 8, .inl (upd (upd (upd (fun _ => 0) 3 (-1)) 2 (-1)) 1 (-1)))), (h1, .inl (cy 0, 559, .inl (fun _ => 0)))]) := hD
  refine lv_iload_n hx hb dX10_isAsked_24 rfl (lv_at hl 0 rfl) ?_
  refine lv_aload_n hx hb dX10_isAsked_25 rfl (lv_at hl 2 rfl) ?_
  refine va_get (D := D) (ci := 9) (v := .ref h1) (C := RX10) (T := TX10) (N := 17) hx hb hts i_X10 hown hK.1 hP 0 rfl rfl 0 (by decide) (ht _ kt_849) (fun _ h9 => h9) rfl dX10_isAsked_26 ?_
  refine lv_iconst (v := 0) hx hb dX10_isAsked_29 (by decide) ?_
  refine va_iald hx hb hK.1 hP 2 0 rfl rfl (vin (by decide)) dX10_isAsked_30 ?_
  refine lz_i 0 rfl ?_
  refine lv_icmp_lt (tgt := 37) hx hb dX10_isAsked_31 (by decide) (fun c6 => absurd c6 (by decide)) (fun _ => ?_)
  refine lv_goto (tgt := 122) hx hb dX10_isAsked_34 (by decide) ?_
  refine lv_iinc (v := (-1)) (lv' := [(3, .int (-1)), (2, .int i0), (0, .ref h0), (1, .int i0)]) hx hb dX10_isAsked_122 hl (k := 0) rfl (by decide) (by decide) rfl (fun ls hl => ?_)
  refine lv_goto (tgt := 11) hx hb dX10_isAsked_125 (by decide) ?_
  refine lv_iload_n hx hb dX10_isAsked_11 rfl (lv_at hl 0 rfl) ?_
  refine lv_if_lt (tgt := 128) hx hb dX10_isAsked_12 (by decide) (fun _ => ?_) (fun c7 => absurd c7 (by decide))
  refine lv_iload_n hx hb dX10_isAsked_128 rfl (lv_at hl 1 rfl) ?_
  refine lv_if_ne (tgt := 145) hx hb dX10_isAsked_129 (by decide) (fun c8 => ?_) (fun c8 => ?_)
  · have c8 : ¬ i0.toInt = 0 := i_ne c8 rfl rfl
    refine lv_iconst (v := 0) hx hb dX10_isAsked_145 (by decide) ?_
    refine W.widen (k := 0) (n := 0) (Nat.le_of_ble_eq_true rfl) (Nat.le_of_ble_eq_true rfl) ?_
    have hP9 := hP.sub (ws' := [(h0, .inr (9, [.ref h1, .ref h2, .ref h3, .null, .int 0, .ref h4, .int 0, .int 0, .int 0, .ref h5, .ref h6, .ref h7, .int 0, .int 0, .int 0, .ref h8, .ref h9])), (h7, .inl (cy 0, 8, .inl (upd (upd (upd (fun _ => 0) 3 (-1)) 2 (-1)) 1 (-1)))), (h1, .inl (cy 0, 559, .inl (fun _ => 0)))]) [0, 1, 2] rfl
    have hD9 := hD.sub (ws' := [(h0, .inr (9, [.ref h1, .ref h2, .ref h3, .null, .int 0, .ref h4, .int 0, .int 0, .int 0, .ref h5, .ref h6, .ref h7, .int 0, .int 0, .int 0, .ref h8, .ref h9])), (h7, .inl (cy 0, 8, .inl (upd (upd (upd (fun _ => 0) 3 (-1)) 2 (-1)) 1 (-1)))), (h1, .inl (cy 0, 559, .inl (fun _ => 0)))]) [0, 1, 2] (by decide +kernel) rfl
    exact W.zret (v := 0) hx hb hr rfl (fun t ht2 hW => ⟨⟨0, (fun k => ([] : List Nat).getD k 0), rfl, rfl, by rw [ht2]; exact hP9, hD9⟩, hS.F ht2⟩) hS.2.2 dX10_isAsked_146
  · have c8 : i0.toInt = 0 := i_eq c8 rfl rfl
    refine lv_aload_n hx hb dX10_isAsked_132 rfl (lv_at hl 2 rfl) ?_
    refine va_get (D := D) (ci := 9) (v := .ref h1) (C := RX10) (T := TX10) (N := 17) hx hb hts i_X10 hown hK.1 hP 0 rfl rfl 0 (by decide) (ht _ kt_849) (fun _ h9 => h9) rfl dX10_isAsked_133 ?_
    refine lv_iconst (v := 0) hx hb dX10_isAsked_136 (by decide) ?_
    refine va_iald hx hb hK.1 hP 2 0 rfl rfl (vin (by decide)) dX10_isAsked_137 ?_
    refine lz_i 0 rfl ?_
    refine lv_if_le (tgt := 145) hx hb dX10_isAsked_138 (by decide) (fun _ => ?_) (fun c9 => absurd c9 (by decide))
    refine lv_iconst (v := 0) hx hb dX10_isAsked_145 (by decide) ?_
    refine W.widen (k := 0) (n := 0) (Nat.le_of_ble_eq_true rfl) (Nat.le_of_ble_eq_true rfl) ?_
    have hP9 := hP.sub (ws' := [(h0, .inr (9, [.ref h1, .ref h2, .ref h3, .null, .int 0, .ref h4, .int 0, .int 0, .int 0, .ref h5, .ref h6, .ref h7, .int 0, .int 0, .int 0, .ref h8, .ref h9])), (h7, .inl (cy 0, 8, .inl (upd (upd (upd (fun _ => 0) 3 (-1)) 2 (-1)) 1 (-1)))), (h1, .inl (cy 0, 559, .inl (fun _ => 0)))]) [0, 1, 2] rfl
    have hD9 := hD.sub (ws' := [(h0, .inr (9, [.ref h1, .ref h2, .ref h3, .null, .int 0, .ref h4, .int 0, .int 0, .int 0, .ref h5, .ref h6, .ref h7, .int 0, .int 0, .int 0, .ref h8, .ref h9])), (h7, .inl (cy 0, 8, .inl (upd (upd (upd (fun _ => 0) 3 (-1)) 2 (-1)) 1 (-1)))), (h1, .inl (cy 0, 559, .inl (fun _ => 0)))]) [0, 1, 2] (by decide +kernel) rfl
    exact W.zret (v := 0) hx hb hr rfl (fun t ht2 hW => ⟨⟨0, (fun k => ([] : List Nat).getD k 0), rfl, rfl, by rw [ht2]; exact hP9, hD9⟩, hS.F ht2⟩) hS.2.2 dX10_isAsked_146
def w120 (cy : Nat → ClassId) (h0 h1 h2 h3 h4 h5 h6 h7 h8 h9 : Nat) (i0 : Int32) : va_W := [(h0, .inr (9, [.ref h1, .ref h2, .ref h3, .null, .int 0, .ref h4, .int 0, .int 0, .int 0, .ref h5, .ref h6, .ref h7, .int 0, .int 0, .int 0, .ref h8, .ref h9])), (h7, .inl (cy 0, 8, .inl (fun _ => 0))), (h1, .inl (cy 0, 559, .inl (fun _ => 0)))]
set_option maxHeartbeats 4000000 in
set_option maxRecDepth 100000 in
theorem c120_X10_where (l : Launch) (D : va_G) (cy : Nat → ClassId) (h0 h1 h2 h3 h4 h5 h6 h7 h8 h9 : Nat) (i0 : Int32) (sz : Nat) : Met l yX10_where (Cond.code yX10_where cX10_where 3 (some .int) :: GT) ({ frames := 1, cells := 0, slots := 0, locals := 24 }) (gN D cy (w120 cy h0 h1 h2 h3 h4 h5 h6 h7 h8 h9 i0) [.ref h0, .int i0] sz) (va_Qi (fun (r : Int32) (_ : Unit) => r = (-1)) (fun _ _ => True) (va_A (w120 cy h0 h1 h2 h3 h4 h5 h6 h7 h8 h9 i0) sz)) 0 0 (va_A (w120 cy h0 h1 h2 h3 h4 h5 h6 h7 h8 h9 i0) sz) := by
  refine Met.ofW (cc := cX10_where) (maxL := 3) (ret := some .int) (by decide) rfl ?_
  intro p e s m args below meth c s₁ B hml hv
  obtain ⟨rfl, hsz, hP, hK, hD0⟩ := hv
  have hx := B.exec
  have hb := B.bytes
  have hr := B.returns
  have hts := atoms_spec (ws := (Cond.code yX10_where cX10_where 3 (some .int) :: GT)) B.pre
  have ht : ∀ w ∈ GT, w.before _ s = true := fun w h => hts w (List.mem_cons_of_mem _ h)
  have hown : s.vm.findClass RX10 = some m.cls := findClass_of_methodNamed B.named
  have hlocks := B.notSynchronized
  subst hsz
  have hD := hD0.self (sz := s.heap.size)
  generalize hAe : va_A (w120 cy h0 h1 h2 h3 h4 h5 h6 h7 h8 h9 i0) s.heap.size = A at hD ⊢
  have hA : ∀ q : Nat, s.heap.size ≤ q → A q := fun q h => by rw [← hAe]; exact Or.inr h
  have hS : va_S A s.heap s.heap [] := va_S.rf
  have hD : va_D A ([(h0, .inr (9, [.ref h1, .ref h2, .ref h3, .null, .int 0, .ref h4, .int 0, .int 0, .int 0, .ref h5, .ref h6, .ref h7, .int 0, .int 0, .int 0, .ref h8, .ref h9])), (h7, .inl (cy 0, 8, .inl (fun _ => 0))), (h1, .inl (cy 0, 559, .inl (fun _ => 0)))]) := hD
  have hP : va_P D classes ([(h0, .inr (9, [.ref h1, .ref h2, .ref h3, .null, .int 0, .ref h4, .int 0, .int 0, .int 0, .ref h5, .ref h6, .ref h7, .int 0, .int 0, .int 0, .ref h8, .ref h9])), (h7, .inl (cy 0, 8, .inl (fun _ => 0))), (h1, .inl (cy 0, 559, .inl (fun _ => 0)))]) s.heap := hP
  have hl := lv_entry ([.ref h0, .int i0]) (n := 3) (Nat.le_of_ble_eq_true rfl)
  rw [lg_entry_eq]
  generalize (lg_sl ([.ref h0, .int i0]) ++ List.replicate (3 - (lg_sl ([.ref h0, .int i0])).length) Slot.unset).toArray = ls at hl ⊢
  have hl : lv_has ls 3 [(0, .ref h0), (1, .int i0)] := hl
  refine lv_aload_n hx hb dX10_where_0 rfl (lv_at hl 0 rfl) ?_
  refine lv_iload_n hx hb dX10_where_1 rfl (lv_at hl 1 rfl) ?_
  have hPc := hP.sub (ws' := (w119 cy h0 h1 h2 h3 h4 h5 h6 h7 h8 h9 i0)) [0, 1, 2] rfl
  have hDc := hD.sub (ws' := (w119 cy h0 h1 h2 h3 h4 h5 h6 h7 h8 h9 i0)) [0, 1, 2] (by decide +kernel) rfl
  have hFc := va_free (wc := (w119 cy h0 h1 h2 h3 h4 h5 h6 h7 h8 h9 i0)) hD hS hA [0, 1, 2] rfl
  refine va_calli (va_runV (As := [.int i0]) (rest := []) ⟨hx, hb, hml, hown, hts⟩ (c119_X10_isAsked l D cy h0 h1 h2 h3 h4 h5 h6 h7 h8 h9 i0 s.heap.size) (cwV 1 hts (gt_V kt_1134 kt_1136 kp_62 kt_8 kt_1137) rfl rfl rfl (by decide +kernel) ⟨Nat.le_of_ble_eq_true rfl, Nat.le_of_ble_eq_true rfl⟩) (gN_V hK hPc hDc hP (ci := 9) (q0 := 0) rfl rfl) rfl rfl hl.1 rfl (lv_room (Nat.le_of_ble_eq_true rfl)) dX10_where_2 ⟨Nat.le_of_ble_eq_true rfl, Nat.le_of_ble_eq_true rfl⟩) hS (fun q _ h => hFc q h) hFc (fun r1 u3 t H1 locs ht2 hvm hw2 hB hz1 hk1 hS => ?_)
  obtain ⟨hP1, hD1⟩ := hB
  rw [ht2] at hP1
  obtain ⟨hP, hD⟩ := va_join (wr := ([] : va_W)) (w1 := (vw119 cy h0 h1 h2 h3 h4 h5 h6 h7 h8 h9 i0 u3)) hP hD [0, 1, 2] [] rfl rfl (by decide +kernel) (by decide +kernel) hk1 hFc hP1 hD1
  generalize H1 = H at hP hS ⊢
  have hP : va_P D classes ([(h0, .inr (9, [.ref h1, .ref h2, .ref h3, .null, .int 0, .ref h4, .int 0, .int 0, .int 0, .ref h5, .ref h6, .ref h7, .int 0, .int 0, .int 0, .ref h8, .ref h9])), (h7, .inl (cy 0, 8, .inl (upd (upd (upd (fun _ => 0) 3 (-1)) 2 (-1)) 1 (-1)))), (h1, .inl (cy 0, 559, .inl (fun _ => 0)))]) H := hP
  have hD : va_D A ([(h0, .inr (9, [.ref h1, .ref h2, .ref h3, .null, .int 0, .ref h4, .int 0, .int 0, .int 0, .ref h5, .ref h6, .ref h7, .int 0, .int 0, .int 0, .ref h8, .ref h9])), (h7, .inl (cy 0, 8, .inl (upd (upd (upd (fun _ => 0) 3 (-1)) 2 (-1)) 1 (-1)))), (h1, .inl (cy 0, 559, .inl (fun _ => 0)))]) := hD
  refine W.widen (k := 0) (n := 0) (Nat.le_of_ble_eq_true rfl) (Nat.le_of_ble_eq_true rfl) ?_
  obtain rfl : r1 = 0 := hw2
  refine lv_if_ne (tgt := 10) hx hb dX10_where_5 (by decide) (fun c4 => absurd c4 (by decide)) (fun _ => ?_)
  refine lv_iconst (v := (-1)) hx hb dX10_where_8 (by decide) ?_
  refine W.widen (k := 0) (n := 0) (Nat.le_of_ble_eq_true rfl) (Nat.le_of_ble_eq_true rfl) ?_
  exact W.iret (v := (-1)) hx hb hr (fun t ht2 hW => ⟨⟨(-1), (), rfl, rfl, trivial⟩, hS.F ht2⟩) hS.2.2 dX10_where_9
def w121 (cy : Nat → ClassId) (i0 : Int32) : va_W := []
set_option maxHeartbeats 4000000 in
set_option maxRecDepth 100000 in
theorem c121_X10_in (l : Launch) (D : va_G) (cy : Nat → ClassId) (i0 : Int32) : Met l yX10_in (Cond.code yX10_in cX10_in 3 (some .boolean) :: GT) ({ frames := 0, cells := 0, slots := 0, locals := 0 }) (gP D cy (w121 cy i0) [.int i0, .int 0, .int 2]) (vp_Si (fun r => (i0.toInt < 0 ∧ r = 0) ∨ (¬ i0.toInt < 0 ∧ 2 < i0.toInt ∧ r = 0) ∨ (¬ i0.toInt < 0 ∧ ¬ 2 < i0.toInt ∧ r = 1))) 0 0 (fun _ => False) := by
  refine Met.ofW (cc := cX10_in) (maxL := 3) (ret := some .boolean) (by decide) rfl ?_
  intro p e s m args below meth c s₁ B hml hv
  obtain ⟨rfl, hP, hK⟩ := hv
  have hx := B.exec
  have hb := B.bytes
  have hr := B.returns
  have hts := atoms_spec (ws := (Cond.code yX10_in cX10_in 3 (some .boolean) :: GT)) B.pre
  have ht : ∀ w ∈ GT, w.before _ s = true := fun w h => hts w (List.mem_cons_of_mem _ h)
  have hown : s.vm.findClass RX10 = some m.cls := findClass_of_methodNamed B.named
  have hlocks := B.notSynchronized
  have hP : va_P D classes ([]) s.heap := hP
  have hl := lv_entry ([.int i0, .int 0, .int 2]) (n := 3) (Nat.le_of_ble_eq_true rfl)
  rw [lg_entry_eq]
  generalize (lg_sl ([.int i0, .int 0, .int 2]) ++ List.replicate (3 - (lg_sl ([.int i0, .int 0, .int 2])).length) Slot.unset).toArray = ls at hl ⊢
  have hl : lv_has ls 3 [(0, .int i0), (1, .int 0), (2, .int 2)] := hl
  refine lv_iload_n hx hb dX10_in_0 rfl (lv_at hl 0 rfl) ?_
  refine lv_iload_n hx hb dX10_in_1 rfl (lv_at hl 1 rfl) ?_
  refine lv_icmp_lt (tgt := 14) hx hb dX10_in_2 (by decide) (fun c1 => ?_) (fun c1 => ?_)
  · have c1 : i0.toInt < 0 := i_lt c1 rfl rfl
    refine lv_iconst (v := 0) hx hb dX10_in_14 (by decide) ?_
    exact W.zret (v := 0) hx hb hr rfl (fun t ht2 hW => ⟨0, rfl, (Or.inl ⟨c1, rfl⟩), ht2⟩) (fun q h => by cases h) dX10_in_15
  · have c1 : ¬ i0.toInt < 0 := i_nlt c1 rfl rfl
    refine lv_iload_n hx hb dX10_in_5 rfl (lv_at hl 0 rfl) ?_
    refine lv_iload_n hx hb dX10_in_6 rfl (lv_at hl 2 rfl) ?_
    refine lv_icmp_gt (tgt := 14) hx hb dX10_in_7 (by decide) (fun c2 => ?_) (fun c2 => ?_)
    · have c2 : 2 < i0.toInt := i_lt c2 rfl rfl
      refine lv_iconst (v := 0) hx hb dX10_in_14 (by decide) ?_
      exact W.zret (v := 0) hx hb hr rfl (fun t ht2 hW => ⟨0, rfl, (Or.inr (Or.inl ⟨c1, c2, rfl⟩)), ht2⟩) (fun q h => by cases h) dX10_in_15
    · have c2 : ¬ 2 < i0.toInt := i_nlt c2 rfl rfl
      refine lv_iconst (v := 1) hx hb dX10_in_10 (by decide) ?_
      refine lv_goto (tgt := 15) hx hb dX10_in_11 (by decide) ?_
      exact W.zret (v := 1) hx hb hr rfl (fun t ht2 hW => ⟨1, rfl, (Or.inr (Or.inr (⟨c1, c2, rfl⟩))), ht2⟩) (fun q h => by cases h) dX10_in_15
def w122 (cy : Nat → ClassId) (h0 h1 h2 h3 h4 h5 h6 h7 h8 h9 : Nat) : va_W := [(h0, .inr (9, [.ref h1, .ref h2, .ref h3, .null, .int 0, .ref h4, .int 0, .int 0, .int 0, .ref h5, .ref h6, .ref h7, .int 0, .int 0, .int 0, .ref h8, .ref h9])), (h1, .inl (cy 0, 559, .inl (fun _ => 0)))]
def vw122 (cy : Nat → ClassId) (h0 h1 h2 h3 h4 h5 h6 h7 h8 h9 : Nat) (u : Nat → Nat) : va_W := [(h0, .inr (9, [.ref h1, .ref h2, .ref h3, .null, .int 0, .ref h4, .int 0, .int 0, .int 0, .ref h5, .ref h6, .ref h7, .int 0, .int (-5), .int 1, .ref h8, .ref h9])), (h1, .inl (cy 0, 559, .inl (fun _ => 0)))]
set_option maxHeartbeats 4000000 in
set_option maxRecDepth 100000 in
theorem c122_X10_findAnswer (l : Launch) (D : va_G) (cy : Nat → ClassId) (h0 h1 h2 h3 h4 h5 h6 h7 h8 h9 : Nat) (sz : Nat) : Met l yX10_findAnswer (Cond.code yX10_findAnswer cX10_findAnswer 7 (none) :: GT) ({ frames := 0, cells := 0, slots := 0, locals := 0 }) (gN D cy (w122 cy h0 h1 h2 h3 h4 h5 h6 h7 h8 h9) [.ref h0] sz) (va_Qv (fun _ : Nat → Nat => True) (fun u t => va_P D classes (vw122 cy h0 h1 h2 h3 h4 h5 h6 h7 h8 h9 u) t.heap ∧ va_D (va_A (w122 cy h0 h1 h2 h3 h4 h5 h6 h7 h8 h9) sz) (vw122 cy h0 h1 h2 h3 h4 h5 h6 h7 h8 h9 u)) (va_A (w122 cy h0 h1 h2 h3 h4 h5 h6 h7 h8 h9) sz)) 0 0 (va_A (w122 cy h0 h1 h2 h3 h4 h5 h6 h7 h8 h9) sz) := by
  refine Met.ofW (cc := cX10_findAnswer) (maxL := 7) (ret := none) (by decide) rfl ?_
  intro p e s m args below meth c s₁ B hml hv
  obtain ⟨rfl, hsz, hP, hK, hD0⟩ := hv
  have hx := B.exec
  have hb := B.bytes
  have hr := B.returns
  have hts := atoms_spec (ws := (Cond.code yX10_findAnswer cX10_findAnswer 7 (none) :: GT)) B.pre
  have ht : ∀ w ∈ GT, w.before _ s = true := fun w h => hts w (List.mem_cons_of_mem _ h)
  have hown : s.vm.findClass RX10 = some m.cls := findClass_of_methodNamed B.named
  have hlocks := B.notSynchronized
  subst hsz
  have hD := hD0.self (sz := s.heap.size)
  generalize hAe : va_A (w122 cy h0 h1 h2 h3 h4 h5 h6 h7 h8 h9) s.heap.size = A at hD ⊢
  have hA : ∀ q : Nat, s.heap.size ≤ q → A q := fun q h => by rw [← hAe]; exact Or.inr h
  have hS : va_S A s.heap s.heap [] := va_S.rf
  have hD : va_D A ([(h0, .inr (9, [.ref h1, .ref h2, .ref h3, .null, .int 0, .ref h4, .int 0, .int 0, .int 0, .ref h5, .ref h6, .ref h7, .int 0, .int 0, .int 0, .ref h8, .ref h9])), (h1, .inl (cy 0, 559, .inl (fun _ => 0)))]) := hD
  have hP : va_P D classes ([(h0, .inr (9, [.ref h1, .ref h2, .ref h3, .null, .int 0, .ref h4, .int 0, .int 0, .int 0, .ref h5, .ref h6, .ref h7, .int 0, .int 0, .int 0, .ref h8, .ref h9])), (h1, .inl (cy 0, 559, .inl (fun _ => 0)))]) s.heap := hP
  have hl := lv_entry ([.ref h0]) (n := 7) (Nat.le_of_ble_eq_true rfl)
  rw [lg_entry_eq]
  generalize (lg_sl ([.ref h0]) ++ List.replicate (7 - (lg_sl ([.ref h0])).length) Slot.unset).toArray = ls at hl ⊢
  have hl : lv_has ls 7 [(0, .ref h0)] := hl
  refine lv_aload_n hx hb dX10_findAnswer_0 rfl (lv_at hl 0 rfl) ?_
  refine lv_iconst (v := 0) hx hb dX10_findAnswer_1 (by decide) ?_
  refine va_put (D := D) (ci := 9) (v := .int 0) (ty := .int) (C := RX10) (T := TX10) (N := 17) hx hb hts i_X10 tyX10 tyX10_ok nmX10 hown hK.1 hP hD hS 0 rfl rfl 12 (by decide) (ht _ kt_861) (fun _ h9 => h9) rfl (by decide +kernel) rfl rfl (Nat.le_of_ble_eq_true rfl) dX10_findAnswer_2 (fun H locs hP hD hS => ?_)
  have hP : va_P D classes ([(h0, .inr (9, [.ref h1, .ref h2, .ref h3, .null, .int 0, .ref h4, .int 0, .int 0, .int 0, .ref h5, .ref h6, .ref h7, .int 0, .int 0, .int 0, .ref h8, .ref h9])), (h1, .inl (cy 0, 559, .inl (fun _ => 0)))]) H := hP
  have hD : va_D A ([(h0, .inr (9, [.ref h1, .ref h2, .ref h3, .null, .int 0, .ref h4, .int 0, .int 0, .int 0, .ref h5, .ref h6, .ref h7, .int 0, .int 0, .int 0, .ref h8, .ref h9])), (h1, .inl (cy 0, 559, .inl (fun _ => 0)))]) := hD
  refine lv_aload_n hx hb dX10_findAnswer_5 rfl (lv_at hl 0 rfl) ?_
  refine lv_bipush (v := (-5)) hx hb dX10_findAnswer_6 (by decide) ?_
  refine va_put (D := D) (ci := 9) (v := .int (-5)) (ty := .int) (C := RX10) (T := TX10) (N := 17) hx hb hts i_X10 tyX10 tyX10_ok nmX10 hown hK.1 hP hD hS 0 rfl rfl 13 (by decide) (ht _ kt_862) (fun _ h9 => h9) rfl (by decide +kernel) rfl rfl (Nat.le_of_ble_eq_true rfl) dX10_findAnswer_8 (fun H locs hP hD hS => ?_)
  have hP : va_P D classes ([(h0, .inr (9, [.ref h1, .ref h2, .ref h3, .null, .int 0, .ref h4, .int 0, .int 0, .int 0, .ref h5, .ref h6, .ref h7, .int 0, .int (-5), .int 0, .ref h8, .ref h9])), (h1, .inl (cy 0, 559, .inl (fun _ => 0)))]) H := hP
  have hD : va_D A ([(h0, .inr (9, [.ref h1, .ref h2, .ref h3, .null, .int 0, .ref h4, .int 0, .int 0, .int 0, .ref h5, .ref h6, .ref h7, .int 0, .int (-5), .int 0, .ref h8, .ref h9])), (h1, .inl (cy 0, 559, .inl (fun _ => 0)))]) := hD
  refine lv_aload_n hx hb dX10_findAnswer_11 rfl (lv_at hl 0 rfl) ?_
  refine lv_iconst (v := 1) hx hb dX10_findAnswer_12 (by decide) ?_
  refine va_put (D := D) (ci := 9) (v := .int 1) (ty := .boolean) (C := RX10) (T := TX10) (N := 17) hx hb hts i_X10 tyX10 tyX10_ok nmX10 hown hK.1 hP hD hS 0 rfl rfl 14 (by decide) (ht _ kt_863) (fun _ h9 => h9) rfl (by decide +kernel) rfl rfl (Nat.le_of_ble_eq_true rfl) dX10_findAnswer_13 (fun H locs hP hD hS => ?_)
  have hP : va_P D classes ([(h0, .inr (9, [.ref h1, .ref h2, .ref h3, .null, .int 0, .ref h4, .int 0, .int 0, .int 0, .ref h5, .ref h6, .ref h7, .int 0, .int (-5), .int 1, .ref h8, .ref h9])), (h1, .inl (cy 0, 559, .inl (fun _ => 0)))]) H := hP
  have hD : va_D A ([(h0, .inr (9, [.ref h1, .ref h2, .ref h3, .null, .int 0, .ref h4, .int 0, .int 0, .int 0, .ref h5, .ref h6, .ref h7, .int 0, .int (-5), .int 1, .ref h8, .ref h9])), (h1, .inl (cy 0, 559, .inl (fun _ => 0)))]) := hD
  refine lv_aload_n hx hb dX10_findAnswer_16 rfl (lv_at hl 0 rfl) ?_
  refine va_get (D := D) (ci := 9) (v := .ref h1) (C := RX10) (T := TX10) (N := 17) hx hb hts i_X10 hown hK.1 hP 0 rfl rfl 0 (by decide) (ht _ kt_849) (fun _ h9 => h9) rfl dX10_findAnswer_17 ?_
  refine lv_iconst (v := 0) hx hb dX10_findAnswer_20 (by decide) ?_
  refine va_iald hx hb hK.1 hP 1 0 rfl rfl (vin (by decide)) dX10_findAnswer_21 ?_
  refine lz_i 0 rfl ?_
  refine lv_if_ne (tgt := 29) hx hb dX10_findAnswer_22 (by decide) (fun c1 => absurd c1 (by decide)) (fun _ => ?_)
  refine lv_iconst (v := 0) hx hb dX10_findAnswer_25 (by decide) ?_
  refine lv_goto (tgt := 46) hx hb dX10_findAnswer_26 (by decide) ?_
  refine lv_istore_n (lv' := [(1, .int 0), (0, .ref h0)]) hx hb dX10_findAnswer_46 rfl hl (by decide) rfl (fun ls hl => ?_)
  refine lv_iconst (v := 0) hx hb dX10_findAnswer_47 (by decide) ?_
  refine lv_istore_n (lv' := [(2, .int 0), (1, .int 0), (0, .ref h0)]) hx hb dX10_findAnswer_48 rfl hl (by decide) rfl (fun ls hl => ?_)
  refine lv_iload_n hx hb dX10_findAnswer_49 rfl (lv_at hl 0 rfl) ?_
  refine lv_iload_n hx hb dX10_findAnswer_50 rfl (lv_at hl 1 rfl) ?_
  refine lv_icmp_ge (tgt := 251) hx hb dX10_findAnswer_51 (by decide) (fun _ => ?_) (fun c2 => absurd c2 (by decide))
  refine W.widen (k := 0) (n := 0) (Nat.le_of_ble_eq_true rfl) (Nat.le_of_ble_eq_true rfl) ?_
  have hP9 := hP.sub (ws' := [(h0, .inr (9, [.ref h1, .ref h2, .ref h3, .null, .int 0, .ref h4, .int 0, .int 0, .int 0, .ref h5, .ref h6, .ref h7, .int 0, .int (-5), .int 1, .ref h8, .ref h9])), (h1, .inl (cy 0, 559, .inl (fun _ => 0)))]) [0, 1] rfl
  have hD9 := hD.sub (ws' := [(h0, .inr (9, [.ref h1, .ref h2, .ref h3, .null, .int 0, .ref h4, .int 0, .int 0, .int 0, .ref h5, .ref h6, .ref h7, .int 0, .int (-5), .int 1, .ref h8, .ref h9])), (h1, .inl (cy 0, 559, .inl (fun _ => 0)))]) [0, 1] (by decide +kernel) rfl
  exact W.vret hx hb hr (fun t ht2 hW => ⟨⟨(fun k => ([] : List Nat).getD k 0), rfl, trivial, by rw [ht2]; exact hP9, hD9⟩, hS.F ht2⟩) hS.2.2 dX10_findAnswer_251
def w123 (cy : Nat → ClassId) (h0 h1 h2 h3 h4 h5 h6 h7 h8 h9 : Nat) : va_W := [(h0, .inr (9, [.ref h1, .ref h2, .ref h3, .null, .int 0, .ref h4, .int 0, .int 0, .int 0, .ref h5, .ref h6, .ref h7, .int 0, .int (-5), .int 1, .ref h8, .ref h9])), (h1, .inl (cy 0, 559, .inl (fun _ => 0)))]
set_option maxHeartbeats 4000000 in
set_option maxRecDepth 100000 in
theorem c123_X10_sizeOf (l : Launch) (D : va_G) (cy : Nat → ClassId) (h0 h1 h2 h3 h4 h5 h6 h7 h8 h9 : Nat) : Met l yX10_sizeOf (Cond.code yX10_sizeOf cX10_sizeOf 2 (some .int) :: GT) ({ frames := 0, cells := 0, slots := 0, locals := 0 }) (gP D cy (w123 cy h0 h1 h2 h3 h4 h5 h6 h7 h8 h9) [.ref h0, .int 0]) (vp_Si (fun r => r = 0)) 0 0 (fun _ => False) := by
  refine Met.ofW (cc := cX10_sizeOf) (maxL := 2) (ret := some .int) (by decide) rfl ?_
  intro p e s m args below meth c s₁ B hml hv
  obtain ⟨rfl, hP, hK⟩ := hv
  have hx := B.exec
  have hb := B.bytes
  have hr := B.returns
  have hts := atoms_spec (ws := (Cond.code yX10_sizeOf cX10_sizeOf 2 (some .int) :: GT)) B.pre
  have ht : ∀ w ∈ GT, w.before _ s = true := fun w h => hts w (List.mem_cons_of_mem _ h)
  have hown : s.vm.findClass RX10 = some m.cls := findClass_of_methodNamed B.named
  have hlocks := B.notSynchronized
  have hP : va_P D classes ([(h0, .inr (9, [.ref h1, .ref h2, .ref h3, .null, .int 0, .ref h4, .int 0, .int 0, .int 0, .ref h5, .ref h6, .ref h7, .int 0, .int (-5), .int 1, .ref h8, .ref h9])), (h1, .inl (cy 0, 559, .inl (fun _ => 0)))]) s.heap := hP
  have hl := lv_entry ([.ref h0, .int 0]) (n := 2) (Nat.le_of_ble_eq_true rfl)
  rw [lg_entry_eq]
  generalize (lg_sl ([.ref h0, .int 0]) ++ List.replicate (2 - (lg_sl ([.ref h0, .int 0])).length) Slot.unset).toArray = ls at hl ⊢
  have hl : lv_has ls 2 [(0, .ref h0), (1, .int 0)] := hl
  refine lv_aload_n hx hb dX10_sizeOf_0 rfl (lv_at hl 0 rfl) ?_
  refine va_get (D := D) (ci := 9) (v := .ref h1) (C := RX10) (T := TX10) (N := 17) hx hb hts i_X10 hown hK.1 hP 0 rfl rfl 0 (by decide) (ht _ kt_849) (fun _ h9 => h9) rfl dX10_sizeOf_1 ?_
  refine lv_sipush (v := 533) hx hb dX10_sizeOf_4 (by decide) ?_
  refine lv_iload_n hx hb dX10_sizeOf_7 rfl (lv_at hl 1 rfl) ?_
  refine lv_iadd hx hb dX10_sizeOf_8 ?_
  refine lz_i 533 (by decide) ?_
  refine va_iald hx hb hK.1 hP 1 0 rfl rfl (vin (by decide)) dX10_sizeOf_9 ?_
  refine lz_i 0 rfl ?_
  refine lv_aload_n hx hb dX10_sizeOf_10 rfl (lv_at hl 0 rfl) ?_
  refine va_get (D := D) (ci := 9) (v := .ref h1) (C := RX10) (T := TX10) (N := 17) hx hb hts i_X10 hown hK.1 hP 0 rfl rfl 0 (by decide) (ht _ kt_849) (fun _ h9 => h9) rfl dX10_sizeOf_11 ?_
  refine lv_sipush (v := 507) hx hb dX10_sizeOf_14 (by decide) ?_
  refine lv_iload_n hx hb dX10_sizeOf_17 rfl (lv_at hl 1 rfl) ?_
  refine lv_iadd hx hb dX10_sizeOf_18 ?_
  refine lz_i 507 (by decide) ?_
  refine va_iald hx hb hK.1 hP 1 0 rfl rfl (vin (by decide)) dX10_sizeOf_19 ?_
  refine lz_i 0 rfl ?_
  refine lv_isub hx hb dX10_sizeOf_20 ?_
  refine lz_i 0 (by decide) ?_
  exact W.iret (v := 0) hx hb hr (fun t ht2 hW => ⟨0, rfl, rfl, ht2⟩) (fun q h => by cases h) dX10_sizeOf_21
def w124 (cy : Nat → ClassId) (h0 h1 h2 h3 h4 h5 h6 h7 h8 h9 : Nat) : va_W := [(h0, .inr (9, [.ref h1, .ref h2, .ref h3, .null, .int 0, .ref h4, .int 0, .int 0, .int 0, .ref h5, .ref h6, .ref h7, .int 0, .int (-5), .int 1, .ref h8, .ref h9])), (h1, .inl (cy 0, 559, .inl (fun _ => 0)))]
set_option maxHeartbeats 4000000 in
set_option maxRecDepth 100000 in
theorem c124_X10_sizeOf (l : Launch) (D : va_G) (cy : Nat → ClassId) (h0 h1 h2 h3 h4 h5 h6 h7 h8 h9 : Nat) : Met l yX10_sizeOf (Cond.code yX10_sizeOf cX10_sizeOf 2 (some .int) :: GT) ({ frames := 0, cells := 0, slots := 0, locals := 0 }) (gP D cy (w124 cy h0 h1 h2 h3 h4 h5 h6 h7 h8 h9) [.ref h0, .int 25]) (vp_Si (fun r => r = 0)) 0 0 (fun _ => False) := by
  refine Met.ofW (cc := cX10_sizeOf) (maxL := 2) (ret := some .int) (by decide) rfl ?_
  intro p e s m args below meth c s₁ B hml hv
  obtain ⟨rfl, hP, hK⟩ := hv
  have hx := B.exec
  have hb := B.bytes
  have hr := B.returns
  have hts := atoms_spec (ws := (Cond.code yX10_sizeOf cX10_sizeOf 2 (some .int) :: GT)) B.pre
  have ht : ∀ w ∈ GT, w.before _ s = true := fun w h => hts w (List.mem_cons_of_mem _ h)
  have hown : s.vm.findClass RX10 = some m.cls := findClass_of_methodNamed B.named
  have hlocks := B.notSynchronized
  have hP : va_P D classes ([(h0, .inr (9, [.ref h1, .ref h2, .ref h3, .null, .int 0, .ref h4, .int 0, .int 0, .int 0, .ref h5, .ref h6, .ref h7, .int 0, .int (-5), .int 1, .ref h8, .ref h9])), (h1, .inl (cy 0, 559, .inl (fun _ => 0)))]) s.heap := hP
  have hl := lv_entry ([.ref h0, .int 25]) (n := 2) (Nat.le_of_ble_eq_true rfl)
  rw [lg_entry_eq]
  generalize (lg_sl ([.ref h0, .int 25]) ++ List.replicate (2 - (lg_sl ([.ref h0, .int 25])).length) Slot.unset).toArray = ls at hl ⊢
  have hl : lv_has ls 2 [(0, .ref h0), (1, .int 25)] := hl
  refine lv_aload_n hx hb dX10_sizeOf_0 rfl (lv_at hl 0 rfl) ?_
  refine va_get (D := D) (ci := 9) (v := .ref h1) (C := RX10) (T := TX10) (N := 17) hx hb hts i_X10 hown hK.1 hP 0 rfl rfl 0 (by decide) (ht _ kt_849) (fun _ h9 => h9) rfl dX10_sizeOf_1 ?_
  refine lv_sipush (v := 533) hx hb dX10_sizeOf_4 (by decide) ?_
  refine lv_iload_n hx hb dX10_sizeOf_7 rfl (lv_at hl 1 rfl) ?_
  refine lv_iadd hx hb dX10_sizeOf_8 ?_
  refine lz_i 558 (by decide) ?_
  refine va_iald hx hb hK.1 hP 1 0 rfl rfl (vin (by decide)) dX10_sizeOf_9 ?_
  refine lz_i 0 rfl ?_
  refine lv_aload_n hx hb dX10_sizeOf_10 rfl (lv_at hl 0 rfl) ?_
  refine va_get (D := D) (ci := 9) (v := .ref h1) (C := RX10) (T := TX10) (N := 17) hx hb hts i_X10 hown hK.1 hP 0 rfl rfl 0 (by decide) (ht _ kt_849) (fun _ h9 => h9) rfl dX10_sizeOf_11 ?_
  refine lv_sipush (v := 507) hx hb dX10_sizeOf_14 (by decide) ?_
  refine lv_iload_n hx hb dX10_sizeOf_17 rfl (lv_at hl 1 rfl) ?_
  refine lv_iadd hx hb dX10_sizeOf_18 ?_
  refine lz_i 532 (by decide) ?_
  refine va_iald hx hb hK.1 hP 1 0 rfl rfl (vin (by decide)) dX10_sizeOf_19 ?_
  refine lz_i 0 rfl ?_
  refine lv_isub hx hb dX10_sizeOf_20 ?_
  refine lz_i 0 (by decide) ?_
  exact W.iret (v := 0) hx hb hr (fun t ht2 hW => ⟨0, rfl, rfl, ht2⟩) (fun q h => by cases h) dX10_sizeOf_21
def w125 (cy : Nat → ClassId) (h0 h1 h2 h3 h4 h5 h6 h7 h8 h9 : Nat) (i0 : Int32) : va_W := [(h0, .inr (9, [.ref h1, .ref h2, .ref h3, .null, .int 0, .ref h4, .int 0, .int 0, .int 0, .ref h5, .ref h6, .ref h7, .int 0, .int 0, .int 0, .ref h8, .ref h9])), (h1, .inl (cy 0, 559, .inl (fun _ => 0)))]
set_option maxHeartbeats 4000000 in
set_option maxRecDepth 100000 in
theorem c125_X10_answer (l : Launch) (D : va_G) (cy : Nat → ClassId) (h0 h1 h2 h3 h4 h5 h6 h7 h8 h9 : Nat) (i0 : Int32) (sz : Nat) : Met l yX10_answer (Cond.code yX10_answer cX10_answer 3 (some .int) :: GT) ({ frames := 1, cells := 0, slots := 0, locals := 26 }) (gN D cy (w125 cy h0 h1 h2 h3 h4 h5 h6 h7 h8 h9 i0) [.ref h0, .int i0] sz) (va_Qi (fun (r : Int32) (_ : Unit) => (i0.toInt < 0 ∧ r = (-1)) ∨ (¬ i0.toInt < 0 ∧ 2 < i0.toInt ∧ r = (-1)) ∨ (¬ i0.toInt < 0 ∧ ¬ 2 < i0.toInt ∧ ¬ i0.toInt = 0 ∧ ¬ i0.toInt = 1 ∧ r = 1) ∨ (¬ i0.toInt < 0 ∧ ¬ 2 < i0.toInt ∧ ¬ i0.toInt = 0 ∧ i0.toInt = 1 ∧ r = (-5)) ∨ (¬ i0.toInt < 0 ∧ ¬ 2 < i0.toInt ∧ i0.toInt = 0 ∧ r = 0)) (fun _ _ => True) (va_A (w125 cy h0 h1 h2 h3 h4 h5 h6 h7 h8 h9 i0) sz)) 0 0 (va_A (w125 cy h0 h1 h2 h3 h4 h5 h6 h7 h8 h9 i0) sz) := by
  refine Met.ofW (cc := cX10_answer) (maxL := 3) (ret := some .int) (by decide) rfl ?_
  intro p e s m args below meth c s₁ B hml hv
  obtain ⟨rfl, hsz, hP, hK, hD0⟩ := hv
  have hx := B.exec
  have hb := B.bytes
  have hr := B.returns
  have hts := atoms_spec (ws := (Cond.code yX10_answer cX10_answer 3 (some .int) :: GT)) B.pre
  have ht : ∀ w ∈ GT, w.before _ s = true := fun w h => hts w (List.mem_cons_of_mem _ h)
  have hown : s.vm.findClass RX10 = some m.cls := findClass_of_methodNamed B.named
  have hlocks := B.notSynchronized
  subst hsz
  have hD := hD0.self (sz := s.heap.size)
  generalize hAe : va_A (w125 cy h0 h1 h2 h3 h4 h5 h6 h7 h8 h9 i0) s.heap.size = A at hD ⊢
  have hA : ∀ q : Nat, s.heap.size ≤ q → A q := fun q h => by rw [← hAe]; exact Or.inr h
  have hS : va_S A s.heap s.heap [] := va_S.rf
  have hD : va_D A ([(h0, .inr (9, [.ref h1, .ref h2, .ref h3, .null, .int 0, .ref h4, .int 0, .int 0, .int 0, .ref h5, .ref h6, .ref h7, .int 0, .int 0, .int 0, .ref h8, .ref h9])), (h1, .inl (cy 0, 559, .inl (fun _ => 0)))]) := hD
  have hP : va_P D classes ([(h0, .inr (9, [.ref h1, .ref h2, .ref h3, .null, .int 0, .ref h4, .int 0, .int 0, .int 0, .ref h5, .ref h6, .ref h7, .int 0, .int 0, .int 0, .ref h8, .ref h9])), (h1, .inl (cy 0, 559, .inl (fun _ => 0)))]) s.heap := hP
  have hl := lv_entry ([.ref h0, .int i0]) (n := 3) (Nat.le_of_ble_eq_true rfl)
  rw [lg_entry_eq]
  generalize (lg_sl ([.ref h0, .int i0]) ++ List.replicate (3 - (lg_sl ([.ref h0, .int i0])).length) Slot.unset).toArray = ls at hl ⊢
  have hl : lv_has ls 3 [(0, .ref h0), (1, .int i0)] := hl
  refine lv_iload_n hx hb dX10_answer_0 rfl (lv_at hl 1 rfl) ?_
  refine lv_iconst (v := 0) hx hb dX10_answer_1 (by decide) ?_
  refine lv_iconst (v := 2) hx hb dX10_answer_2 (by decide) ?_
  refine vp_callSi (va_Run.run (va_runS (As := [.int i0, .int 0, .int 2]) (rest := []) ⟨hx, hb, hml, hown, hts⟩ (c121_X10_in l D cy i0) (va_cwS 3 hts (gt_S kt_905 kt_906 kt_8 kt_907) rfl rfl rfl (by decide +kernel) ⟨Nat.le_of_ble_eq_true rfl, Nat.le_of_ble_eq_true rfl⟩) (gP_S hK (hP.sub (ws' := (w121 cy i0)) [] rfl)) rfl rfl hl.1 rfl (lv_room (Nat.le_of_ble_eq_true rfl)) dX10_answer_3 ⟨Nat.le_of_ble_eq_true rfl, Nat.le_of_ble_eq_true rfl⟩)) (fun r1 hw2 => ?_)
  rcases hw2 with ⟨c3, rfl⟩ | ⟨c4, c5, rfl⟩ | ⟨c6, c7, rfl⟩
  · skip
    refine lv_if_ne (tgt := 11) hx hb dX10_answer_6 (by decide) (fun c8 => absurd c8 (by decide)) (fun _ => ?_)
    refine lv_iconst (v := (-1)) hx hb dX10_answer_9 (by decide) ?_
    refine W.widen (k := 0) (n := 0) (Nat.le_of_ble_eq_true rfl) (Nat.le_of_ble_eq_true rfl) ?_
    exact W.iret (v := (-1)) hx hb hr (fun t ht2 hW => ⟨⟨(-1), (), rfl, (Or.inl ⟨c3, rfl⟩), trivial⟩, hS.F ht2⟩) hS.2.2 dX10_answer_10
  · skip
    refine lv_if_ne (tgt := 11) hx hb dX10_answer_6 (by decide) (fun c9 => absurd c9 (by decide)) (fun _ => ?_)
    refine lv_iconst (v := (-1)) hx hb dX10_answer_9 (by decide) ?_
    refine W.widen (k := 0) (n := 0) (Nat.le_of_ble_eq_true rfl) (Nat.le_of_ble_eq_true rfl) ?_
    exact W.iret (v := (-1)) hx hb hr (fun t ht2 hW => ⟨⟨(-1), (), rfl, (Or.inr (Or.inl ⟨c4, c5, rfl⟩)), trivial⟩, hS.F ht2⟩) hS.2.2 dX10_answer_10
  · skip
    refine lv_if_ne (tgt := 11) hx hb dX10_answer_6 (by decide) (fun _ => ?_) (fun c10 => absurd c10 (by decide))
    refine lv_aload_n hx hb dX10_answer_11 rfl (lv_at hl 0 rfl) ?_
    have hPc := hP.sub (ws' := (w122 cy h0 h1 h2 h3 h4 h5 h6 h7 h8 h9)) [0, 1] rfl
    have hDc := hD.sub (ws' := (w122 cy h0 h1 h2 h3 h4 h5 h6 h7 h8 h9)) [0, 1] (by decide +kernel) rfl
    have hFc := va_free (wc := (w122 cy h0 h1 h2 h3 h4 h5 h6 h7 h8 h9)) hD hS hA [0, 1] rfl
    refine va_callv (va_runV (As := []) (rest := []) ⟨hx, hb, hml, hown, hts⟩ (c122_X10_findAnswer l D cy h0 h1 h2 h3 h4 h5 h6 h7 h8 h9 s.heap.size) (cwV 0 hts (gt_V kt_1151 kt_1153 kp_65 kt_8 kt_1154) rfl rfl rfl (by decide +kernel) ⟨Nat.le_of_ble_eq_true rfl, Nat.le_of_ble_eq_true rfl⟩) (gN_V hK hPc hDc hP (ci := 9) (q0 := 0) rfl rfl) rfl rfl hl.1 rfl (lv_room (Nat.le_of_ble_eq_true rfl)) dX10_answer_12 ⟨Nat.le_of_ble_eq_true rfl, Nat.le_of_ble_eq_true rfl⟩) hS (fun q _ h => hFc q h) hFc (fun u13 t H1 locs ht2 hvm hw12 hB hz1 hk1 hS => ?_)
    obtain ⟨hP1, hD1⟩ := hB
    rw [ht2] at hP1
    obtain ⟨hP, hD⟩ := va_join (wr := ([] : va_W)) (w1 := (vw122 cy h0 h1 h2 h3 h4 h5 h6 h7 h8 h9 u13)) hP hD [0, 1] [] rfl rfl (by decide +kernel) (by decide +kernel) hk1 hFc hP1 hD1
    generalize H1 = H at hP hS ⊢
    have hP : va_P D classes ([(h0, .inr (9, [.ref h1, .ref h2, .ref h3, .null, .int 0, .ref h4, .int 0, .int 0, .int 0, .ref h5, .ref h6, .ref h7, .int 0, .int (-5), .int 1, .ref h8, .ref h9])), (h1, .inl (cy 0, 559, .inl (fun _ => 0)))]) H := hP
    have hD : va_D A ([(h0, .inr (9, [.ref h1, .ref h2, .ref h3, .null, .int 0, .ref h4, .int 0, .int 0, .int 0, .ref h5, .ref h6, .ref h7, .int 0, .int (-5), .int 1, .ref h8, .ref h9])), (h1, .inl (cy 0, 559, .inl (fun _ => 0)))]) := hD
    refine W.widen (k := 0) (n := 0) (Nat.le_of_ble_eq_true rfl) (Nat.le_of_ble_eq_true rfl) ?_
    refine lv_aload_n hx hb dX10_answer_15 rfl (lv_at hl 0 rfl) ?_
    refine lv_iconst (v := 0) hx hb dX10_answer_16 (by decide) ?_
    refine vp_callSi (va_Run.run (va_runV (As := [.int 0]) (rest := []) ⟨hx, hb, hml, hown, hts⟩ (c123_X10_sizeOf l D cy h0 h1 h2 h3 h4 h5 h6 h7 h8 h9) (cwV 1 hts (gt_V kt_936 kt_938 kp_29 kt_8 kt_939) rfl rfl rfl (by decide +kernel) ⟨Nat.le_of_ble_eq_true rfl, Nat.le_of_ble_eq_true rfl⟩) (gP_V hK (hP.sub (ws' := (w123 cy h0 h1 h2 h3 h4 h5 h6 h7 h8 h9)) [0, 1] rfl) hP (ci := 9) (q0 := 0) rfl rfl) rfl rfl hl.1 rfl (lv_room (Nat.le_of_ble_eq_true rfl)) dX10_answer_17 ⟨Nat.le_of_ble_eq_true rfl, Nat.le_of_ble_eq_true rfl⟩)) (fun r14 hw15 => ?_)
    obtain rfl : r14 = 0 := hw15
    refine lv_if_ne (tgt := 47) hx hb dX10_answer_20 (by decide) (fun c16 => absurd c16 (by decide)) (fun _ => ?_)
    refine lv_aload_n hx hb dX10_answer_23 rfl (lv_at hl 0 rfl) ?_
    refine va_get (D := D) (ci := 9) (v := .int 1) (C := RX10) (T := TX10) (N := 17) hx hb hts i_X10 hown hK.1 hP 0 rfl rfl 14 (by decide) (ht _ kt_863) (fun _ h9 => h9) rfl dX10_answer_24 ?_
    refine lv_if_eq (tgt := 47) hx hb dX10_answer_27 (by decide) (fun c17 => absurd c17 (by decide)) (fun _ => ?_)
    refine lv_aload_n hx hb dX10_answer_30 rfl (lv_at hl 0 rfl) ?_
    refine va_get (D := D) (ci := 9) (v := .int 0) (C := RX10) (T := TX10) (N := 17) hx hb hts i_X10 hown hK.1 hP 0 rfl rfl 12 (by decide) (ht _ kt_861) (fun _ h9 => h9) rfl dX10_answer_31 ?_
    refine lv_aload_n hx hb dX10_answer_34 rfl (lv_at hl 0 rfl) ?_
    refine lv_bipush (v := 25) hx hb dX10_answer_35 (by decide) ?_
    refine vp_callSi (va_Run.run (va_runV (As := [.int 25]) (rest := [.int 0]) ⟨hx, hb, hml, hown, hts⟩ (c124_X10_sizeOf l D cy h0 h1 h2 h3 h4 h5 h6 h7 h8 h9) (cwV 1 hts (gt_V kt_936 kt_938 kp_29 kt_8 kt_939) rfl rfl rfl (by decide +kernel) ⟨Nat.le_of_ble_eq_true rfl, Nat.le_of_ble_eq_true rfl⟩) (gP_V hK (hP.sub (ws' := (w124 cy h0 h1 h2 h3 h4 h5 h6 h7 h8 h9)) [0, 1] rfl) hP (ci := 9) (q0 := 0) rfl rfl) rfl rfl hl.1 rfl (lv_room (Nat.le_of_ble_eq_true rfl)) dX10_answer_37 ⟨Nat.le_of_ble_eq_true rfl, Nat.le_of_ble_eq_true rfl⟩)) (fun r18 hw19 => ?_)
    obtain rfl : r18 = 0 := hw19
    refine lv_icmp_ne (tgt := 47) hx hb dX10_answer_40 (by decide) (fun c20 => absurd c20 (by decide)) (fun _ => ?_)
    refine lv_iconst (v := 1) hx hb dX10_answer_43 (by decide) ?_
    refine lv_goto (tgt := 48) hx hb dX10_answer_44 (by decide) ?_
    refine lv_istore_n (lv' := [(2, .int 1), (0, .ref h0), (1, .int i0)]) hx hb dX10_answer_48 rfl hl (by decide) rfl (fun ls hl => ?_)
    refine lv_iload_n hx hb dX10_answer_49 rfl (lv_at hl 2 rfl) ?_
    refine lv_if_ne (tgt := 60) hx hb dX10_answer_50 (by decide) (fun c21 => ?_) (fun c21 => ?_)
    · have c21 : ¬ i0.toInt = 0 := i_ne c21 rfl rfl
      refine lv_iload_n hx hb dX10_answer_60 rfl (lv_at hl 2 rfl) ?_
      refine lv_iconst (v := 1) hx hb dX10_answer_61 (by decide) ?_
      refine lv_icmp_ne (tgt := 72) hx hb dX10_answer_62 (by decide) (fun c22 => ?_) (fun c22 => ?_)
      · have c22 : ¬ i0.toInt = 1 := i_ne c22 rfl rfl
        refine lv_iload_n hx hb dX10_answer_72 rfl (lv_at hl 0 rfl) ?_
        refine lv_if_eq (tgt := 80) hx hb dX10_answer_73 (by decide) (fun c23 => absurd c23 (by decide)) (fun _ => ?_)
        refine lv_iconst (v := 1) hx hb dX10_answer_76 (by decide) ?_
        refine lv_goto (tgt := 81) hx hb dX10_answer_77 (by decide) ?_
        refine W.widen (k := 0) (n := 0) (Nat.le_of_ble_eq_true rfl) (Nat.le_of_ble_eq_true rfl) ?_
        exact W.iret (v := 1) hx hb hr (fun t ht2 hW => ⟨⟨1, (), rfl, (Or.inr (Or.inr (Or.inl ⟨c6, c7, c21, c22, rfl⟩))), trivial⟩, hS.F ht2⟩) hS.2.2 dX10_answer_81
      · have c22 : i0.toInt = 1 := i_eq c22 rfl rfl
        refine lv_aload_n hx hb dX10_answer_65 rfl (lv_at hl 1 rfl) ?_
        refine va_get (D := D) (ci := 9) (v := .int (-5)) (C := RX10) (T := TX10) (N := 17) hx hb hts i_X10 hown hK.1 hP 0 rfl rfl 13 (by decide) (ht _ kt_862) (fun _ h9 => h9) rfl dX10_answer_66 ?_
        refine lv_goto (tgt := 81) hx hb dX10_answer_69 (by decide) ?_
        refine W.widen (k := 0) (n := 0) (Nat.le_of_ble_eq_true rfl) (Nat.le_of_ble_eq_true rfl) ?_
        exact W.iret (v := (-5)) hx hb hr (fun t ht2 hW => ⟨⟨(-5), (), rfl, (Or.inr (Or.inr (Or.inr (Or.inl ⟨c6, c7, c21, c22, rfl⟩)))), trivial⟩, hS.F ht2⟩) hS.2.2 dX10_answer_81
    · have c21 : i0.toInt = 0 := i_eq c21 rfl rfl
      refine lv_aload_n hx hb dX10_answer_53 rfl (lv_at hl 1 rfl) ?_
      refine va_get (D := D) (ci := 9) (v := .int 0) (C := RX10) (T := TX10) (N := 17) hx hb hts i_X10 hown hK.1 hP 0 rfl rfl 12 (by decide) (ht _ kt_861) (fun _ h9 => h9) rfl dX10_answer_54 ?_
      refine lv_goto (tgt := 81) hx hb dX10_answer_57 (by decide) ?_
      refine W.widen (k := 0) (n := 0) (Nat.le_of_ble_eq_true rfl) (Nat.le_of_ble_eq_true rfl) ?_
      exact W.iret (v := 0) hx hb hr (fun t ht2 hW => ⟨⟨0, (), rfl, (Or.inr (Or.inr (Or.inr (Or.inr (⟨c6, c7, c21, rfl⟩))))), trivial⟩, hS.F ht2⟩) hS.2.2 dX10_answer_81
def w126 (cy : Nat → ClassId) (h0 h1 h2 h3 h4 h5 h6 h7 h8 h9 : Nat) (i0 i1 : Int32) : va_W := [(h0, .inr (9, [.ref h1, .ref h2, .ref h3, .null, .int 0, .ref h4, .int 0, .int 0, .int 0, .ref h5, .ref h6, .ref h7, .int 0, .int 0, .int 0, .ref h8, .ref h9])), (h1, .inl (cy 0, 559, .inl (fun _ => 0)))]
set_option maxHeartbeats 4000000 in
set_option maxRecDepth 100000 in
theorem c126_X10_rank (l : Launch) (D : va_G) (cy : Nat → ClassId) (h0 h1 h2 h3 h4 h5 h6 h7 h8 h9 : Nat) (i0 i1 : Int32) : Met l yX10_rank (Cond.code yX10_rank cX10_rank 13 (some .long) :: GT) ({ frames := 2, cells := 0, slots := 0, locals := 43 }) (gP D cy (w126 cy h0 h1 h2 h3 h4 h5 h6 h7 h8 h9 i0 i1) [.ref h0, .int i0, .int i1]) (vp_Sl (fun r => r = (-9223372036854775808))) 0 0 (fun _ => False) := by
  refine Met.ofW (cc := cX10_rank) (maxL := 13) (ret := some .long) (by decide) rfl ?_
  intro p e s m args below meth c s₁ B hml hv
  obtain ⟨rfl, hP, hK⟩ := hv
  have hx := B.exec
  have hb := B.bytes
  have hr := B.returns
  have hts := atoms_spec (ws := (Cond.code yX10_rank cX10_rank 13 (some .long) :: GT)) B.pre
  have ht : ∀ w ∈ GT, w.before _ s = true := fun w h => hts w (List.mem_cons_of_mem _ h)
  have hown : s.vm.findClass RX10 = some m.cls := findClass_of_methodNamed B.named
  have hlocks := B.notSynchronized
  have hP : va_P D classes ([(h0, .inr (9, [.ref h1, .ref h2, .ref h3, .null, .int 0, .ref h4, .int 0, .int 0, .int 0, .ref h5, .ref h6, .ref h7, .int 0, .int 0, .int 0, .ref h8, .ref h9])), (h1, .inl (cy 0, 559, .inl (fun _ => 0)))]) s.heap := hP
  have hl := lv_entry ([.ref h0, .int i0, .int i1]) (n := 13) (Nat.le_of_ble_eq_true rfl)
  rw [lg_entry_eq]
  generalize (lg_sl ([.ref h0, .int i0, .int i1]) ++ List.replicate (13 - (lg_sl ([.ref h0, .int i0, .int i1])).length) Slot.unset).toArray = ls at hl ⊢
  have hl : lv_has ls 13 [(0, .ref h0), (1, .int i0), (2, .int i1)] := hl
  refine lv_aload_n hx hb dX10_rank_0 rfl (lv_at hl 0 rfl) ?_
  refine lv_iload_n hx hb dX10_rank_1 rfl (lv_at hl 1 rfl) ?_
  refine vp_callSi (va_Run.run (va_runV (As := [.int i0]) (rest := []) ⟨hx, hb, hml, hown, hts⟩ (c101_X10_isOperator l D cy h0 h1 h2 h3 h4 h5 h6 h7 h8 h9 i0) (cwV 1 hts (gt_V kt_1017 kt_1019 kp_44 kt_8 kt_1020) rfl rfl rfl (by decide +kernel) ⟨Nat.le_of_ble_eq_true rfl, Nat.le_of_ble_eq_true rfl⟩) (gP_V hK (hP.sub (ws' := (w101 cy h0 h1 h2 h3 h4 h5 h6 h7 h8 h9 i0)) [0, 1] rfl) hP (ci := 9) (q0 := 0) rfl rfl) rfl rfl hl.1 rfl (lv_room (Nat.le_of_ble_eq_true rfl)) dX10_rank_2 ⟨Nat.le_of_ble_eq_true rfl, Nat.le_of_ble_eq_true rfl⟩)) (fun r1 hw2 => ?_)
  obtain rfl : r1 = 0 := hw2
  refine lv_if_eq (tgt := 17) hx hb dX10_rank_5 (by decide) (fun _ => ?_) (fun c3 => absurd c3 (by decide))
  refine lv_ldc2 (v := (-9223372036854775808)) hx hb hown (ht _ kt_1171) dX10_rank_17 ?_
  exact W.lret (v := (-9223372036854775808)) hx hb hr (fun t ht2 hW => ⟨(-9223372036854775808), rfl, rfl, ht2⟩) (fun q h => by cases h) dX10_rank_20
def w127 (cy : Nat → ClassId) (h0 h1 h2 h3 h4 h5 h6 h7 h8 h9 : Nat) : va_W := [(h0, .inr (9, [.ref h1, .ref h2, .ref h3, .null, .int 0, .ref h4, .int 0, .int 0, .int 0, .ref h5, .ref h6, .ref h7, .int 0, .int 0, .int 0, .ref h8, .ref h9])), (h1, .inl (cy 0, 559, .inl (fun _ => 0)))]
set_option maxHeartbeats 4000000 in
set_option maxRecDepth 100000 in
theorem c127_X10_age (l : Launch) (D : va_G) (cy : Nat → ClassId) (h0 h1 h2 h3 h4 h5 h6 h7 h8 h9 : Nat) : Met l yX10_age (Cond.code yX10_age cX10_age 3 (some .int) :: GT) ({ frames := 0, cells := 0, slots := 0, locals := 0 }) (gP D cy (w127 cy h0 h1 h2 h3 h4 h5 h6 h7 h8 h9) [.ref h0]) (vp_Si (fun r => r = 0)) 0 0 (fun _ => False) := by
  refine Met.ofW (cc := cX10_age) (maxL := 3) (ret := some .int) (by decide) rfl ?_
  intro p e s m args below meth c s₁ B hml hv
  obtain ⟨rfl, hP, hK⟩ := hv
  have hx := B.exec
  have hb := B.bytes
  have hr := B.returns
  have hts := atoms_spec (ws := (Cond.code yX10_age cX10_age 3 (some .int) :: GT)) B.pre
  have ht : ∀ w ∈ GT, w.before _ s = true := fun w h => hts w (List.mem_cons_of_mem _ h)
  have hown : s.vm.findClass RX10 = some m.cls := findClass_of_methodNamed B.named
  have hlocks := B.notSynchronized
  have hP : va_P D classes ([(h0, .inr (9, [.ref h1, .ref h2, .ref h3, .null, .int 0, .ref h4, .int 0, .int 0, .int 0, .ref h5, .ref h6, .ref h7, .int 0, .int 0, .int 0, .ref h8, .ref h9])), (h1, .inl (cy 0, 559, .inl (fun _ => 0)))]) s.heap := hP
  have hl := lv_entry ([.ref h0]) (n := 3) (Nat.le_of_ble_eq_true rfl)
  rw [lg_entry_eq]
  generalize (lg_sl ([.ref h0]) ++ List.replicate (3 - (lg_sl ([.ref h0])).length) Slot.unset).toArray = ls at hl ⊢
  have hl : lv_has ls 3 [(0, .ref h0)] := hl
  refine lv_iconst (v := 0) hx hb dX10_age_0 (by decide) ?_
  refine lv_istore_n (lv' := [(1, .int 0), (0, .ref h0)]) hx hb dX10_age_1 rfl hl (by decide) rfl (fun ls hl => ?_)
  refine lv_iconst (v := 0) hx hb dX10_age_2 (by decide) ?_
  refine lv_istore_n (lv' := [(2, .int 0), (1, .int 0), (0, .ref h0)]) hx hb dX10_age_3 rfl hl (by decide) rfl (fun ls hl => ?_)
  refine lv_iload_n hx hb dX10_age_4 rfl (lv_at hl 0 rfl) ?_
  refine lv_aload_n hx hb dX10_age_5 rfl (lv_at hl 2 rfl) ?_
  refine va_get (D := D) (ci := 9) (v := .ref h1) (C := RX10) (T := TX10) (N := 17) hx hb hts i_X10 hown hK.1 hP 0 rfl rfl 0 (by decide) (ht _ kt_849) (fun _ h9 => h9) rfl dX10_age_6 ?_
  refine lv_iconst (v := 2) hx hb dX10_age_9 (by decide) ?_
  refine va_iald hx hb hK.1 hP 1 0 rfl rfl (vin (by decide)) dX10_age_10 ?_
  refine lz_i 0 rfl ?_
  refine lv_icmp_ge (tgt := 67) hx hb dX10_age_11 (by decide) (fun _ => ?_) (fun c1 => absurd c1 (by decide))
  refine lv_iload_n hx hb dX10_age_67 rfl (lv_at hl 1 rfl) ?_
  exact W.iret (v := 0) hx hb hr (fun t ht2 hW => ⟨0, rfl, rfl, ht2⟩) (fun q h => by cases h) dX10_age_68
def w128 (cy : Nat → ClassId) (h0 h1 h2 h3 h4 h5 h6 h7 h8 h9 : Nat) (i0 : Int32) : va_W := [(h0, .inr (9, [.ref h1, .ref h2, .ref h3, .null, .int 0, .ref h4, .int 0, .int 0, .int 0, .ref h5, .ref h6, .ref h7, .int 0, .int 0, .int 0, .ref h8, .ref h9])), (h1, .inl (cy 0, 559, .inl (fun _ => 0)))]
set_option maxHeartbeats 4000000 in
set_option maxRecDepth 100000 in
theorem c128_X10_event (l : Launch) (D : va_G) (cy : Nat → ClassId) (h0 h1 h2 h3 h4 h5 h6 h7 h8 h9 : Nat) (i0 : Int32) : Met l yX10_event (Cond.code yX10_event cX10_event 2 (some .int) :: GT) ({ frames := 1, cells := 0, slots := 0, locals := 22 }) (gP D cy (w128 cy h0 h1 h2 h3 h4 h5 h6 h7 h8 h9 i0) [.ref h0, .int i0]) (vp_Si (fun r => r = (-1))) 0 0 (fun _ => False) := by
  refine Met.ofW (cc := cX10_event) (maxL := 2) (ret := some .int) (by decide) rfl ?_
  intro p e s m args below meth c s₁ B hml hv
  obtain ⟨rfl, hP, hK⟩ := hv
  have hx := B.exec
  have hb := B.bytes
  have hr := B.returns
  have hts := atoms_spec (ws := (Cond.code yX10_event cX10_event 2 (some .int) :: GT)) B.pre
  have ht : ∀ w ∈ GT, w.before _ s = true := fun w h => hts w (List.mem_cons_of_mem _ h)
  have hown : s.vm.findClass RX10 = some m.cls := findClass_of_methodNamed B.named
  have hlocks := B.notSynchronized
  have hP : va_P D classes ([(h0, .inr (9, [.ref h1, .ref h2, .ref h3, .null, .int 0, .ref h4, .int 0, .int 0, .int 0, .ref h5, .ref h6, .ref h7, .int 0, .int 0, .int 0, .ref h8, .ref h9])), (h1, .inl (cy 0, 559, .inl (fun _ => 0)))]) s.heap := hP
  have hl := lv_entry ([.ref h0, .int i0]) (n := 2) (Nat.le_of_ble_eq_true rfl)
  rw [lg_entry_eq]
  generalize (lg_sl ([.ref h0, .int i0]) ++ List.replicate (2 - (lg_sl ([.ref h0, .int i0])).length) Slot.unset).toArray = ls at hl ⊢
  have hl : lv_has ls 2 [(0, .ref h0), (1, .int i0)] := hl
  refine lv_iload_n hx hb dX10_event_0 rfl (lv_at hl 1 rfl) ?_
  refine lv_iconst (v := 0) hx hb dX10_event_1 (by decide) ?_
  refine lv_bipush (v := 32) hx hb dX10_event_2 (by decide) ?_
  refine lv_aload_n hx hb dX10_event_4 rfl (lv_at hl 0 rfl) ?_
  refine va_get (D := D) (ci := 9) (v := .ref h1) (C := RX10) (T := TX10) (N := 17) hx hb hts i_X10 hown hK.1 hP 0 rfl rfl 0 (by decide) (ht _ kt_849) (fun _ h9 => h9) rfl dX10_event_5 ?_
  refine lv_bipush (v := 8) hx hb dX10_event_8 (by decide) ?_
  refine va_iald hx hb hK.1 hP 1 0 rfl rfl (vin (by decide)) dX10_event_10 ?_
  refine lz_i 0 rfl ?_
  refine va_mmin hx hb (hml.trans hl.1.symm) hown (ht _ kt_976) (ht _ kt_415) (ht _ kt_12) (ht _ kt_416) (Nat.le_of_ble_eq_true rfl) (Nat.le_of_ble_eq_true rfl) (Nat.le_of_ble_eq_true rfl) (Nat.le_of_ble_eq_true rfl) dX10_event_11 ?_
  refine lz_i 0 (by decide) ?_
  refine lv_iconst (v := 1) hx hb dX10_event_14 (by decide) ?_
  refine lv_isub hx hb dX10_event_15 ?_
  refine lz_i (-1) (by decide) ?_
  refine vp_callSi (va_Run.run (va_runS (As := [.int i0, .int 0, .int (-1)]) (rest := []) ⟨hx, hb, hml, hown, hts⟩ (c83_X10_in l D cy i0) (va_cwS 3 hts (gt_S kt_905 kt_906 kt_8 kt_907) rfl rfl rfl (by decide +kernel) ⟨Nat.le_of_ble_eq_true rfl, Nat.le_of_ble_eq_true rfl⟩) (gP_S hK (hP.sub (ws' := (w83 cy i0)) [] rfl)) rfl rfl hl.1 rfl (lv_room (Nat.le_of_ble_eq_true rfl)) dX10_event_16 ⟨Nat.le_of_ble_eq_true rfl, Nat.le_of_ble_eq_true rfl⟩)) (fun r1 hw2 => ?_)
  obtain rfl : r1 = 0 := hw2
  refine lv_if_eq (tgt := 48) hx hb dX10_event_19 (by decide) (fun _ => ?_) (fun c3 => absurd c3 (by decide))
  refine lv_iconst (v := (-1)) hx hb dX10_event_48 (by decide) ?_
  exact W.iret (v := (-1)) hx hb hr (fun t ht2 hW => ⟨(-1), rfl, rfl, ht2⟩) (fun q h => by cases h) dX10_event_49
def w129 (cy : Nat → ClassId) (h0 h1 h2 h3 h4 h5 h6 h7 h8 h9 : Nat) : va_W := [(h0, .inr (9, [.ref h1, .ref h2, .ref h3, .null, .int 0, .ref h4, .int 0, .int 0, .int 0, .ref h5, .ref h6, .ref h7, .int 0, .int 0, .int 0, .ref h8, .ref h9]))]
set_option maxHeartbeats 4000000 in
set_option maxRecDepth 100000 in
theorem c129_X10_undo (l : Launch) (D : va_G) (cy : Nat → ClassId) (h0 h1 h2 h3 h4 h5 h6 h7 h8 h9 : Nat) : Met l yX10_undo (Cond.code yX10_undo cX10_undo 3 (some .int) :: GT) ({ frames := 0, cells := 0, slots := 0, locals := 0 }) (gP D cy (w129 cy h0 h1 h2 h3 h4 h5 h6 h7 h8 h9) [.ref h0]) (vp_Si (fun r => r = (-3))) 0 0 (fun _ => False) := by
  refine Met.ofW (cc := cX10_undo) (maxL := 3) (ret := some .int) (by decide) rfl ?_
  intro p e s m args below meth c s₁ B hml hv
  obtain ⟨rfl, hP, hK⟩ := hv
  have hx := B.exec
  have hb := B.bytes
  have hr := B.returns
  have hts := atoms_spec (ws := (Cond.code yX10_undo cX10_undo 3 (some .int) :: GT)) B.pre
  have ht : ∀ w ∈ GT, w.before _ s = true := fun w h => hts w (List.mem_cons_of_mem _ h)
  have hown : s.vm.findClass RX10 = some m.cls := findClass_of_methodNamed B.named
  have hlocks := B.notSynchronized
  have hP : va_P D classes ([(h0, .inr (9, [.ref h1, .ref h2, .ref h3, .null, .int 0, .ref h4, .int 0, .int 0, .int 0, .ref h5, .ref h6, .ref h7, .int 0, .int 0, .int 0, .ref h8, .ref h9]))]) s.heap := hP
  have hl := lv_entry ([.ref h0]) (n := 3) (Nat.le_of_ble_eq_true rfl)
  rw [lg_entry_eq]
  generalize (lg_sl ([.ref h0]) ++ List.replicate (3 - (lg_sl ([.ref h0])).length) Slot.unset).toArray = ls at hl ⊢
  have hl : lv_has ls 3 [(0, .ref h0)] := hl
  refine lv_aload_n hx hb dX10_undo_0 rfl (lv_at hl 0 rfl) ?_
  refine va_get (D := D) (ci := 9) (v := .int 0) (C := RX10) (T := TX10) (N := 17) hx hb hts i_X10 hown hK.1 hP 0 rfl rfl 4 (by decide) (ht _ kt_853) (fun _ h9 => h9) rfl dX10_undo_1 ?_
  refine lv_if_ne (tgt := 10) hx hb dX10_undo_4 (by decide) (fun c1 => absurd c1 (by decide)) (fun _ => ?_)
  refine lv_bipush (v := (-3)) hx hb dX10_undo_7 (by decide) ?_
  exact W.iret (v := (-3)) hx hb hr (fun t ht2 hW => ⟨(-3), rfl, rfl, ht2⟩) (fun q h => by cases h) dX10_undo_9
def w130 (cy : Nat → ClassId) (h0 h1 h2 h3 h4 h5 h6 h7 h8 h9 : Nat) : va_W := [(h0, .inr (9, [.ref h1, .ref h2, .ref h3, .null, .int 0, .ref h4, .int 0, .int 0, .int 0, .ref h5, .ref h6, .ref h7, .int 0, .int 0, .int 0, .ref h8, .ref h9])), (h1, .inl (cy 0, 559, .inl (fun _ => 0)))]
set_option maxHeartbeats 4000000 in
set_option maxRecDepth 100000 in
theorem c130_X10_activeMany (l : Launch) (D : va_G) (cy : Nat → ClassId) (h0 h1 h2 h3 h4 h5 h6 h7 h8 h9 : Nat) : Met l yX10_activeMany (Cond.code yX10_activeMany cX10_activeMany 3 (some .int) :: GT) ({ frames := 0, cells := 0, slots := 0, locals := 0 }) (gP D cy (w130 cy h0 h1 h2 h3 h4 h5 h6 h7 h8 h9) [.ref h0]) (vp_Si (fun r => r = 0)) 0 0 (fun _ => False) := by
  refine Met.ofW (cc := cX10_activeMany) (maxL := 3) (ret := some .int) (by decide) rfl ?_
  intro p e s m args below meth c s₁ B hml hv
  obtain ⟨rfl, hP, hK⟩ := hv
  have hx := B.exec
  have hb := B.bytes
  have hr := B.returns
  have hts := atoms_spec (ws := (Cond.code yX10_activeMany cX10_activeMany 3 (some .int) :: GT)) B.pre
  have ht : ∀ w ∈ GT, w.before _ s = true := fun w h => hts w (List.mem_cons_of_mem _ h)
  have hown : s.vm.findClass RX10 = some m.cls := findClass_of_methodNamed B.named
  have hlocks := B.notSynchronized
  have hP : va_P D classes ([(h0, .inr (9, [.ref h1, .ref h2, .ref h3, .null, .int 0, .ref h4, .int 0, .int 0, .int 0, .ref h5, .ref h6, .ref h7, .int 0, .int 0, .int 0, .ref h8, .ref h9])), (h1, .inl (cy 0, 559, .inl (fun _ => 0)))]) s.heap := hP
  have hl := lv_entry ([.ref h0]) (n := 3) (Nat.le_of_ble_eq_true rfl)
  rw [lg_entry_eq]
  generalize (lg_sl ([.ref h0]) ++ List.replicate (3 - (lg_sl ([.ref h0])).length) Slot.unset).toArray = ls at hl ⊢
  have hl : lv_has ls 3 [(0, .ref h0)] := hl
  refine lv_iconst (v := 0) hx hb dX10_activeMany_0 (by decide) ?_
  refine lv_istore_n (lv' := [(1, .int 0), (0, .ref h0)]) hx hb dX10_activeMany_1 rfl hl (by decide) rfl (fun ls hl => ?_)
  refine lv_iconst (v := 0) hx hb dX10_activeMany_2 (by decide) ?_
  refine lv_istore_n (lv' := [(2, .int 0), (1, .int 0), (0, .ref h0)]) hx hb dX10_activeMany_3 rfl hl (by decide) rfl (fun ls hl => ?_)
  refine lv_iload_n hx hb dX10_activeMany_4 rfl (lv_at hl 0 rfl) ?_
  refine lv_aload_n hx hb dX10_activeMany_5 rfl (lv_at hl 2 rfl) ?_
  refine va_get (D := D) (ci := 9) (v := .ref h1) (C := RX10) (T := TX10) (N := 17) hx hb hts i_X10 hown hK.1 hP 0 rfl rfl 0 (by decide) (ht _ kt_849) (fun _ h9 => h9) rfl dX10_activeMany_6 ?_
  refine lv_iconst (v := 2) hx hb dX10_activeMany_9 (by decide) ?_
  refine va_iald hx hb hK.1 hP 1 0 rfl rfl (vin (by decide)) dX10_activeMany_10 ?_
  refine lz_i 0 rfl ?_
  refine lv_icmp_ge (tgt := 29) hx hb dX10_activeMany_11 (by decide) (fun _ => ?_) (fun c1 => absurd c1 (by decide))
  refine lv_iload_n hx hb dX10_activeMany_29 rfl (lv_at hl 1 rfl) ?_
  exact W.iret (v := 0) hx hb hr (fun t ht2 hW => ⟨0, rfl, rfl, ht2⟩) (fun q h => by cases h) dX10_activeMany_30
def w131 (cy : Nat → ClassId) (h0 h1 h2 h3 h4 h5 h6 h7 h8 h9 : Nat) (i0 : Int32) : va_W := [(h0, .inr (9, [.ref h1, .ref h2, .ref h3, .null, .int 0, .ref h4, .int 0, .int 0, .int 0, .ref h5, .ref h6, .ref h7, .int 0, .int 0, .int 0, .ref h8, .ref h9])), (h1, .inl (cy 0, 559, .inl (fun _ => 0)))]
set_option maxHeartbeats 4000000 in
set_option maxRecDepth 100000 in
theorem c131_X10_count (l : Launch) (D : va_G) (cy : Nat → ClassId) (h0 h1 h2 h3 h4 h5 h6 h7 h8 h9 : Nat) (i0 : Int32) : Met l yX10_count (Cond.code yX10_count cX10_count 2 (some .int) :: GT) ({ frames := 1, cells := 0, slots := 0, locals := 22 }) (gP D cy (w131 cy h0 h1 h2 h3 h4 h5 h6 h7 h8 h9 i0) [.ref h0, .int i0]) (vp_Si (fun r => (i0.toInt = 0 ∧ r = 0) ∨ (¬ i0.toInt = 0 ∧ i0.toInt = 1 ∧ r = 0) ∨ (¬ i0.toInt = 0 ∧ ¬ i0.toInt = 1 ∧ i0.toInt = 2 ∧ r = 0) ∨ (¬ i0.toInt = 0 ∧ ¬ i0.toInt = 1 ∧ ¬ i0.toInt = 2 ∧ i0.toInt = 3 ∧ r = 0) ∨ (¬ i0.toInt = 0 ∧ ¬ i0.toInt = 1 ∧ ¬ i0.toInt = 2 ∧ ¬ i0.toInt = 3 ∧ i0.toInt = 4 ∧ r = 0) ∨ (¬ i0.toInt = 0 ∧ ¬ i0.toInt = 1 ∧ ¬ i0.toInt = 2 ∧ ¬ i0.toInt = 3 ∧ ¬ i0.toInt = 4 ∧ i0.toInt = 5 ∧ r = 0) ∨ (¬ i0.toInt = 0 ∧ ¬ i0.toInt = 1 ∧ ¬ i0.toInt = 2 ∧ ¬ i0.toInt = 3 ∧ ¬ i0.toInt = 4 ∧ ¬ i0.toInt = 5 ∧ i0.toInt = 6 ∧ r = 0) ∨ (¬ i0.toInt = 0 ∧ ¬ i0.toInt = 1 ∧ ¬ i0.toInt = 2 ∧ ¬ i0.toInt = 3 ∧ ¬ i0.toInt = 4 ∧ ¬ i0.toInt = 5 ∧ ¬ i0.toInt = 6 ∧ i0.toInt = 7 ∧ r = 0) ∨ (¬ i0.toInt = 0 ∧ ¬ i0.toInt = 1 ∧ ¬ i0.toInt = 2 ∧ ¬ i0.toInt = 3 ∧ ¬ i0.toInt = 4 ∧ ¬ i0.toInt = 5 ∧ ¬ i0.toInt = 6 ∧ ¬ i0.toInt = 7 ∧ i0.toInt = 8 ∧ r = 0) ∨ (¬ i0.toInt = 0 ∧ ¬ i0.toInt = 1 ∧ ¬ i0.toInt = 2 ∧ ¬ i0.toInt = 3 ∧ ¬ i0.toInt = 4 ∧ ¬ i0.toInt = 5 ∧ ¬ i0.toInt = 6 ∧ ¬ i0.toInt = 7 ∧ ¬ i0.toInt = 8 ∧ i0.toInt = 9 ∧ r = 0) ∨ (¬ i0.toInt = 0 ∧ ¬ i0.toInt = 1 ∧ ¬ i0.toInt = 2 ∧ ¬ i0.toInt = 3 ∧ ¬ i0.toInt = 4 ∧ ¬ i0.toInt = 5 ∧ ¬ i0.toInt = 6 ∧ ¬ i0.toInt = 7 ∧ ¬ i0.toInt = 8 ∧ ¬ i0.toInt = 9 ∧ i0.toInt = 10 ∧ r = 0) ∨ (¬ i0.toInt = 0 ∧ ¬ i0.toInt = 1 ∧ ¬ i0.toInt = 2 ∧ ¬ i0.toInt = 3 ∧ ¬ i0.toInt = 4 ∧ ¬ i0.toInt = 5 ∧ ¬ i0.toInt = 6 ∧ ¬ i0.toInt = 7 ∧ ¬ i0.toInt = 8 ∧ ¬ i0.toInt = 9 ∧ ¬ i0.toInt = 10 ∧ i0.toInt = 11 ∧ r = 0) ∨ (¬ i0.toInt = 0 ∧ ¬ i0.toInt = 1 ∧ ¬ i0.toInt = 2 ∧ ¬ i0.toInt = 3 ∧ ¬ i0.toInt = 4 ∧ ¬ i0.toInt = 5 ∧ ¬ i0.toInt = 6 ∧ ¬ i0.toInt = 7 ∧ ¬ i0.toInt = 8 ∧ ¬ i0.toInt = 9 ∧ ¬ i0.toInt = 10 ∧ ¬ i0.toInt = 11 ∧ r = (-1)))) 0 0 (fun _ => False) := by
  refine Met.ofW (cc := cX10_count) (maxL := 2) (ret := some .int) (by decide) rfl ?_
  intro p e s m args below meth c s₁ B hml hv
  obtain ⟨rfl, hP, hK⟩ := hv
  have hx := B.exec
  have hb := B.bytes
  have hr := B.returns
  have hts := atoms_spec (ws := (Cond.code yX10_count cX10_count 2 (some .int) :: GT)) B.pre
  have ht : ∀ w ∈ GT, w.before _ s = true := fun w h => hts w (List.mem_cons_of_mem _ h)
  have hown : s.vm.findClass RX10 = some m.cls := findClass_of_methodNamed B.named
  have hlocks := B.notSynchronized
  have hP : va_P D classes ([(h0, .inr (9, [.ref h1, .ref h2, .ref h3, .null, .int 0, .ref h4, .int 0, .int 0, .int 0, .ref h5, .ref h6, .ref h7, .int 0, .int 0, .int 0, .ref h8, .ref h9])), (h1, .inl (cy 0, 559, .inl (fun _ => 0)))]) s.heap := hP
  have hl := lv_entry ([.ref h0, .int i0]) (n := 2) (Nat.le_of_ble_eq_true rfl)
  rw [lg_entry_eq]
  generalize (lg_sl ([.ref h0, .int i0]) ++ List.replicate (2 - (lg_sl ([.ref h0, .int i0])).length) Slot.unset).toArray = ls at hl ⊢
  have hl : lv_has ls 2 [(0, .ref h0), (1, .int i0)] := hl
  refine lv_iload_n hx hb dX10_count_0 rfl (lv_at hl 1 rfl) ?_
  by_cases c1 : i0.toInt = 0
  · skip
    refine lv_tableIn (tgt := 64) hx hb dX10_count_1 (by rw [c1]; decide) (by rw [c1]; decide) (by rw [c1] <;> rfl) (by decide) ?_
    refine lv_aload_n hx hb dX10_count_64 rfl (lv_at hl 0 rfl) ?_
    refine va_get (D := D) (ci := 9) (v := .ref h1) (C := RX10) (T := TX10) (N := 17) hx hb hts i_X10 hown hK.1 hP 0 rfl rfl 0 (by decide) (ht _ kt_849) (fun _ h9 => h9) rfl dX10_count_65 ?_
    refine lv_iconst (v := 0) hx hb dX10_count_68 (by decide) ?_
    refine va_iald hx hb hK.1 hP 1 0 rfl rfl (vin (by decide)) dX10_count_69 ?_
    refine lz_i 0 rfl ?_
    exact W.iret (v := 0) hx hb hr (fun t ht2 hW => ⟨0, rfl, (Or.inl ⟨c1, rfl⟩), ht2⟩) (fun q h => by cases h) dX10_count_70
  by_cases c2 : i0.toInt = 1
  · skip
    refine lv_tableIn (tgt := 71) hx hb dX10_count_1 (by rw [c2]; decide) (by rw [c2]; decide) (by rw [c2] <;> rfl) (by decide) ?_
    refine lv_aload_n hx hb dX10_count_71 rfl (lv_at hl 0 rfl) ?_
    refine va_get (D := D) (ci := 9) (v := .ref h1) (C := RX10) (T := TX10) (N := 17) hx hb hts i_X10 hown hK.1 hP 0 rfl rfl 0 (by decide) (ht _ kt_849) (fun _ h9 => h9) rfl dX10_count_72 ?_
    refine lv_iconst (v := 2) hx hb dX10_count_75 (by decide) ?_
    refine va_iald hx hb hK.1 hP 1 0 rfl rfl (vin (by decide)) dX10_count_76 ?_
    refine lz_i 0 rfl ?_
    exact W.iret (v := 0) hx hb hr (fun t ht2 hW => ⟨0, rfl, (Or.inr (Or.inl ⟨c1, c2, rfl⟩)), ht2⟩) (fun q h => by cases h) dX10_count_77
  by_cases c3 : i0.toInt = 2
  · skip
    refine lv_tableIn (tgt := 78) hx hb dX10_count_1 (by rw [c3]; decide) (by rw [c3]; decide) (by rw [c3] <;> rfl) (by decide) ?_
    refine lv_aload_n hx hb dX10_count_78 rfl (lv_at hl 0 rfl) ?_
    refine lv_iconst (v := 0) hx hb dX10_count_79 (by decide) ?_
    refine vp_callSi (va_Run.run (va_runV (As := [.int 0]) (rest := []) ⟨hx, hb, hml, hown, hts⟩ (c108_X10_sizeOf l D cy h0 h1 h2 h3 h4 h5 h6 h7 h8 h9) (cwV 1 hts (gt_V kt_936 kt_938 kp_29 kt_8 kt_939) rfl rfl rfl (by decide +kernel) ⟨Nat.le_of_ble_eq_true rfl, Nat.le_of_ble_eq_true rfl⟩) (gP_V hK (hP.sub (ws' := (w108 cy h0 h1 h2 h3 h4 h5 h6 h7 h8 h9)) [0, 1] rfl) hP (ci := 9) (q0 := 0) rfl rfl) rfl rfl hl.1 rfl (lv_room (Nat.le_of_ble_eq_true rfl)) dX10_count_80 ⟨Nat.le_of_ble_eq_true rfl, Nat.le_of_ble_eq_true rfl⟩)) (fun r4 hw5 => ?_)
    obtain rfl : r4 = 0 := hw5
    exact W.iret (v := 0) hx hb hr (fun t ht2 hW => ⟨0, rfl, (Or.inr (Or.inr (Or.inl ⟨c1, c2, c3, rfl⟩))), ht2⟩) (fun q h => by cases h) dX10_count_83
  by_cases c6 : i0.toInt = 3
  · skip
    refine lv_tableIn (tgt := 84) hx hb dX10_count_1 (by rw [c6]; decide) (by rw [c6]; decide) (by rw [c6] <;> rfl) (by decide) ?_
    refine lv_aload_n hx hb dX10_count_84 rfl (lv_at hl 0 rfl) ?_
    refine lv_bipush (v := 25) hx hb dX10_count_85 (by decide) ?_
    refine vp_callSi (va_Run.run (va_runV (As := [.int 25]) (rest := []) ⟨hx, hb, hml, hown, hts⟩ (c117_X10_sizeOf l D cy h0 h1 h2 h3 h4 h5 h6 h7 h8 h9) (cwV 1 hts (gt_V kt_936 kt_938 kp_29 kt_8 kt_939) rfl rfl rfl (by decide +kernel) ⟨Nat.le_of_ble_eq_true rfl, Nat.le_of_ble_eq_true rfl⟩) (gP_V hK (hP.sub (ws' := (w117 cy h0 h1 h2 h3 h4 h5 h6 h7 h8 h9)) [0, 1] rfl) hP (ci := 9) (q0 := 0) rfl rfl) rfl rfl hl.1 rfl (lv_room (Nat.le_of_ble_eq_true rfl)) dX10_count_87 ⟨Nat.le_of_ble_eq_true rfl, Nat.le_of_ble_eq_true rfl⟩)) (fun r7 hw8 => ?_)
    obtain rfl : r7 = 0 := hw8
    exact W.iret (v := 0) hx hb hr (fun t ht2 hW => ⟨0, rfl, (Or.inr (Or.inr (Or.inr (Or.inl ⟨c1, c2, c3, c6, rfl⟩)))), ht2⟩) (fun q h => by cases h) dX10_count_90
  by_cases c9 : i0.toInt = 4
  · skip
    refine lv_tableIn (tgt := 91) hx hb dX10_count_1 (by rw [c9]; decide) (by rw [c9]; decide) (by rw [c9] <;> rfl) (by decide) ?_
    refine lv_aload_n hx hb dX10_count_91 rfl (lv_at hl 0 rfl) ?_
    refine va_get (D := D) (ci := 9) (v := .ref h1) (C := RX10) (T := TX10) (N := 17) hx hb hts i_X10 hown hK.1 hP 0 rfl rfl 0 (by decide) (ht _ kt_849) (fun _ h9 => h9) rfl dX10_count_92 ?_
    refine lv_bipush (v := 7) hx hb dX10_count_95 (by decide) ?_
    refine va_iald hx hb hK.1 hP 1 0 rfl rfl (vin (by decide)) dX10_count_97 ?_
    refine lz_i 0 rfl ?_
    exact W.iret (v := 0) hx hb hr (fun t ht2 hW => ⟨0, rfl, (Or.inr (Or.inr (Or.inr (Or.inr (Or.inl ⟨c1, c2, c3, c6, c9, rfl⟩))))), ht2⟩) (fun q h => by cases h) dX10_count_98
  by_cases c10 : i0.toInt = 5
  · skip
    refine lv_tableIn (tgt := 99) hx hb dX10_count_1 (by rw [c10]; decide) (by rw [c10]; decide) (by rw [c10] <;> rfl) (by decide) ?_
    refine lv_aload_n hx hb dX10_count_99 rfl (lv_at hl 0 rfl) ?_
    refine va_get (D := D) (ci := 9) (v := .ref h1) (C := RX10) (T := TX10) (N := 17) hx hb hts i_X10 hown hK.1 hP 0 rfl rfl 0 (by decide) (ht _ kt_849) (fun _ h9 => h9) rfl dX10_count_100 ?_
    refine lv_iconst (v := 5) hx hb dX10_count_103 (by decide) ?_
    refine va_iald hx hb hK.1 hP 1 0 rfl rfl (vin (by decide)) dX10_count_104 ?_
    refine lz_i 0 rfl ?_
    exact W.iret (v := 0) hx hb hr (fun t ht2 hW => ⟨0, rfl, (Or.inr (Or.inr (Or.inr (Or.inr (Or.inr (Or.inl ⟨c1, c2, c3, c6, c9, c10, rfl⟩)))))), ht2⟩) (fun q h => by cases h) dX10_count_105
  by_cases c11 : i0.toInt = 6
  · skip
    refine lv_tableIn (tgt := 106) hx hb dX10_count_1 (by rw [c11]; decide) (by rw [c11]; decide) (by rw [c11] <;> rfl) (by decide) ?_
    refine lv_aload_n hx hb dX10_count_106 rfl (lv_at hl 0 rfl) ?_
    refine va_get (D := D) (ci := 9) (v := .ref h1) (C := RX10) (T := TX10) (N := 17) hx hb hts i_X10 hown hK.1 hP 0 rfl rfl 0 (by decide) (ht _ kt_849) (fun _ h9 => h9) rfl dX10_count_107 ?_
    refine lv_bipush (v := 6) hx hb dX10_count_110 (by decide) ?_
    refine va_iald hx hb hK.1 hP 1 0 rfl rfl (vin (by decide)) dX10_count_112 ?_
    refine lz_i 0 rfl ?_
    exact W.iret (v := 0) hx hb hr (fun t ht2 hW => ⟨0, rfl, (Or.inr (Or.inr (Or.inr (Or.inr (Or.inr (Or.inr (Or.inl ⟨c1, c2, c3, c6, c9, c10, c11, rfl⟩))))))), ht2⟩) (fun q h => by cases h) dX10_count_113
  by_cases c12 : i0.toInt = 7
  · skip
    refine lv_tableIn (tgt := 114) hx hb dX10_count_1 (by rw [c12]; decide) (by rw [c12]; decide) (by rw [c12] <;> rfl) (by decide) ?_
    refine lv_aload_n hx hb dX10_count_114 rfl (lv_at hl 0 rfl) ?_
    refine vp_callSi (va_Run.run (va_runV (As := []) (rest := []) ⟨hx, hb, hml, hown, hts⟩ (c130_X10_activeMany l D cy h0 h1 h2 h3 h4 h5 h6 h7 h8 h9) (cwV 0 hts (gt_V kt_1209 kt_1211 kp_70 kt_8 kt_1212) rfl rfl rfl (by decide +kernel) ⟨Nat.le_of_ble_eq_true rfl, Nat.le_of_ble_eq_true rfl⟩) (gP_V hK (hP.sub (ws' := (w130 cy h0 h1 h2 h3 h4 h5 h6 h7 h8 h9)) [0, 1] rfl) hP (ci := 9) (q0 := 0) rfl rfl) rfl rfl hl.1 rfl (lv_room (Nat.le_of_ble_eq_true rfl)) dX10_count_115 ⟨Nat.le_of_ble_eq_true rfl, Nat.le_of_ble_eq_true rfl⟩)) (fun r13 hw14 => ?_)
    obtain rfl : r13 = 0 := hw14
    exact W.iret (v := 0) hx hb hr (fun t ht2 hW => ⟨0, rfl, (Or.inr (Or.inr (Or.inr (Or.inr (Or.inr (Or.inr (Or.inr (Or.inl ⟨c1, c2, c3, c6, c9, c10, c11, c12, rfl⟩)))))))), ht2⟩) (fun q h => by cases h) dX10_count_118
  by_cases c15 : i0.toInt = 8
  · skip
    refine lv_tableIn (tgt := 119) hx hb dX10_count_1 (by rw [c15]; decide) (by rw [c15]; decide) (by rw [c15] <;> rfl) (by decide) ?_
    refine lv_aload_n hx hb dX10_count_119 rfl (lv_at hl 0 rfl) ?_
    refine va_get (D := D) (ci := 9) (v := .ref h1) (C := RX10) (T := TX10) (N := 17) hx hb hts i_X10 hown hK.1 hP 0 rfl rfl 0 (by decide) (ht _ kt_849) (fun _ h9 => h9) rfl dX10_count_120 ?_
    refine lv_iconst (v := 1) hx hb dX10_count_123 (by decide) ?_
    refine va_iald hx hb hK.1 hP 1 0 rfl rfl (vin (by decide)) dX10_count_124 ?_
    refine lz_i 0 rfl ?_
    exact W.iret (v := 0) hx hb hr (fun t ht2 hW => ⟨0, rfl, (Or.inr (Or.inr (Or.inr (Or.inr (Or.inr (Or.inr (Or.inr (Or.inr (Or.inl ⟨c1, c2, c3, c6, c9, c10, c11, c12, c15, rfl⟩))))))))), ht2⟩) (fun q h => by cases h) dX10_count_125
  by_cases c16 : i0.toInt = 9
  · skip
    refine lv_tableIn (tgt := 126) hx hb dX10_count_1 (by rw [c16]; decide) (by rw [c16]; decide) (by rw [c16] <;> rfl) (by decide) ?_
    refine lv_aload_n hx hb dX10_count_126 rfl (lv_at hl 0 rfl) ?_
    refine va_get (D := D) (ci := 9) (v := .ref h1) (C := RX10) (T := TX10) (N := 17) hx hb hts i_X10 hown hK.1 hP 0 rfl rfl 0 (by decide) (ht _ kt_849) (fun _ h9 => h9) rfl dX10_count_127 ?_
    refine lv_iconst (v := 3) hx hb dX10_count_130 (by decide) ?_
    refine va_iald hx hb hK.1 hP 1 0 rfl rfl (vin (by decide)) dX10_count_131 ?_
    refine lz_i 0 rfl ?_
    exact W.iret (v := 0) hx hb hr (fun t ht2 hW => ⟨0, rfl, (Or.inr (Or.inr (Or.inr (Or.inr (Or.inr (Or.inr (Or.inr (Or.inr (Or.inr (Or.inl ⟨c1, c2, c3, c6, c9, c10, c11, c12, c15, c16, rfl⟩)))))))))), ht2⟩) (fun q h => by cases h) dX10_count_132
  by_cases c17 : i0.toInt = 10
  · skip
    refine lv_tableIn (tgt := 133) hx hb dX10_count_1 (by rw [c17]; decide) (by rw [c17]; decide) (by rw [c17] <;> rfl) (by decide) ?_
    refine lv_aload_n hx hb dX10_count_133 rfl (lv_at hl 0 rfl) ?_
    refine va_get (D := D) (ci := 9) (v := .ref h1) (C := RX10) (T := TX10) (N := 17) hx hb hts i_X10 hown hK.1 hP 0 rfl rfl 0 (by decide) (ht _ kt_849) (fun _ h9 => h9) rfl dX10_count_134 ?_
    refine lv_iconst (v := 4) hx hb dX10_count_137 (by decide) ?_
    refine va_iald hx hb hK.1 hP 1 0 rfl rfl (vin (by decide)) dX10_count_138 ?_
    refine lz_i 0 rfl ?_
    exact W.iret (v := 0) hx hb hr (fun t ht2 hW => ⟨0, rfl, (Or.inr (Or.inr (Or.inr (Or.inr (Or.inr (Or.inr (Or.inr (Or.inr (Or.inr (Or.inr (Or.inl ⟨c1, c2, c3, c6, c9, c10, c11, c12, c15, c16, c17, rfl⟩))))))))))), ht2⟩) (fun q h => by cases h) dX10_count_139
  by_cases c18 : i0.toInt = 11
  · skip
    refine lv_tableIn (tgt := 140) hx hb dX10_count_1 (by rw [c18]; decide) (by rw [c18]; decide) (by rw [c18] <;> rfl) (by decide) ?_
    refine lv_bipush (v := 32) hx hb dX10_count_140 (by decide) ?_
    refine lv_aload_n hx hb dX10_count_142 rfl (lv_at hl 0 rfl) ?_
    refine va_get (D := D) (ci := 9) (v := .ref h1) (C := RX10) (T := TX10) (N := 17) hx hb hts i_X10 hown hK.1 hP 0 rfl rfl 0 (by decide) (ht _ kt_849) (fun _ h9 => h9) rfl dX10_count_143 ?_
    refine lv_bipush (v := 8) hx hb dX10_count_146 (by decide) ?_
    refine va_iald hx hb hK.1 hP 1 0 rfl rfl (vin (by decide)) dX10_count_148 ?_
    refine lz_i 0 rfl ?_
    refine va_mmin hx hb (hml.trans hl.1.symm) hown (ht _ kt_976) (ht _ kt_415) (ht _ kt_12) (ht _ kt_416) (Nat.le_of_ble_eq_true rfl) (Nat.le_of_ble_eq_true rfl) (Nat.le_of_ble_eq_true rfl) (Nat.le_of_ble_eq_true rfl) dX10_count_149 ?_
    refine lz_i 0 (by decide) ?_
    exact W.iret (v := 0) hx hb hr (fun t ht2 hW => ⟨0, rfl, (Or.inr (Or.inr (Or.inr (Or.inr (Or.inr (Or.inr (Or.inr (Or.inr (Or.inr (Or.inr (Or.inr (Or.inl ⟨c1, c2, c3, c6, c9, c10, c11, c12, c15, c16, c17, c18, rfl⟩)))))))))))), ht2⟩) (fun q h => by cases h) dX10_count_152
  refine lv_tableOut (tgt := 153) hx hb dX10_count_1 (by omega) (by decide) ?_
  refine lv_iconst (v := (-1)) hx hb dX10_count_153 (by decide) ?_
  exact W.iret (v := (-1)) hx hb hr (fun t ht2 hW => ⟨(-1), rfl, (Or.inr (Or.inr (Or.inr (Or.inr (Or.inr (Or.inr (Or.inr (Or.inr (Or.inr (Or.inr (Or.inr (Or.inr (⟨c1, c2, c3, c6, c9, c10, c11, c12, c15, c16, c17, c18, rfl⟩))))))))))))), ht2⟩) (fun q h => by cases h) dX10_count_154
