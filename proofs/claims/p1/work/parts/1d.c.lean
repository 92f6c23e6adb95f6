def w36 (cy : Nat → ClassId) (h0 h1 h2 h3 h4 h5 h6 h7 h8 h9 h10 h11 h12 h13 h14 h15 h16 h17 h18 h19 h20 h21 h22 : Nat) : va_W := [(h0, .inr (8, [.ref h1, .null, .null])), (h1, .inr (4, [.ref h2, .int 0, .ref h3, .int 0, .ref h4, .ref h5, .ref h6, .ref h7, .ref h8, .ref h9, .int 0, .int 0, .int 0, .int 0, .int 0])), (h3, .inl (cy 4, 12, .inr (.inr (.inr (.inr (va_up (va_up (va_up (va_up (va_up (va_up (va_up (va_up (va_up (va_up (va_up (va_up (fun _ => none) 0 (some h10)) 1 (some h11)) 2 (some h12)) 3 (some h13)) 4 (some h14)) 5 (some h15)) 6 (some h16)) 7 (some h17)) 8 (some h18)) 9 (some h19)) 10 (some h20)) 11 (some h21))))))), (h8, .inr (6, [.ref h22, .int 0])), (h10, .inr (2, [.int 0, .int 0, .int 0, .int 0, .int 0, .int 0, .int 0, .int 0, .int 0, .int 0, .int 0, .int 0]))]
set_option maxHeartbeats 4000000 in
set_option maxRecDepth 100000 in
theorem c36_X9_operator (l : Launch) (D : va_G) (cy : Nat → ClassId) (h0 h1 h2 h3 h4 h5 h6 h7 h8 h9 h10 h11 h12 h13 h14 h15 h16 h17 h18 h19 h20 h21 h22 : Nat) (sz : Nat) : Met l yX9_operator (Cond.code yX9_operator cX9_operator 4 (some .int) :: GT) ({ frames := 6, cells := 1, slots := 4, locals := 130 }) (gN D cy (w36 cy h0 h1 h2 h3 h4 h5 h6 h7 h8 h9 h10 h11 h12 h13 h14 h15 h16 h17 h18 h19 h20 h21 h22) [.ref h0] sz) (va_Qi (fun (r : Int32) (_ : Unit) => r = (-10)) (fun _ _ => True) (va_A (w36 cy h0 h1 h2 h3 h4 h5 h6 h7 h8 h9 h10 h11 h12 h13 h14 h15 h16 h17 h18 h19 h20 h21 h22) sz)) 1 4 (va_A (w36 cy h0 h1 h2 h3 h4 h5 h6 h7 h8 h9 h10 h11 h12 h13 h14 h15 h16 h17 h18 h19 h20 h21 h22) sz) := by
  refine Met.ofW (cc := cX9_operator) (maxL := 4) (ret := some .int) (by decide) rfl ?_
  intro p e s m args below meth c s₁ B hml hv
  obtain ⟨rfl, hsz, hP, hK, hD0⟩ := hv
  have hx := B.exec
  have hb := B.bytes
  have hr := B.returns
  have hts := atoms_spec (ws := (Cond.code yX9_operator cX9_operator 4 (some .int) :: GT)) B.pre
  have ht : ∀ w ∈ GT, w.before _ s = true := fun w h => hts w (List.mem_cons_of_mem _ h)
  have hown : s.vm.findClass RX9 = some m.cls := findClass_of_methodNamed B.named
  have hlocks := B.notSynchronized
  subst hsz
  have hD := hD0.self (sz := s.heap.size)
  generalize hAe : va_A (w36 cy h0 h1 h2 h3 h4 h5 h6 h7 h8 h9 h10 h11 h12 h13 h14 h15 h16 h17 h18 h19 h20 h21 h22) s.heap.size = A at hD ⊢
  have hA : ∀ q : Nat, s.heap.size ≤ q → A q := fun q h => by rw [← hAe]; exact Or.inr h
  have hS : va_S A s.heap s.heap [] := va_S.rf
  have hD : va_D A ([(h0, .inr (8, [.ref h1, .null, .null])), (h1, .inr (4, [.ref h2, .int 0, .ref h3, .int 0, .ref h4, .ref h5, .ref h6, .ref h7, .ref h8, .ref h9, .int 0, .int 0, .int 0, .int 0, .int 0])), (h3, .inl (cy 4, 12, .inr (.inr (.inr (.inr (va_up (va_up (va_up (va_up (va_up (va_up (va_up (va_up (va_up (va_up (va_up (va_up (fun _ => none) 0 (some h10)) 1 (some h11)) 2 (some h12)) 3 (some h13)) 4 (some h14)) 5 (some h15)) 6 (some h16)) 7 (some h17)) 8 (some h18)) 9 (some h19)) 10 (some h20)) 11 (some h21))))))), (h8, .inr (6, [.ref h22, .int 0])), (h10, .inr (2, [.int 0, .int 0, .int 0, .int 0, .int 0, .int 0, .int 0, .int 0, .int 0, .int 0, .int 0, .int 0]))]) := hD
  have hP : va_P D classes ([(h0, .inr (8, [.ref h1, .null, .null])), (h1, .inr (4, [.ref h2, .int 0, .ref h3, .int 0, .ref h4, .ref h5, .ref h6, .ref h7, .ref h8, .ref h9, .int 0, .int 0, .int 0, .int 0, .int 0])), (h3, .inl (cy 4, 12, .inr (.inr (.inr (.inr (va_up (va_up (va_up (va_up (va_up (va_up (va_up (va_up (va_up (va_up (va_up (va_up (fun _ => none) 0 (some h10)) 1 (some h11)) 2 (some h12)) 3 (some h13)) 4 (some h14)) 5 (some h15)) 6 (some h16)) 7 (some h17)) 8 (some h18)) 9 (some h19)) 10 (some h20)) 11 (some h21))))))), (h8, .inr (6, [.ref h22, .int 0])), (h10, .inr (2, [.int 0, .int 0, .int 0, .int 0, .int 0, .int 0, .int 0, .int 0, .int 0, .int 0, .int 0, .int 0]))]) s.heap := hP
  have hl := lv_entry ([.ref h0]) (n := 4) (Nat.le_of_ble_eq_true rfl)
  rw [lg_entry_eq]
  generalize (lg_sl ([.ref h0]) ++ List.replicate (4 - (lg_sl ([.ref h0])).length) Slot.unset).toArray = ls at hl ⊢
  have hl : lv_has ls 4 [(0, .ref h0)] := hl
  refine lv_aload_n hx hb dX9_operator_0 rfl (lv_at hl 0 rfl) ?_
  refine va_get (D := D) (ci := 8) (v := .ref h1) (C := RX9) (T := TX9) (N := 3) hx hb hts i_X9 hown hK.1 hP 0 rfl rfl 0 (by decide) (ht _ kt_260) (fun _ h9 => h9) rfl dX9_operator_1 ?_
  refine va_getN (D := D) (ci := 4) (v := .int 0) (C := RX5) (T := TX5) (N := 15) hx hb hts i_X5 hown hK.1 hP 1 rfl rfl 3 (by decide) (va_Nw.use rfl (hK.2.1 _ kt_205)) (fun _ h9 => h9) rfl dX9_operator_4 ?_
  refine lv_bipush (v := 12) hx hb dX9_operator_7 (by decide) ?_
  refine lv_icmp_lt (tgt := 15) hx hb dX9_operator_9 (by decide) (fun _ => ?_) (fun c1 => absurd c1 (by decide))
  refine lv_aload_n hx hb dX9_operator_15 rfl (lv_at hl 0 rfl) ?_
  refine va_get (D := D) (ci := 8) (v := .ref h1) (C := RX9) (T := TX9) (N := 3) hx hb hts i_X9 hown hK.1 hP 0 rfl rfl 0 (by decide) (ht _ kt_260) (fun _ h9 => h9) rfl dX9_operator_16 ?_
  refine va_getN (D := D) (ci := 4) (v := .ref h3) (C := RX5) (T := TX5) (N := 15) hx hb hts i_X5 hown hK.1 hP 1 rfl rfl 2 (by decide) (va_Nw.use rfl (hK.2.1 _ kt_203)) (fun _ h9 => h9) rfl dX9_operator_19 ?_
  refine lv_aload_n hx hb dX9_operator_22 rfl (lv_at hl 0 rfl) ?_
  refine va_get (D := D) (ci := 8) (v := .ref h1) (C := RX9) (T := TX9) (N := 3) hx hb hts i_X9 hown hK.1 hP 0 rfl rfl 0 (by decide) (ht _ kt_260) (fun _ h9 => h9) rfl dX9_operator_23 ?_
  refine va_getN (D := D) (ci := 4) (v := .int 0) (C := RX5) (T := TX5) (N := 15) hx hb hts i_X5 hown hK.1 hP 1 rfl rfl 3 (by decide) (va_Nw.use rfl (hK.2.1 _ kt_205)) (fun _ h9 => h9) rfl dX9_operator_26 ?_
  refine va_aldq hx hb hK.1 hP 2 4 rfl rfl (vin (by decide)) dX9_operator_29 ?_
  refine lz_v (.ref h10) rfl ?_
  refine lv_astore_n (lv' := [(1, .ref h10), (0, .ref h0)]) hx hb dX9_operator_30 rfl hl (by decide) rfl (fun ls hl => ?_)
  refine va_new (ci := 7) (fs := [.null, .null, .int 0, .int 0]) (C := RX8) (T := TX8) (N := 4) hx hb hts i_X8 tyX8 tyX8_ok hown (ht _ kt_386) (ht _ kt_387) (ht _ kt_11) hK.1 hP hD hS hA rfl df_X8 (Nat.le_of_ble_eq_true rfl) (Nat.le_of_ble_eq_true rfl) dX9_operator_31 (fun q2 H hP hD hS => ?_)
  have hP : va_P D classes ([(h0, .inr (8, [.ref h1, .null, .null])), (h1, .inr (4, [.ref h2, .int 0, .ref h3, .int 0, .ref h4, .ref h5, .ref h6, .ref h7, .ref h8, .ref h9, .int 0, .int 0, .int 0, .int 0, .int 0])), (h3, .inl (cy 4, 12, .inr (.inr (.inr (.inr (va_up (va_up (va_up (va_up (va_up (va_up (va_up (va_up (va_up (va_up (va_up (va_up (fun _ => none) 0 (some h10)) 1 (some h11)) 2 (some h12)) 3 (some h13)) 4 (some h14)) 5 (some h15)) 6 (some h16)) 7 (some h17)) 8 (some h18)) 9 (some h19)) 10 (some h20)) 11 (some h21))))))), (h8, .inr (6, [.ref h22, .int 0])), (h10, .inr (2, [.int 0, .int 0, .int 0, .int 0, .int 0, .int 0, .int 0, .int 0, .int 0, .int 0, .int 0, .int 0])), (q2, .inr (7, [.null, .null, .int 0, .int 0]))]) H := hP
  have hD : va_D A ([(h0, .inr (8, [.ref h1, .null, .null])), (h1, .inr (4, [.ref h2, .int 0, .ref h3, .int 0, .ref h4, .ref h5, .ref h6, .ref h7, .ref h8, .ref h9, .int 0, .int 0, .int 0, .int 0, .int 0])), (h3, .inl (cy 4, 12, .inr (.inr (.inr (.inr (va_up (va_up (va_up (va_up (va_up (va_up (va_up (va_up (va_up (va_up (va_up (va_up (fun _ => none) 0 (some h10)) 1 (some h11)) 2 (some h12)) 3 (some h13)) 4 (some h14)) 5 (some h15)) 6 (some h16)) 7 (some h17)) 8 (some h18)) 9 (some h19)) 10 (some h20)) 11 (some h21))))))), (h8, .inr (6, [.ref h22, .int 0])), (h10, .inr (2, [.int 0, .int 0, .int 0, .int 0, .int 0, .int 0, .int 0, .int 0, .int 0, .int 0, .int 0, .int 0])), (q2, .inr (7, [.null, .null, .int 0, .int 0]))]) := hD
  refine W.widen (k := 1) (n := 4) (Nat.le_of_ble_eq_true rfl) (Nat.le_of_ble_eq_true rfl) ?_
  refine lv_dup hx hb dX9_operator_34 rfl ?_
  refine lv_aload_n hx hb dX9_operator_35 rfl (lv_at hl 1 rfl) ?_
  refine va_get (D := D) (ci := 8) (v := .ref h1) (C := RX9) (T := TX9) (N := 3) hx hb hts i_X9 hown hK.1 hP 0 rfl rfl 0 (by decide) (ht _ kt_260) (fun _ h9 => h9) rfl dX9_operator_36 ?_
  have hPc := hP.sub (ws' := (w15 cy q2 h1 h2 h3 h4 h5 h6 h7 h8 h9)) [5, 1] rfl
  have hDc := hD.sub (ws' := (w15 cy q2 h1 h2 h3 h4 h5 h6 h7 h8 h9)) [5, 1] (by decide +kernel) rfl
  have hFc := va_free (wc := (w15 cy q2 h1 h2 h3 h4 h5 h6 h7 h8 h9)) hD hS hA [5, 1] rfl
  refine va_callv (va_runI (As := [.ref h1]) (rest := [.ref q2]) ⟨hx, hb, hml, hown, hts⟩ (c15_X8_init l D cy q2 h1 h2 h3 h4 h5 h6 h7 h8 h9 H.size) (cwI 1 hts (gt_G kt_390) rfl rfl rfl (ht _ kt_11) (ht _ kt_388) (ht _ kt_389) rfl (by decide +kernel) ⟨Nat.le_of_ble_eq_true rfl, Nat.le_of_ble_eq_true rfl⟩) (gN_S hK hPc hDc) rfl rfl hl.1 rfl (lv_room (Nat.le_of_ble_eq_true rfl)) dX9_operator_39 ⟨Nat.le_of_ble_eq_true rfl, Nat.le_of_ble_eq_true rfl⟩) hS (fun q _ h => hFc q h) hFc (fun u5 t H1 locs ht2 hvm hw4 hB hz1 hk1 hS => ?_)
  obtain ⟨hP1, hD1⟩ := hB
  rw [ht2] at hP1
  obtain ⟨hP, hD⟩ := va_join (wr := ([(h0, .inr (8, [.ref h1, .null, .null])), (h3, .inl (cy 4, 12, .inr (.inr (.inr (.inr (va_up (va_up (va_up (va_up (va_up (va_up (va_up (va_up (va_up (va_up (va_up (va_up (fun _ => none) 0 (some h10)) 1 (some h11)) 2 (some h12)) 3 (some h13)) 4 (some h14)) 5 (some h15)) 6 (some h16)) 7 (some h17)) 8 (some h18)) 9 (some h19)) 10 (some h20)) 11 (some h21))))))), (h8, .inr (6, [.ref h22, .int 0])), (h10, .inr (2, [.int 0, .int 0, .int 0, .int 0, .int 0, .int 0, .int 0, .int 0, .int 0, .int 0, .int 0, .int 0]))] : va_W)) (w1 := (vw15 cy q2 h1 h2 h3 h4 h5 h6 h7 h8 h9 u5)) hP hD [5, 1] [0, 2, 3, 4] rfl rfl (by decide +kernel) (by decide +kernel) hk1 hFc hP1 hD1
  generalize H1 = H at hP hS ⊢
  have hP : va_P D classes ([(h0, .inr (8, [.ref h1, .null, .null])), (h3, .inl (cy 4, 12, .inr (.inr (.inr (.inr (va_up (va_up (va_up (va_up (va_up (va_up (va_up (va_up (va_up (va_up (va_up (va_up (fun _ => none) 0 (some h10)) 1 (some h11)) 2 (some h12)) 3 (some h13)) 4 (some h14)) 5 (some h15)) 6 (some h16)) 7 (some h17)) 8 (some h18)) 9 (some h19)) 10 (some h20)) 11 (some h21))))))), (h8, .inr (6, [.ref h22, .int 0])), (h10, .inr (2, [.int 0, .int 0, .int 0, .int 0, .int 0, .int 0, .int 0, .int 0, .int 0, .int 0, .int 0, .int 0])), (q2, .inr (7, [.ref h1, .ref h8, .int 0, .int 0])), (h1, .inr (4, [.ref h2, .int 0, .ref h3, .int 0, .ref h4, .ref h5, .ref h6, .ref h7, .ref h8, .ref h9, .int 0, .int 0, .int 0, .int 0, .int 0]))]) H := hP
  have hD : va_D A ([(h0, .inr (8, [.ref h1, .null, .null])), (h3, .inl (cy 4, 12, .inr (.inr (.inr (.inr (va_up (va_up (va_up (va_up (va_up (va_up (va_up (va_up (va_up (va_up (va_up (va_up (fun _ => none) 0 (some h10)) 1 (some h11)) 2 (some h12)) 3 (some h13)) 4 (some h14)) 5 (some h15)) 6 (some h16)) 7 (some h17)) 8 (some h18)) 9 (some h19)) 10 (some h20)) 11 (some h21))))))), (h8, .inr (6, [.ref h22, .int 0])), (h10, .inr (2, [.int 0, .int 0, .int 0, .int 0, .int 0, .int 0, .int 0, .int 0, .int 0, .int 0, .int 0, .int 0])), (q2, .inr (7, [.ref h1, .ref h8, .int 0, .int 0])), (h1, .inr (4, [.ref h2, .int 0, .ref h3, .int 0, .ref h4, .ref h5, .ref h6, .ref h7, .ref h8, .ref h9, .int 0, .int 0, .int 0, .int 0, .int 0]))]) := hD
  refine W.widen (k := 1) (n := 4) (Nat.le_of_ble_eq_true rfl) (Nat.le_of_ble_eq_true rfl) ?_
  refine lv_astore_n (lv' := [(2, .ref q2), (1, .ref h10), (0, .ref h0)]) hx hb dX9_operator_42 rfl hl (by decide) rfl (fun ls hl => ?_)
  refine lv_aload_n hx hb dX9_operator_43 rfl (lv_at hl 0 rfl) ?_
  refine lv_aload_n hx hb dX9_operator_44 rfl (lv_at hl 1 rfl) ?_
  have hPc := hP.sub (ws' := (w35 cy q2 h10 h1 h8 h22 h2 h3 h4 h5 h6 h7 h9)) [4, 2, 3, 5] rfl
  have hDc := hD.sub (ws' := (w35 cy q2 h10 h1 h8 h22 h2 h3 h4 h5 h6 h7 h9)) [4, 2, 3, 5] (by decide +kernel) rfl
  have hFc := va_free (wc := (w35 cy q2 h10 h1 h8 h22 h2 h3 h4 h5 h6 h7 h9)) hD hS hA [4, 2, 3, 5] rfl
  refine va_calli (va_runV (As := [.ref h10]) (rest := []) ⟨hx, hb, hml, hown, hts⟩ (c35_X8_readOperator l D cy q2 h10 h1 h8 h22 h2 h3 h4 h5 h6 h7 h9 H.size) (cwV 1 hts (gt_V kt_406 kt_407 kt_408 kt_11 kt_409) rfl rfl rfl (by decide +kernel) ⟨Nat.le_of_ble_eq_true rfl, Nat.le_of_ble_eq_true rfl⟩) (gN_V hK hPc hDc hP (ci := 7) (q0 := 4) rfl rfl) rfl rfl hl.1 rfl (lv_room (Nat.le_of_ble_eq_true rfl)) dX9_operator_45 ⟨Nat.le_of_ble_eq_true rfl, Nat.le_of_ble_eq_true rfl⟩) hS (fun q _ h => hFc q h) hFc (fun r6 u8 t H1 locs ht2 hvm hw7 hB hz1 hk1 hS => ?_)
  obtain ⟨hP1, hD1⟩ := hB
  rw [ht2] at hP1
  obtain ⟨hP, hD⟩ := va_join (wr := ([(h0, .inr (8, [.ref h1, .null, .null])), (h3, .inl (cy 4, 12, .inr (.inr (.inr (.inr (va_up (va_up (va_up (va_up (va_up (va_up (va_up (va_up (va_up (va_up (va_up (va_up (fun _ => none) 0 (some h10)) 1 (some h11)) 2 (some h12)) 3 (some h13)) 4 (some h14)) 5 (some h15)) 6 (some h16)) 7 (some h17)) 8 (some h18)) 9 (some h19)) 10 (some h20)) 11 (some h21)))))))] : va_W)) (w1 := (vw35 cy q2 h10 h1 h8 h22 h2 h3 h4 h5 h6 h7 h9 u8)) hP hD [4, 2, 3, 5] [0, 1] rfl rfl (by decide +kernel) (by decide +kernel) hk1 hFc hP1 hD1
  generalize H1 = H at hP hS ⊢
  have hP : va_P D classes ([(h0, .inr (8, [.ref h1, .null, .null])), (h3, .inl (cy 4, 12, .inr (.inr (.inr (.inr (va_up (va_up (va_up (va_up (va_up (va_up (va_up (va_up (va_up (va_up (va_up (va_up (fun _ => none) 0 (some h10)) 1 (some h11)) 2 (some h12)) 3 (some h13)) 4 (some h14)) 5 (some h15)) 6 (some h16)) 7 (some h17)) 8 (some h18)) 9 (some h19)) 10 (some h20)) 11 (some h21))))))), (q2, .inr (7, [.ref h1, .ref h8, .int 0, .int 1])), (h8, .inr (6, [.ref h22, .int 0])), (h10, .inr (2, [.int 0, .int 0, .int 0, .int 0, .int 0, .int 0, .int 0, .int 0, .int 0, .int 1, .int 0, .int 0])), (h1, .inr (4, [.ref h2, .int 0, .ref h3, .int 0, .ref h4, .ref h5, .ref h6, .ref h7, .ref h8, .ref h9, .int 0, .int 0, .int 0, .int 0, .int 0]))]) H := hP
  have hD : va_D A ([(h0, .inr (8, [.ref h1, .null, .null])), (h3, .inl (cy 4, 12, .inr (.inr (.inr (.inr (va_up (va_up (va_up (va_up (va_up (va_up (va_up (va_up (va_up (va_up (va_up (va_up (fun _ => none) 0 (some h10)) 1 (some h11)) 2 (some h12)) 3 (some h13)) 4 (some h14)) 5 (some h15)) 6 (some h16)) 7 (some h17)) 8 (some h18)) 9 (some h19)) 10 (some h20)) 11 (some h21))))))), (q2, .inr (7, [.ref h1, .ref h8, .int 0, .int 1])), (h8, .inr (6, [.ref h22, .int 0])), (h10, .inr (2, [.int 0, .int 0, .int 0, .int 0, .int 0, .int 0, .int 0, .int 0, .int 0, .int 1, .int 0, .int 0])), (h1, .inr (4, [.ref h2, .int 0, .ref h3, .int 0, .ref h4, .ref h5, .ref h6, .ref h7, .ref h8, .ref h9, .int 0, .int 0, .int 0, .int 0, .int 0]))]) := hD
  refine W.widen (k := 1) (n := 4) (Nat.le_of_ble_eq_true rfl) (Nat.le_of_ble_eq_true rfl) ?_
  obtain rfl : r6 = 0 := hw7
  refine lv_istore_n (lv' := [(3, .int 0), (2, .ref q2), (1, .ref h10), (0, .ref h0)]) hx hb dX9_operator_48 rfl hl (by decide) rfl (fun ls hl => ?_)
  refine lv_aload_n hx hb dX9_operator_49 rfl (lv_at hl 3 rfl) ?_
  refine va_get (D := D) (ci := 8) (v := .ref h1) (C := RX9) (T := TX9) (N := 3) hx hb hts i_X9 hown hK.1 hP 0 rfl rfl 0 (by decide) (ht _ kt_260) (fun _ h9 => h9) rfl dX9_operator_50 ?_
  refine va_getN (D := D) (ci := 4) (v := .ref h8) (C := RX5) (T := TX5) (N := 15) hx hb hts i_X5 hown hK.1 hP 5 rfl rfl 8 (by decide) (va_Nw.use rfl (hK.2.1 _ kt_216)) (fun _ h9 => h9) rfl dX9_operator_53 ?_
  refine lv_iconst (v := 0) hx hb dX9_operator_56 (by decide) ?_
  refine va_putN (D := D) (ci := 6) (v := .int 0) (ty := .int) (C := RX7) (T := TX7) (N := 2) hx hb hts i_X7 tyX7 tyX7_ok nmX7 hown hK.1 hP hD hS 3 rfl rfl 1 (by decide) (va_Nw.use rfl (hK.2.1 _ kt_176)) (fun _ h9 => h9) rfl (by decide +kernel) rfl rfl (Nat.le_of_ble_eq_true rfl) dX9_operator_57 (fun H locs hP hD hS => ?_)
  have hP : va_P D classes ([(h0, .inr (8, [.ref h1, .null, .null])), (h3, .inl (cy 4, 12, .inr (.inr (.inr (.inr (va_up (va_up (va_up (va_up (va_up (va_up (va_up (va_up (va_up (va_up (va_up (va_up (fun _ => none) 0 (some h10)) 1 (some h11)) 2 (some h12)) 3 (some h13)) 4 (some h14)) 5 (some h15)) 6 (some h16)) 7 (some h17)) 8 (some h18)) 9 (some h19)) 10 (some h20)) 11 (some h21))))))), (q2, .inr (7, [.ref h1, .ref h8, .int 0, .int 1])), (h8, .inr (6, [.ref h22, .int 0])), (h10, .inr (2, [.int 0, .int 0, .int 0, .int 0, .int 0, .int 0, .int 0, .int 0, .int 0, .int 1, .int 0, .int 0])), (h1, .inr (4, [.ref h2, .int 0, .ref h3, .int 0, .ref h4, .ref h5, .ref h6, .ref h7, .ref h8, .ref h9, .int 0, .int 0, .int 0, .int 0, .int 0]))]) H := hP
  have hD : va_D A ([(h0, .inr (8, [.ref h1, .null, .null])), (h3, .inl (cy 4, 12, .inr (.inr (.inr (.inr (va_up (va_up (va_up (va_up (va_up (va_up (va_up (va_up (va_up (va_up (va_up (va_up (fun _ => none) 0 (some h10)) 1 (some h11)) 2 (some h12)) 3 (some h13)) 4 (some h14)) 5 (some h15)) 6 (some h16)) 7 (some h17)) 8 (some h18)) 9 (some h19)) 10 (some h20)) 11 (some h21))))))), (q2, .inr (7, [.ref h1, .ref h8, .int 0, .int 1])), (h8, .inr (6, [.ref h22, .int 0])), (h10, .inr (2, [.int 0, .int 0, .int 0, .int 0, .int 0, .int 0, .int 0, .int 0, .int 0, .int 1, .int 0, .int 0])), (h1, .inr (4, [.ref h2, .int 0, .ref h3, .int 0, .ref h4, .ref h5, .ref h6, .ref h7, .ref h8, .ref h9, .int 0, .int 0, .int 0, .int 0, .int 0]))]) := hD
  refine lv_iload_n hx hb dX9_operator_60 rfl (lv_at hl 0 rfl) ?_
  refine lv_if_ne (tgt := 72) hx hb dX9_operator_61 (by decide) (fun c9 => absurd c9 (by decide)) (fun _ => ?_)
  refine lv_bipush (v := (-10)) hx hb dX9_operator_64 (by decide) ?_
  refine lv_aload_n hx hb dX9_operator_66 rfl (lv_at hl 1 rfl) ?_
  refine va_getN (D := D) (ci := 7) (v := .int 0) (C := RX8) (T := TX8) (N := 4) hx hb hts i_X8 hown hK.1 hP 2 rfl rfl 2 (by decide) (va_Nw.use rfl (hK.2.1 _ kt_395)) (fun _ h9 => h9) rfl dX9_operator_67 ?_
  refine lv_isub hx hb dX9_operator_70 ?_
  refine lz_i (-10) (by decide) ?_
  refine W.widen (k := 1) (n := 4) (Nat.le_of_ble_eq_true rfl) (Nat.le_of_ble_eq_true rfl) ?_
  exact W.iret (v := (-10)) hx hb hr (fun t ht2 hW => ⟨⟨(-10), (), rfl, rfl, trivial⟩, hS.F ht2⟩) hS.2.2 dX9_operator_71
def w37 (cy : Nat → ClassId) (h0 h1 h2 h3 h4 h5 h6 h7 h8 : Nat) (i0 : Int32) : va_W := [(h0, .inr (4, [.ref h1, .int 0, .ref h2, .int 0, .ref h3, .ref h4, .ref h5, .ref h6, .ref h7, .ref h8, .int 0, .int 0, .int 0, .int 0, .int 0]))]
set_option maxHeartbeats 4000000 in
set_option maxRecDepth 100000 in
theorem c37_X5_hasOperator (l : Launch) (D : va_G) (cy : Nat → ClassId) (h0 h1 h2 h3 h4 h5 h6 h7 h8 : Nat) (i0 : Int32) : Met l yX5_hasOperator (Cond.code yX5_hasOperator cX5_hasOperator 2 (some .boolean) :: GT) ({ frames := 0, cells := 0, slots := 0, locals := 0 }) (gP D cy (w37 cy h0 h1 h2 h3 h4 h5 h6 h7 h8 i0) [.ref h0, .int i0]) (vp_Si (fun r => r = 0)) 0 0 (fun _ => False) := by
  refine Met.ofW (cc := cX5_hasOperator) (maxL := 2) (ret := some .boolean) (by decide) rfl ?_
  intro p e s m args below meth c s₁ B hml hv
  obtain ⟨rfl, hP, hK⟩ := hv
  have hx := B.exec
  have hb := B.bytes
  have hr := B.returns
  have hts := atoms_spec (ws := (Cond.code yX5_hasOperator cX5_hasOperator 2 (some .boolean) :: GT)) B.pre
  have ht : ∀ w ∈ GT, w.before _ s = true := fun w h => hts w (List.mem_cons_of_mem _ h)
  have hown : s.vm.findClass RX5 = some m.cls := findClass_of_methodNamed B.named
  have hlocks := B.notSynchronized
  have hP : va_P D classes ([(h0, .inr (4, [.ref h1, .int 0, .ref h2, .int 0, .ref h3, .ref h4, .ref h5, .ref h6, .ref h7, .ref h8, .int 0, .int 0, .int 0, .int 0, .int 0]))]) s.heap := hP
  have hl := lv_entry ([.ref h0, .int i0]) (n := 2) (Nat.le_of_ble_eq_true rfl)
  rw [lg_entry_eq]
  generalize (lg_sl ([.ref h0, .int i0]) ++ List.replicate (2 - (lg_sl ([.ref h0, .int i0])).length) Slot.unset).toArray = ls at hl ⊢
  have hl : lv_has ls 2 [(0, .ref h0), (1, .int i0)] := hl
  refine lv_iload_n hx hb dX5_hasOperator_0 rfl (lv_at hl 1 rfl) ?_
  refine lv_if_lt (tgt := 22) hx hb dX5_hasOperator_1 (by decide) (fun c1 => ?_) (fun c1 => ?_)
  · have c1 : i0.toInt < 0 := i_lt c1 rfl rfl
    refine lv_iconst (v := 0) hx hb dX5_hasOperator_22 (by decide) ?_
    exact W.zret (v := 0) hx hb hr rfl (fun t ht2 hW => ⟨0, rfl, rfl, ht2⟩) (fun q h => by cases h) dX5_hasOperator_23
  · have c1 : ¬ i0.toInt < 0 := i_nlt c1 rfl rfl
    refine lv_iload_n hx hb dX5_hasOperator_4 rfl (lv_at hl 1 rfl) ?_
    refine lv_aload_n hx hb dX5_hasOperator_5 rfl (lv_at hl 0 rfl) ?_
    refine va_get (D := D) (ci := 4) (v := .int 0) (C := RX5) (T := TX5) (N := 15) hx hb hts i_X5 hown hK.1 hP 0 rfl rfl 3 (by decide) (ht _ kt_204) (fun _ h9 => h9) rfl dX5_hasOperator_6 ?_
    refine lv_icmp_ge (tgt := 22) hx hb dX5_hasOperator_9 (by decide) (fun c2 => ?_) (fun c2 => ?_)
    · have c2 : 0 ≤ i0.toInt := i_le c2 rfl rfl
      refine lv_iconst (v := 0) hx hb dX5_hasOperator_22 (by decide) ?_
      exact W.zret (v := 0) hx hb hr rfl (fun t ht2 hW => ⟨0, rfl, rfl, ht2⟩) (fun q h => by cases h) dX5_hasOperator_23
    · have c2 : ¬ 0 ≤ i0.toInt := i_nle c2 rfl rfl
      exact (by omega : False).elim
def w38 (cy : Nat → ClassId) (h0 h1 h2 h3 h4 h5 h6 h7 h8 h9 : Nat) (i0 : Int32) : va_W := [(h0, .inr (8, [.ref h1, .null, .null])), (h1, .inr (4, [.ref h2, .int 0, .ref h3, .int 0, .ref h4, .ref h5, .ref h6, .ref h7, .ref h8, .ref h9, .int 0, .int 0, .int 0, .int 0, .int 0]))]
set_option maxHeartbeats 4000000 in
set_option maxRecDepth 100000 in
theorem c38_X9_remove (l : Launch) (D : va_G) (cy : Nat → ClassId) (h0 h1 h2 h3 h4 h5 h6 h7 h8 h9 : Nat) (i0 : Int32) : Met l yX9_remove (Cond.code yX9_remove cX9_remove 2 (some .int) :: GT) ({ frames := 1, cells := 0, slots := 0, locals := 21 }) (gP D cy (w38 cy h0 h1 h2 h3 h4 h5 h6 h7 h8 h9 i0) [.ref h0, .int i0]) (vp_Si (fun r => r = (-1))) 0 0 (fun _ => False) := by
  refine Met.ofW (cc := cX9_remove) (maxL := 2) (ret := some .int) (by decide) rfl ?_
  intro p e s m args below meth c s₁ B hml hv
  obtain ⟨rfl, hP, hK⟩ := hv
  have hx := B.exec
  have hb := B.bytes
  have hr := B.returns
  have hts := atoms_spec (ws := (Cond.code yX9_remove cX9_remove 2 (some .int) :: GT)) B.pre
  have ht : ∀ w ∈ GT, w.before _ s = true := fun w h => hts w (List.mem_cons_of_mem _ h)
  have hown : s.vm.findClass RX9 = some m.cls := findClass_of_methodNamed B.named
  have hlocks := B.notSynchronized
  have hP : va_P D classes ([(h0, .inr (8, [.ref h1, .null, .null])), (h1, .inr (4, [.ref h2, .int 0, .ref h3, .int 0, .ref h4, .ref h5, .ref h6, .ref h7, .ref h8, .ref h9, .int 0, .int 0, .int 0, .int 0, .int 0]))]) s.heap := hP
  have hl := lv_entry ([.ref h0, .int i0]) (n := 2) (Nat.le_of_ble_eq_true rfl)
  rw [lg_entry_eq]
  generalize (lg_sl ([.ref h0, .int i0]) ++ List.replicate (2 - (lg_sl ([.ref h0, .int i0])).length) Slot.unset).toArray = ls at hl ⊢
  have hl : lv_has ls 2 [(0, .ref h0), (1, .int i0)] := hl
  refine lv_aload_n hx hb dX9_remove_0 rfl (lv_at hl 0 rfl) ?_
  refine va_get (D := D) (ci := 8) (v := .ref h1) (C := RX9) (T := TX9) (N := 3) hx hb hts i_X9 hown hK.1 hP 0 rfl rfl 0 (by decide) (ht _ kt_260) (fun _ h9 => h9) rfl dX9_remove_1 ?_
  refine lv_iload_n hx hb dX9_remove_4 rfl (lv_at hl 1 rfl) ?_
  refine vp_callSi (va_Run.run (va_runV (As := [.int i0]) (rest := []) ⟨hx, hb, hml, hown, hts⟩ (c37_X5_hasOperator l D cy h1 h2 h3 h4 h5 h6 h7 h8 h9 i0) (cwV 1 hts (gt_V kt_474 kt_475 kt_476 kt_2 kt_477) rfl rfl rfl (by decide +kernel) ⟨Nat.le_of_ble_eq_true rfl, Nat.le_of_ble_eq_true rfl⟩) (gP_V hK (hP.sub (ws' := (w37 cy h1 h2 h3 h4 h5 h6 h7 h8 h9 i0)) [1] rfl) hP (ci := 4) (q0 := 1) rfl rfl) rfl rfl hl.1 rfl (lv_room (Nat.le_of_ble_eq_true rfl)) dX9_remove_5 ⟨Nat.le_of_ble_eq_true rfl, Nat.le_of_ble_eq_true rfl⟩)) (fun r1 hw2 => ?_)
  obtain rfl : r1 = 0 := hw2
  refine lv_if_ne (tgt := 13) hx hb dX9_remove_8 (by decide) (fun c3 => absurd c3 (by decide)) (fun _ => ?_)
  refine lv_iconst (v := (-1)) hx hb dX9_remove_11 (by decide) ?_
  exact W.iret (v := (-1)) hx hb hr (fun t ht2 hW => ⟨(-1), rfl, rfl, ht2⟩) (fun q h => by cases h) dX9_remove_12
def w39 (cy : Nat → ClassId) (h0 h1 h2 h3 h4 h5 h6 h7 h8 h9 : Nat) (i0 : Int32) : va_W := [(h0, .inr (8, [.ref h1, .null, .null])), (h1, .inr (4, [.ref h2, .int 0, .ref h3, .int 0, .ref h4, .ref h5, .ref h6, .ref h7, .ref h8, .ref h9, .int 0, .int 0, .int 0, .int 0, .int 0]))]
set_option maxHeartbeats 4000000 in
set_option maxRecDepth 100000 in
theorem c39_X9_policy (l : Launch) (D : va_G) (cy : Nat → ClassId) (h0 h1 h2 h3 h4 h5 h6 h7 h8 h9 : Nat) (i0 : Int32) (sz : Nat) : Met l yX9_policy (Cond.code yX9_policy cX9_policy 3 (some .int) :: GT) ({ frames := 0, cells := 0, slots := 0, locals := 0 }) (gN D cy (w39 cy h0 h1 h2 h3 h4 h5 h6 h7 h8 h9 i0) [.ref h0, .int i0] sz) (va_Qi (fun (r : Int32) (_ : Unit) => (i0.toInt < 0 ∧ r = (-2)) ∨ (¬ i0.toInt < 0 ∧ i0.toInt ≤ 4 ∧ r = 0) ∨ (¬ i0.toInt < 0 ∧ ¬ i0.toInt ≤ 4 ∧ r = (-2))) (fun _ _ => True) (va_A (w39 cy h0 h1 h2 h3 h4 h5 h6 h7 h8 h9 i0) sz)) 0 0 (va_A (w39 cy h0 h1 h2 h3 h4 h5 h6 h7 h8 h9 i0) sz) := by
  refine Met.ofW (cc := cX9_policy) (maxL := 3) (ret := some .int) (by decide) rfl ?_
  intro p e s m args below meth c s₁ B hml hv
  obtain ⟨rfl, hsz, hP, hK, hD0⟩ := hv
  have hx := B.exec
  have hb := B.bytes
  have hr := B.returns
  have hts := atoms_spec (ws := (Cond.code yX9_policy cX9_policy 3 (some .int) :: GT)) B.pre
  have ht : ∀ w ∈ GT, w.before _ s = true := fun w h => hts w (List.mem_cons_of_mem _ h)
  have hown : s.vm.findClass RX9 = some m.cls := findClass_of_methodNamed B.named
  have hlocks := B.notSynchronized
  subst hsz
  have hD := hD0.self (sz := s.heap.size)
  generalize hAe : va_A (w39 cy h0 h1 h2 h3 h4 h5 h6 h7 h8 h9 i0) s.heap.size = A at hD ⊢
  have hA : ∀ q : Nat, s.heap.size ≤ q → A q := fun q h => by rw [← hAe]; exact Or.inr h
  have hS : va_S A s.heap s.heap [] := va_S.rf
  have hD : va_D A ([(h0, .inr (8, [.ref h1, .null, .null])), (h1, .inr (4, [.ref h2, .int 0, .ref h3, .int 0, .ref h4, .ref h5, .ref h6, .ref h7, .ref h8, .ref h9, .int 0, .int 0, .int 0, .int 0, .int 0]))]) := hD
  have hP : va_P D classes ([(h0, .inr (8, [.ref h1, .null, .null])), (h1, .inr (4, [.ref h2, .int 0, .ref h3, .int 0, .ref h4, .ref h5, .ref h6, .ref h7, .ref h8, .ref h9, .int 0, .int 0, .int 0, .int 0, .int 0]))]) s.heap := hP
  have hl := lv_entry ([.ref h0, .int i0]) (n := 3) (Nat.le_of_ble_eq_true rfl)
  rw [lg_entry_eq]
  generalize (lg_sl ([.ref h0, .int i0]) ++ List.replicate (3 - (lg_sl ([.ref h0, .int i0])).length) Slot.unset).toArray = ls at hl ⊢
  have hl : lv_has ls 3 [(0, .ref h0), (1, .int i0)] := hl
  refine lv_iload_n hx hb dX9_policy_0 rfl (lv_at hl 1 rfl) ?_
  refine lv_if_lt (tgt := 9) hx hb dX9_policy_1 (by decide) (fun c1 => ?_) (fun c1 => ?_)
  · have c1 : i0.toInt < 0 := i_lt c1 rfl rfl
    refine lv_bipush (v := (-2)) hx hb dX9_policy_9 (by decide) ?_
    refine W.widen (k := 0) (n := 0) (Nat.le_of_ble_eq_true rfl) (Nat.le_of_ble_eq_true rfl) ?_
    exact W.iret (v := (-2)) hx hb hr (fun t ht2 hW => ⟨⟨(-2), (), rfl, (Or.inl ⟨c1, rfl⟩), trivial⟩, hS.F ht2⟩) hS.2.2 dX9_policy_11
  · have c1 : ¬ i0.toInt < 0 := i_nlt c1 rfl rfl
    refine lv_iload_n hx hb dX9_policy_4 rfl (lv_at hl 1 rfl) ?_
    refine lv_iconst (v := 4) hx hb dX9_policy_5 (by decide) ?_
    refine lv_icmp_le (tgt := 12) hx hb dX9_policy_6 (by decide) (fun c2 => ?_) (fun c2 => ?_)
    · have c2 : i0.toInt ≤ 4 := i_le c2 rfl rfl
      refine lv_aload_n hx hb dX9_policy_12 rfl (lv_at hl 0 rfl) ?_
      refine va_get (D := D) (ci := 8) (v := .ref h1) (C := RX9) (T := TX9) (N := 3) hx hb hts i_X9 hown hK.1 hP 0 rfl rfl 0 (by decide) (ht _ kt_260) (fun _ h9 => h9) rfl dX9_policy_13 ?_
      refine va_getN (D := D) (ci := 4) (v := .int 0) (C := RX5) (T := TX5) (N := 15) hx hb hts i_X5 hown hK.1 hP 1 rfl rfl 10 (by decide) (va_Nw.use rfl (hK.2.1 _ kt_220)) (fun _ h9 => h9) rfl dX9_policy_16 ?_
      refine lv_istore_n (lv' := [(2, .int 0), (0, .ref h0), (1, .int i0)]) hx hb dX9_policy_19 rfl hl (by decide) rfl (fun ls hl => ?_)
      refine lv_aload_n hx hb dX9_policy_20 rfl (lv_at hl 1 rfl) ?_
      refine va_get (D := D) (ci := 8) (v := .ref h1) (C := RX9) (T := TX9) (N := 3) hx hb hts i_X9 hown hK.1 hP 0 rfl rfl 0 (by decide) (ht _ kt_260) (fun _ h9 => h9) rfl dX9_policy_21 ?_
      refine lv_iload_n hx hb dX9_policy_24 rfl (lv_at hl 2 rfl) ?_
      refine va_putN (D := D) (ci := 4) (v := .int i0) (ty := .int) (C := RX5) (T := TX5) (N := 15) hx hb hts i_X5 tyX5 tyX5_ok nmX5 hown hK.1 hP hD hS 1 rfl rfl 10 (by decide) (va_Nw.use rfl (hK.2.1 _ kt_220)) (fun _ h9 => h9) rfl (by decide +kernel) rfl rfl (Nat.le_of_ble_eq_true rfl) dX9_policy_25 (fun H locs hP hD hS => ?_)
      have hP : va_P D classes ([(h0, .inr (8, [.ref h1, .null, .null])), (h1, .inr (4, [.ref h2, .int 0, .ref h3, .int 0, .ref h4, .ref h5, .ref h6, .ref h7, .ref h8, .ref h9, .int i0, .int 0, .int 0, .int 0, .int 0]))]) H := hP
      have hD : va_D A ([(h0, .inr (8, [.ref h1, .null, .null])), (h1, .inr (4, [.ref h2, .int 0, .ref h3, .int 0, .ref h4, .ref h5, .ref h6, .ref h7, .ref h8, .ref h9, .int i0, .int 0, .int 0, .int 0, .int 0]))]) := hD
      refine lv_iload_n hx hb dX9_policy_28 rfl (lv_at hl 0 rfl) ?_
      refine W.widen (k := 0) (n := 0) (Nat.le_of_ble_eq_true rfl) (Nat.le_of_ble_eq_true rfl) ?_
      exact W.iret (v := 0) hx hb hr (fun t ht2 hW => ⟨⟨0, (), rfl, (Or.inr (Or.inl ⟨c1, c2, rfl⟩)), trivial⟩, hS.F ht2⟩) hS.2.2 dX9_policy_29
    · have c2 : ¬ i0.toInt ≤ 4 := i_nle c2 rfl rfl
      refine lv_bipush (v := (-2)) hx hb dX9_policy_9 (by decide) ?_
      refine W.widen (k := 0) (n := 0) (Nat.le_of_ble_eq_true rfl) (Nat.le_of_ble_eq_true rfl) ?_
      exact W.iret (v := (-2)) hx hb hr (fun t ht2 hW => ⟨⟨(-2), (), rfl, (Or.inr (Or.inr (⟨c1, c2, rfl⟩))), trivial⟩, hS.F ht2⟩) hS.2.2 dX9_policy_11
def w40 (cy : Nat → ClassId) (h0 h1 h2 h3 h4 h5 h6 h7 h8 h9 : Nat) (i0 : Int32) : va_W := [(h0, .inr (8, [.ref h1, .null, .null])), (h1, .inr (4, [.ref h2, .int 0, .ref h3, .int 0, .ref h4, .ref h5, .ref h6, .ref h7, .ref h8, .ref h9, .int 0, .int 0, .int 0, .int 0, .int 0]))]
set_option maxHeartbeats 4000000 in
set_option maxRecDepth 100000 in
theorem c40_X9_discipline (l : Launch) (D : va_G) (cy : Nat → ClassId) (h0 h1 h2 h3 h4 h5 h6 h7 h8 h9 : Nat) (i0 : Int32) (sz : Nat) : Met l yX9_discipline (Cond.code yX9_discipline cX9_discipline 3 (some .int) :: GT) ({ frames := 0, cells := 0, slots := 0, locals := 0 }) (gN D cy (w40 cy h0 h1 h2 h3 h4 h5 h6 h7 h8 h9 i0) [.ref h0, .int i0] sz) (va_Qi (fun (r : Int32) (_ : Unit) => (i0.toInt < 0 ∧ r = (-2)) ∨ (¬ i0.toInt < 0 ∧ i0.toInt ≤ 1 ∧ r = 0) ∨ (¬ i0.toInt < 0 ∧ ¬ i0.toInt ≤ 1 ∧ r = (-2))) (fun _ _ => True) (va_A (w40 cy h0 h1 h2 h3 h4 h5 h6 h7 h8 h9 i0) sz)) 0 0 (va_A (w40 cy h0 h1 h2 h3 h4 h5 h6 h7 h8 h9 i0) sz) := by
  refine Met.ofW (cc := cX9_discipline) (maxL := 3) (ret := some .int) (by decide) rfl ?_
  intro p e s m args below meth c s₁ B hml hv
  obtain ⟨rfl, hsz, hP, hK, hD0⟩ := hv
  have hx := B.exec
  have hb := B.bytes
  have hr := B.returns
  have hts := atoms_spec (ws := (Cond.code yX9_discipline cX9_discipline 3 (some .int) :: GT)) B.pre
  have ht : ∀ w ∈ GT, w.before _ s = true := fun w h => hts w (List.mem_cons_of_mem _ h)
  have hown : s.vm.findClass RX9 = some m.cls := findClass_of_methodNamed B.named
  have hlocks := B.notSynchronized
  subst hsz
  have hD := hD0.self (sz := s.heap.size)
  generalize hAe : va_A (w40 cy h0 h1 h2 h3 h4 h5 h6 h7 h8 h9 i0) s.heap.size = A at hD ⊢
  have hA : ∀ q : Nat, s.heap.size ≤ q → A q := fun q h => by rw [← hAe]; exact Or.inr h
  have hS : va_S A s.heap s.heap [] := va_S.rf
  have hD : va_D A ([(h0, .inr (8, [.ref h1, .null, .null])), (h1, .inr (4, [.ref h2, .int 0, .ref h3, .int 0, .ref h4, .ref h5, .ref h6, .ref h7, .ref h8, .ref h9, .int 0, .int 0, .int 0, .int 0, .int 0]))]) := hD
  have hP : va_P D classes ([(h0, .inr (8, [.ref h1, .null, .null])), (h1, .inr (4, [.ref h2, .int 0, .ref h3, .int 0, .ref h4, .ref h5, .ref h6, .ref h7, .ref h8, .ref h9, .int 0, .int 0, .int 0, .int 0, .int 0]))]) s.heap := hP
  have hl := lv_entry ([.ref h0, .int i0]) (n := 3) (Nat.le_of_ble_eq_true rfl)
  rw [lg_entry_eq]
  generalize (lg_sl ([.ref h0, .int i0]) ++ List.replicate (3 - (lg_sl ([.ref h0, .int i0])).length) Slot.unset).toArray = ls at hl ⊢
  have hl : lv_has ls 3 [(0, .ref h0), (1, .int i0)] := hl
  refine lv_iload_n hx hb dX9_discipline_0 rfl (lv_at hl 1 rfl) ?_
  refine lv_if_lt (tgt := 9) hx hb dX9_discipline_1 (by decide) (fun c1 => ?_) (fun c1 => ?_)
  · have c1 : i0.toInt < 0 := i_lt c1 rfl rfl
    refine lv_bipush (v := (-2)) hx hb dX9_discipline_9 (by decide) ?_
    refine W.widen (k := 0) (n := 0) (Nat.le_of_ble_eq_true rfl) (Nat.le_of_ble_eq_true rfl) ?_
    exact W.iret (v := (-2)) hx hb hr (fun t ht2 hW => ⟨⟨(-2), (), rfl, (Or.inl ⟨c1, rfl⟩), trivial⟩, hS.F ht2⟩) hS.2.2 dX9_discipline_11
  · have c1 : ¬ i0.toInt < 0 := i_nlt c1 rfl rfl
    refine lv_iload_n hx hb dX9_discipline_4 rfl (lv_at hl 1 rfl) ?_
    refine lv_iconst (v := 1) hx hb dX9_discipline_5 (by decide) ?_
    refine lv_icmp_le (tgt := 12) hx hb dX9_discipline_6 (by decide) (fun c2 => ?_) (fun c2 => ?_)
    · have c2 : i0.toInt ≤ 1 := i_le c2 rfl rfl
      refine lv_aload_n hx hb dX9_discipline_12 rfl (lv_at hl 0 rfl) ?_
      refine va_get (D := D) (ci := 8) (v := .ref h1) (C := RX9) (T := TX9) (N := 3) hx hb hts i_X9 hown hK.1 hP 0 rfl rfl 0 (by decide) (ht _ kt_260) (fun _ h9 => h9) rfl dX9_discipline_13 ?_
      refine va_getN (D := D) (ci := 4) (v := .int 0) (C := RX5) (T := TX5) (N := 15) hx hb hts i_X5 hown hK.1 hP 1 rfl rfl 11 (by decide) (va_Nw.use rfl (hK.2.1 _ kt_222)) (fun _ h9 => h9) rfl dX9_discipline_16 ?_
      refine lv_istore_n (lv' := [(2, .int 0), (0, .ref h0), (1, .int i0)]) hx hb dX9_discipline_19 rfl hl (by decide) rfl (fun ls hl => ?_)
      refine lv_aload_n hx hb dX9_discipline_20 rfl (lv_at hl 1 rfl) ?_
      refine va_get (D := D) (ci := 8) (v := .ref h1) (C := RX9) (T := TX9) (N := 3) hx hb hts i_X9 hown hK.1 hP 0 rfl rfl 0 (by decide) (ht _ kt_260) (fun _ h9 => h9) rfl dX9_discipline_21 ?_
      refine lv_iload_n hx hb dX9_discipline_24 rfl (lv_at hl 2 rfl) ?_
      refine va_putN (D := D) (ci := 4) (v := .int i0) (ty := .int) (C := RX5) (T := TX5) (N := 15) hx hb hts i_X5 tyX5 tyX5_ok nmX5 hown hK.1 hP hD hS 1 rfl rfl 11 (by decide) (va_Nw.use rfl (hK.2.1 _ kt_222)) (fun _ h9 => h9) rfl (by decide +kernel) rfl rfl (Nat.le_of_ble_eq_true rfl) dX9_discipline_25 (fun H locs hP hD hS => ?_)
      have hP : va_P D classes ([(h0, .inr (8, [.ref h1, .null, .null])), (h1, .inr (4, [.ref h2, .int 0, .ref h3, .int 0, .ref h4, .ref h5, .ref h6, .ref h7, .ref h8, .ref h9, .int 0, .int i0, .int 0, .int 0, .int 0]))]) H := hP
      have hD : va_D A ([(h0, .inr (8, [.ref h1, .null, .null])), (h1, .inr (4, [.ref h2, .int 0, .ref h3, .int 0, .ref h4, .ref h5, .ref h6, .ref h7, .ref h8, .ref h9, .int 0, .int i0, .int 0, .int 0, .int 0]))]) := hD
      refine lv_iload_n hx hb dX9_discipline_28 rfl (lv_at hl 0 rfl) ?_
      refine W.widen (k := 0) (n := 0) (Nat.le_of_ble_eq_true rfl) (Nat.le_of_ble_eq_true rfl) ?_
      exact W.iret (v := 0) hx hb hr (fun t ht2 hW => ⟨⟨0, (), rfl, (Or.inr (Or.inl ⟨c1, c2, rfl⟩)), trivial⟩, hS.F ht2⟩) hS.2.2 dX9_discipline_29
    · have c2 : ¬ i0.toInt ≤ 1 := i_nle c2 rfl rfl
      refine lv_bipush (v := (-2)) hx hb dX9_discipline_9 (by decide) ?_
      refine W.widen (k := 0) (n := 0) (Nat.le_of_ble_eq_true rfl) (Nat.le_of_ble_eq_true rfl) ?_
      exact W.iret (v := (-2)) hx hb hr (fun t ht2 hW => ⟨⟨(-2), (), rfl, (Or.inr (Or.inr (⟨c1, c2, rfl⟩))), trivial⟩, hS.F ht2⟩) hS.2.2 dX9_discipline_11
def w41 (cy : Nat → ClassId) (h0 h1 h2 h3 h4 h5 h6 h7 h8 h9 h10 : Nat) (i0 : Int32) : va_W := [(h0, .inr (8, [.ref h1, .null, .null])), (h1, .inr (4, [.ref h2, .int 0, .ref h3, .int 0, .ref h4, .ref h5, .ref h6, .ref h7, .ref h8, .ref h9, .int 0, .int 0, .int 0, .int 0, .int 0])), (h4, .inr (1, [.ref h10, .int 0, .int 0]))]
set_option maxHeartbeats 4000000 in
set_option maxRecDepth 100000 in
theorem c41_X9_step (l : Launch) (D : va_G) (cy : Nat → ClassId) (h0 h1 h2 h3 h4 h5 h6 h7 h8 h9 h10 : Nat) (i0 : Int32) : Met l yX9_step (Cond.code yX9_step cX9_step 4 (some .int) :: GT) ({ frames := 0, cells := 0, slots := 0, locals := 0 }) (gP D cy (w41 cy h0 h1 h2 h3 h4 h5 h6 h7 h8 h9 h10 i0) [.ref h0, .int i0]) (vp_Si (fun r => (i0.toInt < 1 ∧ r = (-2)) ∨ (¬ i0.toInt < 1 ∧ i0.toInt ≤ 100 ∧ ¬ i0.toInt ≤ 0 ∧ r = 0) ∨ (¬ i0.toInt < 1 ∧ ¬ i0.toInt ≤ 100 ∧ r = (-2)))) 0 0 (fun _ => False) := by
  refine Met.ofW (cc := cX9_step) (maxL := 4) (ret := some .int) (by decide) rfl ?_
  intro p e s m args below meth c s₁ B hml hv
  obtain ⟨rfl, hP, hK⟩ := hv
  have hx := B.exec
  have hb := B.bytes
  have hr := B.returns
  have hts := atoms_spec (ws := (Cond.code yX9_step cX9_step 4 (some .int) :: GT)) B.pre
  have ht : ∀ w ∈ GT, w.before _ s = true := fun w h => hts w (List.mem_cons_of_mem _ h)
  have hown : s.vm.findClass RX9 = some m.cls := findClass_of_methodNamed B.named
  have hlocks := B.notSynchronized
  have hP : va_P D classes ([(h0, .inr (8, [.ref h1, .null, .null])), (h1, .inr (4, [.ref h2, .int 0, .ref h3, .int 0, .ref h4, .ref h5, .ref h6, .ref h7, .ref h8, .ref h9, .int 0, .int 0, .int 0, .int 0, .int 0])), (h4, .inr (1, [.ref h10, .int 0, .int 0]))]) s.heap := hP
  have hl := lv_entry ([.ref h0, .int i0]) (n := 4) (Nat.le_of_ble_eq_true rfl)
  rw [lg_entry_eq]
  generalize (lg_sl ([.ref h0, .int i0]) ++ List.replicate (4 - (lg_sl ([.ref h0, .int i0])).length) Slot.unset).toArray = ls at hl ⊢
  have hl : lv_has ls 4 [(0, .ref h0), (1, .int i0)] := hl
  refine lv_iload_n hx hb dX9_step_0 rfl (lv_at hl 1 rfl) ?_
  refine lv_iconst (v := 1) hx hb dX9_step_1 (by decide) ?_
  refine lv_icmp_lt (tgt := 11) hx hb dX9_step_2 (by decide) (fun c1 => ?_) (fun c1 => ?_)
  · have c1 : i0.toInt < 1 := i_lt c1 rfl rfl
    refine lv_bipush (v := (-2)) hx hb dX9_step_11 (by decide) ?_
    exact W.iret (v := (-2)) hx hb hr (fun t ht2 hW => ⟨(-2), rfl, (Or.inl ⟨c1, rfl⟩), ht2⟩) (fun q h => by cases h) dX9_step_13
  · have c1 : ¬ i0.toInt < 1 := i_nlt c1 rfl rfl
    refine lv_iload_n hx hb dX9_step_5 rfl (lv_at hl 1 rfl) ?_
    refine lv_bipush (v := 100) hx hb dX9_step_6 (by decide) ?_
    refine lv_icmp_le (tgt := 14) hx hb dX9_step_8 (by decide) (fun c2 => ?_) (fun c2 => ?_)
    · have c2 : i0.toInt ≤ 100 := i_le c2 rfl rfl
      refine lv_aload_n hx hb dX9_step_14 rfl (lv_at hl 0 rfl) ?_
      refine va_get (D := D) (ci := 8) (v := .ref h1) (C := RX9) (T := TX9) (N := 3) hx hb hts i_X9 hown hK.1 hP 0 rfl rfl 0 (by decide) (ht _ kt_260) (fun _ h9 => h9) rfl dX9_step_15 ?_
      refine va_getN (D := D) (ci := 4) (v := .int 0) (C := RX5) (T := TX5) (N := 15) hx hb hts i_X5 hown hK.1 hP 1 rfl rfl 13 (by decide) (va_Nw.use rfl (hK.2.1 _ kt_226)) (fun _ h9 => h9) rfl dX9_step_18 ?_
      refine lv_istore_n (lv' := [(2, .int 0), (0, .ref h0), (1, .int i0)]) hx hb dX9_step_21 rfl hl (by decide) rfl (fun ls hl => ?_)
      refine lv_iconst (v := 0) hx hb dX9_step_22 (by decide) ?_
      refine lv_istore_n (lv' := [(3, .int 0), (2, .int 0), (0, .ref h0), (1, .int i0)]) hx hb dX9_step_23 rfl hl (by decide) rfl (fun ls hl => ?_)
      refine lv_iload_n hx hb dX9_step_24 rfl (lv_at hl 0 rfl) ?_
      refine lv_iload_n hx hb dX9_step_25 rfl (lv_at hl 3 rfl) ?_
      refine lv_icmp_ge (tgt := 55) hx hb dX9_step_26 (by decide) (fun c3 => ?_) (fun c3 => ?_)
      · have c3 : i0.toInt ≤ 0 := i_le c3 rfl rfl
        exact (by omega : False).elim
      · have c3 : ¬ i0.toInt ≤ 0 := i_nle c3 rfl rfl
        refine lv_aload_n hx hb dX9_step_29 rfl (lv_at hl 2 rfl) ?_
        refine va_get (D := D) (ci := 8) (v := .ref h1) (C := RX9) (T := TX9) (N := 3) hx hb hts i_X9 hown hK.1 hP 0 rfl rfl 0 (by decide) (ht _ kt_260) (fun _ h9 => h9) rfl dX9_step_30 ?_
        refine va_getN (D := D) (ci := 4) (v := .ref h4) (C := RX5) (T := TX5) (N := 15) hx hb hts i_X5 hown hK.1 hP 1 rfl rfl 4 (by decide) (va_Nw.use rfl (hK.2.1 _ kt_207)) (fun _ h9 => h9) rfl dX9_step_33 ?_
        refine va_getN (D := D) (ci := 1) (v := .int 0) (C := RX2) (T := TX2) (N := 3) hx hb hts i_X2 hown hK.1 hP 2 rfl rfl 2 (by decide) (va_Nw.use rfl (hK.2.1 _ kt_158)) (fun _ h9 => h9) rfl dX9_step_36 ?_
        refine lv_if_le (tgt := 55) hx hb dX9_step_39 (by decide) (fun _ => ?_) (fun c4 => absurd c4 (by decide))
        refine lv_aload_n hx hb dX9_step_55 rfl (lv_at hl 2 rfl) ?_
        refine va_get (D := D) (ci := 8) (v := .ref h1) (C := RX9) (T := TX9) (N := 3) hx hb hts i_X9 hown hK.1 hP 0 rfl rfl 0 (by decide) (ht _ kt_260) (fun _ h9 => h9) rfl dX9_step_56 ?_
        refine va_getN (D := D) (ci := 4) (v := .int 0) (C := RX5) (T := TX5) (N := 15) hx hb hts i_X5 hown hK.1 hP 1 rfl rfl 13 (by decide) (va_Nw.use rfl (hK.2.1 _ kt_226)) (fun _ h9 => h9) rfl dX9_step_59 ?_
        refine lv_iload_n hx hb dX9_step_62 rfl (lv_at hl 1 rfl) ?_
        refine lv_isub hx hb dX9_step_63 ?_
        refine lz_i 0 (by decide) ?_
        exact W.iret (v := 0) hx hb hr (fun t ht2 hW => ⟨0, rfl, (Or.inr (Or.inl ⟨c1, c2, c3, rfl⟩)), ht2⟩) (fun q h => by cases h) dX9_step_64
    · have c2 : ¬ i0.toInt ≤ 100 := i_nle c2 rfl rfl
      refine lv_bipush (v := (-2)) hx hb dX9_step_11 (by decide) ?_
      exact W.iret (v := (-2)) hx hb hr (fun t ht2 hW => ⟨(-2), rfl, (Or.inr (Or.inr (⟨c1, c2, rfl⟩))), ht2⟩) (fun q h => by cases h) dX9_step_13
def w42 (cy : Nat → ClassId) (h0 h1 h2 h3 h4 h5 h6 h7 h8 h9 h10 : Nat) (i0 : Int32) : va_W := [(h0, .inr (8, [.ref h1, .null, .null])), (h1, .inr (4, [.ref h2, .int 0, .ref h3, .int 0, .ref h4, .ref h5, .ref h6, .ref h7, .ref h8, .ref h9, .int 0, .int 0, .int 0, .int 0, .int 0])), (h4, .inr (1, [.ref h10, .int 0, .int 0]))]
set_option maxHeartbeats 4000000 in
set_option maxRecDepth 100000 in
theorem c42_X9_run (l : Launch) (D : va_G) (cy : Nat → ClassId) (h0 h1 h2 h3 h4 h5 h6 h7 h8 h9 h10 : Nat) (i0 : Int32) : Met l yX9_run (Cond.code yX9_run cX9_run 4 (some .int) :: GT) ({ frames := 0, cells := 0, slots := 0, locals := 0 }) (gP D cy (w42 cy h0 h1 h2 h3 h4 h5 h6 h7 h8 h9 h10 i0) [.ref h0, .int i0]) (vp_Si (fun r => (i0.toInt < 1 ∧ r = (-2)) ∨ (¬ i0.toInt < 1 ∧ i0.toInt ≤ 9999 ∧ r = 0) ∨ (¬ i0.toInt < 1 ∧ ¬ i0.toInt ≤ 9999 ∧ r = (-2)))) 0 0 (fun _ => False) := by
  refine Met.ofW (cc := cX9_run) (maxL := 4) (ret := some .int) (by decide) rfl ?_
  intro p e s m args below meth c s₁ B hml hv
  obtain ⟨rfl, hP, hK⟩ := hv
  have hx := B.exec
  have hb := B.bytes
  have hr := B.returns
  have hts := atoms_spec (ws := (Cond.code yX9_run cX9_run 4 (some .int) :: GT)) B.pre
  have ht : ∀ w ∈ GT, w.before _ s = true := fun w h => hts w (List.mem_cons_of_mem _ h)
  have hown : s.vm.findClass RX9 = some m.cls := findClass_of_methodNamed B.named
  have hlocks := B.notSynchronized
  have hP : va_P D classes ([(h0, .inr (8, [.ref h1, .null, .null])), (h1, .inr (4, [.ref h2, .int 0, .ref h3, .int 0, .ref h4, .ref h5, .ref h6, .ref h7, .ref h8, .ref h9, .int 0, .int 0, .int 0, .int 0, .int 0])), (h4, .inr (1, [.ref h10, .int 0, .int 0]))]) s.heap := hP
  have hl := lv_entry ([.ref h0, .int i0]) (n := 4) (Nat.le_of_ble_eq_true rfl)
  rw [lg_entry_eq]
  generalize (lg_sl ([.ref h0, .int i0]) ++ List.replicate (4 - (lg_sl ([.ref h0, .int i0])).length) Slot.unset).toArray = ls at hl ⊢
  have hl : lv_has ls 4 [(0, .ref h0), (1, .int i0)] := hl
  refine lv_iload_n hx hb dX9_run_0 rfl (lv_at hl 1 rfl) ?_
  refine lv_iconst (v := 1) hx hb dX9_run_1 (by decide) ?_
  refine lv_icmp_lt (tgt := 12) hx hb dX9_run_2 (by decide) (fun c1 => ?_) (fun c1 => ?_)
  · have c1 : i0.toInt < 1 := i_lt c1 rfl rfl
    refine lv_bipush (v := (-2)) hx hb dX9_run_12 (by decide) ?_
    exact W.iret (v := (-2)) hx hb hr (fun t ht2 hW => ⟨(-2), rfl, (Or.inl ⟨c1, rfl⟩), ht2⟩) (fun q h => by cases h) dX9_run_14
  · have c1 : ¬ i0.toInt < 1 := i_nlt c1 rfl rfl
    refine lv_iload_n hx hb dX9_run_5 rfl (lv_at hl 1 rfl) ?_
    refine lv_sipush (v := 9999) hx hb dX9_run_6 (by decide) ?_
    refine lv_icmp_le (tgt := 15) hx hb dX9_run_9 (by decide) (fun c2 => ?_) (fun c2 => ?_)
    · have c2 : i0.toInt ≤ 9999 := i_le c2 rfl rfl
      refine lv_aload_n hx hb dX9_run_15 rfl (lv_at hl 0 rfl) ?_
      refine va_get (D := D) (ci := 8) (v := .ref h1) (C := RX9) (T := TX9) (N := 3) hx hb hts i_X9 hown hK.1 hP 0 rfl rfl 0 (by decide) (ht _ kt_260) (fun _ h9 => h9) rfl dX9_run_16 ?_
      refine va_getN (D := D) (ci := 4) (v := .int 0) (C := RX5) (T := TX5) (N := 15) hx hb hts i_X5 hown hK.1 hP 1 rfl rfl 14 (by decide) (va_Nw.use rfl (hK.2.1 _ kt_228)) (fun _ h9 => h9) rfl dX9_run_19 ?_
      refine lv_istore_n (lv' := [(2, .int 0), (0, .ref h0), (1, .int i0)]) hx hb dX9_run_22 rfl hl (by decide) rfl (fun ls hl => ?_)
      refine lv_iconst (v := 0) hx hb dX9_run_23 (by decide) ?_
      refine lv_istore_n (lv' := [(3, .int 0), (2, .int 0), (0, .ref h0), (1, .int i0)]) hx hb dX9_run_24 rfl hl (by decide) rfl (fun ls hl => ?_)
      refine lv_iload_n hx hb dX9_run_25 rfl (lv_at hl 0 rfl) ?_
      refine lv_ldc (v := 1000000) hx hb hown (ht _ kt_633) dX9_run_26 ?_
      refine lv_icmp_ge (tgt := 70) hx hb dX9_run_28 (by decide) (fun c3 => absurd c3 (by decide)) (fun _ => ?_)
      refine lv_aload_n hx hb dX9_run_31 rfl (lv_at hl 2 rfl) ?_
      refine va_get (D := D) (ci := 8) (v := .ref h1) (C := RX9) (T := TX9) (N := 3) hx hb hts i_X9 hown hK.1 hP 0 rfl rfl 0 (by decide) (ht _ kt_260) (fun _ h9 => h9) rfl dX9_run_32 ?_
      refine va_getN (D := D) (ci := 4) (v := .ref h4) (C := RX5) (T := TX5) (N := 15) hx hb hts i_X5 hown hK.1 hP 1 rfl rfl 4 (by decide) (va_Nw.use rfl (hK.2.1 _ kt_207)) (fun _ h9 => h9) rfl dX9_run_35 ?_
      refine va_getN (D := D) (ci := 1) (v := .int 0) (C := RX2) (T := TX2) (N := 3) hx hb hts i_X2 hown hK.1 hP 2 rfl rfl 2 (by decide) (va_Nw.use rfl (hK.2.1 _ kt_158)) (fun _ h9 => h9) rfl dX9_run_38 ?_
      refine lv_if_le (tgt := 70) hx hb dX9_run_41 (by decide) (fun _ => ?_) (fun c4 => absurd c4 (by decide))
      refine lv_aload_n hx hb dX9_run_70 rfl (lv_at hl 2 rfl) ?_
      refine va_get (D := D) (ci := 8) (v := .ref h1) (C := RX9) (T := TX9) (N := 3) hx hb hts i_X9 hown hK.1 hP 0 rfl rfl 0 (by decide) (ht _ kt_260) (fun _ h9 => h9) rfl dX9_run_71 ?_
      refine va_getN (D := D) (ci := 4) (v := .int 0) (C := RX5) (T := TX5) (N := 15) hx hb hts i_X5 hown hK.1 hP 1 rfl rfl 14 (by decide) (va_Nw.use rfl (hK.2.1 _ kt_228)) (fun _ h9 => h9) rfl dX9_run_74 ?_
      refine lv_iload_n hx hb dX9_run_77 rfl (lv_at hl 1 rfl) ?_
      refine lv_isub hx hb dX9_run_78 ?_
      refine lz_i 0 (by decide) ?_
      exact W.iret (v := 0) hx hb hr (fun t ht2 hW => ⟨0, rfl, (Or.inr (Or.inl ⟨c1, c2, rfl⟩)), ht2⟩) (fun q h => by cases h) dX9_run_79
    · have c2 : ¬ i0.toInt ≤ 9999 := i_nle c2 rfl rfl
      refine lv_bipush (v := (-2)) hx hb dX9_run_12 (by decide) ?_
      exact W.iret (v := (-2)) hx hb hr (fun t ht2 hW => ⟨(-2), rfl, (Or.inr (Or.inr (⟨c1, c2, rfl⟩))), ht2⟩) (fun q h => by cases h) dX9_run_14
def w43 (cy : Nat → ClassId) (h0 h1 h2 h3 h4 h5 h6 h7 h8 h9 h10 : Nat) : va_W := [(h0, .inr (8, [.ref h1, .null, .null])), (h1, .inr (4, [.ref h2, .int 0, .ref h3, .int 0, .ref h4, .ref h5, .ref h6, .ref h7, .ref h8, .ref h9, .int 0, .int 0, .int 0, .int 0, .int 0])), (h4, .inr (1, [.ref h10, .int 0, .int 0]))]
set_option maxHeartbeats 4000000 in
set_option maxRecDepth 100000 in
theorem c43_X9_next (l : Launch) (D : va_G) (cy : Nat → ClassId) (h0 h1 h2 h3 h4 h5 h6 h7 h8 h9 h10 : Nat) : Met l yX9_next (Cond.code yX9_next cX9_next 5 (some .int) :: GT) ({ frames := 0, cells := 0, slots := 0, locals := 0 }) (gP D cy (w43 cy h0 h1 h2 h3 h4 h5 h6 h7 h8 h9 h10) [.ref h0]) (vp_Si (fun r => r = (-5))) 0 0 (fun _ => False) := by
  refine Met.ofW (cc := cX9_next) (maxL := 5) (ret := some .int) (by decide) rfl ?_
  intro p e s m args below meth c s₁ B hml hv
  obtain ⟨rfl, hP, hK⟩ := hv
  have hx := B.exec
  have hb := B.bytes
  have hr := B.returns
  have hts := atoms_spec (ws := (Cond.code yX9_next cX9_next 5 (some .int) :: GT)) B.pre
  have ht : ∀ w ∈ GT, w.before _ s = true := fun w h => hts w (List.mem_cons_of_mem _ h)
  have hown : s.vm.findClass RX9 = some m.cls := findClass_of_methodNamed B.named
  have hlocks := B.notSynchronized
  have hP : va_P D classes ([(h0, .inr (8, [.ref h1, .null, .null])), (h1, .inr (4, [.ref h2, .int 0, .ref h3, .int 0, .ref h4, .ref h5, .ref h6, .ref h7, .ref h8, .ref h9, .int 0, .int 0, .int 0, .int 0, .int 0])), (h4, .inr (1, [.ref h10, .int 0, .int 0]))]) s.heap := hP
  have hl := lv_entry ([.ref h0]) (n := 5) (Nat.le_of_ble_eq_true rfl)
  rw [lg_entry_eq]
  generalize (lg_sl ([.ref h0]) ++ List.replicate (5 - (lg_sl ([.ref h0])).length) Slot.unset).toArray = ls at hl ⊢
  have hl : lv_has ls 5 [(0, .ref h0)] := hl
  refine lv_aload_n hx hb dX9_next_0 rfl (lv_at hl 0 rfl) ?_
  refine va_get (D := D) (ci := 8) (v := .ref h1) (C := RX9) (T := TX9) (N := 3) hx hb hts i_X9 hown hK.1 hP 0 rfl rfl 0 (by decide) (ht _ kt_260) (fun _ h9 => h9) rfl dX9_next_1 ?_
  refine va_getN (D := D) (ci := 4) (v := .ref h4) (C := RX5) (T := TX5) (N := 15) hx hb hts i_X5 hown hK.1 hP 1 rfl rfl 4 (by decide) (va_Nw.use rfl (hK.2.1 _ kt_207)) (fun _ h9 => h9) rfl dX9_next_4 ?_
  refine va_getN (D := D) (ci := 1) (v := .int 0) (C := RX2) (T := TX2) (N := 3) hx hb hts i_X2 hown hK.1 hP 2 rfl rfl 2 (by decide) (va_Nw.use rfl (hK.2.1 _ kt_158)) (fun _ h9 => h9) rfl dX9_next_7 ?_
  refine lv_if_ne (tgt := 16) hx hb dX9_next_10 (by decide) (fun c1 => absurd c1 (by decide)) (fun _ => ?_)
  refine lv_bipush (v := (-5)) hx hb dX9_next_13 (by decide) ?_
  exact W.iret (v := (-5)) hx hb hr (fun t ht2 hW => ⟨(-5), rfl, rfl, ht2⟩) (fun q h => by cases h) dX9_next_15
def w44 (cy : Nat → ClassId) (h0 h1 h2 h3 h4 h5 h6 h7 h8 h9 h10 : Nat) (i0 i1 : Int32) : va_W := [(h0, .inr (8, [.ref h1, .null, .null])), (h1, .inr (4, [.ref h2, .int 0, .ref h3, .int 0, .ref h4, .ref h5, .ref h6, .ref h7, .ref h8, .ref h9, .int 0, .int 0, .int 0, .int 0, .int 0])), (h4, .inr (1, [.ref h10, .int 0, .int 0]))]
set_option maxHeartbeats 4000000 in
set_option maxRecDepth 100000 in
theorem c44_X9_pending (l : Launch) (D : va_G) (cy : Nat → ClassId) (h0 h1 h2 h3 h4 h5 h6 h7 h8 h9 h10 : Nat) (i0 i1 : Int32) : Met l yX9_pending (Cond.code yX9_pending cX9_pending 5 (some .int) :: GT) ({ frames := 0, cells := 0, slots := 0, locals := 0 }) (gP D cy (w44 cy h0 h1 h2 h3 h4 h5 h6 h7 h8 h9 h10 i0 i1) [.ref h0, .int i0, .int i1]) (vp_Si (fun r => r = (-1))) 0 0 (fun _ => False) := by
  refine Met.ofW (cc := cX9_pending) (maxL := 5) (ret := some .int) (by decide) rfl ?_
  intro p e s m args below meth c s₁ B hml hv
  obtain ⟨rfl, hP, hK⟩ := hv
  have hx := B.exec
  have hb := B.bytes
  have hr := B.returns
  have hts := atoms_spec (ws := (Cond.code yX9_pending cX9_pending 5 (some .int) :: GT)) B.pre
  have ht : ∀ w ∈ GT, w.before _ s = true := fun w h => hts w (List.mem_cons_of_mem _ h)
  have hown : s.vm.findClass RX9 = some m.cls := findClass_of_methodNamed B.named
  have hlocks := B.notSynchronized
  have hP : va_P D classes ([(h0, .inr (8, [.ref h1, .null, .null])), (h1, .inr (4, [.ref h2, .int 0, .ref h3, .int 0, .ref h4, .ref h5, .ref h6, .ref h7, .ref h8, .ref h9, .int 0, .int 0, .int 0, .int 0, .int 0])), (h4, .inr (1, [.ref h10, .int 0, .int 0]))]) s.heap := hP
  have hl := lv_entry ([.ref h0, .int i0, .int i1]) (n := 5) (Nat.le_of_ble_eq_true rfl)
  rw [lg_entry_eq]
  generalize (lg_sl ([.ref h0, .int i0, .int i1]) ++ List.replicate (5 - (lg_sl ([.ref h0, .int i0, .int i1])).length) Slot.unset).toArray = ls at hl ⊢
  have hl : lv_has ls 5 [(0, .ref h0), (1, .int i0), (2, .int i1)] := hl
  refine lv_iload_n hx hb dX9_pending_0 rfl (lv_at hl 1 rfl) ?_
  refine lv_if_lt (tgt := 18) hx hb dX9_pending_1 (by decide) (fun c1 => ?_) (fun c1 => ?_)
  · have c1 : i0.toInt < 0 := i_lt c1 rfl rfl
    refine lv_iconst (v := (-1)) hx hb dX9_pending_18 (by decide) ?_
    exact W.iret (v := (-1)) hx hb hr (fun t ht2 hW => ⟨(-1), rfl, rfl, ht2⟩) (fun q h => by cases h) dX9_pending_19
  · have c1 : ¬ i0.toInt < 0 := i_nlt c1 rfl rfl
    refine lv_iload_n hx hb dX9_pending_4 rfl (lv_at hl 1 rfl) ?_
    refine lv_aload_n hx hb dX9_pending_5 rfl (lv_at hl 0 rfl) ?_
    refine va_get (D := D) (ci := 8) (v := .ref h1) (C := RX9) (T := TX9) (N := 3) hx hb hts i_X9 hown hK.1 hP 0 rfl rfl 0 (by decide) (ht _ kt_260) (fun _ h9 => h9) rfl dX9_pending_6 ?_
    refine va_getN (D := D) (ci := 4) (v := .ref h4) (C := RX5) (T := TX5) (N := 15) hx hb hts i_X5 hown hK.1 hP 1 rfl rfl 4 (by decide) (va_Nw.use rfl (hK.2.1 _ kt_207)) (fun _ h9 => h9) rfl dX9_pending_9 ?_
    refine va_getN (D := D) (ci := 1) (v := .int 0) (C := RX2) (T := TX2) (N := 3) hx hb hts i_X2 hown hK.1 hP 2 rfl rfl 2 (by decide) (va_Nw.use rfl (hK.2.1 _ kt_158)) (fun _ h9 => h9) rfl dX9_pending_12 ?_
    refine lv_icmp_lt (tgt := 20) hx hb dX9_pending_15 (by decide) (fun c2 => ?_) (fun c2 => ?_)
    · have c2 : i0.toInt < 0 := i_lt c2 rfl rfl
      exact (by omega : False).elim
    · have c2 : ¬ i0.toInt < 0 := i_nlt c2 rfl rfl
      refine lv_iconst (v := (-1)) hx hb dX9_pending_18 (by decide) ?_
      exact W.iret (v := (-1)) hx hb hr (fun t ht2 hW => ⟨(-1), rfl, rfl, ht2⟩) (fun q h => by cases h) dX9_pending_19
def w45 (cy : Nat → ClassId) (h0 h1 h2 h3 h4 h5 h6 h7 h8 h9 : Nat) (i0 i1 : Int32) : va_W := [(h0, .inr (8, [.ref h1, .null, .null])), (h1, .inr (4, [.ref h2, .int 0, .ref h3, .int 0, .ref h4, .ref h5, .ref h6, .ref h7, .ref h8, .ref h9, .int 0, .int 0, .int 0, .int 0, .int 0]))]
set_option maxHeartbeats 4000000 in
set_option maxRecDepth 100000 in
theorem c45_X9_told (l : Launch) (D : va_G) (cy : Nat → ClassId) (h0 h1 h2 h3 h4 h5 h6 h7 h8 h9 : Nat) (i0 i1 : Int32) : Met l yX9_told (Cond.code yX9_told cX9_told 4 (some .int) :: GT) ({ frames := 1, cells := 0, slots := 0, locals := 21 }) (gP D cy (w45 cy h0 h1 h2 h3 h4 h5 h6 h7 h8 h9 i0 i1) [.ref h0, .int i0, .int i1]) (vp_Si (fun r => r = (-1))) 0 0 (fun _ => False) := by
  refine Met.ofW (cc := cX9_told) (maxL := 4) (ret := some .int) (by decide) rfl ?_
  intro p e s m args below meth c s₁ B hml hv
  obtain ⟨rfl, hP, hK⟩ := hv
  have hx := B.exec
  have hb := B.bytes
  have hr := B.returns
  have hts := atoms_spec (ws := (Cond.code yX9_told cX9_told 4 (some .int) :: GT)) B.pre
  have ht : ∀ w ∈ GT, w.before _ s = true := fun w h => hts w (List.mem_cons_of_mem _ h)
  have hown : s.vm.findClass RX9 = some m.cls := findClass_of_methodNamed B.named
  have hlocks := B.notSynchronized
  have hP : va_P D classes ([(h0, .inr (8, [.ref h1, .null, .null])), (h1, .inr (4, [.ref h2, .int 0, .ref h3, .int 0, .ref h4, .ref h5, .ref h6, .ref h7, .ref h8, .ref h9, .int 0, .int 0, .int 0, .int 0, .int 0]))]) s.heap := hP
  have hl := lv_entry ([.ref h0, .int i0, .int i1]) (n := 4) (Nat.le_of_ble_eq_true rfl)
  rw [lg_entry_eq]
  generalize (lg_sl ([.ref h0, .int i0, .int i1]) ++ List.replicate (4 - (lg_sl ([.ref h0, .int i0, .int i1])).length) Slot.unset).toArray = ls at hl ⊢
  have hl : lv_has ls 4 [(0, .ref h0), (1, .int i0), (2, .int i1)] := hl
  refine lv_aload_n hx hb dX9_told_0 rfl (lv_at hl 0 rfl) ?_
  refine va_get (D := D) (ci := 8) (v := .ref h1) (C := RX9) (T := TX9) (N := 3) hx hb hts i_X9 hown hK.1 hP 0 rfl rfl 0 (by decide) (ht _ kt_260) (fun _ h9 => h9) rfl dX9_told_1 ?_
  refine lv_iload_n hx hb dX9_told_4 rfl (lv_at hl 1 rfl) ?_
  refine vp_callSi (va_Run.run (va_runV (As := [.int i0]) (rest := []) ⟨hx, hb, hml, hown, hts⟩ (c37_X5_hasOperator l D cy h1 h2 h3 h4 h5 h6 h7 h8 h9 i0) (cwV 1 hts (gt_V kt_474 kt_475 kt_476 kt_2 kt_477) rfl rfl rfl (by decide +kernel) ⟨Nat.le_of_ble_eq_true rfl, Nat.le_of_ble_eq_true rfl⟩) (gP_V hK (hP.sub (ws' := (w37 cy h1 h2 h3 h4 h5 h6 h7 h8 h9 i0)) [1] rfl) hP (ci := 4) (q0 := 1) rfl rfl) rfl rfl hl.1 rfl (lv_room (Nat.le_of_ble_eq_true rfl)) dX9_told_5 ⟨Nat.le_of_ble_eq_true rfl, Nat.le_of_ble_eq_true rfl⟩)) (fun r1 hw2 => ?_)
  obtain rfl : r1 = 0 := hw2
  refine lv_if_ne (tgt := 13) hx hb dX9_told_8 (by decide) (fun c3 => absurd c3 (by decide)) (fun _ => ?_)
  refine lv_iconst (v := (-1)) hx hb dX9_told_11 (by decide) ?_
  exact W.iret (v := (-1)) hx hb hr (fun t ht2 hW => ⟨(-1), rfl, rfl, ht2⟩) (fun q h => by cases h) dX9_told_12
def w46 (cy : Nat → ClassId) (h0 h1 h2 h3 h4 h5 h6 h7 h8 h9 : Nat) (i0 i1 : Int32) : va_W := [(h0, .inr (8, [.ref h1, .null, .null])), (h1, .inr (4, [.ref h2, .int 0, .ref h3, .int 0, .ref h4, .ref h5, .ref h6, .ref h7, .ref h8, .ref h9, .int 0, .int 0, .int 0, .int 0, .int 0]))]
set_option maxHeartbeats 4000000 in
set_option maxRecDepth 100000 in
theorem c46_X9_of (l : Launch) (D : va_G) (cy : Nat → ClassId) (h0 h1 h2 h3 h4 h5 h6 h7 h8 h9 : Nat) (i0 i1 : Int32) : Met l yX9_of (Cond.code yX9_of cX9_of 4 (some .int) :: GT) ({ frames := 1, cells := 0, slots := 0, locals := 21 }) (gP D cy (w46 cy h0 h1 h2 h3 h4 h5 h6 h7 h8 h9 i0 i1) [.ref h0, .int i0, .int i1]) (vp_Si (fun r => r = (-1))) 0 0 (fun _ => False) := by
  refine Met.ofW (cc := cX9_of) (maxL := 4) (ret := some .int) (by decide) rfl ?_
  intro p e s m args below meth c s₁ B hml hv
  obtain ⟨rfl, hP, hK⟩ := hv
  have hx := B.exec
  have hb := B.bytes
  have hr := B.returns
  have hts := atoms_spec (ws := (Cond.code yX9_of cX9_of 4 (some .int) :: GT)) B.pre
  have ht : ∀ w ∈ GT, w.before _ s = true := fun w h => hts w (List.mem_cons_of_mem _ h)
  have hown : s.vm.findClass RX9 = some m.cls := findClass_of_methodNamed B.named
  have hlocks := B.notSynchronized
  have hP : va_P D classes ([(h0, .inr (8, [.ref h1, .null, .null])), (h1, .inr (4, [.ref h2, .int 0, .ref h3, .int 0, .ref h4, .ref h5, .ref h6, .ref h7, .ref h8, .ref h9, .int 0, .int 0, .int 0, .int 0, .int 0]))]) s.heap := hP
  have hl := lv_entry ([.ref h0, .int i0, .int i1]) (n := 4) (Nat.le_of_ble_eq_true rfl)
  rw [lg_entry_eq]
  generalize (lg_sl ([.ref h0, .int i0, .int i1]) ++ List.replicate (4 - (lg_sl ([.ref h0, .int i0, .int i1])).length) Slot.unset).toArray = ls at hl ⊢
  have hl : lv_has ls 4 [(0, .ref h0), (1, .int i0), (2, .int i1)] := hl
  refine lv_aload_n hx hb dX9_of_0 rfl (lv_at hl 0 rfl) ?_
  refine va_get (D := D) (ci := 8) (v := .ref h1) (C := RX9) (T := TX9) (N := 3) hx hb hts i_X9 hown hK.1 hP 0 rfl rfl 0 (by decide) (ht _ kt_260) (fun _ h9 => h9) rfl dX9_of_1 ?_
  refine lv_iload_n hx hb dX9_of_4 rfl (lv_at hl 1 rfl) ?_
  refine vp_callSi (va_Run.run (va_runV (As := [.int i0]) (rest := []) ⟨hx, hb, hml, hown, hts⟩ (c9_X5_hasSource l D cy h1 h2 h3 h4 h5 h6 h7 h8 h9 i0) (cwV 1 hts (gt_V kt_282 kt_283 kt_284 kt_2 kt_285) rfl rfl rfl (by decide +kernel) ⟨Nat.le_of_ble_eq_true rfl, Nat.le_of_ble_eq_true rfl⟩) (gP_V hK (hP.sub (ws' := (w9 cy h1 h2 h3 h4 h5 h6 h7 h8 h9 i0)) [1] rfl) hP (ci := 4) (q0 := 1) rfl rfl) rfl rfl hl.1 rfl (lv_room (Nat.le_of_ble_eq_true rfl)) dX9_of_5 ⟨Nat.le_of_ble_eq_true rfl, Nat.le_of_ble_eq_true rfl⟩)) (fun r1 hw2 => ?_)
  obtain rfl : r1 = 0 := hw2
  refine lv_if_ne (tgt := 13) hx hb dX9_of_8 (by decide) (fun c3 => absurd c3 (by decide)) (fun _ => ?_)
  refine lv_iconst (v := (-1)) hx hb dX9_of_11 (by decide) ?_
  exact W.iret (v := (-1)) hx hb hr (fun t ht2 hW => ⟨(-1), rfl, rfl, ht2⟩) (fun q h => by cases h) dX9_of_12
def w47 (cy : Nat → ClassId) (h0 h1 h2 h3 h4 h5 h6 h7 h8 h9 : Nat) (i0 i1 i2 : Int32) : va_W := [(h0, .inr (8, [.ref h1, .null, .null])), (h1, .inr (4, [.ref h2, .int 0, .ref h3, .int 0, .ref h4, .ref h5, .ref h6, .ref h7, .ref h8, .ref h9, .int 0, .int 0, .int 0, .int 0, .int 0]))]
set_option maxHeartbeats 4000000 in
set_option maxRecDepth 100000 in
theorem c47_X9_value (l : Launch) (D : va_G) (cy : Nat → ClassId) (h0 h1 h2 h3 h4 h5 h6 h7 h8 h9 : Nat) (i0 i1 i2 : Int32) : Met l yX9_value (Cond.code yX9_value cX9_value 5 (some .int) :: GT) ({ frames := 1, cells := 0, slots := 0, locals := 21 }) (gP D cy (w47 cy h0 h1 h2 h3 h4 h5 h6 h7 h8 h9 i0 i1 i2) [.ref h0, .int i0, .int i1, .int i2]) (vp_Si (fun r => r = (-1000))) 0 0 (fun _ => False) := by
  refine Met.ofW (cc := cX9_value) (maxL := 5) (ret := some .int) (by decide) rfl ?_
  intro p e s m args below meth c s₁ B hml hv
  obtain ⟨rfl, hP, hK⟩ := hv
  have hx := B.exec
  have hb := B.bytes
  have hr := B.returns
  have hts := atoms_spec (ws := (Cond.code yX9_value cX9_value 5 (some .int) :: GT)) B.pre
  have ht : ∀ w ∈ GT, w.before _ s = true := fun w h => hts w (List.mem_cons_of_mem _ h)
  have hown : s.vm.findClass RX9 = some m.cls := findClass_of_methodNamed B.named
  have hlocks := B.notSynchronized
  have hP : va_P D classes ([(h0, .inr (8, [.ref h1, .null, .null])), (h1, .inr (4, [.ref h2, .int 0, .ref h3, .int 0, .ref h4, .ref h5, .ref h6, .ref h7, .ref h8, .ref h9, .int 0, .int 0, .int 0, .int 0, .int 0]))]) s.heap := hP
  have hl := lv_entry ([.ref h0, .int i0, .int i1, .int i2]) (n := 5) (Nat.le_of_ble_eq_true rfl)
  rw [lg_entry_eq]
  generalize (lg_sl ([.ref h0, .int i0, .int i1, .int i2]) ++ List.replicate (5 - (lg_sl ([.ref h0, .int i0, .int i1, .int i2])).length) Slot.unset).toArray = ls at hl ⊢
  have hl : lv_has ls 5 [(0, .ref h0), (1, .int i0), (2, .int i1), (3, .int i2)] := hl
  refine lv_aload_n hx hb dX9_value_0 rfl (lv_at hl 0 rfl) ?_
  refine va_get (D := D) (ci := 8) (v := .ref h1) (C := RX9) (T := TX9) (N := 3) hx hb hts i_X9 hown hK.1 hP 0 rfl rfl 0 (by decide) (ht _ kt_260) (fun _ h9 => h9) rfl dX9_value_1 ?_
  refine lv_iload_n hx hb dX9_value_4 rfl (lv_at hl 1 rfl) ?_
  refine vp_callSi (va_Run.run (va_runV (As := [.int i0]) (rest := []) ⟨hx, hb, hml, hown, hts⟩ (c9_X5_hasSource l D cy h1 h2 h3 h4 h5 h6 h7 h8 h9 i0) (cwV 1 hts (gt_V kt_282 kt_283 kt_284 kt_2 kt_285) rfl rfl rfl (by decide +kernel) ⟨Nat.le_of_ble_eq_true rfl, Nat.le_of_ble_eq_true rfl⟩) (gP_V hK (hP.sub (ws' := (w9 cy h1 h2 h3 h4 h5 h6 h7 h8 h9 i0)) [1] rfl) hP (ci := 4) (q0 := 1) rfl rfl) rfl rfl hl.1 rfl (lv_room (Nat.le_of_ble_eq_true rfl)) dX9_value_5 ⟨Nat.le_of_ble_eq_true rfl, Nat.le_of_ble_eq_true rfl⟩)) (fun r1 hw2 => ?_)
  obtain rfl : r1 = 0 := hw2
  refine lv_if_eq (tgt := 27) hx hb dX9_value_8 (by decide) (fun _ => ?_) (fun c3 => absurd c3 (by decide))
  refine lv_sipush (v := (-1000)) hx hb dX9_value_27 (by decide) ?_
  exact W.iret (v := (-1000)) hx hb hr (fun t ht2 hW => ⟨(-1000), rfl, rfl, ht2⟩) (fun q h => by cases h) dX9_value_30
def w48 (cy : Nat → ClassId) (h0 h1 h2 h3 h4 h5 h6 h7 h8 h9 h10 : Nat) (i0 i1 : Int32) : va_W := [(h0, .inr (8, [.ref h1, .null, .null])), (h1, .inr (4, [.ref h2, .int 0, .ref h3, .int 0, .ref h4, .ref h5, .ref h6, .ref h7, .ref h8, .ref h9, .int 0, .int 0, .int 0, .int 0, .int 0])), (h7, .inr (1, [.ref h10, .int 0, .int 0]))]
set_option maxHeartbeats 4000000 in
set_option maxRecDepth 100000 in
theorem c48_X9_output (l : Launch) (D : va_G) (cy : Nat → ClassId) (h0 h1 h2 h3 h4 h5 h6 h7 h8 h9 h10 : Nat) (i0 i1 : Int32) : Met l yX9_output (Cond.code yX9_output cX9_output 3 (some .int) :: GT) ({ frames := 0, cells := 0, slots := 0, locals := 0 }) (gP D cy (w48 cy h0 h1 h2 h3 h4 h5 h6 h7 h8 h9 h10 i0 i1) [.ref h0, .int i0, .int i1]) (vp_Si (fun r => r = (-1))) 0 0 (fun _ => False) := by
  refine Met.ofW (cc := cX9_output) (maxL := 3) (ret := some .int) (by decide) rfl ?_
  intro p e s m args below meth c s₁ B hml hv
  obtain ⟨rfl, hP, hK⟩ := hv
  have hx := B.exec
  have hb := B.bytes
  have hr := B.returns
  have hts := atoms_spec (ws := (Cond.code yX9_output cX9_output 3 (some .int) :: GT)) B.pre
  have ht : ∀ w ∈ GT, w.before _ s = true := fun w h => hts w (List.mem_cons_of_mem _ h)
  have hown : s.vm.findClass RX9 = some m.cls := findClass_of_methodNamed B.named
  have hlocks := B.notSynchronized
  have hP : va_P D classes ([(h0, .inr (8, [.ref h1, .null, .null])), (h1, .inr (4, [.ref h2, .int 0, .ref h3, .int 0, .ref h4, .ref h5, .ref h6, .ref h7, .ref h8, .ref h9, .int 0, .int 0, .int 0, .int 0, .int 0])), (h7, .inr (1, [.ref h10, .int 0, .int 0]))]) s.heap := hP
  have hl := lv_entry ([.ref h0, .int i0, .int i1]) (n := 3) (Nat.le_of_ble_eq_true rfl)
  rw [lg_entry_eq]
  generalize (lg_sl ([.ref h0, .int i0, .int i1]) ++ List.replicate (3 - (lg_sl ([.ref h0, .int i0, .int i1])).length) Slot.unset).toArray = ls at hl ⊢
  have hl : lv_has ls 3 [(0, .ref h0), (1, .int i0), (2, .int i1)] := hl
  refine lv_iload_n hx hb dX9_output_0 rfl (lv_at hl 1 rfl) ?_
  refine lv_if_lt (tgt := 29) hx hb dX9_output_1 (by decide) (fun c1 => ?_) (fun c1 => ?_)
  · have c1 : i0.toInt < 0 := i_lt c1 rfl rfl
    refine lv_iconst (v := (-1)) hx hb dX9_output_29 (by decide) ?_
    exact W.iret (v := (-1)) hx hb hr (fun t ht2 hW => ⟨(-1), rfl, rfl, ht2⟩) (fun q h => by cases h) dX9_output_30
  · have c1 : ¬ i0.toInt < 0 := i_nlt c1 rfl rfl
    refine lv_iload_n hx hb dX9_output_4 rfl (lv_at hl 1 rfl) ?_
    refine lv_aload_n hx hb dX9_output_5 rfl (lv_at hl 0 rfl) ?_
    refine va_get (D := D) (ci := 8) (v := .ref h1) (C := RX9) (T := TX9) (N := 3) hx hb hts i_X9 hown hK.1 hP 0 rfl rfl 0 (by decide) (ht _ kt_260) (fun _ h9 => h9) rfl dX9_output_6 ?_
    refine va_getN (D := D) (ci := 4) (v := .ref h7) (C := RX5) (T := TX5) (N := 15) hx hb hts i_X5 hown hK.1 hP 1 rfl rfl 7 (by decide) (va_Nw.use rfl (hK.2.1 _ kt_213)) (fun _ h9 => h9) rfl dX9_output_9 ?_
    refine va_getN (D := D) (ci := 1) (v := .int 0) (C := RX2) (T := TX2) (N := 3) hx hb hts i_X2 hown hK.1 hP 2 rfl rfl 2 (by decide) (va_Nw.use rfl (hK.2.1 _ kt_158)) (fun _ h9 => h9) rfl dX9_output_12 ?_
    refine lv_icmp_ge (tgt := 29) hx hb dX9_output_15 (by decide) (fun c2 => ?_) (fun c2 => ?_)
    · have c2 : 0 ≤ i0.toInt := i_le c2 rfl rfl
      refine lv_iconst (v := (-1)) hx hb dX9_output_29 (by decide) ?_
      exact W.iret (v := (-1)) hx hb hr (fun t ht2 hW => ⟨(-1), rfl, rfl, ht2⟩) (fun q h => by cases h) dX9_output_30
    · have c2 : ¬ 0 ≤ i0.toInt := i_nle c2 rfl rfl
      exact (by omega : False).elim
def w49 (cy : Nat → ClassId) : va_W := []
set_option maxHeartbeats 4000000 in
set_option maxRecDepth 100000 in
theorem c49_X0_withOrigin (l : Launch) (D : va_G) (cy : Nat → ClassId) : Met l yX0_withOrigin (Cond.code yX0_withOrigin cX0_withOrigin 3 (some .long) :: GT) ({ frames := 0, cells := 0, slots := 0, locals := 0 }) (gP D cy (w49 cy) [.long 0, .int 0]) (vp_Sl (fun r => r = 0)) 0 0 (fun _ => False) := by
  refine Met.ofW (cc := cX0_withOrigin) (maxL := 3) (ret := some .long) (by decide) rfl ?_
  intro p e s m args below meth c s₁ B hml hv
  obtain ⟨rfl, hP, hK⟩ := hv
  have hx := B.exec
  have hb := B.bytes
  have hr := B.returns
  have hts := atoms_spec (ws := (Cond.code yX0_withOrigin cX0_withOrigin 3 (some .long) :: GT)) B.pre
  have ht : ∀ w ∈ GT, w.before _ s = true := fun w h => hts w (List.mem_cons_of_mem _ h)
  have hown : s.vm.findClass RX0 = some m.cls := findClass_of_methodNamed B.named
  have hlocks := B.notSynchronized
  have hP : va_P D classes ([]) s.heap := hP
  have hl := lv_entry ([.long 0, .int 0]) (n := 3) (Nat.le_of_ble_eq_true rfl)
  rw [lg_entry_eq]
  generalize (lg_sl ([.long 0, .int 0]) ++ List.replicate (3 - (lg_sl ([.long 0, .int 0])).length) Slot.unset).toArray = ls at hl ⊢
  have hl : lv_has ls 3 [(0, .long 0), (2, .int 0)] := hl
  refine lv_lload_n hx hb dX0_withOrigin_0 rfl (lv_at hl 0 rfl) ?_
  refine lv_iload_n hx hb dX0_withOrigin_1 rfl (lv_at hl 1 rfl) ?_
  refine lv_i2l (v := 0) hx hb dX0_withOrigin_2 (by decide) ?_
  refine lv_ldc2 (v := 63) hx hb hown (ht _ kt_358) dX0_withOrigin_3 ?_
  refine lv_land hx hb dX0_withOrigin_6 ?_
  refine lz_l 0 (by decide) ?_
  refine lv_bipush (v := 15) hx hb dX0_withOrigin_7 (by decide) ?_
  refine lv_lshl (v := 0) hx hb dX0_withOrigin_9 (by decide) ?_
  refine lv_lor hx hb dX0_withOrigin_10 ?_
  refine lz_l 0 (by decide) ?_
  exact W.lret (v := 0) hx hb hr (fun t ht2 hW => ⟨0, rfl, rfl, ht2⟩) (fun q h => by cases h) dX0_withOrigin_11
def w50 (cy : Nat → ClassId) (h0 h1 h2 h3 h4 h5 h6 h7 h8 : Nat) (i0 : Int32) : va_W := [(h0, .inr (4, [.ref h1, .int 0, .ref h2, .int 0, .ref h3, .ref h4, .ref h5, .ref h6, .ref h7, .ref h8, .int 0, .int 0, .int 0, .int 0, .int 0]))]
set_option maxHeartbeats 4000000 in
set_option maxRecDepth 100000 in
theorem c50_X5_combinationOf (l : Launch) (D : va_G) (cy : Nat → ClassId) (h0 h1 h2 h3 h4 h5 h6 h7 h8 : Nat) (i0 : Int32) : Met l yX5_combinationOf (Cond.code yX5_combinationOf cX5_combinationOf 8 (some .long) :: GT) ({ frames := 1, cells := 0, slots := 0, locals := 22 }) (gP D cy (w50 cy h0 h1 h2 h3 h4 h5 h6 h7 h8 i0) [.ref h0, .int i0]) (vp_Sl (fun r => r = 0)) 0 0 (fun _ => False) := by
  refine Met.ofW (cc := cX5_combinationOf) (maxL := 8) (ret := some .long) (by decide) rfl ?_
  intro p e s m args below meth c s₁ B hml hv
  obtain ⟨rfl, hP, hK⟩ := hv
  have hx := B.exec
  have hb := B.bytes
  have hr := B.returns
  have hts := atoms_spec (ws := (Cond.code yX5_combinationOf cX5_combinationOf 8 (some .long) :: GT)) B.pre
  have ht : ∀ w ∈ GT, w.before _ s = true := fun w h => hts w (List.mem_cons_of_mem _ h)
  have hown : s.vm.findClass RX5 = some m.cls := findClass_of_methodNamed B.named
  have hlocks := B.notSynchronized
  have hP : va_P D classes ([(h0, .inr (4, [.ref h1, .int 0, .ref h2, .int 0, .ref h3, .ref h4, .ref h5, .ref h6, .ref h7, .ref h8, .int 0, .int 0, .int 0, .int 0, .int 0]))]) s.heap := hP
  have hl := lv_entry ([.ref h0, .int i0]) (n := 8) (Nat.le_of_ble_eq_true rfl)
  rw [lg_entry_eq]
  generalize (lg_sl ([.ref h0, .int i0]) ++ List.replicate (8 - (lg_sl ([.ref h0, .int i0])).length) Slot.unset).toArray = ls at hl ⊢
  have hl : lv_has ls 8 [(0, .ref h0), (1, .int i0)] := hl
  refine lv_lconst (v := 0) hx hb dX5_combinationOf_0 (by decide) ?_
  refine lv_lstore_n (lv' := [(2, .long 0), (0, .ref h0), (1, .int i0)]) hx hb dX5_combinationOf_1 rfl hl (by decide) rfl (fun ls hl => ?_)
  refine lv_iconst (v := 0) hx hb dX5_combinationOf_2 (by decide) ?_
  refine lv_istore (lv' := [(4, .int 0), (2, .long 0), (0, .ref h0), (1, .int i0)]) hx hb dX5_combinationOf_3 hl (by decide) rfl (fun ls hl => ?_)
  refine lv_iload_n hx hb dX5_combinationOf_5 rfl (lv_at hl 3 rfl) ?_
  refine lv_istore (lv' := [(5, .int i0), (4, .int 0), (2, .long 0), (0, .ref h0), (1, .int i0)]) hx hb dX5_combinationOf_6 hl (by decide) rfl (fun ls hl => ?_)
  refine lv_aload_n hx hb dX5_combinationOf_8 rfl (lv_at hl 3 rfl) ?_
  refine va_get (D := D) (ci := 4) (v := .int 0) (C := RX5) (T := TX5) (N := 15) hx hb hts i_X5 hown hK.1 hP 0 rfl rfl 1 (by decide) (ht _ kt_201) (fun _ h9 => h9) rfl dX5_combinationOf_9 ?_
  refine lv_iconst (v := 3) hx hb dX5_combinationOf_12 (by decide) ?_
  refine va_mmin hx hb (hml.trans hl.1.symm) hown (ht _ kt_701) (ht _ kt_415) (ht _ kt_12) (ht _ kt_416) (Nat.le_of_ble_eq_true rfl) (Nat.le_of_ble_eq_true rfl) (Nat.le_of_ble_eq_true rfl) (Nat.le_of_ble_eq_true rfl) dX5_combinationOf_13 ?_
  refine lz_i 0 (by decide) ?_
  refine lv_iconst (v := 1) hx hb dX5_combinationOf_16 (by decide) ?_
  refine lv_isub hx hb dX5_combinationOf_17 ?_
  refine lz_i (-1) (by decide) ?_
  refine lv_istore (lv' := [(6, .int (-1)), (5, .int i0), (4, .int 0), (2, .long 0), (0, .ref h0), (1, .int i0)]) hx hb dX5_combinationOf_18 hl (by decide) rfl (fun ls hl => ?_)
  refine lv_iload hx hb dX5_combinationOf_20 (lv_at hl 0 rfl) ?_
  refine lv_if_lt (tgt := 90) hx hb dX5_combinationOf_22 (by decide) (fun _ => ?_) (fun c1 => absurd c1 (by decide))
  refine lv_iload hx hb dX5_combinationOf_90 (lv_at hl 1 rfl) ?_
  refine lv_if_ne (tgt := 108) hx hb dX5_combinationOf_92 (by decide) (fun c2 => ?_) (fun c2 => ?_)
  · have c2 : ¬ i0.toInt = 0 := i_ne c2 rfl rfl
    refine lv_lconst (v := 0) hx hb dX5_combinationOf_108 (by decide) ?_
    exact W.lret (v := 0) hx hb hr (fun t ht2 hW => ⟨0, rfl, rfl, ht2⟩) (fun q h => by cases h) dX5_combinationOf_109
  · have c2 : i0.toInt = 0 := i_eq c2 rfl rfl
    refine lv_iload_n hx hb dX5_combinationOf_95 rfl (lv_at hl 5 rfl) ?_
    refine lv_if_lt (tgt := 108) hx hb dX5_combinationOf_96 (by decide) (fun c3 => ?_) (fun c3 => ?_)
    · have c3 : i0.toInt < 0 := i_lt c3 rfl rfl
      exact (by omega : False).elim
    · have c3 : ¬ i0.toInt < 0 := i_nlt c3 rfl rfl
      refine lv_lload_n hx hb dX5_combinationOf_99 rfl (lv_at hl 3 rfl) ?_
      refine lv_iload hx hb dX5_combinationOf_100 (lv_at hl 2 rfl) ?_
      refine vp_callSl (va_Run.run (va_runS (As := [.long 0, .int 0]) (rest := []) ⟨hx, hb, hml, hown, hts⟩ (c49_X0_withOrigin l D cy) (va_cwS 2 hts (gt_S kt_706 kt_356 kt_10 kt_357) rfl rfl rfl (by decide +kernel) ⟨Nat.le_of_ble_eq_true rfl, Nat.le_of_ble_eq_true rfl⟩) (gP_S hK (hP.sub (ws' := (w49 cy)) [] rfl)) rfl rfl hl.1 rfl (lv_room (Nat.le_of_ble_eq_true rfl)) dX5_combinationOf_102 ⟨Nat.le_of_ble_eq_true rfl, Nat.le_of_ble_eq_true rfl⟩)) (fun r4 hw5 => ?_)
      obtain rfl : r4 = 0 := hw5
      refine lv_goto (tgt := 109) hx hb dX5_combinationOf_105 (by decide) ?_
      exact W.lret (v := 0) hx hb hr (fun t ht2 hW => ⟨0, rfl, rfl, ht2⟩) (fun q h => by cases h) dX5_combinationOf_109
def w51 (cy : Nat → ClassId) (h0 h1 h2 h3 h4 h5 h6 h7 h8 h9 : Nat) (i0 : Int32) : va_W := [(h0, .inr (8, [.ref h1, .null, .null])), (h1, .inr (4, [.ref h2, .int 0, .ref h3, .int 0, .ref h4, .ref h5, .ref h6, .ref h7, .ref h8, .ref h9, .int 0, .int 0, .int 0, .int 0, .int 0]))]
set_option maxHeartbeats 4000000 in
set_option maxRecDepth 100000 in
theorem c51_X9_where (l : Launch) (D : va_G) (cy : Nat → ClassId) (h0 h1 h2 h3 h4 h5 h6 h7 h8 h9 : Nat) (i0 : Int32) : Met l yX9_where (Cond.code yX9_where cX9_where 4 (some .int) :: GT) ({ frames := 2, cells := 0, slots := 0, locals := 49 }) (gP D cy (w51 cy h0 h1 h2 h3 h4 h5 h6 h7 h8 h9 i0) [.ref h0, .int i0]) (vp_Si (fun r => r = (-1))) 0 0 (fun _ => False) := by
  refine Met.ofW (cc := cX9_where) (maxL := 4) (ret := some .int) (by decide) rfl ?_
  intro p e s m args below meth c s₁ B hml hv
  obtain ⟨rfl, hP, hK⟩ := hv
  have hx := B.exec
  have hb := B.bytes
  have hr := B.returns
  have hts := atoms_spec (ws := (Cond.code yX9_where cX9_where 4 (some .int) :: GT)) B.pre
  have ht : ∀ w ∈ GT, w.before _ s = true := fun w h => hts w (List.mem_cons_of_mem _ h)
  have hown : s.vm.findClass RX9 = some m.cls := findClass_of_methodNamed B.named
  have hlocks := B.notSynchronized
  have hP : va_P D classes ([(h0, .inr (8, [.ref h1, .null, .null])), (h1, .inr (4, [.ref h2, .int 0, .ref h3, .int 0, .ref h4, .ref h5, .ref h6, .ref h7, .ref h8, .ref h9, .int 0, .int 0, .int 0, .int 0, .int 0]))]) s.heap := hP
  have hl := lv_entry ([.ref h0, .int i0]) (n := 4) (Nat.le_of_ble_eq_true rfl)
  rw [lg_entry_eq]
  generalize (lg_sl ([.ref h0, .int i0]) ++ List.replicate (4 - (lg_sl ([.ref h0, .int i0])).length) Slot.unset).toArray = ls at hl ⊢
  have hl : lv_has ls 4 [(0, .ref h0), (1, .int i0)] := hl
  refine lv_aload_n hx hb dX9_where_0 rfl (lv_at hl 0 rfl) ?_
  refine va_get (D := D) (ci := 8) (v := .ref h1) (C := RX9) (T := TX9) (N := 3) hx hb hts i_X9 hown hK.1 hP 0 rfl rfl 0 (by decide) (ht _ kt_260) (fun _ h9 => h9) rfl dX9_where_1 ?_
  refine lv_iload_n hx hb dX9_where_4 rfl (lv_at hl 1 rfl) ?_
  refine vp_callSl (va_Run.run (va_runV (As := [.int i0]) (rest := []) ⟨hx, hb, hml, hown, hts⟩ (c50_X5_combinationOf l D cy h1 h2 h3 h4 h5 h6 h7 h8 h9 i0) (cwV 1 hts (gt_V kt_697 kt_698 kt_699 kt_2 kt_700) rfl rfl rfl (by decide +kernel) ⟨Nat.le_of_ble_eq_true rfl, Nat.le_of_ble_eq_true rfl⟩) (gP_V hK (hP.sub (ws' := (w50 cy h1 h2 h3 h4 h5 h6 h7 h8 h9 i0)) [1] rfl) hP (ci := 4) (q0 := 1) rfl rfl) rfl rfl hl.1 rfl (lv_room (Nat.le_of_ble_eq_true rfl)) dX9_where_5 ⟨Nat.le_of_ble_eq_true rfl, Nat.le_of_ble_eq_true rfl⟩)) (fun r1 hw2 => ?_)
  obtain rfl : r1 = 0 := hw2
  refine lv_lstore_n (lv' := [(2, .long 0), (0, .ref h0), (1, .int i0)]) hx hb dX9_where_8 rfl hl (by decide) rfl (fun ls hl => ?_)
  refine lv_lload_n hx hb dX9_where_9 rfl (lv_at hl 0 rfl) ?_
  refine lv_lconst (v := 0) hx hb dX9_where_10 (by decide) ?_
  refine W.lcmp hx hb dX9_where_11 ?_
  refine lz_i 0 (by decide) ?_
  refine lv_if_ne (tgt := 19) hx hb dX9_where_12 (by decide) (fun c3 => absurd c3 (by decide)) (fun _ => ?_)
  refine lv_iconst (v := (-1)) hx hb dX9_where_15 (by decide) ?_
  refine lv_goto (tgt := 27) hx hb dX9_where_16 (by decide) ?_
  exact W.iret (v := (-1)) hx hb hr (fun t ht2 hW => ⟨(-1), rfl, rfl, ht2⟩) (fun q h => by cases h) dX9_where_27
def w52 (cy : Nat → ClassId) (h0 : Nat) : va_W := [(h0, .inr (5, [.int 0, .int 0]))]
def vw52 (cy : Nat → ClassId) (h0 : Nat) (u : Nat → Nat) : va_W := [(h0, .inr (5, [.int 0, .int 0]))]
set_option maxHeartbeats 4000000 in
set_option maxRecDepth 100000 in
theorem c52_X6_init (l : Launch) (D : va_G) (cy : Nat → ClassId) (h0 : Nat) (sz : Nat) : Met l yX6_init (Cond.code yX6_init cX6_init 1 (none) :: GT) ({ frames := 1, cells := 0, slots := 0, locals := 28 }) (gN D cy (w52 cy h0) [.ref h0] sz) (va_Qv (fun _ : Nat → Nat => True) (fun u t => va_P D classes (vw52 cy h0 u) t.heap ∧ va_D (va_A (w52 cy h0) sz) (vw52 cy h0 u)) (va_A (w52 cy h0) sz)) 0 0 (va_A (w52 cy h0) sz) := by
  refine Met.ofW (cc := cX6_init) (maxL := 1) (ret := none) (by decide) rfl ?_
  intro p e s m args below meth c s₁ B hml hv
  obtain ⟨rfl, hsz, hP, hK, hD0⟩ := hv
  have hx := B.exec
  have hb := B.bytes
  have hr := B.returns
  have hts := atoms_spec (ws := (Cond.code yX6_init cX6_init 1 (none) :: GT)) B.pre
  have ht : ∀ w ∈ GT, w.before _ s = true := fun w h => hts w (List.mem_cons_of_mem _ h)
  have hown : s.vm.findClass RX6 = some m.cls := findClass_of_methodNamed B.named
  have hlocks := B.notSynchronized
  have hin : meth.name = "<init>" := (name_of_methodNamed B.named B.method).1
  subst hsz
  have hD := hD0.self (sz := s.heap.size)
  generalize hAe : va_A (w52 cy h0) s.heap.size = A at hD ⊢
  have hA : ∀ q : Nat, s.heap.size ≤ q → A q := fun q h => by rw [← hAe]; exact Or.inr h
  have hS : va_S A s.heap s.heap [] := va_S.rf
  have hD : va_D A ([(h0, .inr (5, [.int 0, .int 0]))]) := hD
  have hP : va_P D classes ([(h0, .inr (5, [.int 0, .int 0]))]) s.heap := hP
  have hl := lv_entry ([.ref h0]) (n := 1) (Nat.le_of_ble_eq_true rfl)
  rw [lg_entry_eq]
  generalize (lg_sl ([.ref h0]) ++ List.replicate (1 - (lg_sl ([.ref h0])).length) Slot.unset).toArray = ls at hl ⊢
  have hl : lv_has ls 1 [(0, .ref h0)] := hl
  refine lv_aload_n hx hb dX6_init_0 rfl (lv_at hl 0 rfl) ?_
  refine W.objInit hx hb hown (ht _ kt_730) (ht _ kt_21) (ht _ kt_22) rfl (by rw [hml]; exact hl.1) rfl dX6_init_1 (Nat.le_of_ble_eq_true rfl) (Nat.le_of_ble_eq_true rfl) ?_
  refine W.eq (g2 := F0 m 4 ls []) rfl ?_
  refine lv_aload_n hx hb dX6_init_4 rfl (lv_at hl 0 rfl) ?_
  refine lv_iconst (v := 0) hx hb dX6_init_5 (by decide) ?_
  refine va_put (D := D) (ci := 5) (v := .int 0) (ty := .int) (C := RX6) (T := TX6) (N := 2) hx hb hts i_X6 tyX6 tyX6_ok nmX6 hown hK.1 hP hD hS 0 rfl rfl 0 (by decide) (ht _ kt_731) (fun _ h9 => h9) rfl (by decide +kernel) rfl rfl (Nat.le_of_ble_eq_true rfl) dX6_init_6 (fun H locs hP hD hS => ?_)
  have hP : va_P D classes ([(h0, .inr (5, [.int 0, .int 0]))]) H := hP
  have hD : va_D A ([(h0, .inr (5, [.int 0, .int 0]))]) := hD
  refine lv_aload_n hx hb dX6_init_9 rfl (lv_at hl 0 rfl) ?_
  refine lv_iconst (v := 0) hx hb dX6_init_10 (by decide) ?_
  refine va_put (D := D) (ci := 5) (v := .int 0) (ty := .int) (C := RX6) (T := TX6) (N := 2) hx hb hts i_X6 tyX6 tyX6_ok nmX6 hown hK.1 hP hD hS 0 rfl rfl 1 (by decide) (ht _ kt_733) (fun _ h9 => h9) rfl (by decide +kernel) rfl rfl (Nat.le_of_ble_eq_true rfl) dX6_init_11 (fun H locs hP hD hS => ?_)
  have hP : va_P D classes ([(h0, .inr (5, [.int 0, .int 0]))]) H := hP
  have hD : va_D A ([(h0, .inr (5, [.int 0, .int 0]))]) := hD
  refine W.widen (k := 0) (n := 0) (Nat.le_of_ble_eq_true rfl) (Nat.le_of_ble_eq_true rfl) ?_
  have hP9 := hP.sub (ws' := [(h0, .inr (5, [.int 0, .int 0]))]) [0] rfl
  have hD9 := hD.sub (ws' := [(h0, .inr (5, [.int 0, .int 0]))]) [0] (by decide +kernel) rfl
  exact W.vret hx hb hr (fun t ht2 hW => ⟨⟨(fun k => ([] : List Nat).getD k 0), rfl, trivial, by rw [ht2]; exact hP9, hD9⟩, hS.F ht2⟩) hS.2.2 dX6_init_14
