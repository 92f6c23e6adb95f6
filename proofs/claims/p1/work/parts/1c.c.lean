def w21 (cy : Nat → ClassId) (h0 h1 h2 : Nat) : va_W := [(h0, .inr (7, [.ref h1, .ref h2, .int 0, .int 1]))]
def vw21 (cy : Nat → ClassId) (h0 h1 h2 : Nat) (u : Nat → Nat) : va_W := [(h0, .inr (7, [.ref h1, .ref h2, .int 0, .int 1]))]
set_option maxHeartbeats 4000000 in
set_option maxRecDepth 100000 in
theorem c21_X8_expect (l : Launch) (D : va_G) (cy : Nat → ClassId) (h0 h1 h2 : Nat) (sz : Nat) : Met l yX8_expect (Cond.code yX8_expect cX8_expect 2 (none) :: GT) ({ frames := 0, cells := 0, slots := 0, locals := 0 }) (gN D cy (w21 cy h0 h1 h2) [.ref h0, .int 46] sz) (va_Qv (fun _ : Nat → Nat => True) (fun u t => va_P D classes (vw21 cy h0 h1 h2 u) t.heap ∧ va_D (va_A (w21 cy h0 h1 h2) sz) (vw21 cy h0 h1 h2 u)) (va_A (w21 cy h0 h1 h2) sz)) 0 0 (va_A (w21 cy h0 h1 h2) sz) := by
  refine Met.ofW (cc := cX8_expect) (maxL := 2) (ret := none) (by decide) rfl ?_
  intro p e s m args below meth c s₁ B hml hv
  obtain ⟨rfl, hsz, hP, hK, hD0⟩ := hv
  have hx := B.exec
  have hb := B.bytes
  have hr := B.returns
  have hts := atoms_spec (ws := (Cond.code yX8_expect cX8_expect 2 (none) :: GT)) B.pre
  have ht : ∀ w ∈ GT, w.before _ s = true := fun w h => hts w (List.mem_cons_of_mem _ h)
  have hown : s.vm.findClass RX8 = some m.cls := findClass_of_methodNamed B.named
  have hlocks := B.notSynchronized
  subst hsz
  have hD := hD0.self (sz := s.heap.size)
  generalize hAe : va_A (w21 cy h0 h1 h2) s.heap.size = A at hD ⊢
  have hA : ∀ q : Nat, s.heap.size ≤ q → A q := fun q h => by rw [← hAe]; exact Or.inr h
  have hS : va_S A s.heap s.heap [] := va_S.rf
  have hD : va_D A ([(h0, .inr (7, [.ref h1, .ref h2, .int 0, .int 1]))]) := hD
  have hP : va_P D classes ([(h0, .inr (7, [.ref h1, .ref h2, .int 0, .int 1]))]) s.heap := hP
  have hl := lv_entry ([.ref h0, .int 46]) (n := 2) (Nat.le_of_ble_eq_true rfl)
  rw [lg_entry_eq]
  generalize (lg_sl ([.ref h0, .int 46]) ++ List.replicate (2 - (lg_sl ([.ref h0, .int 46])).length) Slot.unset).toArray = ls at hl ⊢
  have hl : lv_has ls 2 [(0, .ref h0), (1, .int 46)] := hl
  refine lv_aload_n hx hb dX8_expect_0 rfl (lv_at hl 0 rfl) ?_
  refine va_get (D := D) (ci := 7) (v := .int 1) (C := RX8) (T := TX8) (N := 4) hx hb hts i_X8 hown hK.1 hP 0 rfl rfl 3 (by decide) (ht _ kt_396) (fun _ h9 => h9) rfl dX8_expect_1 ?_
  refine lv_if_ne (tgt := 22) hx hb dX8_expect_4 (by decide) (fun _ => ?_) (fun c1 => absurd c1 (by decide))
  refine lv_aload_n hx hb dX8_expect_22 rfl (lv_at hl 0 rfl) ?_
  refine lv_iconst (v := 1) hx hb dX8_expect_23 (by decide) ?_
  refine va_put (D := D) (ci := 7) (v := .int 1) (ty := .boolean) (C := RX8) (T := TX8) (N := 4) hx hb hts i_X8 tyX8 tyX8_ok nmX8 hown hK.1 hP hD hS 0 rfl rfl 3 (by decide) (ht _ kt_396) (fun _ h9 => h9) rfl (by decide +kernel) rfl rfl (Nat.le_of_ble_eq_true rfl) dX8_expect_24 (fun H locs hP hD hS => ?_)
  have hP : va_P D classes ([(h0, .inr (7, [.ref h1, .ref h2, .int 0, .int 1]))]) H := hP
  have hD : va_D A ([(h0, .inr (7, [.ref h1, .ref h2, .int 0, .int 1]))]) := hD
  refine W.widen (k := 0) (n := 0) (Nat.le_of_ble_eq_true rfl) (Nat.le_of_ble_eq_true rfl) ?_
  have hP9 := hP.sub (ws' := [(h0, .inr (7, [.ref h1, .ref h2, .int 0, .int 1]))]) [0] rfl
  have hD9 := hD.sub (ws' := [(h0, .inr (7, [.ref h1, .ref h2, .int 0, .int 1]))]) [0] (by decide +kernel) rfl
  exact W.vret hx hb hr (fun t ht2 hW => ⟨⟨(fun k => ([] : List Nat).getD k 0), rfl, trivial, by rw [ht2]; exact hP9, hD9⟩, hS.F ht2⟩) hS.2.2 dX8_expect_27
def w22 (cy : Nat → ClassId) (h0 h1 h2 h3 h4 h5 h6 h7 h8 : Nat) : va_W := [(h0, .inr (4, [.ref h1, .int 0, .ref h2, .int 0, .ref h3, .ref h4, .ref h5, .ref h6, .ref h7, .ref h8, .int 0, .int 0, .int 0, .int 0, .int 0]))]
set_option maxHeartbeats 4000000 in
set_option maxRecDepth 100000 in
theorem c22_X5_hasSource (l : Launch) (D : va_G) (cy : Nat → ClassId) (h0 h1 h2 h3 h4 h5 h6 h7 h8 : Nat) : Met l yX5_hasSource (Cond.code yX5_hasSource cX5_hasSource 2 (some .boolean) :: GT) ({ frames := 0, cells := 0, slots := 0, locals := 0 }) (gP D cy (w22 cy h0 h1 h2 h3 h4 h5 h6 h7 h8) [.ref h0, .int 0]) (vp_Si (fun r => r = 0)) 0 0 (fun _ => False) := by
  refine Met.ofW (cc := cX5_hasSource) (maxL := 2) (ret := some .boolean) (by decide) rfl ?_
  intro p e s m args below meth c s₁ B hml hv
  obtain ⟨rfl, hP, hK⟩ := hv
  have hx := B.exec
  have hb := B.bytes
  have hr := B.returns
  have hts := atoms_spec (ws := (Cond.code yX5_hasSource cX5_hasSource 2 (some .boolean) :: GT)) B.pre
  have ht : ∀ w ∈ GT, w.before _ s = true := fun w h => hts w (List.mem_cons_of_mem _ h)
  have hown : s.vm.findClass RX5 = some m.cls := findClass_of_methodNamed B.named
  have hlocks := B.notSynchronized
  have hP : va_P D classes ([(h0, .inr (4, [.ref h1, .int 0, .ref h2, .int 0, .ref h3, .ref h4, .ref h5, .ref h6, .ref h7, .ref h8, .int 0, .int 0, .int 0, .int 0, .int 0]))]) s.heap := hP
  have hl := lv_entry ([.ref h0, .int 0]) (n := 2) (Nat.le_of_ble_eq_true rfl)
  rw [lg_entry_eq]
  generalize (lg_sl ([.ref h0, .int 0]) ++ List.replicate (2 - (lg_sl ([.ref h0, .int 0])).length) Slot.unset).toArray = ls at hl ⊢
  have hl : lv_has ls 2 [(0, .ref h0), (1, .int 0)] := hl
  refine lv_iload_n hx hb dX5_hasSource_0 rfl (lv_at hl 1 rfl) ?_
  refine lv_if_lt (tgt := 21) hx hb dX5_hasSource_1 (by decide) (fun c1 => absurd c1 (by decide)) (fun _ => ?_)
  refine lv_iload_n hx hb dX5_hasSource_4 rfl (lv_at hl 1 rfl) ?_
  refine lv_aload_n hx hb dX5_hasSource_5 rfl (lv_at hl 0 rfl) ?_
  refine va_get (D := D) (ci := 4) (v := .int 0) (C := RX5) (T := TX5) (N := 15) hx hb hts i_X5 hown hK.1 hP 0 rfl rfl 1 (by decide) (ht _ kt_201) (fun _ h9 => h9) rfl dX5_hasSource_6 ?_
  refine lv_icmp_ge (tgt := 21) hx hb dX5_hasSource_9 (by decide) (fun _ => ?_) (fun c2 => absurd c2 (by decide))
  refine lv_iconst (v := 0) hx hb dX5_hasSource_21 (by decide) ?_
  exact W.zret (v := 0) hx hb hr rfl (fun t ht2 hW => ⟨0, rfl, rfl, ht2⟩) (fun q h => by cases h) dX5_hasSource_22
def w23 (cy : Nat → ClassId) (h0 h1 h2 h3 h4 h5 h6 h7 h8 h9 h10 : Nat) : va_W := [(h0, .inr (7, [.ref h1, .ref h2, .int 0, .int 1])), (h1, .inr (4, [.ref h3, .int 0, .ref h4, .int 0, .ref h5, .ref h6, .ref h7, .ref h8, .ref h2, .ref h9, .int 0, .int 0, .int 0, .int 0, .int 0])), (h2, .inr (6, [.ref h10, .int 0]))]
def vw23 (cy : Nat → ClassId) (h0 h1 h2 h3 h4 h5 h6 h7 h8 h9 h10 : Nat) (u : Nat → Nat) : va_W := [(h0, .inr (7, [.ref h1, .ref h2, .int 0, .int 1])), (h1, .inr (4, [.ref h3, .int 0, .ref h4, .int 0, .ref h5, .ref h6, .ref h7, .ref h8, .ref h2, .ref h9, .int 0, .int 0, .int 0, .int 0, .int 0])), (h2, .inr (6, [.ref h10, .int 0]))]
set_option maxHeartbeats 4000000 in
set_option maxRecDepth 100000 in
theorem c23_X8_readValueOf (l : Launch) (D : va_G) (cy : Nat → ClassId) (h0 h1 h2 h3 h4 h5 h6 h7 h8 h9 h10 : Nat) (sz : Nat) : Met l yX8_readValueOf (Cond.code yX8_readValueOf cX8_readValueOf 3 (some .int) :: GT) ({ frames := 2, cells := 0, slots := 0, locals := 44 }) (gN D cy (w23 cy h0 h1 h2 h3 h4 h5 h6 h7 h8 h9 h10) [.ref h0, .int 0] sz) (va_Qi (fun (r : Int32) (_ : Nat → Nat) => r = 0) (fun u t => va_P D classes (vw23 cy h0 h1 h2 h3 h4 h5 h6 h7 h8 h9 h10 u) t.heap ∧ va_D (va_A (w23 cy h0 h1 h2 h3 h4 h5 h6 h7 h8 h9 h10) sz) (vw23 cy h0 h1 h2 h3 h4 h5 h6 h7 h8 h9 h10 u)) (va_A (w23 cy h0 h1 h2 h3 h4 h5 h6 h7 h8 h9 h10) sz)) 0 0 (va_A (w23 cy h0 h1 h2 h3 h4 h5 h6 h7 h8 h9 h10) sz) := by
  refine Met.ofW (cc := cX8_readValueOf) (maxL := 3) (ret := some .int) (by decide) rfl ?_
  intro p e s m args below meth c s₁ B hml hv
  obtain ⟨rfl, hsz, hP, hK, hD0⟩ := hv
  have hx := B.exec
  have hb := B.bytes
  have hr := B.returns
  have hts := atoms_spec (ws := (Cond.code yX8_readValueOf cX8_readValueOf 3 (some .int) :: GT)) B.pre
  have ht : ∀ w ∈ GT, w.before _ s = true := fun w h => hts w (List.mem_cons_of_mem _ h)
  have hown : s.vm.findClass RX8 = some m.cls := findClass_of_methodNamed B.named
  have hlocks := B.notSynchronized
  subst hsz
  have hD := hD0.self (sz := s.heap.size)
  generalize hAe : va_A (w23 cy h0 h1 h2 h3 h4 h5 h6 h7 h8 h9 h10) s.heap.size = A at hD ⊢
  have hA : ∀ q : Nat, s.heap.size ≤ q → A q := fun q h => by rw [← hAe]; exact Or.inr h
  have hS : va_S A s.heap s.heap [] := va_S.rf
  have hD : va_D A ([(h0, .inr (7, [.ref h1, .ref h2, .int 0, .int 1])), (h1, .inr (4, [.ref h3, .int 0, .ref h4, .int 0, .ref h5, .ref h6, .ref h7, .ref h8, .ref h2, .ref h9, .int 0, .int 0, .int 0, .int 0, .int 0])), (h2, .inr (6, [.ref h10, .int 0]))]) := hD
  have hP : va_P D classes ([(h0, .inr (7, [.ref h1, .ref h2, .int 0, .int 1])), (h1, .inr (4, [.ref h3, .int 0, .ref h4, .int 0, .ref h5, .ref h6, .ref h7, .ref h8, .ref h2, .ref h9, .int 0, .int 0, .int 0, .int 0, .int 0])), (h2, .inr (6, [.ref h10, .int 0]))]) s.heap := hP
  have hl := lv_entry ([.ref h0, .int 0]) (n := 3) (Nat.le_of_ble_eq_true rfl)
  rw [lg_entry_eq]
  generalize (lg_sl ([.ref h0, .int 0]) ++ List.replicate (3 - (lg_sl ([.ref h0, .int 0])).length) Slot.unset).toArray = ls at hl ⊢
  have hl : lv_has ls 3 [(0, .ref h0), (1, .int 0)] := hl
  refine lv_aload_n hx hb dX8_readValueOf_0 rfl (lv_at hl 0 rfl) ?_
  refine lv_bipush (v := 46) hx hb dX8_readValueOf_1 (by decide) ?_
  have hPc := hP.sub (ws' := (w21 cy h0 h1 h2)) [0] rfl
  have hDc := hD.sub (ws' := (w21 cy h0 h1 h2)) [0] (by decide +kernel) rfl
  have hFc := va_free (wc := (w21 cy h0 h1 h2)) hD hS hA [0] rfl
  refine va_callv (va_runV (As := [.int 46]) (rest := []) ⟨hx, hb, hml, hown, hts⟩ (c21_X8_expect l D cy h0 h1 h2 s.heap.size) (cwV 1 hts (gt_V kt_428 kt_430 kp_4 kt_11 kt_431) rfl rfl rfl (by decide +kernel) ⟨Nat.le_of_ble_eq_true rfl, Nat.le_of_ble_eq_true rfl⟩) (gN_V hK hPc hDc hP (ci := 7) (q0 := 0) rfl rfl) rfl rfl hl.1 rfl (lv_room (Nat.le_of_ble_eq_true rfl)) dX8_readValueOf_3 ⟨Nat.le_of_ble_eq_true rfl, Nat.le_of_ble_eq_true rfl⟩) hS (fun q _ h => hFc q h) hFc (fun u3 t H1 locs ht2 hvm hw2 hB hz1 hk1 hS => ?_)
  obtain ⟨hP1, hD1⟩ := hB
  rw [ht2] at hP1
  obtain ⟨hP, hD⟩ := va_join (wr := ([(h1, .inr (4, [.ref h3, .int 0, .ref h4, .int 0, .ref h5, .ref h6, .ref h7, .ref h8, .ref h2, .ref h9, .int 0, .int 0, .int 0, .int 0, .int 0])), (h2, .inr (6, [.ref h10, .int 0]))] : va_W)) (w1 := (vw21 cy h0 h1 h2 u3)) hP hD [0] [1, 2] rfl rfl (by decide +kernel) (by decide +kernel) hk1 hFc hP1 hD1
  generalize H1 = H at hP hS ⊢
  have hP : va_P D classes ([(h1, .inr (4, [.ref h3, .int 0, .ref h4, .int 0, .ref h5, .ref h6, .ref h7, .ref h8, .ref h2, .ref h9, .int 0, .int 0, .int 0, .int 0, .int 0])), (h2, .inr (6, [.ref h10, .int 0])), (h0, .inr (7, [.ref h1, .ref h2, .int 0, .int 1]))]) H := hP
  have hD : va_D A ([(h1, .inr (4, [.ref h3, .int 0, .ref h4, .int 0, .ref h5, .ref h6, .ref h7, .ref h8, .ref h2, .ref h9, .int 0, .int 0, .int 0, .int 0, .int 0])), (h2, .inr (6, [.ref h10, .int 0])), (h0, .inr (7, [.ref h1, .ref h2, .int 0, .int 1]))]) := hD
  refine W.widen (k := 0) (n := 0) (Nat.le_of_ble_eq_true rfl) (Nat.le_of_ble_eq_true rfl) ?_
  refine lv_aload_n hx hb dX8_readValueOf_6 rfl (lv_at hl 0 rfl) ?_
  refine va_get (D := D) (ci := 7) (v := .ref h1) (C := RX8) (T := TX8) (N := 4) hx hb hts i_X8 hown hK.1 hP 2 rfl rfl 0 (by decide) (ht _ kt_392) (fun _ h9 => h9) rfl dX8_readValueOf_7 ?_
  refine lv_iload_n hx hb dX8_readValueOf_10 rfl (lv_at hl 1 rfl) ?_
  refine vp_callSi (va_Run.run (va_runV (As := [.int 0]) (rest := []) ⟨hx, hb, hml, hown, hts⟩ (c22_X5_hasSource l D cy h1 h3 h4 h5 h6 h7 h8 h2 h9) (cwV 1 hts (gt_V kt_436 kt_283 kt_284 kt_2 kt_285) rfl rfl rfl (by decide +kernel) ⟨Nat.le_of_ble_eq_true rfl, Nat.le_of_ble_eq_true rfl⟩) (gP_V hK (hP.sub (ws' := (w22 cy h1 h3 h4 h5 h6 h7 h8 h2 h9)) [0] rfl) hP (ci := 4) (q0 := 0) rfl rfl) rfl rfl hl.1 rfl (lv_room (Nat.le_of_ble_eq_true rfl)) dX8_readValueOf_11 ⟨Nat.le_of_ble_eq_true rfl, Nat.le_of_ble_eq_true rfl⟩)) (fun r4 hw5 => ?_)
  obtain rfl : r4 = 0 := hw5
  refine lv_if_eq (tgt := 32) hx hb dX8_readValueOf_14 (by decide) (fun _ => ?_) (fun c6 => absurd c6 (by decide))
  refine lv_iconst (v := 0) hx hb dX8_readValueOf_32 (by decide) ?_
  refine lv_istore_n (lv' := [(2, .int 0), (0, .ref h0), (1, .int 0)]) hx hb dX8_readValueOf_33 rfl hl (by decide) rfl (fun ls hl => ?_)
  refine lv_aload_n hx hb dX8_readValueOf_34 rfl (lv_at hl 1 rfl) ?_
  refine lv_iconst (v := 0) hx hb dX8_readValueOf_35 (by decide) ?_
  refine lv_iload_n hx hb dX8_readValueOf_36 rfl (lv_at hl 0 rfl) ?_
  refine lv_iconst (v := 1) hx hb dX8_readValueOf_37 (by decide) ?_
  refine lv_isub hx hb dX8_readValueOf_38 ?_
  refine lz_i (-1) (by decide) ?_
  have hPc := hP.sub (ws' := (w20 cy h0 h1 h2 h10)) [2, 1] rfl
  have hDc := hD.sub (ws' := (w20 cy h0 h1 h2 h10)) [2, 1] (by decide +kernel) rfl
  have hFc := va_free (wc := (w20 cy h0 h1 h2 h10)) hD hS hA [2, 1] rfl
  refine va_calli (va_runV (As := [.int 0, .int (-1)]) (rest := []) ⟨hx, hb, hml, hown, hts⟩ (c20_X8_readDigit l D cy h0 h1 h2 h10 H.size) (cwV 2 hts (gt_V kt_417 kt_419 kp_3 kt_11 kt_420) rfl rfl rfl (by decide +kernel) ⟨Nat.le_of_ble_eq_true rfl, Nat.le_of_ble_eq_true rfl⟩) (gN_V hK hPc hDc hP (ci := 7) (q0 := 2) rfl rfl) rfl rfl hl.1 rfl (lv_room (Nat.le_of_ble_eq_true rfl)) dX8_readValueOf_39 ⟨Nat.le_of_ble_eq_true rfl, Nat.le_of_ble_eq_true rfl⟩) hS (fun q _ h => hFc q h) hFc (fun r7 u9 t H1 locs ht2 hvm hw8 hB hz1 hk1 hS => ?_)
  obtain ⟨hP1, hD1⟩ := hB
  rw [ht2] at hP1
  obtain ⟨hP, hD⟩ := va_join (wr := ([(h1, .inr (4, [.ref h3, .int 0, .ref h4, .int 0, .ref h5, .ref h6, .ref h7, .ref h8, .ref h2, .ref h9, .int 0, .int 0, .int 0, .int 0, .int 0]))] : va_W)) (w1 := (vw20 cy h0 h1 h2 h10 u9)) hP hD [2, 1] [0] rfl rfl (by decide +kernel) (by decide +kernel) hk1 hFc hP1 hD1
  generalize H1 = H at hP hS ⊢
  have hP : va_P D classes ([(h1, .inr (4, [.ref h3, .int 0, .ref h4, .int 0, .ref h5, .ref h6, .ref h7, .ref h8, .ref h2, .ref h9, .int 0, .int 0, .int 0, .int 0, .int 0])), (h0, .inr (7, [.ref h1, .ref h2, .int 0, .int 1])), (h2, .inr (6, [.ref h10, .int 0]))]) H := hP
  have hD : va_D A ([(h1, .inr (4, [.ref h3, .int 0, .ref h4, .int 0, .ref h5, .ref h6, .ref h7, .ref h8, .ref h2, .ref h9, .int 0, .int 0, .int 0, .int 0, .int 0])), (h0, .inr (7, [.ref h1, .ref h2, .int 0, .int 1])), (h2, .inr (6, [.ref h10, .int 0]))]) := hD
  refine W.widen (k := 0) (n := 0) (Nat.le_of_ble_eq_true rfl) (Nat.le_of_ble_eq_true rfl) ?_
  obtain rfl : r7 = 0 := hw8
  refine W.widen (k := 0) (n := 0) (Nat.le_of_ble_eq_true rfl) (Nat.le_of_ble_eq_true rfl) ?_
  have hP9 := hP.sub (ws' := [(h0, .inr (7, [.ref h1, .ref h2, .int 0, .int 1])), (h1, .inr (4, [.ref h3, .int 0, .ref h4, .int 0, .ref h5, .ref h6, .ref h7, .ref h8, .ref h2, .ref h9, .int 0, .int 0, .int 0, .int 0, .int 0])), (h2, .inr (6, [.ref h10, .int 0]))]) [1, 0, 2] rfl
  have hD9 := hD.sub (ws' := [(h0, .inr (7, [.ref h1, .ref h2, .int 0, .int 1])), (h1, .inr (4, [.ref h3, .int 0, .ref h4, .int 0, .ref h5, .ref h6, .ref h7, .ref h8, .ref h2, .ref h9, .int 0, .int 0, .int 0, .int 0, .int 0])), (h2, .inr (6, [.ref h10, .int 0]))]) [1, 0, 2] (by decide +kernel) rfl
  exact W.iret (v := 0) hx hb hr (fun t ht2 hW => ⟨⟨0, (fun k => ([] : List Nat).getD k 0), rfl, rfl, by rw [ht2]; exact hP9, hD9⟩, hS.F ht2⟩) hS.2.2 dX8_readValueOf_42
def w24 (cy : Nat → ClassId) (h0 h1 h2 : Nat) : va_W := [(h0, .inr (7, [.ref h1, .ref h2, .int 0, .int 1]))]
set_option maxHeartbeats 4000000 in
set_option maxRecDepth 100000 in
theorem c24_X8_take (l : Launch) (D : va_G) (cy : Nat → ClassId) (h0 h1 h2 : Nat) : Met l yX8_take (Cond.code yX8_take cX8_take 2 (some .boolean) :: GT) ({ frames := 0, cells := 0, slots := 0, locals := 0 }) (gP D cy (w24 cy h0 h1 h2) [.ref h0, .int 37]) (vp_Si (fun r => r = 0)) 0 0 (fun _ => False) := by
  refine Met.ofW (cc := cX8_take) (maxL := 2) (ret := some .boolean) (by decide) rfl ?_
  intro p e s m args below meth c s₁ B hml hv
  obtain ⟨rfl, hP, hK⟩ := hv
  have hx := B.exec
  have hb := B.bytes
  have hr := B.returns
  have hts := atoms_spec (ws := (Cond.code yX8_take cX8_take 2 (some .boolean) :: GT)) B.pre
  have ht : ∀ w ∈ GT, w.before _ s = true := fun w h => hts w (List.mem_cons_of_mem _ h)
  have hown : s.vm.findClass RX8 = some m.cls := findClass_of_methodNamed B.named
  have hlocks := B.notSynchronized
  have hP : va_P D classes ([(h0, .inr (7, [.ref h1, .ref h2, .int 0, .int 1]))]) s.heap := hP
  have hl := lv_entry ([.ref h0, .int 37]) (n := 2) (Nat.le_of_ble_eq_true rfl)
  rw [lg_entry_eq]
  generalize (lg_sl ([.ref h0, .int 37]) ++ List.replicate (2 - (lg_sl ([.ref h0, .int 37])).length) Slot.unset).toArray = ls at hl ⊢
  have hl : lv_has ls 2 [(0, .ref h0), (1, .int 37)] := hl
  refine lv_aload_n hx hb dX8_take_0 rfl (lv_at hl 0 rfl) ?_
  refine va_get (D := D) (ci := 7) (v := .int 1) (C := RX8) (T := TX8) (N := 4) hx hb hts i_X8 hown hK.1 hP 0 rfl rfl 3 (by decide) (ht _ kt_396) (fun _ h9 => h9) rfl dX8_take_1 ?_
  refine lv_if_ne (tgt := 22) hx hb dX8_take_4 (by decide) (fun _ => ?_) (fun c1 => absurd c1 (by decide))
  refine lv_iconst (v := 0) hx hb dX8_take_22 (by decide) ?_
  exact W.zret (v := 0) hx hb hr rfl (fun t ht2 hW => ⟨0, rfl, rfl, ht2⟩) (fun q h => by cases h) dX8_take_23
def w25 (cy : Nat → ClassId) (h0 h1 h2 : Nat) : va_W := [(h0, .inr (7, [.ref h1, .ref h2, .int 0, .int 1]))]
set_option maxHeartbeats 4000000 in
set_option maxRecDepth 100000 in
theorem c25_X8_take (l : Launch) (D : va_G) (cy : Nat → ClassId) (h0 h1 h2 : Nat) : Met l yX8_take (Cond.code yX8_take cX8_take 2 (some .boolean) :: GT) ({ frames := 0, cells := 0, slots := 0, locals := 0 }) (gP D cy (w25 cy h0 h1 h2) [.ref h0, .int 43]) (vp_Si (fun r => r = 0)) 0 0 (fun _ => False) := by
  refine Met.ofW (cc := cX8_take) (maxL := 2) (ret := some .boolean) (by decide) rfl ?_
  intro p e s m args below meth c s₁ B hml hv
  obtain ⟨rfl, hP, hK⟩ := hv
  have hx := B.exec
  have hb := B.bytes
  have hr := B.returns
  have hts := atoms_spec (ws := (Cond.code yX8_take cX8_take 2 (some .boolean) :: GT)) B.pre
  have ht : ∀ w ∈ GT, w.before _ s = true := fun w h => hts w (List.mem_cons_of_mem _ h)
  have hown : s.vm.findClass RX8 = some m.cls := findClass_of_methodNamed B.named
  have hlocks := B.notSynchronized
  have hP : va_P D classes ([(h0, .inr (7, [.ref h1, .ref h2, .int 0, .int 1]))]) s.heap := hP
  have hl := lv_entry ([.ref h0, .int 43]) (n := 2) (Nat.le_of_ble_eq_true rfl)
  rw [lg_entry_eq]
  generalize (lg_sl ([.ref h0, .int 43]) ++ List.replicate (2 - (lg_sl ([.ref h0, .int 43])).length) Slot.unset).toArray = ls at hl ⊢
  have hl : lv_has ls 2 [(0, .ref h0), (1, .int 43)] := hl
  refine lv_aload_n hx hb dX8_take_0 rfl (lv_at hl 0 rfl) ?_
  refine va_get (D := D) (ci := 7) (v := .int 1) (C := RX8) (T := TX8) (N := 4) hx hb hts i_X8 hown hK.1 hP 0 rfl rfl 3 (by decide) (ht _ kt_396) (fun _ h9 => h9) rfl dX8_take_1 ?_
  refine lv_if_ne (tgt := 22) hx hb dX8_take_4 (by decide) (fun _ => ?_) (fun c1 => absurd c1 (by decide))
  refine lv_iconst (v := 0) hx hb dX8_take_22 (by decide) ?_
  exact W.zret (v := 0) hx hb hr rfl (fun t ht2 hW => ⟨0, rfl, rfl, ht2⟩) (fun q h => by cases h) dX8_take_23
def w26 (cy : Nat → ClassId) (h0 h1 h2 : Nat) : va_W := [(h0, .inr (7, [.ref h1, .ref h2, .int 0, .int 1]))]
set_option maxHeartbeats 4000000 in
set_option maxRecDepth 100000 in
theorem c26_X8_take (l : Launch) (D : va_G) (cy : Nat → ClassId) (h0 h1 h2 : Nat) : Met l yX8_take (Cond.code yX8_take cX8_take 2 (some .boolean) :: GT) ({ frames := 0, cells := 0, slots := 0, locals := 0 }) (gP D cy (w26 cy h0 h1 h2) [.ref h0, .int 126]) (vp_Si (fun r => r = 0)) 0 0 (fun _ => False) := by
  refine Met.ofW (cc := cX8_take) (maxL := 2) (ret := some .boolean) (by decide) rfl ?_
  intro p e s m args below meth c s₁ B hml hv
  obtain ⟨rfl, hP, hK⟩ := hv
  have hx := B.exec
  have hb := B.bytes
  have hr := B.returns
  have hts := atoms_spec (ws := (Cond.code yX8_take cX8_take 2 (some .boolean) :: GT)) B.pre
  have ht : ∀ w ∈ GT, w.before _ s = true := fun w h => hts w (List.mem_cons_of_mem _ h)
  have hown : s.vm.findClass RX8 = some m.cls := findClass_of_methodNamed B.named
  have hlocks := B.notSynchronized
  have hP : va_P D classes ([(h0, .inr (7, [.ref h1, .ref h2, .int 0, .int 1]))]) s.heap := hP
  have hl := lv_entry ([.ref h0, .int 126]) (n := 2) (Nat.le_of_ble_eq_true rfl)
  rw [lg_entry_eq]
  generalize (lg_sl ([.ref h0, .int 126]) ++ List.replicate (2 - (lg_sl ([.ref h0, .int 126])).length) Slot.unset).toArray = ls at hl ⊢
  have hl : lv_has ls 2 [(0, .ref h0), (1, .int 126)] := hl
  refine lv_aload_n hx hb dX8_take_0 rfl (lv_at hl 0 rfl) ?_
  refine va_get (D := D) (ci := 7) (v := .int 1) (C := RX8) (T := TX8) (N := 4) hx hb hts i_X8 hown hK.1 hP 0 rfl rfl 3 (by decide) (ht _ kt_396) (fun _ h9 => h9) rfl dX8_take_1 ?_
  refine lv_if_ne (tgt := 22) hx hb dX8_take_4 (by decide) (fun _ => ?_) (fun c1 => absurd c1 (by decide))
  refine lv_iconst (v := 0) hx hb dX8_take_22 (by decide) ?_
  exact W.zret (v := 0) hx hb hr rfl (fun t ht2 hW => ⟨0, rfl, rfl, ht2⟩) (fun q h => by cases h) dX8_take_23
def w27 (cy : Nat → ClassId) (h0 h1 h2 : Nat) : va_W := [(h0, .inr (7, [.ref h1, .ref h2, .int 0, .int 1]))]
set_option maxHeartbeats 4000000 in
set_option maxRecDepth 100000 in
theorem c27_X8_take (l : Launch) (D : va_G) (cy : Nat → ClassId) (h0 h1 h2 : Nat) : Met l yX8_take (Cond.code yX8_take cX8_take 2 (some .boolean) :: GT) ({ frames := 0, cells := 0, slots := 0, locals := 0 }) (gP D cy (w27 cy h0 h1 h2) [.ref h0, .int 61]) (vp_Si (fun r => r = 0)) 0 0 (fun _ => False) := by
  refine Met.ofW (cc := cX8_take) (maxL := 2) (ret := some .boolean) (by decide) rfl ?_
  intro p e s m args below meth c s₁ B hml hv
  obtain ⟨rfl, hP, hK⟩ := hv
  have hx := B.exec
  have hb := B.bytes
  have hr := B.returns
  have hts := atoms_spec (ws := (Cond.code yX8_take cX8_take 2 (some .boolean) :: GT)) B.pre
  have ht : ∀ w ∈ GT, w.before _ s = true := fun w h => hts w (List.mem_cons_of_mem _ h)
  have hown : s.vm.findClass RX8 = some m.cls := findClass_of_methodNamed B.named
  have hlocks := B.notSynchronized
  have hP : va_P D classes ([(h0, .inr (7, [.ref h1, .ref h2, .int 0, .int 1]))]) s.heap := hP
  have hl := lv_entry ([.ref h0, .int 61]) (n := 2) (Nat.le_of_ble_eq_true rfl)
  rw [lg_entry_eq]
  generalize (lg_sl ([.ref h0, .int 61]) ++ List.replicate (2 - (lg_sl ([.ref h0, .int 61])).length) Slot.unset).toArray = ls at hl ⊢
  have hl : lv_has ls 2 [(0, .ref h0), (1, .int 61)] := hl
  refine lv_aload_n hx hb dX8_take_0 rfl (lv_at hl 0 rfl) ?_
  refine va_get (D := D) (ci := 7) (v := .int 1) (C := RX8) (T := TX8) (N := 4) hx hb hts i_X8 hown hK.1 hP 0 rfl rfl 3 (by decide) (ht _ kt_396) (fun _ h9 => h9) rfl dX8_take_1 ?_
  refine lv_if_ne (tgt := 22) hx hb dX8_take_4 (by decide) (fun _ => ?_) (fun c1 => absurd c1 (by decide))
  refine lv_iconst (v := 0) hx hb dX8_take_22 (by decide) ?_
  exact W.zret (v := 0) hx hb hr rfl (fun t ht2 hW => ⟨0, rfl, rfl, ht2⟩) (fun q h => by cases h) dX8_take_23
def w28 (cy : Nat → ClassId) (h0 h1 h2 : Nat) : va_W := [(h0, .inr (7, [.ref h1, .ref h2, .int 0, .int 1]))]
set_option maxHeartbeats 4000000 in
set_option maxRecDepth 100000 in
theorem c28_X8_take (l : Launch) (D : va_G) (cy : Nat → ClassId) (h0 h1 h2 : Nat) : Met l yX8_take (Cond.code yX8_take cX8_take 2 (some .boolean) :: GT) ({ frames := 0, cells := 0, slots := 0, locals := 0 }) (gP D cy (w28 cy h0 h1 h2) [.ref h0, .int 60]) (vp_Si (fun r => r = 0)) 0 0 (fun _ => False) := by
  refine Met.ofW (cc := cX8_take) (maxL := 2) (ret := some .boolean) (by decide) rfl ?_
  intro p e s m args below meth c s₁ B hml hv
  obtain ⟨rfl, hP, hK⟩ := hv
  have hx := B.exec
  have hb := B.bytes
  have hr := B.returns
  have hts := atoms_spec (ws := (Cond.code yX8_take cX8_take 2 (some .boolean) :: GT)) B.pre
  have ht : ∀ w ∈ GT, w.before _ s = true := fun w h => hts w (List.mem_cons_of_mem _ h)
  have hown : s.vm.findClass RX8 = some m.cls := findClass_of_methodNamed B.named
  have hlocks := B.notSynchronized
  have hP : va_P D classes ([(h0, .inr (7, [.ref h1, .ref h2, .int 0, .int 1]))]) s.heap := hP
  have hl := lv_entry ([.ref h0, .int 60]) (n := 2) (Nat.le_of_ble_eq_true rfl)
  rw [lg_entry_eq]
  generalize (lg_sl ([.ref h0, .int 60]) ++ List.replicate (2 - (lg_sl ([.ref h0, .int 60])).length) Slot.unset).toArray = ls at hl ⊢
  have hl : lv_has ls 2 [(0, .ref h0), (1, .int 60)] := hl
  refine lv_aload_n hx hb dX8_take_0 rfl (lv_at hl 0 rfl) ?_
  refine va_get (D := D) (ci := 7) (v := .int 1) (C := RX8) (T := TX8) (N := 4) hx hb hts i_X8 hown hK.1 hP 0 rfl rfl 3 (by decide) (ht _ kt_396) (fun _ h9 => h9) rfl dX8_take_1 ?_
  refine lv_if_ne (tgt := 22) hx hb dX8_take_4 (by decide) (fun _ => ?_) (fun c1 => absurd c1 (by decide))
  refine lv_iconst (v := 0) hx hb dX8_take_22 (by decide) ?_
  exact W.zret (v := 0) hx hb hr rfl (fun t ht2 hW => ⟨0, rfl, rfl, ht2⟩) (fun q h => by cases h) dX8_take_23
def w29 (cy : Nat → ClassId) (h0 h1 h2 : Nat) : va_W := [(h0, .inr (7, [.ref h1, .ref h2, .int 0, .int 1]))]
def vw29 (cy : Nat → ClassId) (h0 h1 h2 : Nat) (u : Nat → Nat) : va_W := [(h0, .inr (7, [.ref h1, .ref h2, .int 0, .int 1]))]
set_option maxHeartbeats 4000000 in
set_option maxRecDepth 100000 in
theorem c29_X8_expect (l : Launch) (D : va_G) (cy : Nat → ClassId) (h0 h1 h2 : Nat) (sz : Nat) : Met l yX8_expect (Cond.code yX8_expect cX8_expect 2 (none) :: GT) ({ frames := 0, cells := 0, slots := 0, locals := 0 }) (gN D cy (w29 cy h0 h1 h2) [.ref h0, .int 62] sz) (va_Qv (fun _ : Nat → Nat => True) (fun u t => va_P D classes (vw29 cy h0 h1 h2 u) t.heap ∧ va_D (va_A (w29 cy h0 h1 h2) sz) (vw29 cy h0 h1 h2 u)) (va_A (w29 cy h0 h1 h2) sz)) 0 0 (va_A (w29 cy h0 h1 h2) sz) := by
  refine Met.ofW (cc := cX8_expect) (maxL := 2) (ret := none) (by decide) rfl ?_
  intro p e s m args below meth c s₁ B hml hv
  obtain ⟨rfl, hsz, hP, hK, hD0⟩ := hv
  have hx := B.exec
  have hb := B.bytes
  have hr := B.returns
  have hts := atoms_spec (ws := (Cond.code yX8_expect cX8_expect 2 (none) :: GT)) B.pre
  have ht : ∀ w ∈ GT, w.before _ s = true := fun w h => hts w (List.mem_cons_of_mem _ h)
  have hown : s.vm.findClass RX8 = some m.cls := findClass_of_methodNamed B.named
  have hlocks := B.notSynchronized
  subst hsz
  have hD := hD0.self (sz := s.heap.size)
  generalize hAe : va_A (w29 cy h0 h1 h2) s.heap.size = A at hD ⊢
  have hA : ∀ q : Nat, s.heap.size ≤ q → A q := fun q h => by rw [← hAe]; exact Or.inr h
  have hS : va_S A s.heap s.heap [] := va_S.rf
  have hD : va_D A ([(h0, .inr (7, [.ref h1, .ref h2, .int 0, .int 1]))]) := hD
  have hP : va_P D classes ([(h0, .inr (7, [.ref h1, .ref h2, .int 0, .int 1]))]) s.heap := hP
  have hl := lv_entry ([.ref h0, .int 62]) (n := 2) (Nat.le_of_ble_eq_true rfl)
  rw [lg_entry_eq]
  generalize (lg_sl ([.ref h0, .int 62]) ++ List.replicate (2 - (lg_sl ([.ref h0, .int 62])).length) Slot.unset).toArray = ls at hl ⊢
  have hl : lv_has ls 2 [(0, .ref h0), (1, .int 62)] := hl
  refine lv_aload_n hx hb dX8_expect_0 rfl (lv_at hl 0 rfl) ?_
  refine va_get (D := D) (ci := 7) (v := .int 1) (C := RX8) (T := TX8) (N := 4) hx hb hts i_X8 hown hK.1 hP 0 rfl rfl 3 (by decide) (ht _ kt_396) (fun _ h9 => h9) rfl dX8_expect_1 ?_
  refine lv_if_ne (tgt := 22) hx hb dX8_expect_4 (by decide) (fun _ => ?_) (fun c1 => absurd c1 (by decide))
  refine lv_aload_n hx hb dX8_expect_22 rfl (lv_at hl 0 rfl) ?_
  refine lv_iconst (v := 1) hx hb dX8_expect_23 (by decide) ?_
  refine va_put (D := D) (ci := 7) (v := .int 1) (ty := .boolean) (C := RX8) (T := TX8) (N := 4) hx hb hts i_X8 tyX8 tyX8_ok nmX8 hown hK.1 hP hD hS 0 rfl rfl 3 (by decide) (ht _ kt_396) (fun _ h9 => h9) rfl (by decide +kernel) rfl rfl (Nat.le_of_ble_eq_true rfl) dX8_expect_24 (fun H locs hP hD hS => ?_)
  have hP : va_P D classes ([(h0, .inr (7, [.ref h1, .ref h2, .int 0, .int 1]))]) H := hP
  have hD : va_D A ([(h0, .inr (7, [.ref h1, .ref h2, .int 0, .int 1]))]) := hD
  refine W.widen (k := 0) (n := 0) (Nat.le_of_ble_eq_true rfl) (Nat.le_of_ble_eq_true rfl) ?_
  have hP9 := hP.sub (ws' := [(h0, .inr (7, [.ref h1, .ref h2, .int 0, .int 1]))]) [0] rfl
  have hD9 := hD.sub (ws' := [(h0, .inr (7, [.ref h1, .ref h2, .int 0, .int 1]))]) [0] (by decide +kernel) rfl
  exact W.vret hx hb hr (fun t ht2 hW => ⟨⟨(fun k => ([] : List Nat).getD k 0), rfl, trivial, by rw [ht2]; exact hP9, hD9⟩, hS.F ht2⟩) hS.2.2 dX8_expect_27
def w30 (cy : Nat → ClassId) (h0 h1 h2 : Nat) : va_W := [(h0, .inr (7, [.ref h1, .ref h2, .int 0, .int 1]))]
set_option maxHeartbeats 4000000 in
set_option maxRecDepth 100000 in
theorem c30_X8_take (l : Launch) (D : va_G) (cy : Nat → ClassId) (h0 h1 h2 : Nat) : Met l yX8_take (Cond.code yX8_take cX8_take 2 (some .boolean) :: GT) ({ frames := 0, cells := 0, slots := 0, locals := 0 }) (gP D cy (w30 cy h0 h1 h2) [.ref h0, .int 45]) (vp_Si (fun r => r = 0)) 0 0 (fun _ => False) := by
  refine Met.ofW (cc := cX8_take) (maxL := 2) (ret := some .boolean) (by decide) rfl ?_
  intro p e s m args below meth c s₁ B hml hv
  obtain ⟨rfl, hP, hK⟩ := hv
  have hx := B.exec
  have hb := B.bytes
  have hr := B.returns
  have hts := atoms_spec (ws := (Cond.code yX8_take cX8_take 2 (some .boolean) :: GT)) B.pre
  have ht : ∀ w ∈ GT, w.before _ s = true := fun w h => hts w (List.mem_cons_of_mem _ h)
  have hown : s.vm.findClass RX8 = some m.cls := findClass_of_methodNamed B.named
  have hlocks := B.notSynchronized
  have hP : va_P D classes ([(h0, .inr (7, [.ref h1, .ref h2, .int 0, .int 1]))]) s.heap := hP
  have hl := lv_entry ([.ref h0, .int 45]) (n := 2) (Nat.le_of_ble_eq_true rfl)
  rw [lg_entry_eq]
  generalize (lg_sl ([.ref h0, .int 45]) ++ List.replicate (2 - (lg_sl ([.ref h0, .int 45])).length) Slot.unset).toArray = ls at hl ⊢
  have hl : lv_has ls 2 [(0, .ref h0), (1, .int 45)] := hl
  refine lv_aload_n hx hb dX8_take_0 rfl (lv_at hl 0 rfl) ?_
  refine va_get (D := D) (ci := 7) (v := .int 1) (C := RX8) (T := TX8) (N := 4) hx hb hts i_X8 hown hK.1 hP 0 rfl rfl 3 (by decide) (ht _ kt_396) (fun _ h9 => h9) rfl dX8_take_1 ?_
  refine lv_if_ne (tgt := 22) hx hb dX8_take_4 (by decide) (fun _ => ?_) (fun c1 => absurd c1 (by decide))
  refine lv_iconst (v := 0) hx hb dX8_take_22 (by decide) ?_
  exact W.zret (v := 0) hx hb hr rfl (fun t ht2 hW => ⟨0, rfl, rfl, ht2⟩) (fun q h => by cases h) dX8_take_23
def w31 (cy : Nat → ClassId) (h0 h1 h2 h3 : Nat) : va_W := [(h0, .inr (7, [.ref h1, .ref h2, .int 0, .int 1])), (h2, .inr (6, [.ref h3, .int 0]))]
def vw31 (cy : Nat → ClassId) (h0 h1 h2 h3 : Nat) (u : Nat → Nat) : va_W := [(h0, .inr (7, [.ref h1, .ref h2, .int 0, .int 1])), (h2, .inr (6, [.ref h3, .int 0]))]
set_option maxHeartbeats 4000000 in
set_option maxRecDepth 100000 in
theorem c31_X8_readDigit (l : Launch) (D : va_G) (cy : Nat → ClassId) (h0 h1 h2 h3 : Nat) (sz : Nat) : Met l yX8_readDigit (Cond.code yX8_readDigit cX8_readDigit 4 (some .int) :: GT) ({ frames := 1, cells := 0, slots := 0, locals := 21 }) (gN D cy (w31 cy h0 h1 h2 h3) [.ref h0, .int 0, .int 9] sz) (va_Qi (fun (r : Int32) (_ : Nat → Nat) => r = 0) (fun u t => va_P D classes (vw31 cy h0 h1 h2 h3 u) t.heap ∧ va_D (va_A (w31 cy h0 h1 h2 h3) sz) (vw31 cy h0 h1 h2 h3 u)) (va_A (w31 cy h0 h1 h2 h3) sz)) 0 0 (va_A (w31 cy h0 h1 h2 h3) sz) := by
  refine Met.ofW (cc := cX8_readDigit) (maxL := 4) (ret := some .int) (by decide) rfl ?_
  intro p e s m args below meth c s₁ B hml hv
  obtain ⟨rfl, hsz, hP, hK, hD0⟩ := hv
  have hx := B.exec
  have hb := B.bytes
  have hr := B.returns
  have hts := atoms_spec (ws := (Cond.code yX8_readDigit cX8_readDigit 4 (some .int) :: GT)) B.pre
  have ht : ∀ w ∈ GT, w.before _ s = true := fun w h => hts w (List.mem_cons_of_mem _ h)
  have hown : s.vm.findClass RX8 = some m.cls := findClass_of_methodNamed B.named
  have hlocks := B.notSynchronized
  subst hsz
  have hD := hD0.self (sz := s.heap.size)
  generalize hAe : va_A (w31 cy h0 h1 h2 h3) s.heap.size = A at hD ⊢
  have hA : ∀ q : Nat, s.heap.size ≤ q → A q := fun q h => by rw [← hAe]; exact Or.inr h
  have hS : va_S A s.heap s.heap [] := va_S.rf
  have hD : va_D A ([(h0, .inr (7, [.ref h1, .ref h2, .int 0, .int 1])), (h2, .inr (6, [.ref h3, .int 0]))]) := hD
  have hP : va_P D classes ([(h0, .inr (7, [.ref h1, .ref h2, .int 0, .int 1])), (h2, .inr (6, [.ref h3, .int 0]))]) s.heap := hP
  have hl := lv_entry ([.ref h0, .int 0, .int 9]) (n := 4) (Nat.le_of_ble_eq_true rfl)
  rw [lg_entry_eq]
  generalize (lg_sl ([.ref h0, .int 0, .int 9]) ++ List.replicate (4 - (lg_sl ([.ref h0, .int 0, .int 9])).length) Slot.unset).toArray = ls at hl ⊢
  have hl : lv_has ls 4 [(0, .ref h0), (1, .int 0), (2, .int 9)] := hl
  refine lv_aload_n hx hb dX8_readDigit_0 rfl (lv_at hl 0 rfl) ?_
  refine va_get (D := D) (ci := 7) (v := .ref h2) (C := RX8) (T := TX8) (N := 4) hx hb hts i_X8 hown hK.1 hP 0 rfl rfl 1 (by decide) (ht _ kt_393) (fun _ h9 => h9) rfl dX8_readDigit_1 ?_
  refine lv_aload_n hx hb dX8_readDigit_4 rfl (lv_at hl 0 rfl) ?_
  refine va_get (D := D) (ci := 7) (v := .int 0) (C := RX8) (T := TX8) (N := 4) hx hb hts i_X8 hown hK.1 hP 0 rfl rfl 2 (by decide) (ht _ kt_394) (fun _ h9 => h9) rfl dX8_readDigit_5 ?_
  refine vp_callSi (va_Run.run (va_runV (As := [.int 0]) (rest := []) ⟨hx, hb, hml, hown, hts⟩ (c16_X7_signAt l D cy h2 h3) (cwV 1 hts (gt_V kt_421 kt_422 kt_423 kt_6 kt_424) rfl rfl rfl (by decide +kernel) ⟨Nat.le_of_ble_eq_true rfl, Nat.le_of_ble_eq_true rfl⟩) (gP_V hK (hP.sub (ws' := (w16 cy h2 h3)) [1] rfl) hP (ci := 6) (q0 := 1) rfl rfl) rfl rfl hl.1 rfl (lv_room (Nat.le_of_ble_eq_true rfl)) dX8_readDigit_8 ⟨Nat.le_of_ble_eq_true rfl, Nat.le_of_ble_eq_true rfl⟩)) (fun r1 hw2 => ?_)
  obtain rfl : r1 = (-1) := hw2
  refine lv_bipush (v := 48) hx hb dX8_readDigit_11 (by decide) ?_
  refine lv_isub hx hb dX8_readDigit_13 ?_
  refine lz_i (-49) (by decide) ?_
  refine lv_istore_n (lv' := [(3, .int (-49)), (0, .ref h0), (1, .int 0), (2, .int 9)]) hx hb dX8_readDigit_14 rfl hl (by decide) rfl (fun ls hl => ?_)
  refine lv_aload_n hx hb dX8_readDigit_15 rfl (lv_at hl 1 rfl) ?_
  refine va_get (D := D) (ci := 7) (v := .int 1) (C := RX8) (T := TX8) (N := 4) hx hb hts i_X8 hown hK.1 hP 0 rfl rfl 3 (by decide) (ht _ kt_396) (fun _ h9 => h9) rfl dX8_readDigit_16 ?_
  refine lv_if_ne (tgt := 32) hx hb dX8_readDigit_19 (by decide) (fun _ => ?_) (fun c3 => absurd c3 (by decide))
  refine lv_aload_n hx hb dX8_readDigit_32 rfl (lv_at hl 1 rfl) ?_
  refine lv_iconst (v := 1) hx hb dX8_readDigit_33 (by decide) ?_
  refine va_put (D := D) (ci := 7) (v := .int 1) (ty := .boolean) (C := RX8) (T := TX8) (N := 4) hx hb hts i_X8 tyX8 tyX8_ok nmX8 hown hK.1 hP hD hS 0 rfl rfl 3 (by decide) (ht _ kt_396) (fun _ h9 => h9) rfl (by decide +kernel) rfl rfl (Nat.le_of_ble_eq_true rfl) dX8_readDigit_34 (fun H locs hP hD hS => ?_)
  have hP : va_P D classes ([(h0, .inr (7, [.ref h1, .ref h2, .int 0, .int 1])), (h2, .inr (6, [.ref h3, .int 0]))]) H := hP
  have hD : va_D A ([(h0, .inr (7, [.ref h1, .ref h2, .int 0, .int 1])), (h2, .inr (6, [.ref h3, .int 0]))]) := hD
  refine lv_iconst (v := 0) hx hb dX8_readDigit_37 (by decide) ?_
  refine W.widen (k := 0) (n := 0) (Nat.le_of_ble_eq_true rfl) (Nat.le_of_ble_eq_true rfl) ?_
  have hP9 := hP.sub (ws' := [(h0, .inr (7, [.ref h1, .ref h2, .int 0, .int 1])), (h2, .inr (6, [.ref h3, .int 0]))]) [0, 1] rfl
  have hD9 := hD.sub (ws' := [(h0, .inr (7, [.ref h1, .ref h2, .int 0, .int 1])), (h2, .inr (6, [.ref h3, .int 0]))]) [0, 1] (by decide +kernel) rfl
  exact W.iret (v := 0) hx hb hr (fun t ht2 hW => ⟨⟨0, (fun k => ([] : List Nat).getD k 0), rfl, rfl, by rw [ht2]; exact hP9, hD9⟩, hS.F ht2⟩) hS.2.2 dX8_readDigit_38
def w32 (cy : Nat → ClassId) (h0 h1 h2 h3 : Nat) : va_W := [(h0, .inr (7, [.ref h1, .ref h2, .int 0, .int 1])), (h2, .inr (6, [.ref h3, .int 0]))]
def vw32 (cy : Nat → ClassId) (h0 h1 h2 h3 : Nat) (u : Nat → Nat) : va_W := [(h0, .inr (7, [.ref h1, .ref h2, .int 0, .int 1])), (h2, .inr (6, [.ref h3, .int 0]))]
set_option maxHeartbeats 4000000 in
set_option maxRecDepth 100000 in
theorem c32_X8_readNumber (l : Launch) (D : va_G) (cy : Nat → ClassId) (h0 h1 h2 h3 : Nat) (sz : Nat) : Met l yX8_readNumber (Cond.code yX8_readNumber cX8_readNumber 5 (some .int) :: GT) ({ frames := 2, cells := 0, slots := 0, locals := 44 }) (gN D cy (w32 cy h0 h1 h2 h3) [.ref h0, .int 0, .int 999] sz) (va_Qi (fun (r : Int32) (_ : Nat → Nat) => r = 0) (fun u t => va_P D classes (vw32 cy h0 h1 h2 h3 u) t.heap ∧ va_D (va_A (w32 cy h0 h1 h2 h3) sz) (vw32 cy h0 h1 h2 h3 u)) (va_A (w32 cy h0 h1 h2 h3) sz)) 0 0 (va_A (w32 cy h0 h1 h2 h3) sz) := by
  refine Met.ofW (cc := cX8_readNumber) (maxL := 5) (ret := some .int) (by decide) rfl ?_
  intro p e s m args below meth c s₁ B hml hv
  obtain ⟨rfl, hsz, hP, hK, hD0⟩ := hv
  have hx := B.exec
  have hb := B.bytes
  have hr := B.returns
  have hts := atoms_spec (ws := (Cond.code yX8_readNumber cX8_readNumber 5 (some .int) :: GT)) B.pre
  have ht : ∀ w ∈ GT, w.before _ s = true := fun w h => hts w (List.mem_cons_of_mem _ h)
  have hown : s.vm.findClass RX8 = some m.cls := findClass_of_methodNamed B.named
  have hlocks := B.notSynchronized
  subst hsz
  have hD := hD0.self (sz := s.heap.size)
  generalize hAe : va_A (w32 cy h0 h1 h2 h3) s.heap.size = A at hD ⊢
  have hA : ∀ q : Nat, s.heap.size ≤ q → A q := fun q h => by rw [← hAe]; exact Or.inr h
  have hS : va_S A s.heap s.heap [] := va_S.rf
  have hD : va_D A ([(h0, .inr (7, [.ref h1, .ref h2, .int 0, .int 1])), (h2, .inr (6, [.ref h3, .int 0]))]) := hD
  have hP : va_P D classes ([(h0, .inr (7, [.ref h1, .ref h2, .int 0, .int 1])), (h2, .inr (6, [.ref h3, .int 0]))]) s.heap := hP
  have hl := lv_entry ([.ref h0, .int 0, .int 999]) (n := 5) (Nat.le_of_ble_eq_true rfl)
  rw [lg_entry_eq]
  generalize (lg_sl ([.ref h0, .int 0, .int 999]) ++ List.replicate (5 - (lg_sl ([.ref h0, .int 0, .int 999])).length) Slot.unset).toArray = ls at hl ⊢
  have hl : lv_has ls 5 [(0, .ref h0), (1, .int 0), (2, .int 999)] := hl
  refine lv_aload_n hx hb dX8_readNumber_0 rfl (lv_at hl 0 rfl) ?_
  refine lv_iload_n hx hb dX8_readNumber_1 rfl (lv_at hl 1 rfl) ?_
  refine lv_iload_n hx hb dX8_readNumber_2 rfl (lv_at hl 2 rfl) ?_
  refine lv_bipush (v := 9) hx hb dX8_readNumber_3 (by decide) ?_
  refine va_mmin hx hb (hml.trans hl.1.symm) hown (ht _ kt_414) (ht _ kt_415) (ht _ kt_12) (ht _ kt_416) (Nat.le_of_ble_eq_true rfl) (Nat.le_of_ble_eq_true rfl) (Nat.le_of_ble_eq_true rfl) (Nat.le_of_ble_eq_true rfl) dX8_readNumber_5 ?_
  refine lz_i 9 (by decide) ?_
  have hPc := hP.sub (ws' := (w31 cy h0 h1 h2 h3)) [0, 1] rfl
  have hDc := hD.sub (ws' := (w31 cy h0 h1 h2 h3)) [0, 1] (by decide +kernel) rfl
  have hFc := va_free (wc := (w31 cy h0 h1 h2 h3)) hD hS hA [0, 1] rfl
  refine va_calli (va_runV (As := [.int 0, .int 9]) (rest := []) ⟨hx, hb, hml, hown, hts⟩ (c31_X8_readDigit l D cy h0 h1 h2 h3 s.heap.size) (cwV 2 hts (gt_V kt_417 kt_419 kp_3 kt_11 kt_420) rfl rfl rfl (by decide +kernel) ⟨Nat.le_of_ble_eq_true rfl, Nat.le_of_ble_eq_true rfl⟩) (gN_V hK hPc hDc hP (ci := 7) (q0 := 0) rfl rfl) rfl rfl hl.1 rfl (lv_room (Nat.le_of_ble_eq_true rfl)) dX8_readNumber_8 ⟨Nat.le_of_ble_eq_true rfl, Nat.le_of_ble_eq_true rfl⟩) hS (fun q _ h => hFc q h) hFc (fun r1 u3 t H1 locs ht2 hvm hw2 hB hz1 hk1 hS => ?_)
  obtain ⟨hP1, hD1⟩ := hB
  rw [ht2] at hP1
  obtain ⟨hP, hD⟩ := va_join (wr := ([] : va_W)) (w1 := (vw31 cy h0 h1 h2 h3 u3)) hP hD [0, 1] [] rfl rfl (by decide +kernel) (by decide +kernel) hk1 hFc hP1 hD1
  generalize H1 = H at hP hS ⊢
  have hP : va_P D classes ([(h0, .inr (7, [.ref h1, .ref h2, .int 0, .int 1])), (h2, .inr (6, [.ref h3, .int 0]))]) H := hP
  have hD : va_D A ([(h0, .inr (7, [.ref h1, .ref h2, .int 0, .int 1])), (h2, .inr (6, [.ref h3, .int 0]))]) := hD
  refine W.widen (k := 0) (n := 0) (Nat.le_of_ble_eq_true rfl) (Nat.le_of_ble_eq_true rfl) ?_
  obtain rfl : r1 = 0 := hw2
  refine lv_istore_n (lv' := [(3, .int 0), (0, .ref h0), (1, .int 0), (2, .int 999)]) hx hb dX8_readNumber_11 rfl hl (by decide) rfl (fun ls hl => ?_)
  refine lv_iconst (v := 0) hx hb dX8_readNumber_12 (by decide) ?_
  refine lv_istore (lv' := [(4, .int 0), (3, .int 0), (0, .ref h0), (1, .int 0), (2, .int 999)]) hx hb dX8_readNumber_13 hl (by decide) rfl (fun ls hl => ?_)
  refine lv_iload hx hb dX8_readNumber_15 (lv_at hl 0 rfl) ?_
  refine lv_iconst (v := 2) hx hb dX8_readNumber_17 (by decide) ?_
  refine lv_icmp_ge (tgt := 70) hx hb dX8_readNumber_18 (by decide) (fun c4 => absurd c4 (by decide)) (fun _ => ?_)
  refine lv_iload_n hx hb dX8_readNumber_21 rfl (lv_at hl 1 rfl) ?_
  refine lv_if_le (tgt := 70) hx hb dX8_readNumber_22 (by decide) (fun _ => ?_) (fun c5 => absurd c5 (by decide))
  refine lv_iload_n hx hb dX8_readNumber_70 rfl (lv_at hl 1 rfl) ?_
  refine W.widen (k := 0) (n := 0) (Nat.le_of_ble_eq_true rfl) (Nat.le_of_ble_eq_true rfl) ?_
  have hP9 := hP.sub (ws' := [(h0, .inr (7, [.ref h1, .ref h2, .int 0, .int 1])), (h2, .inr (6, [.ref h3, .int 0]))]) [0, 1] rfl
  have hD9 := hD.sub (ws' := [(h0, .inr (7, [.ref h1, .ref h2, .int 0, .int 1])), (h2, .inr (6, [.ref h3, .int 0]))]) [0, 1] (by decide +kernel) rfl
  exact W.iret (v := 0) hx hb hr (fun t ht2 hW => ⟨⟨0, (fun k => ([] : List Nat).getD k 0), rfl, rfl, by rw [ht2]; exact hP9, hD9⟩, hS.F ht2⟩) hS.2.2 dX8_readNumber_71
def w33 (cy : Nat → ClassId) (h0 h1 h2 h3 : Nat) : va_W := [(h0, .inr (7, [.ref h1, .ref h2, .int 0, .int 1])), (h2, .inr (6, [.ref h3, .int 0]))]
def vw33 (cy : Nat → ClassId) (h0 h1 h2 h3 : Nat) (u : Nat → Nat) : va_W := [(h0, .inr (7, [.ref h1, .ref h2, .int 0, .int 1])), (h2, .inr (6, [.ref h3, .int 0]))]
set_option maxHeartbeats 4000000 in
set_option maxRecDepth 100000 in
theorem c33_X8_readSigned (l : Launch) (D : va_G) (cy : Nat → ClassId) (h0 h1 h2 h3 : Nat) (sz : Nat) : Met l yX8_readSigned (Cond.code yX8_readSigned cX8_readSigned 1 (some .int) :: GT) ({ frames := 3, cells := 0, slots := 0, locals := 68 }) (gN D cy (w33 cy h0 h1 h2 h3) [.ref h0] sz) (va_Qi (fun (r : Int32) (_ : Nat → Nat) => r = 0) (fun u t => va_P D classes (vw33 cy h0 h1 h2 h3 u) t.heap ∧ va_D (va_A (w33 cy h0 h1 h2 h3) sz) (vw33 cy h0 h1 h2 h3 u)) (va_A (w33 cy h0 h1 h2 h3) sz)) 0 0 (va_A (w33 cy h0 h1 h2 h3) sz) := by
  refine Met.ofW (cc := cX8_readSigned) (maxL := 1) (ret := some .int) (by decide) rfl ?_
  intro p e s m args below meth c s₁ B hml hv
  obtain ⟨rfl, hsz, hP, hK, hD0⟩ := hv
  have hx := B.exec
  have hb := B.bytes
  have hr := B.returns
  have hts := atoms_spec (ws := (Cond.code yX8_readSigned cX8_readSigned 1 (some .int) :: GT)) B.pre
  have ht : ∀ w ∈ GT, w.before _ s = true := fun w h => hts w (List.mem_cons_of_mem _ h)
  have hown : s.vm.findClass RX8 = some m.cls := findClass_of_methodNamed B.named
  have hlocks := B.notSynchronized
  subst hsz
  have hD := hD0.self (sz := s.heap.size)
  generalize hAe : va_A (w33 cy h0 h1 h2 h3) s.heap.size = A at hD ⊢
  have hA : ∀ q : Nat, s.heap.size ≤ q → A q := fun q h => by rw [← hAe]; exact Or.inr h
  have hS : va_S A s.heap s.heap [] := va_S.rf
  have hD : va_D A ([(h0, .inr (7, [.ref h1, .ref h2, .int 0, .int 1])), (h2, .inr (6, [.ref h3, .int 0]))]) := hD
  have hP : va_P D classes ([(h0, .inr (7, [.ref h1, .ref h2, .int 0, .int 1])), (h2, .inr (6, [.ref h3, .int 0]))]) s.heap := hP
  have hl := lv_entry ([.ref h0]) (n := 1) (Nat.le_of_ble_eq_true rfl)
  rw [lg_entry_eq]
  generalize (lg_sl ([.ref h0]) ++ List.replicate (1 - (lg_sl ([.ref h0])).length) Slot.unset).toArray = ls at hl ⊢
  have hl : lv_has ls 1 [(0, .ref h0)] := hl
  refine lv_aload_n hx hb dX8_readSigned_0 rfl (lv_at hl 0 rfl) ?_
  refine lv_bipush (v := 45) hx hb dX8_readSigned_1 (by decide) ?_
  refine vp_callSi (va_Run.run (va_runV (As := [.int 45]) (rest := []) ⟨hx, hb, hml, hown, hts⟩ (c30_X8_take l D cy h0 h1 h2) (cwV 1 hts (gt_V kt_441 kt_443 kp_7 kt_11 kt_444) rfl rfl rfl (by decide +kernel) ⟨Nat.le_of_ble_eq_true rfl, Nat.le_of_ble_eq_true rfl⟩) (gP_V hK (hP.sub (ws' := (w30 cy h0 h1 h2)) [0] rfl) hP (ci := 7) (q0 := 0) rfl rfl) rfl rfl hl.1 rfl (lv_room (Nat.le_of_ble_eq_true rfl)) dX8_readSigned_3 ⟨Nat.le_of_ble_eq_true rfl, Nat.le_of_ble_eq_true rfl⟩)) (fun r1 hw2 => ?_)
  obtain rfl : r1 = 0 := hw2
  refine lv_if_eq (tgt := 21) hx hb dX8_readSigned_6 (by decide) (fun _ => ?_) (fun c3 => absurd c3 (by decide))
  refine lv_aload_n hx hb dX8_readSigned_21 rfl (lv_at hl 0 rfl) ?_
  refine lv_iconst (v := 0) hx hb dX8_readSigned_22 (by decide) ?_
  refine lv_sipush (v := 999) hx hb dX8_readSigned_23 (by decide) ?_
  have hPc := hP.sub (ws' := (w32 cy h0 h1 h2 h3)) [0, 1] rfl
  have hDc := hD.sub (ws' := (w32 cy h0 h1 h2 h3)) [0, 1] (by decide +kernel) rfl
  have hFc := va_free (wc := (w32 cy h0 h1 h2 h3)) hD hS hA [0, 1] rfl
  refine va_calli (va_runV (As := [.int 0, .int 999]) (rest := []) ⟨hx, hb, hml, hown, hts⟩ (c32_X8_readNumber l D cy h0 h1 h2 h3 s.heap.size) (cwV 2 hts (gt_V kt_410 kt_412 kp_2 kt_11 kt_413) rfl rfl rfl (by decide +kernel) ⟨Nat.le_of_ble_eq_true rfl, Nat.le_of_ble_eq_true rfl⟩) (gN_V hK hPc hDc hP (ci := 7) (q0 := 0) rfl rfl) rfl rfl hl.1 rfl (lv_room (Nat.le_of_ble_eq_true rfl)) dX8_readSigned_26 ⟨Nat.le_of_ble_eq_true rfl, Nat.le_of_ble_eq_true rfl⟩) hS (fun q _ h => hFc q h) hFc (fun r4 u6 t H1 locs ht2 hvm hw5 hB hz1 hk1 hS => ?_)
  obtain ⟨hP1, hD1⟩ := hB
  rw [ht2] at hP1
  obtain ⟨hP, hD⟩ := va_join (wr := ([] : va_W)) (w1 := (vw32 cy h0 h1 h2 h3 u6)) hP hD [0, 1] [] rfl rfl (by decide +kernel) (by decide +kernel) hk1 hFc hP1 hD1
  generalize H1 = H at hP hS ⊢
  have hP : va_P D classes ([(h0, .inr (7, [.ref h1, .ref h2, .int 0, .int 1])), (h2, .inr (6, [.ref h3, .int 0]))]) H := hP
  have hD : va_D A ([(h0, .inr (7, [.ref h1, .ref h2, .int 0, .int 1])), (h2, .inr (6, [.ref h3, .int 0]))]) := hD
  refine W.widen (k := 0) (n := 0) (Nat.le_of_ble_eq_true rfl) (Nat.le_of_ble_eq_true rfl) ?_
  obtain rfl : r4 = 0 := hw5
  refine W.widen (k := 0) (n := 0) (Nat.le_of_ble_eq_true rfl) (Nat.le_of_ble_eq_true rfl) ?_
  have hP9 := hP.sub (ws' := [(h0, .inr (7, [.ref h1, .ref h2, .int 0, .int 1])), (h2, .inr (6, [.ref h3, .int 0]))]) [0, 1] rfl
  have hD9 := hD.sub (ws' := [(h0, .inr (7, [.ref h1, .ref h2, .int 0, .int 1])), (h2, .inr (6, [.ref h3, .int 0]))]) [0, 1] (by decide +kernel) rfl
  exact W.iret (v := 0) hx hb hr (fun t ht2 hW => ⟨⟨0, (fun k => ([] : List Nat).getD k 0), rfl, rfl, by rw [ht2]; exact hP9, hD9⟩, hS.F ht2⟩) hS.2.2 dX8_readSigned_29
def w34 (cy : Nat → ClassId) (h0 h1 h2 h3 h4 : Nat) : va_W := [(h0, .inr (7, [.ref h2, .ref h3, .int 0, .int 1])), (h1, .inr (2, [.int 0, .int 0, .int 0, .int 0, .int 0, .int 0, .int 0, .int 0, .int 0, .int 0, .int 0, .int 0])), (h3, .inr (6, [.ref h4, .int 0]))]
def vw34 (cy : Nat → ClassId) (h0 h1 h2 h3 h4 : Nat) (u : Nat → Nat) : va_W := [(h0, .inr (7, [.ref h2, .ref h3, .int 0, .int 1])), (h1, .inr (2, [.int 0, .int 0, .int 0, .int 0, .int 0, .int 0, .int 0, .int 0, .int 0, .int 1, .int 0, .int 0])), (h3, .inr (6, [.ref h4, .int 0]))]
set_option maxHeartbeats 4000000 in
set_option maxRecDepth 100000 in
theorem c34_X8_readCondition (l : Launch) (D : va_G) (cy : Nat → ClassId) (h0 h1 h2 h3 h4 : Nat) (sz : Nat) : Met l yX8_readCondition (Cond.code yX8_readCondition cX8_readCondition 2 (none) :: GT) ({ frames := 4, cells := 0, slots := 0, locals := 88 }) (gN D cy (w34 cy h0 h1 h2 h3 h4) [.ref h0, .ref h1] sz) (va_Qv (fun _ : Nat → Nat => True) (fun u t => va_P D classes (vw34 cy h0 h1 h2 h3 h4 u) t.heap ∧ va_D (va_A (w34 cy h0 h1 h2 h3 h4) sz) (vw34 cy h0 h1 h2 h3 h4 u)) (va_A (w34 cy h0 h1 h2 h3 h4) sz)) 0 0 (va_A (w34 cy h0 h1 h2 h3 h4) sz) := by
  refine Met.ofW (cc := cX8_readCondition) (maxL := 2) (ret := none) (by decide) rfl ?_
  intro p e s m args below meth c s₁ B hml hv
  obtain ⟨rfl, hsz, hP, hK, hD0⟩ := hv
  have hx := B.exec
  have hb := B.bytes
  have hr := B.returns
  have hts := atoms_spec (ws := (Cond.code yX8_readCondition cX8_readCondition 2 (none) :: GT)) B.pre
  have ht : ∀ w ∈ GT, w.before _ s = true := fun w h => hts w (List.mem_cons_of_mem _ h)
  have hown : s.vm.findClass RX8 = some m.cls := findClass_of_methodNamed B.named
  have hlocks := B.notSynchronized
  subst hsz
  have hD := hD0.self (sz := s.heap.size)
  generalize hAe : va_A (w34 cy h0 h1 h2 h3 h4) s.heap.size = A at hD ⊢
  have hA : ∀ q : Nat, s.heap.size ≤ q → A q := fun q h => by rw [← hAe]; exact Or.inr h
  have hS : va_S A s.heap s.heap [] := va_S.rf
  have hD : va_D A ([(h0, .inr (7, [.ref h2, .ref h3, .int 0, .int 1])), (h1, .inr (2, [.int 0, .int 0, .int 0, .int 0, .int 0, .int 0, .int 0, .int 0, .int 0, .int 0, .int 0, .int 0])), (h3, .inr (6, [.ref h4, .int 0]))]) := hD
  have hP : va_P D classes ([(h0, .inr (7, [.ref h2, .ref h3, .int 0, .int 1])), (h1, .inr (2, [.int 0, .int 0, .int 0, .int 0, .int 0, .int 0, .int 0, .int 0, .int 0, .int 0, .int 0, .int 0])), (h3, .inr (6, [.ref h4, .int 0]))]) s.heap := hP
  have hl := lv_entry ([.ref h0, .ref h1]) (n := 2) (Nat.le_of_ble_eq_true rfl)
  rw [lg_entry_eq]
  generalize (lg_sl ([.ref h0, .ref h1]) ++ List.replicate (2 - (lg_sl ([.ref h0, .ref h1])).length) Slot.unset).toArray = ls at hl ⊢
  have hl : lv_has ls 2 [(0, .ref h0), (1, .ref h1)] := hl
  refine lv_aload_n hx hb dX8_readCondition_0 rfl (lv_at hl 0 rfl) ?_
  refine lv_bipush (v := 37) hx hb dX8_readCondition_1 (by decide) ?_
  refine vp_callSi (va_Run.run (va_runV (As := [.int 37]) (rest := []) ⟨hx, hb, hml, hown, hts⟩ (c24_X8_take l D cy h0 h2 h3) (cwV 1 hts (gt_V kt_441 kt_443 kp_7 kt_11 kt_444) rfl rfl rfl (by decide +kernel) ⟨Nat.le_of_ble_eq_true rfl, Nat.le_of_ble_eq_true rfl⟩) (gP_V hK (hP.sub (ws' := (w24 cy h0 h2 h3)) [0] rfl) hP (ci := 7) (q0 := 0) rfl rfl) rfl rfl hl.1 rfl (lv_room (Nat.le_of_ble_eq_true rfl)) dX8_readCondition_3 ⟨Nat.le_of_ble_eq_true rfl, Nat.le_of_ble_eq_true rfl⟩)) (fun r1 hw2 => ?_)
  obtain rfl : r1 = 0 := hw2
  refine lv_if_eq (tgt := 49) hx hb dX8_readCondition_6 (by decide) (fun _ => ?_) (fun c3 => absurd c3 (by decide))
  refine lv_aload_n hx hb dX8_readCondition_49 rfl (lv_at hl 0 rfl) ?_
  refine lv_bipush (v := 43) hx hb dX8_readCondition_50 (by decide) ?_
  refine vp_callSi (va_Run.run (va_runV (As := [.int 43]) (rest := []) ⟨hx, hb, hml, hown, hts⟩ (c25_X8_take l D cy h0 h2 h3) (cwV 1 hts (gt_V kt_441 kt_443 kp_7 kt_11 kt_444) rfl rfl rfl (by decide +kernel) ⟨Nat.le_of_ble_eq_true rfl, Nat.le_of_ble_eq_true rfl⟩) (gP_V hK (hP.sub (ws' := (w25 cy h0 h2 h3)) [0] rfl) hP (ci := 7) (q0 := 0) rfl rfl) rfl rfl hl.1 rfl (lv_room (Nat.le_of_ble_eq_true rfl)) dX8_readCondition_52 ⟨Nat.le_of_ble_eq_true rfl, Nat.le_of_ble_eq_true rfl⟩)) (fun r4 hw5 => ?_)
  obtain rfl : r4 = 0 := hw5
  refine lv_if_eq (tgt := 105) hx hb dX8_readCondition_55 (by decide) (fun _ => ?_) (fun c6 => absurd c6 (by decide))
  refine lv_aload_n hx hb dX8_readCondition_105 rfl (lv_at hl 0 rfl) ?_
  refine lv_bipush (v := 126) hx hb dX8_readCondition_106 (by decide) ?_
  refine vp_callSi (va_Run.run (va_runV (As := [.int 126]) (rest := []) ⟨hx, hb, hml, hown, hts⟩ (c26_X8_take l D cy h0 h2 h3) (cwV 1 hts (gt_V kt_441 kt_443 kp_7 kt_11 kt_444) rfl rfl rfl (by decide +kernel) ⟨Nat.le_of_ble_eq_true rfl, Nat.le_of_ble_eq_true rfl⟩) (gP_V hK (hP.sub (ws' := (w26 cy h0 h2 h3)) [0] rfl) hP (ci := 7) (q0 := 0) rfl rfl) rfl rfl hl.1 rfl (lv_room (Nat.le_of_ble_eq_true rfl)) dX8_readCondition_108 ⟨Nat.le_of_ble_eq_true rfl, Nat.le_of_ble_eq_true rfl⟩)) (fun r7 hw8 => ?_)
  obtain rfl : r7 = 0 := hw8
  refine lv_if_eq (tgt := 144) hx hb dX8_readCondition_111 (by decide) (fun _ => ?_) (fun c9 => absurd c9 (by decide))
  refine lv_aload_n hx hb dX8_readCondition_144 rfl (lv_at hl 0 rfl) ?_
  refine lv_bipush (v := 61) hx hb dX8_readCondition_145 (by decide) ?_
  refine vp_callSi (va_Run.run (va_runV (As := [.int 61]) (rest := []) ⟨hx, hb, hml, hown, hts⟩ (c27_X8_take l D cy h0 h2 h3) (cwV 1 hts (gt_V kt_441 kt_443 kp_7 kt_11 kt_444) rfl rfl rfl (by decide +kernel) ⟨Nat.le_of_ble_eq_true rfl, Nat.le_of_ble_eq_true rfl⟩) (gP_V hK (hP.sub (ws' := (w27 cy h0 h2 h3)) [0] rfl) hP (ci := 7) (q0 := 0) rfl rfl) rfl rfl hl.1 rfl (lv_room (Nat.le_of_ble_eq_true rfl)) dX8_readCondition_147 ⟨Nat.le_of_ble_eq_true rfl, Nat.le_of_ble_eq_true rfl⟩)) (fun r10 hw11 => ?_)
  obtain rfl : r10 = 0 := hw11
  refine lv_if_eq (tgt := 163) hx hb dX8_readCondition_150 (by decide) (fun _ => ?_) (fun c12 => absurd c12 (by decide))
  refine lv_aload_n hx hb dX8_readCondition_163 rfl (lv_at hl 0 rfl) ?_
  refine lv_bipush (v := 60) hx hb dX8_readCondition_164 (by decide) ?_
  refine vp_callSi (va_Run.run (va_runV (As := [.int 60]) (rest := []) ⟨hx, hb, hml, hown, hts⟩ (c28_X8_take l D cy h0 h2 h3) (cwV 1 hts (gt_V kt_441 kt_443 kp_7 kt_11 kt_444) rfl rfl rfl (by decide +kernel) ⟨Nat.le_of_ble_eq_true rfl, Nat.le_of_ble_eq_true rfl⟩) (gP_V hK (hP.sub (ws' := (w28 cy h0 h2 h3)) [0] rfl) hP (ci := 7) (q0 := 0) rfl rfl) rfl rfl hl.1 rfl (lv_room (Nat.le_of_ble_eq_true rfl)) dX8_readCondition_166 ⟨Nat.le_of_ble_eq_true rfl, Nat.le_of_ble_eq_true rfl⟩)) (fun r13 hw14 => ?_)
  obtain rfl : r13 = 0 := hw14
  refine lv_if_eq (tgt := 182) hx hb dX8_readCondition_169 (by decide) (fun _ => ?_) (fun c15 => absurd c15 (by decide))
  refine lv_aload_n hx hb dX8_readCondition_182 rfl (lv_at hl 0 rfl) ?_
  refine lv_bipush (v := 62) hx hb dX8_readCondition_183 (by decide) ?_
  have hPc := hP.sub (ws' := (w29 cy h0 h2 h3)) [0] rfl
  have hDc := hD.sub (ws' := (w29 cy h0 h2 h3)) [0] (by decide +kernel) rfl
  have hFc := va_free (wc := (w29 cy h0 h2 h3)) hD hS hA [0] rfl
  refine va_callv (va_runV (As := [.int 62]) (rest := []) ⟨hx, hb, hml, hown, hts⟩ (c29_X8_expect l D cy h0 h2 h3 s.heap.size) (cwV 1 hts (gt_V kt_428 kt_430 kp_4 kt_11 kt_431) rfl rfl rfl (by decide +kernel) ⟨Nat.le_of_ble_eq_true rfl, Nat.le_of_ble_eq_true rfl⟩) (gN_V hK hPc hDc hP (ci := 7) (q0 := 0) rfl rfl) rfl rfl hl.1 rfl (lv_room (Nat.le_of_ble_eq_true rfl)) dX8_readCondition_185 ⟨Nat.le_of_ble_eq_true rfl, Nat.le_of_ble_eq_true rfl⟩) hS (fun q _ h => hFc q h) hFc (fun u18 t H1 locs ht2 hvm hw17 hB hz1 hk1 hS => ?_)
  obtain ⟨hP1, hD1⟩ := hB
  rw [ht2] at hP1
  obtain ⟨hP, hD⟩ := va_join (wr := ([(h1, .inr (2, [.int 0, .int 0, .int 0, .int 0, .int 0, .int 0, .int 0, .int 0, .int 0, .int 0, .int 0, .int 0])), (h3, .inr (6, [.ref h4, .int 0]))] : va_W)) (w1 := (vw29 cy h0 h2 h3 u18)) hP hD [0] [1, 2] rfl rfl (by decide +kernel) (by decide +kernel) hk1 hFc hP1 hD1
  generalize H1 = H at hP hS ⊢
  have hP : va_P D classes ([(h1, .inr (2, [.int 0, .int 0, .int 0, .int 0, .int 0, .int 0, .int 0, .int 0, .int 0, .int 0, .int 0, .int 0])), (h3, .inr (6, [.ref h4, .int 0])), (h0, .inr (7, [.ref h2, .ref h3, .int 0, .int 1]))]) H := hP
  have hD : va_D A ([(h1, .inr (2, [.int 0, .int 0, .int 0, .int 0, .int 0, .int 0, .int 0, .int 0, .int 0, .int 0, .int 0, .int 0])), (h3, .inr (6, [.ref h4, .int 0])), (h0, .inr (7, [.ref h2, .ref h3, .int 0, .int 1]))]) := hD
  refine W.widen (k := 0) (n := 0) (Nat.le_of_ble_eq_true rfl) (Nat.le_of_ble_eq_true rfl) ?_
  refine lv_aload_n hx hb dX8_readCondition_188 rfl (lv_at hl 1 rfl) ?_
  refine lv_iconst (v := 0) hx hb dX8_readCondition_189 (by decide) ?_
  refine va_putN (D := D) (ci := 2) (v := .int 0) (ty := .int) (C := RX3) (T := TX3) (N := 12) hx hb hts i_X3 tyX3 tyX3_ok nmX3 hown hK.1 hP hD hS 0 rfl rfl 0 (by decide) (va_Nw.use rfl (hK.2.1 _ kt_88)) (fun _ h9 => h9) rfl (by decide +kernel) rfl rfl (Nat.le_of_ble_eq_true rfl) dX8_readCondition_190 (fun H locs hP hD hS => ?_)
  have hP : va_P D classes ([(h1, .inr (2, [.int 0, .int 0, .int 0, .int 0, .int 0, .int 0, .int 0, .int 0, .int 0, .int 0, .int 0, .int 0])), (h3, .inr (6, [.ref h4, .int 0])), (h0, .inr (7, [.ref h2, .ref h3, .int 0, .int 1]))]) H := hP
  have hD : va_D A ([(h1, .inr (2, [.int 0, .int 0, .int 0, .int 0, .int 0, .int 0, .int 0, .int 0, .int 0, .int 0, .int 0, .int 0])), (h3, .inr (6, [.ref h4, .int 0])), (h0, .inr (7, [.ref h2, .ref h3, .int 0, .int 1]))]) := hD
  refine lv_aload_n hx hb dX8_readCondition_193 rfl (lv_at hl 1 rfl) ?_
  refine lv_iconst (v := 1) hx hb dX8_readCondition_194 (by decide) ?_
  refine va_putN (D := D) (ci := 2) (v := .int 1) (ty := .int) (C := RX3) (T := TX3) (N := 12) hx hb hts i_X3 tyX3 tyX3_ok nmX3 hown hK.1 hP hD hS 0 rfl rfl 9 (by decide) (va_Nw.use rfl (hK.2.1 _ kt_117)) (fun _ h9 => h9) rfl (by decide +kernel) rfl rfl (Nat.le_of_ble_eq_true rfl) dX8_readCondition_195 (fun H locs hP hD hS => ?_)
  have hP : va_P D classes ([(h1, .inr (2, [.int 0, .int 0, .int 0, .int 0, .int 0, .int 0, .int 0, .int 0, .int 0, .int 1, .int 0, .int 0])), (h3, .inr (6, [.ref h4, .int 0])), (h0, .inr (7, [.ref h2, .ref h3, .int 0, .int 1]))]) H := hP
  have hD : va_D A ([(h1, .inr (2, [.int 0, .int 0, .int 0, .int 0, .int 0, .int 0, .int 0, .int 0, .int 0, .int 1, .int 0, .int 0])), (h3, .inr (6, [.ref h4, .int 0])), (h0, .inr (7, [.ref h2, .ref h3, .int 0, .int 1]))]) := hD
  refine lv_aload_n hx hb dX8_readCondition_198 rfl (lv_at hl 1 rfl) ?_
  refine lv_aload_n hx hb dX8_readCondition_199 rfl (lv_at hl 0 rfl) ?_
  have hPc := hP.sub (ws' := (w33 cy h0 h2 h3 h4)) [2, 1] rfl
  have hDc := hD.sub (ws' := (w33 cy h0 h2 h3 h4)) [2, 1] (by decide +kernel) rfl
  have hFc := va_free (wc := (w33 cy h0 h2 h3 h4)) hD hS hA [2, 1] rfl
  refine va_calli (va_runV (As := []) (rest := [.ref h1]) ⟨hx, hb, hml, hown, hts⟩ (c33_X8_readSigned l D cy h0 h2 h3 h4 H.size) (cwV 0 hts (gt_V kt_445 kt_447 kp_8 kt_11 kt_448) rfl rfl rfl (by decide +kernel) ⟨Nat.le_of_ble_eq_true rfl, Nat.le_of_ble_eq_true rfl⟩) (gN_V hK hPc hDc hP (ci := 7) (q0 := 2) rfl rfl) rfl rfl hl.1 rfl (lv_room (Nat.le_of_ble_eq_true rfl)) dX8_readCondition_200 ⟨Nat.le_of_ble_eq_true rfl, Nat.le_of_ble_eq_true rfl⟩) hS (fun q _ h => hFc q h) hFc (fun r19 u21 t H1 locs ht2 hvm hw20 hB hz1 hk1 hS => ?_)
  obtain ⟨hP1, hD1⟩ := hB
  rw [ht2] at hP1
  obtain ⟨hP, hD⟩ := va_join (wr := ([(h1, .inr (2, [.int 0, .int 0, .int 0, .int 0, .int 0, .int 0, .int 0, .int 0, .int 0, .int 1, .int 0, .int 0]))] : va_W)) (w1 := (vw33 cy h0 h2 h3 h4 u21)) hP hD [2, 1] [0] rfl rfl (by decide +kernel) (by decide +kernel) hk1 hFc hP1 hD1
  generalize H1 = H at hP hS ⊢
  have hP : va_P D classes ([(h1, .inr (2, [.int 0, .int 0, .int 0, .int 0, .int 0, .int 0, .int 0, .int 0, .int 0, .int 1, .int 0, .int 0])), (h0, .inr (7, [.ref h2, .ref h3, .int 0, .int 1])), (h3, .inr (6, [.ref h4, .int 0]))]) H := hP
  have hD : va_D A ([(h1, .inr (2, [.int 0, .int 0, .int 0, .int 0, .int 0, .int 0, .int 0, .int 0, .int 0, .int 1, .int 0, .int 0])), (h0, .inr (7, [.ref h2, .ref h3, .int 0, .int 1])), (h3, .inr (6, [.ref h4, .int 0]))]) := hD
  refine W.widen (k := 0) (n := 0) (Nat.le_of_ble_eq_true rfl) (Nat.le_of_ble_eq_true rfl) ?_
  obtain rfl : r19 = 0 := hw20
  refine va_putN (D := D) (ci := 2) (v := .int 0) (ty := .int) (C := RX3) (T := TX3) (N := 12) hx hb hts i_X3 tyX3 tyX3_ok nmX3 hown hK.1 hP hD hS 0 rfl rfl 10 (by decide) (va_Nw.use rfl (hK.2.1 _ kt_119)) (fun _ h9 => h9) rfl (by decide +kernel) rfl rfl (Nat.le_of_ble_eq_true rfl) dX8_readCondition_203 (fun H locs hP hD hS => ?_)
  have hP : va_P D classes ([(h1, .inr (2, [.int 0, .int 0, .int 0, .int 0, .int 0, .int 0, .int 0, .int 0, .int 0, .int 1, .int 0, .int 0])), (h0, .inr (7, [.ref h2, .ref h3, .int 0, .int 1])), (h3, .inr (6, [.ref h4, .int 0]))]) H := hP
  have hD : va_D A ([(h1, .inr (2, [.int 0, .int 0, .int 0, .int 0, .int 0, .int 0, .int 0, .int 0, .int 0, .int 1, .int 0, .int 0])), (h0, .inr (7, [.ref h2, .ref h3, .int 0, .int 1])), (h3, .inr (6, [.ref h4, .int 0]))]) := hD
  refine W.widen (k := 0) (n := 0) (Nat.le_of_ble_eq_true rfl) (Nat.le_of_ble_eq_true rfl) ?_
  have hP9 := hP.sub (ws' := [(h0, .inr (7, [.ref h2, .ref h3, .int 0, .int 1])), (h1, .inr (2, [.int 0, .int 0, .int 0, .int 0, .int 0, .int 0, .int 0, .int 0, .int 0, .int 1, .int 0, .int 0])), (h3, .inr (6, [.ref h4, .int 0]))]) [1, 0, 2] rfl
  have hD9 := hD.sub (ws' := [(h0, .inr (7, [.ref h2, .ref h3, .int 0, .int 1])), (h1, .inr (2, [.int 0, .int 0, .int 0, .int 0, .int 0, .int 0, .int 0, .int 0, .int 0, .int 1, .int 0, .int 0])), (h3, .inr (6, [.ref h4, .int 0]))]) [1, 0, 2] (by decide +kernel) rfl
  exact W.vret hx hb hr (fun t ht2 hW => ⟨⟨(fun k => ([] : List Nat).getD k 0), rfl, trivial, by rw [ht2]; exact hP9, hD9⟩, hS.F ht2⟩) hS.2.2 dX8_readCondition_206
def w35 (cy : Nat → ClassId) (h0 h1 h2 h3 h4 h5 h6 h7 h8 h9 h10 h11 : Nat) : va_W := [(h0, .inr (7, [.ref h2, .ref h3, .int 0, .int 0])), (h3, .inr (6, [.ref h4, .int 0])), (h1, .inr (2, [.int 0, .int 0, .int 0, .int 0, .int 0, .int 0, .int 0, .int 0, .int 0, .int 0, .int 0, .int 0])), (h2, .inr (4, [.ref h5, .int 0, .ref h6, .int 0, .ref h7, .ref h8, .ref h9, .ref h10, .ref h3, .ref h11, .int 0, .int 0, .int 0, .int 0, .int 0]))]
def vw35 (cy : Nat → ClassId) (h0 h1 h2 h3 h4 h5 h6 h7 h8 h9 h10 h11 : Nat) (u : Nat → Nat) : va_W := [(h0, .inr (7, [.ref h2, .ref h3, .int 0, .int 1])), (h3, .inr (6, [.ref h4, .int 0])), (h1, .inr (2, [.int 0, .int 0, .int 0, .int 0, .int 0, .int 0, .int 0, .int 0, .int 0, .int 1, .int 0, .int 0])), (h2, .inr (4, [.ref h5, .int 0, .ref h6, .int 0, .ref h7, .ref h8, .ref h9, .ref h10, .ref h3, .ref h11, .int 0, .int 0, .int 0, .int 0, .int 0]))]
set_option maxHeartbeats 4000000 in
set_option maxRecDepth 100000 in
theorem c35_X8_readOperator (l : Launch) (D : va_G) (cy : Nat → ClassId) (h0 h1 h2 h3 h4 h5 h6 h7 h8 h9 h10 h11 : Nat) (sz : Nat) : Met l yX8_readOperator (Cond.code yX8_readOperator cX8_readOperator 2 (some .boolean) :: GT) ({ frames := 5, cells := 0, slots := 0, locals := 109 }) (gN D cy (w35 cy h0 h1 h2 h3 h4 h5 h6 h7 h8 h9 h10 h11) [.ref h0, .ref h1] sz) (va_Qi (fun (r : Int32) (_ : Nat → Nat) => r = 0) (fun u t => va_P D classes (vw35 cy h0 h1 h2 h3 h4 h5 h6 h7 h8 h9 h10 h11 u) t.heap ∧ va_D (va_A (w35 cy h0 h1 h2 h3 h4 h5 h6 h7 h8 h9 h10 h11) sz) (vw35 cy h0 h1 h2 h3 h4 h5 h6 h7 h8 h9 h10 h11 u)) (va_A (w35 cy h0 h1 h2 h3 h4 h5 h6 h7 h8 h9 h10 h11) sz)) 0 0 (va_A (w35 cy h0 h1 h2 h3 h4 h5 h6 h7 h8 h9 h10 h11) sz) := by
  refine Met.ofW (cc := cX8_readOperator) (maxL := 2) (ret := some .boolean) (by decide) rfl ?_
  intro p e s m args below meth c s₁ B hml hv
  obtain ⟨rfl, hsz, hP, hK, hD0⟩ := hv
  have hx := B.exec
  have hb := B.bytes
  have hr := B.returns
  have hts := atoms_spec (ws := (Cond.code yX8_readOperator cX8_readOperator 2 (some .boolean) :: GT)) B.pre
  have ht : ∀ w ∈ GT, w.before _ s = true := fun w h => hts w (List.mem_cons_of_mem _ h)
  have hown : s.vm.findClass RX8 = some m.cls := findClass_of_methodNamed B.named
  have hlocks := B.notSynchronized
  subst hsz
  have hD := hD0.self (sz := s.heap.size)
  generalize hAe : va_A (w35 cy h0 h1 h2 h3 h4 h5 h6 h7 h8 h9 h10 h11) s.heap.size = A at hD ⊢
  have hA : ∀ q : Nat, s.heap.size ≤ q → A q := fun q h => by rw [← hAe]; exact Or.inr h
  have hS : va_S A s.heap s.heap [] := va_S.rf
  have hD : va_D A ([(h0, .inr (7, [.ref h2, .ref h3, .int 0, .int 0])), (h3, .inr (6, [.ref h4, .int 0])), (h1, .inr (2, [.int 0, .int 0, .int 0, .int 0, .int 0, .int 0, .int 0, .int 0, .int 0, .int 0, .int 0, .int 0])), (h2, .inr (4, [.ref h5, .int 0, .ref h6, .int 0, .ref h7, .ref h8, .ref h9, .ref h10, .ref h3, .ref h11, .int 0, .int 0, .int 0, .int 0, .int 0]))]) := hD
  have hP : va_P D classes ([(h0, .inr (7, [.ref h2, .ref h3, .int 0, .int 0])), (h3, .inr (6, [.ref h4, .int 0])), (h1, .inr (2, [.int 0, .int 0, .int 0, .int 0, .int 0, .int 0, .int 0, .int 0, .int 0, .int 0, .int 0, .int 0])), (h2, .inr (4, [.ref h5, .int 0, .ref h6, .int 0, .ref h7, .ref h8, .ref h9, .ref h10, .ref h3, .ref h11, .int 0, .int 0, .int 0, .int 0, .int 0]))]) s.heap := hP
  have hl := lv_entry ([.ref h0, .ref h1]) (n := 2) (Nat.le_of_ble_eq_true rfl)
  rw [lg_entry_eq]
  generalize (lg_sl ([.ref h0, .ref h1]) ++ List.replicate (2 - (lg_sl ([.ref h0, .ref h1])).length) Slot.unset).toArray = ls at hl ⊢
  have hl : lv_has ls 2 [(0, .ref h0), (1, .ref h1)] := hl
  refine lv_aload_n hx hb dX8_readOperator_0 rfl (lv_at hl 1 rfl) ?_
  refine lv_aload_n hx hb dX8_readOperator_1 rfl (lv_at hl 0 rfl) ?_
  refine lv_iconst (v := 1) hx hb dX8_readOperator_2 (by decide) ?_
  refine lv_bipush (v := 99) hx hb dX8_readOperator_3 (by decide) ?_
  have hPc := hP.sub (ws' := (w18 cy h0 h2 h3 h4)) [0, 1] rfl
  have hDc := hD.sub (ws' := (w18 cy h0 h2 h3 h4)) [0, 1] (by decide +kernel) rfl
  have hFc := va_free (wc := (w18 cy h0 h2 h3 h4)) hD hS hA [0, 1] rfl
  refine va_calli (va_runV (As := [.int 1, .int 99]) (rest := [.ref h1]) ⟨hx, hb, hml, hown, hts⟩ (c18_X8_readNumber l D cy h0 h2 h3 h4 s.heap.size) (cwV 2 hts (gt_V kt_410 kt_412 kp_2 kt_11 kt_413) rfl rfl rfl (by decide +kernel) ⟨Nat.le_of_ble_eq_true rfl, Nat.le_of_ble_eq_true rfl⟩) (gN_V hK hPc hDc hP (ci := 7) (q0 := 0) rfl rfl) rfl rfl hl.1 rfl (lv_room (Nat.le_of_ble_eq_true rfl)) dX8_readOperator_5 ⟨Nat.le_of_ble_eq_true rfl, Nat.le_of_ble_eq_true rfl⟩) hS (fun q _ h => hFc q h) hFc (fun r1 u3 t H1 locs ht2 hvm hw2 hB hz1 hk1 hS => ?_)
  obtain ⟨hP1, hD1⟩ := hB
  rw [ht2] at hP1
  obtain ⟨hP, hD⟩ := va_join (wr := ([(h1, .inr (2, [.int 0, .int 0, .int 0, .int 0, .int 0, .int 0, .int 0, .int 0, .int 0, .int 0, .int 0, .int 0])), (h2, .inr (4, [.ref h5, .int 0, .ref h6, .int 0, .ref h7, .ref h8, .ref h9, .ref h10, .ref h3, .ref h11, .int 0, .int 0, .int 0, .int 0, .int 0]))] : va_W)) (w1 := (vw18 cy h0 h2 h3 h4 u3)) hP hD [0, 1] [2, 3] rfl rfl (by decide +kernel) (by decide +kernel) hk1 hFc hP1 hD1
  generalize H1 = H at hP hS ⊢
  have hP : va_P D classes ([(h1, .inr (2, [.int 0, .int 0, .int 0, .int 0, .int 0, .int 0, .int 0, .int 0, .int 0, .int 0, .int 0, .int 0])), (h2, .inr (4, [.ref h5, .int 0, .ref h6, .int 0, .ref h7, .ref h8, .ref h9, .ref h10, .ref h3, .ref h11, .int 0, .int 0, .int 0, .int 0, .int 0])), (h0, .inr (7, [.ref h2, .ref h3, .int 0, .int 1])), (h3, .inr (6, [.ref h4, .int 0]))]) H := hP
  have hD : va_D A ([(h1, .inr (2, [.int 0, .int 0, .int 0, .int 0, .int 0, .int 0, .int 0, .int 0, .int 0, .int 0, .int 0, .int 0])), (h2, .inr (4, [.ref h5, .int 0, .ref h6, .int 0, .ref h7, .ref h8, .ref h9, .ref h10, .ref h3, .ref h11, .int 0, .int 0, .int 0, .int 0, .int 0])), (h0, .inr (7, [.ref h2, .ref h3, .int 0, .int 1])), (h3, .inr (6, [.ref h4, .int 0]))]) := hD
  refine W.widen (k := 0) (n := 0) (Nat.le_of_ble_eq_true rfl) (Nat.le_of_ble_eq_true rfl) ?_
  obtain rfl : r1 = 0 := hw2
  refine va_putN (D := D) (ci := 2) (v := .int 0) (ty := .int) (C := RX3) (T := TX3) (N := 12) hx hb hts i_X3 tyX3 tyX3_ok nmX3 hown hK.1 hP hD hS 0 rfl rfl 1 (by decide) (va_Nw.use rfl (hK.2.1 _ kt_92)) (fun _ h9 => h9) rfl (by decide +kernel) rfl rfl (Nat.le_of_ble_eq_true rfl) dX8_readOperator_8 (fun H locs hP hD hS => ?_)
  have hP : va_P D classes ([(h1, .inr (2, [.int 0, .int 0, .int 0, .int 0, .int 0, .int 0, .int 0, .int 0, .int 0, .int 0, .int 0, .int 0])), (h2, .inr (4, [.ref h5, .int 0, .ref h6, .int 0, .ref h7, .ref h8, .ref h9, .ref h10, .ref h3, .ref h11, .int 0, .int 0, .int 0, .int 0, .int 0])), (h0, .inr (7, [.ref h2, .ref h3, .int 0, .int 1])), (h3, .inr (6, [.ref h4, .int 0]))]) H := hP
  have hD : va_D A ([(h1, .inr (2, [.int 0, .int 0, .int 0, .int 0, .int 0, .int 0, .int 0, .int 0, .int 0, .int 0, .int 0, .int 0])), (h2, .inr (4, [.ref h5, .int 0, .ref h6, .int 0, .ref h7, .ref h8, .ref h9, .ref h10, .ref h3, .ref h11, .int 0, .int 0, .int 0, .int 0, .int 0])), (h0, .inr (7, [.ref h2, .ref h3, .int 0, .int 1])), (h3, .inr (6, [.ref h4, .int 0]))]) := hD
  refine lv_aload_n hx hb dX8_readOperator_11 rfl (lv_at hl 0 rfl) ?_
  refine lv_bipush (v := 58) hx hb dX8_readOperator_12 (by decide) ?_
  have hPc := hP.sub (ws' := (w19 cy h0 h2 h3)) [2] rfl
  have hDc := hD.sub (ws' := (w19 cy h0 h2 h3)) [2] (by decide +kernel) rfl
  have hFc := va_free (wc := (w19 cy h0 h2 h3)) hD hS hA [2] rfl
  refine va_callv (va_runV (As := [.int 58]) (rest := []) ⟨hx, hb, hml, hown, hts⟩ (c19_X8_expect l D cy h0 h2 h3 H.size) (cwV 1 hts (gt_V kt_428 kt_430 kp_4 kt_11 kt_431) rfl rfl rfl (by decide +kernel) ⟨Nat.le_of_ble_eq_true rfl, Nat.le_of_ble_eq_true rfl⟩) (gN_V hK hPc hDc hP (ci := 7) (q0 := 2) rfl rfl) rfl rfl hl.1 rfl (lv_room (Nat.le_of_ble_eq_true rfl)) dX8_readOperator_14 ⟨Nat.le_of_ble_eq_true rfl, Nat.le_of_ble_eq_true rfl⟩) hS (fun q _ h => hFc q h) hFc (fun u6 t H1 locs ht2 hvm hw5 hB hz1 hk1 hS => ?_)
  obtain ⟨hP1, hD1⟩ := hB
  rw [ht2] at hP1
  obtain ⟨hP, hD⟩ := va_join (wr := ([(h1, .inr (2, [.int 0, .int 0, .int 0, .int 0, .int 0, .int 0, .int 0, .int 0, .int 0, .int 0, .int 0, .int 0])), (h2, .inr (4, [.ref h5, .int 0, .ref h6, .int 0, .ref h7, .ref h8, .ref h9, .ref h10, .ref h3, .ref h11, .int 0, .int 0, .int 0, .int 0, .int 0])), (h3, .inr (6, [.ref h4, .int 0]))] : va_W)) (w1 := (vw19 cy h0 h2 h3 u6)) hP hD [2] [0, 1, 3] rfl rfl (by decide +kernel) (by decide +kernel) hk1 hFc hP1 hD1
  generalize H1 = H at hP hS ⊢
  have hP : va_P D classes ([(h1, .inr (2, [.int 0, .int 0, .int 0, .int 0, .int 0, .int 0, .int 0, .int 0, .int 0, .int 0, .int 0, .int 0])), (h2, .inr (4, [.ref h5, .int 0, .ref h6, .int 0, .ref h7, .ref h8, .ref h9, .ref h10, .ref h3, .ref h11, .int 0, .int 0, .int 0, .int 0, .int 0])), (h3, .inr (6, [.ref h4, .int 0])), (h0, .inr (7, [.ref h2, .ref h3, .int 0, .int 1]))]) H := hP
  have hD : va_D A ([(h1, .inr (2, [.int 0, .int 0, .int 0, .int 0, .int 0, .int 0, .int 0, .int 0, .int 0, .int 0, .int 0, .int 0])), (h2, .inr (4, [.ref h5, .int 0, .ref h6, .int 0, .ref h7, .ref h8, .ref h9, .ref h10, .ref h3, .ref h11, .int 0, .int 0, .int 0, .int 0, .int 0])), (h3, .inr (6, [.ref h4, .int 0])), (h0, .inr (7, [.ref h2, .ref h3, .int 0, .int 1]))]) := hD
  refine W.widen (k := 0) (n := 0) (Nat.le_of_ble_eq_true rfl) (Nat.le_of_ble_eq_true rfl) ?_
  refine lv_aload_n hx hb dX8_readOperator_17 rfl (lv_at hl 1 rfl) ?_
  refine lv_aload_n hx hb dX8_readOperator_18 rfl (lv_at hl 0 rfl) ?_
  refine lv_iconst (v := 0) hx hb dX8_readOperator_19 (by decide) ?_
  refine lv_aload_n hx hb dX8_readOperator_20 rfl (lv_at hl 0 rfl) ?_
  refine va_get (D := D) (ci := 7) (v := .ref h2) (C := RX8) (T := TX8) (N := 4) hx hb hts i_X8 hown hK.1 hP 3 rfl rfl 0 (by decide) (ht _ kt_392) (fun _ h9 => h9) rfl dX8_readOperator_21 ?_
  refine va_getN (D := D) (ci := 4) (v := .int 0) (C := RX5) (T := TX5) (N := 15) hx hb hts i_X5 hown hK.1 hP 1 rfl rfl 1 (by decide) (va_Nw.use rfl (hK.2.1 _ kt_200)) (fun _ h9 => h9) rfl dX8_readOperator_24 ?_
  refine lv_iconst (v := 1) hx hb dX8_readOperator_27 (by decide) ?_
  refine lv_isub hx hb dX8_readOperator_28 ?_
  refine lz_i (-1) (by decide) ?_
  have hPc := hP.sub (ws' := (w20 cy h0 h2 h3 h4)) [3, 2] rfl
  have hDc := hD.sub (ws' := (w20 cy h0 h2 h3 h4)) [3, 2] (by decide +kernel) rfl
  have hFc := va_free (wc := (w20 cy h0 h2 h3 h4)) hD hS hA [3, 2] rfl
  refine va_calli (va_runV (As := [.int 0, .int (-1)]) (rest := [.ref h1]) ⟨hx, hb, hml, hown, hts⟩ (c20_X8_readDigit l D cy h0 h2 h3 h4 H.size) (cwV 2 hts (gt_V kt_417 kt_419 kp_3 kt_11 kt_420) rfl rfl rfl (by decide +kernel) ⟨Nat.le_of_ble_eq_true rfl, Nat.le_of_ble_eq_true rfl⟩) (gN_V hK hPc hDc hP (ci := 7) (q0 := 3) rfl rfl) rfl rfl hl.1 rfl (lv_room (Nat.le_of_ble_eq_true rfl)) dX8_readOperator_29 ⟨Nat.le_of_ble_eq_true rfl, Nat.le_of_ble_eq_true rfl⟩) hS (fun q _ h => hFc q h) hFc (fun r7 u9 t H1 locs ht2 hvm hw8 hB hz1 hk1 hS => ?_)
  obtain ⟨hP1, hD1⟩ := hB
  rw [ht2] at hP1
  obtain ⟨hP, hD⟩ := va_join (wr := ([(h1, .inr (2, [.int 0, .int 0, .int 0, .int 0, .int 0, .int 0, .int 0, .int 0, .int 0, .int 0, .int 0, .int 0])), (h2, .inr (4, [.ref h5, .int 0, .ref h6, .int 0, .ref h7, .ref h8, .ref h9, .ref h10, .ref h3, .ref h11, .int 0, .int 0, .int 0, .int 0, .int 0]))] : va_W)) (w1 := (vw20 cy h0 h2 h3 h4 u9)) hP hD [3, 2] [0, 1] rfl rfl (by decide +kernel) (by decide +kernel) hk1 hFc hP1 hD1
  generalize H1 = H at hP hS ⊢
  have hP : va_P D classes ([(h1, .inr (2, [.int 0, .int 0, .int 0, .int 0, .int 0, .int 0, .int 0, .int 0, .int 0, .int 0, .int 0, .int 0])), (h2, .inr (4, [.ref h5, .int 0, .ref h6, .int 0, .ref h7, .ref h8, .ref h9, .ref h10, .ref h3, .ref h11, .int 0, .int 0, .int 0, .int 0, .int 0])), (h0, .inr (7, [.ref h2, .ref h3, .int 0, .int 1])), (h3, .inr (6, [.ref h4, .int 0]))]) H := hP
  have hD : va_D A ([(h1, .inr (2, [.int 0, .int 0, .int 0, .int 0, .int 0, .int 0, .int 0, .int 0, .int 0, .int 0, .int 0, .int 0])), (h2, .inr (4, [.ref h5, .int 0, .ref h6, .int 0, .ref h7, .ref h8, .ref h9, .ref h10, .ref h3, .ref h11, .int 0, .int 0, .int 0, .int 0, .int 0])), (h0, .inr (7, [.ref h2, .ref h3, .int 0, .int 1])), (h3, .inr (6, [.ref h4, .int 0]))]) := hD
  refine W.widen (k := 0) (n := 0) (Nat.le_of_ble_eq_true rfl) (Nat.le_of_ble_eq_true rfl) ?_
  obtain rfl : r7 = 0 := hw8
  refine va_putN (D := D) (ci := 2) (v := .int 0) (ty := .int) (C := RX3) (T := TX3) (N := 12) hx hb hts i_X3 tyX3 tyX3_ok nmX3 hown hK.1 hP hD hS 0 rfl rfl 5 (by decide) (va_Nw.use rfl (hK.2.1 _ kt_105)) (fun _ h9 => h9) rfl (by decide +kernel) rfl rfl (Nat.le_of_ble_eq_true rfl) dX8_readOperator_32 (fun H locs hP hD hS => ?_)
  have hP : va_P D classes ([(h1, .inr (2, [.int 0, .int 0, .int 0, .int 0, .int 0, .int 0, .int 0, .int 0, .int 0, .int 0, .int 0, .int 0])), (h2, .inr (4, [.ref h5, .int 0, .ref h6, .int 0, .ref h7, .ref h8, .ref h9, .ref h10, .ref h3, .ref h11, .int 0, .int 0, .int 0, .int 0, .int 0])), (h0, .inr (7, [.ref h2, .ref h3, .int 0, .int 1])), (h3, .inr (6, [.ref h4, .int 0]))]) H := hP
  have hD : va_D A ([(h1, .inr (2, [.int 0, .int 0, .int 0, .int 0, .int 0, .int 0, .int 0, .int 0, .int 0, .int 0, .int 0, .int 0])), (h2, .inr (4, [.ref h5, .int 0, .ref h6, .int 0, .ref h7, .ref h8, .ref h9, .ref h10, .ref h3, .ref h11, .int 0, .int 0, .int 0, .int 0, .int 0])), (h0, .inr (7, [.ref h2, .ref h3, .int 0, .int 1])), (h3, .inr (6, [.ref h4, .int 0]))]) := hD
  refine lv_aload_n hx hb dX8_readOperator_35 rfl (lv_at hl 1 rfl) ?_
  refine lv_aload_n hx hb dX8_readOperator_36 rfl (lv_at hl 0 rfl) ?_
  refine lv_aload_n hx hb dX8_readOperator_37 rfl (lv_at hl 1 rfl) ?_
  refine va_getN (D := D) (ci := 2) (v := .int 0) (C := RX3) (T := TX3) (N := 12) hx hb hts i_X3 hown hK.1 hP 0 rfl rfl 5 (by decide) (va_Nw.use rfl (hK.2.1 _ kt_105)) (fun _ h9 => h9) rfl dX8_readOperator_38 ?_
  have hPc := hP.sub (ws' := (w23 cy h0 h2 h3 h5 h6 h7 h8 h9 h10 h11 h4)) [2, 1, 3] rfl
  have hDc := hD.sub (ws' := (w23 cy h0 h2 h3 h5 h6 h7 h8 h9 h10 h11 h4)) [2, 1, 3] (by decide +kernel) rfl
  have hFc := va_free (wc := (w23 cy h0 h2 h3 h5 h6 h7 h8 h9 h10 h11 h4)) hD hS hA [2, 1, 3] rfl
  refine va_calli (va_runV (As := [.int 0]) (rest := [.ref h1]) ⟨hx, hb, hml, hown, hts⟩ (c23_X8_readValueOf l D cy h0 h2 h3 h5 h6 h7 h8 h9 h10 h11 h4 H.size) (cwV 1 hts (gt_V kt_432 kt_434 kp_5 kt_11 kt_435) rfl rfl rfl (by decide +kernel) ⟨Nat.le_of_ble_eq_true rfl, Nat.le_of_ble_eq_true rfl⟩) (gN_V hK hPc hDc hP (ci := 7) (q0 := 2) rfl rfl) rfl rfl hl.1 rfl (lv_room (Nat.le_of_ble_eq_true rfl)) dX8_readOperator_41 ⟨Nat.le_of_ble_eq_true rfl, Nat.le_of_ble_eq_true rfl⟩) hS (fun q _ h => hFc q h) hFc (fun r10 u12 t H1 locs ht2 hvm hw11 hB hz1 hk1 hS => ?_)
  obtain ⟨hP1, hD1⟩ := hB
  rw [ht2] at hP1
  obtain ⟨hP, hD⟩ := va_join (wr := ([(h1, .inr (2, [.int 0, .int 0, .int 0, .int 0, .int 0, .int 0, .int 0, .int 0, .int 0, .int 0, .int 0, .int 0]))] : va_W)) (w1 := (vw23 cy h0 h2 h3 h5 h6 h7 h8 h9 h10 h11 h4 u12)) hP hD [2, 1, 3] [0] rfl rfl (by decide +kernel) (by decide +kernel) hk1 hFc hP1 hD1
  generalize H1 = H at hP hS ⊢
  have hP : va_P D classes ([(h1, .inr (2, [.int 0, .int 0, .int 0, .int 0, .int 0, .int 0, .int 0, .int 0, .int 0, .int 0, .int 0, .int 0])), (h0, .inr (7, [.ref h2, .ref h3, .int 0, .int 1])), (h2, .inr (4, [.ref h5, .int 0, .ref h6, .int 0, .ref h7, .ref h8, .ref h9, .ref h10, .ref h3, .ref h11, .int 0, .int 0, .int 0, .int 0, .int 0])), (h3, .inr (6, [.ref h4, .int 0]))]) H := hP
  have hD : va_D A ([(h1, .inr (2, [.int 0, .int 0, .int 0, .int 0, .int 0, .int 0, .int 0, .int 0, .int 0, .int 0, .int 0, .int 0])), (h0, .inr (7, [.ref h2, .ref h3, .int 0, .int 1])), (h2, .inr (4, [.ref h5, .int 0, .ref h6, .int 0, .ref h7, .ref h8, .ref h9, .ref h10, .ref h3, .ref h11, .int 0, .int 0, .int 0, .int 0, .int 0])), (h3, .inr (6, [.ref h4, .int 0]))]) := hD
  refine W.widen (k := 0) (n := 0) (Nat.le_of_ble_eq_true rfl) (Nat.le_of_ble_eq_true rfl) ?_
  obtain rfl : r10 = 0 := hw11
  refine va_putN (D := D) (ci := 2) (v := .int 0) (ty := .int) (C := RX3) (T := TX3) (N := 12) hx hb hts i_X3 tyX3 tyX3_ok nmX3 hown hK.1 hP hD hS 0 rfl rfl 6 (by decide) (va_Nw.use rfl (hK.2.1 _ kt_108)) (fun _ h9 => h9) rfl (by decide +kernel) rfl rfl (Nat.le_of_ble_eq_true rfl) dX8_readOperator_44 (fun H locs hP hD hS => ?_)
  have hP : va_P D classes ([(h1, .inr (2, [.int 0, .int 0, .int 0, .int 0, .int 0, .int 0, .int 0, .int 0, .int 0, .int 0, .int 0, .int 0])), (h0, .inr (7, [.ref h2, .ref h3, .int 0, .int 1])), (h2, .inr (4, [.ref h5, .int 0, .ref h6, .int 0, .ref h7, .ref h8, .ref h9, .ref h10, .ref h3, .ref h11, .int 0, .int 0, .int 0, .int 0, .int 0])), (h3, .inr (6, [.ref h4, .int 0]))]) H := hP
  have hD : va_D A ([(h1, .inr (2, [.int 0, .int 0, .int 0, .int 0, .int 0, .int 0, .int 0, .int 0, .int 0, .int 0, .int 0, .int 0])), (h0, .inr (7, [.ref h2, .ref h3, .int 0, .int 1])), (h2, .inr (4, [.ref h5, .int 0, .ref h6, .int 0, .ref h7, .ref h8, .ref h9, .ref h10, .ref h3, .ref h11, .int 0, .int 0, .int 0, .int 0, .int 0])), (h3, .inr (6, [.ref h4, .int 0]))]) := hD
  refine lv_aload_n hx hb dX8_readOperator_47 rfl (lv_at hl 1 rfl) ?_
  refine lv_aload_n hx hb dX8_readOperator_48 rfl (lv_at hl 1 rfl) ?_
  refine va_getN (D := D) (ci := 2) (v := .int 0) (C := RX3) (T := TX3) (N := 12) hx hb hts i_X3 hown hK.1 hP 0 rfl rfl 5 (by decide) (va_Nw.use rfl (hK.2.1 _ kt_105)) (fun _ h9 => h9) rfl dX8_readOperator_49 ?_
  refine va_putN (D := D) (ci := 2) (v := .int 0) (ty := .int) (C := RX3) (T := TX3) (N := 12) hx hb hts i_X3 tyX3 tyX3_ok nmX3 hown hK.1 hP hD hS 0 rfl rfl 7 (by decide) (va_Nw.use rfl (hK.2.1 _ kt_111)) (fun _ h9 => h9) rfl (by decide +kernel) rfl rfl (Nat.le_of_ble_eq_true rfl) dX8_readOperator_52 (fun H locs hP hD hS => ?_)
  have hP : va_P D classes ([(h1, .inr (2, [.int 0, .int 0, .int 0, .int 0, .int 0, .int 0, .int 0, .int 0, .int 0, .int 0, .int 0, .int 0])), (h0, .inr (7, [.ref h2, .ref h3, .int 0, .int 1])), (h2, .inr (4, [.ref h5, .int 0, .ref h6, .int 0, .ref h7, .ref h8, .ref h9, .ref h10, .ref h3, .ref h11, .int 0, .int 0, .int 0, .int 0, .int 0])), (h3, .inr (6, [.ref h4, .int 0]))]) H := hP
  have hD : va_D A ([(h1, .inr (2, [.int 0, .int 0, .int 0, .int 0, .int 0, .int 0, .int 0, .int 0, .int 0, .int 0, .int 0, .int 0])), (h0, .inr (7, [.ref h2, .ref h3, .int 0, .int 1])), (h2, .inr (4, [.ref h5, .int 0, .ref h6, .int 0, .ref h7, .ref h8, .ref h9, .ref h10, .ref h3, .ref h11, .int 0, .int 0, .int 0, .int 0, .int 0])), (h3, .inr (6, [.ref h4, .int 0]))]) := hD
  refine lv_aload_n hx hb dX8_readOperator_55 rfl (lv_at hl 1 rfl) ?_
  refine lv_aload_n hx hb dX8_readOperator_56 rfl (lv_at hl 1 rfl) ?_
  refine va_getN (D := D) (ci := 2) (v := .int 0) (C := RX3) (T := TX3) (N := 12) hx hb hts i_X3 hown hK.1 hP 0 rfl rfl 6 (by decide) (va_Nw.use rfl (hK.2.1 _ kt_108)) (fun _ h9 => h9) rfl dX8_readOperator_57 ?_
  refine va_putN (D := D) (ci := 2) (v := .int 0) (ty := .int) (C := RX3) (T := TX3) (N := 12) hx hb hts i_X3 tyX3 tyX3_ok nmX3 hown hK.1 hP hD hS 0 rfl rfl 8 (by decide) (va_Nw.use rfl (hK.2.1 _ kt_114)) (fun _ h9 => h9) rfl (by decide +kernel) rfl rfl (Nat.le_of_ble_eq_true rfl) dX8_readOperator_60 (fun H locs hP hD hS => ?_)
  have hP : va_P D classes ([(h1, .inr (2, [.int 0, .int 0, .int 0, .int 0, .int 0, .int 0, .int 0, .int 0, .int 0, .int 0, .int 0, .int 0])), (h0, .inr (7, [.ref h2, .ref h3, .int 0, .int 1])), (h2, .inr (4, [.ref h5, .int 0, .ref h6, .int 0, .ref h7, .ref h8, .ref h9, .ref h10, .ref h3, .ref h11, .int 0, .int 0, .int 0, .int 0, .int 0])), (h3, .inr (6, [.ref h4, .int 0]))]) H := hP
  have hD : va_D A ([(h1, .inr (2, [.int 0, .int 0, .int 0, .int 0, .int 0, .int 0, .int 0, .int 0, .int 0, .int 0, .int 0, .int 0])), (h0, .inr (7, [.ref h2, .ref h3, .int 0, .int 1])), (h2, .inr (4, [.ref h5, .int 0, .ref h6, .int 0, .ref h7, .ref h8, .ref h9, .ref h10, .ref h3, .ref h11, .int 0, .int 0, .int 0, .int 0, .int 0])), (h3, .inr (6, [.ref h4, .int 0]))]) := hD
  refine lv_aload_n hx hb dX8_readOperator_63 rfl (lv_at hl 0 rfl) ?_
  refine lv_aload_n hx hb dX8_readOperator_64 rfl (lv_at hl 1 rfl) ?_
  have hPc := hP.sub (ws' := (w34 cy h0 h1 h2 h3 h4)) [1, 0, 3] rfl
  have hDc := hD.sub (ws' := (w34 cy h0 h1 h2 h3 h4)) [1, 0, 3] (by decide +kernel) rfl
  have hFc := va_free (wc := (w34 cy h0 h1 h2 h3 h4)) hD hS hA [1, 0, 3] rfl
  refine va_callv (va_runV (As := [.ref h1]) (rest := []) ⟨hx, hb, hml, hown, hts⟩ (c34_X8_readCondition l D cy h0 h1 h2 h3 h4 H.size) (cwV 1 hts (gt_V kt_437 kt_439 kp_6 kt_11 kt_440) rfl rfl rfl (by decide +kernel) ⟨Nat.le_of_ble_eq_true rfl, Nat.le_of_ble_eq_true rfl⟩) (gN_V hK hPc hDc hP (ci := 7) (q0 := 1) rfl rfl) rfl rfl hl.1 rfl (lv_room (Nat.le_of_ble_eq_true rfl)) dX8_readOperator_65 ⟨Nat.le_of_ble_eq_true rfl, Nat.le_of_ble_eq_true rfl⟩) hS (fun q _ h => hFc q h) hFc (fun u15 t H1 locs ht2 hvm hw14 hB hz1 hk1 hS => ?_)
  obtain ⟨hP1, hD1⟩ := hB
  rw [ht2] at hP1
  obtain ⟨hP, hD⟩ := va_join (wr := ([(h2, .inr (4, [.ref h5, .int 0, .ref h6, .int 0, .ref h7, .ref h8, .ref h9, .ref h10, .ref h3, .ref h11, .int 0, .int 0, .int 0, .int 0, .int 0]))] : va_W)) (w1 := (vw34 cy h0 h1 h2 h3 h4 u15)) hP hD [1, 0, 3] [2] rfl rfl (by decide +kernel) (by decide +kernel) hk1 hFc hP1 hD1
  generalize H1 = H at hP hS ⊢
  have hP : va_P D classes ([(h2, .inr (4, [.ref h5, .int 0, .ref h6, .int 0, .ref h7, .ref h8, .ref h9, .ref h10, .ref h3, .ref h11, .int 0, .int 0, .int 0, .int 0, .int 0])), (h0, .inr (7, [.ref h2, .ref h3, .int 0, .int 1])), (h1, .inr (2, [.int 0, .int 0, .int 0, .int 0, .int 0, .int 0, .int 0, .int 0, .int 0, .int 1, .int 0, .int 0])), (h3, .inr (6, [.ref h4, .int 0]))]) H := hP
  have hD : va_D A ([(h2, .inr (4, [.ref h5, .int 0, .ref h6, .int 0, .ref h7, .ref h8, .ref h9, .ref h10, .ref h3, .ref h11, .int 0, .int 0, .int 0, .int 0, .int 0])), (h0, .inr (7, [.ref h2, .ref h3, .int 0, .int 1])), (h1, .inr (2, [.int 0, .int 0, .int 0, .int 0, .int 0, .int 0, .int 0, .int 0, .int 0, .int 1, .int 0, .int 0])), (h3, .inr (6, [.ref h4, .int 0]))]) := hD
  refine W.widen (k := 0) (n := 0) (Nat.le_of_ble_eq_true rfl) (Nat.le_of_ble_eq_true rfl) ?_
  refine lv_aload_n hx hb dX8_readOperator_68 rfl (lv_at hl 0 rfl) ?_
  refine va_get (D := D) (ci := 7) (v := .int 0) (C := RX8) (T := TX8) (N := 4) hx hb hts i_X8 hown hK.1 hP 1 rfl rfl 2 (by decide) (ht _ kt_394) (fun _ h9 => h9) rfl dX8_readOperator_69 ?_
  refine lv_aload_n hx hb dX8_readOperator_72 rfl (lv_at hl 0 rfl) ?_
  refine va_get (D := D) (ci := 7) (v := .ref h3) (C := RX8) (T := TX8) (N := 4) hx hb hts i_X8 hown hK.1 hP 1 rfl rfl 1 (by decide) (ht _ kt_393) (fun _ h9 => h9) rfl dX8_readOperator_73 ?_
  refine va_getN (D := D) (ci := 6) (v := .int 0) (C := RX7) (T := TX7) (N := 2) hx hb hts i_X7 hown hK.1 hP 3 rfl rfl 1 (by decide) (va_Nw.use rfl (hK.2.1 _ kt_175)) (fun _ h9 => h9) rfl dX8_readOperator_76 ?_
  refine lv_icmp_ge (tgt := 87) hx hb dX8_readOperator_79 (by decide) (fun _ => ?_) (fun c16 => absurd c16 (by decide))
  refine lv_aload_n hx hb dX8_readOperator_87 rfl (lv_at hl 0 rfl) ?_
  refine va_get (D := D) (ci := 7) (v := .int 1) (C := RX8) (T := TX8) (N := 4) hx hb hts i_X8 hown hK.1 hP 1 rfl rfl 3 (by decide) (ht _ kt_396) (fun _ h9 => h9) rfl dX8_readOperator_88 ?_
  refine lv_if_ne (tgt := 98) hx hb dX8_readOperator_91 (by decide) (fun _ => ?_) (fun c17 => absurd c17 (by decide))
  refine lv_iconst (v := 0) hx hb dX8_readOperator_98 (by decide) ?_
  refine W.widen (k := 0) (n := 0) (Nat.le_of_ble_eq_true rfl) (Nat.le_of_ble_eq_true rfl) ?_
  have hP9 := hP.sub (ws' := [(h0, .inr (7, [.ref h2, .ref h3, .int 0, .int 1])), (h3, .inr (6, [.ref h4, .int 0])), (h1, .inr (2, [.int 0, .int 0, .int 0, .int 0, .int 0, .int 0, .int 0, .int 0, .int 0, .int 1, .int 0, .int 0])), (h2, .inr (4, [.ref h5, .int 0, .ref h6, .int 0, .ref h7, .ref h8, .ref h9, .ref h10, .ref h3, .ref h11, .int 0, .int 0, .int 0, .int 0, .int 0]))]) [1, 3, 2, 0] rfl
  have hD9 := hD.sub (ws' := [(h0, .inr (7, [.ref h2, .ref h3, .int 0, .int 1])), (h3, .inr (6, [.ref h4, .int 0])), (h1, .inr (2, [.int 0, .int 0, .int 0, .int 0, .int 0, .int 0, .int 0, .int 0, .int 0, .int 1, .int 0, .int 0])), (h2, .inr (4, [.ref h5, .int 0, .ref h6, .int 0, .ref h7, .ref h8, .ref h9, .ref h10, .ref h3, .ref h11, .int 0, .int 0, .int 0, .int 0, .int 0]))]) [1, 3, 2, 0] (by decide +kernel) rfl
  exact W.zret (v := 0) hx hb hr rfl (fun t ht2 hW => ⟨⟨0, (fun k => ([] : List Nat).getD k 0), rfl, rfl, by rw [ht2]; exact hP9, hD9⟩, hS.F ht2⟩) hS.2.2 dX8_readOperator_99
