def w84 (cy : Nat → ClassId) (h0 h1 h2 h3 h4 h5 h6 h7 h8 h9 : Nat) (i0 : Int32) : va_W := [(h0, .inr (9, [.ref h1, .ref h2, .ref h3, .null, .int 0, .ref h4, .int 0, .int 0, .int 0, .ref h5, .ref h6, .ref h7, .int 0, .int 0, .int 0, .ref h8, .ref h9])), (h1, .inl (cy 0, 559, .inl (fun _ => 0)))]
set_option maxHeartbeats 4000000 in
set_option maxRecDepth 100000 in
theorem c84_X10_isSource (l : Launch) (D : va_G) (cy : Nat → ClassId) (h0 h1 h2 h3 h4 h5 h6 h7 h8 h9 : Nat) (i0 : Int32) : Met l yX10_isSource (Cond.code yX10_isSource cX10_isSource 2 (some .boolean) :: GT) ({ frames := 1, cells := 0, slots := 0, locals := 22 }) (gP D cy (w84 cy h0 h1 h2 h3 h4 h5 h6 h7 h8 h9 i0) [.ref h0, .int i0]) (vp_Si (fun r => r = 0)) 0 0 (fun _ => False) := by
  refine Met.ofW (cc := cX10_isSource) (maxL := 2) (ret := some .boolean) (by decide) rfl ?_
  intro p e s m args below meth c s₁ B hml hv
  obtain ⟨rfl, hP, hK⟩ := hv
  have hx := B.exec
  have hb := B.bytes
  have hr := B.returns
  have hts := atoms_spec (ws := (Cond.code yX10_isSource cX10_isSource 2 (some .boolean) :: GT)) B.pre
  have ht : ∀ w ∈ GT, w.before _ s = true := fun w h => hts w (List.mem_cons_of_mem _ h)
  have hown : s.vm.findClass RX10 = some m.cls := findClass_of_methodNamed B.named
  have hlocks := B.notSynchronized
  have hP : va_P D classes ([(h0, .inr (9, [.ref h1, .ref h2, .ref h3, .null, .int 0, .ref h4, .int 0, .int 0, .int 0, .ref h5, .ref h6, .ref h7, .int 0, .int 0, .int 0, .ref h8, .ref h9])), (h1, .inl (cy 0, 559, .inl (fun _ => 0)))]) s.heap := hP
  have hl := lv_entry ([.ref h0, .int i0]) (n := 2) (Nat.le_of_ble_eq_true rfl)
  rw [lg_entry_eq]
  generalize (lg_sl ([.ref h0, .int i0]) ++ List.replicate (2 - (lg_sl ([.ref h0, .int i0])).length) Slot.unset).toArray = ls at hl ⊢
  have hl : lv_has ls 2 [(0, .ref h0), (1, .int i0)] := hl
  refine lv_iload_n hx hb dX10_isSource_0 rfl (lv_at hl 1 rfl) ?_
  refine lv_iconst (v := 0) hx hb dX10_isSource_1 (by decide) ?_
  refine lv_aload_n hx hb dX10_isSource_2 rfl (lv_at hl 0 rfl) ?_
  refine va_get (D := D) (ci := 9) (v := .ref h1) (C := RX10) (T := TX10) (N := 17) hx hb hts i_X10 hown hK.1 hP 0 rfl rfl 0 (by decide) (ht _ kt_849) (fun _ h9 => h9) rfl dX10_isSource_3 ?_
  refine lv_iconst (v := 0) hx hb dX10_isSource_6 (by decide) ?_
  refine va_iald hx hb hK.1 hP 1 0 rfl rfl (vin (by decide)) dX10_isSource_7 ?_
  refine lz_i 0 rfl ?_
  refine lv_iconst (v := 1) hx hb dX10_isSource_8 (by decide) ?_
  refine lv_isub hx hb dX10_isSource_9 ?_
  refine lz_i (-1) (by decide) ?_
  refine vp_callSi (va_Run.run (va_runS (As := [.int i0, .int 0, .int (-1)]) (rest := []) ⟨hx, hb, hml, hown, hts⟩ (c83_X10_in l D cy i0) (va_cwS 3 hts (gt_S kt_905 kt_906 kt_8 kt_907) rfl rfl rfl (by decide +kernel) ⟨Nat.le_of_ble_eq_true rfl, Nat.le_of_ble_eq_true rfl⟩) (gP_S hK (hP.sub (ws' := (w83 cy i0)) [] rfl)) rfl rfl hl.1 rfl (lv_room (Nat.le_of_ble_eq_true rfl)) dX10_isSource_10 ⟨Nat.le_of_ble_eq_true rfl, Nat.le_of_ble_eq_true rfl⟩)) (fun r1 hw2 => ?_)
  obtain rfl : r1 = 0 := hw2
  exact W.zret (v := 0) hx hb hr rfl (fun t ht2 hW => ⟨0, rfl, rfl, ht2⟩) (fun q h => by cases h) dX10_isSource_13
def w85 (cy : Nat → ClassId) (h0 h1 h2 h3 h4 h5 h6 h7 h8 h9 : Nat) (i0 i1 : Int32) : va_W := [(h0, .inr (9, [.ref h1, .ref h2, .ref h3, .null, .int 0, .ref h4, .int 0, .int 0, .int 0, .ref h5, .ref h6, .ref h7, .int 0, .int 0, .int 0, .ref h8, .ref h9])), (h1, .inl (cy 0, 559, .inl (fun _ => 0)))]
set_option maxHeartbeats 4000000 in
set_option maxRecDepth 100000 in
theorem c85_X10_window (l : Launch) (D : va_G) (cy : Nat → ClassId) (h0 h1 h2 h3 h4 h5 h6 h7 h8 h9 : Nat) (i0 i1 : Int32) : Met l yX10_window (Cond.code yX10_window cX10_window 4 (some .int) :: GT) ({ frames := 2, cells := 0, slots := 0, locals := 43 }) (gP D cy (w85 cy h0 h1 h2 h3 h4 h5 h6 h7 h8 h9 i0 i1) [.ref h0, .int i0, .int i1]) (vp_Si (fun r => r = (-1))) 0 0 (fun _ => False) := by
  refine Met.ofW (cc := cX10_window) (maxL := 4) (ret := some .int) (by decide) rfl ?_
  intro p e s m args below meth c s₁ B hml hv
  obtain ⟨rfl, hP, hK⟩ := hv
  have hx := B.exec
  have hb := B.bytes
  have hr := B.returns
  have hts := atoms_spec (ws := (Cond.code yX10_window cX10_window 4 (some .int) :: GT)) B.pre
  have ht : ∀ w ∈ GT, w.before _ s = true := fun w h => hts w (List.mem_cons_of_mem _ h)
  have hown : s.vm.findClass RX10 = some m.cls := findClass_of_methodNamed B.named
  have hlocks := B.notSynchronized
  have hP : va_P D classes ([(h0, .inr (9, [.ref h1, .ref h2, .ref h3, .null, .int 0, .ref h4, .int 0, .int 0, .int 0, .ref h5, .ref h6, .ref h7, .int 0, .int 0, .int 0, .ref h8, .ref h9])), (h1, .inl (cy 0, 559, .inl (fun _ => 0)))]) s.heap := hP
  have hl := lv_entry ([.ref h0, .int i0, .int i1]) (n := 4) (Nat.le_of_ble_eq_true rfl)
  rw [lg_entry_eq]
  generalize (lg_sl ([.ref h0, .int i0, .int i1]) ++ List.replicate (4 - (lg_sl ([.ref h0, .int i0, .int i1])).length) Slot.unset).toArray = ls at hl ⊢
  have hl : lv_has ls 4 [(0, .ref h0), (1, .int i0), (2, .int i1)] := hl
  refine lv_aload_n hx hb dX10_window_0 rfl (lv_at hl 0 rfl) ?_
  refine lv_iload_n hx hb dX10_window_1 rfl (lv_at hl 1 rfl) ?_
  refine vp_callSi (va_Run.run (va_runV (As := [.int i0]) (rest := []) ⟨hx, hb, hml, hown, hts⟩ (c84_X10_isSource l D cy h0 h1 h2 h3 h4 h5 h6 h7 h8 h9 i0) (cwV 1 hts (gt_V kt_912 kt_914 kp_23 kt_8 kt_915) rfl rfl rfl (by decide +kernel) ⟨Nat.le_of_ble_eq_true rfl, Nat.le_of_ble_eq_true rfl⟩) (gP_V hK (hP.sub (ws' := (w84 cy h0 h1 h2 h3 h4 h5 h6 h7 h8 h9 i0)) [0, 1] rfl) hP (ci := 9) (q0 := 0) rfl rfl) rfl rfl hl.1 rfl (lv_room (Nat.le_of_ble_eq_true rfl)) dX10_window_2 ⟨Nat.le_of_ble_eq_true rfl, Nat.le_of_ble_eq_true rfl⟩)) (fun r1 hw2 => ?_)
  obtain rfl : r1 = 0 := hw2
  refine lv_if_ne (tgt := 10) hx hb dX10_window_5 (by decide) (fun c3 => absurd c3 (by decide)) (fun _ => ?_)
  refine lv_iconst (v := (-1)) hx hb dX10_window_8 (by decide) ?_
  exact W.iret (v := (-1)) hx hb hr (fun t ht2 hW => ⟨(-1), rfl, rfl, ht2⟩) (fun q h => by cases h) dX10_window_9
def w86 (cy : Nat → ClassId) (h0 h1 h2 h3 h4 h5 h6 h7 h8 h9 : Nat) (i0 i1 i2 i3 i4 : Int32) : va_W := [(h0, .inr (9, [.ref h1, .ref h2, .ref h3, .null, .int 0, .ref h4, .int 0, .int 0, .int 0, .ref h5, .ref h6, .ref h7, .int 0, .int 0, .int 0, .ref h8, .ref h9])), (h1, .inl (cy 0, 559, .inl (fun _ => 0)))]
set_option maxHeartbeats 4000000 in
set_option maxRecDepth 100000 in
theorem c86_X10_deliver (l : Launch) (D : va_G) (cy : Nat → ClassId) (h0 h1 h2 h3 h4 h5 h6 h7 h8 h9 : Nat) (i0 i1 i2 i3 i4 : Int32) : Met l yX10_deliver (Cond.code yX10_deliver cX10_deliver 10 (some .int) :: GT) ({ frames := 2, cells := 0, slots := 0, locals := 43 }) (gP D cy (w86 cy h0 h1 h2 h3 h4 h5 h6 h7 h8 h9 i0 i1 i2 i3 i4) [.ref h0, .int i0, .int i1, .int i2, .int i3, .int i4]) (vp_Si (fun r => r = (-1))) 0 0 (fun _ => False) := by
  refine Met.ofW (cc := cX10_deliver) (maxL := 10) (ret := some .int) (by decide) rfl ?_
  intro p e s m args below meth c s₁ B hml hv
  obtain ⟨rfl, hP, hK⟩ := hv
  have hx := B.exec
  have hb := B.bytes
  have hr := B.returns
  have hts := atoms_spec (ws := (Cond.code yX10_deliver cX10_deliver 10 (some .int) :: GT)) B.pre
  have ht : ∀ w ∈ GT, w.before _ s = true := fun w h => hts w (List.mem_cons_of_mem _ h)
  have hown : s.vm.findClass RX10 = some m.cls := findClass_of_methodNamed B.named
  have hlocks := B.notSynchronized
  have hP : va_P D classes ([(h0, .inr (9, [.ref h1, .ref h2, .ref h3, .null, .int 0, .ref h4, .int 0, .int 0, .int 0, .ref h5, .ref h6, .ref h7, .int 0, .int 0, .int 0, .ref h8, .ref h9])), (h1, .inl (cy 0, 559, .inl (fun _ => 0)))]) s.heap := hP
  have hl := lv_entry ([.ref h0, .int i0, .int i1, .int i2, .int i3, .int i4]) (n := 10) (Nat.le_of_ble_eq_true rfl)
  rw [lg_entry_eq]
  generalize (lg_sl ([.ref h0, .int i0, .int i1, .int i2, .int i3, .int i4]) ++ List.replicate (10 - (lg_sl ([.ref h0, .int i0, .int i1, .int i2, .int i3, .int i4])).length) Slot.unset).toArray = ls at hl ⊢
  have hl : lv_has ls 10 [(0, .ref h0), (1, .int i0), (2, .int i1), (3, .int i2), (4, .int i3), (5, .int i4)] := hl
  refine lv_aload_n hx hb dX10_deliver_0 rfl (lv_at hl 0 rfl) ?_
  refine lv_iload_n hx hb dX10_deliver_1 rfl (lv_at hl 1 rfl) ?_
  refine vp_callSi (va_Run.run (va_runV (As := [.int i0]) (rest := []) ⟨hx, hb, hml, hown, hts⟩ (c84_X10_isSource l D cy h0 h1 h2 h3 h4 h5 h6 h7 h8 h9 i0) (cwV 1 hts (gt_V kt_912 kt_914 kp_23 kt_8 kt_915) rfl rfl rfl (by decide +kernel) ⟨Nat.le_of_ble_eq_true rfl, Nat.le_of_ble_eq_true rfl⟩) (gP_V hK (hP.sub (ws' := (w84 cy h0 h1 h2 h3 h4 h5 h6 h7 h8 h9 i0)) [0, 1] rfl) hP (ci := 9) (q0 := 0) rfl rfl) rfl rfl hl.1 rfl (lv_room (Nat.le_of_ble_eq_true rfl)) dX10_deliver_2 ⟨Nat.le_of_ble_eq_true rfl, Nat.le_of_ble_eq_true rfl⟩)) (fun r1 hw2 => ?_)
  obtain rfl : r1 = 0 := hw2
  refine lv_if_ne (tgt := 10) hx hb dX10_deliver_5 (by decide) (fun c3 => absurd c3 (by decide)) (fun _ => ?_)
  refine lv_iconst (v := (-1)) hx hb dX10_deliver_8 (by decide) ?_
  exact W.iret (v := (-1)) hx hb hr (fun t ht2 hW => ⟨(-1), rfl, rfl, ht2⟩) (fun q h => by cases h) dX10_deliver_9
def w87 (cy : Nat → ClassId) (h0 h1 h2 h3 h4 h5 h6 h7 h8 h9 : Nat) (i0 i1 : Int32) : va_W := [(h0, .inr (9, [.ref h1, .ref h2, .ref h3, .null, .int 0, .ref h4, .int 0, .int 0, .int 0, .ref h5, .ref h6, .ref h7, .int 0, .int 0, .int 0, .ref h8, .ref h9])), (h1, .inl (cy 0, 559, .inl (fun _ => 0)))]
set_option maxHeartbeats 4000000 in
set_option maxRecDepth 100000 in
theorem c87_X10_isRow (l : Launch) (D : va_G) (cy : Nat → ClassId) (h0 h1 h2 h3 h4 h5 h6 h7 h8 h9 : Nat) (i0 i1 : Int32) : Met l yX10_isRow (Cond.code yX10_isRow cX10_isRow 3 (some .boolean) :: GT) ({ frames := 2, cells := 0, slots := 0, locals := 43 }) (gP D cy (w87 cy h0 h1 h2 h3 h4 h5 h6 h7 h8 h9 i0 i1) [.ref h0, .int i0, .int i1]) (vp_Si (fun r => r = 0)) 0 0 (fun _ => False) := by
  refine Met.ofW (cc := cX10_isRow) (maxL := 3) (ret := some .boolean) (by decide) rfl ?_
  intro p e s m args below meth c s₁ B hml hv
  obtain ⟨rfl, hP, hK⟩ := hv
  have hx := B.exec
  have hb := B.bytes
  have hr := B.returns
  have hts := atoms_spec (ws := (Cond.code yX10_isRow cX10_isRow 3 (some .boolean) :: GT)) B.pre
  have ht : ∀ w ∈ GT, w.before _ s = true := fun w h => hts w (List.mem_cons_of_mem _ h)
  have hown : s.vm.findClass RX10 = some m.cls := findClass_of_methodNamed B.named
  have hlocks := B.notSynchronized
  have hP : va_P D classes ([(h0, .inr (9, [.ref h1, .ref h2, .ref h3, .null, .int 0, .ref h4, .int 0, .int 0, .int 0, .ref h5, .ref h6, .ref h7, .int 0, .int 0, .int 0, .ref h8, .ref h9])), (h1, .inl (cy 0, 559, .inl (fun _ => 0)))]) s.heap := hP
  have hl := lv_entry ([.ref h0, .int i0, .int i1]) (n := 3) (Nat.le_of_ble_eq_true rfl)
  rw [lg_entry_eq]
  generalize (lg_sl ([.ref h0, .int i0, .int i1]) ++ List.replicate (3 - (lg_sl ([.ref h0, .int i0, .int i1])).length) Slot.unset).toArray = ls at hl ⊢
  have hl : lv_has ls 3 [(0, .ref h0), (1, .int i0), (2, .int i1)] := hl
  refine lv_aload_n hx hb dX10_isRow_0 rfl (lv_at hl 0 rfl) ?_
  refine lv_iload_n hx hb dX10_isRow_1 rfl (lv_at hl 1 rfl) ?_
  refine vp_callSi (va_Run.run (va_runV (As := [.int i0]) (rest := []) ⟨hx, hb, hml, hown, hts⟩ (c84_X10_isSource l D cy h0 h1 h2 h3 h4 h5 h6 h7 h8 h9 i0) (cwV 1 hts (gt_V kt_912 kt_914 kp_23 kt_8 kt_915) rfl rfl rfl (by decide +kernel) ⟨Nat.le_of_ble_eq_true rfl, Nat.le_of_ble_eq_true rfl⟩) (gP_V hK (hP.sub (ws' := (w84 cy h0 h1 h2 h3 h4 h5 h6 h7 h8 h9 i0)) [0, 1] rfl) hP (ci := 9) (q0 := 0) rfl rfl) rfl rfl hl.1 rfl (lv_room (Nat.le_of_ble_eq_true rfl)) dX10_isRow_2 ⟨Nat.le_of_ble_eq_true rfl, Nat.le_of_ble_eq_true rfl⟩)) (fun r1 hw2 => ?_)
  obtain rfl : r1 = 0 := hw2
  refine lv_if_eq (tgt := 31) hx hb dX10_isRow_5 (by decide) (fun _ => ?_) (fun c3 => absurd c3 (by decide))
  refine lv_iconst (v := 0) hx hb dX10_isRow_31 (by decide) ?_
  exact W.zret (v := 0) hx hb hr rfl (fun t ht2 hW => ⟨0, rfl, rfl, ht2⟩) (fun q h => by cases h) dX10_isRow_32
def w88 (cy : Nat → ClassId) (h0 h1 h2 h3 h4 h5 h6 h7 h8 h9 : Nat) (i0 i1 : Int32) : va_W := [(h0, .inr (9, [.ref h1, .ref h2, .ref h3, .null, .int 0, .ref h4, .int 0, .int 0, .int 0, .ref h5, .ref h6, .ref h7, .int 0, .int 0, .int 0, .ref h8, .ref h9])), (h1, .inl (cy 0, 559, .inl (fun _ => 0)))]
set_option maxHeartbeats 4000000 in
set_option maxRecDepth 100000 in
theorem c88_X10_drop (l : Launch) (D : va_G) (cy : Nat → ClassId) (h0 h1 h2 h3 h4 h5 h6 h7 h8 h9 : Nat) (i0 i1 : Int32) : Met l yX10_drop (Cond.code yX10_drop cX10_drop 3 (some .int) :: GT) ({ frames := 3, cells := 0, slots := 0, locals := 65 }) (gP D cy (w88 cy h0 h1 h2 h3 h4 h5 h6 h7 h8 h9 i0 i1) [.ref h0, .int i0, .int i1]) (vp_Si (fun r => r = (-1))) 0 0 (fun _ => False) := by
  refine Met.ofW (cc := cX10_drop) (maxL := 3) (ret := some .int) (by decide) rfl ?_
  intro p e s m args below meth c s₁ B hml hv
  obtain ⟨rfl, hP, hK⟩ := hv
  have hx := B.exec
  have hb := B.bytes
  have hr := B.returns
  have hts := atoms_spec (ws := (Cond.code yX10_drop cX10_drop 3 (some .int) :: GT)) B.pre
  have ht : ∀ w ∈ GT, w.before _ s = true := fun w h => hts w (List.mem_cons_of_mem _ h)
  have hown : s.vm.findClass RX10 = some m.cls := findClass_of_methodNamed B.named
  have hlocks := B.notSynchronized
  have hP : va_P D classes ([(h0, .inr (9, [.ref h1, .ref h2, .ref h3, .null, .int 0, .ref h4, .int 0, .int 0, .int 0, .ref h5, .ref h6, .ref h7, .int 0, .int 0, .int 0, .ref h8, .ref h9])), (h1, .inl (cy 0, 559, .inl (fun _ => 0)))]) s.heap := hP
  have hl := lv_entry ([.ref h0, .int i0, .int i1]) (n := 3) (Nat.le_of_ble_eq_true rfl)
  rw [lg_entry_eq]
  generalize (lg_sl ([.ref h0, .int i0, .int i1]) ++ List.replicate (3 - (lg_sl ([.ref h0, .int i0, .int i1])).length) Slot.unset).toArray = ls at hl ⊢
  have hl : lv_has ls 3 [(0, .ref h0), (1, .int i0), (2, .int i1)] := hl
  refine lv_aload_n hx hb dX10_drop_0 rfl (lv_at hl 0 rfl) ?_
  refine lv_iload_n hx hb dX10_drop_1 rfl (lv_at hl 1 rfl) ?_
  refine lv_iload_n hx hb dX10_drop_2 rfl (lv_at hl 2 rfl) ?_
  refine vp_callSi (va_Run.run (va_runV (As := [.int i0, .int i1]) (rest := []) ⟨hx, hb, hml, hown, hts⟩ (c87_X10_isRow l D cy h0 h1 h2 h3 h4 h5 h6 h7 h8 h9 i0 i1) (cwV 2 hts (gt_V kt_956 kt_958 kp_32 kt_8 kt_959) rfl rfl rfl (by decide +kernel) ⟨Nat.le_of_ble_eq_true rfl, Nat.le_of_ble_eq_true rfl⟩) (gP_V hK (hP.sub (ws' := (w87 cy h0 h1 h2 h3 h4 h5 h6 h7 h8 h9 i0 i1)) [0, 1] rfl) hP (ci := 9) (q0 := 0) rfl rfl) rfl rfl hl.1 rfl (lv_room (Nat.le_of_ble_eq_true rfl)) dX10_drop_3 ⟨Nat.le_of_ble_eq_true rfl, Nat.le_of_ble_eq_true rfl⟩)) (fun r1 hw2 => ?_)
  obtain rfl : r1 = 0 := hw2
  refine lv_if_ne (tgt := 11) hx hb dX10_drop_6 (by decide) (fun c3 => absurd c3 (by decide)) (fun _ => ?_)
  refine lv_iconst (v := (-1)) hx hb dX10_drop_9 (by decide) ?_
  exact W.iret (v := (-1)) hx hb hr (fun t ht2 hW => ⟨(-1), rfl, rfl, ht2⟩) (fun q h => by cases h) dX10_drop_10
def w89 (cy : Nat → ClassId) (i0 : Int32) : va_W := []
set_option maxHeartbeats 4000000 in
set_option maxRecDepth 100000 in
theorem c89_X10_in (l : Launch) (D : va_G) (cy : Nat → ClassId) (i0 : Int32) : Met l yX10_in (Cond.code yX10_in cX10_in 3 (some .boolean) :: GT) ({ frames := 0, cells := 0, slots := 0, locals := 0 }) (gP D cy (w89 cy i0) [.int i0, .int 0, .int 127]) (vp_Si (fun r => (i0.toInt < 0 ∧ r = 0) ∨ (¬ i0.toInt < 0 ∧ 127 < i0.toInt ∧ r = 0) ∨ (¬ i0.toInt < 0 ∧ ¬ 127 < i0.toInt ∧ r = 1))) 0 0 (fun _ => False) := by
  refine Met.ofW (cc := cX10_in) (maxL := 3) (ret := some .boolean) (by decide) rfl ?_
  intro p e s m args below meth c s₁ B hml hv
  obtain ⟨rfl, hP, hK⟩ := hv
  have hx := B.exec
  have hb := B.bytes
  have hr := B.returns
  have hts := atoms_spec (ws := (Cond.code yX10_in cX10_in 3 (some .boolean) :: GT)) B.pre
  have ht : ∀ w ∈ GT, w.before _ s = true := fun w h => hts w (List.mem_cons_of_mem _ h)
  have hown : s.vm.findClass RX10 = some m.cls := findClass_of_methodNamed B.named
  have hlocks := B.notSynchronized
  have hP : va_P D classes ([]) s.heap := hP
  have hl := lv_entry ([.int i0, .int 0, .int 127]) (n := 3) (Nat.le_of_ble_eq_true rfl)
  rw [lg_entry_eq]
  generalize (lg_sl ([.int i0, .int 0, .int 127]) ++ List.replicate (3 - (lg_sl ([.int i0, .int 0, .int 127])).length) Slot.unset).toArray = ls at hl ⊢
  have hl : lv_has ls 3 [(0, .int i0), (1, .int 0), (2, .int 127)] := hl
  refine lv_iload_n hx hb dX10_in_0 rfl (lv_at hl 0 rfl) ?_
  refine lv_iload_n hx hb dX10_in_1 rfl (lv_at hl 1 rfl) ?_
  refine lv_icmp_lt (tgt := 14) hx hb dX10_in_2 (by decide) (fun c1 => ?_) (fun c1 => ?_)
  · have c1 : i0.toInt < 0 := i_lt c1 rfl rfl
    refine lv_iconst (v := 0) hx hb dX10_in_14 (by decide) ?_
    exact W.zret (v := 0) hx hb hr rfl (fun t ht2 hW => ⟨0, rfl, (Or.inl ⟨c1, rfl⟩), ht2⟩) (fun q h => by cases h) dX10_in_15
  · have c1 : ¬ i0.toInt < 0 := i_nlt c1 rfl rfl
    refine lv_iload_n hx hb dX10_in_5 rfl (lv_at hl 0 rfl) ?_
    refine lv_iload_n hx hb dX10_in_6 rfl (lv_at hl 2 rfl) ?_
    refine lv_icmp_gt (tgt := 14) hx hb dX10_in_7 (by decide) (fun c2 => ?_) (fun c2 => ?_)
    · have c2 : 127 < i0.toInt := i_lt c2 rfl rfl
      refine lv_iconst (v := 0) hx hb dX10_in_14 (by decide) ?_
      exact W.zret (v := 0) hx hb hr rfl (fun t ht2 hW => ⟨0, rfl, (Or.inr (Or.inl ⟨c1, c2, rfl⟩)), ht2⟩) (fun q h => by cases h) dX10_in_15
    · have c2 : ¬ 127 < i0.toInt := i_nlt c2 rfl rfl
      refine lv_iconst (v := 1) hx hb dX10_in_10 (by decide) ?_
      refine lv_goto (tgt := 15) hx hb dX10_in_11 (by decide) ?_
      exact W.zret (v := 1) hx hb hr rfl (fun t ht2 hW => ⟨1, rfl, (Or.inr (Or.inr (⟨c1, c2, rfl⟩))), ht2⟩) (fun q h => by cases h) dX10_in_15
def w90 (cy : Nat → ClassId) (h0 h1 h2 h3 h4 h5 h6 h7 h8 h9 : Nat) (i0 : Int32) : va_W := [(h0, .inr (9, [.ref h1, .ref h2, .ref h3, .null, .int 0, .ref h4, .int 0, .int 0, .int 0, .ref h5, .ref h6, .ref h7, .int 0, .int 0, .int 0, .ref h8, .ref h9])), (h1, .inl (cy 0, 559, .inl (fun _ => 0)))]
set_option maxHeartbeats 4000000 in
set_option maxRecDepth 100000 in
theorem c90_X10_feed (l : Launch) (D : va_G) (cy : Nat → ClassId) (h0 h1 h2 h3 h4 h5 h6 h7 h8 h9 : Nat) (i0 : Int32) (sz : Nat) : Met l yX10_feed (Cond.code yX10_feed cX10_feed 2 (some .int) :: GT) ({ frames := 1, cells := 0, slots := 0, locals := 22 }) (gN D cy (w90 cy h0 h1 h2 h3 h4 h5 h6 h7 h8 h9 i0) [.ref h0, .int i0] sz) (va_Qi (fun (r : Int32) (_ : Unit) => (i0.toInt < 0 ∧ r = (-2)) ∨ (¬ i0.toInt < 0 ∧ 127 < i0.toInt ∧ r = (-2)) ∨ (¬ i0.toInt < 0 ∧ ¬ 127 < i0.toInt ∧ r = 1)) (fun _ _ => True) (va_A (w90 cy h0 h1 h2 h3 h4 h5 h6 h7 h8 h9 i0) sz)) 0 0 (va_A (w90 cy h0 h1 h2 h3 h4 h5 h6 h7 h8 h9 i0) sz) := by
  refine Met.ofW (cc := cX10_feed) (maxL := 2) (ret := some .int) (by decide) rfl ?_
  intro p e s m args below meth c s₁ B hml hv
  obtain ⟨rfl, hsz, hP, hK, hD0⟩ := hv
  have hx := B.exec
  have hb := B.bytes
  have hr := B.returns
  have hts := atoms_spec (ws := (Cond.code yX10_feed cX10_feed 2 (some .int) :: GT)) B.pre
  have ht : ∀ w ∈ GT, w.before _ s = true := fun w h => hts w (List.mem_cons_of_mem _ h)
  have hown : s.vm.findClass RX10 = some m.cls := findClass_of_methodNamed B.named
  have hlocks := B.notSynchronized
  subst hsz
  have hD := hD0.self (sz := s.heap.size)
  generalize hAe : va_A (w90 cy h0 h1 h2 h3 h4 h5 h6 h7 h8 h9 i0) s.heap.size = A at hD ⊢
  have hA : ∀ q : Nat, s.heap.size ≤ q → A q := fun q h => by rw [← hAe]; exact Or.inr h
  have hS : va_S A s.heap s.heap [] := va_S.rf
  have hD : va_D A ([(h0, .inr (9, [.ref h1, .ref h2, .ref h3, .null, .int 0, .ref h4, .int 0, .int 0, .int 0, .ref h5, .ref h6, .ref h7, .int 0, .int 0, .int 0, .ref h8, .ref h9])), (h1, .inl (cy 0, 559, .inl (fun _ => 0)))]) := hD
  have hP : va_P D classes ([(h0, .inr (9, [.ref h1, .ref h2, .ref h3, .null, .int 0, .ref h4, .int 0, .int 0, .int 0, .ref h5, .ref h6, .ref h7, .int 0, .int 0, .int 0, .ref h8, .ref h9])), (h1, .inl (cy 0, 559, .inl (fun _ => 0)))]) s.heap := hP
  have hl := lv_entry ([.ref h0, .int i0]) (n := 2) (Nat.le_of_ble_eq_true rfl)
  rw [lg_entry_eq]
  generalize (lg_sl ([.ref h0, .int i0]) ++ List.replicate (2 - (lg_sl ([.ref h0, .int i0])).length) Slot.unset).toArray = ls at hl ⊢
  have hl : lv_has ls 2 [(0, .ref h0), (1, .int i0)] := hl
  refine lv_iload_n hx hb dX10_feed_0 rfl (lv_at hl 1 rfl) ?_
  refine lv_iconst (v := 0) hx hb dX10_feed_1 (by decide) ?_
  refine lv_bipush (v := 127) hx hb dX10_feed_2 (by decide) ?_
  refine vp_callSi (va_Run.run (va_runS (As := [.int i0, .int 0, .int 127]) (rest := []) ⟨hx, hb, hml, hown, hts⟩ (c89_X10_in l D cy i0) (va_cwS 3 hts (gt_S kt_905 kt_906 kt_8 kt_907) rfl rfl rfl (by decide +kernel) ⟨Nat.le_of_ble_eq_true rfl, Nat.le_of_ble_eq_true rfl⟩) (gP_S hK (hP.sub (ws' := (w89 cy i0)) [] rfl)) rfl rfl hl.1 rfl (lv_room (Nat.le_of_ble_eq_true rfl)) dX10_feed_4 ⟨Nat.le_of_ble_eq_true rfl, Nat.le_of_ble_eq_true rfl⟩)) (fun r1 hw2 => ?_)
  rcases hw2 with ⟨c3, rfl⟩ | ⟨c4, c5, rfl⟩ | ⟨c6, c7, rfl⟩
  · skip
    refine lv_if_ne (tgt := 13) hx hb dX10_feed_7 (by decide) (fun c8 => absurd c8 (by decide)) (fun _ => ?_)
    refine lv_bipush (v := (-2)) hx hb dX10_feed_10 (by decide) ?_
    refine W.widen (k := 0) (n := 0) (Nat.le_of_ble_eq_true rfl) (Nat.le_of_ble_eq_true rfl) ?_
    exact W.iret (v := (-2)) hx hb hr (fun t ht2 hW => ⟨⟨(-2), (), rfl, (Or.inl ⟨c3, rfl⟩), trivial⟩, hS.F ht2⟩) hS.2.2 dX10_feed_12
  · skip
    refine lv_if_ne (tgt := 13) hx hb dX10_feed_7 (by decide) (fun c9 => absurd c9 (by decide)) (fun _ => ?_)
    refine lv_bipush (v := (-2)) hx hb dX10_feed_10 (by decide) ?_
    refine W.widen (k := 0) (n := 0) (Nat.le_of_ble_eq_true rfl) (Nat.le_of_ble_eq_true rfl) ?_
    exact W.iret (v := (-2)) hx hb hr (fun t ht2 hW => ⟨⟨(-2), (), rfl, (Or.inr (Or.inl ⟨c4, c5, rfl⟩)), trivial⟩, hS.F ht2⟩) hS.2.2 dX10_feed_12
  · skip
    refine lv_if_ne (tgt := 13) hx hb dX10_feed_7 (by decide) (fun _ => ?_) (fun c10 => absurd c10 (by decide))
    refine lv_aload_n hx hb dX10_feed_13 rfl (lv_at hl 0 rfl) ?_
    refine va_get (D := D) (ci := 9) (v := .ref h1) (C := RX10) (T := TX10) (N := 17) hx hb hts i_X10 hown hK.1 hP 0 rfl rfl 0 (by decide) (ht _ kt_849) (fun _ h9 => h9) rfl dX10_feed_14 ?_
    refine lv_bipush (v := 7) hx hb dX10_feed_17 (by decide) ?_
    refine va_iald hx hb hK.1 hP 1 0 rfl rfl (vin (by decide)) dX10_feed_19 ?_
    refine lz_i 0 rfl ?_
    refine lv_bipush (v := 40) hx hb dX10_feed_20 (by decide) ?_
    refine lv_icmp_ne (tgt := 28) hx hb dX10_feed_22 (by decide) (fun _ => ?_) (fun c11 => absurd c11 (by decide))
    refine lv_aload_n hx hb dX10_feed_28 rfl (lv_at hl 0 rfl) ?_
    refine va_get (D := D) (ci := 9) (v := .ref h1) (C := RX10) (T := TX10) (N := 17) hx hb hts i_X10 hown hK.1 hP 0 rfl rfl 0 (by decide) (ht _ kt_849) (fun _ h9 => h9) rfl dX10_feed_29 ?_
    refine lv_sipush (v := 467) hx hb dX10_feed_32 (by decide) ?_
    refine lv_aload_n hx hb dX10_feed_35 rfl (lv_at hl 0 rfl) ?_
    refine va_get (D := D) (ci := 9) (v := .ref h1) (C := RX10) (T := TX10) (N := 17) hx hb hts i_X10 hown hK.1 hP 0 rfl rfl 0 (by decide) (ht _ kt_849) (fun _ h9 => h9) rfl dX10_feed_36 ?_
    refine lv_bipush (v := 7) hx hb dX10_feed_39 (by decide) ?_
    refine va_iald hx hb hK.1 hP 1 0 rfl rfl (vin (by decide)) dX10_feed_41 ?_
    refine lz_i 0 rfl ?_
    refine lv_iadd hx hb dX10_feed_42 ?_
    refine lz_i 467 (by decide) ?_
    refine lv_iload_n hx hb dX10_feed_43 rfl (lv_at hl 1 rfl) ?_
    refine va_iast hx hb hK.1 hP hD hS 1 0 rfl rfl (vin (by decide)) dX10_feed_44 (fun H locs hP hD hS => ?_)
    have hP : va_P D classes ([(h0, .inr (9, [.ref h1, .ref h2, .ref h3, .null, .int 0, .ref h4, .int 0, .int 0, .int 0, .ref h5, .ref h6, .ref h7, .int 0, .int 0, .int 0, .ref h8, .ref h9])), (h1, .inl (cy 0, 559, .inl (upd (fun _ => 0) 467 i0)))]) H := hP
    have hD : va_D A ([(h0, .inr (9, [.ref h1, .ref h2, .ref h3, .null, .int 0, .ref h4, .int 0, .int 0, .int 0, .ref h5, .ref h6, .ref h7, .int 0, .int 0, .int 0, .ref h8, .ref h9])), (h1, .inl (cy 0, 559, .inl (upd (fun _ => 0) 467 i0)))]) := hD
    refine lv_aload_n hx hb dX10_feed_45 rfl (lv_at hl 0 rfl) ?_
    refine va_get (D := D) (ci := 9) (v := .ref h1) (C := RX10) (T := TX10) (N := 17) hx hb hts i_X10 hown hK.1 hP 0 rfl rfl 0 (by decide) (ht _ kt_849) (fun _ h9 => h9) rfl dX10_feed_46 ?_
    refine lv_bipush (v := 7) hx hb dX10_feed_49 (by decide) ?_
    refine lv_dup2_11 hx hb dX10_feed_51 rfl rfl ?_
    refine va_iald hx hb hK.1 hP 1 0 rfl rfl (vin (by decide)) dX10_feed_52 ?_
    refine lz_i 0 rfl ?_
    refine lv_iconst (v := 1) hx hb dX10_feed_53 (by decide) ?_
    refine lv_iadd hx hb dX10_feed_54 ?_
    refine lz_i 1 (by decide) ?_
    refine va_iast hx hb hK.1 hP hD hS 1 0 rfl rfl (vin (by decide)) dX10_feed_55 (fun H locs hP hD hS => ?_)
    have hP : va_P D classes ([(h0, .inr (9, [.ref h1, .ref h2, .ref h3, .null, .int 0, .ref h4, .int 0, .int 0, .int 0, .ref h5, .ref h6, .ref h7, .int 0, .int 0, .int 0, .ref h8, .ref h9])), (h1, .inl (cy 0, 559, .inl (upd (upd (fun _ => 0) 467 i0) 7 1)))]) H := hP
    have hD : va_D A ([(h0, .inr (9, [.ref h1, .ref h2, .ref h3, .null, .int 0, .ref h4, .int 0, .int 0, .int 0, .ref h5, .ref h6, .ref h7, .int 0, .int 0, .int 0, .ref h8, .ref h9])), (h1, .inl (cy 0, 559, .inl (upd (upd (fun _ => 0) 467 i0) 7 1)))]) := hD
    refine lv_aload_n hx hb dX10_feed_56 rfl (lv_at hl 0 rfl) ?_
    refine va_get (D := D) (ci := 9) (v := .ref h1) (C := RX10) (T := TX10) (N := 17) hx hb hts i_X10 hown hK.1 hP 0 rfl rfl 0 (by decide) (ht _ kt_849) (fun _ h9 => h9) rfl dX10_feed_57 ?_
    refine lv_bipush (v := 7) hx hb dX10_feed_60 (by decide) ?_
    refine va_iald hx hb hK.1 hP 1 0 rfl rfl (vin (by decide)) dX10_feed_62 ?_
    refine lz_i 1 rfl ?_
    refine W.widen (k := 0) (n := 0) (Nat.le_of_ble_eq_true rfl) (Nat.le_of_ble_eq_true rfl) ?_
    exact W.iret (v := 1) hx hb hr (fun t ht2 hW => ⟨⟨1, (), rfl, (Or.inr (Or.inr (⟨c6, c7, rfl⟩))), trivial⟩, hS.F ht2⟩) hS.2.2 dX10_feed_63
def w91 (cy : Nat → ClassId) (h0 h1 h2 h3 h4 h5 h6 h7 h8 h9 : Nat) : va_W := [(h0, .inr (9, [.ref h1, .ref h2, .ref h3, .null, .int 0, .ref h4, .int 0, .int 0, .int 0, .ref h5, .ref h6, .ref h7, .int 0, .int 0, .int 0, .ref h8, .ref h9]))]
set_option maxHeartbeats 4000000 in
set_option maxRecDepth 100000 in
theorem c91_X10_here (l : Launch) (D : va_G) (cy : Nat → ClassId) (h0 h1 h2 h3 h4 h5 h6 h7 h8 h9 : Nat) : Met l yX10_here (Cond.code yX10_here cX10_here 1 (some .int) :: GT) ({ frames := 0, cells := 0, slots := 0, locals := 0 }) (gP D cy (w91 cy h0 h1 h2 h3 h4 h5 h6 h7 h8 h9) [.ref h0]) (vp_Si (fun r => r = (-1))) 0 0 (fun _ => False) := by
  refine Met.ofW (cc := cX10_here) (maxL := 1) (ret := some .int) (by decide) rfl ?_
  intro p e s m args below meth c s₁ B hml hv
  obtain ⟨rfl, hP, hK⟩ := hv
  have hx := B.exec
  have hb := B.bytes
  have hr := B.returns
  have hts := atoms_spec (ws := (Cond.code yX10_here cX10_here 1 (some .int) :: GT)) B.pre
  have ht : ∀ w ∈ GT, w.before _ s = true := fun w h => hts w (List.mem_cons_of_mem _ h)
  have hown : s.vm.findClass RX10 = some m.cls := findClass_of_methodNamed B.named
  have hlocks := B.notSynchronized
  have hP : va_P D classes ([(h0, .inr (9, [.ref h1, .ref h2, .ref h3, .null, .int 0, .ref h4, .int 0, .int 0, .int 0, .ref h5, .ref h6, .ref h7, .int 0, .int 0, .int 0, .ref h8, .ref h9]))]) s.heap := hP
  have hl := lv_entry ([.ref h0]) (n := 1) (Nat.le_of_ble_eq_true rfl)
  rw [lg_entry_eq]
  generalize (lg_sl ([.ref h0]) ++ List.replicate (1 - (lg_sl ([.ref h0])).length) Slot.unset).toArray = ls at hl ⊢
  have hl : lv_has ls 1 [(0, .ref h0)] := hl
  refine lv_aload_n hx hb dX10_here_0 rfl (lv_at hl 0 rfl) ?_
  refine va_get (D := D) (ci := 9) (v := .int 0) (C := RX10) (T := TX10) (N := 17) hx hb hts i_X10 hown hK.1 hP 0 rfl rfl 7 (by decide) (ht _ kt_856) (fun _ h9 => h9) rfl dX10_here_1 ?_
  refine lv_aload_n hx hb dX10_here_4 rfl (lv_at hl 0 rfl) ?_
  refine va_get (D := D) (ci := 9) (v := .int 0) (C := RX10) (T := TX10) (N := 17) hx hb hts i_X10 hown hK.1 hP 0 rfl rfl 6 (by decide) (ht _ kt_855) (fun _ h9 => h9) rfl dX10_here_5 ?_
  refine lv_icmp_ge (tgt := 27) hx hb dX10_here_8 (by decide) (fun _ => ?_) (fun c1 => absurd c1 (by decide))
  refine lv_iconst (v := (-1)) hx hb dX10_here_27 (by decide) ?_
  exact W.iret (v := (-1)) hx hb hr (fun t ht2 hW => ⟨(-1), rfl, rfl, ht2⟩) (fun q h => by cases h) dX10_here_28
def w92 (cy : Nat → ClassId) : va_W := []
set_option maxHeartbeats 4000000 in
set_option maxRecDepth 100000 in
theorem c92_X10_in (l : Launch) (D : va_G) (cy : Nat → ClassId) : Met l yX10_in (Cond.code yX10_in cX10_in 3 (some .boolean) :: GT) ({ frames := 0, cells := 0, slots := 0, locals := 0 }) (gP D cy (w92 cy) [.int (-1), .int 49, .int 57]) (vp_Si (fun r => r = 0)) 0 0 (fun _ => False) := by
  refine Met.ofW (cc := cX10_in) (maxL := 3) (ret := some .boolean) (by decide) rfl ?_
  intro p e s m args below meth c s₁ B hml hv
  obtain ⟨rfl, hP, hK⟩ := hv
  have hx := B.exec
  have hb := B.bytes
  have hr := B.returns
  have hts := atoms_spec (ws := (Cond.code yX10_in cX10_in 3 (some .boolean) :: GT)) B.pre
  have ht : ∀ w ∈ GT, w.before _ s = true := fun w h => hts w (List.mem_cons_of_mem _ h)
  have hown : s.vm.findClass RX10 = some m.cls := findClass_of_methodNamed B.named
  have hlocks := B.notSynchronized
  have hP : va_P D classes ([]) s.heap := hP
  have hl := lv_entry ([.int (-1), .int 49, .int 57]) (n := 3) (Nat.le_of_ble_eq_true rfl)
  rw [lg_entry_eq]
  generalize (lg_sl ([.int (-1), .int 49, .int 57]) ++ List.replicate (3 - (lg_sl ([.int (-1), .int 49, .int 57])).length) Slot.unset).toArray = ls at hl ⊢
  have hl : lv_has ls 3 [(0, .int (-1)), (1, .int 49), (2, .int 57)] := hl
  refine lv_iload_n hx hb dX10_in_0 rfl (lv_at hl 0 rfl) ?_
  refine lv_iload_n hx hb dX10_in_1 rfl (lv_at hl 1 rfl) ?_
  refine lv_icmp_lt (tgt := 14) hx hb dX10_in_2 (by decide) (fun _ => ?_) (fun c1 => absurd c1 (by decide))
  refine lv_iconst (v := 0) hx hb dX10_in_14 (by decide) ?_
  exact W.zret (v := 0) hx hb hr rfl (fun t ht2 hW => ⟨0, rfl, rfl, ht2⟩) (fun q h => by cases h) dX10_in_15
def w93 (cy : Nat → ClassId) (h0 h1 h2 h3 h4 h5 h6 h7 h8 h9 : Nat) : va_W := [(h0, .inr (9, [.ref h1, .ref h2, .ref h3, .null, .int 0, .ref h4, .int 0, .int 0, .int 0, .ref h5, .ref h6, .ref h7, .int 0, .int 0, .int 0, .ref h8, .ref h9]))]
def vw93 (cy : Nat → ClassId) (h0 h1 h2 h3 h4 h5 h6 h7 h8 h9 : Nat) (u : Nat → Nat) : va_W := [(h0, .inr (9, [.ref h1, .ref h2, .ref h3, .null, .int 0, .ref h4, .int 0, .int 0, .int 1, .ref h5, .ref h6, .ref h7, .int 0, .int 0, .int 0, .ref h8, .ref h9]))]
set_option maxHeartbeats 4000000 in
set_option maxRecDepth 100000 in
theorem c93_X10_digit (l : Launch) (D : va_G) (cy : Nat → ClassId) (h0 h1 h2 h3 h4 h5 h6 h7 h8 h9 : Nat) (sz : Nat) : Met l yX10_digit (Cond.code yX10_digit cX10_digit 3 (some .int) :: GT) ({ frames := 1, cells := 0, slots := 0, locals := 22 }) (gN D cy (w93 cy h0 h1 h2 h3 h4 h5 h6 h7 h8 h9) [.ref h0, .int 1, .int 9] sz) (va_Qi (fun (r : Int32) (_ : Nat → Nat) => r = 0) (fun u t => va_P D classes (vw93 cy h0 h1 h2 h3 h4 h5 h6 h7 h8 h9 u) t.heap ∧ va_D (va_A (w93 cy h0 h1 h2 h3 h4 h5 h6 h7 h8 h9) sz) (vw93 cy h0 h1 h2 h3 h4 h5 h6 h7 h8 h9 u)) (va_A (w93 cy h0 h1 h2 h3 h4 h5 h6 h7 h8 h9) sz)) 0 0 (va_A (w93 cy h0 h1 h2 h3 h4 h5 h6 h7 h8 h9) sz) := by
  refine Met.ofW (cc := cX10_digit) (maxL := 3) (ret := some .int) (by decide) rfl ?_
  intro p e s m args below meth c s₁ B hml hv
  obtain ⟨rfl, hsz, hP, hK, hD0⟩ := hv
  have hx := B.exec
  have hb := B.bytes
  have hr := B.returns
  have hts := atoms_spec (ws := (Cond.code yX10_digit cX10_digit 3 (some .int) :: GT)) B.pre
  have ht : ∀ w ∈ GT, w.before _ s = true := fun w h => hts w (List.mem_cons_of_mem _ h)
  have hown : s.vm.findClass RX10 = some m.cls := findClass_of_methodNamed B.named
  have hlocks := B.notSynchronized
  subst hsz
  have hD := hD0.self (sz := s.heap.size)
  generalize hAe : va_A (w93 cy h0 h1 h2 h3 h4 h5 h6 h7 h8 h9) s.heap.size = A at hD ⊢
  have hA : ∀ q : Nat, s.heap.size ≤ q → A q := fun q h => by rw [← hAe]; exact Or.inr h
  have hS : va_S A s.heap s.heap [] := va_S.rf
  have hD : va_D A ([(h0, .inr (9, [.ref h1, .ref h2, .ref h3, .null, .int 0, .ref h4, .int 0, .int 0, .int 0, .ref h5, .ref h6, .ref h7, .int 0, .int 0, .int 0, .ref h8, .ref h9]))]) := hD
  have hP : va_P D classes ([(h0, .inr (9, [.ref h1, .ref h2, .ref h3, .null, .int 0, .ref h4, .int 0, .int 0, .int 0, .ref h5, .ref h6, .ref h7, .int 0, .int 0, .int 0, .ref h8, .ref h9]))]) s.heap := hP
  have hl := lv_entry ([.ref h0, .int 1, .int 9]) (n := 3) (Nat.le_of_ble_eq_true rfl)
  rw [lg_entry_eq]
  generalize (lg_sl ([.ref h0, .int 1, .int 9]) ++ List.replicate (3 - (lg_sl ([.ref h0, .int 1, .int 9])).length) Slot.unset).toArray = ls at hl ⊢
  have hl : lv_has ls 3 [(0, .ref h0), (1, .int 1), (2, .int 9)] := hl
  refine lv_aload_n hx hb dX10_digit_0 rfl (lv_at hl 0 rfl) ?_
  refine lv_aload_n hx hb dX10_digit_1 rfl (lv_at hl 0 rfl) ?_
  refine va_get (D := D) (ci := 9) (v := .int 0) (C := RX10) (T := TX10) (N := 17) hx hb hts i_X10 hown hK.1 hP 0 rfl rfl 8 (by decide) (ht _ kt_857) (fun _ h9 => h9) rfl dX10_digit_2 ?_
  refine lv_if_ne (tgt := 26) hx hb dX10_digit_5 (by decide) (fun c1 => absurd c1 (by decide)) (fun _ => ?_)
  refine lv_aload_n hx hb dX10_digit_8 rfl (lv_at hl 0 rfl) ?_
  refine vp_callSi (va_Run.run (va_runV (As := []) (rest := [.ref h0]) ⟨hx, hb, hml, hown, hts⟩ (c91_X10_here l D cy h0 h1 h2 h3 h4 h5 h6 h7 h8 h9) (cwV 0 hts (gt_V kt_981 kt_983 kp_36 kt_8 kt_984) rfl rfl rfl (by decide +kernel) ⟨Nat.le_of_ble_eq_true rfl, Nat.le_of_ble_eq_true rfl⟩) (gP_V hK (hP.sub (ws' := (w91 cy h0 h1 h2 h3 h4 h5 h6 h7 h8 h9)) [0] rfl) hP (ci := 9) (q0 := 0) rfl rfl) rfl rfl hl.1 rfl (lv_room (Nat.le_of_ble_eq_true rfl)) dX10_digit_9 ⟨Nat.le_of_ble_eq_true rfl, Nat.le_of_ble_eq_true rfl⟩)) (fun r2 hw3 => ?_)
  obtain rfl : r2 = (-1) := hw3
  refine lv_bipush (v := 48) hx hb dX10_digit_12 (by decide) ?_
  refine lv_iload_n hx hb dX10_digit_14 rfl (lv_at hl 1 rfl) ?_
  refine lv_iadd hx hb dX10_digit_15 ?_
  refine lz_i 49 (by decide) ?_
  refine lv_bipush (v := 48) hx hb dX10_digit_16 (by decide) ?_
  refine lv_iload_n hx hb dX10_digit_18 rfl (lv_at hl 2 rfl) ?_
  refine lv_iadd hx hb dX10_digit_19 ?_
  refine lz_i 57 (by decide) ?_
  refine vp_callSi (va_Run.run (va_runS (As := [.int (-1), .int 49, .int 57]) (rest := [.ref h0]) ⟨hx, hb, hml, hown, hts⟩ (c92_X10_in l D cy) (va_cwS 3 hts (gt_S kt_905 kt_906 kt_8 kt_907) rfl rfl rfl (by decide +kernel) ⟨Nat.le_of_ble_eq_true rfl, Nat.le_of_ble_eq_true rfl⟩) (gP_S hK (hP.sub (ws' := (w92 cy)) [] rfl)) rfl rfl hl.1 rfl (lv_room (Nat.le_of_ble_eq_true rfl)) dX10_digit_20 ⟨Nat.le_of_ble_eq_true rfl, Nat.le_of_ble_eq_true rfl⟩)) (fun r4 hw5 => ?_)
  obtain rfl : r4 = 0 := hw5
  refine lv_if_ne (tgt := 30) hx hb dX10_digit_23 (by decide) (fun c6 => absurd c6 (by decide)) (fun _ => ?_)
  refine lv_iconst (v := 1) hx hb dX10_digit_26 (by decide) ?_
  refine lv_goto (tgt := 31) hx hb dX10_digit_27 (by decide) ?_
  refine va_put (D := D) (ci := 9) (v := .int 1) (ty := .boolean) (C := RX10) (T := TX10) (N := 17) hx hb hts i_X10 tyX10 tyX10_ok nmX10 hown hK.1 hP hD hS 0 rfl rfl 8 (by decide) (ht _ kt_857) (fun _ h9 => h9) rfl (by decide +kernel) rfl rfl (Nat.le_of_ble_eq_true rfl) dX10_digit_31 (fun H locs hP hD hS => ?_)
  have hP : va_P D classes ([(h0, .inr (9, [.ref h1, .ref h2, .ref h3, .null, .int 0, .ref h4, .int 0, .int 0, .int 1, .ref h5, .ref h6, .ref h7, .int 0, .int 0, .int 0, .ref h8, .ref h9]))]) H := hP
  have hD : va_D A ([(h0, .inr (9, [.ref h1, .ref h2, .ref h3, .null, .int 0, .ref h4, .int 0, .int 0, .int 1, .ref h5, .ref h6, .ref h7, .int 0, .int 0, .int 0, .ref h8, .ref h9]))]) := hD
  refine lv_aload_n hx hb dX10_digit_34 rfl (lv_at hl 0 rfl) ?_
  refine lv_dup hx hb dX10_digit_35 rfl ?_
  refine va_get (D := D) (ci := 9) (v := .int 0) (C := RX10) (T := TX10) (N := 17) hx hb hts i_X10 hown hK.1 hP 0 rfl rfl 7 (by decide) (ht _ kt_856) (fun _ h9 => h9) rfl dX10_digit_36 ?_
  refine lv_aload_n hx hb dX10_digit_39 rfl (lv_at hl 0 rfl) ?_
  refine va_get (D := D) (ci := 9) (v := .int 1) (C := RX10) (T := TX10) (N := 17) hx hb hts i_X10 hown hK.1 hP 0 rfl rfl 8 (by decide) (ht _ kt_857) (fun _ h9 => h9) rfl dX10_digit_40 ?_
  refine lv_if_eq (tgt := 50) hx hb dX10_digit_43 (by decide) (fun c7 => absurd c7 (by decide)) (fun _ => ?_)
  refine lv_iconst (v := 0) hx hb dX10_digit_46 (by decide) ?_
  refine lv_goto (tgt := 51) hx hb dX10_digit_47 (by decide) ?_
  refine lv_iadd hx hb dX10_digit_51 ?_
  refine lz_i 0 (by decide) ?_
  refine va_put (D := D) (ci := 9) (v := .int 0) (ty := .int) (C := RX10) (T := TX10) (N := 17) hx hb hts i_X10 tyX10 tyX10_ok nmX10 hown hK.1 hP hD hS 0 rfl rfl 7 (by decide) (ht _ kt_856) (fun _ h9 => h9) rfl (by decide +kernel) rfl rfl (Nat.le_of_ble_eq_true rfl) dX10_digit_52 (fun H locs hP hD hS => ?_)
  have hP : va_P D classes ([(h0, .inr (9, [.ref h1, .ref h2, .ref h3, .null, .int 0, .ref h4, .int 0, .int 0, .int 1, .ref h5, .ref h6, .ref h7, .int 0, .int 0, .int 0, .ref h8, .ref h9]))]) H := hP
  have hD : va_D A ([(h0, .inr (9, [.ref h1, .ref h2, .ref h3, .null, .int 0, .ref h4, .int 0, .int 0, .int 1, .ref h5, .ref h6, .ref h7, .int 0, .int 0, .int 0, .ref h8, .ref h9]))]) := hD
  refine lv_aload_n hx hb dX10_digit_55 rfl (lv_at hl 0 rfl) ?_
  refine va_get (D := D) (ci := 9) (v := .int 1) (C := RX10) (T := TX10) (N := 17) hx hb hts i_X10 hown hK.1 hP 0 rfl rfl 8 (by decide) (ht _ kt_857) (fun _ h9 => h9) rfl dX10_digit_56 ?_
  refine lv_if_eq (tgt := 66) hx hb dX10_digit_59 (by decide) (fun c8 => absurd c8 (by decide)) (fun _ => ?_)
  refine lv_iconst (v := 0) hx hb dX10_digit_62 (by decide) ?_
  refine lv_goto (tgt := 84) hx hb dX10_digit_63 (by decide) ?_
  refine W.widen (k := 0) (n := 0) (Nat.le_of_ble_eq_true rfl) (Nat.le_of_ble_eq_true rfl) ?_
  have hP9 := hP.sub (ws' := [(h0, .inr (9, [.ref h1, .ref h2, .ref h3, .null, .int 0, .ref h4, .int 0, .int 0, .int 1, .ref h5, .ref h6, .ref h7, .int 0, .int 0, .int 0, .ref h8, .ref h9]))]) [0] rfl
  have hD9 := hD.sub (ws' := [(h0, .inr (9, [.ref h1, .ref h2, .ref h3, .null, .int 0, .ref h4, .int 0, .int 0, .int 1, .ref h5, .ref h6, .ref h7, .int 0, .int 0, .int 0, .ref h8, .ref h9]))]) [0] (by decide +kernel) rfl
  exact W.iret (v := 0) hx hb hr (fun t ht2 hW => ⟨⟨0, (fun k => ([] : List Nat).getD k 0), rfl, rfl, by rw [ht2]; exact hP9, hD9⟩, hS.F ht2⟩) hS.2.2 dX10_digit_84
def w94 (cy : Nat → ClassId) (h0 h1 h2 h3 h4 h5 h6 h7 h8 h9 : Nat) : va_W := [(h0, .inr (9, [.ref h1, .ref h2, .ref h3, .null, .int 0, .ref h4, .int 0, .int 0, .int 0, .ref h5, .ref h6, .ref h7, .int 0, .int 0, .int 0, .ref h8, .ref h9]))]
def vw94 (cy : Nat → ClassId) (h0 h1 h2 h3 h4 h5 h6 h7 h8 h9 : Nat) (u : Nat → Nat) : va_W := [(h0, .inr (9, [.ref h1, .ref h2, .ref h3, .null, .int 0, .ref h4, .int 0, .int 0, .int 1, .ref h5, .ref h6, .ref h7, .int 0, .int 0, .int 0, .ref h8, .ref h9]))]
set_option maxHeartbeats 4000000 in
set_option maxRecDepth 100000 in
theorem c94_X10_small (l : Launch) (D : va_G) (cy : Nat → ClassId) (h0 h1 h2 h3 h4 h5 h6 h7 h8 h9 : Nat) (sz : Nat) : Met l yX10_small (Cond.code yX10_small cX10_small 4 (some .int) :: GT) ({ frames := 2, cells := 0, slots := 0, locals := 44 }) (gN D cy (w94 cy h0 h1 h2 h3 h4 h5 h6 h7 h8 h9) [.ref h0, .int 1, .int 99] sz) (va_Qi (fun (r : Int32) (_ : Nat → Nat) => r = 0) (fun u t => va_P D classes (vw94 cy h0 h1 h2 h3 h4 h5 h6 h7 h8 h9 u) t.heap ∧ va_D (va_A (w94 cy h0 h1 h2 h3 h4 h5 h6 h7 h8 h9) sz) (vw94 cy h0 h1 h2 h3 h4 h5 h6 h7 h8 h9 u)) (va_A (w94 cy h0 h1 h2 h3 h4 h5 h6 h7 h8 h9) sz)) 0 0 (va_A (w94 cy h0 h1 h2 h3 h4 h5 h6 h7 h8 h9) sz) := by
  refine Met.ofW (cc := cX10_small) (maxL := 4) (ret := some .int) (by decide) rfl ?_
  intro p e s m args below meth c s₁ B hml hv
  obtain ⟨rfl, hsz, hP, hK, hD0⟩ := hv
  have hx := B.exec
  have hb := B.bytes
  have hr := B.returns
  have hts := atoms_spec (ws := (Cond.code yX10_small cX10_small 4 (some .int) :: GT)) B.pre
  have ht : ∀ w ∈ GT, w.before _ s = true := fun w h => hts w (List.mem_cons_of_mem _ h)
  have hown : s.vm.findClass RX10 = some m.cls := findClass_of_methodNamed B.named
  have hlocks := B.notSynchronized
  subst hsz
  have hD := hD0.self (sz := s.heap.size)
  generalize hAe : va_A (w94 cy h0 h1 h2 h3 h4 h5 h6 h7 h8 h9) s.heap.size = A at hD ⊢
  have hA : ∀ q : Nat, s.heap.size ≤ q → A q := fun q h => by rw [← hAe]; exact Or.inr h
  have hS : va_S A s.heap s.heap [] := va_S.rf
  have hD : va_D A ([(h0, .inr (9, [.ref h1, .ref h2, .ref h3, .null, .int 0, .ref h4, .int 0, .int 0, .int 0, .ref h5, .ref h6, .ref h7, .int 0, .int 0, .int 0, .ref h8, .ref h9]))]) := hD
  have hP : va_P D classes ([(h0, .inr (9, [.ref h1, .ref h2, .ref h3, .null, .int 0, .ref h4, .int 0, .int 0, .int 0, .ref h5, .ref h6, .ref h7, .int 0, .int 0, .int 0, .ref h8, .ref h9]))]) s.heap := hP
  have hl := lv_entry ([.ref h0, .int 1, .int 99]) (n := 4) (Nat.le_of_ble_eq_true rfl)
  rw [lg_entry_eq]
  generalize (lg_sl ([.ref h0, .int 1, .int 99]) ++ List.replicate (4 - (lg_sl ([.ref h0, .int 1, .int 99])).length) Slot.unset).toArray = ls at hl ⊢
  have hl : lv_has ls 4 [(0, .ref h0), (1, .int 1), (2, .int 99)] := hl
  refine lv_aload_n hx hb dX10_small_0 rfl (lv_at hl 0 rfl) ?_
  refine lv_iload_n hx hb dX10_small_1 rfl (lv_at hl 1 rfl) ?_
  refine lv_bipush (v := 9) hx hb dX10_small_2 (by decide) ?_
  refine lv_iload_n hx hb dX10_small_4 rfl (lv_at hl 2 rfl) ?_
  refine va_mmin hx hb (hml.trans hl.1.symm) hown (ht _ kt_976) (ht _ kt_415) (ht _ kt_12) (ht _ kt_416) (Nat.le_of_ble_eq_true rfl) (Nat.le_of_ble_eq_true rfl) (Nat.le_of_ble_eq_true rfl) (Nat.le_of_ble_eq_true rfl) dX10_small_5 ?_
  refine lz_i 9 (by decide) ?_
  have hPc := hP.sub (ws' := (w93 cy h0 h1 h2 h3 h4 h5 h6 h7 h8 h9)) [0] rfl
  have hDc := hD.sub (ws' := (w93 cy h0 h1 h2 h3 h4 h5 h6 h7 h8 h9)) [0] (by decide +kernel) rfl
  have hFc := va_free (wc := (w93 cy h0 h1 h2 h3 h4 h5 h6 h7 h8 h9)) hD hS hA [0] rfl
  refine va_calli (va_runV (As := [.int 1, .int 9]) (rest := []) ⟨hx, hb, hml, hown, hts⟩ (c93_X10_digit l D cy h0 h1 h2 h3 h4 h5 h6 h7 h8 h9 s.heap.size) (cwV 2 hts (gt_V kt_977 kt_979 kp_35 kt_8 kt_980) rfl rfl rfl (by decide +kernel) ⟨Nat.le_of_ble_eq_true rfl, Nat.le_of_ble_eq_true rfl⟩) (gN_V hK hPc hDc hP (ci := 9) (q0 := 0) rfl rfl) rfl rfl hl.1 rfl (lv_room (Nat.le_of_ble_eq_true rfl)) dX10_small_8 ⟨Nat.le_of_ble_eq_true rfl, Nat.le_of_ble_eq_true rfl⟩) hS (fun q _ h => hFc q h) hFc (fun r1 u3 t H1 locs ht2 hvm hw2 hB hz1 hk1 hS => ?_)
  obtain ⟨hP1, hD1⟩ := hB
  rw [ht2] at hP1
  obtain ⟨hP, hD⟩ := va_join (wr := ([] : va_W)) (w1 := (vw93 cy h0 h1 h2 h3 h4 h5 h6 h7 h8 h9 u3)) hP hD [0] [] rfl rfl (by decide +kernel) (by decide +kernel) hk1 hFc hP1 hD1
  generalize H1 = H at hP hS ⊢
  have hP : va_P D classes ([(h0, .inr (9, [.ref h1, .ref h2, .ref h3, .null, .int 0, .ref h4, .int 0, .int 0, .int 1, .ref h5, .ref h6, .ref h7, .int 0, .int 0, .int 0, .ref h8, .ref h9]))]) H := hP
  have hD : va_D A ([(h0, .inr (9, [.ref h1, .ref h2, .ref h3, .null, .int 0, .ref h4, .int 0, .int 0, .int 1, .ref h5, .ref h6, .ref h7, .int 0, .int 0, .int 0, .ref h8, .ref h9]))]) := hD
  refine W.widen (k := 0) (n := 0) (Nat.le_of_ble_eq_true rfl) (Nat.le_of_ble_eq_true rfl) ?_
  obtain rfl : r1 = 0 := hw2
  refine lv_istore_n (lv' := [(3, .int 0), (0, .ref h0), (1, .int 1), (2, .int 99)]) hx hb dX10_small_11 rfl hl (by decide) rfl (fun ls hl => ?_)
  refine lv_aload_n hx hb dX10_small_12 rfl (lv_at hl 1 rfl) ?_
  refine va_get (D := D) (ci := 9) (v := .int 1) (C := RX10) (T := TX10) (N := 17) hx hb hts i_X10 hown hK.1 hP 0 rfl rfl 8 (by decide) (ht _ kt_857) (fun _ h9 => h9) rfl dX10_small_13 ?_
  refine lv_if_ne (tgt := 66) hx hb dX10_small_16 (by decide) (fun _ => ?_) (fun c4 => absurd c4 (by decide))
  refine lv_iload_n hx hb dX10_small_66 rfl (lv_at hl 0 rfl) ?_
  refine W.widen (k := 0) (n := 0) (Nat.le_of_ble_eq_true rfl) (Nat.le_of_ble_eq_true rfl) ?_
  have hP9 := hP.sub (ws' := [(h0, .inr (9, [.ref h1, .ref h2, .ref h3, .null, .int 0, .ref h4, .int 0, .int 0, .int 1, .ref h5, .ref h6, .ref h7, .int 0, .int 0, .int 0, .ref h8, .ref h9]))]) [0] rfl
  have hD9 := hD.sub (ws' := [(h0, .inr (9, [.ref h1, .ref h2, .ref h3, .null, .int 0, .ref h4, .int 0, .int 0, .int 1, .ref h5, .ref h6, .ref h7, .int 0, .int 0, .int 0, .ref h8, .ref h9]))]) [0] (by decide +kernel) rfl
  exact W.iret (v := 0) hx hb hr (fun t ht2 hW => ⟨⟨0, (fun k => ([] : List Nat).getD k 0), rfl, rfl, by rw [ht2]; exact hP9, hD9⟩, hS.F ht2⟩) hS.2.2 dX10_small_67
def w95 (cy : Nat → ClassId) (h0 h1 h2 h3 h4 h5 h6 h7 h8 h9 : Nat) : va_W := [(h0, .inr (9, [.ref h1, .ref h2, .ref h3, .null, .int 0, .ref h4, .int 0, .int 0, .int 1, .ref h5, .ref h6, .ref h7, .int 0, .int 0, .int 0, .ref h8, .ref h9]))]
def vw95 (cy : Nat → ClassId) (h0 h1 h2 h3 h4 h5 h6 h7 h8 h9 : Nat) (u : Nat → Nat) : va_W := [(h0, .inr (9, [.ref h1, .ref h2, .ref h3, .null, .int 0, .ref h4, .int 0, .int 0, .int 1, .ref h5, .ref h6, .ref h7, .int 0, .int 0, .int 0, .ref h8, .ref h9]))]
set_option maxHeartbeats 4000000 in
set_option maxRecDepth 100000 in
theorem c95_X10_take (l : Launch) (D : va_G) (cy : Nat → ClassId) (h0 h1 h2 h3 h4 h5 h6 h7 h8 h9 : Nat) (sz : Nat) : Met l yX10_take (Cond.code yX10_take cX10_take 2 (none) :: GT) ({ frames := 0, cells := 0, slots := 0, locals := 0 }) (gN D cy (w95 cy h0 h1 h2 h3 h4 h5 h6 h7 h8 h9) [.ref h0, .int 58] sz) (va_Qv (fun _ : Nat → Nat => True) (fun u t => va_P D classes (vw95 cy h0 h1 h2 h3 h4 h5 h6 h7 h8 h9 u) t.heap ∧ va_D (va_A (w95 cy h0 h1 h2 h3 h4 h5 h6 h7 h8 h9) sz) (vw95 cy h0 h1 h2 h3 h4 h5 h6 h7 h8 h9 u)) (va_A (w95 cy h0 h1 h2 h3 h4 h5 h6 h7 h8 h9) sz)) 0 0 (va_A (w95 cy h0 h1 h2 h3 h4 h5 h6 h7 h8 h9) sz) := by
  refine Met.ofW (cc := cX10_take) (maxL := 2) (ret := none) (by decide) rfl ?_
  intro p e s m args below meth c s₁ B hml hv
  obtain ⟨rfl, hsz, hP, hK, hD0⟩ := hv
  have hx := B.exec
  have hb := B.bytes
  have hr := B.returns
  have hts := atoms_spec (ws := (Cond.code yX10_take cX10_take 2 (none) :: GT)) B.pre
  have ht : ∀ w ∈ GT, w.before _ s = true := fun w h => hts w (List.mem_cons_of_mem _ h)
  have hown : s.vm.findClass RX10 = some m.cls := findClass_of_methodNamed B.named
  have hlocks := B.notSynchronized
  subst hsz
  have hD := hD0.self (sz := s.heap.size)
  generalize hAe : va_A (w95 cy h0 h1 h2 h3 h4 h5 h6 h7 h8 h9) s.heap.size = A at hD ⊢
  have hA : ∀ q : Nat, s.heap.size ≤ q → A q := fun q h => by rw [← hAe]; exact Or.inr h
  have hS : va_S A s.heap s.heap [] := va_S.rf
  have hD : va_D A ([(h0, .inr (9, [.ref h1, .ref h2, .ref h3, .null, .int 0, .ref h4, .int 0, .int 0, .int 1, .ref h5, .ref h6, .ref h7, .int 0, .int 0, .int 0, .ref h8, .ref h9]))]) := hD
  have hP : va_P D classes ([(h0, .inr (9, [.ref h1, .ref h2, .ref h3, .null, .int 0, .ref h4, .int 0, .int 0, .int 1, .ref h5, .ref h6, .ref h7, .int 0, .int 0, .int 0, .ref h8, .ref h9]))]) s.heap := hP
  have hl := lv_entry ([.ref h0, .int 58]) (n := 2) (Nat.le_of_ble_eq_true rfl)
  rw [lg_entry_eq]
  generalize (lg_sl ([.ref h0, .int 58]) ++ List.replicate (2 - (lg_sl ([.ref h0, .int 58])).length) Slot.unset).toArray = ls at hl ⊢
  have hl : lv_has ls 2 [(0, .ref h0), (1, .int 58)] := hl
  refine lv_aload_n hx hb dX10_take_0 rfl (lv_at hl 0 rfl) ?_
  refine lv_aload_n hx hb dX10_take_1 rfl (lv_at hl 0 rfl) ?_
  refine va_get (D := D) (ci := 9) (v := .int 1) (C := RX10) (T := TX10) (N := 17) hx hb hts i_X10 hown hK.1 hP 0 rfl rfl 8 (by decide) (ht _ kt_857) (fun _ h9 => h9) rfl dX10_take_2 ?_
  refine lv_if_ne (tgt := 16) hx hb dX10_take_5 (by decide) (fun _ => ?_) (fun c1 => absurd c1 (by decide))
  refine lv_iconst (v := 1) hx hb dX10_take_16 (by decide) ?_
  refine lv_goto (tgt := 21) hx hb dX10_take_17 (by decide) ?_
  refine va_put (D := D) (ci := 9) (v := .int 1) (ty := .boolean) (C := RX10) (T := TX10) (N := 17) hx hb hts i_X10 tyX10 tyX10_ok nmX10 hown hK.1 hP hD hS 0 rfl rfl 8 (by decide) (ht _ kt_857) (fun _ h9 => h9) rfl (by decide +kernel) rfl rfl (Nat.le_of_ble_eq_true rfl) dX10_take_21 (fun H locs hP hD hS => ?_)
  have hP : va_P D classes ([(h0, .inr (9, [.ref h1, .ref h2, .ref h3, .null, .int 0, .ref h4, .int 0, .int 0, .int 1, .ref h5, .ref h6, .ref h7, .int 0, .int 0, .int 0, .ref h8, .ref h9]))]) H := hP
  have hD : va_D A ([(h0, .inr (9, [.ref h1, .ref h2, .ref h3, .null, .int 0, .ref h4, .int 0, .int 0, .int 1, .ref h5, .ref h6, .ref h7, .int 0, .int 0, .int 0, .ref h8, .ref h9]))]) := hD
  refine lv_aload_n hx hb dX10_take_24 rfl (lv_at hl 0 rfl) ?_
  refine lv_dup hx hb dX10_take_25 rfl ?_
  refine va_get (D := D) (ci := 9) (v := .int 0) (C := RX10) (T := TX10) (N := 17) hx hb hts i_X10 hown hK.1 hP 0 rfl rfl 7 (by decide) (ht _ kt_856) (fun _ h9 => h9) rfl dX10_take_26 ?_
  refine lv_aload_n hx hb dX10_take_29 rfl (lv_at hl 0 rfl) ?_
  refine va_get (D := D) (ci := 9) (v := .int 1) (C := RX10) (T := TX10) (N := 17) hx hb hts i_X10 hown hK.1 hP 0 rfl rfl 8 (by decide) (ht _ kt_857) (fun _ h9 => h9) rfl dX10_take_30 ?_
  refine lv_if_eq (tgt := 40) hx hb dX10_take_33 (by decide) (fun c2 => absurd c2 (by decide)) (fun _ => ?_)
  refine lv_iconst (v := 0) hx hb dX10_take_36 (by decide) ?_
  refine lv_goto (tgt := 41) hx hb dX10_take_37 (by decide) ?_
  refine lv_iadd hx hb dX10_take_41 ?_
  refine lz_i 0 (by decide) ?_
  refine va_put (D := D) (ci := 9) (v := .int 0) (ty := .int) (C := RX10) (T := TX10) (N := 17) hx hb hts i_X10 tyX10 tyX10_ok nmX10 hown hK.1 hP hD hS 0 rfl rfl 7 (by decide) (ht _ kt_856) (fun _ h9 => h9) rfl (by decide +kernel) rfl rfl (Nat.le_of_ble_eq_true rfl) dX10_take_42 (fun H locs hP hD hS => ?_)
  have hP : va_P D classes ([(h0, .inr (9, [.ref h1, .ref h2, .ref h3, .null, .int 0, .ref h4, .int 0, .int 0, .int 1, .ref h5, .ref h6, .ref h7, .int 0, .int 0, .int 0, .ref h8, .ref h9]))]) H := hP
  have hD : va_D A ([(h0, .inr (9, [.ref h1, .ref h2, .ref h3, .null, .int 0, .ref h4, .int 0, .int 0, .int 1, .ref h5, .ref h6, .ref h7, .int 0, .int 0, .int 0, .ref h8, .ref h9]))]) := hD
  refine W.widen (k := 0) (n := 0) (Nat.le_of_ble_eq_true rfl) (Nat.le_of_ble_eq_true rfl) ?_
  have hP9 := hP.sub (ws' := [(h0, .inr (9, [.ref h1, .ref h2, .ref h3, .null, .int 0, .ref h4, .int 0, .int 0, .int 1, .ref h5, .ref h6, .ref h7, .int 0, .int 0, .int 0, .ref h8, .ref h9]))]) [0] rfl
  have hD9 := hD.sub (ws' := [(h0, .inr (9, [.ref h1, .ref h2, .ref h3, .null, .int 0, .ref h4, .int 0, .int 0, .int 1, .ref h5, .ref h6, .ref h7, .int 0, .int 0, .int 0, .ref h8, .ref h9]))]) [0] (by decide +kernel) rfl
  exact W.vret hx hb hr (fun t ht2 hW => ⟨⟨(fun k => ([] : List Nat).getD k 0), rfl, trivial, by rw [ht2]; exact hP9, hD9⟩, hS.F ht2⟩) hS.2.2 dX10_take_45
def w96 (cy : Nat → ClassId) (h0 h1 h2 h3 h4 h5 h6 h7 h8 h9 : Nat) : va_W := [(h0, .inr (9, [.ref h1, .ref h2, .ref h3, .null, .int 0, .ref h4, .int 0, .int 0, .int 1, .ref h5, .ref h6, .ref h7, .int 0, .int 0, .int 0, .ref h8, .ref h9]))]
set_option maxHeartbeats 4000000 in
set_option maxRecDepth 100000 in
theorem c96_X10_here (l : Launch) (D : va_G) (cy : Nat → ClassId) (h0 h1 h2 h3 h4 h5 h6 h7 h8 h9 : Nat) : Met l yX10_here (Cond.code yX10_here cX10_here 1 (some .int) :: GT) ({ frames := 0, cells := 0, slots := 0, locals := 0 }) (gP D cy (w96 cy h0 h1 h2 h3 h4 h5 h6 h7 h8 h9) [.ref h0]) (vp_Si (fun r => r = (-1))) 0 0 (fun _ => False) := by
  refine Met.ofW (cc := cX10_here) (maxL := 1) (ret := some .int) (by decide) rfl ?_
  intro p e s m args below meth c s₁ B hml hv
  obtain ⟨rfl, hP, hK⟩ := hv
  have hx := B.exec
  have hb := B.bytes
  have hr := B.returns
  have hts := atoms_spec (ws := (Cond.code yX10_here cX10_here 1 (some .int) :: GT)) B.pre
  have ht : ∀ w ∈ GT, w.before _ s = true := fun w h => hts w (List.mem_cons_of_mem _ h)
  have hown : s.vm.findClass RX10 = some m.cls := findClass_of_methodNamed B.named
  have hlocks := B.notSynchronized
  have hP : va_P D classes ([(h0, .inr (9, [.ref h1, .ref h2, .ref h3, .null, .int 0, .ref h4, .int 0, .int 0, .int 1, .ref h5, .ref h6, .ref h7, .int 0, .int 0, .int 0, .ref h8, .ref h9]))]) s.heap := hP
  have hl := lv_entry ([.ref h0]) (n := 1) (Nat.le_of_ble_eq_true rfl)
  rw [lg_entry_eq]
  generalize (lg_sl ([.ref h0]) ++ List.replicate (1 - (lg_sl ([.ref h0])).length) Slot.unset).toArray = ls at hl ⊢
  have hl : lv_has ls 1 [(0, .ref h0)] := hl
  refine lv_aload_n hx hb dX10_here_0 rfl (lv_at hl 0 rfl) ?_
  refine va_get (D := D) (ci := 9) (v := .int 0) (C := RX10) (T := TX10) (N := 17) hx hb hts i_X10 hown hK.1 hP 0 rfl rfl 7 (by decide) (ht _ kt_856) (fun _ h9 => h9) rfl dX10_here_1 ?_
  refine lv_aload_n hx hb dX10_here_4 rfl (lv_at hl 0 rfl) ?_
  refine va_get (D := D) (ci := 9) (v := .int 0) (C := RX10) (T := TX10) (N := 17) hx hb hts i_X10 hown hK.1 hP 0 rfl rfl 6 (by decide) (ht _ kt_855) (fun _ h9 => h9) rfl dX10_here_5 ?_
  refine lv_icmp_ge (tgt := 27) hx hb dX10_here_8 (by decide) (fun _ => ?_) (fun c1 => absurd c1 (by decide))
  refine lv_iconst (v := (-1)) hx hb dX10_here_27 (by decide) ?_
  exact W.iret (v := (-1)) hx hb hr (fun t ht2 hW => ⟨(-1), rfl, rfl, ht2⟩) (fun q h => by cases h) dX10_here_28
def w97 (cy : Nat → ClassId) (h0 h1 h2 h3 h4 h5 h6 h7 h8 h9 : Nat) : va_W := [(h0, .inr (9, [.ref h1, .ref h2, .ref h3, .null, .int 0, .ref h4, .int 0, .int 0, .int 1, .ref h5, .ref h6, .ref h7, .int 0, .int 0, .int 0, .ref h8, .ref h9]))]
def vw97 (cy : Nat → ClassId) (h0 h1 h2 h3 h4 h5 h6 h7 h8 h9 : Nat) (u : Nat → Nat) : va_W := [(h0, .inr (9, [.ref h1, .ref h2, .ref h3, .null, .int 0, .ref h4, .int 0, .int 0, .int 1, .ref h5, .ref h6, .ref h7, .int 0, .int 0, .int 0, .ref h8, .ref h9]))]
set_option maxHeartbeats 4000000 in
set_option maxRecDepth 100000 in
theorem c97_X10_take (l : Launch) (D : va_G) (cy : Nat → ClassId) (h0 h1 h2 h3 h4 h5 h6 h7 h8 h9 : Nat) (sz : Nat) : Met l yX10_take (Cond.code yX10_take cX10_take 2 (none) :: GT) ({ frames := 0, cells := 0, slots := 0, locals := 0 }) (gN D cy (w97 cy h0 h1 h2 h3 h4 h5 h6 h7 h8 h9) [.ref h0, .int 46] sz) (va_Qv (fun _ : Nat → Nat => True) (fun u t => va_P D classes (vw97 cy h0 h1 h2 h3 h4 h5 h6 h7 h8 h9 u) t.heap ∧ va_D (va_A (w97 cy h0 h1 h2 h3 h4 h5 h6 h7 h8 h9) sz) (vw97 cy h0 h1 h2 h3 h4 h5 h6 h7 h8 h9 u)) (va_A (w97 cy h0 h1 h2 h3 h4 h5 h6 h7 h8 h9) sz)) 0 0 (va_A (w97 cy h0 h1 h2 h3 h4 h5 h6 h7 h8 h9) sz) := by
  refine Met.ofW (cc := cX10_take) (maxL := 2) (ret := none) (by decide) rfl ?_
  intro p e s m args below meth c s₁ B hml hv
  obtain ⟨rfl, hsz, hP, hK, hD0⟩ := hv
  have hx := B.exec
  have hb := B.bytes
  have hr := B.returns
  have hts := atoms_spec (ws := (Cond.code yX10_take cX10_take 2 (none) :: GT)) B.pre
  have ht : ∀ w ∈ GT, w.before _ s = true := fun w h => hts w (List.mem_cons_of_mem _ h)
  have hown : s.vm.findClass RX10 = some m.cls := findClass_of_methodNamed B.named
  have hlocks := B.notSynchronized
  subst hsz
  have hD := hD0.self (sz := s.heap.size)
  generalize hAe : va_A (w97 cy h0 h1 h2 h3 h4 h5 h6 h7 h8 h9) s.heap.size = A at hD ⊢
  have hA : ∀ q : Nat, s.heap.size ≤ q → A q := fun q h => by rw [← hAe]; exact Or.inr h
  have hS : va_S A s.heap s.heap [] := va_S.rf
  have hD : va_D A ([(h0, .inr (9, [.ref h1, .ref h2, .ref h3, .null, .int 0, .ref h4, .int 0, .int 0, .int 1, .ref h5, .ref h6, .ref h7, .int 0, .int 0, .int 0, .ref h8, .ref h9]))]) := hD
  have hP : va_P D classes ([(h0, .inr (9, [.ref h1, .ref h2, .ref h3, .null, .int 0, .ref h4, .int 0, .int 0, .int 1, .ref h5, .ref h6, .ref h7, .int 0, .int 0, .int 0, .ref h8, .ref h9]))]) s.heap := hP
  have hl := lv_entry ([.ref h0, .int 46]) (n := 2) (Nat.le_of_ble_eq_true rfl)
  rw [lg_entry_eq]
  generalize (lg_sl ([.ref h0, .int 46]) ++ List.replicate (2 - (lg_sl ([.ref h0, .int 46])).length) Slot.unset).toArray = ls at hl ⊢
  have hl : lv_has ls 2 [(0, .ref h0), (1, .int 46)] := hl
  refine lv_aload_n hx hb dX10_take_0 rfl (lv_at hl 0 rfl) ?_
  refine lv_aload_n hx hb dX10_take_1 rfl (lv_at hl 0 rfl) ?_
  refine va_get (D := D) (ci := 9) (v := .int 1) (C := RX10) (T := TX10) (N := 17) hx hb hts i_X10 hown hK.1 hP 0 rfl rfl 8 (by decide) (ht _ kt_857) (fun _ h9 => h9) rfl dX10_take_2 ?_
  refine lv_if_ne (tgt := 16) hx hb dX10_take_5 (by decide) (fun _ => ?_) (fun c1 => absurd c1 (by decide))
  refine lv_iconst (v := 1) hx hb dX10_take_16 (by decide) ?_
  refine lv_goto (tgt := 21) hx hb dX10_take_17 (by decide) ?_
  refine va_put (D := D) (ci := 9) (v := .int 1) (ty := .boolean) (C := RX10) (T := TX10) (N := 17) hx hb hts i_X10 tyX10 tyX10_ok nmX10 hown hK.1 hP hD hS 0 rfl rfl 8 (by decide) (ht _ kt_857) (fun _ h9 => h9) rfl (by decide +kernel) rfl rfl (Nat.le_of_ble_eq_true rfl) dX10_take_21 (fun H locs hP hD hS => ?_)
  have hP : va_P D classes ([(h0, .inr (9, [.ref h1, .ref h2, .ref h3, .null, .int 0, .ref h4, .int 0, .int 0, .int 1, .ref h5, .ref h6, .ref h7, .int 0, .int 0, .int 0, .ref h8, .ref h9]))]) H := hP
  have hD : va_D A ([(h0, .inr (9, [.ref h1, .ref h2, .ref h3, .null, .int 0, .ref h4, .int 0, .int 0, .int 1, .ref h5, .ref h6, .ref h7, .int 0, .int 0, .int 0, .ref h8, .ref h9]))]) := hD
  refine lv_aload_n hx hb dX10_take_24 rfl (lv_at hl 0 rfl) ?_
  refine lv_dup hx hb dX10_take_25 rfl ?_
  refine va_get (D := D) (ci := 9) (v := .int 0) (C := RX10) (T := TX10) (N := 17) hx hb hts i_X10 hown hK.1 hP 0 rfl rfl 7 (by decide) (ht _ kt_856) (fun _ h9 => h9) rfl dX10_take_26 ?_
  refine lv_aload_n hx hb dX10_take_29 rfl (lv_at hl 0 rfl) ?_
  refine va_get (D := D) (ci := 9) (v := .int 1) (C := RX10) (T := TX10) (N := 17) hx hb hts i_X10 hown hK.1 hP 0 rfl rfl 8 (by decide) (ht _ kt_857) (fun _ h9 => h9) rfl dX10_take_30 ?_
  refine lv_if_eq (tgt := 40) hx hb dX10_take_33 (by decide) (fun c2 => absurd c2 (by decide)) (fun _ => ?_)
  refine lv_iconst (v := 0) hx hb dX10_take_36 (by decide) ?_
  refine lv_goto (tgt := 41) hx hb dX10_take_37 (by decide) ?_
  refine lv_iadd hx hb dX10_take_41 ?_
  refine lz_i 0 (by decide) ?_
  refine va_put (D := D) (ci := 9) (v := .int 0) (ty := .int) (C := RX10) (T := TX10) (N := 17) hx hb hts i_X10 tyX10 tyX10_ok nmX10 hown hK.1 hP hD hS 0 rfl rfl 7 (by decide) (ht _ kt_856) (fun _ h9 => h9) rfl (by decide +kernel) rfl rfl (Nat.le_of_ble_eq_true rfl) dX10_take_42 (fun H locs hP hD hS => ?_)
  have hP : va_P D classes ([(h0, .inr (9, [.ref h1, .ref h2, .ref h3, .null, .int 0, .ref h4, .int 0, .int 0, .int 1, .ref h5, .ref h6, .ref h7, .int 0, .int 0, .int 0, .ref h8, .ref h9]))]) H := hP
  have hD : va_D A ([(h0, .inr (9, [.ref h1, .ref h2, .ref h3, .null, .int 0, .ref h4, .int 0, .int 0, .int 1, .ref h5, .ref h6, .ref h7, .int 0, .int 0, .int 0, .ref h8, .ref h9]))]) := hD
  refine W.widen (k := 0) (n := 0) (Nat.le_of_ble_eq_true rfl) (Nat.le_of_ble_eq_true rfl) ?_
  have hP9 := hP.sub (ws' := [(h0, .inr (9, [.ref h1, .ref h2, .ref h3, .null, .int 0, .ref h4, .int 0, .int 0, .int 1, .ref h5, .ref h6, .ref h7, .int 0, .int 0, .int 0, .ref h8, .ref h9]))]) [0] rfl
  have hD9 := hD.sub (ws' := [(h0, .inr (9, [.ref h1, .ref h2, .ref h3, .null, .int 0, .ref h4, .int 0, .int 0, .int 1, .ref h5, .ref h6, .ref h7, .int 0, .int 0, .int 0, .ref h8, .ref h9]))]) [0] (by decide +kernel) rfl
  exact W.vret hx hb hr (fun t ht2 hW => ⟨⟨(fun k => ([] : List Nat).getD k 0), rfl, trivial, by rw [ht2]; exact hP9, hD9⟩, hS.F ht2⟩) hS.2.2 dX10_take_45
def w98 (cy : Nat → ClassId) (h0 h1 h2 h3 h4 h5 h6 h7 h8 h9 : Nat) : va_W := [(h0, .inr (9, [.ref h1, .ref h2, .ref h3, .null, .int 0, .ref h4, .int 0, .int 0, .int 1, .ref h5, .ref h6, .ref h7, .int 0, .int 0, .int 0, .ref h8, .ref h9]))]
def vw98 (cy : Nat → ClassId) (h0 h1 h2 h3 h4 h5 h6 h7 h8 h9 : Nat) (u : Nat → Nat) : va_W := [(h0, .inr (9, [.ref h1, .ref h2, .ref h3, .null, .int 0, .ref h4, .int 0, .int 0, .int 1, .ref h5, .ref h6, .ref h7, .int 0, .int 0, .int 0, .ref h8, .ref h9]))]
set_option maxHeartbeats 4000000 in
set_option maxRecDepth 100000 in
theorem c98_X10_reference (l : Launch) (D : va_G) (cy : Nat → ClassId) (h0 h1 h2 h3 h4 h5 h6 h7 h8 h9 : Nat) (sz : Nat) : Met l yX10_reference (Cond.code yX10_reference cX10_reference 5 (some .int) :: GT) ({ frames := 1, cells := 0, slots := 0, locals := 21 }) (gN D cy (w98 cy h0 h1 h2 h3 h4 h5 h6 h7 h8 h9) [.ref h0, .int (-1), .int (-1)] sz) (va_Qi (fun (r : Int32) (_ : Nat → Nat) => r = (-147)) (fun u t => va_P D classes (vw98 cy h0 h1 h2 h3 h4 h5 h6 h7 h8 h9 u) t.heap ∧ va_D (va_A (w98 cy h0 h1 h2 h3 h4 h5 h6 h7 h8 h9) sz) (vw98 cy h0 h1 h2 h3 h4 h5 h6 h7 h8 h9 u)) (va_A (w98 cy h0 h1 h2 h3 h4 h5 h6 h7 h8 h9) sz)) 0 0 (va_A (w98 cy h0 h1 h2 h3 h4 h5 h6 h7 h8 h9) sz) := by
  refine Met.ofW (cc := cX10_reference) (maxL := 5) (ret := some .int) (by decide) rfl ?_
  intro p e s m args below meth c s₁ B hml hv
  obtain ⟨rfl, hsz, hP, hK, hD0⟩ := hv
  have hx := B.exec
  have hb := B.bytes
  have hr := B.returns
  have hts := atoms_spec (ws := (Cond.code yX10_reference cX10_reference 5 (some .int) :: GT)) B.pre
  have ht : ∀ w ∈ GT, w.before _ s = true := fun w h => hts w (List.mem_cons_of_mem _ h)
  have hown : s.vm.findClass RX10 = some m.cls := findClass_of_methodNamed B.named
  have hlocks := B.notSynchronized
  subst hsz
  have hD := hD0.self (sz := s.heap.size)
  generalize hAe : va_A (w98 cy h0 h1 h2 h3 h4 h5 h6 h7 h8 h9) s.heap.size = A at hD ⊢
  have hA : ∀ q : Nat, s.heap.size ≤ q → A q := fun q h => by rw [← hAe]; exact Or.inr h
  have hS : va_S A s.heap s.heap [] := va_S.rf
  have hD : va_D A ([(h0, .inr (9, [.ref h1, .ref h2, .ref h3, .null, .int 0, .ref h4, .int 0, .int 0, .int 1, .ref h5, .ref h6, .ref h7, .int 0, .int 0, .int 0, .ref h8, .ref h9]))]) := hD
  have hP : va_P D classes ([(h0, .inr (9, [.ref h1, .ref h2, .ref h3, .null, .int 0, .ref h4, .int 0, .int 0, .int 1, .ref h5, .ref h6, .ref h7, .int 0, .int 0, .int 0, .ref h8, .ref h9]))]) s.heap := hP
  have hl := lv_entry ([.ref h0, .int (-1), .int (-1)]) (n := 5) (Nat.le_of_ble_eq_true rfl)
  rw [lg_entry_eq]
  generalize (lg_sl ([.ref h0, .int (-1), .int (-1)]) ++ List.replicate (5 - (lg_sl ([.ref h0, .int (-1), .int (-1)])).length) Slot.unset).toArray = ls at hl ⊢
  have hl : lv_has ls 5 [(0, .ref h0), (1, .int (-1)), (2, .int (-1))] := hl
  refine lv_aload_n hx hb dX10_reference_0 rfl (lv_at hl 0 rfl) ?_
  refine vp_callSi (va_Run.run (va_runV (As := []) (rest := []) ⟨hx, hb, hml, hown, hts⟩ (c96_X10_here l D cy h0 h1 h2 h3 h4 h5 h6 h7 h8 h9) (cwV 0 hts (gt_V kt_981 kt_983 kp_36 kt_8 kt_984) rfl rfl rfl (by decide +kernel) ⟨Nat.le_of_ble_eq_true rfl, Nat.le_of_ble_eq_true rfl⟩) (gP_V hK (hP.sub (ws' := (w96 cy h0 h1 h2 h3 h4 h5 h6 h7 h8 h9)) [0] rfl) hP (ci := 9) (q0 := 0) rfl rfl) rfl rfl hl.1 rfl (lv_room (Nat.le_of_ble_eq_true rfl)) dX10_reference_1 ⟨Nat.le_of_ble_eq_true rfl, Nat.le_of_ble_eq_true rfl⟩)) (fun r1 hw2 => ?_)
  obtain rfl : r1 = (-1) := hw2
  refine lv_bipush (v := 48) hx hb dX10_reference_4 (by decide) ?_
  refine lv_isub hx hb dX10_reference_6 ?_
  refine lz_i (-49) (by decide) ?_
  refine lv_istore_n (lv' := [(3, .int (-49)), (0, .ref h0), (1, .int (-1)), (2, .int (-1))]) hx hb dX10_reference_7 rfl hl (by decide) rfl (fun ls hl => ?_)
  refine lv_aload_n hx hb dX10_reference_8 rfl (lv_at hl 1 rfl) ?_
  refine lv_aload_n hx hb dX10_reference_9 rfl (lv_at hl 1 rfl) ?_
  refine va_get (D := D) (ci := 9) (v := .int 1) (C := RX10) (T := TX10) (N := 17) hx hb hts i_X10 hown hK.1 hP 0 rfl rfl 8 (by decide) (ht _ kt_857) (fun _ h9 => h9) rfl dX10_reference_10 ?_
  refine lv_if_ne (tgt := 38) hx hb dX10_reference_13 (by decide) (fun _ => ?_) (fun c3 => absurd c3 (by decide))
  refine lv_iconst (v := 1) hx hb dX10_reference_38 (by decide) ?_
  refine lv_goto (tgt := 43) hx hb dX10_reference_39 (by decide) ?_
  refine va_put (D := D) (ci := 9) (v := .int 1) (ty := .boolean) (C := RX10) (T := TX10) (N := 17) hx hb hts i_X10 tyX10 tyX10_ok nmX10 hown hK.1 hP hD hS 0 rfl rfl 8 (by decide) (ht _ kt_857) (fun _ h9 => h9) rfl (by decide +kernel) rfl rfl (Nat.le_of_ble_eq_true rfl) dX10_reference_43 (fun H locs hP hD hS => ?_)
  have hP : va_P D classes ([(h0, .inr (9, [.ref h1, .ref h2, .ref h3, .null, .int 0, .ref h4, .int 0, .int 0, .int 1, .ref h5, .ref h6, .ref h7, .int 0, .int 0, .int 0, .ref h8, .ref h9]))]) H := hP
  have hD : va_D A ([(h0, .inr (9, [.ref h1, .ref h2, .ref h3, .null, .int 0, .ref h4, .int 0, .int 0, .int 1, .ref h5, .ref h6, .ref h7, .int 0, .int 0, .int 0, .ref h8, .ref h9]))]) := hD
  refine lv_aload_n hx hb dX10_reference_46 rfl (lv_at hl 1 rfl) ?_
  refine lv_dup hx hb dX10_reference_47 rfl ?_
  refine va_get (D := D) (ci := 9) (v := .int 0) (C := RX10) (T := TX10) (N := 17) hx hb hts i_X10 hown hK.1 hP 0 rfl rfl 7 (by decide) (ht _ kt_856) (fun _ h9 => h9) rfl dX10_reference_48 ?_
  refine lv_aload_n hx hb dX10_reference_51 rfl (lv_at hl 1 rfl) ?_
  refine va_get (D := D) (ci := 9) (v := .int 1) (C := RX10) (T := TX10) (N := 17) hx hb hts i_X10 hown hK.1 hP 0 rfl rfl 8 (by decide) (ht _ kt_857) (fun _ h9 => h9) rfl dX10_reference_52 ?_
  refine lv_if_eq (tgt := 62) hx hb dX10_reference_55 (by decide) (fun c4 => absurd c4 (by decide)) (fun _ => ?_)
  refine lv_iconst (v := 0) hx hb dX10_reference_58 (by decide) ?_
  refine lv_goto (tgt := 63) hx hb dX10_reference_59 (by decide) ?_
  refine lv_iadd hx hb dX10_reference_63 ?_
  refine lz_i 0 (by decide) ?_
  refine va_put (D := D) (ci := 9) (v := .int 0) (ty := .int) (C := RX10) (T := TX10) (N := 17) hx hb hts i_X10 tyX10 tyX10_ok nmX10 hown hK.1 hP hD hS 0 rfl rfl 7 (by decide) (ht _ kt_856) (fun _ h9 => h9) rfl (by decide +kernel) rfl rfl (Nat.le_of_ble_eq_true rfl) dX10_reference_64 (fun H locs hP hD hS => ?_)
  have hP : va_P D classes ([(h0, .inr (9, [.ref h1, .ref h2, .ref h3, .null, .int 0, .ref h4, .int 0, .int 0, .int 1, .ref h5, .ref h6, .ref h7, .int 0, .int 0, .int 0, .ref h8, .ref h9]))]) H := hP
  have hD : va_D A ([(h0, .inr (9, [.ref h1, .ref h2, .ref h3, .null, .int 0, .ref h4, .int 0, .int 0, .int 1, .ref h5, .ref h6, .ref h7, .int 0, .int 0, .int 0, .ref h8, .ref h9]))]) := hD
  refine lv_aload_n hx hb dX10_reference_67 rfl (lv_at hl 1 rfl) ?_
  refine lv_bipush (v := 46) hx hb dX10_reference_68 (by decide) ?_
  have hPc := hP.sub (ws' := (w97 cy h0 h1 h2 h3 h4 h5 h6 h7 h8 h9)) [0] rfl
  have hDc := hD.sub (ws' := (w97 cy h0 h1 h2 h3 h4 h5 h6 h7 h8 h9)) [0] (by decide +kernel) rfl
  have hFc := va_free (wc := (w97 cy h0 h1 h2 h3 h4 h5 h6 h7 h8 h9)) hD hS hA [0] rfl
  refine va_callv (va_runV (As := [.int 46]) (rest := []) ⟨hx, hb, hml, hown, hts⟩ (c97_X10_take l D cy h0 h1 h2 h3 h4 h5 h6 h7 h8 h9 H.size) (cwV 1 hts (gt_V kt_985 kt_987 kp_37 kt_8 kt_988) rfl rfl rfl (by decide +kernel) ⟨Nat.le_of_ble_eq_true rfl, Nat.le_of_ble_eq_true rfl⟩) (gN_V hK hPc hDc hP (ci := 9) (q0 := 0) rfl rfl) rfl rfl hl.1 rfl (lv_room (Nat.le_of_ble_eq_true rfl)) dX10_reference_70 ⟨Nat.le_of_ble_eq_true rfl, Nat.le_of_ble_eq_true rfl⟩) hS (fun q _ h => hFc q h) hFc (fun u7 t H1 locs ht2 hvm hw6 hB hz1 hk1 hS => ?_)
  obtain ⟨hP1, hD1⟩ := hB
  rw [ht2] at hP1
  obtain ⟨hP, hD⟩ := va_join (wr := ([] : va_W)) (w1 := (vw97 cy h0 h1 h2 h3 h4 h5 h6 h7 h8 h9 u7)) hP hD [0] [] rfl rfl (by decide +kernel) (by decide +kernel) hk1 hFc hP1 hD1
  generalize H1 = H at hP hS ⊢
  have hP : va_P D classes ([(h0, .inr (9, [.ref h1, .ref h2, .ref h3, .null, .int 0, .ref h4, .int 0, .int 0, .int 1, .ref h5, .ref h6, .ref h7, .int 0, .int 0, .int 0, .ref h8, .ref h9]))]) H := hP
  have hD : va_D A ([(h0, .inr (9, [.ref h1, .ref h2, .ref h3, .null, .int 0, .ref h4, .int 0, .int 0, .int 1, .ref h5, .ref h6, .ref h7, .int 0, .int 0, .int 0, .ref h8, .ref h9]))]) := hD
  refine W.widen (k := 0) (n := 0) (Nat.le_of_ble_eq_true rfl) (Nat.le_of_ble_eq_true rfl) ?_
  refine lv_aload_n hx hb dX10_reference_73 rfl (lv_at hl 1 rfl) ?_
  refine va_get (D := D) (ci := 9) (v := .int 1) (C := RX10) (T := TX10) (N := 17) hx hb hts i_X10 hown hK.1 hP 0 rfl rfl 8 (by decide) (ht _ kt_857) (fun _ h9 => h9) rfl dX10_reference_74 ?_
  refine lv_if_eq (tgt := 84) hx hb dX10_reference_77 (by decide) (fun c8 => absurd c8 (by decide)) (fun _ => ?_)
  refine lv_iconst (v := 0) hx hb dX10_reference_80 (by decide) ?_
  refine lv_goto (tgt := 100) hx hb dX10_reference_81 (by decide) ?_
  refine lv_istore (lv' := [(4, .int 0), (3, .int (-49)), (0, .ref h0), (1, .int (-1)), (2, .int (-1))]) hx hb dX10_reference_100 hl (by decide) rfl (fun ls hl => ?_)
  refine lv_iconst (v := 3) hx hb dX10_reference_102 (by decide) ?_
  refine lv_iload_n hx hb dX10_reference_103 rfl (lv_at hl 1 rfl) ?_
  refine lv_imul hx hb dX10_reference_104 ?_
  refine lz_i (-147) (by decide) ?_
  refine lv_iload hx hb dX10_reference_105 (lv_at hl 0 rfl) ?_
  refine lv_iadd hx hb dX10_reference_107 ?_
  refine lz_i (-147) (by decide) ?_
  refine W.widen (k := 0) (n := 0) (Nat.le_of_ble_eq_true rfl) (Nat.le_of_ble_eq_true rfl) ?_
  have hP9 := hP.sub (ws' := [(h0, .inr (9, [.ref h1, .ref h2, .ref h3, .null, .int 0, .ref h4, .int 0, .int 0, .int 1, .ref h5, .ref h6, .ref h7, .int 0, .int 0, .int 0, .ref h8, .ref h9]))]) [0] rfl
  have hD9 := hD.sub (ws' := [(h0, .inr (9, [.ref h1, .ref h2, .ref h3, .null, .int 0, .ref h4, .int 0, .int 0, .int 1, .ref h5, .ref h6, .ref h7, .int 0, .int 0, .int 0, .ref h8, .ref h9]))]) [0] (by decide +kernel) rfl
  exact W.iret (v := (-147)) hx hb hr (fun t ht2 hW => ⟨⟨(-147), (fun k => ([] : List Nat).getD k 0), rfl, rfl, by rw [ht2]; exact hP9, hD9⟩, hS.F ht2⟩) hS.2.2 dX10_reference_108
def w99 (cy : Nat → ClassId) (h0 h1 h2 h3 h4 h5 h6 h7 h8 h9 : Nat) : va_W := [(h0, .inr (9, [.ref h1, .ref h2, .ref h3, .null, .int 0, .ref h4, .int 0, .int 0, .int 0, .ref h5, .ref h6, .ref h7, .int 0, .int 0, .int 0, .ref h8, .ref h9])), (h5, .inl (cy 0, 10, .inl (fun _ => 0)))]
def vw99 (cy : Nat → ClassId) (h0 h1 h2 h3 h4 h5 h6 h7 h8 h9 : Nat) (u : Nat → Nat) : va_W := [(h0, .inr (9, [.ref h1, .ref h2, .ref h3, .null, .int 0, .ref h4, .int 0, .int 0, .int 1, .ref h5, .ref h6, .ref h7, .int 0, .int 0, .int 0, .ref h8, .ref h9])), (h5, .inl (cy 0, 10, .inl (upd (fun _ => 0) 5 (-147))))]
set_option maxHeartbeats 4000000 in
set_option maxRecDepth 100000 in
theorem c99_X10_readText (l : Launch) (D : va_G) (cy : Nat → ClassId) (h0 h1 h2 h3 h4 h5 h6 h7 h8 h9 : Nat) (sz : Nat) : Met l yX10_readText (Cond.code yX10_readText cX10_readText 4 (none) :: GT) ({ frames := 3, cells := 0, slots := 0, locals := 67 }) (gN D cy (w99 cy h0 h1 h2 h3 h4 h5 h6 h7 h8 h9) [.ref h0] sz) (va_Qv (fun _ : Nat → Nat => True) (fun u t => va_P D classes (vw99 cy h0 h1 h2 h3 h4 h5 h6 h7 h8 h9 u) t.heap ∧ va_D (va_A (w99 cy h0 h1 h2 h3 h4 h5 h6 h7 h8 h9) sz) (vw99 cy h0 h1 h2 h3 h4 h5 h6 h7 h8 h9 u)) (va_A (w99 cy h0 h1 h2 h3 h4 h5 h6 h7 h8 h9) sz)) 0 0 (va_A (w99 cy h0 h1 h2 h3 h4 h5 h6 h7 h8 h9) sz) := by
  refine Met.ofW (cc := cX10_readText) (maxL := 4) (ret := none) (by decide) rfl ?_
  intro p e s m args below meth c s₁ B hml hv
  obtain ⟨rfl, hsz, hP, hK, hD0⟩ := hv
  have hx := B.exec
  have hb := B.bytes
  have hr := B.returns
  have hts := atoms_spec (ws := (Cond.code yX10_readText cX10_readText 4 (none) :: GT)) B.pre
  have ht : ∀ w ∈ GT, w.before _ s = true := fun w h => hts w (List.mem_cons_of_mem _ h)
  have hown : s.vm.findClass RX10 = some m.cls := findClass_of_methodNamed B.named
  have hlocks := B.notSynchronized
  subst hsz
  have hD := hD0.self (sz := s.heap.size)
  generalize hAe : va_A (w99 cy h0 h1 h2 h3 h4 h5 h6 h7 h8 h9) s.heap.size = A at hD ⊢
  have hA : ∀ q : Nat, s.heap.size ≤ q → A q := fun q h => by rw [← hAe]; exact Or.inr h
  have hS : va_S A s.heap s.heap [] := va_S.rf
  have hD : va_D A ([(h0, .inr (9, [.ref h1, .ref h2, .ref h3, .null, .int 0, .ref h4, .int 0, .int 0, .int 0, .ref h5, .ref h6, .ref h7, .int 0, .int 0, .int 0, .ref h8, .ref h9])), (h5, .inl (cy 0, 10, .inl (fun _ => 0)))]) := hD
  have hP : va_P D classes ([(h0, .inr (9, [.ref h1, .ref h2, .ref h3, .null, .int 0, .ref h4, .int 0, .int 0, .int 0, .ref h5, .ref h6, .ref h7, .int 0, .int 0, .int 0, .ref h8, .ref h9])), (h5, .inl (cy 0, 10, .inl (fun _ => 0)))]) s.heap := hP
  have hl := lv_entry ([.ref h0]) (n := 4) (Nat.le_of_ble_eq_true rfl)
  rw [lg_entry_eq]
  generalize (lg_sl ([.ref h0]) ++ List.replicate (4 - (lg_sl ([.ref h0])).length) Slot.unset).toArray = ls at hl ⊢
  have hl : lv_has ls 4 [(0, .ref h0)] := hl
  refine lv_aload_n hx hb dX10_readText_0 rfl (lv_at hl 0 rfl) ?_
  refine lv_iconst (v := 0) hx hb dX10_readText_1 (by decide) ?_
  refine va_put (D := D) (ci := 9) (v := .int 0) (ty := .int) (C := RX10) (T := TX10) (N := 17) hx hb hts i_X10 tyX10 tyX10_ok nmX10 hown hK.1 hP hD hS 0 rfl rfl 7 (by decide) (ht _ kt_856) (fun _ h9 => h9) rfl (by decide +kernel) rfl rfl (Nat.le_of_ble_eq_true rfl) dX10_readText_2 (fun H locs hP hD hS => ?_)
  have hP : va_P D classes ([(h0, .inr (9, [.ref h1, .ref h2, .ref h3, .null, .int 0, .ref h4, .int 0, .int 0, .int 0, .ref h5, .ref h6, .ref h7, .int 0, .int 0, .int 0, .ref h8, .ref h9])), (h5, .inl (cy 0, 10, .inl (fun _ => 0)))]) H := hP
  have hD : va_D A ([(h0, .inr (9, [.ref h1, .ref h2, .ref h3, .null, .int 0, .ref h4, .int 0, .int 0, .int 0, .ref h5, .ref h6, .ref h7, .int 0, .int 0, .int 0, .ref h8, .ref h9])), (h5, .inl (cy 0, 10, .inl (fun _ => 0)))]) := hD
  refine lv_aload_n hx hb dX10_readText_5 rfl (lv_at hl 0 rfl) ?_
  refine lv_iconst (v := 0) hx hb dX10_readText_6 (by decide) ?_
  refine va_put (D := D) (ci := 9) (v := .int 0) (ty := .boolean) (C := RX10) (T := TX10) (N := 17) hx hb hts i_X10 tyX10 tyX10_ok nmX10 hown hK.1 hP hD hS 0 rfl rfl 8 (by decide) (ht _ kt_857) (fun _ h9 => h9) rfl (by decide +kernel) rfl rfl (Nat.le_of_ble_eq_true rfl) dX10_readText_7 (fun H locs hP hD hS => ?_)
  have hP : va_P D classes ([(h0, .inr (9, [.ref h1, .ref h2, .ref h3, .null, .int 0, .ref h4, .int 0, .int 0, .int 0, .ref h5, .ref h6, .ref h7, .int 0, .int 0, .int 0, .ref h8, .ref h9])), (h5, .inl (cy 0, 10, .inl (fun _ => 0)))]) H := hP
  have hD : va_D A ([(h0, .inr (9, [.ref h1, .ref h2, .ref h3, .null, .int 0, .ref h4, .int 0, .int 0, .int 0, .ref h5, .ref h6, .ref h7, .int 0, .int 0, .int 0, .ref h8, .ref h9])), (h5, .inl (cy 0, 10, .inl (fun _ => 0)))]) := hD
  refine lv_iconst (v := 0) hx hb dX10_readText_10 (by decide) ?_
  refine lv_istore_n (lv' := [(1, .int 0), (0, .ref h0)]) hx hb dX10_readText_11 rfl hl (by decide) rfl (fun ls hl => ?_)
  refine lv_iload_n hx hb dX10_readText_12 rfl (lv_at hl 0 rfl) ?_
  refine lv_bipush (v := 10) hx hb dX10_readText_13 (by decide) ?_
  refine lv_icmp_ge (tgt := 31) hx hb dX10_readText_15 (by decide) (fun c1 => absurd c1 (by decide)) (fun _ => ?_)
  refine lv_aload_n hx hb dX10_readText_18 rfl (lv_at hl 1 rfl) ?_
  refine va_get (D := D) (ci := 9) (v := .ref h5) (C := RX10) (T := TX10) (N := 17) hx hb hts i_X10 hown hK.1 hP 0 rfl rfl 9 (by decide) (ht _ kt_858) (fun _ h9 => h9) rfl dX10_readText_19 ?_
  refine lv_iload_n hx hb dX10_readText_22 rfl (lv_at hl 0 rfl) ?_
  refine lv_iconst (v := 0) hx hb dX10_readText_23 (by decide) ?_
  refine va_iast hx hb hK.1 hP hD hS 1 0 rfl rfl (vin (by decide)) dX10_readText_24 (fun H locs hP hD hS => ?_)
  rw [upd_zero] at hP hD
  have hP : va_P D classes ([(h0, .inr (9, [.ref h1, .ref h2, .ref h3, .null, .int 0, .ref h4, .int 0, .int 0, .int 0, .ref h5, .ref h6, .ref h7, .int 0, .int 0, .int 0, .ref h8, .ref h9])), (h5, .inl (cy 0, 10, .inl (fun _ => 0)))]) H := hP
  have hD : va_D A ([(h0, .inr (9, [.ref h1, .ref h2, .ref h3, .null, .int 0, .ref h4, .int 0, .int 0, .int 0, .ref h5, .ref h6, .ref h7, .int 0, .int 0, .int 0, .ref h8, .ref h9])), (h5, .inl (cy 0, 10, .inl (fun _ => 0)))]) := hD
  refine lv_iinc (v := 1) (lv' := [(1, .int 1), (0, .ref h0)]) hx hb dX10_readText_25 hl (k := 0) rfl (by decide) (by decide) rfl (fun ls hl => ?_)
  refine lv_goto (tgt := 12) hx hb dX10_readText_28 (by decide) ?_
  refine lv_iload_n hx hb dX10_readText_12 rfl (lv_at hl 0 rfl) ?_
  refine lv_bipush (v := 10) hx hb dX10_readText_13 (by decide) ?_
  refine lv_icmp_ge (tgt := 31) hx hb dX10_readText_15 (by decide) (fun c2 => absurd c2 (by decide)) (fun _ => ?_)
  refine lv_aload_n hx hb dX10_readText_18 rfl (lv_at hl 1 rfl) ?_
  refine va_get (D := D) (ci := 9) (v := .ref h5) (C := RX10) (T := TX10) (N := 17) hx hb hts i_X10 hown hK.1 hP 0 rfl rfl 9 (by decide) (ht _ kt_858) (fun _ h9 => h9) rfl dX10_readText_19 ?_
  refine lv_iload_n hx hb dX10_readText_22 rfl (lv_at hl 0 rfl) ?_
  refine lv_iconst (v := 0) hx hb dX10_readText_23 (by decide) ?_
  refine va_iast hx hb hK.1 hP hD hS 1 0 rfl rfl (vin (by decide)) dX10_readText_24 (fun H locs hP hD hS => ?_)
  rw [upd_zero] at hP hD
  have hP : va_P D classes ([(h0, .inr (9, [.ref h1, .ref h2, .ref h3, .null, .int 0, .ref h4, .int 0, .int 0, .int 0, .ref h5, .ref h6, .ref h7, .int 0, .int 0, .int 0, .ref h8, .ref h9])), (h5, .inl (cy 0, 10, .inl (fun _ => 0)))]) H := hP
  have hD : va_D A ([(h0, .inr (9, [.ref h1, .ref h2, .ref h3, .null, .int 0, .ref h4, .int 0, .int 0, .int 0, .ref h5, .ref h6, .ref h7, .int 0, .int 0, .int 0, .ref h8, .ref h9])), (h5, .inl (cy 0, 10, .inl (fun _ => 0)))]) := hD
  refine lv_iinc (v := 2) (lv' := [(1, .int 2), (0, .ref h0)]) hx hb dX10_readText_25 hl (k := 0) rfl (by decide) (by decide) rfl (fun ls hl => ?_)
  refine lv_goto (tgt := 12) hx hb dX10_readText_28 (by decide) ?_
  refine lv_iload_n hx hb dX10_readText_12 rfl (lv_at hl 0 rfl) ?_
  refine lv_bipush (v := 10) hx hb dX10_readText_13 (by decide) ?_
  refine lv_icmp_ge (tgt := 31) hx hb dX10_readText_15 (by decide) (fun c3 => absurd c3 (by decide)) (fun _ => ?_)
  refine lv_aload_n hx hb dX10_readText_18 rfl (lv_at hl 1 rfl) ?_
  refine va_get (D := D) (ci := 9) (v := .ref h5) (C := RX10) (T := TX10) (N := 17) hx hb hts i_X10 hown hK.1 hP 0 rfl rfl 9 (by decide) (ht _ kt_858) (fun _ h9 => h9) rfl dX10_readText_19 ?_
  refine lv_iload_n hx hb dX10_readText_22 rfl (lv_at hl 0 rfl) ?_
  refine lv_iconst (v := 0) hx hb dX10_readText_23 (by decide) ?_
  refine va_iast hx hb hK.1 hP hD hS 1 0 rfl rfl (vin (by decide)) dX10_readText_24 (fun H locs hP hD hS => ?_)
  rw [upd_zero] at hP hD
  have hP : va_P D classes ([(h0, .inr (9, [.ref h1, .ref h2, .ref h3, .null, .int 0, .ref h4, .int 0, .int 0, .int 0, .ref h5, .ref h6, .ref h7, .int 0, .int 0, .int 0, .ref h8, .ref h9])), (h5, .inl (cy 0, 10, .inl (fun _ => 0)))]) H := hP
  have hD : va_D A ([(h0, .inr (9, [.ref h1, .ref h2, .ref h3, .null, .int 0, .ref h4, .int 0, .int 0, .int 0, .ref h5, .ref h6, .ref h7, .int 0, .int 0, .int 0, .ref h8, .ref h9])), (h5, .inl (cy 0, 10, .inl (fun _ => 0)))]) := hD
  refine lv_iinc (v := 3) (lv' := [(1, .int 3), (0, .ref h0)]) hx hb dX10_readText_25 hl (k := 0) rfl (by decide) (by decide) rfl (fun ls hl => ?_)
  refine lv_goto (tgt := 12) hx hb dX10_readText_28 (by decide) ?_
  refine lv_iload_n hx hb dX10_readText_12 rfl (lv_at hl 0 rfl) ?_
  refine lv_bipush (v := 10) hx hb dX10_readText_13 (by decide) ?_
  refine lv_icmp_ge (tgt := 31) hx hb dX10_readText_15 (by decide) (fun c4 => absurd c4 (by decide)) (fun _ => ?_)
  refine lv_aload_n hx hb dX10_readText_18 rfl (lv_at hl 1 rfl) ?_
  refine va_get (D := D) (ci := 9) (v := .ref h5) (C := RX10) (T := TX10) (N := 17) hx hb hts i_X10 hown hK.1 hP 0 rfl rfl 9 (by decide) (ht _ kt_858) (fun _ h9 => h9) rfl dX10_readText_19 ?_
  refine lv_iload_n hx hb dX10_readText_22 rfl (lv_at hl 0 rfl) ?_
  refine lv_iconst (v := 0) hx hb dX10_readText_23 (by decide) ?_
  refine va_iast hx hb hK.1 hP hD hS 1 0 rfl rfl (vin (by decide)) dX10_readText_24 (fun H locs hP hD hS => ?_)
  rw [upd_zero] at hP hD
  have hP : va_P D classes ([(h0, .inr (9, [.ref h1, .ref h2, .ref h3, .null, .int 0, .ref h4, .int 0, .int 0, .int 0, .ref h5, .ref h6, .ref h7, .int 0, .int 0, .int 0, .ref h8, .ref h9])), (h5, .inl (cy 0, 10, .inl (fun _ => 0)))]) H := hP
  have hD : va_D A ([(h0, .inr (9, [.ref h1, .ref h2, .ref h3, .null, .int 0, .ref h4, .int 0, .int 0, .int 0, .ref h5, .ref h6, .ref h7, .int 0, .int 0, .int 0, .ref h8, .ref h9])), (h5, .inl (cy 0, 10, .inl (fun _ => 0)))]) := hD
  refine lv_iinc (v := 4) (lv' := [(1, .int 4), (0, .ref h0)]) hx hb dX10_readText_25 hl (k := 0) rfl (by decide) (by decide) rfl (fun ls hl => ?_)
  refine lv_goto (tgt := 12) hx hb dX10_readText_28 (by decide) ?_
  refine lv_iload_n hx hb dX10_readText_12 rfl (lv_at hl 0 rfl) ?_
  refine lv_bipush (v := 10) hx hb dX10_readText_13 (by decide) ?_
  refine lv_icmp_ge (tgt := 31) hx hb dX10_readText_15 (by decide) (fun c5 => absurd c5 (by decide)) (fun _ => ?_)
  refine lv_aload_n hx hb dX10_readText_18 rfl (lv_at hl 1 rfl) ?_
  refine va_get (D := D) (ci := 9) (v := .ref h5) (C := RX10) (T := TX10) (N := 17) hx hb hts i_X10 hown hK.1 hP 0 rfl rfl 9 (by decide) (ht _ kt_858) (fun _ h9 => h9) rfl dX10_readText_19 ?_
  refine lv_iload_n hx hb dX10_readText_22 rfl (lv_at hl 0 rfl) ?_
  refine lv_iconst (v := 0) hx hb dX10_readText_23 (by decide) ?_
  refine va_iast hx hb hK.1 hP hD hS 1 0 rfl rfl (vin (by decide)) dX10_readText_24 (fun H locs hP hD hS => ?_)
  rw [upd_zero] at hP hD
  have hP : va_P D classes ([(h0, .inr (9, [.ref h1, .ref h2, .ref h3, .null, .int 0, .ref h4, .int 0, .int 0, .int 0, .ref h5, .ref h6, .ref h7, .int 0, .int 0, .int 0, .ref h8, .ref h9])), (h5, .inl (cy 0, 10, .inl (fun _ => 0)))]) H := hP
  have hD : va_D A ([(h0, .inr (9, [.ref h1, .ref h2, .ref h3, .null, .int 0, .ref h4, .int 0, .int 0, .int 0, .ref h5, .ref h6, .ref h7, .int 0, .int 0, .int 0, .ref h8, .ref h9])), (h5, .inl (cy 0, 10, .inl (fun _ => 0)))]) := hD
  refine lv_iinc (v := 5) (lv' := [(1, .int 5), (0, .ref h0)]) hx hb dX10_readText_25 hl (k := 0) rfl (by decide) (by decide) rfl (fun ls hl => ?_)
  refine lv_goto (tgt := 12) hx hb dX10_readText_28 (by decide) ?_
  refine lv_iload_n hx hb dX10_readText_12 rfl (lv_at hl 0 rfl) ?_
  refine lv_bipush (v := 10) hx hb dX10_readText_13 (by decide) ?_
  refine lv_icmp_ge (tgt := 31) hx hb dX10_readText_15 (by decide) (fun c6 => absurd c6 (by decide)) (fun _ => ?_)
  refine lv_aload_n hx hb dX10_readText_18 rfl (lv_at hl 1 rfl) ?_
  refine va_get (D := D) (ci := 9) (v := .ref h5) (C := RX10) (T := TX10) (N := 17) hx hb hts i_X10 hown hK.1 hP 0 rfl rfl 9 (by decide) (ht _ kt_858) (fun _ h9 => h9) rfl dX10_readText_19 ?_
  refine lv_iload_n hx hb dX10_readText_22 rfl (lv_at hl 0 rfl) ?_
  refine lv_iconst (v := 0) hx hb dX10_readText_23 (by decide) ?_
  refine va_iast hx hb hK.1 hP hD hS 1 0 rfl rfl (vin (by decide)) dX10_readText_24 (fun H locs hP hD hS => ?_)
  rw [upd_zero] at hP hD
  have hP : va_P D classes ([(h0, .inr (9, [.ref h1, .ref h2, .ref h3, .null, .int 0, .ref h4, .int 0, .int 0, .int 0, .ref h5, .ref h6, .ref h7, .int 0, .int 0, .int 0, .ref h8, .ref h9])), (h5, .inl (cy 0, 10, .inl (fun _ => 0)))]) H := hP
  have hD : va_D A ([(h0, .inr (9, [.ref h1, .ref h2, .ref h3, .null, .int 0, .ref h4, .int 0, .int 0, .int 0, .ref h5, .ref h6, .ref h7, .int 0, .int 0, .int 0, .ref h8, .ref h9])), (h5, .inl (cy 0, 10, .inl (fun _ => 0)))]) := hD
  refine lv_iinc (v := 6) (lv' := [(1, .int 6), (0, .ref h0)]) hx hb dX10_readText_25 hl (k := 0) rfl (by decide) (by decide) rfl (fun ls hl => ?_)
  refine lv_goto (tgt := 12) hx hb dX10_readText_28 (by decide) ?_
  refine lv_iload_n hx hb dX10_readText_12 rfl (lv_at hl 0 rfl) ?_
  refine lv_bipush (v := 10) hx hb dX10_readText_13 (by decide) ?_
  refine lv_icmp_ge (tgt := 31) hx hb dX10_readText_15 (by decide) (fun c7 => absurd c7 (by decide)) (fun _ => ?_)
  refine lv_aload_n hx hb dX10_readText_18 rfl (lv_at hl 1 rfl) ?_
  refine va_get (D := D) (ci := 9) (v := .ref h5) (C := RX10) (T := TX10) (N := 17) hx hb hts i_X10 hown hK.1 hP 0 rfl rfl 9 (by decide) (ht _ kt_858) (fun _ h9 => h9) rfl dX10_readText_19 ?_
  refine lv_iload_n hx hb dX10_readText_22 rfl (lv_at hl 0 rfl) ?_
  refine lv_iconst (v := 0) hx hb dX10_readText_23 (by decide) ?_
  refine va_iast hx hb hK.1 hP hD hS 1 0 rfl rfl (vin (by decide)) dX10_readText_24 (fun H locs hP hD hS => ?_)
  rw [upd_zero] at hP hD
  have hP : va_P D classes ([(h0, .inr (9, [.ref h1, .ref h2, .ref h3, .null, .int 0, .ref h4, .int 0, .int 0, .int 0, .ref h5, .ref h6, .ref h7, .int 0, .int 0, .int 0, .ref h8, .ref h9])), (h5, .inl (cy 0, 10, .inl (fun _ => 0)))]) H := hP
  have hD : va_D A ([(h0, .inr (9, [.ref h1, .ref h2, .ref h3, .null, .int 0, .ref h4, .int 0, .int 0, .int 0, .ref h5, .ref h6, .ref h7, .int 0, .int 0, .int 0, .ref h8, .ref h9])), (h5, .inl (cy 0, 10, .inl (fun _ => 0)))]) := hD
  refine lv_iinc (v := 7) (lv' := [(1, .int 7), (0, .ref h0)]) hx hb dX10_readText_25 hl (k := 0) rfl (by decide) (by decide) rfl (fun ls hl => ?_)
  refine lv_goto (tgt := 12) hx hb dX10_readText_28 (by decide) ?_
  refine lv_iload_n hx hb dX10_readText_12 rfl (lv_at hl 0 rfl) ?_
  refine lv_bipush (v := 10) hx hb dX10_readText_13 (by decide) ?_
  refine lv_icmp_ge (tgt := 31) hx hb dX10_readText_15 (by decide) (fun c8 => absurd c8 (by decide)) (fun _ => ?_)
  refine lv_aload_n hx hb dX10_readText_18 rfl (lv_at hl 1 rfl) ?_
  refine va_get (D := D) (ci := 9) (v := .ref h5) (C := RX10) (T := TX10) (N := 17) hx hb hts i_X10 hown hK.1 hP 0 rfl rfl 9 (by decide) (ht _ kt_858) (fun _ h9 => h9) rfl dX10_readText_19 ?_
  refine lv_iload_n hx hb dX10_readText_22 rfl (lv_at hl 0 rfl) ?_
  refine lv_iconst (v := 0) hx hb dX10_readText_23 (by decide) ?_
  refine va_iast hx hb hK.1 hP hD hS 1 0 rfl rfl (vin (by decide)) dX10_readText_24 (fun H locs hP hD hS => ?_)
  rw [upd_zero] at hP hD
  have hP : va_P D classes ([(h0, .inr (9, [.ref h1, .ref h2, .ref h3, .null, .int 0, .ref h4, .int 0, .int 0, .int 0, .ref h5, .ref h6, .ref h7, .int 0, .int 0, .int 0, .ref h8, .ref h9])), (h5, .inl (cy 0, 10, .inl (fun _ => 0)))]) H := hP
  have hD : va_D A ([(h0, .inr (9, [.ref h1, .ref h2, .ref h3, .null, .int 0, .ref h4, .int 0, .int 0, .int 0, .ref h5, .ref h6, .ref h7, .int 0, .int 0, .int 0, .ref h8, .ref h9])), (h5, .inl (cy 0, 10, .inl (fun _ => 0)))]) := hD
  refine lv_iinc (v := 8) (lv' := [(1, .int 8), (0, .ref h0)]) hx hb dX10_readText_25 hl (k := 0) rfl (by decide) (by decide) rfl (fun ls hl => ?_)
  refine lv_goto (tgt := 12) hx hb dX10_readText_28 (by decide) ?_
  refine lv_iload_n hx hb dX10_readText_12 rfl (lv_at hl 0 rfl) ?_
  refine lv_bipush (v := 10) hx hb dX10_readText_13 (by decide) ?_
  refine lv_icmp_ge (tgt := 31) hx hb dX10_readText_15 (by decide) (fun c9 => absurd c9 (by decide)) (fun _ => ?_)
  refine lv_aload_n hx hb dX10_readText_18 rfl (lv_at hl 1 rfl) ?_
  refine va_get (D := D) (ci := 9) (v := .ref h5) (C := RX10) (T := TX10) (N := 17) hx hb hts i_X10 hown hK.1 hP 0 rfl rfl 9 (by decide) (ht _ kt_858) (fun _ h9 => h9) rfl dX10_readText_19 ?_
  refine lv_iload_n hx hb dX10_readText_22 rfl (lv_at hl 0 rfl) ?_
  refine lv_iconst (v := 0) hx hb dX10_readText_23 (by decide) ?_
  refine va_iast hx hb hK.1 hP hD hS 1 0 rfl rfl (vin (by decide)) dX10_readText_24 (fun H locs hP hD hS => ?_)
  rw [upd_zero] at hP hD
  have hP : va_P D classes ([(h0, .inr (9, [.ref h1, .ref h2, .ref h3, .null, .int 0, .ref h4, .int 0, .int 0, .int 0, .ref h5, .ref h6, .ref h7, .int 0, .int 0, .int 0, .ref h8, .ref h9])), (h5, .inl (cy 0, 10, .inl (fun _ => 0)))]) H := hP
  have hD : va_D A ([(h0, .inr (9, [.ref h1, .ref h2, .ref h3, .null, .int 0, .ref h4, .int 0, .int 0, .int 0, .ref h5, .ref h6, .ref h7, .int 0, .int 0, .int 0, .ref h8, .ref h9])), (h5, .inl (cy 0, 10, .inl (fun _ => 0)))]) := hD
  refine lv_iinc (v := 9) (lv' := [(1, .int 9), (0, .ref h0)]) hx hb dX10_readText_25 hl (k := 0) rfl (by decide) (by decide) rfl (fun ls hl => ?_)
  refine lv_goto (tgt := 12) hx hb dX10_readText_28 (by decide) ?_
  refine lv_iload_n hx hb dX10_readText_12 rfl (lv_at hl 0 rfl) ?_
  refine lv_bipush (v := 10) hx hb dX10_readText_13 (by decide) ?_
  refine lv_icmp_ge (tgt := 31) hx hb dX10_readText_15 (by decide) (fun c10 => absurd c10 (by decide)) (fun _ => ?_)
  refine lv_aload_n hx hb dX10_readText_18 rfl (lv_at hl 1 rfl) ?_
  refine va_get (D := D) (ci := 9) (v := .ref h5) (C := RX10) (T := TX10) (N := 17) hx hb hts i_X10 hown hK.1 hP 0 rfl rfl 9 (by decide) (ht _ kt_858) (fun _ h9 => h9) rfl dX10_readText_19 ?_
  refine lv_iload_n hx hb dX10_readText_22 rfl (lv_at hl 0 rfl) ?_
  refine lv_iconst (v := 0) hx hb dX10_readText_23 (by decide) ?_
  refine va_iast hx hb hK.1 hP hD hS 1 0 rfl rfl (vin (by decide)) dX10_readText_24 (fun H locs hP hD hS => ?_)
  rw [upd_zero] at hP hD
  have hP : va_P D classes ([(h0, .inr (9, [.ref h1, .ref h2, .ref h3, .null, .int 0, .ref h4, .int 0, .int 0, .int 0, .ref h5, .ref h6, .ref h7, .int 0, .int 0, .int 0, .ref h8, .ref h9])), (h5, .inl (cy 0, 10, .inl (fun _ => 0)))]) H := hP
  have hD : va_D A ([(h0, .inr (9, [.ref h1, .ref h2, .ref h3, .null, .int 0, .ref h4, .int 0, .int 0, .int 0, .ref h5, .ref h6, .ref h7, .int 0, .int 0, .int 0, .ref h8, .ref h9])), (h5, .inl (cy 0, 10, .inl (fun _ => 0)))]) := hD
  refine lv_iinc (v := 10) (lv' := [(1, .int 10), (0, .ref h0)]) hx hb dX10_readText_25 hl (k := 0) rfl (by decide) (by decide) rfl (fun ls hl => ?_)
  refine lv_goto (tgt := 12) hx hb dX10_readText_28 (by decide) ?_
  refine lv_iload_n hx hb dX10_readText_12 rfl (lv_at hl 0 rfl) ?_
  refine lv_bipush (v := 10) hx hb dX10_readText_13 (by decide) ?_
  refine lv_icmp_ge (tgt := 31) hx hb dX10_readText_15 (by decide) (fun _ => ?_) (fun c11 => absurd c11 (by decide))
  refine lv_aload_n hx hb dX10_readText_31 rfl (lv_at hl 1 rfl) ?_
  refine va_get (D := D) (ci := 9) (v := .ref h5) (C := RX10) (T := TX10) (N := 17) hx hb hts i_X10 hown hK.1 hP 0 rfl rfl 9 (by decide) (ht _ kt_858) (fun _ h9 => h9) rfl dX10_readText_32 ?_
  refine lv_iconst (v := 1) hx hb dX10_readText_35 (by decide) ?_
  refine lv_aload_n hx hb dX10_readText_36 rfl (lv_at hl 1 rfl) ?_
  refine lv_iconst (v := 1) hx hb dX10_readText_37 (by decide) ?_
  refine lv_bipush (v := 99) hx hb dX10_readText_38 (by decide) ?_
  have hPc := hP.sub (ws' := (w94 cy h0 h1 h2 h3 h4 h5 h6 h7 h8 h9)) [0] rfl
  have hDc := hD.sub (ws' := (w94 cy h0 h1 h2 h3 h4 h5 h6 h7 h8 h9)) [0] (by decide +kernel) rfl
  have hFc := va_free (wc := (w94 cy h0 h1 h2 h3 h4 h5 h6 h7 h8 h9)) hD hS hA [0] rfl
  refine va_calli (va_runV (As := [.int 1, .int 99]) (rest := [.int 1, .ref h5]) ⟨hx, hb, hml, hown, hts⟩ (c94_X10_small l D cy h0 h1 h2 h3 h4 h5 h6 h7 h8 h9 H.size) (cwV 2 hts (gt_V kt_972 kt_974 kp_34 kt_8 kt_975) rfl rfl rfl (by decide +kernel) ⟨Nat.le_of_ble_eq_true rfl, Nat.le_of_ble_eq_true rfl⟩) (gN_V hK hPc hDc hP (ci := 9) (q0 := 0) rfl rfl) rfl rfl hl.1 rfl (lv_room (Nat.le_of_ble_eq_true rfl)) dX10_readText_40 ⟨Nat.le_of_ble_eq_true rfl, Nat.le_of_ble_eq_true rfl⟩) hS (fun q _ h => hFc q h) hFc (fun r12 u14 t H1 locs ht2 hvm hw13 hB hz1 hk1 hS => ?_)
  obtain ⟨hP1, hD1⟩ := hB
  rw [ht2] at hP1
  obtain ⟨hP, hD⟩ := va_join (wr := ([(h5, .inl (cy 0, 10, .inl (fun _ => 0)))] : va_W)) (w1 := (vw94 cy h0 h1 h2 h3 h4 h5 h6 h7 h8 h9 u14)) hP hD [0] [1] rfl rfl (by decide +kernel) (by decide +kernel) hk1 hFc hP1 hD1
  generalize H1 = H at hP hS ⊢
  have hP : va_P D classes ([(h5, .inl (cy 0, 10, .inl (fun _ => 0))), (h0, .inr (9, [.ref h1, .ref h2, .ref h3, .null, .int 0, .ref h4, .int 0, .int 0, .int 1, .ref h5, .ref h6, .ref h7, .int 0, .int 0, .int 0, .ref h8, .ref h9]))]) H := hP
  have hD : va_D A ([(h5, .inl (cy 0, 10, .inl (fun _ => 0))), (h0, .inr (9, [.ref h1, .ref h2, .ref h3, .null, .int 0, .ref h4, .int 0, .int 0, .int 1, .ref h5, .ref h6, .ref h7, .int 0, .int 0, .int 0, .ref h8, .ref h9]))]) := hD
  refine W.widen (k := 0) (n := 0) (Nat.le_of_ble_eq_true rfl) (Nat.le_of_ble_eq_true rfl) ?_
  obtain rfl : r12 = 0 := hw13
  refine va_iast hx hb hK.1 hP hD hS 0 0 rfl rfl (vin (by decide)) dX10_readText_43 (fun H locs hP hD hS => ?_)
  rw [upd_zero] at hP hD
  have hP : va_P D classes ([(h5, .inl (cy 0, 10, .inl (fun _ => 0))), (h0, .inr (9, [.ref h1, .ref h2, .ref h3, .null, .int 0, .ref h4, .int 0, .int 0, .int 1, .ref h5, .ref h6, .ref h7, .int 0, .int 0, .int 0, .ref h8, .ref h9]))]) H := hP
  have hD : va_D A ([(h5, .inl (cy 0, 10, .inl (fun _ => 0))), (h0, .inr (9, [.ref h1, .ref h2, .ref h3, .null, .int 0, .ref h4, .int 0, .int 0, .int 1, .ref h5, .ref h6, .ref h7, .int 0, .int 0, .int 0, .ref h8, .ref h9]))]) := hD
  refine lv_aload_n hx hb dX10_readText_44 rfl (lv_at hl 1 rfl) ?_
  refine lv_bipush (v := 58) hx hb dX10_readText_45 (by decide) ?_
  have hPc := hP.sub (ws' := (w95 cy h0 h1 h2 h3 h4 h5 h6 h7 h8 h9)) [1] rfl
  have hDc := hD.sub (ws' := (w95 cy h0 h1 h2 h3 h4 h5 h6 h7 h8 h9)) [1] (by decide +kernel) rfl
  have hFc := va_free (wc := (w95 cy h0 h1 h2 h3 h4 h5 h6 h7 h8 h9)) hD hS hA [1] rfl
  refine va_callv (va_runV (As := [.int 58]) (rest := []) ⟨hx, hb, hml, hown, hts⟩ (c95_X10_take l D cy h0 h1 h2 h3 h4 h5 h6 h7 h8 h9 H.size) (cwV 1 hts (gt_V kt_985 kt_987 kp_37 kt_8 kt_988) rfl rfl rfl (by decide +kernel) ⟨Nat.le_of_ble_eq_true rfl, Nat.le_of_ble_eq_true rfl⟩) (gN_V hK hPc hDc hP (ci := 9) (q0 := 1) rfl rfl) rfl rfl hl.1 rfl (lv_room (Nat.le_of_ble_eq_true rfl)) dX10_readText_47 ⟨Nat.le_of_ble_eq_true rfl, Nat.le_of_ble_eq_true rfl⟩) hS (fun q _ h => hFc q h) hFc (fun u17 t H1 locs ht2 hvm hw16 hB hz1 hk1 hS => ?_)
  obtain ⟨hP1, hD1⟩ := hB
  rw [ht2] at hP1
  obtain ⟨hP, hD⟩ := va_join (wr := ([(h5, .inl (cy 0, 10, .inl (fun _ => 0)))] : va_W)) (w1 := (vw95 cy h0 h1 h2 h3 h4 h5 h6 h7 h8 h9 u17)) hP hD [1] [0] rfl rfl (by decide +kernel) (by decide +kernel) hk1 hFc hP1 hD1
  generalize H1 = H at hP hS ⊢
  have hP : va_P D classes ([(h5, .inl (cy 0, 10, .inl (fun _ => 0))), (h0, .inr (9, [.ref h1, .ref h2, .ref h3, .null, .int 0, .ref h4, .int 0, .int 0, .int 1, .ref h5, .ref h6, .ref h7, .int 0, .int 0, .int 0, .ref h8, .ref h9]))]) H := hP
  have hD : va_D A ([(h5, .inl (cy 0, 10, .inl (fun _ => 0))), (h0, .inr (9, [.ref h1, .ref h2, .ref h3, .null, .int 0, .ref h4, .int 0, .int 0, .int 1, .ref h5, .ref h6, .ref h7, .int 0, .int 0, .int 0, .ref h8, .ref h9]))]) := hD
  refine W.widen (k := 0) (n := 0) (Nat.le_of_ble_eq_true rfl) (Nat.le_of_ble_eq_true rfl) ?_
  refine lv_aload_n hx hb dX10_readText_50 rfl (lv_at hl 1 rfl) ?_
  refine va_get (D := D) (ci := 9) (v := .ref h5) (C := RX10) (T := TX10) (N := 17) hx hb hts i_X10 hown hK.1 hP 1 rfl rfl 9 (by decide) (ht _ kt_858) (fun _ h9 => h9) rfl dX10_readText_51 ?_
  refine lv_iconst (v := 5) hx hb dX10_readText_54 (by decide) ?_
  refine lv_aload_n hx hb dX10_readText_55 rfl (lv_at hl 1 rfl) ?_
  refine lv_iconst (v := (-1)) hx hb dX10_readText_56 (by decide) ?_
  refine lv_iconst (v := (-1)) hx hb dX10_readText_57 (by decide) ?_
  have hPc := hP.sub (ws' := (w98 cy h0 h1 h2 h3 h4 h5 h6 h7 h8 h9)) [1] rfl
  have hDc := hD.sub (ws' := (w98 cy h0 h1 h2 h3 h4 h5 h6 h7 h8 h9)) [1] (by decide +kernel) rfl
  have hFc := va_free (wc := (w98 cy h0 h1 h2 h3 h4 h5 h6 h7 h8 h9)) hD hS hA [1] rfl
  refine va_calli (va_runV (As := [.int (-1), .int (-1)]) (rest := [.int 5, .ref h5]) ⟨hx, hb, hml, hown, hts⟩ (c98_X10_reference l D cy h0 h1 h2 h3 h4 h5 h6 h7 h8 h9 H.size) (cwV 2 hts (gt_V kt_989 kt_991 kp_38 kt_8 kt_992) rfl rfl rfl (by decide +kernel) ⟨Nat.le_of_ble_eq_true rfl, Nat.le_of_ble_eq_true rfl⟩) (gN_V hK hPc hDc hP (ci := 9) (q0 := 1) rfl rfl) rfl rfl hl.1 rfl (lv_room (Nat.le_of_ble_eq_true rfl)) dX10_readText_58 ⟨Nat.le_of_ble_eq_true rfl, Nat.le_of_ble_eq_true rfl⟩) hS (fun q _ h => hFc q h) hFc (fun r18 u20 t H1 locs ht2 hvm hw19 hB hz1 hk1 hS => ?_)
  obtain ⟨hP1, hD1⟩ := hB
  rw [ht2] at hP1
  obtain ⟨hP, hD⟩ := va_join (wr := ([(h5, .inl (cy 0, 10, .inl (fun _ => 0)))] : va_W)) (w1 := (vw98 cy h0 h1 h2 h3 h4 h5 h6 h7 h8 h9 u20)) hP hD [1] [0] rfl rfl (by decide +kernel) (by decide +kernel) hk1 hFc hP1 hD1
  generalize H1 = H at hP hS ⊢
  have hP : va_P D classes ([(h5, .inl (cy 0, 10, .inl (fun _ => 0))), (h0, .inr (9, [.ref h1, .ref h2, .ref h3, .null, .int 0, .ref h4, .int 0, .int 0, .int 1, .ref h5, .ref h6, .ref h7, .int 0, .int 0, .int 0, .ref h8, .ref h9]))]) H := hP
  have hD : va_D A ([(h5, .inl (cy 0, 10, .inl (fun _ => 0))), (h0, .inr (9, [.ref h1, .ref h2, .ref h3, .null, .int 0, .ref h4, .int 0, .int 0, .int 1, .ref h5, .ref h6, .ref h7, .int 0, .int 0, .int 0, .ref h8, .ref h9]))]) := hD
  refine W.widen (k := 0) (n := 0) (Nat.le_of_ble_eq_true rfl) (Nat.le_of_ble_eq_true rfl) ?_
  obtain rfl : r18 = (-147) := hw19
  refine va_iast hx hb hK.1 hP hD hS 0 0 rfl rfl (vin (by decide)) dX10_readText_61 (fun H locs hP hD hS => ?_)
  have hP : va_P D classes ([(h5, .inl (cy 0, 10, .inl (upd (fun _ => 0) 5 (-147)))), (h0, .inr (9, [.ref h1, .ref h2, .ref h3, .null, .int 0, .ref h4, .int 0, .int 0, .int 1, .ref h5, .ref h6, .ref h7, .int 0, .int 0, .int 0, .ref h8, .ref h9]))]) H := hP
  have hD : va_D A ([(h5, .inl (cy 0, 10, .inl (upd (fun _ => 0) 5 (-147)))), (h0, .inr (9, [.ref h1, .ref h2, .ref h3, .null, .int 0, .ref h4, .int 0, .int 0, .int 1, .ref h5, .ref h6, .ref h7, .int 0, .int 0, .int 0, .ref h8, .ref h9]))]) := hD
  refine lv_aload_n hx hb dX10_readText_62 rfl (lv_at hl 1 rfl) ?_
  refine va_get (D := D) (ci := 9) (v := .ref h5) (C := RX10) (T := TX10) (N := 17) hx hb hts i_X10 hown hK.1 hP 1 rfl rfl 9 (by decide) (ht _ kt_858) (fun _ h9 => h9) rfl dX10_readText_63 ?_
  refine lv_iconst (v := 5) hx hb dX10_readText_66 (by decide) ?_
  refine va_iald hx hb hK.1 hP 0 0 rfl rfl (vin (by decide)) dX10_readText_67 ?_
  refine lz_i (-147) rfl ?_
  refine lv_iconst (v := 3) hx hb dX10_readText_68 (by decide) ?_
  refine lv_idiv hx hb dX10_readText_69 (by decide) ?_
  refine lz_i (-49) (by decide) ?_
  refine lv_istore_n (lv' := [(1, .int (-49)), (0, .ref h0)]) hx hb dX10_readText_70 rfl hl (by decide) rfl (fun ls hl => ?_)
  refine lv_aload_n hx hb dX10_readText_71 rfl (lv_at hl 1 rfl) ?_
  refine va_get (D := D) (ci := 9) (v := .int 1) (C := RX10) (T := TX10) (N := 17) hx hb hts i_X10 hown hK.1 hP 1 rfl rfl 8 (by decide) (ht _ kt_857) (fun _ h9 => h9) rfl dX10_readText_72 ?_
  refine lv_if_eq (tgt := 82) hx hb dX10_readText_75 (by decide) (fun c21 => absurd c21 (by decide)) (fun _ => ?_)
  refine lv_iconst (v := (-1)) hx hb dX10_readText_78 (by decide) ?_
  refine lv_goto (tgt := 86) hx hb dX10_readText_79 (by decide) ?_
  refine lv_istore_n (lv' := [(2, .int (-1)), (1, .int (-49)), (0, .ref h0)]) hx hb dX10_readText_86 rfl hl (by decide) rfl (fun ls hl => ?_)
  refine lv_iload_n hx hb dX10_readText_87 rfl (lv_at hl 0 rfl) ?_
  refine lv_bipush (v := 60) hx hb dX10_readText_88 (by decide) ?_
  refine lv_icmp_eq (tgt := 123) hx hb dX10_readText_90 (by decide) (fun c22 => absurd c22 (by decide)) (fun _ => ?_)
  refine lv_iload_n hx hb dX10_readText_93 rfl (lv_at hl 0 rfl) ?_
  refine lv_bipush (v := 61) hx hb dX10_readText_94 (by decide) ?_
  refine lv_icmp_eq (tgt := 123) hx hb dX10_readText_96 (by decide) (fun c23 => absurd c23 (by decide)) (fun _ => ?_)
  refine lv_iload_n hx hb dX10_readText_99 rfl (lv_at hl 0 rfl) ?_
  refine lv_bipush (v := 62) hx hb dX10_readText_100 (by decide) ?_
  refine lv_icmp_eq (tgt := 123) hx hb dX10_readText_102 (by decide) (fun c24 => absurd c24 (by decide)) (fun _ => ?_)
  refine lv_iload_n hx hb dX10_readText_105 rfl (lv_at hl 0 rfl) ?_
  refine lv_bipush (v := 37) hx hb dX10_readText_106 (by decide) ?_
  refine lv_icmp_eq (tgt := 123) hx hb dX10_readText_108 (by decide) (fun c25 => absurd c25 (by decide)) (fun _ => ?_)
  refine lv_iload_n hx hb dX10_readText_111 rfl (lv_at hl 0 rfl) ?_
  refine lv_bipush (v := 43) hx hb dX10_readText_112 (by decide) ?_
  refine lv_icmp_eq (tgt := 123) hx hb dX10_readText_114 (by decide) (fun c26 => absurd c26 (by decide)) (fun _ => ?_)
  refine lv_iload_n hx hb dX10_readText_117 rfl (lv_at hl 0 rfl) ?_
  refine lv_bipush (v := 126) hx hb dX10_readText_118 (by decide) ?_
  refine lv_icmp_ne (tgt := 127) hx hb dX10_readText_120 (by decide) (fun _ => ?_) (fun c27 => absurd c27 (by decide))
  refine lv_iconst (v := 0) hx hb dX10_readText_127 (by decide) ?_
  refine lv_istore_n (lv' := [(3, .int 0), (2, .int (-1)), (1, .int (-49)), (0, .ref h0)]) hx hb dX10_readText_128 rfl hl (by decide) rfl (fun ls hl => ?_)
  refine lv_aload_n hx hb dX10_readText_129 rfl (lv_at hl 3 rfl) ?_
  refine lv_aload_n hx hb dX10_readText_130 rfl (lv_at hl 3 rfl) ?_
  refine va_get (D := D) (ci := 9) (v := .int 1) (C := RX10) (T := TX10) (N := 17) hx hb hts i_X10 hown hK.1 hP 1 rfl rfl 8 (by decide) (ht _ kt_857) (fun _ h9 => h9) rfl dX10_readText_131 ?_
  refine lv_if_ne (tgt := 141) hx hb dX10_readText_134 (by decide) (fun _ => ?_) (fun c28 => absurd c28 (by decide))
  refine lv_iconst (v := 1) hx hb dX10_readText_141 (by decide) ?_
  refine lv_goto (tgt := 146) hx hb dX10_readText_142 (by decide) ?_
  refine va_put (D := D) (ci := 9) (v := .int 1) (ty := .boolean) (C := RX10) (T := TX10) (N := 17) hx hb hts i_X10 tyX10 tyX10_ok nmX10 hown hK.1 hP hD hS 1 rfl rfl 8 (by decide) (ht _ kt_857) (fun _ h9 => h9) rfl (by decide +kernel) rfl rfl (Nat.le_of_ble_eq_true rfl) dX10_readText_146 (fun H locs hP hD hS => ?_)
  have hP : va_P D classes ([(h5, .inl (cy 0, 10, .inl (upd (fun _ => 0) 5 (-147)))), (h0, .inr (9, [.ref h1, .ref h2, .ref h3, .null, .int 0, .ref h4, .int 0, .int 0, .int 1, .ref h5, .ref h6, .ref h7, .int 0, .int 0, .int 0, .ref h8, .ref h9]))]) H := hP
  have hD : va_D A ([(h5, .inl (cy 0, 10, .inl (upd (fun _ => 0) 5 (-147)))), (h0, .inr (9, [.ref h1, .ref h2, .ref h3, .null, .int 0, .ref h4, .int 0, .int 0, .int 1, .ref h5, .ref h6, .ref h7, .int 0, .int 0, .int 0, .ref h8, .ref h9]))]) := hD
  refine lv_aload_n hx hb dX10_readText_149 rfl (lv_at hl 3 rfl) ?_
  refine lv_dup hx hb dX10_readText_150 rfl ?_
  refine va_get (D := D) (ci := 9) (v := .int 0) (C := RX10) (T := TX10) (N := 17) hx hb hts i_X10 hown hK.1 hP 1 rfl rfl 7 (by decide) (ht _ kt_856) (fun _ h9 => h9) rfl dX10_readText_151 ?_
  refine lv_aload_n hx hb dX10_readText_154 rfl (lv_at hl 3 rfl) ?_
  refine va_get (D := D) (ci := 9) (v := .int 1) (C := RX10) (T := TX10) (N := 17) hx hb hts i_X10 hown hK.1 hP 1 rfl rfl 8 (by decide) (ht _ kt_857) (fun _ h9 => h9) rfl dX10_readText_155 ?_
  refine lv_if_eq (tgt := 165) hx hb dX10_readText_158 (by decide) (fun c29 => absurd c29 (by decide)) (fun _ => ?_)
  refine lv_iconst (v := 0) hx hb dX10_readText_161 (by decide) ?_
  refine lv_goto (tgt := 166) hx hb dX10_readText_162 (by decide) ?_
  refine lv_iadd hx hb dX10_readText_166 ?_
  refine lz_i 0 (by decide) ?_
  refine va_put (D := D) (ci := 9) (v := .int 0) (ty := .int) (C := RX10) (T := TX10) (N := 17) hx hb hts i_X10 tyX10 tyX10_ok nmX10 hown hK.1 hP hD hS 1 rfl rfl 7 (by decide) (ht _ kt_856) (fun _ h9 => h9) rfl (by decide +kernel) rfl rfl (Nat.le_of_ble_eq_true rfl) dX10_readText_167 (fun H locs hP hD hS => ?_)
  have hP : va_P D classes ([(h5, .inl (cy 0, 10, .inl (upd (fun _ => 0) 5 (-147)))), (h0, .inr (9, [.ref h1, .ref h2, .ref h3, .null, .int 0, .ref h4, .int 0, .int 0, .int 1, .ref h5, .ref h6, .ref h7, .int 0, .int 0, .int 0, .ref h8, .ref h9]))]) H := hP
  have hD : va_D A ([(h5, .inl (cy 0, 10, .inl (upd (fun _ => 0) 5 (-147)))), (h0, .inr (9, [.ref h1, .ref h2, .ref h3, .null, .int 0, .ref h4, .int 0, .int 0, .int 1, .ref h5, .ref h6, .ref h7, .int 0, .int 0, .int 0, .ref h8, .ref h9]))]) := hD
  refine lv_aload_n hx hb dX10_readText_170 rfl (lv_at hl 3 rfl) ?_
  refine va_get (D := D) (ci := 9) (v := .int 1) (C := RX10) (T := TX10) (N := 17) hx hb hts i_X10 hown hK.1 hP 1 rfl rfl 8 (by decide) (ht _ kt_857) (fun _ h9 => h9) rfl dX10_readText_171 ?_
  refine lv_if_eq (tgt := 178) hx hb dX10_readText_174 (by decide) (fun c30 => absurd c30 (by decide)) (fun _ => ?_)
  refine W.widen (k := 0) (n := 0) (Nat.le_of_ble_eq_true rfl) (Nat.le_of_ble_eq_true rfl) ?_
  have hP9 := hP.sub (ws' := [(h0, .inr (9, [.ref h1, .ref h2, .ref h3, .null, .int 0, .ref h4, .int 0, .int 0, .int 1, .ref h5, .ref h6, .ref h7, .int 0, .int 0, .int 0, .ref h8, .ref h9])), (h5, .inl (cy 0, 10, .inl (upd (fun _ => 0) 5 (-147))))]) [1, 0] rfl
  have hD9 := hD.sub (ws' := [(h0, .inr (9, [.ref h1, .ref h2, .ref h3, .null, .int 0, .ref h4, .int 0, .int 0, .int 1, .ref h5, .ref h6, .ref h7, .int 0, .int 0, .int 0, .ref h8, .ref h9])), (h5, .inl (cy 0, 10, .inl (upd (fun _ => 0) 5 (-147))))]) [1, 0] (by decide +kernel) rfl
  exact W.vret hx hb hr (fun t ht2 hW => ⟨⟨(fun k => ([] : List Nat).getD k 0), rfl, trivial, by rw [ht2]; exact hP9, hD9⟩, hS.F ht2⟩) hS.2.2 dX10_readText_177
