def w132 (cy : Nat → ClassId) (h0 h1 h2 h3 h4 h5 h6 h7 h8 h9 : Nat) (i0 : Int32) : va_W := [(h0, .inr (9, [.ref h1, .ref h2, .ref h3, .null, .int 0, .ref h4, .int 0, .int 0, .int 0, .ref h5, .ref h6, .ref h7, .int 0, .int 0, .int 0, .ref h8, .ref h9])), (h1, .inl (cy 0, 559, .inl (upd (fun _ => 0) 5 i0)))]
set_option maxHeartbeats 4000000 in
set_option maxRecDepth 100000 in
theorem c132_X10_sizeOf (l : Launch) (D : va_G) (cy : Nat → ClassId) (h0 h1 h2 h3 h4 h5 h6 h7 h8 h9 : Nat) (i0 : Int32) : Met l yX10_sizeOf (Cond.code yX10_sizeOf cX10_sizeOf 2 (some .int) :: GT) ({ frames := 0, cells := 0, slots := 0, locals := 0 }) (gP D cy (w132 cy h0 h1 h2 h3 h4 h5 h6 h7 h8 h9 i0) [.ref h0, .int 0]) (vp_Si (fun r => r = 0)) 0 0 (fun _ => False) := by
  refine Met.ofW (cc := cX10_sizeOf) (maxL := 2) (ret := some .int) (by decide) rfl ?_
  intro p e s m args below meth c s₁ B hml hv
  obtain ⟨rfl, hP, hK⟩ := hv
  have hx := B.exec
  have hb := B.bytes
  have hr := B.returns
  have hts := atoms_spec (ws := (Cond.code yX10_sizeOf cX10_sizeOf 2 (some .int) :: GT)) B.pre
  have ht : ∀ w ∈ GT, w.before _ s = true := fun w h => hts w (List.mem_cons_of_mem _ h)
  have hown : s.vm.findClass RX10 = some m.cls := findClass_of_methodNamed B.named
  have hlocks := B.notSynchronized
  have hP : va_P D classes ([(h0, .inr (9, [.ref h1, .ref h2, .ref h3, .null, .int 0, .ref h4, .int 0, .int 0, .int 0, .ref h5, .ref h6, .ref h7, .int 0, .int 0, .int 0, .ref h8, .ref h9])), (h1, .inl (cy 0, 559, .inl (upd (fun _ => 0) 5 i0)))]) s.heap := hP
  have hl := lv_entry ([.ref h0, .int 0]) (n := 2) (Nat.le_of_ble_eq_true rfl)
  rw [lg_entry_eq]
  generalize (lg_sl ([.ref h0, .int 0]) ++ List.replicate (2 - (lg_sl ([.ref h0, .int 0])).length) Slot.unset).toArray = ls at hl ⊢
  have hl : lv_has ls 2 [(0, .ref h0), (1, .int 0)] := hl
  refine lv_aload_n hx hb dX10_sizeOf_0 rfl (lv_at hl 0 rfl) ?_
  refine va_get (D := D) (ci := 9) (v := .ref h1) (C := RX10) (T := TX10) (N := 17) hx hb hts i_X10 hown hK.1 hP 0 rfl rfl 0 (by decide) (ht _ kt_849) (fun _ h9 => h9) rfl dX10_sizeOf_1 ?_
  refine lv_sipush (v := 533) hx hb dX10_sizeOf_4 (by decide) ?_
  refine lv_iload_n hx hb dX10_sizeOf_7 rfl (lv_at hl 1 rfl) ?_
  refine lv_iadd hx hb dX10_sizeOf_8 ?_
  refine lz_i 533 (by decide) ?_
  refine va_iald hx hb hK.1 hP 1 0 rfl rfl (vin (by decide)) dX10_sizeOf_9 ?_
  refine lz_i 0 rfl ?_
  refine lv_aload_n hx hb dX10_sizeOf_10 rfl (lv_at hl 0 rfl) ?_
  refine va_get (D := D) (ci := 9) (v := .ref h1) (C := RX10) (T := TX10) (N := 17) hx hb hts i_X10 hown hK.1 hP 0 rfl rfl 0 (by decide) (ht _ kt_849) (fun _ h9 => h9) rfl dX10_sizeOf_11 ?_
  refine lv_sipush (v := 507) hx hb dX10_sizeOf_14 (by decide) ?_
  refine lv_iload_n hx hb dX10_sizeOf_17 rfl (lv_at hl 1 rfl) ?_
  refine lv_iadd hx hb dX10_sizeOf_18 ?_
  refine lz_i 507 (by decide) ?_
  refine va_iald hx hb hK.1 hP 1 0 rfl rfl (vin (by decide)) dX10_sizeOf_19 ?_
  refine lz_i 0 rfl ?_
  refine lv_isub hx hb dX10_sizeOf_20 ?_
  refine lz_i 0 (by decide) ?_
  exact W.iret (v := 0) hx hb hr (fun t ht2 hW => ⟨0, rfl, rfl, ht2⟩) (fun q h => by cases h) dX10_sizeOf_21
def w133 (cy : Nat → ClassId) (h0 h1 h2 h3 h4 h5 h6 h7 h8 h9 : Nat) (i0 : Int32) : va_W := [(h0, .inr (9, [.ref h1, .ref h2, .ref h3, .null, .int 0, .ref h4, .int 0, .int 0, .int 0, .ref h5, .ref h6, .ref h7, .int 0, .int 0, .int 0, .ref h8, .ref h9])), (h1, .inl (cy 0, 559, .inl (upd (fun _ => 0) 5 i0)))]
set_option maxHeartbeats 4000000 in
set_option maxRecDepth 100000 in
theorem c133_X10_sizeOf (l : Launch) (D : va_G) (cy : Nat → ClassId) (h0 h1 h2 h3 h4 h5 h6 h7 h8 h9 : Nat) (i0 : Int32) : Met l yX10_sizeOf (Cond.code yX10_sizeOf cX10_sizeOf 2 (some .int) :: GT) ({ frames := 0, cells := 0, slots := 0, locals := 0 }) (gP D cy (w133 cy h0 h1 h2 h3 h4 h5 h6 h7 h8 h9 i0) [.ref h0, .int 25]) (vp_Si (fun r => r = 0)) 0 0 (fun _ => False) := by
  refine Met.ofW (cc := cX10_sizeOf) (maxL := 2) (ret := some .int) (by decide) rfl ?_
  intro p e s m args below meth c s₁ B hml hv
  obtain ⟨rfl, hP, hK⟩ := hv
  have hx := B.exec
  have hb := B.bytes
  have hr := B.returns
  have hts := atoms_spec (ws := (Cond.code yX10_sizeOf cX10_sizeOf 2 (some .int) :: GT)) B.pre
  have ht : ∀ w ∈ GT, w.before _ s = true := fun w h => hts w (List.mem_cons_of_mem _ h)
  have hown : s.vm.findClass RX10 = some m.cls := findClass_of_methodNamed B.named
  have hlocks := B.notSynchronized
  have hP : va_P D classes ([(h0, .inr (9, [.ref h1, .ref h2, .ref h3, .null, .int 0, .ref h4, .int 0, .int 0, .int 0, .ref h5, .ref h6, .ref h7, .int 0, .int 0, .int 0, .ref h8, .ref h9])), (h1, .inl (cy 0, 559, .inl (upd (fun _ => 0) 5 i0)))]) s.heap := hP
  have hl := lv_entry ([.ref h0, .int 25]) (n := 2) (Nat.le_of_ble_eq_true rfl)
  rw [lg_entry_eq]
  generalize (lg_sl ([.ref h0, .int 25]) ++ List.replicate (2 - (lg_sl ([.ref h0, .int 25])).length) Slot.unset).toArray = ls at hl ⊢
  have hl : lv_has ls 2 [(0, .ref h0), (1, .int 25)] := hl
  refine lv_aload_n hx hb dX10_sizeOf_0 rfl (lv_at hl 0 rfl) ?_
  refine va_get (D := D) (ci := 9) (v := .ref h1) (C := RX10) (T := TX10) (N := 17) hx hb hts i_X10 hown hK.1 hP 0 rfl rfl 0 (by decide) (ht _ kt_849) (fun _ h9 => h9) rfl dX10_sizeOf_1 ?_
  refine lv_sipush (v := 533) hx hb dX10_sizeOf_4 (by decide) ?_
  refine lv_iload_n hx hb dX10_sizeOf_7 rfl (lv_at hl 1 rfl) ?_
  refine lv_iadd hx hb dX10_sizeOf_8 ?_
  refine lz_i 558 (by decide) ?_
  refine va_iald hx hb hK.1 hP 1 0 rfl rfl (vin (by decide)) dX10_sizeOf_9 ?_
  refine lz_i 0 rfl ?_
  refine lv_aload_n hx hb dX10_sizeOf_10 rfl (lv_at hl 0 rfl) ?_
  refine va_get (D := D) (ci := 9) (v := .ref h1) (C := RX10) (T := TX10) (N := 17) hx hb hts i_X10 hown hK.1 hP 0 rfl rfl 0 (by decide) (ht _ kt_849) (fun _ h9 => h9) rfl dX10_sizeOf_11 ?_
  refine lv_sipush (v := 507) hx hb dX10_sizeOf_14 (by decide) ?_
  refine lv_iload_n hx hb dX10_sizeOf_17 rfl (lv_at hl 1 rfl) ?_
  refine lv_iadd hx hb dX10_sizeOf_18 ?_
  refine lz_i 532 (by decide) ?_
  refine va_iald hx hb hK.1 hP 1 0 rfl rfl (vin (by decide)) dX10_sizeOf_19 ?_
  refine lz_i 0 rfl ?_
  refine lv_isub hx hb dX10_sizeOf_20 ?_
  refine lz_i 0 (by decide) ?_
  exact W.iret (v := 0) hx hb hr (fun t ht2 hW => ⟨0, rfl, rfl, ht2⟩) (fun q h => by cases h) dX10_sizeOf_21
def w134 (cy : Nat → ClassId) (h0 h1 h2 h3 h4 h5 h6 h7 h8 h9 h10 : Nat) : va_W := [(h0, .inr (9, [.ref h1, .ref h2, .ref h3, .ref h4, .int 1, .ref h5, .int 0, .int 0, .int 0, .ref h6, .ref h7, .ref h8, .int 0, .int 0, .int 0, .ref h9, .ref h10])), (h1, .inl (cy 0, 559, .inl (fun _ => 0)))]
set_option maxHeartbeats 4000000 in
set_option maxRecDepth 100000 in
theorem c134_X10_sizeOf (l : Launch) (D : va_G) (cy : Nat → ClassId) (h0 h1 h2 h3 h4 h5 h6 h7 h8 h9 h10 : Nat) : Met l yX10_sizeOf (Cond.code yX10_sizeOf cX10_sizeOf 2 (some .int) :: GT) ({ frames := 0, cells := 0, slots := 0, locals := 0 }) (gP D cy (w134 cy h0 h1 h2 h3 h4 h5 h6 h7 h8 h9 h10) [.ref h0, .int 0]) (vp_Si (fun r => r = 0)) 0 0 (fun _ => False) := by
  refine Met.ofW (cc := cX10_sizeOf) (maxL := 2) (ret := some .int) (by decide) rfl ?_
  intro p e s m args below meth c s₁ B hml hv
  obtain ⟨rfl, hP, hK⟩ := hv
  have hx := B.exec
  have hb := B.bytes
  have hr := B.returns
  have hts := atoms_spec (ws := (Cond.code yX10_sizeOf cX10_sizeOf 2 (some .int) :: GT)) B.pre
  have ht : ∀ w ∈ GT, w.before _ s = true := fun w h => hts w (List.mem_cons_of_mem _ h)
  have hown : s.vm.findClass RX10 = some m.cls := findClass_of_methodNamed B.named
  have hlocks := B.notSynchronized
  have hP : va_P D classes ([(h0, .inr (9, [.ref h1, .ref h2, .ref h3, .ref h4, .int 1, .ref h5, .int 0, .int 0, .int 0, .ref h6, .ref h7, .ref h8, .int 0, .int 0, .int 0, .ref h9, .ref h10])), (h1, .inl (cy 0, 559, .inl (fun _ => 0)))]) s.heap := hP
  have hl := lv_entry ([.ref h0, .int 0]) (n := 2) (Nat.le_of_ble_eq_true rfl)
  rw [lg_entry_eq]
  generalize (lg_sl ([.ref h0, .int 0]) ++ List.replicate (2 - (lg_sl ([.ref h0, .int 0])).length) Slot.unset).toArray = ls at hl ⊢
  have hl : lv_has ls 2 [(0, .ref h0), (1, .int 0)] := hl
  refine lv_aload_n hx hb dX10_sizeOf_0 rfl (lv_at hl 0 rfl) ?_
  refine va_get (D := D) (ci := 9) (v := .ref h1) (C := RX10) (T := TX10) (N := 17) hx hb hts i_X10 hown hK.1 hP 0 rfl rfl 0 (by decide) (ht _ kt_849) (fun _ h9 => h9) rfl dX10_sizeOf_1 ?_
  refine lv_sipush (v := 533) hx hb dX10_sizeOf_4 (by decide) ?_
  refine lv_iload_n hx hb dX10_sizeOf_7 rfl (lv_at hl 1 rfl) ?_
  refine lv_iadd hx hb dX10_sizeOf_8 ?_
  refine lz_i 533 (by decide) ?_
  refine va_iald hx hb hK.1 hP 1 0 rfl rfl (vin (by decide)) dX10_sizeOf_9 ?_
  refine lz_i 0 rfl ?_
  refine lv_aload_n hx hb dX10_sizeOf_10 rfl (lv_at hl 0 rfl) ?_
  refine va_get (D := D) (ci := 9) (v := .ref h1) (C := RX10) (T := TX10) (N := 17) hx hb hts i_X10 hown hK.1 hP 0 rfl rfl 0 (by decide) (ht _ kt_849) (fun _ h9 => h9) rfl dX10_sizeOf_11 ?_
  refine lv_sipush (v := 507) hx hb dX10_sizeOf_14 (by decide) ?_
  refine lv_iload_n hx hb dX10_sizeOf_17 rfl (lv_at hl 1 rfl) ?_
  refine lv_iadd hx hb dX10_sizeOf_18 ?_
  refine lz_i 507 (by decide) ?_
  refine va_iald hx hb hK.1 hP 1 0 rfl rfl (vin (by decide)) dX10_sizeOf_19 ?_
  refine lz_i 0 rfl ?_
  refine lv_isub hx hb dX10_sizeOf_20 ?_
  refine lz_i 0 (by decide) ?_
  exact W.iret (v := 0) hx hb hr (fun t ht2 hW => ⟨0, rfl, rfl, ht2⟩) (fun q h => by cases h) dX10_sizeOf_21
