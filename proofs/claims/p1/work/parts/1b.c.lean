def w6 (cy : Nat → ClassId) (h0 : Nat) : va_W := [(h0, .inr (8, [.null, .null, .null]))]
def vw6 (cy : Nat → ClassId) (h0 : Nat) (u : Nat → Nat) : va_W := [(h0, .inr (8, [.ref (u 0), .null, .null])), ((u 0), .inr (4, [.ref (u 1), .int 0, .ref (u 14), .int 0, .ref (u 27), .ref (u 29), .ref (u 31), .ref (u 33), .ref (u 35), .ref (u 37), .int 0, .int 0, .int 0, .int 0, .int 0])), ((u 1), .inl (cy 3, 3, .inr (.inr (.inr (.inr (va_up (va_up (va_up (fun _ => none) 0 (some (u 2))) 1 (some (u 6))) 2 (some (u 10)))))))), ((u 2), .inr (3, [.int 0, .int 8, .int 0, .int 0, .int 0, .int 0, .int 0, .ref (u 3), .ref (u 4), .ref (u 5)])), ((u 3), .inl (cy 0, 16, .inl (fun _ => 0))), ((u 4), .inl (cy 0, 16, .inl (fun _ => 0))), ((u 5), .inl (cy 0, 48, .inl (fun _ => 0))), ((u 6), .inr (3, [.int 0, .int 8, .int 0, .int 0, .int 0, .int 0, .int 0, .ref (u 7), .ref (u 8), .ref (u 9)])), ((u 7), .inl (cy 0, 16, .inl (fun _ => 0))), ((u 8), .inl (cy 0, 16, .inl (fun _ => 0))), ((u 9), .inl (cy 0, 48, .inl (fun _ => 0))), ((u 10), .inr (3, [.int 0, .int 8, .int 0, .int 0, .int 0, .int 0, .int 0, .ref (u 11), .ref (u 12), .ref (u 13)])), ((u 11), .inl (cy 0, 16, .inl (fun _ => 0))), ((u 12), .inl (cy 0, 16, .inl (fun _ => 0))), ((u 13), .inl (cy 0, 48, .inl (fun _ => 0))), ((u 14), .inl (cy 4, 12, .inr (.inr (.inr (.inr (va_up (va_up (va_up (va_up (va_up (va_up (va_up (va_up (va_up (va_up (va_up (va_up (fun _ => none) 0 (some (u 15))) 1 (some (u 16))) 2 (some (u 17))) 3 (some (u 18))) 4 (some (u 19))) 5 (some (u 20))) 6 (some (u 21))) 7 (some (u 22))) 8 (some (u 23))) 9 (some (u 24))) 10 (some (u 25))) 11 (some (u 26)))))))), ((u 15), .inr (2, [.int 0, .int 0, .int 0, .int 0, .int 0, .int 0, .int 0, .int 0, .int 0, .int 0, .int 0, .int 0])), ((u 16), .inr (2, [.int 0, .int 0, .int 0, .int 0, .int 0, .int 0, .int 0, .int 0, .int 0, .int 0, .int 0, .int 0])), ((u 17), .inr (2, [.int 0, .int 0, .int 0, .int 0, .int 0, .int 0, .int 0, .int 0, .int 0, .int 0, .int 0, .int 0])), ((u 18), .inr (2, [.int 0, .int 0, .int 0, .int 0, .int 0, .int 0, .int 0, .int 0, .int 0, .int 0, .int 0, .int 0])), ((u 19), .inr (2, [.int 0, .int 0, .int 0, .int 0, .int 0, .int 0, .int 0, .int 0, .int 0, .int 0, .int 0, .int 0])), ((u 20), .inr (2, [.int 0, .int 0, .int 0, .int 0, .int 0, .int 0, .int 0, .int 0, .int 0, .int 0, .int 0, .int 0])), ((u 21), .inr (2, [.int 0, .int 0, .int 0, .int 0, .int 0, .int 0, .int 0, .int 0, .int 0, .int 0, .int 0, .int 0])), ((u 22), .inr (2, [.int 0, .int 0, .int 0, .int 0, .int 0, .int 0, .int 0, .int 0, .int 0, .int 0, .int 0, .int 0])), ((u 23), .inr (2, [.int 0, .int 0, .int 0, .int 0, .int 0, .int 0, .int 0, .int 0, .int 0, .int 0, .int 0, .int 0])), ((u 24), .inr (2, [.int 0, .int 0, .int 0, .int 0, .int 0, .int 0, .int 0, .int 0, .int 0, .int 0, .int 0, .int 0])), ((u 25), .inr (2, [.int 0, .int 0, .int 0, .int 0, .int 0, .int 0, .int 0, .int 0, .int 0, .int 0, .int 0, .int 0])), ((u 26), .inr (2, [.int 0, .int 0, .int 0, .int 0, .int 0, .int 0, .int 0, .int 0, .int 0, .int 0, .int 0, .int 0])), ((u 27), .inr (1, [.ref (u 28), .int 0, .int 0])), ((u 28), .inl (cy 1, 16, .inr (.inl (fun _ => 0)))), ((u 29), .inr (1, [.ref (u 30), .int 0, .int 0])), ((u 30), .inl (cy 1, 16, .inr (.inl (fun _ => 0)))), ((u 31), .inr (1, [.ref (u 32), .int 0, .int 0])), ((u 32), .inl (cy 1, 16, .inr (.inl (fun _ => 0)))), ((u 33), .inr (1, [.ref (u 34), .int 0, .int 0])), ((u 34), .inl (cy 1, 16, .inr (.inl (fun _ => 0)))), ((u 35), .inr (6, [.ref (u 36), .int 0])), ((u 36), .inl (cy 2, 40, .inl (fun _ => 0))), ((u 37), .inr (0, [.ref (u 38), .int 0])), ((u 38), .inl (cy 0, 32, .inl (fun _ => 0)))]
set_option maxHeartbeats 4000000 in
set_option maxRecDepth 100000 in
theorem c6_X9_init (l : Launch) (D : va_G) (cy : Nat → ClassId) (h0 : Nat) (sz : Nat) : Met l yX9_init (Cond.code yX9_init cX9_init 1 (none) :: GT) ({ frames := 3, cells := 39, slots := 596, locals := 69 }) (gN D cy (w6 cy h0) [.ref h0] sz) (va_Qv (fun _ : Nat → Nat => True) (fun u t => va_P D classes (vw6 cy h0 u) t.heap ∧ va_D (va_A (w6 cy h0) sz) (vw6 cy h0 u)) (va_A (w6 cy h0) sz)) 39 596 (va_A (w6 cy h0) sz) := by
  refine Met.ofW (cc := cX9_init) (maxL := 1) (ret := none) (by decide) rfl ?_
  intro p e s m args below meth c s₁ B hml hv
  obtain ⟨rfl, hsz, hP, hK, hD0⟩ := hv
  have hx := B.exec
  have hb := B.bytes
  have hr := B.returns
  have hts := atoms_spec (ws := (Cond.code yX9_init cX9_init 1 (none) :: GT)) B.pre
  have ht : ∀ w ∈ GT, w.before _ s = true := fun w h => hts w (List.mem_cons_of_mem _ h)
  have hown : s.vm.findClass RX9 = some m.cls := findClass_of_methodNamed B.named
  have hlocks := B.notSynchronized
  have hin : meth.name = "<init>" := (name_of_methodNamed B.named B.method).1
  subst hsz
  have hD := hD0.self (sz := s.heap.size)
  generalize hAe : va_A (w6 cy h0) s.heap.size = A at hD ⊢
  have hA : ∀ q : Nat, s.heap.size ≤ q → A q := fun q h => by rw [← hAe]; exact Or.inr h
  have hS : va_S A s.heap s.heap [] := va_S.rf
  have hD : va_D A ([(h0, .inr (8, [.null, .null, .null]))]) := hD
  have hP : va_P D classes ([(h0, .inr (8, [.null, .null, .null]))]) s.heap := hP
  have hl := lv_entry ([.ref h0]) (n := 1) (Nat.le_of_ble_eq_true rfl)
  rw [lg_entry_eq]
  generalize (lg_sl ([.ref h0]) ++ List.replicate (1 - (lg_sl ([.ref h0])).length) Slot.unset).toArray = ls at hl ⊢
  have hl : lv_has ls 1 [(0, .ref h0)] := hl
  refine lv_aload_n hx hb dX9_init_0 rfl (lv_at hl 0 rfl) ?_
  refine W.objInit hx hb hown (ht _ kt_20) (ht _ kt_21) (ht _ kt_22) rfl (by rw [hml]; exact hl.1) rfl dX9_init_1 (Nat.le_of_ble_eq_true rfl) (Nat.le_of_ble_eq_true rfl) ?_
  refine W.eq (g2 := F0 m 4 ls []) rfl ?_
  refine lv_aload_n hx hb dX9_init_4 rfl (lv_at hl 0 rfl) ?_
  refine va_new (ci := 4) (fs := [.null, .int 0, .null, .int 0, .null, .null, .null, .null, .null, .null, .int 0, .int 0, .int 0, .int 0, .int 0]) (C := RX5) (T := TX5) (N := 15) hx hb hts i_X5 tyX5 tyX5_ok hown (ht _ kt_23) (ht _ kt_24) (ht _ kt_2) hK.1 hP hD hS hA rfl df_X5 (Nat.le_of_ble_eq_true rfl) (Nat.le_of_ble_eq_true rfl) dX9_init_5 (fun q1 H hP hD hS => ?_)
  have hP : va_P D classes ([(h0, .inr (8, [.null, .null, .null])), (q1, .inr (4, [.null, .int 0, .null, .int 0, .null, .null, .null, .null, .null, .null, .int 0, .int 0, .int 0, .int 0, .int 0]))]) H := hP
  have hD : va_D A ([(h0, .inr (8, [.null, .null, .null])), (q1, .inr (4, [.null, .int 0, .null, .int 0, .null, .null, .null, .null, .null, .null, .int 0, .int 0, .int 0, .int 0, .int 0]))]) := hD
  refine W.widen (k := 1) (n := 15) (Nat.le_of_ble_eq_true rfl) (Nat.le_of_ble_eq_true rfl) ?_
  refine lv_dup hx hb dX9_init_8 rfl ?_
  have hPc := hP.sub (ws' := (w5 cy q1)) [1] rfl
  have hDc := hD.sub (ws' := (w5 cy q1)) [1] (by decide +kernel) rfl
  have hFc := va_free (wc := (w5 cy q1)) hD hS hA [1] rfl
  refine va_callv (va_runI (As := []) (rest := [.ref q1, .ref h0]) ⟨hx, hb, hml, hown, hts⟩ (c5_X5_init l D cy q1 H.size) (cwI 0 hts (gt_G kt_27) rfl rfl rfl (ht _ kt_2) (ht _ kt_25) (ht _ kt_26) rfl (by decide +kernel) ⟨Nat.le_of_ble_eq_true rfl, Nat.le_of_ble_eq_true rfl⟩) (gN_S hK hPc hDc) rfl rfl hl.1 rfl (lv_room (Nat.le_of_ble_eq_true rfl)) dX9_init_9 ⟨Nat.le_of_ble_eq_true rfl, Nat.le_of_ble_eq_true rfl⟩) hS (fun q _ h => hFc q h) hFc (fun u4 t H1 locs ht2 hvm hw3 hB hz1 hk1 hS => ?_)
  obtain ⟨hP1, hD1⟩ := hB
  rw [ht2] at hP1
  obtain ⟨hP, hD⟩ := va_join (wr := ([(h0, .inr (8, [.null, .null, .null]))] : va_W)) (w1 := (vw5 cy q1 u4)) hP hD [1] [0] rfl rfl (by decide +kernel) (by decide +kernel) hk1 hFc hP1 hD1
  generalize H1 = H at hP hS ⊢
  have hP : va_P D classes ([(h0, .inr (8, [.null, .null, .null])), (q1, .inr (4, [.ref (u4 0), .int 0, .ref (u4 13), .int 0, .ref (u4 26), .ref (u4 28), .ref (u4 30), .ref (u4 32), .ref (u4 34), .ref (u4 36), .int 0, .int 0, .int 0, .int 0, .int 0])), ((u4 0), .inl (cy 3, 3, .inr (.inr (.inr (.inr (va_up (va_up (va_up (fun _ => none) 0 (some (u4 1))) 1 (some (u4 5))) 2 (some (u4 9)))))))), ((u4 1), .inr (3, [.int 0, .int 8, .int 0, .int 0, .int 0, .int 0, .int 0, .ref (u4 2), .ref (u4 3), .ref (u4 4)])), ((u4 2), .inl (cy 0, 16, .inl (fun _ => 0))), ((u4 3), .inl (cy 0, 16, .inl (fun _ => 0))), ((u4 4), .inl (cy 0, 48, .inl (fun _ => 0))), ((u4 5), .inr (3, [.int 0, .int 8, .int 0, .int 0, .int 0, .int 0, .int 0, .ref (u4 6), .ref (u4 7), .ref (u4 8)])), ((u4 6), .inl (cy 0, 16, .inl (fun _ => 0))), ((u4 7), .inl (cy 0, 16, .inl (fun _ => 0))), ((u4 8), .inl (cy 0, 48, .inl (fun _ => 0))), ((u4 9), .inr (3, [.int 0, .int 8, .int 0, .int 0, .int 0, .int 0, .int 0, .ref (u4 10), .ref (u4 11), .ref (u4 12)])), ((u4 10), .inl (cy 0, 16, .inl (fun _ => 0))), ((u4 11), .inl (cy 0, 16, .inl (fun _ => 0))), ((u4 12), .inl (cy 0, 48, .inl (fun _ => 0))), ((u4 13), .inl (cy 4, 12, .inr (.inr (.inr (.inr (va_up (va_up (va_up (va_up (va_up (va_up (va_up (va_up (va_up (va_up (va_up (va_up (fun _ => none) 0 (some (u4 14))) 1 (some (u4 15))) 2 (some (u4 16))) 3 (some (u4 17))) 4 (some (u4 18))) 5 (some (u4 19))) 6 (some (u4 20))) 7 (some (u4 21))) 8 (some (u4 22))) 9 (some (u4 23))) 10 (some (u4 24))) 11 (some (u4 25)))))))), ((u4 14), .inr (2, [.int 0, .int 0, .int 0, .int 0, .int 0, .int 0, .int 0, .int 0, .int 0, .int 0, .int 0, .int 0])), ((u4 15), .inr (2, [.int 0, .int 0, .int 0, .int 0, .int 0, .int 0, .int 0, .int 0, .int 0, .int 0, .int 0, .int 0])), ((u4 16), .inr (2, [.int 0, .int 0, .int 0, .int 0, .int 0, .int 0, .int 0, .int 0, .int 0, .int 0, .int 0, .int 0])), ((u4 17), .inr (2, [.int 0, .int 0, .int 0, .int 0, .int 0, .int 0, .int 0, .int 0, .int 0, .int 0, .int 0, .int 0])), ((u4 18), .inr (2, [.int 0, .int 0, .int 0, .int 0, .int 0, .int 0, .int 0, .int 0, .int 0, .int 0, .int 0, .int 0])), ((u4 19), .inr (2, [.int 0, .int 0, .int 0, .int 0, .int 0, .int 0, .int 0, .int 0, .int 0, .int 0, .int 0, .int 0])), ((u4 20), .inr (2, [.int 0, .int 0, .int 0, .int 0, .int 0, .int 0, .int 0, .int 0, .int 0, .int 0, .int 0, .int 0])), ((u4 21), .inr (2, [.int 0, .int 0, .int 0, .int 0, .int 0, .int 0, .int 0, .int 0, .int 0, .int 0, .int 0, .int 0])), ((u4 22), .inr (2, [.int 0, .int 0, .int 0, .int 0, .int 0, .int 0, .int 0, .int 0, .int 0, .int 0, .int 0, .int 0])), ((u4 23), .inr (2, [.int 0, .int 0, .int 0, .int 0, .int 0, .int 0, .int 0, .int 0, .int 0, .int 0, .int 0, .int 0])), ((u4 24), .inr (2, [.int 0, .int 0, .int 0, .int 0, .int 0, .int 0, .int 0, .int 0, .int 0, .int 0, .int 0, .int 0])), ((u4 25), .inr (2, [.int 0, .int 0, .int 0, .int 0, .int 0, .int 0, .int 0, .int 0, .int 0, .int 0, .int 0, .int 0])), ((u4 26), .inr (1, [.ref (u4 27), .int 0, .int 0])), ((u4 27), .inl (cy 1, 16, .inr (.inl (fun _ => 0)))), ((u4 28), .inr (1, [.ref (u4 29), .int 0, .int 0])), ((u4 29), .inl (cy 1, 16, .inr (.inl (fun _ => 0)))), ((u4 30), .inr (1, [.ref (u4 31), .int 0, .int 0])), ((u4 31), .inl (cy 1, 16, .inr (.inl (fun _ => 0)))), ((u4 32), .inr (1, [.ref (u4 33), .int 0, .int 0])), ((u4 33), .inl (cy 1, 16, .inr (.inl (fun _ => 0)))), ((u4 34), .inr (6, [.ref (u4 35), .int 0])), ((u4 35), .inl (cy 2, 40, .inl (fun _ => 0))), ((u4 36), .inr (0, [.ref (u4 37), .int 0])), ((u4 37), .inl (cy 0, 32, .inl (fun _ => 0)))]) H := hP
  have hD : va_D A ([(h0, .inr (8, [.null, .null, .null])), (q1, .inr (4, [.ref (u4 0), .int 0, .ref (u4 13), .int 0, .ref (u4 26), .ref (u4 28), .ref (u4 30), .ref (u4 32), .ref (u4 34), .ref (u4 36), .int 0, .int 0, .int 0, .int 0, .int 0])), ((u4 0), .inl (cy 3, 3, .inr (.inr (.inr (.inr (va_up (va_up (va_up (fun _ => none) 0 (some (u4 1))) 1 (some (u4 5))) 2 (some (u4 9)))))))), ((u4 1), .inr (3, [.int 0, .int 8, .int 0, .int 0, .int 0, .int 0, .int 0, .ref (u4 2), .ref (u4 3), .ref (u4 4)])), ((u4 2), .inl (cy 0, 16, .inl (fun _ => 0))), ((u4 3), .inl (cy 0, 16, .inl (fun _ => 0))), ((u4 4), .inl (cy 0, 48, .inl (fun _ => 0))), ((u4 5), .inr (3, [.int 0, .int 8, .int 0, .int 0, .int 0, .int 0, .int 0, .ref (u4 6), .ref (u4 7), .ref (u4 8)])), ((u4 6), .inl (cy 0, 16, .inl (fun _ => 0))), ((u4 7), .inl (cy 0, 16, .inl (fun _ => 0))), ((u4 8), .inl (cy 0, 48, .inl (fun _ => 0))), ((u4 9), .inr (3, [.int 0, .int 8, .int 0, .int 0, .int 0, .int 0, .int 0, .ref (u4 10), .ref (u4 11), .ref (u4 12)])), ((u4 10), .inl (cy 0, 16, .inl (fun _ => 0))), ((u4 11), .inl (cy 0, 16, .inl (fun _ => 0))), ((u4 12), .inl (cy 0, 48, .inl (fun _ => 0))), ((u4 13), .inl (cy 4, 12, .inr (.inr (.inr (.inr (va_up (va_up (va_up (va_up (va_up (va_up (va_up (va_up (va_up (va_up (va_up (va_up (fun _ => none) 0 (some (u4 14))) 1 (some (u4 15))) 2 (some (u4 16))) 3 (some (u4 17))) 4 (some (u4 18))) 5 (some (u4 19))) 6 (some (u4 20))) 7 (some (u4 21))) 8 (some (u4 22))) 9 (some (u4 23))) 10 (some (u4 24))) 11 (some (u4 25)))))))), ((u4 14), .inr (2, [.int 0, .int 0, .int 0, .int 0, .int 0, .int 0, .int 0, .int 0, .int 0, .int 0, .int 0, .int 0])), ((u4 15), .inr (2, [.int 0, .int 0, .int 0, .int 0, .int 0, .int 0, .int 0, .int 0, .int 0, .int 0, .int 0, .int 0])), ((u4 16), .inr (2, [.int 0, .int 0, .int 0, .int 0, .int 0, .int 0, .int 0, .int 0, .int 0, .int 0, .int 0, .int 0])), ((u4 17), .inr (2, [.int 0, .int 0, .int 0, .int 0, .int 0, .int 0, .int 0, .int 0, .int 0, .int 0, .int 0, .int 0])), ((u4 18), .inr (2, [.int 0, .int 0, .int 0, .int 0, .int 0, .int 0, .int 0, .int 0, .int 0, .int 0, .int 0, .int 0])), ((u4 19), .inr (2, [.int 0, .int 0, .int 0, .int 0, .int 0, .int 0, .int 0, .int 0, .int 0, .int 0, .int 0, .int 0])), ((u4 20), .inr (2, [.int 0, .int 0, .int 0, .int 0, .int 0, .int 0, .int 0, .int 0, .int 0, .int 0, .int 0, .int 0])), ((u4 21), .inr (2, [.int 0, .int 0, .int 0, .int 0, .int 0, .int 0, .int 0, .int 0, .int 0, .int 0, .int 0, .int 0])), ((u4 22), .inr (2, [.int 0, .int 0, .int 0, .int 0, .int 0, .int 0, .int 0, .int 0, .int 0, .int 0, .int 0, .int 0])), ((u4 23), .inr (2, [.int 0, .int 0, .int 0, .int 0, .int 0, .int 0, .int 0, .int 0, .int 0, .int 0, .int 0, .int 0])), ((u4 24), .inr (2, [.int 0, .int 0, .int 0, .int 0, .int 0, .int 0, .int 0, .int 0, .int 0, .int 0, .int 0, .int 0])), ((u4 25), .inr (2, [.int 0, .int 0, .int 0, .int 0, .int 0, .int 0, .int 0, .int 0, .int 0, .int 0, .int 0, .int 0])), ((u4 26), .inr (1, [.ref (u4 27), .int 0, .int 0])), ((u4 27), .inl (cy 1, 16, .inr (.inl (fun _ => 0)))), ((u4 28), .inr (1, [.ref (u4 29), .int 0, .int 0])), ((u4 29), .inl (cy 1, 16, .inr (.inl (fun _ => 0)))), ((u4 30), .inr (1, [.ref (u4 31), .int 0, .int 0])), ((u4 31), .inl (cy 1, 16, .inr (.inl (fun _ => 0)))), ((u4 32), .inr (1, [.ref (u4 33), .int 0, .int 0])), ((u4 33), .inl (cy 1, 16, .inr (.inl (fun _ => 0)))), ((u4 34), .inr (6, [.ref (u4 35), .int 0])), ((u4 35), .inl (cy 2, 40, .inl (fun _ => 0))), ((u4 36), .inr (0, [.ref (u4 37), .int 0])), ((u4 37), .inl (cy 0, 32, .inl (fun _ => 0)))]) := hD
  refine W.widen (k := 39) (n := 596) (Nat.le_of_ble_eq_true rfl) (Nat.le_of_ble_eq_true rfl) ?_
  refine va_putF (D := D) (ci := 8) (v := .ref q1) (ty := .object "AdaptiveQueryExecutor$State") (C := RX9) (T := TX9) (N := 3) hx hb hts i_X9 tyX9 tyX9_ok nmX9 hown hK.1 hP hD hS 0 rfl rfl 0 (by decide) (ht _ kt_260) (fun _ h9 => h9) rfl hin rfl (by decide +kernel) rfl rfl (Nat.le_of_ble_eq_true rfl) dX9_init_12 (fun H locs hP hD hS => ?_)
  have hP : va_P D classes ([(h0, .inr (8, [.ref q1, .null, .null])), (q1, .inr (4, [.ref (u4 0), .int 0, .ref (u4 13), .int 0, .ref (u4 26), .ref (u4 28), .ref (u4 30), .ref (u4 32), .ref (u4 34), .ref (u4 36), .int 0, .int 0, .int 0, .int 0, .int 0])), ((u4 0), .inl (cy 3, 3, .inr (.inr (.inr (.inr (va_up (va_up (va_up (fun _ => none) 0 (some (u4 1))) 1 (some (u4 5))) 2 (some (u4 9)))))))), ((u4 1), .inr (3, [.int 0, .int 8, .int 0, .int 0, .int 0, .int 0, .int 0, .ref (u4 2), .ref (u4 3), .ref (u4 4)])), ((u4 2), .inl (cy 0, 16, .inl (fun _ => 0))), ((u4 3), .inl (cy 0, 16, .inl (fun _ => 0))), ((u4 4), .inl (cy 0, 48, .inl (fun _ => 0))), ((u4 5), .inr (3, [.int 0, .int 8, .int 0, .int 0, .int 0, .int 0, .int 0, .ref (u4 6), .ref (u4 7), .ref (u4 8)])), ((u4 6), .inl (cy 0, 16, .inl (fun _ => 0))), ((u4 7), .inl (cy 0, 16, .inl (fun _ => 0))), ((u4 8), .inl (cy 0, 48, .inl (fun _ => 0))), ((u4 9), .inr (3, [.int 0, .int 8, .int 0, .int 0, .int 0, .int 0, .int 0, .ref (u4 10), .ref (u4 11), .ref (u4 12)])), ((u4 10), .inl (cy 0, 16, .inl (fun _ => 0))), ((u4 11), .inl (cy 0, 16, .inl (fun _ => 0))), ((u4 12), .inl (cy 0, 48, .inl (fun _ => 0))), ((u4 13), .inl (cy 4, 12, .inr (.inr (.inr (.inr (va_up (va_up (va_up (va_up (va_up (va_up (va_up (va_up (va_up (va_up (va_up (va_up (fun _ => none) 0 (some (u4 14))) 1 (some (u4 15))) 2 (some (u4 16))) 3 (some (u4 17))) 4 (some (u4 18))) 5 (some (u4 19))) 6 (some (u4 20))) 7 (some (u4 21))) 8 (some (u4 22))) 9 (some (u4 23))) 10 (some (u4 24))) 11 (some (u4 25)))))))), ((u4 14), .inr (2, [.int 0, .int 0, .int 0, .int 0, .int 0, .int 0, .int 0, .int 0, .int 0, .int 0, .int 0, .int 0])), ((u4 15), .inr (2, [.int 0, .int 0, .int 0, .int 0, .int 0, .int 0, .int 0, .int 0, .int 0, .int 0, .int 0, .int 0])), ((u4 16), .inr (2, [.int 0, .int 0, .int 0, .int 0, .int 0, .int 0, .int 0, .int 0, .int 0, .int 0, .int 0, .int 0])), ((u4 17), .inr (2, [.int 0, .int 0, .int 0, .int 0, .int 0, .int 0, .int 0, .int 0, .int 0, .int 0, .int 0, .int 0])), ((u4 18), .inr (2, [.int 0, .int 0, .int 0, .int 0, .int 0, .int 0, .int 0, .int 0, .int 0, .int 0, .int 0, .int 0])), ((u4 19), .inr (2, [.int 0, .int 0, .int 0, .int 0, .int 0, .int 0, .int 0, .int 0, .int 0, .int 0, .int 0, .int 0])), ((u4 20), .inr (2, [.int 0, .int 0, .int 0, .int 0, .int 0, .int 0, .int 0, .int 0, .int 0, .int 0, .int 0, .int 0])), ((u4 21), .inr (2, [.int 0, .int 0, .int 0, .int 0, .int 0, .int 0, .int 0, .int 0, .int 0, .int 0, .int 0, .int 0])), ((u4 22), .inr (2, [.int 0, .int 0, .int 0, .int 0, .int 0, .int 0, .int 0, .int 0, .int 0, .int 0, .int 0, .int 0])), ((u4 23), .inr (2, [.int 0, .int 0, .int 0, .int 0, .int 0, .int 0, .int 0, .int 0, .int 0, .int 0, .int 0, .int 0])), ((u4 24), .inr (2, [.int 0, .int 0, .int 0, .int 0, .int 0, .int 0, .int 0, .int 0, .int 0, .int 0, .int 0, .int 0])), ((u4 25), .inr (2, [.int 0, .int 0, .int 0, .int 0, .int 0, .int 0, .int 0, .int 0, .int 0, .int 0, .int 0, .int 0])), ((u4 26), .inr (1, [.ref (u4 27), .int 0, .int 0])), ((u4 27), .inl (cy 1, 16, .inr (.inl (fun _ => 0)))), ((u4 28), .inr (1, [.ref (u4 29), .int 0, .int 0])), ((u4 29), .inl (cy 1, 16, .inr (.inl (fun _ => 0)))), ((u4 30), .inr (1, [.ref (u4 31), .int 0, .int 0])), ((u4 31), .inl (cy 1, 16, .inr (.inl (fun _ => 0)))), ((u4 32), .inr (1, [.ref (u4 33), .int 0, .int 0])), ((u4 33), .inl (cy 1, 16, .inr (.inl (fun _ => 0)))), ((u4 34), .inr (6, [.ref (u4 35), .int 0])), ((u4 35), .inl (cy 2, 40, .inl (fun _ => 0))), ((u4 36), .inr (0, [.ref (u4 37), .int 0])), ((u4 37), .inl (cy 0, 32, .inl (fun _ => 0)))]) H := hP
  have hD : va_D A ([(h0, .inr (8, [.ref q1, .null, .null])), (q1, .inr (4, [.ref (u4 0), .int 0, .ref (u4 13), .int 0, .ref (u4 26), .ref (u4 28), .ref (u4 30), .ref (u4 32), .ref (u4 34), .ref (u4 36), .int 0, .int 0, .int 0, .int 0, .int 0])), ((u4 0), .inl (cy 3, 3, .inr (.inr (.inr (.inr (va_up (va_up (va_up (fun _ => none) 0 (some (u4 1))) 1 (some (u4 5))) 2 (some (u4 9)))))))), ((u4 1), .inr (3, [.int 0, .int 8, .int 0, .int 0, .int 0, .int 0, .int 0, .ref (u4 2), .ref (u4 3), .ref (u4 4)])), ((u4 2), .inl (cy 0, 16, .inl (fun _ => 0))), ((u4 3), .inl (cy 0, 16, .inl (fun _ => 0))), ((u4 4), .inl (cy 0, 48, .inl (fun _ => 0))), ((u4 5), .inr (3, [.int 0, .int 8, .int 0, .int 0, .int 0, .int 0, .int 0, .ref (u4 6), .ref (u4 7), .ref (u4 8)])), ((u4 6), .inl (cy 0, 16, .inl (fun _ => 0))), ((u4 7), .inl (cy 0, 16, .inl (fun _ => 0))), ((u4 8), .inl (cy 0, 48, .inl (fun _ => 0))), ((u4 9), .inr (3, [.int 0, .int 8, .int 0, .int 0, .int 0, .int 0, .int 0, .ref (u4 10), .ref (u4 11), .ref (u4 12)])), ((u4 10), .inl (cy 0, 16, .inl (fun _ => 0))), ((u4 11), .inl (cy 0, 16, .inl (fun _ => 0))), ((u4 12), .inl (cy 0, 48, .inl (fun _ => 0))), ((u4 13), .inl (cy 4, 12, .inr (.inr (.inr (.inr (va_up (va_up (va_up (va_up (va_up (va_up (va_up (va_up (va_up (va_up (va_up (va_up (fun _ => none) 0 (some (u4 14))) 1 (some (u4 15))) 2 (some (u4 16))) 3 (some (u4 17))) 4 (some (u4 18))) 5 (some (u4 19))) 6 (some (u4 20))) 7 (some (u4 21))) 8 (some (u4 22))) 9 (some (u4 23))) 10 (some (u4 24))) 11 (some (u4 25)))))))), ((u4 14), .inr (2, [.int 0, .int 0, .int 0, .int 0, .int 0, .int 0, .int 0, .int 0, .int 0, .int 0, .int 0, .int 0])), ((u4 15), .inr (2, [.int 0, .int 0, .int 0, .int 0, .int 0, .int 0, .int 0, .int 0, .int 0, .int 0, .int 0, .int 0])), ((u4 16), .inr (2, [.int 0, .int 0, .int 0, .int 0, .int 0, .int 0, .int 0, .int 0, .int 0, .int 0, .int 0, .int 0])), ((u4 17), .inr (2, [.int 0, .int 0, .int 0, .int 0, .int 0, .int 0, .int 0, .int 0, .int 0, .int 0, .int 0, .int 0])), ((u4 18), .inr (2, [.int 0, .int 0, .int 0, .int 0, .int 0, .int 0, .int 0, .int 0, .int 0, .int 0, .int 0, .int 0])), ((u4 19), .inr (2, [.int 0, .int 0, .int 0, .int 0, .int 0, .int 0, .int 0, .int 0, .int 0, .int 0, .int 0, .int 0])), ((u4 20), .inr (2, [.int 0, .int 0, .int 0, .int 0, .int 0, .int 0, .int 0, .int 0, .int 0, .int 0, .int 0, .int 0])), ((u4 21), .inr (2, [.int 0, .int 0, .int 0, .int 0, .int 0, .int 0, .int 0, .int 0, .int 0, .int 0, .int 0, .int 0])), ((u4 22), .inr (2, [.int 0, .int 0, .int 0, .int 0, .int 0, .int 0, .int 0, .int 0, .int 0, .int 0, .int 0, .int 0])), ((u4 23), .inr (2, [.int 0, .int 0, .int 0, .int 0, .int 0, .int 0, .int 0, .int 0, .int 0, .int 0, .int 0, .int 0])), ((u4 24), .inr (2, [.int 0, .int 0, .int 0, .int 0, .int 0, .int 0, .int 0, .int 0, .int 0, .int 0, .int 0, .int 0])), ((u4 25), .inr (2, [.int 0, .int 0, .int 0, .int 0, .int 0, .int 0, .int 0, .int 0, .int 0, .int 0, .int 0, .int 0])), ((u4 26), .inr (1, [.ref (u4 27), .int 0, .int 0])), ((u4 27), .inl (cy 1, 16, .inr (.inl (fun _ => 0)))), ((u4 28), .inr (1, [.ref (u4 29), .int 0, .int 0])), ((u4 29), .inl (cy 1, 16, .inr (.inl (fun _ => 0)))), ((u4 30), .inr (1, [.ref (u4 31), .int 0, .int 0])), ((u4 31), .inl (cy 1, 16, .inr (.inl (fun _ => 0)))), ((u4 32), .inr (1, [.ref (u4 33), .int 0, .int 0])), ((u4 33), .inl (cy 1, 16, .inr (.inl (fun _ => 0)))), ((u4 34), .inr (6, [.ref (u4 35), .int 0])), ((u4 35), .inl (cy 2, 40, .inl (fun _ => 0))), ((u4 36), .inr (0, [.ref (u4 37), .int 0])), ((u4 37), .inl (cy 0, 32, .inl (fun _ => 0)))]) := hD
  refine lv_aload_n hx hb dX9_init_15 rfl (lv_at hl 0 rfl) ?_
  refine lv_null hx hb dX9_init_16 ?_
  refine va_put (D := D) (ci := 8) (v := .null) (ty := .object "AdaptiveQueryExecutor$State") (C := RX9) (T := TX9) (N := 3) hx hb hts i_X9 tyX9 tyX9_ok nmX9 hown hK.1 hP hD hS 0 rfl rfl 1 (by decide) (ht _ kt_261) (fun _ h9 => h9) rfl (by decide +kernel) rfl rfl (Nat.le_of_ble_eq_true rfl) dX9_init_17 (fun H locs hP hD hS => ?_)
  have hP : va_P D classes ([(h0, .inr (8, [.ref q1, .null, .null])), (q1, .inr (4, [.ref (u4 0), .int 0, .ref (u4 13), .int 0, .ref (u4 26), .ref (u4 28), .ref (u4 30), .ref (u4 32), .ref (u4 34), .ref (u4 36), .int 0, .int 0, .int 0, .int 0, .int 0])), ((u4 0), .inl (cy 3, 3, .inr (.inr (.inr (.inr (va_up (va_up (va_up (fun _ => none) 0 (some (u4 1))) 1 (some (u4 5))) 2 (some (u4 9)))))))), ((u4 1), .inr (3, [.int 0, .int 8, .int 0, .int 0, .int 0, .int 0, .int 0, .ref (u4 2), .ref (u4 3), .ref (u4 4)])), ((u4 2), .inl (cy 0, 16, .inl (fun _ => 0))), ((u4 3), .inl (cy 0, 16, .inl (fun _ => 0))), ((u4 4), .inl (cy 0, 48, .inl (fun _ => 0))), ((u4 5), .inr (3, [.int 0, .int 8, .int 0, .int 0, .int 0, .int 0, .int 0, .ref (u4 6), .ref (u4 7), .ref (u4 8)])), ((u4 6), .inl (cy 0, 16, .inl (fun _ => 0))), ((u4 7), .inl (cy 0, 16, .inl (fun _ => 0))), ((u4 8), .inl (cy 0, 48, .inl (fun _ => 0))), ((u4 9), .inr (3, [.int 0, .int 8, .int 0, .int 0, .int 0, .int 0, .int 0, .ref (u4 10), .ref (u4 11), .ref (u4 12)])), ((u4 10), .inl (cy 0, 16, .inl (fun _ => 0))), ((u4 11), .inl (cy 0, 16, .inl (fun _ => 0))), ((u4 12), .inl (cy 0, 48, .inl (fun _ => 0))), ((u4 13), .inl (cy 4, 12, .inr (.inr (.inr (.inr (va_up (va_up (va_up (va_up (va_up (va_up (va_up (va_up (va_up (va_up (va_up (va_up (fun _ => none) 0 (some (u4 14))) 1 (some (u4 15))) 2 (some (u4 16))) 3 (some (u4 17))) 4 (some (u4 18))) 5 (some (u4 19))) 6 (some (u4 20))) 7 (some (u4 21))) 8 (some (u4 22))) 9 (some (u4 23))) 10 (some (u4 24))) 11 (some (u4 25)))))))), ((u4 14), .inr (2, [.int 0, .int 0, .int 0, .int 0, .int 0, .int 0, .int 0, .int 0, .int 0, .int 0, .int 0, .int 0])), ((u4 15), .inr (2, [.int 0, .int 0, .int 0, .int 0, .int 0, .int 0, .int 0, .int 0, .int 0, .int 0, .int 0, .int 0])), ((u4 16), .inr (2, [.int 0, .int 0, .int 0, .int 0, .int 0, .int 0, .int 0, .int 0, .int 0, .int 0, .int 0, .int 0])), ((u4 17), .inr (2, [.int 0, .int 0, .int 0, .int 0, .int 0, .int 0, .int 0, .int 0, .int 0, .int 0, .int 0, .int 0])), ((u4 18), .inr (2, [.int 0, .int 0, .int 0, .int 0, .int 0, .int 0, .int 0, .int 0, .int 0, .int 0, .int 0, .int 0])), ((u4 19), .inr (2, [.int 0, .int 0, .int 0, .int 0, .int 0, .int 0, .int 0, .int 0, .int 0, .int 0, .int 0, .int 0])), ((u4 20), .inr (2, [.int 0, .int 0, .int 0, .int 0, .int 0, .int 0, .int 0, .int 0, .int 0, .int 0, .int 0, .int 0])), ((u4 21), .inr (2, [.int 0, .int 0, .int 0, .int 0, .int 0, .int 0, .int 0, .int 0, .int 0, .int 0, .int 0, .int 0])), ((u4 22), .inr (2, [.int 0, .int 0, .int 0, .int 0, .int 0, .int 0, .int 0, .int 0, .int 0, .int 0, .int 0, .int 0])), ((u4 23), .inr (2, [.int 0, .int 0, .int 0, .int 0, .int 0, .int 0, .int 0, .int 0, .int 0, .int 0, .int 0, .int 0])), ((u4 24), .inr (2, [.int 0, .int 0, .int 0, .int 0, .int 0, .int 0, .int 0, .int 0, .int 0, .int 0, .int 0, .int 0])), ((u4 25), .inr (2, [.int 0, .int 0, .int 0, .int 0, .int 0, .int 0, .int 0, .int 0, .int 0, .int 0, .int 0, .int 0])), ((u4 26), .inr (1, [.ref (u4 27), .int 0, .int 0])), ((u4 27), .inl (cy 1, 16, .inr (.inl (fun _ => 0)))), ((u4 28), .inr (1, [.ref (u4 29), .int 0, .int 0])), ((u4 29), .inl (cy 1, 16, .inr (.inl (fun _ => 0)))), ((u4 30), .inr (1, [.ref (u4 31), .int 0, .int 0])), ((u4 31), .inl (cy 1, 16, .inr (.inl (fun _ => 0)))), ((u4 32), .inr (1, [.ref (u4 33), .int 0, .int 0])), ((u4 33), .inl (cy 1, 16, .inr (.inl (fun _ => 0)))), ((u4 34), .inr (6, [.ref (u4 35), .int 0])), ((u4 35), .inl (cy 2, 40, .inl (fun _ => 0))), ((u4 36), .inr (0, [.ref (u4 37), .int 0])), ((u4 37), .inl (cy 0, 32, .inl (fun _ => 0)))]) H := hP
  have hD : va_D A ([(h0, .inr (8, [.ref q1, .null, .null])), (q1, .inr (4, [.ref (u4 0), .int 0, .ref (u4 13), .int 0, .ref (u4 26), .ref (u4 28), .ref (u4 30), .ref (u4 32), .ref (u4 34), .ref (u4 36), .int 0, .int 0, .int 0, .int 0, .int 0])), ((u4 0), .inl (cy 3, 3, .inr (.inr (.inr (.inr (va_up (va_up (va_up (fun _ => none) 0 (some (u4 1))) 1 (some (u4 5))) 2 (some (u4 9)))))))), ((u4 1), .inr (3, [.int 0, .int 8, .int 0, .int 0, .int 0, .int 0, .int 0, .ref (u4 2), .ref (u4 3), .ref (u4 4)])), ((u4 2), .inl (cy 0, 16, .inl (fun _ => 0))), ((u4 3), .inl (cy 0, 16, .inl (fun _ => 0))), ((u4 4), .inl (cy 0, 48, .inl (fun _ => 0))), ((u4 5), .inr (3, [.int 0, .int 8, .int 0, .int 0, .int 0, .int 0, .int 0, .ref (u4 6), .ref (u4 7), .ref (u4 8)])), ((u4 6), .inl (cy 0, 16, .inl (fun _ => 0))), ((u4 7), .inl (cy 0, 16, .inl (fun _ => 0))), ((u4 8), .inl (cy 0, 48, .inl (fun _ => 0))), ((u4 9), .inr (3, [.int 0, .int 8, .int 0, .int 0, .int 0, .int 0, .int 0, .ref (u4 10), .ref (u4 11), .ref (u4 12)])), ((u4 10), .inl (cy 0, 16, .inl (fun _ => 0))), ((u4 11), .inl (cy 0, 16, .inl (fun _ => 0))), ((u4 12), .inl (cy 0, 48, .inl (fun _ => 0))), ((u4 13), .inl (cy 4, 12, .inr (.inr (.inr (.inr (va_up (va_up (va_up (va_up (va_up (va_up (va_up (va_up (va_up (va_up (va_up (va_up (fun _ => none) 0 (some (u4 14))) 1 (some (u4 15))) 2 (some (u4 16))) 3 (some (u4 17))) 4 (some (u4 18))) 5 (some (u4 19))) 6 (some (u4 20))) 7 (some (u4 21))) 8 (some (u4 22))) 9 (some (u4 23))) 10 (some (u4 24))) 11 (some (u4 25)))))))), ((u4 14), .inr (2, [.int 0, .int 0, .int 0, .int 0, .int 0, .int 0, .int 0, .int 0, .int 0, .int 0, .int 0, .int 0])), ((u4 15), .inr (2, [.int 0, .int 0, .int 0, .int 0, .int 0, .int 0, .int 0, .int 0, .int 0, .int 0, .int 0, .int 0])), ((u4 16), .inr (2, [.int 0, .int 0, .int 0, .int 0, .int 0, .int 0, .int 0, .int 0, .int 0, .int 0, .int 0, .int 0])), ((u4 17), .inr (2, [.int 0, .int 0, .int 0, .int 0, .int 0, .int 0, .int 0, .int 0, .int 0, .int 0, .int 0, .int 0])), ((u4 18), .inr (2, [.int 0, .int 0, .int 0, .int 0, .int 0, .int 0, .int 0, .int 0, .int 0, .int 0, .int 0, .int 0])), ((u4 19), .inr (2, [.int 0, .int 0, .int 0, .int 0, .int 0, .int 0, .int 0, .int 0, .int 0, .int 0, .int 0, .int 0])), ((u4 20), .inr (2, [.int 0, .int 0, .int 0, .int 0, .int 0, .int 0, .int 0, .int 0, .int 0, .int 0, .int 0, .int 0])), ((u4 21), .inr (2, [.int 0, .int 0, .int 0, .int 0, .int 0, .int 0, .int 0, .int 0, .int 0, .int 0, .int 0, .int 0])), ((u4 22), .inr (2, [.int 0, .int 0, .int 0, .int 0, .int 0, .int 0, .int 0, .int 0, .int 0, .int 0, .int 0, .int 0])), ((u4 23), .inr (2, [.int 0, .int 0, .int 0, .int 0, .int 0, .int 0, .int 0, .int 0, .int 0, .int 0, .int 0, .int 0])), ((u4 24), .inr (2, [.int 0, .int 0, .int 0, .int 0, .int 0, .int 0, .int 0, .int 0, .int 0, .int 0, .int 0, .int 0])), ((u4 25), .inr (2, [.int 0, .int 0, .int 0, .int 0, .int 0, .int 0, .int 0, .int 0, .int 0, .int 0, .int 0, .int 0])), ((u4 26), .inr (1, [.ref (u4 27), .int 0, .int 0])), ((u4 27), .inl (cy 1, 16, .inr (.inl (fun _ => 0)))), ((u4 28), .inr (1, [.ref (u4 29), .int 0, .int 0])), ((u4 29), .inl (cy 1, 16, .inr (.inl (fun _ => 0)))), ((u4 30), .inr (1, [.ref (u4 31), .int 0, .int 0])), ((u4 31), .inl (cy 1, 16, .inr (.inl (fun _ => 0)))), ((u4 32), .inr (1, [.ref (u4 33), .int 0, .int 0])), ((u4 33), .inl (cy 1, 16, .inr (.inl (fun _ => 0)))), ((u4 34), .inr (6, [.ref (u4 35), .int 0])), ((u4 35), .inl (cy 2, 40, .inl (fun _ => 0))), ((u4 36), .inr (0, [.ref (u4 37), .int 0])), ((u4 37), .inl (cy 0, 32, .inl (fun _ => 0)))]) := hD
  refine lv_aload_n hx hb dX9_init_20 rfl (lv_at hl 0 rfl) ?_
  refine lv_null hx hb dX9_init_21 ?_
  refine va_put (D := D) (ci := 8) (v := .null) (ty := .object "AdaptiveQueryExecutor$State") (C := RX9) (T := TX9) (N := 3) hx hb hts i_X9 tyX9 tyX9_ok nmX9 hown hK.1 hP hD hS 0 rfl rfl 2 (by decide) (ht _ kt_262) (fun _ h9 => h9) rfl (by decide +kernel) rfl rfl (Nat.le_of_ble_eq_true rfl) dX9_init_22 (fun H locs hP hD hS => ?_)
  have hP : va_P D classes ([(h0, .inr (8, [.ref q1, .null, .null])), (q1, .inr (4, [.ref (u4 0), .int 0, .ref (u4 13), .int 0, .ref (u4 26), .ref (u4 28), .ref (u4 30), .ref (u4 32), .ref (u4 34), .ref (u4 36), .int 0, .int 0, .int 0, .int 0, .int 0])), ((u4 0), .inl (cy 3, 3, .inr (.inr (.inr (.inr (va_up (va_up (va_up (fun _ => none) 0 (some (u4 1))) 1 (some (u4 5))) 2 (some (u4 9)))))))), ((u4 1), .inr (3, [.int 0, .int 8, .int 0, .int 0, .int 0, .int 0, .int 0, .ref (u4 2), .ref (u4 3), .ref (u4 4)])), ((u4 2), .inl (cy 0, 16, .inl (fun _ => 0))), ((u4 3), .inl (cy 0, 16, .inl (fun _ => 0))), ((u4 4), .inl (cy 0, 48, .inl (fun _ => 0))), ((u4 5), .inr (3, [.int 0, .int 8, .int 0, .int 0, .int 0, .int 0, .int 0, .ref (u4 6), .ref (u4 7), .ref (u4 8)])), ((u4 6), .inl (cy 0, 16, .inl (fun _ => 0))), ((u4 7), .inl (cy 0, 16, .inl (fun _ => 0))), ((u4 8), .inl (cy 0, 48, .inl (fun _ => 0))), ((u4 9), .inr (3, [.int 0, .int 8, .int 0, .int 0, .int 0, .int 0, .int 0, .ref (u4 10), .ref (u4 11), .ref (u4 12)])), ((u4 10), .inl (cy 0, 16, .inl (fun _ => 0))), ((u4 11), .inl (cy 0, 16, .inl (fun _ => 0))), ((u4 12), .inl (cy 0, 48, .inl (fun _ => 0))), ((u4 13), .inl (cy 4, 12, .inr (.inr (.inr (.inr (va_up (va_up (va_up (va_up (va_up (va_up (va_up (va_up (va_up (va_up (va_up (va_up (fun _ => none) 0 (some (u4 14))) 1 (some (u4 15))) 2 (some (u4 16))) 3 (some (u4 17))) 4 (some (u4 18))) 5 (some (u4 19))) 6 (some (u4 20))) 7 (some (u4 21))) 8 (some (u4 22))) 9 (some (u4 23))) 10 (some (u4 24))) 11 (some (u4 25)))))))), ((u4 14), .inr (2, [.int 0, .int 0, .int 0, .int 0, .int 0, .int 0, .int 0, .int 0, .int 0, .int 0, .int 0, .int 0])), ((u4 15), .inr (2, [.int 0, .int 0, .int 0, .int 0, .int 0, .int 0, .int 0, .int 0, .int 0, .int 0, .int 0, .int 0])), ((u4 16), .inr (2, [.int 0, .int 0, .int 0, .int 0, .int 0, .int 0, .int 0, .int 0, .int 0, .int 0, .int 0, .int 0])), ((u4 17), .inr (2, [.int 0, .int 0, .int 0, .int 0, .int 0, .int 0, .int 0, .int 0, .int 0, .int 0, .int 0, .int 0])), ((u4 18), .inr (2, [.int 0, .int 0, .int 0, .int 0, .int 0, .int 0, .int 0, .int 0, .int 0, .int 0, .int 0, .int 0])), ((u4 19), .inr (2, [.int 0, .int 0, .int 0, .int 0, .int 0, .int 0, .int 0, .int 0, .int 0, .int 0, .int 0, .int 0])), ((u4 20), .inr (2, [.int 0, .int 0, .int 0, .int 0, .int 0, .int 0, .int 0, .int 0, .int 0, .int 0, .int 0, .int 0])), ((u4 21), .inr (2, [.int 0, .int 0, .int 0, .int 0, .int 0, .int 0, .int 0, .int 0, .int 0, .int 0, .int 0, .int 0])), ((u4 22), .inr (2, [.int 0, .int 0, .int 0, .int 0, .int 0, .int 0, .int 0, .int 0, .int 0, .int 0, .int 0, .int 0])), ((u4 23), .inr (2, [.int 0, .int 0, .int 0, .int 0, .int 0, .int 0, .int 0, .int 0, .int 0, .int 0, .int 0, .int 0])), ((u4 24), .inr (2, [.int 0, .int 0, .int 0, .int 0, .int 0, .int 0, .int 0, .int 0, .int 0, .int 0, .int 0, .int 0])), ((u4 25), .inr (2, [.int 0, .int 0, .int 0, .int 0, .int 0, .int 0, .int 0, .int 0, .int 0, .int 0, .int 0, .int 0])), ((u4 26), .inr (1, [.ref (u4 27), .int 0, .int 0])), ((u4 27), .inl (cy 1, 16, .inr (.inl (fun _ => 0)))), ((u4 28), .inr (1, [.ref (u4 29), .int 0, .int 0])), ((u4 29), .inl (cy 1, 16, .inr (.inl (fun _ => 0)))), ((u4 30), .inr (1, [.ref (u4 31), .int 0, .int 0])), ((u4 31), .inl (cy 1, 16, .inr (.inl (fun _ => 0)))), ((u4 32), .inr (1, [.ref (u4 33), .int 0, .int 0])), ((u4 33), .inl (cy 1, 16, .inr (.inl (fun _ => 0)))), ((u4 34), .inr (6, [.ref (u4 35), .int 0])), ((u4 35), .inl (cy 2, 40, .inl (fun _ => 0))), ((u4 36), .inr (0, [.ref (u4 37), .int 0])), ((u4 37), .inl (cy 0, 32, .inl (fun _ => 0)))]) H := hP
  have hD : va_D A ([(h0, .inr (8, [.ref q1, .null, .null])), (q1, .inr (4, [.ref (u4 0), .int 0, .ref (u4 13), .int 0, .ref (u4 26), .ref (u4 28), .ref (u4 30), .ref (u4 32), .ref (u4 34), .ref (u4 36), .int 0, .int 0, .int 0, .int 0, .int 0])), ((u4 0), .inl (cy 3, 3, .inr (.inr (.inr (.inr (va_up (va_up (va_up (fun _ => none) 0 (some (u4 1))) 1 (some (u4 5))) 2 (some (u4 9)))))))), ((u4 1), .inr (3, [.int 0, .int 8, .int 0, .int 0, .int 0, .int 0, .int 0, .ref (u4 2), .ref (u4 3), .ref (u4 4)])), ((u4 2), .inl (cy 0, 16, .inl (fun _ => 0))), ((u4 3), .inl (cy 0, 16, .inl (fun _ => 0))), ((u4 4), .inl (cy 0, 48, .inl (fun _ => 0))), ((u4 5), .inr (3, [.int 0, .int 8, .int 0, .int 0, .int 0, .int 0, .int 0, .ref (u4 6), .ref (u4 7), .ref (u4 8)])), ((u4 6), .inl (cy 0, 16, .inl (fun _ => 0))), ((u4 7), .inl (cy 0, 16, .inl (fun _ => 0))), ((u4 8), .inl (cy 0, 48, .inl (fun _ => 0))), ((u4 9), .inr (3, [.int 0, .int 8, .int 0, .int 0, .int 0, .int 0, .int 0, .ref (u4 10), .ref (u4 11), .ref (u4 12)])), ((u4 10), .inl (cy 0, 16, .inl (fun _ => 0))), ((u4 11), .inl (cy 0, 16, .inl (fun _ => 0))), ((u4 12), .inl (cy 0, 48, .inl (fun _ => 0))), ((u4 13), .inl (cy 4, 12, .inr (.inr (.inr (.inr (va_up (va_up (va_up (va_up (va_up (va_up (va_up (va_up (va_up (va_up (va_up (va_up (fun _ => none) 0 (some (u4 14))) 1 (some (u4 15))) 2 (some (u4 16))) 3 (some (u4 17))) 4 (some (u4 18))) 5 (some (u4 19))) 6 (some (u4 20))) 7 (some (u4 21))) 8 (some (u4 22))) 9 (some (u4 23))) 10 (some (u4 24))) 11 (some (u4 25)))))))), ((u4 14), .inr (2, [.int 0, .int 0, .int 0, .int 0, .int 0, .int 0, .int 0, .int 0, .int 0, .int 0, .int 0, .int 0])), ((u4 15), .inr (2, [.int 0, .int 0, .int 0, .int 0, .int 0, .int 0, .int 0, .int 0, .int 0, .int 0, .int 0, .int 0])), ((u4 16), .inr (2, [.int 0, .int 0, .int 0, .int 0, .int 0, .int 0, .int 0, .int 0, .int 0, .int 0, .int 0, .int 0])), ((u4 17), .inr (2, [.int 0, .int 0, .int 0, .int 0, .int 0, .int 0, .int 0, .int 0, .int 0, .int 0, .int 0, .int 0])), ((u4 18), .inr (2, [.int 0, .int 0, .int 0, .int 0, .int 0, .int 0, .int 0, .int 0, .int 0, .int 0, .int 0, .int 0])), ((u4 19), .inr (2, [.int 0, .int 0, .int 0, .int 0, .int 0, .int 0, .int 0, .int 0, .int 0, .int 0, .int 0, .int 0])), ((u4 20), .inr (2, [.int 0, .int 0, .int 0, .int 0, .int 0, .int 0, .int 0, .int 0, .int 0, .int 0, .int 0, .int 0])), ((u4 21), .inr (2, [.int 0, .int 0, .int 0, .int 0, .int 0, .int 0, .int 0, .int 0, .int 0, .int 0, .int 0, .int 0])), ((u4 22), .inr (2, [.int 0, .int 0, .int 0, .int 0, .int 0, .int 0, .int 0, .int 0, .int 0, .int 0, .int 0, .int 0])), ((u4 23), .inr (2, [.int 0, .int 0, .int 0, .int 0, .int 0, .int 0, .int 0, .int 0, .int 0, .int 0, .int 0, .int 0])), ((u4 24), .inr (2, [.int 0, .int 0, .int 0, .int 0, .int 0, .int 0, .int 0, .int 0, .int 0, .int 0, .int 0, .int 0])), ((u4 25), .inr (2, [.int 0, .int 0, .int 0, .int 0, .int 0, .int 0, .int 0, .int 0, .int 0, .int 0, .int 0, .int 0])), ((u4 26), .inr (1, [.ref (u4 27), .int 0, .int 0])), ((u4 27), .inl (cy 1, 16, .inr (.inl (fun _ => 0)))), ((u4 28), .inr (1, [.ref (u4 29), .int 0, .int 0])), ((u4 29), .inl (cy 1, 16, .inr (.inl (fun _ => 0)))), ((u4 30), .inr (1, [.ref (u4 31), .int 0, .int 0])), ((u4 31), .inl (cy 1, 16, .inr (.inl (fun _ => 0)))), ((u4 32), .inr (1, [.ref (u4 33), .int 0, .int 0])), ((u4 33), .inl (cy 1, 16, .inr (.inl (fun _ => 0)))), ((u4 34), .inr (6, [.ref (u4 35), .int 0])), ((u4 35), .inl (cy 2, 40, .inl (fun _ => 0))), ((u4 36), .inr (0, [.ref (u4 37), .int 0])), ((u4 37), .inl (cy 0, 32, .inl (fun _ => 0)))]) := hD
  refine W.widen (k := 39) (n := 596) (Nat.le_of_ble_eq_true rfl) (Nat.le_of_ble_eq_true rfl) ?_
  have hP9 := hP.sub (ws' := [(h0, .inr (8, [.ref q1, .null, .null])), (q1, .inr (4, [.ref (u4 0), .int 0, .ref (u4 13), .int 0, .ref (u4 26), .ref (u4 28), .ref (u4 30), .ref (u4 32), .ref (u4 34), .ref (u4 36), .int 0, .int 0, .int 0, .int 0, .int 0])), ((u4 0), .inl (cy 3, 3, .inr (.inr (.inr (.inr (va_up (va_up (va_up (fun _ => none) 0 (some (u4 1))) 1 (some (u4 5))) 2 (some (u4 9)))))))), ((u4 1), .inr (3, [.int 0, .int 8, .int 0, .int 0, .int 0, .int 0, .int 0, .ref (u4 2), .ref (u4 3), .ref (u4 4)])), ((u4 2), .inl (cy 0, 16, .inl (fun _ => 0))), ((u4 3), .inl (cy 0, 16, .inl (fun _ => 0))), ((u4 4), .inl (cy 0, 48, .inl (fun _ => 0))), ((u4 5), .inr (3, [.int 0, .int 8, .int 0, .int 0, .int 0, .int 0, .int 0, .ref (u4 6), .ref (u4 7), .ref (u4 8)])), ((u4 6), .inl (cy 0, 16, .inl (fun _ => 0))), ((u4 7), .inl (cy 0, 16, .inl (fun _ => 0))), ((u4 8), .inl (cy 0, 48, .inl (fun _ => 0))), ((u4 9), .inr (3, [.int 0, .int 8, .int 0, .int 0, .int 0, .int 0, .int 0, .ref (u4 10), .ref (u4 11), .ref (u4 12)])), ((u4 10), .inl (cy 0, 16, .inl (fun _ => 0))), ((u4 11), .inl (cy 0, 16, .inl (fun _ => 0))), ((u4 12), .inl (cy 0, 48, .inl (fun _ => 0))), ((u4 13), .inl (cy 4, 12, .inr (.inr (.inr (.inr (va_up (va_up (va_up (va_up (va_up (va_up (va_up (va_up (va_up (va_up (va_up (va_up (fun _ => none) 0 (some (u4 14))) 1 (some (u4 15))) 2 (some (u4 16))) 3 (some (u4 17))) 4 (some (u4 18))) 5 (some (u4 19))) 6 (some (u4 20))) 7 (some (u4 21))) 8 (some (u4 22))) 9 (some (u4 23))) 10 (some (u4 24))) 11 (some (u4 25)))))))), ((u4 14), .inr (2, [.int 0, .int 0, .int 0, .int 0, .int 0, .int 0, .int 0, .int 0, .int 0, .int 0, .int 0, .int 0])), ((u4 15), .inr (2, [.int 0, .int 0, .int 0, .int 0, .int 0, .int 0, .int 0, .int 0, .int 0, .int 0, .int 0, .int 0])), ((u4 16), .inr (2, [.int 0, .int 0, .int 0, .int 0, .int 0, .int 0, .int 0, .int 0, .int 0, .int 0, .int 0, .int 0])), ((u4 17), .inr (2, [.int 0, .int 0, .int 0, .int 0, .int 0, .int 0, .int 0, .int 0, .int 0, .int 0, .int 0, .int 0])), ((u4 18), .inr (2, [.int 0, .int 0, .int 0, .int 0, .int 0, .int 0, .int 0, .int 0, .int 0, .int 0, .int 0, .int 0])), ((u4 19), .inr (2, [.int 0, .int 0, .int 0, .int 0, .int 0, .int 0, .int 0, .int 0, .int 0, .int 0, .int 0, .int 0])), ((u4 20), .inr (2, [.int 0, .int 0, .int 0, .int 0, .int 0, .int 0, .int 0, .int 0, .int 0, .int 0, .int 0, .int 0])), ((u4 21), .inr (2, [.int 0, .int 0, .int 0, .int 0, .int 0, .int 0, .int 0, .int 0, .int 0, .int 0, .int 0, .int 0])), ((u4 22), .inr (2, [.int 0, .int 0, .int 0, .int 0, .int 0, .int 0, .int 0, .int 0, .int 0, .int 0, .int 0, .int 0])), ((u4 23), .inr (2, [.int 0, .int 0, .int 0, .int 0, .int 0, .int 0, .int 0, .int 0, .int 0, .int 0, .int 0, .int 0])), ((u4 24), .inr (2, [.int 0, .int 0, .int 0, .int 0, .int 0, .int 0, .int 0, .int 0, .int 0, .int 0, .int 0, .int 0])), ((u4 25), .inr (2, [.int 0, .int 0, .int 0, .int 0, .int 0, .int 0, .int 0, .int 0, .int 0, .int 0, .int 0, .int 0])), ((u4 26), .inr (1, [.ref (u4 27), .int 0, .int 0])), ((u4 27), .inl (cy 1, 16, .inr (.inl (fun _ => 0)))), ((u4 28), .inr (1, [.ref (u4 29), .int 0, .int 0])), ((u4 29), .inl (cy 1, 16, .inr (.inl (fun _ => 0)))), ((u4 30), .inr (1, [.ref (u4 31), .int 0, .int 0])), ((u4 31), .inl (cy 1, 16, .inr (.inl (fun _ => 0)))), ((u4 32), .inr (1, [.ref (u4 33), .int 0, .int 0])), ((u4 33), .inl (cy 1, 16, .inr (.inl (fun _ => 0)))), ((u4 34), .inr (6, [.ref (u4 35), .int 0])), ((u4 35), .inl (cy 2, 40, .inl (fun _ => 0))), ((u4 36), .inr (0, [.ref (u4 37), .int 0])), ((u4 37), .inl (cy 0, 32, .inl (fun _ => 0)))]) [0, 1, 2, 3, 4, 5, 6, 7, 8, 9, 10, 11, 12, 13, 14, 15, 16, 17, 18, 19, 20, 21, 22, 23, 24, 25, 26, 27, 28, 29, 30, 31, 32, 33, 34, 35, 36, 37, 38, 39] rfl
  have hD9 := hD.sub (ws' := [(h0, .inr (8, [.ref q1, .null, .null])), (q1, .inr (4, [.ref (u4 0), .int 0, .ref (u4 13), .int 0, .ref (u4 26), .ref (u4 28), .ref (u4 30), .ref (u4 32), .ref (u4 34), .ref (u4 36), .int 0, .int 0, .int 0, .int 0, .int 0])), ((u4 0), .inl (cy 3, 3, .inr (.inr (.inr (.inr (va_up (va_up (va_up (fun _ => none) 0 (some (u4 1))) 1 (some (u4 5))) 2 (some (u4 9)))))))), ((u4 1), .inr (3, [.int 0, .int 8, .int 0, .int 0, .int 0, .int 0, .int 0, .ref (u4 2), .ref (u4 3), .ref (u4 4)])), ((u4 2), .inl (cy 0, 16, .inl (fun _ => 0))), ((u4 3), .inl (cy 0, 16, .inl (fun _ => 0))), ((u4 4), .inl (cy 0, 48, .inl (fun _ => 0))), ((u4 5), .inr (3, [.int 0, .int 8, .int 0, .int 0, .int 0, .int 0, .int 0, .ref (u4 6), .ref (u4 7), .ref (u4 8)])), ((u4 6), .inl (cy 0, 16, .inl (fun _ => 0))), ((u4 7), .inl (cy 0, 16, .inl (fun _ => 0))), ((u4 8), .inl (cy 0, 48, .inl (fun _ => 0))), ((u4 9), .inr (3, [.int 0, .int 8, .int 0, .int 0, .int 0, .int 0, .int 0, .ref (u4 10), .ref (u4 11), .ref (u4 12)])), ((u4 10), .inl (cy 0, 16, .inl (fun _ => 0))), ((u4 11), .inl (cy 0, 16, .inl (fun _ => 0))), ((u4 12), .inl (cy 0, 48, .inl (fun _ => 0))), ((u4 13), .inl (cy 4, 12, .inr (.inr (.inr (.inr (va_up (va_up (va_up (va_up (va_up (va_up (va_up (va_up (va_up (va_up (va_up (va_up (fun _ => none) 0 (some (u4 14))) 1 (some (u4 15))) 2 (some (u4 16))) 3 (some (u4 17))) 4 (some (u4 18))) 5 (some (u4 19))) 6 (some (u4 20))) 7 (some (u4 21))) 8 (some (u4 22))) 9 (some (u4 23))) 10 (some (u4 24))) 11 (some (u4 25)))))))), ((u4 14), .inr (2, [.int 0, .int 0, .int 0, .int 0, .int 0, .int 0, .int 0, .int 0, .int 0, .int 0, .int 0, .int 0])), ((u4 15), .inr (2, [.int 0, .int 0, .int 0, .int 0, .int 0, .int 0, .int 0, .int 0, .int 0, .int 0, .int 0, .int 0])), ((u4 16), .inr (2, [.int 0, .int 0, .int 0, .int 0, .int 0, .int 0, .int 0, .int 0, .int 0, .int 0, .int 0, .int 0])), ((u4 17), .inr (2, [.int 0, .int 0, .int 0, .int 0, .int 0, .int 0, .int 0, .int 0, .int 0, .int 0, .int 0, .int 0])), ((u4 18), .inr (2, [.int 0, .int 0, .int 0, .int 0, .int 0, .int 0, .int 0, .int 0, .int 0, .int 0, .int 0, .int 0])), ((u4 19), .inr (2, [.int 0, .int 0, .int 0, .int 0, .int 0, .int 0, .int 0, .int 0, .int 0, .int 0, .int 0, .int 0])), ((u4 20), .inr (2, [.int 0, .int 0, .int 0, .int 0, .int 0, .int 0, .int 0, .int 0, .int 0, .int 0, .int 0, .int 0])), ((u4 21), .inr (2, [.int 0, .int 0, .int 0, .int 0, .int 0, .int 0, .int 0, .int 0, .int 0, .int 0, .int 0, .int 0])), ((u4 22), .inr (2, [.int 0, .int 0, .int 0, .int 0, .int 0, .int 0, .int 0, .int 0, .int 0, .int 0, .int 0, .int 0])), ((u4 23), .inr (2, [.int 0, .int 0, .int 0, .int 0, .int 0, .int 0, .int 0, .int 0, .int 0, .int 0, .int 0, .int 0])), ((u4 24), .inr (2, [.int 0, .int 0, .int 0, .int 0, .int 0, .int 0, .int 0, .int 0, .int 0, .int 0, .int 0, .int 0])), ((u4 25), .inr (2, [.int 0, .int 0, .int 0, .int 0, .int 0, .int 0, .int 0, .int 0, .int 0, .int 0, .int 0, .int 0])), ((u4 26), .inr (1, [.ref (u4 27), .int 0, .int 0])), ((u4 27), .inl (cy 1, 16, .inr (.inl (fun _ => 0)))), ((u4 28), .inr (1, [.ref (u4 29), .int 0, .int 0])), ((u4 29), .inl (cy 1, 16, .inr (.inl (fun _ => 0)))), ((u4 30), .inr (1, [.ref (u4 31), .int 0, .int 0])), ((u4 31), .inl (cy 1, 16, .inr (.inl (fun _ => 0)))), ((u4 32), .inr (1, [.ref (u4 33), .int 0, .int 0])), ((u4 33), .inl (cy 1, 16, .inr (.inl (fun _ => 0)))), ((u4 34), .inr (6, [.ref (u4 35), .int 0])), ((u4 35), .inl (cy 2, 40, .inl (fun _ => 0))), ((u4 36), .inr (0, [.ref (u4 37), .int 0])), ((u4 37), .inl (cy 0, 32, .inl (fun _ => 0)))]) [0, 1, 2, 3, 4, 5, 6, 7, 8, 9, 10, 11, 12, 13, 14, 15, 16, 17, 18, 19, 20, 21, 22, 23, 24, 25, 26, 27, 28, 29, 30, 31, 32, 33, 34, 35, 36, 37, 38, 39] (by decide +kernel) rfl
  exact W.vret hx hb hr (fun t ht2 hW => ⟨⟨(fun k => ([q1, (u4 0), (u4 1), (u4 2), (u4 3), (u4 4), (u4 5), (u4 6), (u4 7), (u4 8), (u4 9), (u4 10), (u4 11), (u4 12), (u4 13), (u4 14), (u4 15), (u4 16), (u4 17), (u4 18), (u4 19), (u4 20), (u4 21), (u4 22), (u4 23), (u4 24), (u4 25), (u4 26), (u4 27), (u4 28), (u4 29), (u4 30), (u4 31), (u4 32), (u4 33), (u4 34), (u4 35), (u4 36), (u4 37)] : List Nat).getD k 0), rfl, trivial, by rw [ht2]; exact hP9, hD9⟩, hS.F ht2⟩) hS.2.2 dX9_init_25
def w7 (cy : Nat → ClassId) (h0 h1 h2 h3 h4 h5 h6 h7 h8 h9 h10 h11 h12 h13 h14 : Nat) (i0 : Int32) : va_W := [(h0, .inr (4, [.ref h1, .int 0, .ref h2, .int 0, .ref h3, .ref h4, .ref h5, .ref h6, .ref h7, .ref h8, .int 0, .int 0, .int 0, .int 0, .int 0])), (h1, .inl (cy 3, 3, .inr (.inr (.inr (.inr (va_up (va_up (va_up (fun _ => none) 0 (some h9)) 1 (some h10)) 2 (some h11))))))), (h9, .inr (3, [.int 0, .int 8, .int 0, .int 0, .int 0, .int 0, .int 0, .ref h12, .ref h13, .ref h14]))]
def vw7 (cy : Nat → ClassId) (h0 h1 h2 h3 h4 h5 h6 h7 h8 h9 h10 h11 h12 h13 h14 : Nat) (i0 : Int32) (u : Nat → Nat) : va_W := [(h0, .inr (4, [.ref h1, .int 1, .ref h2, .int 0, .ref h3, .ref h4, .ref h5, .ref h6, .ref h7, .ref h8, .int 0, .int 0, .int 0, .int 0, .int 0])), (h1, .inl (cy 3, 3, .inr (.inr (.inr (.inr (va_up (va_up (va_up (fun _ => none) 0 (some h9)) 1 (some h10)) 2 (some h11))))))), (h9, .inr (3, [.int i0, .int 8, .int 0, .int 0, .int 0, .int 0, .int 0, .ref h12, .ref h13, .ref h14]))]
set_option maxHeartbeats 4000000 in
set_option maxRecDepth 100000 in
theorem c7_X5_addSource (l : Launch) (D : va_G) (cy : Nat → ClassId) (h0 h1 h2 h3 h4 h5 h6 h7 h8 h9 h10 h11 h12 h13 h14 : Nat) (i0 : Int32) (sz : Nat) : Met l yX5_addSource (Cond.code yX5_addSource cX5_addSource 2 (some .int) :: GT) ({ frames := 0, cells := 0, slots := 0, locals := 0 }) (gN D cy (w7 cy h0 h1 h2 h3 h4 h5 h6 h7 h8 h9 h10 h11 h12 h13 h14 i0) [.ref h0, .int i0] sz) (va_Qi (fun (r : Int32) (_ : Nat → Nat) => r = 0) (fun u t => va_P D classes (vw7 cy h0 h1 h2 h3 h4 h5 h6 h7 h8 h9 h10 h11 h12 h13 h14 i0 u) t.heap ∧ va_D (va_A (w7 cy h0 h1 h2 h3 h4 h5 h6 h7 h8 h9 h10 h11 h12 h13 h14 i0) sz) (vw7 cy h0 h1 h2 h3 h4 h5 h6 h7 h8 h9 h10 h11 h12 h13 h14 i0 u)) (va_A (w7 cy h0 h1 h2 h3 h4 h5 h6 h7 h8 h9 h10 h11 h12 h13 h14 i0) sz)) 0 0 (va_A (w7 cy h0 h1 h2 h3 h4 h5 h6 h7 h8 h9 h10 h11 h12 h13 h14 i0) sz) := by
  refine Met.ofW (cc := cX5_addSource) (maxL := 2) (ret := some .int) (by decide) rfl ?_
  intro p e s m args below meth c s₁ B hml hv
  obtain ⟨rfl, hsz, hP, hK, hD0⟩ := hv
  have hx := B.exec
  have hb := B.bytes
  have hr := B.returns
  have hts := atoms_spec (ws := (Cond.code yX5_addSource cX5_addSource 2 (some .int) :: GT)) B.pre
  have ht : ∀ w ∈ GT, w.before _ s = true := fun w h => hts w (List.mem_cons_of_mem _ h)
  have hown : s.vm.findClass RX5 = some m.cls := findClass_of_methodNamed B.named
  have hlocks := B.notSynchronized
  subst hsz
  have hD := hD0.self (sz := s.heap.size)
  generalize hAe : va_A (w7 cy h0 h1 h2 h3 h4 h5 h6 h7 h8 h9 h10 h11 h12 h13 h14 i0) s.heap.size = A at hD ⊢
  have hA : ∀ q : Nat, s.heap.size ≤ q → A q := fun q h => by rw [← hAe]; exact Or.inr h
  have hS : va_S A s.heap s.heap [] := va_S.rf
  have hD : va_D A ([(h0, .inr (4, [.ref h1, .int 0, .ref h2, .int 0, .ref h3, .ref h4, .ref h5, .ref h6, .ref h7, .ref h8, .int 0, .int 0, .int 0, .int 0, .int 0])), (h1, .inl (cy 3, 3, .inr (.inr (.inr (.inr (va_up (va_up (va_up (fun _ => none) 0 (some h9)) 1 (some h10)) 2 (some h11))))))), (h9, .inr (3, [.int 0, .int 8, .int 0, .int 0, .int 0, .int 0, .int 0, .ref h12, .ref h13, .ref h14]))]) := hD
  have hP : va_P D classes ([(h0, .inr (4, [.ref h1, .int 0, .ref h2, .int 0, .ref h3, .ref h4, .ref h5, .ref h6, .ref h7, .ref h8, .int 0, .int 0, .int 0, .int 0, .int 0])), (h1, .inl (cy 3, 3, .inr (.inr (.inr (.inr (va_up (va_up (va_up (fun _ => none) 0 (some h9)) 1 (some h10)) 2 (some h11))))))), (h9, .inr (3, [.int 0, .int 8, .int 0, .int 0, .int 0, .int 0, .int 0, .ref h12, .ref h13, .ref h14]))]) s.heap := hP
  have hl := lv_entry ([.ref h0, .int i0]) (n := 2) (Nat.le_of_ble_eq_true rfl)
  rw [lg_entry_eq]
  generalize (lg_sl ([.ref h0, .int i0]) ++ List.replicate (2 - (lg_sl ([.ref h0, .int i0])).length) Slot.unset).toArray = ls at hl ⊢
  have hl : lv_has ls 2 [(0, .ref h0), (1, .int i0)] := hl
  refine lv_aload_n hx hb dX5_addSource_0 rfl (lv_at hl 0 rfl) ?_
  refine va_get (D := D) (ci := 4) (v := .int 0) (C := RX5) (T := TX5) (N := 15) hx hb hts i_X5 hown hK.1 hP 0 rfl rfl 1 (by decide) (ht _ kt_201) (fun _ h9 => h9) rfl dX5_addSource_1 ?_
  refine lv_if_lt (tgt := 15) hx hb dX5_addSource_4 (by decide) (fun c1 => absurd c1 (by decide)) (fun _ => ?_)
  refine lv_aload_n hx hb dX5_addSource_7 rfl (lv_at hl 0 rfl) ?_
  refine va_get (D := D) (ci := 4) (v := .int 0) (C := RX5) (T := TX5) (N := 15) hx hb hts i_X5 hown hK.1 hP 0 rfl rfl 1 (by decide) (ht _ kt_201) (fun _ h9 => h9) rfl dX5_addSource_8 ?_
  refine lv_iconst (v := 3) hx hb dX5_addSource_11 (by decide) ?_
  refine lv_icmp_lt (tgt := 18) hx hb dX5_addSource_12 (by decide) (fun _ => ?_) (fun c2 => absurd c2 (by decide))
  refine lv_aload_n hx hb dX5_addSource_18 rfl (lv_at hl 0 rfl) ?_
  refine va_get (D := D) (ci := 4) (v := .ref h1) (C := RX5) (T := TX5) (N := 15) hx hb hts i_X5 hown hK.1 hP 0 rfl rfl 0 (by decide) (ht _ kt_196) (fun _ h9 => h9) rfl dX5_addSource_19 ?_
  refine lv_aload_n hx hb dX5_addSource_22 rfl (lv_at hl 0 rfl) ?_
  refine va_get (D := D) (ci := 4) (v := .int 0) (C := RX5) (T := TX5) (N := 15) hx hb hts i_X5 hown hK.1 hP 0 rfl rfl 1 (by decide) (ht _ kt_201) (fun _ h9 => h9) rfl dX5_addSource_23 ?_
  refine va_aldq hx hb hK.1 hP 1 3 rfl rfl (vin (by decide)) dX5_addSource_26 ?_
  refine lz_v (.ref h9) rfl ?_
  refine lv_iload_n hx hb dX5_addSource_27 rfl (lv_at hl 1 rfl) ?_
  refine va_putN (D := D) (ci := 3) (v := .int i0) (ty := .int) (C := RX4) (T := TX4) (N := 10) hx hb hts i_X4 tyX4 tyX4_ok nmX4 hown hK.1 hP hD hS 2 rfl rfl 0 (by decide) (va_Nw.use rfl (hK.2.1 _ kt_37)) (fun _ h9 => h9) rfl (by decide +kernel) rfl rfl (Nat.le_of_ble_eq_true rfl) dX5_addSource_28 (fun H locs hP hD hS => ?_)
  have hP : va_P D classes ([(h0, .inr (4, [.ref h1, .int 0, .ref h2, .int 0, .ref h3, .ref h4, .ref h5, .ref h6, .ref h7, .ref h8, .int 0, .int 0, .int 0, .int 0, .int 0])), (h1, .inl (cy 3, 3, .inr (.inr (.inr (.inr (va_up (va_up (va_up (fun _ => none) 0 (some h9)) 1 (some h10)) 2 (some h11))))))), (h9, .inr (3, [.int i0, .int 8, .int 0, .int 0, .int 0, .int 0, .int 0, .ref h12, .ref h13, .ref h14]))]) H := hP
  have hD : va_D A ([(h0, .inr (4, [.ref h1, .int 0, .ref h2, .int 0, .ref h3, .ref h4, .ref h5, .ref h6, .ref h7, .ref h8, .int 0, .int 0, .int 0, .int 0, .int 0])), (h1, .inl (cy 3, 3, .inr (.inr (.inr (.inr (va_up (va_up (va_up (fun _ => none) 0 (some h9)) 1 (some h10)) 2 (some h11))))))), (h9, .inr (3, [.int i0, .int 8, .int 0, .int 0, .int 0, .int 0, .int 0, .ref h12, .ref h13, .ref h14]))]) := hD
  refine lv_aload_n hx hb dX5_addSource_31 rfl (lv_at hl 0 rfl) ?_
  refine lv_dup hx hb dX5_addSource_32 rfl ?_
  refine va_get (D := D) (ci := 4) (v := .int 0) (C := RX5) (T := TX5) (N := 15) hx hb hts i_X5 hown hK.1 hP 0 rfl rfl 1 (by decide) (ht _ kt_201) (fun _ h9 => h9) rfl dX5_addSource_33 ?_
  refine lv_iconst (v := 1) hx hb dX5_addSource_36 (by decide) ?_
  refine lv_iadd hx hb dX5_addSource_37 ?_
  refine lz_i 1 (by decide) ?_
  refine va_put (D := D) (ci := 4) (v := .int 1) (ty := .int) (C := RX5) (T := TX5) (N := 15) hx hb hts i_X5 tyX5 tyX5_ok nmX5 hown hK.1 hP hD hS 0 rfl rfl 1 (by decide) (ht _ kt_201) (fun _ h9 => h9) rfl (by decide +kernel) rfl rfl (Nat.le_of_ble_eq_true rfl) dX5_addSource_38 (fun H locs hP hD hS => ?_)
  have hP : va_P D classes ([(h0, .inr (4, [.ref h1, .int 1, .ref h2, .int 0, .ref h3, .ref h4, .ref h5, .ref h6, .ref h7, .ref h8, .int 0, .int 0, .int 0, .int 0, .int 0])), (h1, .inl (cy 3, 3, .inr (.inr (.inr (.inr (va_up (va_up (va_up (fun _ => none) 0 (some h9)) 1 (some h10)) 2 (some h11))))))), (h9, .inr (3, [.int i0, .int 8, .int 0, .int 0, .int 0, .int 0, .int 0, .ref h12, .ref h13, .ref h14]))]) H := hP
  have hD : va_D A ([(h0, .inr (4, [.ref h1, .int 1, .ref h2, .int 0, .ref h3, .ref h4, .ref h5, .ref h6, .ref h7, .ref h8, .int 0, .int 0, .int 0, .int 0, .int 0])), (h1, .inl (cy 3, 3, .inr (.inr (.inr (.inr (va_up (va_up (va_up (fun _ => none) 0 (some h9)) 1 (some h10)) 2 (some h11))))))), (h9, .inr (3, [.int i0, .int 8, .int 0, .int 0, .int 0, .int 0, .int 0, .ref h12, .ref h13, .ref h14]))]) := hD
  refine lv_aload_n hx hb dX5_addSource_41 rfl (lv_at hl 0 rfl) ?_
  refine va_get (D := D) (ci := 4) (v := .int 1) (C := RX5) (T := TX5) (N := 15) hx hb hts i_X5 hown hK.1 hP 0 rfl rfl 1 (by decide) (ht _ kt_201) (fun _ h9 => h9) rfl dX5_addSource_42 ?_
  refine lv_iconst (v := 1) hx hb dX5_addSource_45 (by decide) ?_
  refine lv_isub hx hb dX5_addSource_46 ?_
  refine lz_i 0 (by decide) ?_
  refine W.widen (k := 0) (n := 0) (Nat.le_of_ble_eq_true rfl) (Nat.le_of_ble_eq_true rfl) ?_
  have hP9 := hP.sub (ws' := [(h0, .inr (4, [.ref h1, .int 1, .ref h2, .int 0, .ref h3, .ref h4, .ref h5, .ref h6, .ref h7, .ref h8, .int 0, .int 0, .int 0, .int 0, .int 0])), (h1, .inl (cy 3, 3, .inr (.inr (.inr (.inr (va_up (va_up (va_up (fun _ => none) 0 (some h9)) 1 (some h10)) 2 (some h11))))))), (h9, .inr (3, [.int i0, .int 8, .int 0, .int 0, .int 0, .int 0, .int 0, .ref h12, .ref h13, .ref h14]))]) [0, 1, 2] rfl
  have hD9 := hD.sub (ws' := [(h0, .inr (4, [.ref h1, .int 1, .ref h2, .int 0, .ref h3, .ref h4, .ref h5, .ref h6, .ref h7, .ref h8, .int 0, .int 0, .int 0, .int 0, .int 0])), (h1, .inl (cy 3, 3, .inr (.inr (.inr (.inr (va_up (va_up (va_up (fun _ => none) 0 (some h9)) 1 (some h10)) 2 (some h11))))))), (h9, .inr (3, [.int i0, .int 8, .int 0, .int 0, .int 0, .int 0, .int 0, .ref h12, .ref h13, .ref h14]))]) [0, 1, 2] (by decide +kernel) rfl
  exact W.iret (v := 0) hx hb hr (fun t ht2 hW => ⟨⟨0, (fun k => ([] : List Nat).getD k 0), rfl, rfl, by rw [ht2]; exact hP9, hD9⟩, hS.F ht2⟩) hS.2.2 dX5_addSource_47
def w8 (cy : Nat → ClassId) (h0 h1 h2 h3 h4 h5 h6 h7 h8 h9 h10 h11 h12 h13 h14 h15 : Nat) (i0 : Int32) : va_W := [(h0, .inr (8, [.ref h1, .null, .null])), (h1, .inr (4, [.ref h2, .int 0, .ref h3, .int 0, .ref h4, .ref h5, .ref h6, .ref h7, .ref h8, .ref h9, .int 0, .int 0, .int 0, .int 0, .int 0])), (h2, .inl (cy 3, 3, .inr (.inr (.inr (.inr (va_up (va_up (va_up (fun _ => none) 0 (some h10)) 1 (some h11)) 2 (some h12))))))), (h10, .inr (3, [.int 0, .int 8, .int 0, .int 0, .int 0, .int 0, .int 0, .ref h13, .ref h14, .ref h15]))]
set_option maxHeartbeats 4000000 in
set_option maxRecDepth 100000 in
theorem c8_X9_source (l : Launch) (D : va_G) (cy : Nat → ClassId) (h0 h1 h2 h3 h4 h5 h6 h7 h8 h9 h10 h11 h12 h13 h14 h15 : Nat) (i0 : Int32) (sz : Nat) : Met l yX9_source (Cond.code yX9_source cX9_source 2 (some .int) :: GT) ({ frames := 1, cells := 0, slots := 0, locals := 21 }) (gN D cy (w8 cy h0 h1 h2 h3 h4 h5 h6 h7 h8 h9 h10 h11 h12 h13 h14 h15 i0) [.ref h0, .int i0] sz) (va_Qi (fun (r : Int32) (_ : Unit) => (i0.toInt < 1 ∧ r = (-2)) ∨ (¬ i0.toInt < 1 ∧ i0.toInt ≤ 3 ∧ r = 0) ∨ (¬ i0.toInt < 1 ∧ ¬ i0.toInt ≤ 3 ∧ r = (-2))) (fun _ _ => True) (va_A (w8 cy h0 h1 h2 h3 h4 h5 h6 h7 h8 h9 h10 h11 h12 h13 h14 h15 i0) sz)) 0 0 (va_A (w8 cy h0 h1 h2 h3 h4 h5 h6 h7 h8 h9 h10 h11 h12 h13 h14 h15 i0) sz) := by
  refine Met.ofW (cc := cX9_source) (maxL := 2) (ret := some .int) (by decide) rfl ?_
  intro p e s m args below meth c s₁ B hml hv
  obtain ⟨rfl, hsz, hP, hK, hD0⟩ := hv
  have hx := B.exec
  have hb := B.bytes
  have hr := B.returns
  have hts := atoms_spec (ws := (Cond.code yX9_source cX9_source 2 (some .int) :: GT)) B.pre
  have ht : ∀ w ∈ GT, w.before _ s = true := fun w h => hts w (List.mem_cons_of_mem _ h)
  have hown : s.vm.findClass RX9 = some m.cls := findClass_of_methodNamed B.named
  have hlocks := B.notSynchronized
  subst hsz
  have hD := hD0.self (sz := s.heap.size)
  generalize hAe : va_A (w8 cy h0 h1 h2 h3 h4 h5 h6 h7 h8 h9 h10 h11 h12 h13 h14 h15 i0) s.heap.size = A at hD ⊢
  have hA : ∀ q : Nat, s.heap.size ≤ q → A q := fun q h => by rw [← hAe]; exact Or.inr h
  have hS : va_S A s.heap s.heap [] := va_S.rf
  have hD : va_D A ([(h0, .inr (8, [.ref h1, .null, .null])), (h1, .inr (4, [.ref h2, .int 0, .ref h3, .int 0, .ref h4, .ref h5, .ref h6, .ref h7, .ref h8, .ref h9, .int 0, .int 0, .int 0, .int 0, .int 0])), (h2, .inl (cy 3, 3, .inr (.inr (.inr (.inr (va_up (va_up (va_up (fun _ => none) 0 (some h10)) 1 (some h11)) 2 (some h12))))))), (h10, .inr (3, [.int 0, .int 8, .int 0, .int 0, .int 0, .int 0, .int 0, .ref h13, .ref h14, .ref h15]))]) := hD
  have hP : va_P D classes ([(h0, .inr (8, [.ref h1, .null, .null])), (h1, .inr (4, [.ref h2, .int 0, .ref h3, .int 0, .ref h4, .ref h5, .ref h6, .ref h7, .ref h8, .ref h9, .int 0, .int 0, .int 0, .int 0, .int 0])), (h2, .inl (cy 3, 3, .inr (.inr (.inr (.inr (va_up (va_up (va_up (fun _ => none) 0 (some h10)) 1 (some h11)) 2 (some h12))))))), (h10, .inr (3, [.int 0, .int 8, .int 0, .int 0, .int 0, .int 0, .int 0, .ref h13, .ref h14, .ref h15]))]) s.heap := hP
  have hl := lv_entry ([.ref h0, .int i0]) (n := 2) (Nat.le_of_ble_eq_true rfl)
  rw [lg_entry_eq]
  generalize (lg_sl ([.ref h0, .int i0]) ++ List.replicate (2 - (lg_sl ([.ref h0, .int i0])).length) Slot.unset).toArray = ls at hl ⊢
  have hl : lv_has ls 2 [(0, .ref h0), (1, .int i0)] := hl
  refine lv_iload_n hx hb dX9_source_0 rfl (lv_at hl 1 rfl) ?_
  refine lv_iconst (v := 1) hx hb dX9_source_1 (by decide) ?_
  refine lv_icmp_lt (tgt := 10) hx hb dX9_source_2 (by decide) (fun c1 => ?_) (fun c1 => ?_)
  · have c1 : i0.toInt < 1 := i_lt c1 rfl rfl
    refine lv_bipush (v := (-2)) hx hb dX9_source_10 (by decide) ?_
    refine W.widen (k := 0) (n := 0) (Nat.le_of_ble_eq_true rfl) (Nat.le_of_ble_eq_true rfl) ?_
    exact W.iret (v := (-2)) hx hb hr (fun t ht2 hW => ⟨⟨(-2), (), rfl, (Or.inl ⟨c1, rfl⟩), trivial⟩, hS.F ht2⟩) hS.2.2 dX9_source_12
  · have c1 : ¬ i0.toInt < 1 := i_nlt c1 rfl rfl
    refine lv_iload_n hx hb dX9_source_5 rfl (lv_at hl 1 rfl) ?_
    refine lv_iconst (v := 3) hx hb dX9_source_6 (by decide) ?_
    refine lv_icmp_le (tgt := 13) hx hb dX9_source_7 (by decide) (fun c2 => ?_) (fun c2 => ?_)
    · have c2 : i0.toInt ≤ 3 := i_le c2 rfl rfl
      refine lv_aload_n hx hb dX9_source_13 rfl (lv_at hl 0 rfl) ?_
      refine va_get (D := D) (ci := 8) (v := .ref h1) (C := RX9) (T := TX9) (N := 3) hx hb hts i_X9 hown hK.1 hP 0 rfl rfl 0 (by decide) (ht _ kt_260) (fun _ h9 => h9) rfl dX9_source_14 ?_
      refine va_getN (D := D) (ci := 4) (v := .int 0) (C := RX5) (T := TX5) (N := 15) hx hb hts i_X5 hown hK.1 hP 1 rfl rfl 1 (by decide) (va_Nw.use rfl (hK.2.1 _ kt_199)) (fun _ h9 => h9) rfl dX9_source_17 ?_
      refine lv_iconst (v := 3) hx hb dX9_source_20 (by decide) ?_
      refine lv_icmp_lt (tgt := 27) hx hb dX9_source_21 (by decide) (fun _ => ?_) (fun c3 => absurd c3 (by decide))
      refine lv_aload_n hx hb dX9_source_27 rfl (lv_at hl 0 rfl) ?_
      refine va_get (D := D) (ci := 8) (v := .ref h1) (C := RX9) (T := TX9) (N := 3) hx hb hts i_X9 hown hK.1 hP 0 rfl rfl 0 (by decide) (ht _ kt_260) (fun _ h9 => h9) rfl dX9_source_28 ?_
      refine va_getN (D := D) (ci := 4) (v := .int 0) (C := RX5) (T := TX5) (N := 15) hx hb hts i_X5 hown hK.1 hP 1 rfl rfl 12 (by decide) (va_Nw.use rfl (hK.2.1 _ kt_223)) (fun _ h9 => h9) rfl dX9_source_31 ?_
      refine lv_if_le (tgt := 40) hx hb dX9_source_34 (by decide) (fun _ => ?_) (fun c4 => absurd c4 (by decide))
      refine lv_aload_n hx hb dX9_source_40 rfl (lv_at hl 0 rfl) ?_
      refine va_get (D := D) (ci := 8) (v := .ref h1) (C := RX9) (T := TX9) (N := 3) hx hb hts i_X9 hown hK.1 hP 0 rfl rfl 0 (by decide) (ht _ kt_260) (fun _ h9 => h9) rfl dX9_source_41 ?_
      refine lv_iload_n hx hb dX9_source_44 rfl (lv_at hl 1 rfl) ?_
      have hPc := hP.sub (ws' := (w7 cy h1 h2 h3 h4 h5 h6 h7 h8 h9 h10 h11 h12 h13 h14 h15 i0)) [1, 2, 3] rfl
      have hDc := hD.sub (ws' := (w7 cy h1 h2 h3 h4 h5 h6 h7 h8 h9 h10 h11 h12 h13 h14 h15 i0)) [1, 2, 3] (by decide +kernel) rfl
      have hFc := va_free (wc := (w7 cy h1 h2 h3 h4 h5 h6 h7 h8 h9 h10 h11 h12 h13 h14 h15 i0)) hD hS hA [1, 2, 3] rfl
      refine va_calli (va_runV (As := [.int i0]) (rest := []) ⟨hx, hb, hml, hown, hts⟩ (c7_X5_addSource l D cy h1 h2 h3 h4 h5 h6 h7 h8 h9 h10 h11 h12 h13 h14 h15 i0 s.heap.size) (cwV 1 hts (gt_V kt_274 kt_275 kt_276 kt_2 kt_277) rfl rfl rfl (by decide +kernel) ⟨Nat.le_of_ble_eq_true rfl, Nat.le_of_ble_eq_true rfl⟩) (gN_V hK hPc hDc hP (ci := 4) (q0 := 1) rfl rfl) rfl rfl hl.1 rfl (lv_room (Nat.le_of_ble_eq_true rfl)) dX9_source_45 ⟨Nat.le_of_ble_eq_true rfl, Nat.le_of_ble_eq_true rfl⟩) hS (fun q _ h => hFc q h) hFc (fun r5 u7 t H1 locs ht2 hvm hw6 hB hz1 hk1 hS => ?_)
      obtain ⟨hP1, hD1⟩ := hB
      rw [ht2] at hP1
      obtain ⟨hP, hD⟩ := va_join (wr := ([(h0, .inr (8, [.ref h1, .null, .null]))] : va_W)) (w1 := (vw7 cy h1 h2 h3 h4 h5 h6 h7 h8 h9 h10 h11 h12 h13 h14 h15 i0 u7)) hP hD [1, 2, 3] [0] rfl rfl (by decide +kernel) (by decide +kernel) hk1 hFc hP1 hD1
      generalize H1 = H at hP hS ⊢
      have hP : va_P D classes ([(h0, .inr (8, [.ref h1, .null, .null])), (h1, .inr (4, [.ref h2, .int 1, .ref h3, .int 0, .ref h4, .ref h5, .ref h6, .ref h7, .ref h8, .ref h9, .int 0, .int 0, .int 0, .int 0, .int 0])), (h2, .inl (cy 3, 3, .inr (.inr (.inr (.inr (va_up (va_up (va_up (fun _ => none) 0 (some h10)) 1 (some h11)) 2 (some h12))))))), (h10, .inr (3, [.int i0, .int 8, .int 0, .int 0, .int 0, .int 0, .int 0, .ref h13, .ref h14, .ref h15]))]) H := hP
      have hD : va_D A ([(h0, .inr (8, [.ref h1, .null, .null])), (h1, .inr (4, [.ref h2, .int 1, .ref h3, .int 0, .ref h4, .ref h5, .ref h6, .ref h7, .ref h8, .ref h9, .int 0, .int 0, .int 0, .int 0, .int 0])), (h2, .inl (cy 3, 3, .inr (.inr (.inr (.inr (va_up (va_up (va_up (fun _ => none) 0 (some h10)) 1 (some h11)) 2 (some h12))))))), (h10, .inr (3, [.int i0, .int 8, .int 0, .int 0, .int 0, .int 0, .int 0, .ref h13, .ref h14, .ref h15]))]) := hD
      refine W.widen (k := 0) (n := 0) (Nat.le_of_ble_eq_true rfl) (Nat.le_of_ble_eq_true rfl) ?_
      obtain rfl : r5 = 0 := hw6
      refine W.widen (k := 0) (n := 0) (Nat.le_of_ble_eq_true rfl) (Nat.le_of_ble_eq_true rfl) ?_
      exact W.iret (v := 0) hx hb hr (fun t ht2 hW => ⟨⟨0, (), rfl, (Or.inr (Or.inl ⟨c1, c2, rfl⟩)), trivial⟩, hS.F ht2⟩) hS.2.2 dX9_source_48
    · have c2 : ¬ i0.toInt ≤ 3 := i_nle c2 rfl rfl
      refine lv_bipush (v := (-2)) hx hb dX9_source_10 (by decide) ?_
      refine W.widen (k := 0) (n := 0) (Nat.le_of_ble_eq_true rfl) (Nat.le_of_ble_eq_true rfl) ?_
      exact W.iret (v := (-2)) hx hb hr (fun t ht2 hW => ⟨⟨(-2), (), rfl, (Or.inr (Or.inr (⟨c1, c2, rfl⟩))), trivial⟩, hS.F ht2⟩) hS.2.2 dX9_source_12
def w9 (cy : Nat → ClassId) (h0 h1 h2 h3 h4 h5 h6 h7 h8 : Nat) (i0 : Int32) : va_W := [(h0, .inr (4, [.ref h1, .int 0, .ref h2, .int 0, .ref h3, .ref h4, .ref h5, .ref h6, .ref h7, .ref h8, .int 0, .int 0, .int 0, .int 0, .int 0]))]
set_option maxHeartbeats 4000000 in
set_option maxRecDepth 100000 in
theorem c9_X5_hasSource (l : Launch) (D : va_G) (cy : Nat → ClassId) (h0 h1 h2 h3 h4 h5 h6 h7 h8 : Nat) (i0 : Int32) : Met l yX5_hasSource (Cond.code yX5_hasSource cX5_hasSource 2 (some .boolean) :: GT) ({ frames := 0, cells := 0, slots := 0, locals := 0 }) (gP D cy (w9 cy h0 h1 h2 h3 h4 h5 h6 h7 h8 i0) [.ref h0, .int i0]) (vp_Si (fun r => r = 0)) 0 0 (fun _ => False) := by
  refine Met.ofW (cc := cX5_hasSource) (maxL := 2) (ret := some .boolean) (by decide) rfl ?_
  intro p e s m args below meth c s₁ B hml hv
  obtain ⟨rfl, hP, hK⟩ := hv
  have hx := B.exec
  have hb := B.bytes
  have hr := B.returns
  have hts := atoms_spec (ws := (Cond.code yX5_hasSource cX5_hasSource 2 (some .boolean) :: GT)) B.pre
  have ht : ∀ w ∈ GT, w.before _ s = true := fun w h => hts w (List.mem_cons_of_mem _ h)
  have hown : s.vm.findClass RX5 = some m.cls := findClass_of_methodNamed B.named
  have hlocks := B.notSynchronized
  have hP : va_P D classes ([(h0, .inr (4, [.ref h1, .int 0, .ref h2, .int 0, .ref h3, .ref h4, .ref h5, .ref h6, .ref h7, .ref h8, .int 0, .int 0, .int 0, .int 0, .int 0]))]) s.heap := hP
  have hl := lv_entry ([.ref h0, .int i0]) (n := 2) (Nat.le_of_ble_eq_true rfl)
  rw [lg_entry_eq]
  generalize (lg_sl ([.ref h0, .int i0]) ++ List.replicate (2 - (lg_sl ([.ref h0, .int i0])).length) Slot.unset).toArray = ls at hl ⊢
  have hl : lv_has ls 2 [(0, .ref h0), (1, .int i0)] := hl
  refine lv_iload_n hx hb dX5_hasSource_0 rfl (lv_at hl 1 rfl) ?_
  refine lv_if_lt (tgt := 21) hx hb dX5_hasSource_1 (by decide) (fun c1 => ?_) (fun c1 => ?_)
  · have c1 : i0.toInt < 0 := i_lt c1 rfl rfl
    refine lv_iconst (v := 0) hx hb dX5_hasSource_21 (by decide) ?_
    exact W.zret (v := 0) hx hb hr rfl (fun t ht2 hW => ⟨0, rfl, rfl, ht2⟩) (fun q h => by cases h) dX5_hasSource_22
  · have c1 : ¬ i0.toInt < 0 := i_nlt c1 rfl rfl
    refine lv_iload_n hx hb dX5_hasSource_4 rfl (lv_at hl 1 rfl) ?_
    refine lv_aload_n hx hb dX5_hasSource_5 rfl (lv_at hl 0 rfl) ?_
    refine va_get (D := D) (ci := 4) (v := .int 0) (C := RX5) (T := TX5) (N := 15) hx hb hts i_X5 hown hK.1 hP 0 rfl rfl 1 (by decide) (ht _ kt_201) (fun _ h9 => h9) rfl dX5_hasSource_6 ?_
    refine lv_icmp_ge (tgt := 21) hx hb dX5_hasSource_9 (by decide) (fun c2 => ?_) (fun c2 => ?_)
    · have c2 : 0 ≤ i0.toInt := i_le c2 rfl rfl
      refine lv_iconst (v := 0) hx hb dX5_hasSource_21 (by decide) ?_
      exact W.zret (v := 0) hx hb hr rfl (fun t ht2 hW => ⟨0, rfl, rfl, ht2⟩) (fun q h => by cases h) dX5_hasSource_22
    · have c2 : ¬ 0 ≤ i0.toInt := i_nle c2 rfl rfl
      exact (by omega : False).elim
def w10 (cy : Nat → ClassId) (h0 h1 h2 h3 h4 h5 h6 h7 h8 h9 : Nat) (i0 i1 : Int32) : va_W := [(h0, .inr (8, [.ref h1, .null, .null])), (h1, .inr (4, [.ref h2, .int 0, .ref h3, .int 0, .ref h4, .ref h5, .ref h6, .ref h7, .ref h8, .ref h9, .int 0, .int 0, .int 0, .int 0, .int 0]))]
set_option maxHeartbeats 4000000 in
set_option maxRecDepth 100000 in
theorem c10_X9_window (l : Launch) (D : va_G) (cy : Nat → ClassId) (h0 h1 h2 h3 h4 h5 h6 h7 h8 h9 : Nat) (i0 i1 : Int32) : Met l yX9_window (Cond.code yX9_window cX9_window 5 (some .int) :: GT) ({ frames := 1, cells := 0, slots := 0, locals := 21 }) (gP D cy (w10 cy h0 h1 h2 h3 h4 h5 h6 h7 h8 h9 i0 i1) [.ref h0, .int i0, .int i1]) (vp_Si (fun r => r = (-1))) 0 0 (fun _ => False) := by
  refine Met.ofW (cc := cX9_window) (maxL := 5) (ret := some .int) (by decide) rfl ?_
  intro p e s m args below meth c s₁ B hml hv
  obtain ⟨rfl, hP, hK⟩ := hv
  have hx := B.exec
  have hb := B.bytes
  have hr := B.returns
  have hts := atoms_spec (ws := (Cond.code yX9_window cX9_window 5 (some .int) :: GT)) B.pre
  have ht : ∀ w ∈ GT, w.before _ s = true := fun w h => hts w (List.mem_cons_of_mem _ h)
  have hown : s.vm.findClass RX9 = some m.cls := findClass_of_methodNamed B.named
  have hlocks := B.notSynchronized
  have hP : va_P D classes ([(h0, .inr (8, [.ref h1, .null, .null])), (h1, .inr (4, [.ref h2, .int 0, .ref h3, .int 0, .ref h4, .ref h5, .ref h6, .ref h7, .ref h8, .ref h9, .int 0, .int 0, .int 0, .int 0, .int 0]))]) s.heap := hP
  have hl := lv_entry ([.ref h0, .int i0, .int i1]) (n := 5) (Nat.le_of_ble_eq_true rfl)
  rw [lg_entry_eq]
  generalize (lg_sl ([.ref h0, .int i0, .int i1]) ++ List.replicate (5 - (lg_sl ([.ref h0, .int i0, .int i1])).length) Slot.unset).toArray = ls at hl ⊢
  have hl : lv_has ls 5 [(0, .ref h0), (1, .int i0), (2, .int i1)] := hl
  refine lv_aload_n hx hb dX9_window_0 rfl (lv_at hl 0 rfl) ?_
  refine va_get (D := D) (ci := 8) (v := .ref h1) (C := RX9) (T := TX9) (N := 3) hx hb hts i_X9 hown hK.1 hP 0 rfl rfl 0 (by decide) (ht _ kt_260) (fun _ h9 => h9) rfl dX9_window_1 ?_
  refine lv_iload_n hx hb dX9_window_4 rfl (lv_at hl 1 rfl) ?_
  refine vp_callSi (va_Run.run (va_runV (As := [.int i0]) (rest := []) ⟨hx, hb, hml, hown, hts⟩ (c9_X5_hasSource l D cy h1 h2 h3 h4 h5 h6 h7 h8 h9 i0) (cwV 1 hts (gt_V kt_282 kt_283 kt_284 kt_2 kt_285) rfl rfl rfl (by decide +kernel) ⟨Nat.le_of_ble_eq_true rfl, Nat.le_of_ble_eq_true rfl⟩) (gP_V hK (hP.sub (ws' := (w9 cy h1 h2 h3 h4 h5 h6 h7 h8 h9 i0)) [1] rfl) hP (ci := 4) (q0 := 1) rfl rfl) rfl rfl hl.1 rfl (lv_room (Nat.le_of_ble_eq_true rfl)) dX9_window_5 ⟨Nat.le_of_ble_eq_true rfl, Nat.le_of_ble_eq_true rfl⟩)) (fun r1 hw2 => ?_)
  obtain rfl : r1 = 0 := hw2
  refine lv_if_ne (tgt := 13) hx hb dX9_window_8 (by decide) (fun c3 => absurd c3 (by decide)) (fun _ => ?_)
  refine lv_iconst (v := (-1)) hx hb dX9_window_11 (by decide) ?_
  exact W.iret (v := (-1)) hx hb hr (fun t ht2 hW => ⟨(-1), rfl, rfl, ht2⟩) (fun q h => by cases h) dX9_window_12
def w11 (cy : Nat → ClassId) (h0 h1 h2 h3 h4 h5 h6 h7 h8 h9 : Nat) (i0 i1 i2 i3 i4 : Int32) : va_W := [(h0, .inr (8, [.ref h1, .null, .null])), (h1, .inr (4, [.ref h2, .int 0, .ref h3, .int 0, .ref h4, .ref h5, .ref h6, .ref h7, .ref h8, .ref h9, .int 0, .int 0, .int 0, .int 0, .int 0]))]
set_option maxHeartbeats 4000000 in
set_option maxRecDepth 100000 in
theorem c11_X9_deliver (l : Launch) (D : va_G) (cy : Nat → ClassId) (h0 h1 h2 h3 h4 h5 h6 h7 h8 h9 : Nat) (i0 i1 i2 i3 i4 : Int32) : Met l yX9_deliver (Cond.code yX9_deliver cX9_deliver 8 (some .int) :: GT) ({ frames := 1, cells := 0, slots := 0, locals := 21 }) (gP D cy (w11 cy h0 h1 h2 h3 h4 h5 h6 h7 h8 h9 i0 i1 i2 i3 i4) [.ref h0, .int i0, .int i1, .int i2, .int i3, .int i4]) (vp_Si (fun r => r = (-1))) 0 0 (fun _ => False) := by
  refine Met.ofW (cc := cX9_deliver) (maxL := 8) (ret := some .int) (by decide) rfl ?_
  intro p e s m args below meth c s₁ B hml hv
  obtain ⟨rfl, hP, hK⟩ := hv
  have hx := B.exec
  have hb := B.bytes
  have hr := B.returns
  have hts := atoms_spec (ws := (Cond.code yX9_deliver cX9_deliver 8 (some .int) :: GT)) B.pre
  have ht : ∀ w ∈ GT, w.before _ s = true := fun w h => hts w (List.mem_cons_of_mem _ h)
  have hown : s.vm.findClass RX9 = some m.cls := findClass_of_methodNamed B.named
  have hlocks := B.notSynchronized
  have hP : va_P D classes ([(h0, .inr (8, [.ref h1, .null, .null])), (h1, .inr (4, [.ref h2, .int 0, .ref h3, .int 0, .ref h4, .ref h5, .ref h6, .ref h7, .ref h8, .ref h9, .int 0, .int 0, .int 0, .int 0, .int 0]))]) s.heap := hP
  have hl := lv_entry ([.ref h0, .int i0, .int i1, .int i2, .int i3, .int i4]) (n := 8) (Nat.le_of_ble_eq_true rfl)
  rw [lg_entry_eq]
  generalize (lg_sl ([.ref h0, .int i0, .int i1, .int i2, .int i3, .int i4]) ++ List.replicate (8 - (lg_sl ([.ref h0, .int i0, .int i1, .int i2, .int i3, .int i4])).length) Slot.unset).toArray = ls at hl ⊢
  have hl : lv_has ls 8 [(0, .ref h0), (1, .int i0), (2, .int i1), (3, .int i2), (4, .int i3), (5, .int i4)] := hl
  refine lv_aload_n hx hb dX9_deliver_0 rfl (lv_at hl 0 rfl) ?_
  refine va_get (D := D) (ci := 8) (v := .ref h1) (C := RX9) (T := TX9) (N := 3) hx hb hts i_X9 hown hK.1 hP 0 rfl rfl 0 (by decide) (ht _ kt_260) (fun _ h9 => h9) rfl dX9_deliver_1 ?_
  refine lv_iload_n hx hb dX9_deliver_4 rfl (lv_at hl 1 rfl) ?_
  refine vp_callSi (va_Run.run (va_runV (As := [.int i0]) (rest := []) ⟨hx, hb, hml, hown, hts⟩ (c9_X5_hasSource l D cy h1 h2 h3 h4 h5 h6 h7 h8 h9 i0) (cwV 1 hts (gt_V kt_282 kt_283 kt_284 kt_2 kt_285) rfl rfl rfl (by decide +kernel) ⟨Nat.le_of_ble_eq_true rfl, Nat.le_of_ble_eq_true rfl⟩) (gP_V hK (hP.sub (ws' := (w9 cy h1 h2 h3 h4 h5 h6 h7 h8 h9 i0)) [1] rfl) hP (ci := 4) (q0 := 1) rfl rfl) rfl rfl hl.1 rfl (lv_room (Nat.le_of_ble_eq_true rfl)) dX9_deliver_5 ⟨Nat.le_of_ble_eq_true rfl, Nat.le_of_ble_eq_true rfl⟩)) (fun r1 hw2 => ?_)
  obtain rfl : r1 = 0 := hw2
  refine lv_if_ne (tgt := 13) hx hb dX9_deliver_8 (by decide) (fun c3 => absurd c3 (by decide)) (fun _ => ?_)
  refine lv_iconst (v := (-1)) hx hb dX9_deliver_11 (by decide) ?_
  exact W.iret (v := (-1)) hx hb hr (fun t ht2 hW => ⟨(-1), rfl, rfl, ht2⟩) (fun q h => by cases h) dX9_deliver_12
def w12 (cy : Nat → ClassId) (h0 h1 h2 h3 h4 h5 h6 h7 h8 h9 : Nat) (i0 i1 : Int32) : va_W := [(h0, .inr (8, [.ref h1, .null, .null])), (h1, .inr (4, [.ref h2, .int 0, .ref h3, .int 0, .ref h4, .ref h5, .ref h6, .ref h7, .ref h8, .ref h9, .int 0, .int 0, .int 0, .int 0, .int 0]))]
set_option maxHeartbeats 4000000 in
set_option maxRecDepth 100000 in
theorem c12_X9_drop (l : Launch) (D : va_G) (cy : Nat → ClassId) (h0 h1 h2 h3 h4 h5 h6 h7 h8 h9 : Nat) (i0 i1 : Int32) : Met l yX9_drop (Cond.code yX9_drop cX9_drop 3 (some .int) :: GT) ({ frames := 1, cells := 0, slots := 0, locals := 21 }) (gP D cy (w12 cy h0 h1 h2 h3 h4 h5 h6 h7 h8 h9 i0 i1) [.ref h0, .int i0, .int i1]) (vp_Si (fun r => r = (-1))) 0 0 (fun _ => False) := by
  refine Met.ofW (cc := cX9_drop) (maxL := 3) (ret := some .int) (by decide) rfl ?_
  intro p e s m args below meth c s₁ B hml hv
  obtain ⟨rfl, hP, hK⟩ := hv
  have hx := B.exec
  have hb := B.bytes
  have hr := B.returns
  have hts := atoms_spec (ws := (Cond.code yX9_drop cX9_drop 3 (some .int) :: GT)) B.pre
  have ht : ∀ w ∈ GT, w.before _ s = true := fun w h => hts w (List.mem_cons_of_mem _ h)
  have hown : s.vm.findClass RX9 = some m.cls := findClass_of_methodNamed B.named
  have hlocks := B.notSynchronized
  have hP : va_P D classes ([(h0, .inr (8, [.ref h1, .null, .null])), (h1, .inr (4, [.ref h2, .int 0, .ref h3, .int 0, .ref h4, .ref h5, .ref h6, .ref h7, .ref h8, .ref h9, .int 0, .int 0, .int 0, .int 0, .int 0]))]) s.heap := hP
  have hl := lv_entry ([.ref h0, .int i0, .int i1]) (n := 3) (Nat.le_of_ble_eq_true rfl)
  rw [lg_entry_eq]
  generalize (lg_sl ([.ref h0, .int i0, .int i1]) ++ List.replicate (3 - (lg_sl ([.ref h0, .int i0, .int i1])).length) Slot.unset).toArray = ls at hl ⊢
  have hl : lv_has ls 3 [(0, .ref h0), (1, .int i0), (2, .int i1)] := hl
  refine lv_aload_n hx hb dX9_drop_0 rfl (lv_at hl 0 rfl) ?_
  refine va_get (D := D) (ci := 8) (v := .ref h1) (C := RX9) (T := TX9) (N := 3) hx hb hts i_X9 hown hK.1 hP 0 rfl rfl 0 (by decide) (ht _ kt_260) (fun _ h9 => h9) rfl dX9_drop_1 ?_
  refine lv_iload_n hx hb dX9_drop_4 rfl (lv_at hl 1 rfl) ?_
  refine vp_callSi (va_Run.run (va_runV (As := [.int i0]) (rest := []) ⟨hx, hb, hml, hown, hts⟩ (c9_X5_hasSource l D cy h1 h2 h3 h4 h5 h6 h7 h8 h9 i0) (cwV 1 hts (gt_V kt_282 kt_283 kt_284 kt_2 kt_285) rfl rfl rfl (by decide +kernel) ⟨Nat.le_of_ble_eq_true rfl, Nat.le_of_ble_eq_true rfl⟩) (gP_V hK (hP.sub (ws' := (w9 cy h1 h2 h3 h4 h5 h6 h7 h8 h9 i0)) [1] rfl) hP (ci := 4) (q0 := 1) rfl rfl) rfl rfl hl.1 rfl (lv_room (Nat.le_of_ble_eq_true rfl)) dX9_drop_5 ⟨Nat.le_of_ble_eq_true rfl, Nat.le_of_ble_eq_true rfl⟩)) (fun r1 hw2 => ?_)
  obtain rfl : r1 = 0 := hw2
  refine lv_if_eq (tgt := 27) hx hb dX9_drop_8 (by decide) (fun _ => ?_) (fun c3 => absurd c3 (by decide))
  refine lv_iconst (v := (-1)) hx hb dX9_drop_27 (by decide) ?_
  exact W.iret (v := (-1)) hx hb hr (fun t ht2 hW => ⟨(-1), rfl, rfl, ht2⟩) (fun q h => by cases h) dX9_drop_28
def w13 (cy : Nat → ClassId) (h0 h1 : Nat) (i0 : Int32) : va_W := [(h0, .inr (6, [.ref h1, .int 0])), (h1, .inl (cy 2, 40, .inl (fun _ => 0)))]
def vw13 (cy : Nat → ClassId) (h0 h1 : Nat) (i0 : Int32) (u : Nat → Nat) : va_W := [(h0, .inr (6, [.ref h1, .int 1])), (h1, .inl (cy 2, 40, .inl (upd (fun _ => 0) 0 (vp_nar .byte (i0.toInt8.toInt32)))))]
set_option maxHeartbeats 4000000 in
set_option maxRecDepth 100000 in
theorem c13_X7_append (l : Launch) (D : va_G) (cy : Nat → ClassId) (h0 h1 : Nat) (i0 : Int32) (sz : Nat) : Met l yX7_append (Cond.code yX7_append cX7_append 2 (some .int) :: GT) ({ frames := 0, cells := 0, slots := 0, locals := 0 }) (gN D cy (w13 cy h0 h1 i0) [.ref h0, .int i0] sz) (va_Qi (fun (r : Int32) (_ : Nat → Nat) => r = 1) (fun u t => va_P D classes (vw13 cy h0 h1 i0 u) t.heap ∧ va_D (va_A (w13 cy h0 h1 i0) sz) (vw13 cy h0 h1 i0 u)) (va_A (w13 cy h0 h1 i0) sz)) 0 0 (va_A (w13 cy h0 h1 i0) sz) := by
  refine Met.ofW (cc := cX7_append) (maxL := 2) (ret := some .int) (by decide) rfl ?_
  intro p e s m args below meth c s₁ B hml hv
  obtain ⟨rfl, hsz, hP, hK, hD0⟩ := hv
  have hx := B.exec
  have hb := B.bytes
  have hr := B.returns
  have hts := atoms_spec (ws := (Cond.code yX7_append cX7_append 2 (some .int) :: GT)) B.pre
  have ht : ∀ w ∈ GT, w.before _ s = true := fun w h => hts w (List.mem_cons_of_mem _ h)
  have hown : s.vm.findClass RX7 = some m.cls := findClass_of_methodNamed B.named
  have hlocks := B.notSynchronized
  subst hsz
  have hD := hD0.self (sz := s.heap.size)
  generalize hAe : va_A (w13 cy h0 h1 i0) s.heap.size = A at hD ⊢
  have hA : ∀ q : Nat, s.heap.size ≤ q → A q := fun q h => by rw [← hAe]; exact Or.inr h
  have hS : va_S A s.heap s.heap [] := va_S.rf
  have hD : va_D A ([(h0, .inr (6, [.ref h1, .int 0])), (h1, .inl (cy 2, 40, .inl (fun _ => 0)))]) := hD
  have hP : va_P D classes ([(h0, .inr (6, [.ref h1, .int 0])), (h1, .inl (cy 2, 40, .inl (fun _ => 0)))]) s.heap := hP
  have hl := lv_entry ([.ref h0, .int i0]) (n := 2) (Nat.le_of_ble_eq_true rfl)
  rw [lg_entry_eq]
  generalize (lg_sl ([.ref h0, .int i0]) ++ List.replicate (2 - (lg_sl ([.ref h0, .int i0])).length) Slot.unset).toArray = ls at hl ⊢
  have hl : lv_has ls 2 [(0, .ref h0), (1, .int i0)] := hl
  refine lv_aload_n hx hb dX7_append_0 rfl (lv_at hl 0 rfl) ?_
  refine va_get (D := D) (ci := 6) (v := .int 0) (C := RX7) (T := TX7) (N := 2) hx hb hts i_X7 hown hK.1 hP 0 rfl rfl 1 (by decide) (ht _ kt_174) (fun _ h9 => h9) rfl dX7_append_1 ?_
  refine lv_if_lt (tgt := 37) hx hb dX7_append_4 (by decide) (fun c1 => absurd c1 (by decide)) (fun _ => ?_)
  refine lv_aload_n hx hb dX7_append_7 rfl (lv_at hl 0 rfl) ?_
  refine va_get (D := D) (ci := 6) (v := .int 0) (C := RX7) (T := TX7) (N := 2) hx hb hts i_X7 hown hK.1 hP 0 rfl rfl 1 (by decide) (ht _ kt_174) (fun _ h9 => h9) rfl dX7_append_8 ?_
  refine lv_bipush (v := 40) hx hb dX7_append_11 (by decide) ?_
  refine lv_icmp_ge (tgt := 37) hx hb dX7_append_13 (by decide) (fun c2 => absurd c2 (by decide)) (fun _ => ?_)
  refine lv_aload_n hx hb dX7_append_16 rfl (lv_at hl 0 rfl) ?_
  refine va_get (D := D) (ci := 6) (v := .ref h1) (C := RX7) (T := TX7) (N := 2) hx hb hts i_X7 hown hK.1 hP 0 rfl rfl 0 (by decide) (ht _ kt_173) (fun _ h9 => h9) rfl dX7_append_17 ?_
  refine lv_aload_n hx hb dX7_append_20 rfl (lv_at hl 0 rfl) ?_
  refine va_get (D := D) (ci := 6) (v := .int 0) (C := RX7) (T := TX7) (N := 2) hx hb hts i_X7 hown hK.1 hP 0 rfl rfl 1 (by decide) (ht _ kt_174) (fun _ h9 => h9) rfl dX7_append_21 ?_
  refine lv_iload_n hx hb dX7_append_24 rfl (lv_at hl 1 rfl) ?_
  refine lv_i2b (v := (i0.toInt8.toInt32)) hx hb dX7_append_25 rfl ?_
  refine va_bast hx hb hK.1 hP hD hS 1 2 rfl rfl (vin (by decide)) dX7_append_26 (fun H locs hP hD hS => ?_)
  have hP : va_P D classes ([(h0, .inr (6, [.ref h1, .int 0])), (h1, .inl (cy 2, 40, .inl (upd (fun _ => 0) 0 (vp_nar .byte (i0.toInt8.toInt32)))))]) H := hP
  have hD : va_D A ([(h0, .inr (6, [.ref h1, .int 0])), (h1, .inl (cy 2, 40, .inl (upd (fun _ => 0) 0 (vp_nar .byte (i0.toInt8.toInt32)))))]) := hD
  refine lv_aload_n hx hb dX7_append_27 rfl (lv_at hl 0 rfl) ?_
  refine lv_dup hx hb dX7_append_28 rfl ?_
  refine va_get (D := D) (ci := 6) (v := .int 0) (C := RX7) (T := TX7) (N := 2) hx hb hts i_X7 hown hK.1 hP 0 rfl rfl 1 (by decide) (ht _ kt_174) (fun _ h9 => h9) rfl dX7_append_29 ?_
  refine lv_iconst (v := 1) hx hb dX7_append_32 (by decide) ?_
  refine lv_iadd hx hb dX7_append_33 ?_
  refine lz_i 1 (by decide) ?_
  refine va_put (D := D) (ci := 6) (v := .int 1) (ty := .int) (C := RX7) (T := TX7) (N := 2) hx hb hts i_X7 tyX7 tyX7_ok nmX7 hown hK.1 hP hD hS 0 rfl rfl 1 (by decide) (ht _ kt_174) (fun _ h9 => h9) rfl (by decide +kernel) rfl rfl (Nat.le_of_ble_eq_true rfl) dX7_append_34 (fun H locs hP hD hS => ?_)
  have hP : va_P D classes ([(h0, .inr (6, [.ref h1, .int 1])), (h1, .inl (cy 2, 40, .inl (upd (fun _ => 0) 0 (vp_nar .byte (i0.toInt8.toInt32)))))]) H := hP
  have hD : va_D A ([(h0, .inr (6, [.ref h1, .int 1])), (h1, .inl (cy 2, 40, .inl (upd (fun _ => 0) 0 (vp_nar .byte (i0.toInt8.toInt32)))))]) := hD
  refine lv_aload_n hx hb dX7_append_37 rfl (lv_at hl 0 rfl) ?_
  refine va_get (D := D) (ci := 6) (v := .int 1) (C := RX7) (T := TX7) (N := 2) hx hb hts i_X7 hown hK.1 hP 0 rfl rfl 1 (by decide) (ht _ kt_174) (fun _ h9 => h9) rfl dX7_append_38 ?_
  refine W.widen (k := 0) (n := 0) (Nat.le_of_ble_eq_true rfl) (Nat.le_of_ble_eq_true rfl) ?_
  have hP9 := hP.sub (ws' := [(h0, .inr (6, [.ref h1, .int 1])), (h1, .inl (cy 2, 40, .inl (upd (fun _ => 0) 0 (vp_nar .byte (i0.toInt8.toInt32)))))]) [0, 1] rfl
  have hD9 := hD.sub (ws' := [(h0, .inr (6, [.ref h1, .int 1])), (h1, .inl (cy 2, 40, .inl (upd (fun _ => 0) 0 (vp_nar .byte (i0.toInt8.toInt32)))))]) [0, 1] (by decide +kernel) rfl
  exact W.iret (v := 1) hx hb hr (fun t ht2 hW => ⟨⟨1, (fun k => ([] : List Nat).getD k 0), rfl, rfl, by rw [ht2]; exact hP9, hD9⟩, hS.F ht2⟩) hS.2.2 dX7_append_41
def w14 (cy : Nat → ClassId) (h0 h1 h2 h3 h4 h5 h6 h7 h8 h9 h10 : Nat) (i0 : Int32) : va_W := [(h0, .inr (8, [.ref h1, .null, .null])), (h1, .inr (4, [.ref h2, .int 0, .ref h3, .int 0, .ref h4, .ref h5, .ref h6, .ref h7, .ref h8, .ref h9, .int 0, .int 0, .int 0, .int 0, .int 0])), (h8, .inr (6, [.ref h10, .int 0])), (h10, .inl (cy 2, 40, .inl (fun _ => 0)))]
set_option maxHeartbeats 4000000 in
set_option maxRecDepth 100000 in
theorem c14_X9_feed (l : Launch) (D : va_G) (cy : Nat → ClassId) (h0 h1 h2 h3 h4 h5 h6 h7 h8 h9 h10 : Nat) (i0 : Int32) (sz : Nat) : Met l yX9_feed (Cond.code yX9_feed cX9_feed 2 (some .int) :: GT) ({ frames := 1, cells := 0, slots := 0, locals := 21 }) (gN D cy (w14 cy h0 h1 h2 h3 h4 h5 h6 h7 h8 h9 h10 i0) [.ref h0, .int i0] sz) (va_Qi (fun (r : Int32) (_ : Unit) => (i0.toInt < 0 ∧ r = (-2)) ∨ (¬ i0.toInt < 0 ∧ i0.toInt ≤ 127 ∧ r = 1) ∨ (¬ i0.toInt < 0 ∧ ¬ i0.toInt ≤ 127 ∧ r = (-2))) (fun _ _ => True) (va_A (w14 cy h0 h1 h2 h3 h4 h5 h6 h7 h8 h9 h10 i0) sz)) 0 0 (va_A (w14 cy h0 h1 h2 h3 h4 h5 h6 h7 h8 h9 h10 i0) sz) := by
  refine Met.ofW (cc := cX9_feed) (maxL := 2) (ret := some .int) (by decide) rfl ?_
  intro p e s m args below meth c s₁ B hml hv
  obtain ⟨rfl, hsz, hP, hK, hD0⟩ := hv
  have hx := B.exec
  have hb := B.bytes
  have hr := B.returns
  have hts := atoms_spec (ws := (Cond.code yX9_feed cX9_feed 2 (some .int) :: GT)) B.pre
  have ht : ∀ w ∈ GT, w.before _ s = true := fun w h => hts w (List.mem_cons_of_mem _ h)
  have hown : s.vm.findClass RX9 = some m.cls := findClass_of_methodNamed B.named
  have hlocks := B.notSynchronized
  subst hsz
  have hD := hD0.self (sz := s.heap.size)
  generalize hAe : va_A (w14 cy h0 h1 h2 h3 h4 h5 h6 h7 h8 h9 h10 i0) s.heap.size = A at hD ⊢
  have hA : ∀ q : Nat, s.heap.size ≤ q → A q := fun q h => by rw [← hAe]; exact Or.inr h
  have hS : va_S A s.heap s.heap [] := va_S.rf
  have hD : va_D A ([(h0, .inr (8, [.ref h1, .null, .null])), (h1, .inr (4, [.ref h2, .int 0, .ref h3, .int 0, .ref h4, .ref h5, .ref h6, .ref h7, .ref h8, .ref h9, .int 0, .int 0, .int 0, .int 0, .int 0])), (h8, .inr (6, [.ref h10, .int 0])), (h10, .inl (cy 2, 40, .inl (fun _ => 0)))]) := hD
  have hP : va_P D classes ([(h0, .inr (8, [.ref h1, .null, .null])), (h1, .inr (4, [.ref h2, .int 0, .ref h3, .int 0, .ref h4, .ref h5, .ref h6, .ref h7, .ref h8, .ref h9, .int 0, .int 0, .int 0, .int 0, .int 0])), (h8, .inr (6, [.ref h10, .int 0])), (h10, .inl (cy 2, 40, .inl (fun _ => 0)))]) s.heap := hP
  have hl := lv_entry ([.ref h0, .int i0]) (n := 2) (Nat.le_of_ble_eq_true rfl)
  rw [lg_entry_eq]
  generalize (lg_sl ([.ref h0, .int i0]) ++ List.replicate (2 - (lg_sl ([.ref h0, .int i0])).length) Slot.unset).toArray = ls at hl ⊢
  have hl : lv_has ls 2 [(0, .ref h0), (1, .int i0)] := hl
  refine lv_iload_n hx hb dX9_feed_0 rfl (lv_at hl 1 rfl) ?_
  refine lv_if_lt (tgt := 10) hx hb dX9_feed_1 (by decide) (fun c1 => ?_) (fun c1 => ?_)
  · have c1 : i0.toInt < 0 := i_lt c1 rfl rfl
    refine lv_bipush (v := (-2)) hx hb dX9_feed_10 (by decide) ?_
    refine W.widen (k := 0) (n := 0) (Nat.le_of_ble_eq_true rfl) (Nat.le_of_ble_eq_true rfl) ?_
    exact W.iret (v := (-2)) hx hb hr (fun t ht2 hW => ⟨⟨(-2), (), rfl, (Or.inl ⟨c1, rfl⟩), trivial⟩, hS.F ht2⟩) hS.2.2 dX9_feed_12
  · have c1 : ¬ i0.toInt < 0 := i_nlt c1 rfl rfl
    refine lv_iload_n hx hb dX9_feed_4 rfl (lv_at hl 1 rfl) ?_
    refine lv_bipush (v := 127) hx hb dX9_feed_5 (by decide) ?_
    refine lv_icmp_le (tgt := 13) hx hb dX9_feed_7 (by decide) (fun c2 => ?_) (fun c2 => ?_)
    · have c2 : i0.toInt ≤ 127 := i_le c2 rfl rfl
      refine lv_aload_n hx hb dX9_feed_13 rfl (lv_at hl 0 rfl) ?_
      refine va_get (D := D) (ci := 8) (v := .ref h1) (C := RX9) (T := TX9) (N := 3) hx hb hts i_X9 hown hK.1 hP 0 rfl rfl 0 (by decide) (ht _ kt_260) (fun _ h9 => h9) rfl dX9_feed_14 ?_
      refine va_getN (D := D) (ci := 4) (v := .ref h8) (C := RX5) (T := TX5) (N := 15) hx hb hts i_X5 hown hK.1 hP 1 rfl rfl 8 (by decide) (va_Nw.use rfl (hK.2.1 _ kt_216)) (fun _ h9 => h9) rfl dX9_feed_17 ?_
      refine va_getN (D := D) (ci := 6) (v := .int 0) (C := RX7) (T := TX7) (N := 2) hx hb hts i_X7 hown hK.1 hP 2 rfl rfl 1 (by decide) (va_Nw.use rfl (hK.2.1 _ kt_176)) (fun _ h9 => h9) rfl dX9_feed_20 ?_
      refine lv_bipush (v := 40) hx hb dX9_feed_23 (by decide) ?_
      refine lv_icmp_lt (tgt := 31) hx hb dX9_feed_25 (by decide) (fun _ => ?_) (fun c3 => absurd c3 (by decide))
      refine lv_aload_n hx hb dX9_feed_31 rfl (lv_at hl 0 rfl) ?_
      refine va_get (D := D) (ci := 8) (v := .ref h1) (C := RX9) (T := TX9) (N := 3) hx hb hts i_X9 hown hK.1 hP 0 rfl rfl 0 (by decide) (ht _ kt_260) (fun _ h9 => h9) rfl dX9_feed_32 ?_
      refine va_getN (D := D) (ci := 4) (v := .ref h8) (C := RX5) (T := TX5) (N := 15) hx hb hts i_X5 hown hK.1 hP 1 rfl rfl 8 (by decide) (va_Nw.use rfl (hK.2.1 _ kt_216)) (fun _ h9 => h9) rfl dX9_feed_35 ?_
      refine lv_iload_n hx hb dX9_feed_38 rfl (lv_at hl 1 rfl) ?_
      have hPc := hP.sub (ws' := (w13 cy h8 h10 i0)) [2, 3] rfl
      have hDc := hD.sub (ws' := (w13 cy h8 h10 i0)) [2, 3] (by decide +kernel) rfl
      have hFc := va_free (wc := (w13 cy h8 h10 i0)) hD hS hA [2, 3] rfl
      refine va_calli (va_runV (As := [.int i0]) (rest := []) ⟨hx, hb, hml, hown, hts⟩ (c13_X7_append l D cy h8 h10 i0 s.heap.size) (cwV 1 hts (gt_V kt_378 kt_379 kt_380 kt_6 kt_381) rfl rfl rfl (by decide +kernel) ⟨Nat.le_of_ble_eq_true rfl, Nat.le_of_ble_eq_true rfl⟩) (gN_V hK hPc hDc hP (ci := 6) (q0 := 2) rfl rfl) rfl rfl hl.1 rfl (lv_room (Nat.le_of_ble_eq_true rfl)) dX9_feed_39 ⟨Nat.le_of_ble_eq_true rfl, Nat.le_of_ble_eq_true rfl⟩) hS (fun q _ h => hFc q h) hFc (fun r4 u6 t H1 locs ht2 hvm hw5 hB hz1 hk1 hS => ?_)
      obtain ⟨hP1, hD1⟩ := hB
      rw [ht2] at hP1
      obtain ⟨hP, hD⟩ := va_join (wr := ([(h0, .inr (8, [.ref h1, .null, .null])), (h1, .inr (4, [.ref h2, .int 0, .ref h3, .int 0, .ref h4, .ref h5, .ref h6, .ref h7, .ref h8, .ref h9, .int 0, .int 0, .int 0, .int 0, .int 0]))] : va_W)) (w1 := (vw13 cy h8 h10 i0 u6)) hP hD [2, 3] [0, 1] rfl rfl (by decide +kernel) (by decide +kernel) hk1 hFc hP1 hD1
      generalize H1 = H at hP hS ⊢
      have hP : va_P D classes ([(h0, .inr (8, [.ref h1, .null, .null])), (h1, .inr (4, [.ref h2, .int 0, .ref h3, .int 0, .ref h4, .ref h5, .ref h6, .ref h7, .ref h8, .ref h9, .int 0, .int 0, .int 0, .int 0, .int 0])), (h8, .inr (6, [.ref h10, .int 1])), (h10, .inl (cy 2, 40, .inl (upd (fun _ => 0) 0 (vp_nar .byte (i0.toInt8.toInt32)))))]) H := hP
      have hD : va_D A ([(h0, .inr (8, [.ref h1, .null, .null])), (h1, .inr (4, [.ref h2, .int 0, .ref h3, .int 0, .ref h4, .ref h5, .ref h6, .ref h7, .ref h8, .ref h9, .int 0, .int 0, .int 0, .int 0, .int 0])), (h8, .inr (6, [.ref h10, .int 1])), (h10, .inl (cy 2, 40, .inl (upd (fun _ => 0) 0 (vp_nar .byte (i0.toInt8.toInt32)))))]) := hD
      refine W.widen (k := 0) (n := 0) (Nat.le_of_ble_eq_true rfl) (Nat.le_of_ble_eq_true rfl) ?_
      obtain rfl : r4 = 1 := hw5
      refine W.widen (k := 0) (n := 0) (Nat.le_of_ble_eq_true rfl) (Nat.le_of_ble_eq_true rfl) ?_
      exact W.iret (v := 1) hx hb hr (fun t ht2 hW => ⟨⟨1, (), rfl, (Or.inr (Or.inl ⟨c1, c2, rfl⟩)), trivial⟩, hS.F ht2⟩) hS.2.2 dX9_feed_42
    · have c2 : ¬ i0.toInt ≤ 127 := i_nle c2 rfl rfl
      refine lv_bipush (v := (-2)) hx hb dX9_feed_10 (by decide) ?_
      refine W.widen (k := 0) (n := 0) (Nat.le_of_ble_eq_true rfl) (Nat.le_of_ble_eq_true rfl) ?_
      exact W.iret (v := (-2)) hx hb hr (fun t ht2 hW => ⟨⟨(-2), (), rfl, (Or.inr (Or.inr (⟨c1, c2, rfl⟩))), trivial⟩, hS.F ht2⟩) hS.2.2 dX9_feed_12
def w15 (cy : Nat → ClassId) (h0 h1 h2 h3 h4 h5 h6 h7 h8 h9 : Nat) : va_W := [(h0, .inr (7, [.null, .null, .int 0, .int 0])), (h1, .inr (4, [.ref h2, .int 0, .ref h3, .int 0, .ref h4, .ref h5, .ref h6, .ref h7, .ref h8, .ref h9, .int 0, .int 0, .int 0, .int 0, .int 0]))]
def vw15 (cy : Nat → ClassId) (h0 h1 h2 h3 h4 h5 h6 h7 h8 h9 : Nat) (u : Nat → Nat) : va_W := [(h0, .inr (7, [.ref h1, .ref h8, .int 0, .int 0])), (h1, .inr (4, [.ref h2, .int 0, .ref h3, .int 0, .ref h4, .ref h5, .ref h6, .ref h7, .ref h8, .ref h9, .int 0, .int 0, .int 0, .int 0, .int 0]))]
set_option maxHeartbeats 4000000 in
set_option maxRecDepth 100000 in
theorem c15_X8_init (l : Launch) (D : va_G) (cy : Nat → ClassId) (h0 h1 h2 h3 h4 h5 h6 h7 h8 h9 : Nat) (sz : Nat) : Met l yX8_init (Cond.code yX8_init cX8_init 2 (none) :: GT) ({ frames := 1, cells := 0, slots := 0, locals := 28 }) (gN D cy (w15 cy h0 h1 h2 h3 h4 h5 h6 h7 h8 h9) [.ref h0, .ref h1] sz) (va_Qv (fun _ : Nat → Nat => True) (fun u t => va_P D classes (vw15 cy h0 h1 h2 h3 h4 h5 h6 h7 h8 h9 u) t.heap ∧ va_D (va_A (w15 cy h0 h1 h2 h3 h4 h5 h6 h7 h8 h9) sz) (vw15 cy h0 h1 h2 h3 h4 h5 h6 h7 h8 h9 u)) (va_A (w15 cy h0 h1 h2 h3 h4 h5 h6 h7 h8 h9) sz)) 0 0 (va_A (w15 cy h0 h1 h2 h3 h4 h5 h6 h7 h8 h9) sz) := by
  refine Met.ofW (cc := cX8_init) (maxL := 2) (ret := none) (by decide) rfl ?_
  intro p e s m args below meth c s₁ B hml hv
  obtain ⟨rfl, hsz, hP, hK, hD0⟩ := hv
  have hx := B.exec
  have hb := B.bytes
  have hr := B.returns
  have hts := atoms_spec (ws := (Cond.code yX8_init cX8_init 2 (none) :: GT)) B.pre
  have ht : ∀ w ∈ GT, w.before _ s = true := fun w h => hts w (List.mem_cons_of_mem _ h)
  have hown : s.vm.findClass RX8 = some m.cls := findClass_of_methodNamed B.named
  have hlocks := B.notSynchronized
  have hin : meth.name = "<init>" := (name_of_methodNamed B.named B.method).1
  subst hsz
  have hD := hD0.self (sz := s.heap.size)
  generalize hAe : va_A (w15 cy h0 h1 h2 h3 h4 h5 h6 h7 h8 h9) s.heap.size = A at hD ⊢
  have hA : ∀ q : Nat, s.heap.size ≤ q → A q := fun q h => by rw [← hAe]; exact Or.inr h
  have hS : va_S A s.heap s.heap [] := va_S.rf
  have hD : va_D A ([(h0, .inr (7, [.null, .null, .int 0, .int 0])), (h1, .inr (4, [.ref h2, .int 0, .ref h3, .int 0, .ref h4, .ref h5, .ref h6, .ref h7, .ref h8, .ref h9, .int 0, .int 0, .int 0, .int 0, .int 0]))]) := hD
  have hP : va_P D classes ([(h0, .inr (7, [.null, .null, .int 0, .int 0])), (h1, .inr (4, [.ref h2, .int 0, .ref h3, .int 0, .ref h4, .ref h5, .ref h6, .ref h7, .ref h8, .ref h9, .int 0, .int 0, .int 0, .int 0, .int 0]))]) s.heap := hP
  have hl := lv_entry ([.ref h0, .ref h1]) (n := 2) (Nat.le_of_ble_eq_true rfl)
  rw [lg_entry_eq]
  generalize (lg_sl ([.ref h0, .ref h1]) ++ List.replicate (2 - (lg_sl ([.ref h0, .ref h1])).length) Slot.unset).toArray = ls at hl ⊢
  have hl : lv_has ls 2 [(0, .ref h0), (1, .ref h1)] := hl
  refine lv_aload_n hx hb dX8_init_0 rfl (lv_at hl 0 rfl) ?_
  refine W.objInit hx hb hown (ht _ kt_391) (ht _ kt_21) (ht _ kt_22) rfl (by rw [hml]; exact hl.1) rfl dX8_init_1 (Nat.le_of_ble_eq_true rfl) (Nat.le_of_ble_eq_true rfl) ?_
  refine W.eq (g2 := F0 m 4 ls []) rfl ?_
  refine lv_aload_n hx hb dX8_init_4 rfl (lv_at hl 0 rfl) ?_
  refine lv_aload_n hx hb dX8_init_5 rfl (lv_at hl 1 rfl) ?_
  refine va_putF (D := D) (ci := 7) (v := .ref h1) (ty := .object "AdaptiveQueryExecutor$State") (C := RX8) (T := TX8) (N := 4) hx hb hts i_X8 tyX8 tyX8_ok nmX8 hown hK.1 hP hD hS 0 rfl rfl 0 (by decide) (ht _ kt_392) (fun _ h9 => h9) rfl hin rfl (by decide +kernel) rfl rfl (Nat.le_of_ble_eq_true rfl) dX8_init_6 (fun H locs hP hD hS => ?_)
  have hP : va_P D classes ([(h0, .inr (7, [.ref h1, .null, .int 0, .int 0])), (h1, .inr (4, [.ref h2, .int 0, .ref h3, .int 0, .ref h4, .ref h5, .ref h6, .ref h7, .ref h8, .ref h9, .int 0, .int 0, .int 0, .int 0, .int 0]))]) H := hP
  have hD : va_D A ([(h0, .inr (7, [.ref h1, .null, .int 0, .int 0])), (h1, .inr (4, [.ref h2, .int 0, .ref h3, .int 0, .ref h4, .ref h5, .ref h6, .ref h7, .ref h8, .ref h9, .int 0, .int 0, .int 0, .int 0, .int 0]))]) := hD
  refine lv_aload_n hx hb dX8_init_9 rfl (lv_at hl 0 rfl) ?_
  refine lv_aload_n hx hb dX8_init_10 rfl (lv_at hl 1 rfl) ?_
  refine va_getN (D := D) (ci := 4) (v := .ref h8) (C := RX5) (T := TX5) (N := 15) hx hb hts i_X5 hown hK.1 hP 1 rfl rfl 8 (by decide) (va_Nw.use rfl (hK.2.1 _ kt_214)) (fun _ h9 => h9) rfl dX8_init_11 ?_
  refine va_putF (D := D) (ci := 7) (v := .ref h8) (ty := .object "AdaptiveQueryExecutor$Tape") (C := RX8) (T := TX8) (N := 4) hx hb hts i_X8 tyX8 tyX8_ok nmX8 hown hK.1 hP hD hS 0 rfl rfl 1 (by decide) (ht _ kt_393) (fun _ h9 => h9) rfl hin rfl (by decide +kernel) rfl rfl (Nat.le_of_ble_eq_true rfl) dX8_init_14 (fun H locs hP hD hS => ?_)
  have hP : va_P D classes ([(h0, .inr (7, [.ref h1, .ref h8, .int 0, .int 0])), (h1, .inr (4, [.ref h2, .int 0, .ref h3, .int 0, .ref h4, .ref h5, .ref h6, .ref h7, .ref h8, .ref h9, .int 0, .int 0, .int 0, .int 0, .int 0]))]) H := hP
  have hD : va_D A ([(h0, .inr (7, [.ref h1, .ref h8, .int 0, .int 0])), (h1, .inr (4, [.ref h2, .int 0, .ref h3, .int 0, .ref h4, .ref h5, .ref h6, .ref h7, .ref h8, .ref h9, .int 0, .int 0, .int 0, .int 0, .int 0]))]) := hD
  refine lv_aload_n hx hb dX8_init_17 rfl (lv_at hl 0 rfl) ?_
  refine lv_iconst (v := 0) hx hb dX8_init_18 (by decide) ?_
  refine va_put (D := D) (ci := 7) (v := .int 0) (ty := .int) (C := RX8) (T := TX8) (N := 4) hx hb hts i_X8 tyX8 tyX8_ok nmX8 hown hK.1 hP hD hS 0 rfl rfl 2 (by decide) (ht _ kt_394) (fun _ h9 => h9) rfl (by decide +kernel) rfl rfl (Nat.le_of_ble_eq_true rfl) dX8_init_19 (fun H locs hP hD hS => ?_)
  have hP : va_P D classes ([(h0, .inr (7, [.ref h1, .ref h8, .int 0, .int 0])), (h1, .inr (4, [.ref h2, .int 0, .ref h3, .int 0, .ref h4, .ref h5, .ref h6, .ref h7, .ref h8, .ref h9, .int 0, .int 0, .int 0, .int 0, .int 0]))]) H := hP
  have hD : va_D A ([(h0, .inr (7, [.ref h1, .ref h8, .int 0, .int 0])), (h1, .inr (4, [.ref h2, .int 0, .ref h3, .int 0, .ref h4, .ref h5, .ref h6, .ref h7, .ref h8, .ref h9, .int 0, .int 0, .int 0, .int 0, .int 0]))]) := hD
  refine lv_aload_n hx hb dX8_init_22 rfl (lv_at hl 0 rfl) ?_
  refine lv_iconst (v := 0) hx hb dX8_init_23 (by decide) ?_
  refine va_put (D := D) (ci := 7) (v := .int 0) (ty := .boolean) (C := RX8) (T := TX8) (N := 4) hx hb hts i_X8 tyX8 tyX8_ok nmX8 hown hK.1 hP hD hS 0 rfl rfl 3 (by decide) (ht _ kt_396) (fun _ h9 => h9) rfl (by decide +kernel) rfl rfl (Nat.le_of_ble_eq_true rfl) dX8_init_24 (fun H locs hP hD hS => ?_)
  have hP : va_P D classes ([(h0, .inr (7, [.ref h1, .ref h8, .int 0, .int 0])), (h1, .inr (4, [.ref h2, .int 0, .ref h3, .int 0, .ref h4, .ref h5, .ref h6, .ref h7, .ref h8, .ref h9, .int 0, .int 0, .int 0, .int 0, .int 0]))]) H := hP
  have hD : va_D A ([(h0, .inr (7, [.ref h1, .ref h8, .int 0, .int 0])), (h1, .inr (4, [.ref h2, .int 0, .ref h3, .int 0, .ref h4, .ref h5, .ref h6, .ref h7, .ref h8, .ref h9, .int 0, .int 0, .int 0, .int 0, .int 0]))]) := hD
  refine W.widen (k := 0) (n := 0) (Nat.le_of_ble_eq_true rfl) (Nat.le_of_ble_eq_true rfl) ?_
  have hP9 := hP.sub (ws' := [(h0, .inr (7, [.ref h1, .ref h8, .int 0, .int 0])), (h1, .inr (4, [.ref h2, .int 0, .ref h3, .int 0, .ref h4, .ref h5, .ref h6, .ref h7, .ref h8, .ref h9, .int 0, .int 0, .int 0, .int 0, .int 0]))]) [0, 1] rfl
  have hD9 := hD.sub (ws' := [(h0, .inr (7, [.ref h1, .ref h8, .int 0, .int 0])), (h1, .inr (4, [.ref h2, .int 0, .ref h3, .int 0, .ref h4, .ref h5, .ref h6, .ref h7, .ref h8, .ref h9, .int 0, .int 0, .int 0, .int 0, .int 0]))]) [0, 1] (by decide +kernel) rfl
  exact W.vret hx hb hr (fun t ht2 hW => ⟨⟨(fun k => ([] : List Nat).getD k 0), rfl, trivial, by rw [ht2]; exact hP9, hD9⟩, hS.F ht2⟩) hS.2.2 dX8_init_27
def w16 (cy : Nat → ClassId) (h0 h1 : Nat) : va_W := [(h0, .inr (6, [.ref h1, .int 0]))]
set_option maxHeartbeats 4000000 in
set_option maxRecDepth 100000 in
theorem c16_X7_signAt (l : Launch) (D : va_G) (cy : Nat → ClassId) (h0 h1 : Nat) : Met l yX7_signAt (Cond.code yX7_signAt cX7_signAt 2 (some .int) :: GT) ({ frames := 0, cells := 0, slots := 0, locals := 0 }) (gP D cy (w16 cy h0 h1) [.ref h0, .int 0]) (vp_Si (fun r => r = (-1))) 0 0 (fun _ => False) := by
  refine Met.ofW (cc := cX7_signAt) (maxL := 2) (ret := some .int) (by decide) rfl ?_
  intro p e s m args below meth c s₁ B hml hv
  obtain ⟨rfl, hP, hK⟩ := hv
  have hx := B.exec
  have hb := B.bytes
  have hr := B.returns
  have hts := atoms_spec (ws := (Cond.code yX7_signAt cX7_signAt 2 (some .int) :: GT)) B.pre
  have ht : ∀ w ∈ GT, w.before _ s = true := fun w h => hts w (List.mem_cons_of_mem _ h)
  have hown : s.vm.findClass RX7 = some m.cls := findClass_of_methodNamed B.named
  have hlocks := B.notSynchronized
  have hP : va_P D classes ([(h0, .inr (6, [.ref h1, .int 0]))]) s.heap := hP
  have hl := lv_entry ([.ref h0, .int 0]) (n := 2) (Nat.le_of_ble_eq_true rfl)
  rw [lg_entry_eq]
  generalize (lg_sl ([.ref h0, .int 0]) ++ List.replicate (2 - (lg_sl ([.ref h0, .int 0])).length) Slot.unset).toArray = ls at hl ⊢
  have hl : lv_has ls 2 [(0, .ref h0), (1, .int 0)] := hl
  refine lv_iload_n hx hb dX7_signAt_0 rfl (lv_at hl 1 rfl) ?_
  refine lv_if_lt (tgt := 27) hx hb dX7_signAt_1 (by decide) (fun c1 => absurd c1 (by decide)) (fun _ => ?_)
  refine lv_iload_n hx hb dX7_signAt_4 rfl (lv_at hl 1 rfl) ?_
  refine lv_aload_n hx hb dX7_signAt_5 rfl (lv_at hl 0 rfl) ?_
  refine va_get (D := D) (ci := 6) (v := .int 0) (C := RX7) (T := TX7) (N := 2) hx hb hts i_X7 hown hK.1 hP 0 rfl rfl 1 (by decide) (ht _ kt_174) (fun _ h9 => h9) rfl dX7_signAt_6 ?_
  refine lv_icmp_ge (tgt := 27) hx hb dX7_signAt_9 (by decide) (fun _ => ?_) (fun c2 => absurd c2 (by decide))
  refine lv_iconst (v := (-1)) hx hb dX7_signAt_27 (by decide) ?_
  exact W.iret (v := (-1)) hx hb hr (fun t ht2 hW => ⟨(-1), rfl, rfl, ht2⟩) (fun q h => by cases h) dX7_signAt_28
def w17 (cy : Nat → ClassId) (h0 h1 h2 h3 : Nat) : va_W := [(h0, .inr (7, [.ref h1, .ref h2, .int 0, .int 0])), (h2, .inr (6, [.ref h3, .int 0]))]
def vw17 (cy : Nat → ClassId) (h0 h1 h2 h3 : Nat) (u : Nat → Nat) : va_W := [(h0, .inr (7, [.ref h1, .ref h2, .int 0, .int 1])), (h2, .inr (6, [.ref h3, .int 0]))]
set_option maxHeartbeats 4000000 in
set_option maxRecDepth 100000 in
theorem c17_X8_readDigit (l : Launch) (D : va_G) (cy : Nat → ClassId) (h0 h1 h2 h3 : Nat) (sz : Nat) : Met l yX8_readDigit (Cond.code yX8_readDigit cX8_readDigit 4 (some .int) :: GT) ({ frames := 1, cells := 0, slots := 0, locals := 21 }) (gN D cy (w17 cy h0 h1 h2 h3) [.ref h0, .int 1, .int 9] sz) (va_Qi (fun (r : Int32) (_ : Nat → Nat) => r = 0) (fun u t => va_P D classes (vw17 cy h0 h1 h2 h3 u) t.heap ∧ va_D (va_A (w17 cy h0 h1 h2 h3) sz) (vw17 cy h0 h1 h2 h3 u)) (va_A (w17 cy h0 h1 h2 h3) sz)) 0 0 (va_A (w17 cy h0 h1 h2 h3) sz) := by
  refine Met.ofW (cc := cX8_readDigit) (maxL := 4) (ret := some .int) (by decide) rfl ?_
  intro p e s m args below meth c s₁ B hml hv
  obtain ⟨rfl, hsz, hP, hK, hD0⟩ := hv
  have hx := B.exec
  have hb := B.bytes
  have hr := B.returns
  have hts := atoms_spec (ws := (Cond.code yX8_readDigit cX8_readDigit 4 (some .int) :: GT)) B.pre
  have ht : ∀ w ∈ GT, w.before _ s = true := fun w h => hts w (List.mem_cons_of_mem _ h)
  have hown : s.vm.findClass RX8 = some m.cls := findClass_of_methodNamed B.named
  have hlocks := B.notSynchronized
  subst hsz
  have hD := hD0.self (sz := s.heap.size)
  generalize hAe : va_A (w17 cy h0 h1 h2 h3) s.heap.size = A at hD ⊢
  have hA : ∀ q : Nat, s.heap.size ≤ q → A q := fun q h => by rw [← hAe]; exact Or.inr h
  have hS : va_S A s.heap s.heap [] := va_S.rf
  have hD : va_D A ([(h0, .inr (7, [.ref h1, .ref h2, .int 0, .int 0])), (h2, .inr (6, [.ref h3, .int 0]))]) := hD
  have hP : va_P D classes ([(h0, .inr (7, [.ref h1, .ref h2, .int 0, .int 0])), (h2, .inr (6, [.ref h3, .int 0]))]) s.heap := hP
  have hl := lv_entry ([.ref h0, .int 1, .int 9]) (n := 4) (Nat.le_of_ble_eq_true rfl)
  rw [lg_entry_eq]
  generalize (lg_sl ([.ref h0, .int 1, .int 9]) ++ List.replicate (4 - (lg_sl ([.ref h0, .int 1, .int 9])).length) Slot.unset).toArray = ls at hl ⊢
  have hl : lv_has ls 4 [(0, .ref h0), (1, .int 1), (2, .int 9)] := hl
  refine lv_aload_n hx hb dX8_readDigit_0 rfl (lv_at hl 0 rfl) ?_
  refine va_get (D := D) (ci := 7) (v := .ref h2) (C := RX8) (T := TX8) (N := 4) hx hb hts i_X8 hown hK.1 hP 0 rfl rfl 1 (by decide) (ht _ kt_393) (fun _ h9 => h9) rfl dX8_readDigit_1 ?_
  refine lv_aload_n hx hb dX8_readDigit_4 rfl (lv_at hl 0 rfl) ?_
  refine va_get (D := D) (ci := 7) (v := .int 0) (C := RX8) (T := TX8) (N := 4) hx hb hts i_X8 hown hK.1 hP 0 rfl rfl 2 (by decide) (ht _ kt_394) (fun _ h9 => h9) rfl dX8_readDigit_5 ?_
  refine vp_callSi (va_Run.run (va_runV (As := [.int 0]) (rest := []) ⟨hx, hb, hml, hown, hts⟩ (c16_X7_signAt l D cy h2 h3) (cwV 1 hts (gt_V kt_421 kt_422 kt_423 kt_6 kt_424) rfl rfl rfl (by decide +kernel) ⟨Nat.le_of_ble_eq_true rfl, Nat.le_of_ble_eq_true rfl⟩) (gP_V hK (hP.sub (ws' := (w16 cy h2 h3)) [1] rfl) hP (ci := 6) (q0 := 1) rfl rfl) rfl rfl hl.1 rfl (lv_room (Nat.le_of_ble_eq_true rfl)) dX8_readDigit_8 ⟨Nat.le_of_ble_eq_true rfl, Nat.le_of_ble_eq_true rfl⟩)) (fun r1 hw2 => ?_)
  obtain rfl : r1 = (-1) := hw2
  refine lv_bipush (v := 48) hx hb dX8_readDigit_11 (by decide) ?_
  refine lv_isub hx hb dX8_readDigit_13 ?_
  refine lz_i (-49) (by decide) ?_
  refine lv_istore_n (lv' := [(3, .int (-49)), (0, .ref h0), (1, .int 1), (2, .int 9)]) hx hb dX8_readDigit_14 rfl hl (by decide) rfl (fun ls hl => ?_)
  refine lv_aload_n hx hb dX8_readDigit_15 rfl (lv_at hl 1 rfl) ?_
  refine va_get (D := D) (ci := 7) (v := .int 0) (C := RX8) (T := TX8) (N := 4) hx hb hts i_X8 hown hK.1 hP 0 rfl rfl 3 (by decide) (ht _ kt_396) (fun _ h9 => h9) rfl dX8_readDigit_16 ?_
  refine lv_if_ne (tgt := 32) hx hb dX8_readDigit_19 (by decide) (fun c3 => absurd c3 (by decide)) (fun _ => ?_)
  refine lv_iload_n hx hb dX8_readDigit_22 rfl (lv_at hl 0 rfl) ?_
  refine lv_iload_n hx hb dX8_readDigit_23 rfl (lv_at hl 2 rfl) ?_
  refine lv_icmp_lt (tgt := 32) hx hb dX8_readDigit_24 (by decide) (fun _ => ?_) (fun c4 => absurd c4 (by decide))
  refine lv_aload_n hx hb dX8_readDigit_32 rfl (lv_at hl 1 rfl) ?_
  refine lv_iconst (v := 1) hx hb dX8_readDigit_33 (by decide) ?_
  refine va_put (D := D) (ci := 7) (v := .int 1) (ty := .boolean) (C := RX8) (T := TX8) (N := 4) hx hb hts i_X8 tyX8 tyX8_ok nmX8 hown hK.1 hP hD hS 0 rfl rfl 3 (by decide) (ht _ kt_396) (fun _ h9 => h9) rfl (by decide +kernel) rfl rfl (Nat.le_of_ble_eq_true rfl) dX8_readDigit_34 (fun H locs hP hD hS => ?_)
  have hP : va_P D classes ([(h0, .inr (7, [.ref h1, .ref h2, .int 0, .int 1])), (h2, .inr (6, [.ref h3, .int 0]))]) H := hP
  have hD : va_D A ([(h0, .inr (7, [.ref h1, .ref h2, .int 0, .int 1])), (h2, .inr (6, [.ref h3, .int 0]))]) := hD
  refine lv_iconst (v := 0) hx hb dX8_readDigit_37 (by decide) ?_
  refine W.widen (k := 0) (n := 0) (Nat.le_of_ble_eq_true rfl) (Nat.le_of_ble_eq_true rfl) ?_
  have hP9 := hP.sub (ws' := [(h0, .inr (7, [.ref h1, .ref h2, .int 0, .int 1])), (h2, .inr (6, [.ref h3, .int 0]))]) [0, 1] rfl
  have hD9 := hD.sub (ws' := [(h0, .inr (7, [.ref h1, .ref h2, .int 0, .int 1])), (h2, .inr (6, [.ref h3, .int 0]))]) [0, 1] (by decide +kernel) rfl
  exact W.iret (v := 0) hx hb hr (fun t ht2 hW => ⟨⟨0, (fun k => ([] : List Nat).getD k 0), rfl, rfl, by rw [ht2]; exact hP9, hD9⟩, hS.F ht2⟩) hS.2.2 dX8_readDigit_38
def w18 (cy : Nat → ClassId) (h0 h1 h2 h3 : Nat) : va_W := [(h0, .inr (7, [.ref h1, .ref h2, .int 0, .int 0])), (h2, .inr (6, [.ref h3, .int 0]))]
def vw18 (cy : Nat → ClassId) (h0 h1 h2 h3 : Nat) (u : Nat → Nat) : va_W := [(h0, .inr (7, [.ref h1, .ref h2, .int 0, .int 1])), (h2, .inr (6, [.ref h3, .int 0]))]
set_option maxHeartbeats 4000000 in
set_option maxRecDepth 100000 in
theorem c18_X8_readNumber (l : Launch) (D : va_G) (cy : Nat → ClassId) (h0 h1 h2 h3 : Nat) (sz : Nat) : Met l yX8_readNumber (Cond.code yX8_readNumber cX8_readNumber 5 (some .int) :: GT) ({ frames := 2, cells := 0, slots := 0, locals := 44 }) (gN D cy (w18 cy h0 h1 h2 h3) [.ref h0, .int 1, .int 99] sz) (va_Qi (fun (r : Int32) (_ : Nat → Nat) => r = 0) (fun u t => va_P D classes (vw18 cy h0 h1 h2 h3 u) t.heap ∧ va_D (va_A (w18 cy h0 h1 h2 h3) sz) (vw18 cy h0 h1 h2 h3 u)) (va_A (w18 cy h0 h1 h2 h3) sz)) 0 0 (va_A (w18 cy h0 h1 h2 h3) sz) := by
  refine Met.ofW (cc := cX8_readNumber) (maxL := 5) (ret := some .int) (by decide) rfl ?_
  intro p e s m args below meth c s₁ B hml hv
  obtain ⟨rfl, hsz, hP, hK, hD0⟩ := hv
  have hx := B.exec
  have hb := B.bytes
  have hr := B.returns
  have hts := atoms_spec (ws := (Cond.code yX8_readNumber cX8_readNumber 5 (some .int) :: GT)) B.pre
  have ht : ∀ w ∈ GT, w.before _ s = true := fun w h => hts w (List.mem_cons_of_mem _ h)
  have hown : s.vm.findClass RX8 = some m.cls := findClass_of_methodNamed B.named
  have hlocks := B.notSynchronized
  subst hsz
  have hD := hD0.self (sz := s.heap.size)
  generalize hAe : va_A (w18 cy h0 h1 h2 h3) s.heap.size = A at hD ⊢
  have hA : ∀ q : Nat, s.heap.size ≤ q → A q := fun q h => by rw [← hAe]; exact Or.inr h
  have hS : va_S A s.heap s.heap [] := va_S.rf
  have hD : va_D A ([(h0, .inr (7, [.ref h1, .ref h2, .int 0, .int 0])), (h2, .inr (6, [.ref h3, .int 0]))]) := hD
  have hP : va_P D classes ([(h0, .inr (7, [.ref h1, .ref h2, .int 0, .int 0])), (h2, .inr (6, [.ref h3, .int 0]))]) s.heap := hP
  have hl := lv_entry ([.ref h0, .int 1, .int 99]) (n := 5) (Nat.le_of_ble_eq_true rfl)
  rw [lg_entry_eq]
  generalize (lg_sl ([.ref h0, .int 1, .int 99]) ++ List.replicate (5 - (lg_sl ([.ref h0, .int 1, .int 99])).length) Slot.unset).toArray = ls at hl ⊢
  have hl : lv_has ls 5 [(0, .ref h0), (1, .int 1), (2, .int 99)] := hl
  refine lv_aload_n hx hb dX8_readNumber_0 rfl (lv_at hl 0 rfl) ?_
  refine lv_iload_n hx hb dX8_readNumber_1 rfl (lv_at hl 1 rfl) ?_
  refine lv_iload_n hx hb dX8_readNumber_2 rfl (lv_at hl 2 rfl) ?_
  refine lv_bipush (v := 9) hx hb dX8_readNumber_3 (by decide) ?_
  refine va_mmin hx hb (hml.trans hl.1.symm) hown (ht _ kt_414) (ht _ kt_415) (ht _ kt_12) (ht _ kt_416) (Nat.le_of_ble_eq_true rfl) (Nat.le_of_ble_eq_true rfl) (Nat.le_of_ble_eq_true rfl) (Nat.le_of_ble_eq_true rfl) dX8_readNumber_5 ?_
  refine lz_i 9 (by decide) ?_
  have hPc := hP.sub (ws' := (w17 cy h0 h1 h2 h3)) [0, 1] rfl
  have hDc := hD.sub (ws' := (w17 cy h0 h1 h2 h3)) [0, 1] (by decide +kernel) rfl
  have hFc := va_free (wc := (w17 cy h0 h1 h2 h3)) hD hS hA [0, 1] rfl
  refine va_calli (va_runV (As := [.int 1, .int 9]) (rest := []) ⟨hx, hb, hml, hown, hts⟩ (c17_X8_readDigit l D cy h0 h1 h2 h3 s.heap.size) (cwV 2 hts (gt_V kt_417 kt_419 kp_3 kt_11 kt_420) rfl rfl rfl (by decide +kernel) ⟨Nat.le_of_ble_eq_true rfl, Nat.le_of_ble_eq_true rfl⟩) (gN_V hK hPc hDc hP (ci := 7) (q0 := 0) rfl rfl) rfl rfl hl.1 rfl (lv_room (Nat.le_of_ble_eq_true rfl)) dX8_readNumber_8 ⟨Nat.le_of_ble_eq_true rfl, Nat.le_of_ble_eq_true rfl⟩) hS (fun q _ h => hFc q h) hFc (fun r1 u3 t H1 locs ht2 hvm hw2 hB hz1 hk1 hS => ?_)
  obtain ⟨hP1, hD1⟩ := hB
  rw [ht2] at hP1
  obtain ⟨hP, hD⟩ := va_join (wr := ([] : va_W)) (w1 := (vw17 cy h0 h1 h2 h3 u3)) hP hD [0, 1] [] rfl rfl (by decide +kernel) (by decide +kernel) hk1 hFc hP1 hD1
  generalize H1 = H at hP hS ⊢
  have hP : va_P D classes ([(h0, .inr (7, [.ref h1, .ref h2, .int 0, .int 1])), (h2, .inr (6, [.ref h3, .int 0]))]) H := hP
  have hD : va_D A ([(h0, .inr (7, [.ref h1, .ref h2, .int 0, .int 1])), (h2, .inr (6, [.ref h3, .int 0]))]) := hD
  refine W.widen (k := 0) (n := 0) (Nat.le_of_ble_eq_true rfl) (Nat.le_of_ble_eq_true rfl) ?_
  obtain rfl : r1 = 0 := hw2
  refine lv_istore_n (lv' := [(3, .int 0), (0, .ref h0), (1, .int 1), (2, .int 99)]) hx hb dX8_readNumber_11 rfl hl (by decide) rfl (fun ls hl => ?_)
  refine lv_iconst (v := 0) hx hb dX8_readNumber_12 (by decide) ?_
  refine lv_istore (lv' := [(4, .int 0), (3, .int 0), (0, .ref h0), (1, .int 1), (2, .int 99)]) hx hb dX8_readNumber_13 hl (by decide) rfl (fun ls hl => ?_)
  refine lv_iload hx hb dX8_readNumber_15 (lv_at hl 0 rfl) ?_
  refine lv_iconst (v := 2) hx hb dX8_readNumber_17 (by decide) ?_
  refine lv_icmp_ge (tgt := 70) hx hb dX8_readNumber_18 (by decide) (fun c4 => absurd c4 (by decide)) (fun _ => ?_)
  refine lv_iload_n hx hb dX8_readNumber_21 rfl (lv_at hl 1 rfl) ?_
  refine lv_if_le (tgt := 70) hx hb dX8_readNumber_22 (by decide) (fun _ => ?_) (fun c5 => absurd c5 (by decide))
  refine lv_iload_n hx hb dX8_readNumber_70 rfl (lv_at hl 1 rfl) ?_
  refine W.widen (k := 0) (n := 0) (Nat.le_of_ble_eq_true rfl) (Nat.le_of_ble_eq_true rfl) ?_
  have hP9 := hP.sub (ws' := [(h0, .inr (7, [.ref h1, .ref h2, .int 0, .int 1])), (h2, .inr (6, [.ref h3, .int 0]))]) [0, 1] rfl
  have hD9 := hD.sub (ws' := [(h0, .inr (7, [.ref h1, .ref h2, .int 0, .int 1])), (h2, .inr (6, [.ref h3, .int 0]))]) [0, 1] (by decide +kernel) rfl
  exact W.iret (v := 0) hx hb hr (fun t ht2 hW => ⟨⟨0, (fun k => ([] : List Nat).getD k 0), rfl, rfl, by rw [ht2]; exact hP9, hD9⟩, hS.F ht2⟩) hS.2.2 dX8_readNumber_71
def w19 (cy : Nat → ClassId) (h0 h1 h2 : Nat) : va_W := [(h0, .inr (7, [.ref h1, .ref h2, .int 0, .int 1]))]
def vw19 (cy : Nat → ClassId) (h0 h1 h2 : Nat) (u : Nat → Nat) : va_W := [(h0, .inr (7, [.ref h1, .ref h2, .int 0, .int 1]))]
set_option maxHeartbeats 4000000 in
set_option maxRecDepth 100000 in
theorem c19_X8_expect (l : Launch) (D : va_G) (cy : Nat → ClassId) (h0 h1 h2 : Nat) (sz : Nat) : Met l yX8_expect (Cond.code yX8_expect cX8_expect 2 (none) :: GT) ({ frames := 0, cells := 0, slots := 0, locals := 0 }) (gN D cy (w19 cy h0 h1 h2) [.ref h0, .int 58] sz) (va_Qv (fun _ : Nat → Nat => True) (fun u t => va_P D classes (vw19 cy h0 h1 h2 u) t.heap ∧ va_D (va_A (w19 cy h0 h1 h2) sz) (vw19 cy h0 h1 h2 u)) (va_A (w19 cy h0 h1 h2) sz)) 0 0 (va_A (w19 cy h0 h1 h2) sz) := by
  refine Met.ofW (cc := cX8_expect) (maxL := 2) (ret := none) (by decide) rfl ?_
  intro p e s m args below meth c s₁ B hml hv
  obtain ⟨rfl, hsz, hP, hK, hD0⟩ := hv
  have hx := B.exec
  have hb := B.bytes
  have hr := B.returns
  have hts := atoms_spec (ws := (Cond.code yX8_expect cX8_expect 2 (none) :: GT)) B.pre
  have ht : ∀ w ∈ GT, w.before _ s = true := fun w h => hts w (List.mem_cons_of_mem _ h)
  have hown : s.vm.findClass RX8 = some m.cls := findClass_of_methodNamed B.named
  have hlocks := B.notSynchronized
  subst hsz
  have hD := hD0.self (sz := s.heap.size)
  generalize hAe : va_A (w19 cy h0 h1 h2) s.heap.size = A at hD ⊢
  have hA : ∀ q : Nat, s.heap.size ≤ q → A q := fun q h => by rw [← hAe]; exact Or.inr h
  have hS : va_S A s.heap s.heap [] := va_S.rf
  have hD : va_D A ([(h0, .inr (7, [.ref h1, .ref h2, .int 0, .int 1]))]) := hD
  have hP : va_P D classes ([(h0, .inr (7, [.ref h1, .ref h2, .int 0, .int 1]))]) s.heap := hP
  have hl := lv_entry ([.ref h0, .int 58]) (n := 2) (Nat.le_of_ble_eq_true rfl)
  rw [lg_entry_eq]
  generalize (lg_sl ([.ref h0, .int 58]) ++ List.replicate (2 - (lg_sl ([.ref h0, .int 58])).length) Slot.unset).toArray = ls at hl ⊢
  have hl : lv_has ls 2 [(0, .ref h0), (1, .int 58)] := hl
  refine lv_aload_n hx hb dX8_expect_0 rfl (lv_at hl 0 rfl) ?_
  refine va_get (D := D) (ci := 7) (v := .int 1) (C := RX8) (T := TX8) (N := 4) hx hb hts i_X8 hown hK.1 hP 0 rfl rfl 3 (by decide) (ht _ kt_396) (fun _ h9 => h9) rfl dX8_expect_1 ?_
  refine lv_if_ne (tgt := 22) hx hb dX8_expect_4 (by decide) (fun _ => ?_) (fun c1 => absurd c1 (by decide))
  refine lv_aload_n hx hb dX8_expect_22 rfl (lv_at hl 0 rfl) ?_
  refine lv_iconst (v := 1) hx hb dX8_expect_23 (by decide) ?_
  refine va_put (D := D) (ci := 7) (v := .int 1) (ty := .boolean) (C := RX8) (T := TX8) (N := 4) hx hb hts i_X8 tyX8 tyX8_ok nmX8 hown hK.1 hP hD hS 0 rfl rfl 3 (by decide) (ht _ kt_396) (fun _ h9 => h9) rfl (by decide +kernel) rfl rfl (Nat.le_of_ble_eq_true rfl) dX8_expect_24 (fun H locs hP hD hS => ?_)
  have hP : va_P D classes ([(h0, .inr (7, [.ref h1, .ref h2, .int 0, .int 1]))]) H := hP
  have hD : va_D A ([(h0, .inr (7, [.ref h1, .ref h2, .int 0, .int 1]))]) := hD
  refine W.widen (k := 0) (n := 0) (Nat.le_of_ble_eq_true rfl) (Nat.le_of_ble_eq_true rfl) ?_
  have hP9 := hP.sub (ws' := [(h0, .inr (7, [.ref h1, .ref h2, .int 0, .int 1]))]) [0] rfl
  have hD9 := hD.sub (ws' := [(h0, .inr (7, [.ref h1, .ref h2, .int 0, .int 1]))]) [0] (by decide +kernel) rfl
  exact W.vret hx hb hr (fun t ht2 hW => ⟨⟨(fun k => ([] : List Nat).getD k 0), rfl, trivial, by rw [ht2]; exact hP9, hD9⟩, hS.F ht2⟩) hS.2.2 dX8_expect_27
def w20 (cy : Nat → ClassId) (h0 h1 h2 h3 : Nat) : va_W := [(h0, .inr (7, [.ref h1, .ref h2, .int 0, .int 1])), (h2, .inr (6, [.ref h3, .int 0]))]
def vw20 (cy : Nat → ClassId) (h0 h1 h2 h3 : Nat) (u : Nat → Nat) : va_W := [(h0, .inr (7, [.ref h1, .ref h2, .int 0, .int 1])), (h2, .inr (6, [.ref h3, .int 0]))]
set_option maxHeartbeats 4000000 in
set_option maxRecDepth 100000 in
theorem c20_X8_readDigit (l : Launch) (D : va_G) (cy : Nat → ClassId) (h0 h1 h2 h3 : Nat) (sz : Nat) : Met l yX8_readDigit (Cond.code yX8_readDigit cX8_readDigit 4 (some .int) :: GT) ({ frames := 1, cells := 0, slots := 0, locals := 21 }) (gN D cy (w20 cy h0 h1 h2 h3) [.ref h0, .int 0, .int (-1)] sz) (va_Qi (fun (r : Int32) (_ : Nat → Nat) => r = 0) (fun u t => va_P D classes (vw20 cy h0 h1 h2 h3 u) t.heap ∧ va_D (va_A (w20 cy h0 h1 h2 h3) sz) (vw20 cy h0 h1 h2 h3 u)) (va_A (w20 cy h0 h1 h2 h3) sz)) 0 0 (va_A (w20 cy h0 h1 h2 h3) sz) := by
  refine Met.ofW (cc := cX8_readDigit) (maxL := 4) (ret := some .int) (by decide) rfl ?_
  intro p e s m args below meth c s₁ B hml hv
  obtain ⟨rfl, hsz, hP, hK, hD0⟩ := hv
  have hx := B.exec
  have hb := B.bytes
  have hr := B.returns
  have hts := atoms_spec (ws := (Cond.code yX8_readDigit cX8_readDigit 4 (some .int) :: GT)) B.pre
  have ht : ∀ w ∈ GT, w.before _ s = true := fun w h => hts w (List.mem_cons_of_mem _ h)
  have hown : s.vm.findClass RX8 = some m.cls := findClass_of_methodNamed B.named
  have hlocks := B.notSynchronized
  subst hsz
  have hD := hD0.self (sz := s.heap.size)
  generalize hAe : va_A (w20 cy h0 h1 h2 h3) s.heap.size = A at hD ⊢
  have hA : ∀ q : Nat, s.heap.size ≤ q → A q := fun q h => by rw [← hAe]; exact Or.inr h
  have hS : va_S A s.heap s.heap [] := va_S.rf
  have hD : va_D A ([(h0, .inr (7, [.ref h1, .ref h2, .int 0, .int 1])), (h2, .inr (6, [.ref h3, .int 0]))]) := hD
  have hP : va_P D classes ([(h0, .inr (7, [.ref h1, .ref h2, .int 0, .int 1])), (h2, .inr (6, [.ref h3, .int 0]))]) s.heap := hP
  have hl := lv_entry ([.ref h0, .int 0, .int (-1)]) (n := 4) (Nat.le_of_ble_eq_true rfl)
  rw [lg_entry_eq]
  generalize (lg_sl ([.ref h0, .int 0, .int (-1)]) ++ List.replicate (4 - (lg_sl ([.ref h0, .int 0, .int (-1)])).length) Slot.unset).toArray = ls at hl ⊢
  have hl : lv_has ls 4 [(0, .ref h0), (1, .int 0), (2, .int (-1))] := hl
  refine lv_aload_n hx hb dX8_readDigit_0 rfl (lv_at hl 0 rfl) ?_
  refine va_get (D := D) (ci := 7) (v := .ref h2) (C := RX8) (T := TX8) (N := 4) hx hb hts i_X8 hown hK.1 hP 0 rfl rfl 1 (by decide) (ht _ kt_393) (fun _ h9 => h9) rfl dX8_readDigit_1 ?_
  refine lv_aload_n hx hb dX8_readDigit_4 rfl (lv_at hl 0 rfl) ?_
  refine va_get (D := D) (ci := 7) (v := .int 0) (C := RX8) (T := TX8) (N := 4) hx hb hts i_X8 hown hK.1 hP 0 rfl rfl 2 (by decide) (ht _ kt_394) (fun _ h9 => h9) rfl dX8_readDigit_5 ?_
  refine vp_callSi (va_Run.run (va_runV (As := [.int 0]) (rest := []) ⟨hx, hb, hml, hown, hts⟩ (c16_X7_signAt l D cy h2 h3) (cwV 1 hts (gt_V kt_421 kt_422 kt_423 kt_6 kt_424) rfl rfl rfl (by decide +kernel) ⟨Nat.le_of_ble_eq_true rfl, Nat.le_of_ble_eq_true rfl⟩) (gP_V hK (hP.sub (ws' := (w16 cy h2 h3)) [1] rfl) hP (ci := 6) (q0 := 1) rfl rfl) rfl rfl hl.1 rfl (lv_room (Nat.le_of_ble_eq_true rfl)) dX8_readDigit_8 ⟨Nat.le_of_ble_eq_true rfl, Nat.le_of_ble_eq_true rfl⟩)) (fun r1 hw2 => ?_)
  obtain rfl : r1 = (-1) := hw2
  refine lv_bipush (v := 48) hx hb dX8_readDigit_11 (by decide) ?_
  refine lv_isub hx hb dX8_readDigit_13 ?_
  refine lz_i (-49) (by decide) ?_
  refine lv_istore_n (lv' := [(3, .int (-49)), (0, .ref h0), (1, .int 0), (2, .int (-1))]) hx hb dX8_readDigit_14 rfl hl (by decide) rfl (fun ls hl => ?_)
  refine lv_aload_n hx hb dX8_readDigit_15 rfl (lv_at hl 1 rfl) ?_
  refine va_get (D := D) (ci := 7) (v := .int 1) (C := RX8) (T := TX8) (N := 4) hx hb hts i_X8 hown hK.1 hP 0 rfl rfl 3 (by decide) (ht _ kt_396) (fun _ h9 => h9) rfl dX8_readDigit_16 ?_
  refine lv_if_ne (tgt := 32) hx hb dX8_readDigit_19 (by decide) (fun _ => ?_) (fun c3 => absurd c3 (by decide))
  refine lv_aload_n hx hb dX8_readDigit_32 rfl (lv_at hl 1 rfl) ?_
  refine lv_iconst (v := 1) hx hb dX8_readDigit_33 (by decide) ?_
  refine va_put (D := D) (ci := 7) (v := .int 1) (ty := .boolean) (C := RX8) (T := TX8) (N := 4) hx hb hts i_X8 tyX8 tyX8_ok nmX8 hown hK.1 hP hD hS 0 rfl rfl 3 (by decide) (ht _ kt_396) (fun _ h9 => h9) rfl (by decide +kernel) rfl rfl (Nat.le_of_ble_eq_true rfl) dX8_readDigit_34 (fun H locs hP hD hS => ?_)
  have hP : va_P D classes ([(h0, .inr (7, [.ref h1, .ref h2, .int 0, .int 1])), (h2, .inr (6, [.ref h3, .int 0]))]) H := hP
  have hD : va_D A ([(h0, .inr (7, [.ref h1, .ref h2, .int 0, .int 1])), (h2, .inr (6, [.ref h3, .int 0]))]) := hD
  refine lv_iconst (v := 0) hx hb dX8_readDigit_37 (by decide) ?_
  refine W.widen (k := 0) (n := 0) (Nat.le_of_ble_eq_true rfl) (Nat.le_of_ble_eq_true rfl) ?_
  have hP9 := hP.sub (ws' := [(h0, .inr (7, [.ref h1, .ref h2, .int 0, .int 1])), (h2, .inr (6, [.ref h3, .int 0]))]) [0, 1] rfl
  have hD9 := hD.sub (ws' := [(h0, .inr (7, [.ref h1, .ref h2, .int 0, .int 1])), (h2, .inr (6, [.ref h3, .int 0]))]) [0, 1] (by decide +kernel) rfl
  exact W.iret (v := 0) hx hb hr (fun t ht2 hW => ⟨⟨0, (fun k => ([] : List Nat).getD k 0), rfl, rfl, by rw [ht2]; exact hP9, hD9⟩, hS.F ht2⟩) hS.2.2 dX8_readDigit_38
