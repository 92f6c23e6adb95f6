set_option maxHeartbeats 4000000 in
set_option maxRecDepth 100000 in
theorem law_case_22 {p : Program} {l : Launch} {e : Env} {s : State} {m : MethodId} {below : List Frame} {meth : Method} {c : Code} {b : Nat} {xs : Nat → Int32} {A : Nat → Prop} {H : Heap} {locs : List Loc} {ls : Array Slot} {D : va_G} {cy : Nat → ClassId} {x a0 a1 a2 a3 a4 a5 a6 a7 a8 a9 a10 a11 a12 a13 a14 a15 a16 a17 a18 a19 a20 a21 a22 a23 a24 a25 a26 a27 a28 a29 a30 a31 a32 a33 a34 a35 a36 a37 a38 md mM mL mS mC mR mJ mA mD mT : Nat} {L : List Nat} {g : Nat → Option Nat} (hx : p.tables.exec = Jvm.exec) (hb : c.code = code) (hr : meth.sig.returnType = ret) (hlocks : meth.locks = false) (hml : c.maxLocals = 4) (hown : s.vm.findClass R_law = some m.cls) (hts : ∀ w ∈ lw_tbl, w.before #[Value.ref b] s = true) (hX : va_X b 6 xs s s.heap) (hbl : b < s.heap.size) (hbA : ¬ A b) (hAf : ∀ q, A q → s.heap.size ≤ q) (hA : ∀ q : Nat, s.heap.size ≤ q → A q) (hK : KK D cy s) (hg : okG g L 26) (hP : va_P D classes (wLaw cy x a0 a1 a2 a3 a4 a5 a6 a7 a8 a9 a10 a11 a12 a13 a14 a15 a16 a17 a18 a19 a20 a21 a22 a23 a24 a25 a26 a27 a28 a29 a30 a31 a32 a33 a34 a35 a36 a37 a38 md mM mL mS mC mR mJ mA mD mT L g) H) (hD : va_D A (wLaw cy x a0 a1 a2 a3 a4 a5 a6 a7 a8 a9 a10 a11 a12 a13 a14 a15 a16 a17 a18 a19 a20 a21 a22 a23 a24 a25 a26 a27 a28 a29 a30 a31 a32 a33 a34 a35 a36 a37 a38 md mM mL mS mC mR mJ mA mD mT L g)) (hS : va_S A s.heap H locs) (hl : lv_has ls 4 [(3, .int 0), (2, .ref md), (1, .ref x), (0, .ref b)]) : W p l e room_1 s m #[Value.ref b] below meth c H locs 76 5684 (lw_Z below #[Value.ref b] s) (F0 m 773 ls []) := by
  have ht : ∀ w ∈ GT, w.before #[Value.ref b] s = true := fun w h => hts w (List.mem_filter.mp h).1
  have hP : va_P D classes ([(x, .inr (8, [.ref a0, .null, .null])), (a0, .inr (4, [.ref a1, .int 0, .ref a14, .int 0, .ref a27, .ref a29, .ref a31, .ref a33, .ref a35, .ref a37, .int 0, .int 0, .int 0, .int 0, .int 0])), (a1, .inl (cy 3, 3, .inr (.inr (.inr (.inr (va_up (va_up (va_up (fun _ => none) 0 (some a2)) 1 (some a6)) 2 (some a10))))))), (a2, .inr (3, [.int 0, .int 8, .int 0, .int 0, .int 0, .int 0, .int 0, .ref a3, .ref a4, .ref a5])), (a3, .inl (cy 0, 16, .inl (fun _ => 0))), (a4, .inl (cy 0, 16, .inl (fun _ => 0))), (a5, .inl (cy 0, 48, .inl (fun _ => 0))), (a6, .inr (3, [.int 0, .int 8, .int 0, .int 0, .int 0, .int 0, .int 0, .ref a7, .ref a8, .ref a9])), (a7, .inl (cy 0, 16, .inl (fun _ => 0))), (a8, .inl (cy 0, 16, .inl (fun _ => 0))), (a9, .inl (cy 0, 48, .inl (fun _ => 0))), (a10, .inr (3, [.int 0, .int 8, .int 0, .int 0, .int 0, .int 0, .int 0, .ref a11, .ref a12, .ref a13])), (a11, .inl (cy 0, 16, .inl (fun _ => 0))), (a12, .inl (cy 0, 16, .inl (fun _ => 0))), (a13, .inl (cy 0, 48, .inl (fun _ => 0))), (a14, .inl (cy 4, 12, .inr (.inr (.inr (.inr (va_up (va_up (va_up (va_up (va_up (va_up (va_up (va_up (va_up (va_up (va_up (va_up (fun _ => none) 0 (some a15)) 1 (some a16)) 2 (some a17)) 3 (some a18)) 4 (some a19)) 5 (some a20)) 6 (some a21)) 7 (some a22)) 8 (some a23)) 9 (some a24)) 10 (some a25)) 11 (some a26))))))), (a15, .inr (2, [.int 0, .int 0, .int 0, .int 0, .int 0, .int 0, .int 0, .int 0, .int 0, .int 0, .int 0, .int 0])), (a16, .inr (2, [.int 0, .int 0, .int 0, .int 0, .int 0, .int 0, .int 0, .int 0, .int 0, .int 0, .int 0, .int 0])), (a17, .inr (2, [.int 0, .int 0, .int 0, .int 0, .int 0, .int 0, .int 0, .int 0, .int 0, .int 0, .int 0, .int 0])), (a18, .inr (2, [.int 0, .int 0, .int 0, .int 0, .int 0, .int 0, .int 0, .int 0, .int 0, .int 0, .int 0, .int 0])), (a19, .inr (2, [.int 0, .int 0, .int 0, .int 0, .int 0, .int 0, .int 0, .int 0, .int 0, .int 0, .int 0, .int 0])), (a20, .inr (2, [.int 0, .int 0, .int 0, .int 0, .int 0, .int 0, .int 0, .int 0, .int 0, .int 0, .int 0, .int 0])), (a21, .inr (2, [.int 0, .int 0, .int 0, .int 0, .int 0, .int 0, .int 0, .int 0, .int 0, .int 0, .int 0, .int 0])), (a22, .inr (2, [.int 0, .int 0, .int 0, .int 0, .int 0, .int 0, .int 0, .int 0, .int 0, .int 0, .int 0, .int 0])), (a23, .inr (2, [.int 0, .int 0, .int 0, .int 0, .int 0, .int 0, .int 0, .int 0, .int 0, .int 0, .int 0, .int 0])), (a24, .inr (2, [.int 0, .int 0, .int 0, .int 0, .int 0, .int 0, .int 0, .int 0, .int 0, .int 0, .int 0, .int 0])), (a25, .inr (2, [.int 0, .int 0, .int 0, .int 0, .int 0, .int 0, .int 0, .int 0, .int 0, .int 0, .int 0, .int 0])), (a26, .inr (2, [.int 0, .int 0, .int 0, .int 0, .int 0, .int 0, .int 0, .int 0, .int 0, .int 0, .int 0, .int 0])), (a27, .inr (1, [.ref a28, .int 0, .int 0])), (a28, .inl (cy 1, 16, .inr (.inl (fun _ => 0)))), (a29, .inr (1, [.ref a30, .int 0, .int 0])), (a30, .inl (cy 1, 16, .inr (.inl (fun _ => 0)))), (a31, .inr (1, [.ref a32, .int 0, .int 0])), (a32, .inl (cy 1, 16, .inr (.inl (fun _ => 0)))), (a33, .inr (1, [.ref a34, .int 0, .int 0])), (a34, .inl (cy 1, 16, .inr (.inl (fun _ => 0)))), (a35, .inr (6, [.ref a36, .int 0])), (a36, .inl (cy 2, 40, .inl (fun _ => 0))), (a37, .inr (0, [.ref a38, .int 0])), (a38, .inl (cy 0, 32, .inl (fun _ => 0))), (md, .inr (9, [.ref mM, .ref mL, .ref mS, .null, .int 0, .ref mC, .int 0, .int 0, .int 0, .ref mR, .ref mJ, .ref mA, .int 0, .int 0, .int 0, .ref mD, .ref mT])), (mM, .inl (cy 0, 559, .inl (fun _ => 0))), (mL, .inl (cy 5, 26, .inr (.inr (.inr (.inr g))))), (mS, .inl (cy 0, 559, .inl (fun _ => 0))), (mC, .inl (cy 0, 8, .inl (fun _ => 0))), (mR, .inl (cy 0, 10, .inl (fun _ => 0))), (mJ, .inl (cy 0, 8, .inl (fun _ => 0))), (mA, .inl (cy 0, 8, .inl (fun _ => 0))), (mD, .inl (cy 0, 559, .inl (fun _ => 0))), (mT, .inl (cy 0, 3, .inl (fun _ => 0)))] ++ PL cy L) H := hP
  have hD : va_D A ([(x, .inr (8, [.ref a0, .null, .null])), (a0, .inr (4, [.ref a1, .int 0, .ref a14, .int 0, .ref a27, .ref a29, .ref a31, .ref a33, .ref a35, .ref a37, .int 0, .int 0, .int 0, .int 0, .int 0])), (a1, .inl (cy 3, 3, .inr (.inr (.inr (.inr (va_up (va_up (va_up (fun _ => none) 0 (some a2)) 1 (some a6)) 2 (some a10))))))), (a2, .inr (3, [.int 0, .int 8, .int 0, .int 0, .int 0, .int 0, .int 0, .ref a3, .ref a4, .ref a5])), (a3, .inl (cy 0, 16, .inl (fun _ => 0))), (a4, .inl (cy 0, 16, .inl (fun _ => 0))), (a5, .inl (cy 0, 48, .inl (fun _ => 0))), (a6, .inr (3, [.int 0, .int 8, .int 0, .int 0, .int 0, .int 0, .int 0, .ref a7, .ref a8, .ref a9])), (a7, .inl (cy 0, 16, .inl (fun _ => 0))), (a8, .inl (cy 0, 16, .inl (fun _ => 0))), (a9, .inl (cy 0, 48, .inl (fun _ => 0))), (a10, .inr (3, [.int 0, .int 8, .int 0, .int 0, .int 0, .int 0, .int 0, .ref a11, .ref a12, .ref a13])), (a11, .inl (cy 0, 16, .inl (fun _ => 0))), (a12, .inl (cy 0, 16, .inl (fun _ => 0))), (a13, .inl (cy 0, 48, .inl (fun _ => 0))), (a14, .inl (cy 4, 12, .inr (.inr (.inr (.inr (va_up (va_up (va_up (va_up (va_up (va_up (va_up (va_up (va_up (va_up (va_up (va_up (fun _ => none) 0 (some a15)) 1 (some a16)) 2 (some a17)) 3 (some a18)) 4 (some a19)) 5 (some a20)) 6 (some a21)) 7 (some a22)) 8 (some a23)) 9 (some a24)) 10 (some a25)) 11 (some a26))))))), (a15, .inr (2, [.int 0, .int 0, .int 0, .int 0, .int 0, .int 0, .int 0, .int 0, .int 0, .int 0, .int 0, .int 0])), (a16, .inr (2, [.int 0, .int 0, .int 0, .int 0, .int 0, .int 0, .int 0, .int 0, .int 0, .int 0, .int 0, .int 0])), (a17, .inr (2, [.int 0, .int 0, .int 0, .int 0, .int 0, .int 0, .int 0, .int 0, .int 0, .int 0, .int 0, .int 0])), (a18, .inr (2, [.int 0, .int 0, .int 0, .int 0, .int 0, .int 0, .int 0, .int 0, .int 0, .int 0, .int 0, .int 0])), (a19, .inr (2, [.int 0, .int 0, .int 0, .int 0, .int 0, .int 0, .int 0, .int 0, .int 0, .int 0, .int 0, .int 0])), (a20, .inr (2, [.int 0, .int 0, .int 0, .int 0, .int 0, .int 0, .int 0, .int 0, .int 0, .int 0, .int 0, .int 0])), (a21, .inr (2, [.int 0, .int 0, .int 0, .int 0, .int 0, .int 0, .int 0, .int 0, .int 0, .int 0, .int 0, .int 0])), (a22, .inr (2, [.int 0, .int 0, .int 0, .int 0, .int 0, .int 0, .int 0, .int 0, .int 0, .int 0, .int 0, .int 0])), (a23, .inr (2, [.int 0, .int 0, .int 0, .int 0, .int 0, .int 0, .int 0, .int 0, .int 0, .int 0, .int 0, .int 0])), (a24, .inr (2, [.int 0, .int 0, .int 0, .int 0, .int 0, .int 0, .int 0, .int 0, .int 0, .int 0, .int 0, .int 0])), (a25, .inr (2, [.int 0, .int 0, .int 0, .int 0, .int 0, .int 0, .int 0, .int 0, .int 0, .int 0, .int 0, .int 0])), (a26, .inr (2, [.int 0, .int 0, .int 0, .int 0, .int 0, .int 0, .int 0, .int 0, .int 0, .int 0, .int 0, .int 0])), (a27, .inr (1, [.ref a28, .int 0, .int 0])), (a28, .inl (cy 1, 16, .inr (.inl (fun _ => 0)))), (a29, .inr (1, [.ref a30, .int 0, .int 0])), (a30, .inl (cy 1, 16, .inr (.inl (fun _ => 0)))), (a31, .inr (1, [.ref a32, .int 0, .int 0])), (a32, .inl (cy 1, 16, .inr (.inl (fun _ => 0)))), (a33, .inr (1, [.ref a34, .int 0, .int 0])), (a34, .inl (cy 1, 16, .inr (.inl (fun _ => 0)))), (a35, .inr (6, [.ref a36, .int 0])), (a36, .inl (cy 2, 40, .inl (fun _ => 0))), (a37, .inr (0, [.ref a38, .int 0])), (a38, .inl (cy 0, 32, .inl (fun _ => 0))), (md, .inr (9, [.ref mM, .ref mL, .ref mS, .null, .int 0, .ref mC, .int 0, .int 0, .int 0, .ref mR, .ref mJ, .ref mA, .int 0, .int 0, .int 0, .ref mD, .ref mT])), (mM, .inl (cy 0, 559, .inl (fun _ => 0))), (mL, .inl (cy 5, 26, .inr (.inr (.inr (.inr g))))), (mS, .inl (cy 0, 559, .inl (fun _ => 0))), (mC, .inl (cy 0, 8, .inl (fun _ => 0))), (mR, .inl (cy 0, 10, .inl (fun _ => 0))), (mJ, .inl (cy 0, 8, .inl (fun _ => 0))), (mA, .inl (cy 0, 8, .inl (fun _ => 0))), (mD, .inl (cy 0, 559, .inl (fun _ => 0))), (mT, .inl (cy 0, 3, .inl (fun _ => 0)))] ++ PL cy L) := hD
  refine lv_aload_n hx hb dL_law_773 rfl (lv_at hl 2 rfl) ?_
  refine vp_callSi (va_Run.run (va_runV (As := []) (rest := []) ⟨hx, hb, hml, hown, hts⟩ (c74_X9_age l D cy x a0 a1 a14 a27 a29 a31 a33 a35 a37) (cwV 0 hts (gt_VL kt_808 kt_809 kt_810 kt_1 kt_811) rfl rfl rfl (by decide +kernel) ⟨Nat.le_of_ble_eq_true rfl, Nat.le_of_ble_eq_true rfl⟩) (gP_V hK (hP.sub (ws' := (w74 cy x a0 a1 a14 a27 a29 a31 a33 a35 a37)) [0, 1] rfl) hP (ci := 8) (q0 := 0) rfl rfl) rfl rfl hl.1 rfl (lv_room (Nat.le_of_ble_eq_true rfl)) dL_law_774 ⟨Nat.le_of_ble_eq_true rfl, Nat.le_of_ble_eq_true rfl⟩)) (fun r1 hw2 => ?_)
  obtain rfl : r1 = 0 := hw2
  refine lv_aload_n hx hb dL_law_777 rfl (lv_at hl 1 rfl) ?_
  refine vp_callSi (va_Run.run (va_runV (As := []) (rest := [.int 0]) ⟨hx, hb, hml, hown, hts⟩ (c127_X10_age l D cy md mM mL mS mC mR mJ mA mD mT) (cwV 0 hts (gt_VL kt_1189 kt_1190 kt_1191 kt_8 kt_1192) rfl rfl rfl (by decide +kernel) ⟨Nat.le_of_ble_eq_true rfl, Nat.le_of_ble_eq_true rfl⟩) (gP_V hK (hP.sub (ws' := (w127 cy md mM mL mS mC mR mJ mA mD mT)) [40, 41] rfl) hP (ci := 9) (q0 := 40) rfl rfl) rfl rfl hl.1 rfl (lv_room (Nat.le_of_ble_eq_true rfl)) dL_law_778 ⟨Nat.le_of_ble_eq_true rfl, Nat.le_of_ble_eq_true rfl⟩)) (fun r3 hw4 => ?_)
  obtain rfl : r3 = 0 := hw4
  refine lv_icmp_eq (tgt := 858) hx hb dL_law_781 (by decide) (fun _ => ?_) (fun c5 => absurd c5 (by decide))
  exact law_end hx hb hr hlocks hX hbl hbA hAf hS hl (Nat.le_of_ble_eq_true rfl) (Nat.le_of_ble_eq_true rfl)
set_option maxHeartbeats 4000000 in
set_option maxRecDepth 100000 in
theorem law_case_23 {p : Program} {l : Launch} {e : Env} {s : State} {m : MethodId} {below : List Frame} {meth : Method} {c : Code} {b : Nat} {xs : Nat → Int32} {A : Nat → Prop} {H : Heap} {locs : List Loc} {ls : Array Slot} {D : va_G} {cy : Nat → ClassId} {x a0 a1 a2 a3 a4 a5 a6 a7 a8 a9 a10 a11 a12 a13 a14 a15 a16 a17 a18 a19 a20 a21 a22 a23 a24 a25 a26 a27 a28 a29 a30 a31 a32 a33 a34 a35 a36 a37 a38 md mM mL mS mC mR mJ mA mD mT : Nat} {L : List Nat} {g : Nat → Option Nat} (hx : p.tables.exec = Jvm.exec) (hb : c.code = code) (hr : meth.sig.returnType = ret) (hlocks : meth.locks = false) (hml : c.maxLocals = 4) (hown : s.vm.findClass R_law = some m.cls) (hts : ∀ w ∈ lw_tbl, w.before #[Value.ref b] s = true) (hX : va_X b 6 xs s s.heap) (hbl : b < s.heap.size) (hbA : ¬ A b) (hAf : ∀ q, A q → s.heap.size ≤ q) (hA : ∀ q : Nat, s.heap.size ≤ q → A q) (hK : KK D cy s) (hg : okG g L 26) (hP : va_P D classes (wLaw cy x a0 a1 a2 a3 a4 a5 a6 a7 a8 a9 a10 a11 a12 a13 a14 a15 a16 a17 a18 a19 a20 a21 a22 a23 a24 a25 a26 a27 a28 a29 a30 a31 a32 a33 a34 a35 a36 a37 a38 md mM mL mS mC mR mJ mA mD mT L g) H) (hD : va_D A (wLaw cy x a0 a1 a2 a3 a4 a5 a6 a7 a8 a9 a10 a11 a12 a13 a14 a15 a16 a17 a18 a19 a20 a21 a22 a23 a24 a25 a26 a27 a28 a29 a30 a31 a32 a33 a34 a35 a36 a37 a38 md mM mL mS mC mR mJ mA mD mT L g)) (hS : va_S A s.heap H locs) (hl : lv_has ls 4 [(3, .int 0), (2, .ref md), (1, .ref x), (0, .ref b)]) : W p l e room_1 s m #[Value.ref b] below meth c H locs 76 5684 (lw_Z below #[Value.ref b] s) (F0 m 786 ls []) := by
  have ht : ∀ w ∈ GT, w.before #[Value.ref b] s = true := fun w h => hts w (List.mem_filter.mp h).1
  have hP : va_P D classes ([(x, .inr (8, [.ref a0, .null, .null])), (a0, .inr (4, [.ref a1, .int 0, .ref a14, .int 0, .ref a27, .ref a29, .ref a31, .ref a33, .ref a35, .ref a37, .int 0, .int 0, .int 0, .int 0, .int 0])), (a1, .inl (cy 3, 3, .inr (.inr (.inr (.inr (va_up (va_up (va_up (fun _ => none) 0 (some a2)) 1 (some a6)) 2 (some a10))))))), (a2, .inr (3, [.int 0, .int 8, .int 0, .int 0, .int 0, .int 0, .int 0, .ref a3, .ref a4, .ref a5])), (a3, .inl (cy 0, 16, .inl (fun _ => 0))), (a4, .inl (cy 0, 16, .inl (fun _ => 0))), (a5, .inl (cy 0, 48, .inl (fun _ => 0))), (a6, .inr (3, [.int 0, .int 8, .int 0, .int 0, .int 0, .int 0, .int 0, .ref a7, .ref a8, .ref a9])), (a7, .inl (cy 0, 16, .inl (fun _ => 0))), (a8, .inl (cy 0, 16, .inl (fun _ => 0))), (a9, .inl (cy 0, 48, .inl (fun _ => 0))), (a10, .inr (3, [.int 0, .int 8, .int 0, .int 0, .int 0, .int 0, .int 0, .ref a11, .ref a12, .ref a13])), (a11, .inl (cy 0, 16, .inl (fun _ => 0))), (a12, .inl (cy 0, 16, .inl (fun _ => 0))), (a13, .inl (cy 0, 48, .inl (fun _ => 0))), (a14, .inl (cy 4, 12, .inr (.inr (.inr (.inr (va_up (va_up (va_up (va_up (va_up (va_up (va_up (va_up (va_up (va_up (va_up (va_up (fun _ => none) 0 (some a15)) 1 (some a16)) 2 (some a17)) 3 (some a18)) 4 (some a19)) 5 (some a20)) 6 (some a21)) 7 (some a22)) 8 (some a23)) 9 (some a24)) 10 (some a25)) 11 (some a26))))))), (a15, .inr (2, [.int 0, .int 0, .int 0, .int 0, .int 0, .int 0, .int 0, .int 0, .int 0, .int 0, .int 0, .int 0])), (a16, .inr (2, [.int 0, .int 0, .int 0, .int 0, .int 0, .int 0, .int 0, .int 0, .int 0, .int 0, .int 0, .int 0])), (a17, .inr (2, [.int 0, .int 0, .int 0, .int 0, .int 0, .int 0, .int 0, .int 0, .int 0, .int 0, .int 0, .int 0])), (a18, .inr (2, [.int 0, .int 0, .int 0, .int 0, .int 0, .int 0, .int 0, .int 0, .int 0, .int 0, .int 0, .int 0])), (a19, .inr (2, [.int 0, .int 0, .int 0, .int 0, .int 0, .int 0, .int 0, .int 0, .int 0, .int 0, .int 0, .int 0])), (a20, .inr (2, [.int 0, .int 0, .int 0, .int 0, .int 0, .int 0, .int 0, .int 0, .int 0, .int 0, .int 0, .int 0])), (a21, .inr (2, [.int 0, .int 0, .int 0, .int 0, .int 0, .int 0, .int 0, .int 0, .int 0, .int 0, .int 0, .int 0])), (a22, .inr (2, [.int 0, .int 0, .int 0, .int 0, .int 0, .int 0, .int 0, .int 0, .int 0, .int 0, .int 0, .int 0])), (a23, .inr (2, [.int 0, .int 0, .int 0, .int 0, .int 0, .int 0, .int 0, .int 0, .int 0, .int 0, .int 0, .int 0])), (a24, .inr (2, [.int 0, .int 0, .int 0, .int 0, .int 0, .int 0, .int 0, .int 0, .int 0, .int 0, .int 0, .int 0])), (a25, .inr (2, [.int 0, .int 0, .int 0, .int 0, .int 0, .int 0, .int 0, .int 0, .int 0, .int 0, .int 0, .int 0])), (a26, .inr (2, [.int 0, .int 0, .int 0, .int 0, .int 0, .int 0, .int 0, .int 0, .int 0, .int 0, .int 0, .int 0])), (a27, .inr (1, [.ref a28, .int 0, .int 0])), (a28, .inl (cy 1, 16, .inr (.inl (fun _ => 0)))), (a29, .inr (1, [.ref a30, .int 0, .int 0])), (a30, .inl (cy 1, 16, .inr (.inl (fun _ => 0)))), (a31, .inr (1, [.ref a32, .int 0, .int 0])), (a32, .inl (cy 1, 16, .inr (.inl (fun _ => 0)))), (a33, .inr (1, [.ref a34, .int 0, .int 0])), (a34, .inl (cy 1, 16, .inr (.inl (fun _ => 0)))), (a35, .inr (6, [.ref a36, .int 0])), (a36, .inl (cy 2, 40, .inl (fun _ => 0))), (a37, .inr (0, [.ref a38, .int 0])), (a38, .inl (cy 0, 32, .inl (fun _ => 0))), (md, .inr (9, [.ref mM, .ref mL, .ref mS, .null, .int 0, .ref mC, .int 0, .int 0, .int 0, .ref mR, .ref mJ, .ref mA, .int 0, .int 0, .int 0, .ref mD, .ref mT])), (mM, .inl (cy 0, 559, .inl (fun _ => 0))), (mL, .inl (cy 5, 26, .inr (.inr (.inr (.inr g))))), (mS, .inl (cy 0, 559, .inl (fun _ => 0))), (mC, .inl (cy 0, 8, .inl (fun _ => 0))), (mR, .inl (cy 0, 10, .inl (fun _ => 0))), (mJ, .inl (cy 0, 8, .inl (fun _ => 0))), (mA, .inl (cy 0, 8, .inl (fun _ => 0))), (mD, .inl (cy 0, 559, .inl (fun _ => 0))), (mT, .inl (cy 0, 3, .inl (fun _ => 0)))] ++ PL cy L) H := hP
  have hD : va_D A ([(x, .inr (8, [.ref a0, .null, .null])), (a0, .inr (4, [.ref a1, .int 0, .ref a14, .int 0, .ref a27, .ref a29, .ref a31, .ref a33, .ref a35, .ref a37, .int 0, .int 0, .int 0, .int 0, .int 0])), (a1, .inl (cy 3, 3, .inr (.inr (.inr (.inr (va_up (va_up (va_up (fun _ => none) 0 (some a2)) 1 (some a6)) 2 (some a10))))))), (a2, .inr (3, [.int 0, .int 8, .int 0, .int 0, .int 0, .int 0, .int 0, .ref a3, .ref a4, .ref a5])), (a3, .inl (cy 0, 16, .inl (fun _ => 0))), (a4, .inl (cy 0, 16, .inl (fun _ => 0))), (a5, .inl (cy 0, 48, .inl (fun _ => 0))), (a6, .inr (3, [.int 0, .int 8, .int 0, .int 0, .int 0, .int 0, .int 0, .ref a7, .ref a8, .ref a9])), (a7, .inl (cy 0, 16, .inl (fun _ => 0))), (a8, .inl (cy 0, 16, .inl (fun _ => 0))), (a9, .inl (cy 0, 48, .inl (fun _ => 0))), (a10, .inr (3, [.int 0, .int 8, .int 0, .int 0, .int 0, .int 0, .int 0, .ref a11, .ref a12, .ref a13])), (a11, .inl (cy 0, 16, .inl (fun _ => 0))), (a12, .inl (cy 0, 16, .inl (fun _ => 0))), (a13, .inl (cy 0, 48, .inl (fun _ => 0))), (a14, .inl (cy 4, 12, .inr (.inr (.inr (.inr (va_up (va_up (va_up (va_up (va_up (va_up (va_up (va_up (va_up (va_up (va_up (va_up (fun _ => none) 0 (some a15)) 1 (some a16)) 2 (some a17)) 3 (some a18)) 4 (some a19)) 5 (some a20)) 6 (some a21)) 7 (some a22)) 8 (some a23)) 9 (some a24)) 10 (some a25)) 11 (some a26))))))), (a15, .inr (2, [.int 0, .int 0, .int 0, .int 0, .int 0, .int 0, .int 0, .int 0, .int 0, .int 0, .int 0, .int 0])), (a16, .inr (2, [.int 0, .int 0, .int 0, .int 0, .int 0, .int 0, .int 0, .int 0, .int 0, .int 0, .int 0, .int 0])), (a17, .inr (2, [.int 0, .int 0, .int 0, .int 0, .int 0, .int 0, .int 0, .int 0, .int 0, .int 0, .int 0, .int 0])), (a18, .inr (2, [.int 0, .int 0, .int 0, .int 0, .int 0, .int 0, .int 0, .int 0, .int 0, .int 0, .int 0, .int 0])), (a19, .inr (2, [.int 0, .int 0, .int 0, .int 0, .int 0, .int 0, .int 0, .int 0, .int 0, .int 0, .int 0, .int 0])), (a20, .inr (2, [.int 0, .int 0, .int 0, .int 0, .int 0, .int 0, .int 0, .int 0, .int 0, .int 0, .int 0, .int 0])), (a21, .inr (2, [.int 0, .int 0, .int 0, .int 0, .int 0, .int 0, .int 0, .int 0, .int 0, .int 0, .int 0, .int 0])), (a22, .inr (2, [.int 0, .int 0, .int 0, .int 0, .int 0, .int 0, .int 0, .int 0, .int 0, .int 0, .int 0, .int 0])), (a23, .inr (2, [.int 0, .int 0, .int 0, .int 0, .int 0, .int 0, .int 0, .int 0, .int 0, .int 0, .int 0, .int 0])), (a24, .inr (2, [.int 0, .int 0, .int 0, .int 0, .int 0, .int 0, .int 0, .int 0, .int 0, .int 0, .int 0, .int 0])), (a25, .inr (2, [.int 0, .int 0, .int 0, .int 0, .int 0, .int 0, .int 0, .int 0, .int 0, .int 0, .int 0, .int 0])), (a26, .inr (2, [.int 0, .int 0, .int 0, .int 0, .int 0, .int 0, .int 0, .int 0, .int 0, .int 0, .int 0, .int 0])), (a27, .inr (1, [.ref a28, .int 0, .int 0])), (a28, .inl (cy 1, 16, .inr (.inl (fun _ => 0)))), (a29, .inr (1, [.ref a30, .int 0, .int 0])), (a30, .inl (cy 1, 16, .inr (.inl (fun _ => 0)))), (a31, .inr (1, [.ref a32, .int 0, .int 0])), (a32, .inl (cy 1, 16, .inr (.inl (fun _ => 0)))), (a33, .inr (1, [.ref a34, .int 0, .int 0])), (a34, .inl (cy 1, 16, .inr (.inl (fun _ => 0)))), (a35, .inr (6, [.ref a36, .int 0])), (a36, .inl (cy 2, 40, .inl (fun _ => 0))), (a37, .inr (0, [.ref a38, .int 0])), (a38, .inl (cy 0, 32, .inl (fun _ => 0))), (md, .inr (9, [.ref mM, .ref mL, .ref mS, .null, .int 0, .ref mC, .int 0, .int 0, .int 0, .ref mR, .ref mJ, .ref mA, .int 0, .int 0, .int 0, .ref mD, .ref mT])), (mM, .inl (cy 0, 559, .inl (fun _ => 0))), (mL, .inl (cy 5, 26, .inr (.inr (.inr (.inr g))))), (mS, .inl (cy 0, 559, .inl (fun _ => 0))), (mC, .inl (cy 0, 8, .inl (fun _ => 0))), (mR, .inl (cy 0, 10, .inl (fun _ => 0))), (mJ, .inl (cy 0, 8, .inl (fun _ => 0))), (mA, .inl (cy 0, 8, .inl (fun _ => 0))), (mD, .inl (cy 0, 559, .inl (fun _ => 0))), (mT, .inl (cy 0, 3, .inl (fun _ => 0)))] ++ PL cy L) := hD
  refine lv_aload_n hx hb dL_law_786 rfl (lv_at hl 2 rfl) ?_
  refine lv_aload_n hx hb dL_law_787 rfl (lv_at hl 3 rfl) ?_
  refine lv_iload_n hx hb dL_law_788 rfl (lv_at hl 0 rfl) ?_
  refine lv_iconst (v := 1) hx hb dL_law_789 (by decide) ?_
  refine lv_iadd hx hb dL_law_790 ?_
  refine lz_i 1 (by decide) ?_
  refine va_sld hx hb hX hbl hbA hS (vin (by decide)) dL_law_791 ?_
  refine lv_topi (fun sv1 esv1 => ?_)
  refine vp_callSi (va_Run.run (va_runV (As := [.int sv1]) (rest := []) ⟨hx, hb, hml, hown, hts⟩ (c76_X9_event l D cy x a0 a1 a14 a27 a29 a31 a33 a35 a37 a38 sv1) (cwV 1 hts (gt_VL kt_812 kt_813 kt_814 kt_1 kt_815) rfl rfl rfl (by decide +kernel) ⟨Nat.le_of_ble_eq_true rfl, Nat.le_of_ble_eq_true rfl⟩) (gP_V hK (hP.sub (ws' := (w76 cy x a0 a1 a14 a27 a29 a31 a33 a35 a37 a38 sv1)) [0, 1, 38] rfl) hP (ci := 8) (q0 := 0) rfl rfl) rfl rfl hl.1 rfl (lv_room (Nat.le_of_ble_eq_true rfl)) dL_law_792 ⟨Nat.le_of_ble_eq_true rfl, Nat.le_of_ble_eq_true rfl⟩)) (fun r1 hw2 => ?_)
  obtain rfl : r1 = (-1) := hw2
  refine lv_aload_n hx hb dL_law_795 rfl (lv_at hl 1 rfl) ?_
  refine lv_aload_n hx hb dL_law_796 rfl (lv_at hl 3 rfl) ?_
  refine lv_iload_n hx hb dL_law_797 rfl (lv_at hl 0 rfl) ?_
  refine lv_iconst (v := 1) hx hb dL_law_798 (by decide) ?_
  refine lv_iadd hx hb dL_law_799 ?_
  refine lz_i 1 (by decide) ?_
  refine va_sld hx hb hX hbl hbA hS (vin (by decide)) dL_law_800 ?_
  refine lz_i sv1 esv1.symm ?_
  refine vp_callSi (va_Run.run (va_runV (As := [.int sv1]) (rest := [.int (-1)]) ⟨hx, hb, hml, hown, hts⟩ (c128_X10_event l D cy md mM mL mS mC mR mJ mA mD mT sv1) (cwV 1 hts (gt_VL kt_1193 kt_1194 kt_1195 kt_8 kt_1196) rfl rfl rfl (by decide +kernel) ⟨Nat.le_of_ble_eq_true rfl, Nat.le_of_ble_eq_true rfl⟩) (gP_V hK (hP.sub (ws' := (w128 cy md mM mL mS mC mR mJ mA mD mT sv1)) [40, 41] rfl) hP (ci := 9) (q0 := 40) rfl rfl) rfl rfl hl.1 rfl (lv_room (Nat.le_of_ble_eq_true rfl)) dL_law_801 ⟨Nat.le_of_ble_eq_true rfl, Nat.le_of_ble_eq_true rfl⟩)) (fun r3 hw4 => ?_)
  obtain rfl : r3 = (-1) := hw4
  refine lv_icmp_eq (tgt := 858) hx hb dL_law_804 (by decide) (fun _ => ?_) (fun c5 => absurd c5 (by decide))
  exact law_end hx hb hr hlocks hX hbl hbA hAf hS hl (Nat.le_of_ble_eq_true rfl) (Nat.le_of_ble_eq_true rfl)
set_option maxHeartbeats 4000000 in
set_option maxRecDepth 100000 in
theorem law_case_24 {p : Program} {l : Launch} {e : Env} {s : State} {m : MethodId} {below : List Frame} {meth : Method} {c : Code} {b : Nat} {xs : Nat → Int32} {A : Nat → Prop} {H : Heap} {locs : List Loc} {ls : Array Slot} {D : va_G} {cy : Nat → ClassId} {x a0 a1 a2 a3 a4 a5 a6 a7 a8 a9 a10 a11 a12 a13 a14 a15 a16 a17 a18 a19 a20 a21 a22 a23 a24 a25 a26 a27 a28 a29 a30 a31 a32 a33 a34 a35 a36 a37 a38 md mM mL mS mC mR mJ mA mD mT : Nat} {L : List Nat} {g : Nat → Option Nat} (hx : p.tables.exec = Jvm.exec) (hb : c.code = code) (hr : meth.sig.returnType = ret) (hlocks : meth.locks = false) (hml : c.maxLocals = 4) (hown : s.vm.findClass R_law = some m.cls) (hts : ∀ w ∈ lw_tbl, w.before #[Value.ref b] s = true) (hX : va_X b 6 xs s s.heap) (hbl : b < s.heap.size) (hbA : ¬ A b) (hAf : ∀ q, A q → s.heap.size ≤ q) (hA : ∀ q : Nat, s.heap.size ≤ q → A q) (hK : KK D cy s) (hg : okG g L 26) (hP : va_P D classes (wLaw cy x a0 a1 a2 a3 a4 a5 a6 a7 a8 a9 a10 a11 a12 a13 a14 a15 a16 a17 a18 a19 a20 a21 a22 a23 a24 a25 a26 a27 a28 a29 a30 a31 a32 a33 a34 a35 a36 a37 a38 md mM mL mS mC mR mJ mA mD mT L g) H) (hD : va_D A (wLaw cy x a0 a1 a2 a3 a4 a5 a6 a7 a8 a9 a10 a11 a12 a13 a14 a15 a16 a17 a18 a19 a20 a21 a22 a23 a24 a25 a26 a27 a28 a29 a30 a31 a32 a33 a34 a35 a36 a37 a38 md mM mL mS mC mR mJ mA mD mT L g)) (hS : va_S A s.heap H locs) (hl : lv_has ls 4 [(3, .int 0), (2, .ref md), (1, .ref x), (0, .ref b)]) : W p l e room_1 s m #[Value.ref b] below meth c H locs 76 5684 (lw_Z below #[Value.ref b] s) (F0 m 809 ls []) := by
  have ht : ∀ w ∈ GT, w.before #[Value.ref b] s = true := fun w h => hts w (List.mem_filter.mp h).1
  have hP : va_P D classes ([(x, .inr (8, [.ref a0, .null, .null])), (a0, .inr (4, [.ref a1, .int 0, .ref a14, .int 0, .ref a27, .ref a29, .ref a31, .ref a33, .ref a35, .ref a37, .int 0, .int 0, .int 0, .int 0, .int 0])), (a1, .inl (cy 3, 3, .inr (.inr (.inr (.inr (va_up (va_up (va_up (fun _ => none) 0 (some a2)) 1 (some a6)) 2 (some a10))))))), (a2, .inr (3, [.int 0, .int 8, .int 0, .int 0, .int 0, .int 0, .int 0, .ref a3, .ref a4, .ref a5])), (a3, .inl (cy 0, 16, .inl (fun _ => 0))), (a4, .inl (cy 0, 16, .inl (fun _ => 0))), (a5, .inl (cy 0, 48, .inl (fun _ => 0))), (a6, .inr (3, [.int 0, .int 8, .int 0, .int 0, .int 0, .int 0, .int 0, .ref a7, .ref a8, .ref a9])), (a7, .inl (cy 0, 16, .inl (fun _ => 0))), (a8, .inl (cy 0, 16, .inl (fun _ => 0))), (a9, .inl (cy 0, 48, .inl (fun _ => 0))), (a10, .inr (3, [.int 0, .int 8, .int 0, .int 0, .int 0, .int 0, .int 0, .ref a11, .ref a12, .ref a13])), (a11, .inl (cy 0, 16, .inl (fun _ => 0))), (a12, .inl (cy 0, 16, .inl (fun _ => 0))), (a13, .inl (cy 0, 48, .inl (fun _ => 0))), (a14, .inl (cy 4, 12, .inr (.inr (.inr (.inr (va_up (va_up (va_up (va_up (va_up (va_up (va_up (va_up (va_up (va_up (va_up (va_up (fun _ => none) 0 (some a15)) 1 (some a16)) 2 (some a17)) 3 (some a18)) 4 (some a19)) 5 (some a20)) 6 (some a21)) 7 (some a22)) 8 (some a23)) 9 (some a24)) 10 (some a25)) 11 (some a26))))))), (a15, .inr (2, [.int 0, .int 0, .int 0, .int 0, .int 0, .int 0, .int 0, .int 0, .int 0, .int 0, .int 0, .int 0])), (a16, .inr (2, [.int 0, .int 0, .int 0, .int 0, .int 0, .int 0, .int 0, .int 0, .int 0, .int 0, .int 0, .int 0])), (a17, .inr (2, [.int 0, .int 0, .int 0, .int 0, .int 0, .int 0, .int 0, .int 0, .int 0, .int 0, .int 0, .int 0])), (a18, .inr (2, [.int 0, .int 0, .int 0, .int 0, .int 0, .int 0, .int 0, .int 0, .int 0, .int 0, .int 0, .int 0])), (a19, .inr (2, [.int 0, .int 0, .int 0, .int 0, .int 0, .int 0, .int 0, .int 0, .int 0, .int 0, .int 0, .int 0])), (a20, .inr (2, [.int 0, .int 0, .int 0, .int 0, .int 0, .int 0, .int 0, .int 0, .int 0, .int 0, .int 0, .int 0])), (a21, .inr (2, [.int 0, .int 0, .int 0, .int 0, .int 0, .int 0, .int 0, .int 0, .int 0, .int 0, .int 0, .int 0])), (a22, .inr (2, [.int 0, .int 0, .int 0, .int 0, .int 0, .int 0, .int 0, .int 0, .int 0, .int 0, .int 0, .int 0])), (a23, .inr (2, [.int 0, .int 0, .int 0, .int 0, .int 0, .int 0, .int 0, .int 0, .int 0, .int 0, .int 0, .int 0])), (a24, .inr (2, [.int 0, .int 0, .int 0, .int 0, .int 0, .int 0, .int 0, .int 0, .int 0, .int 0, .int 0, .int 0])), (a25, .inr (2, [.int 0, .int 0, .int 0, .int 0, .int 0, .int 0, .int 0, .int 0, .int 0, .int 0, .int 0, .int 0])), (a26, .inr (2, [.int 0, .int 0, .int 0, .int 0, .int 0, .int 0, .int 0, .int 0, .int 0, .int 0, .int 0, .int 0])), (a27, .inr (1, [.ref a28, .int 0, .int 0])), (a28, .inl (cy 1, 16, .inr (.inl (fun _ => 0)))), (a29, .inr (1, [.ref a30, .int 0, .int 0])), (a30, .inl (cy 1, 16, .inr (.inl (fun _ => 0)))), (a31, .inr (1, [.ref a32, .int 0, .int 0])), (a32, .inl (cy 1, 16, .inr (.inl (fun _ => 0)))), (a33, .inr (1, [.ref a34, .int 0, .int 0])), (a34, .inl (cy 1, 16, .inr (.inl (fun _ => 0)))), (a35, .inr (6, [.ref a36, .int 0])), (a36, .inl (cy 2, 40, .inl (fun _ => 0))), (a37, .inr (0, [.ref a38, .int 0])), (a38, .inl (cy 0, 32, .inl (fun _ => 0))), (md, .inr (9, [.ref mM, .ref mL, .ref mS, .null, .int 0, .ref mC, .int 0, .int 0, .int 0, .ref mR, .ref mJ, .ref mA, .int 0, .int 0, .int 0, .ref mD, .ref mT])), (mM, .inl (cy 0, 559, .inl (fun _ => 0))), (mL, .inl (cy 5, 26, .inr (.inr (.inr (.inr g))))), (mS, .inl (cy 0, 559, .inl (fun _ => 0))), (mC, .inl (cy 0, 8, .inl (fun _ => 0))), (mR, .inl (cy 0, 10, .inl (fun _ => 0))), (mJ, .inl (cy 0, 8, .inl (fun _ => 0))), (mA, .inl (cy 0, 8, .inl (fun _ => 0))), (mD, .inl (cy 0, 559, .inl (fun _ => 0))), (mT, .inl (cy 0, 3, .inl (fun _ => 0)))] ++ PL cy L) H := hP
  have hD : va_D A ([(x, .inr (8, [.ref a0, .null, .null])), (a0, .inr (4, [.ref a1, .int 0, .ref a14, .int 0, .ref a27, .ref a29, .ref a31, .ref a33, .ref a35, .ref a37, .int 0, .int 0, .int 0, .int 0, .int 0])), (a1, .inl (cy 3, 3, .inr (.inr (.inr (.inr (va_up (va_up (va_up (fun _ => none) 0 (some a2)) 1 (some a6)) 2 (some a10))))))), (a2, .inr (3, [.int 0, .int 8, .int 0, .int 0, .int 0, .int 0, .int 0, .ref a3, .ref a4, .ref a5])), (a3, .inl (cy 0, 16, .inl (fun _ => 0))), (a4, .inl (cy 0, 16, .inl (fun _ => 0))), (a5, .inl (cy 0, 48, .inl (fun _ => 0))), (a6, .inr (3, [.int 0, .int 8, .int 0, .int 0, .int 0, .int 0, .int 0, .ref a7, .ref a8, .ref a9])), (a7, .inl (cy 0, 16, .inl (fun _ => 0))), (a8, .inl (cy 0, 16, .inl (fun _ => 0))), (a9, .inl (cy 0, 48, .inl (fun _ => 0))), (a10, .inr (3, [.int 0, .int 8, .int 0, .int 0, .int 0, .int 0, .int 0, .ref a11, .ref a12, .ref a13])), (a11, .inl (cy 0, 16, .inl (fun _ => 0))), (a12, .inl (cy 0, 16, .inl (fun _ => 0))), (a13, .inl (cy 0, 48, .inl (fun _ => 0))), (a14, .inl (cy 4, 12, .inr (.inr (.inr (.inr (va_up (va_up (va_up (va_up (va_up (va_up (va_up (va_up (va_up (va_up (va_up (va_up (fun _ => none) 0 (some a15)) 1 (some a16)) 2 (some a17)) 3 (some a18)) 4 (some a19)) 5 (some a20)) 6 (some a21)) 7 (some a22)) 8 (some a23)) 9 (some a24)) 10 (some a25)) 11 (some a26))))))), (a15, .inr (2, [.int 0, .int 0, .int 0, .int 0, .int 0, .int 0, .int 0, .int 0, .int 0, .int 0, .int 0, .int 0])), (a16, .inr (2, [.int 0, .int 0, .int 0, .int 0, .int 0, .int 0, .int 0, .int 0, .int 0, .int 0, .int 0, .int 0])), (a17, .inr (2, [.int 0, .int 0, .int 0, .int 0, .int 0, .int 0, .int 0, .int 0, .int 0, .int 0, .int 0, .int 0])), (a18, .inr (2, [.int 0, .int 0, .int 0, .int 0, .int 0, .int 0, .int 0, .int 0, .int 0, .int 0, .int 0, .int 0])), (a19, .inr (2, [.int 0, .int 0, .int 0, .int 0, .int 0, .int 0, .int 0, .int 0, .int 0, .int 0, .int 0, .int 0])), (a20, .inr (2, [.int 0, .int 0, .int 0, .int 0, .int 0, .int 0, .int 0, .int 0, .int 0, .int 0, .int 0, .int 0])), (a21, .inr (2, [.int 0, .int 0, .int 0, .int 0, .int 0, .int 0, .int 0, .int 0, .int 0, .int 0, .int 0, .int 0])), (a22, .inr (2, [.int 0, .int 0, .int 0, .int 0, .int 0, .int 0, .int 0, .int 0, .int 0, .int 0, .int 0, .int 0])), (a23, .inr (2, [.int 0, .int 0, .int 0, .int 0, .int 0, .int 0, .int 0, .int 0, .int 0, .int 0, .int 0, .int 0])), (a24, .inr (2, [.int 0, .int 0, .int 0, .int 0, .int 0, .int 0, .int 0, .int 0, .int 0, .int 0, .int 0, .int 0])), (a25, .inr (2, [.int 0, .int 0, .int 0, .int 0, .int 0, .int 0, .int 0, .int 0, .int 0, .int 0, .int 0, .int 0])), (a26, .inr (2, [.int 0, .int 0, .int 0, .int 0, .int 0, .int 0, .int 0, .int 0, .int 0, .int 0, .int 0, .int 0])), (a27, .inr (1, [.ref a28, .int 0, .int 0])), (a28, .inl (cy 1, 16, .inr (.inl (fun _ => 0)))), (a29, .inr (1, [.ref a30, .int 0, .int 0])), (a30, .inl (cy 1, 16, .inr (.inl (fun _ => 0)))), (a31, .inr (1, [.ref a32, .int 0, .int 0])), (a32, .inl (cy 1, 16, .inr (.inl (fun _ => 0)))), (a33, .inr (1, [.ref a34, .int 0, .int 0])), (a34, .inl (cy 1, 16, .inr (.inl (fun _ => 0)))), (a35, .inr (6, [.ref a36, .int 0])), (a36, .inl (cy 2, 40, .inl (fun _ => 0))), (a37, .inr (0, [.ref a38, .int 0])), (a38, .inl (cy 0, 32, .inl (fun _ => 0))), (md, .inr (9, [.ref mM, .ref mL, .ref mS, .null, .int 0, .ref mC, .int 0, .int 0, .int 0, .ref mR, .ref mJ, .ref mA, .int 0, .int 0, .int 0, .ref mD, .ref mT])), (mM, .inl (cy 0, 559, .inl (fun _ => 0))), (mL, .inl (cy 5, 26, .inr (.inr (.inr (.inr g))))), (mS, .inl (cy 0, 559, .inl (fun _ => 0))), (mC, .inl (cy 0, 8, .inl (fun _ => 0))), (mR, .inl (cy 0, 10, .inl (fun _ => 0))), (mJ, .inl (cy 0, 8, .inl (fun _ => 0))), (mA, .inl (cy 0, 8, .inl (fun _ => 0))), (mD, .inl (cy 0, 559, .inl (fun _ => 0))), (mT, .inl (cy 0, 3, .inl (fun _ => 0)))] ++ PL cy L) := hD
  refine lv_aload_n hx hb dL_law_809 rfl (lv_at hl 2 rfl) ?_
  have hPc := hP.sub (ws' := (w77 cy x a0 a1 a14 a27 a29 a31 a33 a35 a37 a2 a6 a10 a3 a4 a5 a7 a8 a9 a11 a12 a13 a15 a16 a17 a18 a19 a20 a21 a22 a23 a24 a25 a26 a28 a30 a32 a34 a36 a38)) [0, 1, 2, 3, 4, 5, 6, 7, 8, 9, 10, 11, 12, 13, 14, 15, 16, 17, 18, 19, 20, 21, 22, 23, 24, 25, 26, 27, 28, 30, 32, 34, 36, 37, 38, 39] rfl
  have hDc := hD.sub (ws' := (w77 cy x a0 a1 a14 a27 a29 a31 a33 a35 a37 a2 a6 a10 a3 a4 a5 a7 a8 a9 a11 a12 a13 a15 a16 a17 a18 a19 a20 a21 a22 a23 a24 a25 a26 a28 a30 a32 a34 a36 a38)) [0, 1, 2, 3, 4, 5, 6, 7, 8, 9, 10, 11, 12, 13, 14, 15, 16, 17, 18, 19, 20, 21, 22, 23, 24, 25, 26, 27, 28, 30, 32, 34, 36, 37, 38, 39] (by decide +kernel) rfl
  have hFc := va_free (wc := (w77 cy x a0 a1 a14 a27 a29 a31 a33 a35 a37 a2 a6 a10 a3 a4 a5 a7 a8 a9 a11 a12 a13 a15 a16 a17 a18 a19 a20 a21 a22 a23 a24 a25 a26 a28 a30 a32 a34 a36 a38)) hD hS hA [0, 1, 2, 3, 4, 5, 6, 7, 8, 9, 10, 11, 12, 13, 14, 15, 16, 17, 18, 19, 20, 21, 22, 23, 24, 25, 26, 27, 28, 30, 32, 34, 36, 37, 38, 39] rfl
  refine va_calli (va_runV (As := []) (rest := []) ⟨hx, hb, hml, hown, hts⟩ (c77_X9_image l D cy x a0 a1 a14 a27 a29 a31 a33 a35 a37 a2 a6 a10 a3 a4 a5 a7 a8 a9 a11 a12 a13 a15 a16 a17 a18 a19 a20 a21 a22 a23 a24 a25 a26 a28 a30 a32 a34 a36 a38 H.size) (cwV 0 hts (gt_VL kt_825 kt_826 kt_827 kt_1 kt_828) rfl rfl rfl (by decide +kernel) ⟨Nat.le_of_ble_eq_true rfl, Nat.le_of_ble_eq_true rfl⟩) (gN_V hK hPc hDc hP (ci := 8) (q0 := 0) rfl rfl) rfl rfl hl.1 rfl (lv_room (Nat.le_of_ble_eq_true rfl)) dL_law_810 ⟨Nat.le_of_ble_eq_true rfl, Nat.le_of_ble_eq_true rfl⟩) hS (fun q _ h => hFc q h) hFc (fun r1 u3 t H1 locs ht2 hvm hw2 hB hz1 hk1 hS => ?_)
  have hP1 : va_P D classes [] H1 := fun k q h => by simp at h
  have hD1 : va_D (va_A (w77 cy x a0 a1 a14 a27 a29 a31 a33 a35 a37 a2 a6 a10 a3 a4 a5 a7 a8 a9 a11 a12 a13 a15 a16 a17 a18 a19 a20 a21 a22 a23 a24 a25 a26 a28 a30 a32 a34 a36 a38) H.size) [] := ⟨fun i j p q h => by simp at h, fun k q h => by simp at h⟩
  obtain ⟨hP, hD⟩ := va_joinQ (X := ([(x, .inr (8, [.ref a0, .null, .null])), (a0, .inr (4, [.ref a1, .int 0, .ref a14, .int 0, .ref a27, .ref a29, .ref a31, .ref a33, .ref a35, .ref a37, .int 0, .int 0, .int 0, .int 0, .int 0])), (a1, .inl (cy 3, 3, .inr (.inr (.inr (.inr (va_up (va_up (va_up (fun _ => none) 0 (some a2)) 1 (some a6)) 2 (some a10))))))), (a2, .inr (3, [.int 0, .int 8, .int 0, .int 0, .int 0, .int 0, .int 0, .ref a3, .ref a4, .ref a5])), (a3, .inl (cy 0, 16, .inl (fun _ => 0))), (a4, .inl (cy 0, 16, .inl (fun _ => 0))), (a5, .inl (cy 0, 48, .inl (fun _ => 0))), (a6, .inr (3, [.int 0, .int 8, .int 0, .int 0, .int 0, .int 0, .int 0, .ref a7, .ref a8, .ref a9])), (a7, .inl (cy 0, 16, .inl (fun _ => 0))), (a8, .inl (cy 0, 16, .inl (fun _ => 0))), (a9, .inl (cy 0, 48, .inl (fun _ => 0))), (a10, .inr (3, [.int 0, .int 8, .int 0, .int 0, .int 0, .int 0, .int 0, .ref a11, .ref a12, .ref a13])), (a11, .inl (cy 0, 16, .inl (fun _ => 0))), (a12, .inl (cy 0, 16, .inl (fun _ => 0))), (a13, .inl (cy 0, 48, .inl (fun _ => 0))), (a14, .inl (cy 4, 12, .inr (.inr (.inr (.inr (va_up (va_up (va_up (va_up (va_up (va_up (va_up (va_up (va_up (va_up (va_up (va_up (fun _ => none) 0 (some a15)) 1 (some a16)) 2 (some a17)) 3 (some a18)) 4 (some a19)) 5 (some a20)) 6 (some a21)) 7 (some a22)) 8 (some a23)) 9 (some a24)) 10 (some a25)) 11 (some a26))))))), (a15, .inr (2, [.int 0, .int 0, .int 0, .int 0, .int 0, .int 0, .int 0, .int 0, .int 0, .int 0, .int 0, .int 0])), (a16, .inr (2, [.int 0, .int 0, .int 0, .int 0, .int 0, .int 0, .int 0, .int 0, .int 0, .int 0, .int 0, .int 0])), (a17, .inr (2, [.int 0, .int 0, .int 0, .int 0, .int 0, .int 0, .int 0, .int 0, .int 0, .int 0, .int 0, .int 0])), (a18, .inr (2, [.int 0, .int 0, .int 0, .int 0, .int 0, .int 0, .int 0, .int 0, .int 0, .int 0, .int 0, .int 0])), (a19, .inr (2, [.int 0, .int 0, .int 0, .int 0, .int 0, .int 0, .int 0, .int 0, .int 0, .int 0, .int 0, .int 0])), (a20, .inr (2, [.int 0, .int 0, .int 0, .int 0, .int 0, .int 0, .int 0, .int 0, .int 0, .int 0, .int 0, .int 0])), (a21, .inr (2, [.int 0, .int 0, .int 0, .int 0, .int 0, .int 0, .int 0, .int 0, .int 0, .int 0, .int 0, .int 0])), (a22, .inr (2, [.int 0, .int 0, .int 0, .int 0, .int 0, .int 0, .int 0, .int 0, .int 0, .int 0, .int 0, .int 0])), (a23, .inr (2, [.int 0, .int 0, .int 0, .int 0, .int 0, .int 0, .int 0, .int 0, .int 0, .int 0, .int 0, .int 0])), (a24, .inr (2, [.int 0, .int 0, .int 0, .int 0, .int 0, .int 0, .int 0, .int 0, .int 0, .int 0, .int 0, .int 0])), (a25, .inr (2, [.int 0, .int 0, .int 0, .int 0, .int 0, .int 0, .int 0, .int 0, .int 0, .int 0, .int 0, .int 0])), (a26, .inr (2, [.int 0, .int 0, .int 0, .int 0, .int 0, .int 0, .int 0, .int 0, .int 0, .int 0, .int 0, .int 0])), (a27, .inr (1, [.ref a28, .int 0, .int 0])), (a28, .inl (cy 1, 16, .inr (.inl (fun _ => 0)))), (a29, .inr (1, [.ref a30, .int 0, .int 0])), (a30, .inl (cy 1, 16, .inr (.inl (fun _ => 0)))), (a31, .inr (1, [.ref a32, .int 0, .int 0])), (a32, .inl (cy 1, 16, .inr (.inl (fun _ => 0)))), (a33, .inr (1, [.ref a34, .int 0, .int 0])), (a34, .inl (cy 1, 16, .inr (.inl (fun _ => 0)))), (a35, .inr (6, [.ref a36, .int 0])), (a36, .inl (cy 2, 40, .inl (fun _ => 0))), (a37, .inr (0, [.ref a38, .int 0])), (a38, .inl (cy 0, 32, .inl (fun _ => 0))), (md, .inr (9, [.ref mM, .ref mL, .ref mS, .null, .int 0, .ref mC, .int 0, .int 0, .int 0, .ref mR, .ref mJ, .ref mA, .int 0, .int 0, .int 0, .ref mD, .ref mT])), (mM, .inl (cy 0, 559, .inl (fun _ => 0))), (mL, .inl (cy 5, 26, .inr (.inr (.inr (.inr g))))), (mS, .inl (cy 0, 559, .inl (fun _ => 0))), (mC, .inl (cy 0, 8, .inl (fun _ => 0))), (mR, .inl (cy 0, 10, .inl (fun _ => 0))), (mJ, .inl (cy 0, 8, .inl (fun _ => 0))), (mA, .inl (cy 0, 8, .inl (fun _ => 0))), (mD, .inl (cy 0, 559, .inl (fun _ => 0))), (mT, .inl (cy 0, 3, .inl (fun _ => 0)))] : va_W)) (cx := (w77 cy x a0 a1 a14 a27 a29 a31 a33 a35 a37 a2 a6 a10 a3 a4 a5 a7 a8 a9 a11 a12 a13 a15 a16 a17 a18 a19 a20 a21 a22 a23 a24 a25 a26 a28 a30 a32 a34 a36 a38)) (wr := ([(a28, .inl (cy 1, 16, .inr (.inl (fun _ => 0)))), (a30, .inl (cy 1, 16, .inr (.inl (fun _ => 0)))), (a32, .inl (cy 1, 16, .inr (.inl (fun _ => 0)))), (a34, .inl (cy 1, 16, .inr (.inl (fun _ => 0)))), (md, .inr (9, [.ref mM, .ref mL, .ref mS, .null, .int 0, .ref mC, .int 0, .int 0, .int 0, .ref mR, .ref mJ, .ref mA, .int 0, .int 0, .int 0, .ref mD, .ref mT])), (mM, .inl (cy 0, 559, .inl (fun _ => 0))), (mL, .inl (cy 5, 26, .inr (.inr (.inr (.inr g))))), (mS, .inl (cy 0, 559, .inl (fun _ => 0))), (mC, .inl (cy 0, 8, .inl (fun _ => 0))), (mR, .inl (cy 0, 10, .inl (fun _ => 0))), (mJ, .inl (cy 0, 8, .inl (fun _ => 0))), (mA, .inl (cy 0, 8, .inl (fun _ => 0))), (mD, .inl (cy 0, 559, .inl (fun _ => 0))), (mT, .inl (cy 0, 3, .inl (fun _ => 0)))] : va_W)) (w1 := []) hP hD [0, 1, 2, 3, 4, 5, 6, 7, 8, 9, 10, 11, 12, 13, 14, 15, 16, 17, 18, 19, 20, 21, 22, 23, 24, 25, 26, 27, 28, 30, 32, 34, 36, 37, 38, 39] [29, 31, 33, 35, 40, 41, 42, 43, 44, 45, 46, 47, 48, 49] rfl rfl (by decide +kernel) (by decide +kernel) hk1 hFc hP1 hD1
  generalize H1 = H at hP hS ⊢
  have hP : va_P D classes ([(a28, .inl (cy 1, 16, .inr (.inl (fun _ => 0)))), (a30, .inl (cy 1, 16, .inr (.inl (fun _ => 0)))), (a32, .inl (cy 1, 16, .inr (.inl (fun _ => 0)))), (a34, .inl (cy 1, 16, .inr (.inl (fun _ => 0)))), (md, .inr (9, [.ref mM, .ref mL, .ref mS, .null, .int 0, .ref mC, .int 0, .int 0, .int 0, .ref mR, .ref mJ, .ref mA, .int 0, .int 0, .int 0, .ref mD, .ref mT])), (mM, .inl (cy 0, 559, .inl (fun _ => 0))), (mL, .inl (cy 5, 26, .inr (.inr (.inr (.inr g))))), (mS, .inl (cy 0, 559, .inl (fun _ => 0))), (mC, .inl (cy 0, 8, .inl (fun _ => 0))), (mR, .inl (cy 0, 10, .inl (fun _ => 0))), (mJ, .inl (cy 0, 8, .inl (fun _ => 0))), (mA, .inl (cy 0, 8, .inl (fun _ => 0))), (mD, .inl (cy 0, 559, .inl (fun _ => 0))), (mT, .inl (cy 0, 3, .inl (fun _ => 0)))] ++ PL cy L) H := hP
  have hD : va_D A ([(a28, .inl (cy 1, 16, .inr (.inl (fun _ => 0)))), (a30, .inl (cy 1, 16, .inr (.inl (fun _ => 0)))), (a32, .inl (cy 1, 16, .inr (.inl (fun _ => 0)))), (a34, .inl (cy 1, 16, .inr (.inl (fun _ => 0)))), (md, .inr (9, [.ref mM, .ref mL, .ref mS, .null, .int 0, .ref mC, .int 0, .int 0, .int 0, .ref mR, .ref mJ, .ref mA, .int 0, .int 0, .int 0, .ref mD, .ref mT])), (mM, .inl (cy 0, 559, .inl (fun _ => 0))), (mL, .inl (cy 5, 26, .inr (.inr (.inr (.inr g))))), (mS, .inl (cy 0, 559, .inl (fun _ => 0))), (mC, .inl (cy 0, 8, .inl (fun _ => 0))), (mR, .inl (cy 0, 10, .inl (fun _ => 0))), (mJ, .inl (cy 0, 8, .inl (fun _ => 0))), (mA, .inl (cy 0, 8, .inl (fun _ => 0))), (mD, .inl (cy 0, 559, .inl (fun _ => 0))), (mT, .inl (cy 0, 3, .inl (fun _ => 0)))] ++ PL cy L) := hD
  refine W.widen (k := 115) (n := 6280) (Nat.le_of_ble_eq_true rfl) (Nat.le_of_ble_eq_true rfl) ?_
  obtain rfl : r1 = 0 := hw2
  refine lv_aload_n hx hb dL_law_813 rfl (lv_at hl 1 rfl) ?_
  have hPc := va_P.part (X := ([(a28, .inl (cy 1, 16, .inr (.inl (fun _ => 0)))), (a30, .inl (cy 1, 16, .inr (.inl (fun _ => 0)))), (a32, .inl (cy 1, 16, .inr (.inl (fun _ => 0)))), (a34, .inl (cy 1, 16, .inr (.inl (fun _ => 0)))), (md, .inr (9, [.ref mM, .ref mL, .ref mS, .null, .int 0, .ref mC, .int 0, .int 0, .int 0, .ref mR, .ref mJ, .ref mA, .int 0, .int 0, .int 0, .ref mD, .ref mT])), (mM, .inl (cy 0, 559, .inl (fun _ => 0))), (mL, .inl (cy 5, 26, .inr (.inr (.inr (.inr g))))), (mS, .inl (cy 0, 559, .inl (fun _ => 0))), (mC, .inl (cy 0, 8, .inl (fun _ => 0))), (mR, .inl (cy 0, 10, .inl (fun _ => 0))), (mJ, .inl (cy 0, 8, .inl (fun _ => 0))), (mA, .inl (cy 0, 8, .inl (fun _ => 0))), (mD, .inl (cy 0, 559, .inl (fun _ => 0))), (mT, .inl (cy 0, 3, .inl (fun _ => 0)))] : va_W)) (cx := ([(md, .inr (9, [.ref mM, .ref mL, .ref mS, .null, .int 0, .ref mC, .int 0, .int 0, .int 0, .ref mR, .ref mJ, .ref mA, .int 0, .int 0, .int 0, .ref mD, .ref mT])), (mM, .inl (cy 0, 559, .inl (fun _ => 0))), (mS, .inl (cy 0, 559, .inl (fun _ => 0))), (mL, .inl (cy 5, 26, .inr (.inr (.inr (.inr g)))))] : va_W)) hP [4, 5, 7, 6] rfl
  have hDc := va_D.part (X := ([(a28, .inl (cy 1, 16, .inr (.inl (fun _ => 0)))), (a30, .inl (cy 1, 16, .inr (.inl (fun _ => 0)))), (a32, .inl (cy 1, 16, .inr (.inl (fun _ => 0)))), (a34, .inl (cy 1, 16, .inr (.inl (fun _ => 0)))), (md, .inr (9, [.ref mM, .ref mL, .ref mS, .null, .int 0, .ref mC, .int 0, .int 0, .int 0, .ref mR, .ref mJ, .ref mA, .int 0, .int 0, .int 0, .ref mD, .ref mT])), (mM, .inl (cy 0, 559, .inl (fun _ => 0))), (mL, .inl (cy 5, 26, .inr (.inr (.inr (.inr g))))), (mS, .inl (cy 0, 559, .inl (fun _ => 0))), (mC, .inl (cy 0, 8, .inl (fun _ => 0))), (mR, .inl (cy 0, 10, .inl (fun _ => 0))), (mJ, .inl (cy 0, 8, .inl (fun _ => 0))), (mA, .inl (cy 0, 8, .inl (fun _ => 0))), (mD, .inl (cy 0, 559, .inl (fun _ => 0))), (mT, .inl (cy 0, 3, .inl (fun _ => 0)))] : va_W)) (cx := ([(md, .inr (9, [.ref mM, .ref mL, .ref mS, .null, .int 0, .ref mC, .int 0, .int 0, .int 0, .ref mR, .ref mJ, .ref mA, .int 0, .int 0, .int 0, .ref mD, .ref mT])), (mM, .inl (cy 0, 559, .inl (fun _ => 0))), (mS, .inl (cy 0, 559, .inl (fun _ => 0))), (mL, .inl (cy 5, 26, .inr (.inr (.inr (.inr g)))))] : va_W)) hD [4, 5, 7, 6] (by decide +kernel) rfl
  have hFc := va_freeP (X := ([(a28, .inl (cy 1, 16, .inr (.inl (fun _ => 0)))), (a30, .inl (cy 1, 16, .inr (.inl (fun _ => 0)))), (a32, .inl (cy 1, 16, .inr (.inl (fun _ => 0)))), (a34, .inl (cy 1, 16, .inr (.inl (fun _ => 0)))), (md, .inr (9, [.ref mM, .ref mL, .ref mS, .null, .int 0, .ref mC, .int 0, .int 0, .int 0, .ref mR, .ref mJ, .ref mA, .int 0, .int 0, .int 0, .ref mD, .ref mT])), (mM, .inl (cy 0, 559, .inl (fun _ => 0))), (mL, .inl (cy 5, 26, .inr (.inr (.inr (.inr g))))), (mS, .inl (cy 0, 559, .inl (fun _ => 0))), (mC, .inl (cy 0, 8, .inl (fun _ => 0))), (mR, .inl (cy 0, 10, .inl (fun _ => 0))), (mJ, .inl (cy 0, 8, .inl (fun _ => 0))), (mA, .inl (cy 0, 8, .inl (fun _ => 0))), (mD, .inl (cy 0, 559, .inl (fun _ => 0))), (mT, .inl (cy 0, 3, .inl (fun _ => 0)))] : va_W)) (cx := ([(md, .inr (9, [.ref mM, .ref mL, .ref mS, .null, .int 0, .ref mC, .int 0, .int 0, .int 0, .ref mR, .ref mJ, .ref mA, .int 0, .int 0, .int 0, .ref mD, .ref mT])), (mM, .inl (cy 0, 559, .inl (fun _ => 0))), (mS, .inl (cy 0, 559, .inl (fun _ => 0))), (mL, .inl (cy 5, 26, .inr (.inr (.inr (.inr g)))))] : va_W)) hD hS hA [4, 5, 7, 6] rfl
  refine va_calli (va_runV (As := []) (rest := [.int 0]) ⟨hx, hb, hml, hown, hts⟩ (c_m_image l D cy md mM mL mS mC mR mJ mA mD mT L g hg H.size) (cwV 0 hts (gt_VL kt_1197 kt_1198 kt_1199 kt_8 kt_1200) rfl rfl rfl (by decide +kernel) ⟨Nat.le_of_ble_eq_true rfl, Nat.le_of_ble_eq_true rfl⟩) (gN_V hK hPc hDc hP (ci := 9) (q0 := 4) rfl rfl) rfl rfl hl.1 rfl (lv_room (Nat.le_of_ble_eq_true rfl)) dL_law_814 ⟨Nat.le_of_ble_eq_true rfl, Nat.le_of_ble_eq_true rfl⟩) hS (fun q _ h => hFc q h) hFc (fun r4 u t H1 locs ht2 hvm hw5 hB hz1 hk1 hS => ?_)
  generalize H1 = H at hS ⊢
  refine W.widen (k := 142) (n := 9634) (Nat.le_of_ble_eq_true rfl) (Nat.le_of_ble_eq_true rfl) ?_
  obtain rfl : r4 = 0 := hw5
  refine lv_icmp_eq (tgt := 858) hx hb dL_law_817 (by decide) (fun _ => ?_) (fun c6 => absurd c6 (by decide))
  exact law_end hx hb hr hlocks hX hbl hbA hAf hS hl (Nat.le_of_ble_eq_true rfl) (Nat.le_of_ble_eq_true rfl)
set_option maxHeartbeats 4000000 in
set_option maxRecDepth 100000 in
theorem law_case_25 {p : Program} {l : Launch} {e : Env} {s : State} {m : MethodId} {below : List Frame} {meth : Method} {c : Code} {b : Nat} {xs : Nat → Int32} {A : Nat → Prop} {H : Heap} {locs : List Loc} {ls : Array Slot} {D : va_G} {cy : Nat → ClassId} {x a0 a1 a2 a3 a4 a5 a6 a7 a8 a9 a10 a11 a12 a13 a14 a15 a16 a17 a18 a19 a20 a21 a22 a23 a24 a25 a26 a27 a28 a29 a30 a31 a32 a33 a34 a35 a36 a37 a38 md mM mL mS mC mR mJ mA mD mT : Nat} {L : List Nat} {g : Nat → Option Nat} (hx : p.tables.exec = Jvm.exec) (hb : c.code = code) (hr : meth.sig.returnType = ret) (hlocks : meth.locks = false) (hml : c.maxLocals = 4) (hown : s.vm.findClass R_law = some m.cls) (hts : ∀ w ∈ lw_tbl, w.before #[Value.ref b] s = true) (hX : va_X b 6 xs s s.heap) (hbl : b < s.heap.size) (hbA : ¬ A b) (hAf : ∀ q, A q → s.heap.size ≤ q) (hA : ∀ q : Nat, s.heap.size ≤ q → A q) (hK : KK D cy s) (hg : okG g L 26) (hP : va_P D classes (wLaw cy x a0 a1 a2 a3 a4 a5 a6 a7 a8 a9 a10 a11 a12 a13 a14 a15 a16 a17 a18 a19 a20 a21 a22 a23 a24 a25 a26 a27 a28 a29 a30 a31 a32 a33 a34 a35 a36 a37 a38 md mM mL mS mC mR mJ mA mD mT L g) H) (hD : va_D A (wLaw cy x a0 a1 a2 a3 a4 a5 a6 a7 a8 a9 a10 a11 a12 a13 a14 a15 a16 a17 a18 a19 a20 a21 a22 a23 a24 a25 a26 a27 a28 a29 a30 a31 a32 a33 a34 a35 a36 a37 a38 md mM mL mS mC mR mJ mA mD mT L g)) (hS : va_S A s.heap H locs) (hl : lv_has ls 4 [(3, .int 0), (2, .ref md), (1, .ref x), (0, .ref b)]) : W p l e room_1 s m #[Value.ref b] below meth c H locs 76 5684 (lw_Z below #[Value.ref b] s) (F0 m 822 ls []) := by
  have ht : ∀ w ∈ GT, w.before #[Value.ref b] s = true := fun w h => hts w (List.mem_filter.mp h).1
  have hP : va_P D classes ([(x, .inr (8, [.ref a0, .null, .null])), (a0, .inr (4, [.ref a1, .int 0, .ref a14, .int 0, .ref a27, .ref a29, .ref a31, .ref a33, .ref a35, .ref a37, .int 0, .int 0, .int 0, .int 0, .int 0])), (a1, .inl (cy 3, 3, .inr (.inr (.inr (.inr (va_up (va_up (va_up (fun _ => none) 0 (some a2)) 1 (some a6)) 2 (some a10))))))), (a2, .inr (3, [.int 0, .int 8, .int 0, .int 0, .int 0, .int 0, .int 0, .ref a3, .ref a4, .ref a5])), (a3, .inl (cy 0, 16, .inl (fun _ => 0))), (a4, .inl (cy 0, 16, .inl (fun _ => 0))), (a5, .inl (cy 0, 48, .inl (fun _ => 0))), (a6, .inr (3, [.int 0, .int 8, .int 0, .int 0, .int 0, .int 0, .int 0, .ref a7, .ref a8, .ref a9])), (a7, .inl (cy 0, 16, .inl (fun _ => 0))), (a8, .inl (cy 0, 16, .inl (fun _ => 0))), (a9, .inl (cy 0, 48, .inl (fun _ => 0))), (a10, .inr (3, [.int 0, .int 8, .int 0, .int 0, .int 0, .int 0, .int 0, .ref a11, .ref a12, .ref a13])), (a11, .inl (cy 0, 16, .inl (fun _ => 0))), (a12, .inl (cy 0, 16, .inl (fun _ => 0))), (a13, .inl (cy 0, 48, .inl (fun _ => 0))), (a14, .inl (cy 4, 12, .inr (.inr (.inr (.inr (va_up (va_up (va_up (va_up (va_up (va_up (va_up (va_up (va_up (va_up (va_up (va_up (fun _ => none) 0 (some a15)) 1 (some a16)) 2 (some a17)) 3 (some a18)) 4 (some a19)) 5 (some a20)) 6 (some a21)) 7 (some a22)) 8 (some a23)) 9 (some a24)) 10 (some a25)) 11 (some a26))))))), (a15, .inr (2, [.int 0, .int 0, .int 0, .int 0, .int 0, .int 0, .int 0, .int 0, .int 0, .int 0, .int 0, .int 0])), (a16, .inr (2, [.int 0, .int 0, .int 0, .int 0, .int 0, .int 0, .int 0, .int 0, .int 0, .int 0, .int 0, .int 0])), (a17, .inr (2, [.int 0, .int 0, .int 0, .int 0, .int 0, .int 0, .int 0, .int 0, .int 0, .int 0, .int 0, .int 0])), (a18, .inr (2, [.int 0, .int 0, .int 0, .int 0, .int 0, .int 0, .int 0, .int 0, .int 0, .int 0, .int 0, .int 0])), (a19, .inr (2, [.int 0, .int 0, .int 0, .int 0, .int 0, .int 0, .int 0, .int 0, .int 0, .int 0, .int 0, .int 0])), (a20, .inr (2, [.int 0, .int 0, .int 0, .int 0, .int 0, .int 0, .int 0, .int 0, .int 0, .int 0, .int 0, .int 0])), (a21, .inr (2, [.int 0, .int 0, .int 0, .int 0, .int 0, .int 0, .int 0, .int 0, .int 0, .int 0, .int 0, .int 0])), (a22, .inr (2, [.int 0, .int 0, .int 0, .int 0, .int 0, .int 0, .int 0, .int 0, .int 0, .int 0, .int 0, .int 0])), (a23, .inr (2, [.int 0, .int 0, .int 0, .int 0, .int 0, .int 0, .int 0, .int 0, .int 0, .int 0, .int 0, .int 0])), (a24, .inr (2, [.int 0, .int 0, .int 0, .int 0, .int 0, .int 0, .int 0, .int 0, .int 0, .int 0, .int 0, .int 0])), (a25, .inr (2, [.int 0, .int 0, .int 0, .int 0, .int 0, .int 0, .int 0, .int 0, .int 0, .int 0, .int 0, .int 0])), (a26, .inr (2, [.int 0, .int 0, .int 0, .int 0, .int 0, .int 0, .int 0, .int 0, .int 0, .int 0, .int 0, .int 0])), (a27, .inr (1, [.ref a28, .int 0, .int 0])), (a28, .inl (cy 1, 16, .inr (.inl (fun _ => 0)))), (a29, .inr (1, [.ref a30, .int 0, .int 0])), (a30, .inl (cy 1, 16, .inr (.inl (fun _ => 0)))), (a31, .inr (1, [.ref a32, .int 0, .int 0])), (a32, .inl (cy 1, 16, .inr (.inl (fun _ => 0)))), (a33, .inr (1, [.ref a34, .int 0, .int 0])), (a34, .inl (cy 1, 16, .inr (.inl (fun _ => 0)))), (a35, .inr (6, [.ref a36, .int 0])), (a36, .inl (cy 2, 40, .inl (fun _ => 0))), (a37, .inr (0, [.ref a38, .int 0])), (a38, .inl (cy 0, 32, .inl (fun _ => 0))), (md, .inr (9, [.ref mM, .ref mL, .ref mS, .null, .int 0, .ref mC, .int 0, .int 0, .int 0, .ref mR, .ref mJ, .ref mA, .int 0, .int 0, .int 0, .ref mD, .ref mT])), (mM, .inl (cy 0, 559, .inl (fun _ => 0))), (mL, .inl (cy 5, 26, .inr (.inr (.inr (.inr g))))), (mS, .inl (cy 0, 559, .inl (fun _ => 0))), (mC, .inl (cy 0, 8, .inl (fun _ => 0))), (mR, .inl (cy 0, 10, .inl (fun _ => 0))), (mJ, .inl (cy 0, 8, .inl (fun _ => 0))), (mA, .inl (cy 0, 8, .inl (fun _ => 0))), (mD, .inl (cy 0, 559, .inl (fun _ => 0))), (mT, .inl (cy 0, 3, .inl (fun _ => 0)))] ++ PL cy L) H := hP
  have hD : va_D A ([(x, .inr (8, [.ref a0, .null, .null])), (a0, .inr (4, [.ref a1, .int 0, .ref a14, .int 0, .ref a27, .ref a29, .ref a31, .ref a33, .ref a35, .ref a37, .int 0, .int 0, .int 0, .int 0, .int 0])), (a1, .inl (cy 3, 3, .inr (.inr (.inr (.inr (va_up (va_up (va_up (fun _ => none) 0 (some a2)) 1 (some a6)) 2 (some a10))))))), (a2, .inr (3, [.int 0, .int 8, .int 0, .int 0, .int 0, .int 0, .int 0, .ref a3, .ref a4, .ref a5])), (a3, .inl (cy 0, 16, .inl (fun _ => 0))), (a4, .inl (cy 0, 16, .inl (fun _ => 0))), (a5, .inl (cy 0, 48, .inl (fun _ => 0))), (a6, .inr (3, [.int 0, .int 8, .int 0, .int 0, .int 0, .int 0, .int 0, .ref a7, .ref a8, .ref a9])), (a7, .inl (cy 0, 16, .inl (fun _ => 0))), (a8, .inl (cy 0, 16, .inl (fun _ => 0))), (a9, .inl (cy 0, 48, .inl (fun _ => 0))), (a10, .inr (3, [.int 0, .int 8, .int 0, .int 0, .int 0, .int 0, .int 0, .ref a11, .ref a12, .ref a13])), (a11, .inl (cy 0, 16, .inl (fun _ => 0))), (a12, .inl (cy 0, 16, .inl (fun _ => 0))), (a13, .inl (cy 0, 48, .inl (fun _ => 0))), (a14, .inl (cy 4, 12, .inr (.inr (.inr (.inr (va_up (va_up (va_up (va_up (va_up (va_up (va_up (va_up (va_up (va_up (va_up (va_up (fun _ => none) 0 (some a15)) 1 (some a16)) 2 (some a17)) 3 (some a18)) 4 (some a19)) 5 (some a20)) 6 (some a21)) 7 (some a22)) 8 (some a23)) 9 (some a24)) 10 (some a25)) 11 (some a26))))))), (a15, .inr (2, [.int 0, .int 0, .int 0, .int 0, .int 0, .int 0, .int 0, .int 0, .int 0, .int 0, .int 0, .int 0])), (a16, .inr (2, [.int 0, .int 0, .int 0, .int 0, .int 0, .int 0, .int 0, .int 0, .int 0, .int 0, .int 0, .int 0])), (a17, .inr (2, [.int 0, .int 0, .int 0, .int 0, .int 0, .int 0, .int 0, .int 0, .int 0, .int 0, .int 0, .int 0])), (a18, .inr (2, [.int 0, .int 0, .int 0, .int 0, .int 0, .int 0, .int 0, .int 0, .int 0, .int 0, .int 0, .int 0])), (a19, .inr (2, [.int 0, .int 0, .int 0, .int 0, .int 0, .int 0, .int 0, .int 0, .int 0, .int 0, .int 0, .int 0])), (a20, .inr (2, [.int 0, .int 0, .int 0, .int 0, .int 0, .int 0, .int 0, .int 0, .int 0, .int 0, .int 0, .int 0])), (a21, .inr (2, [.int 0, .int 0, .int 0, .int 0, .int 0, .int 0, .int 0, .int 0, .int 0, .int 0, .int 0, .int 0])), (a22, .inr (2, [.int 0, .int 0, .int 0, .int 0, .int 0, .int 0, .int 0, .int 0, .int 0, .int 0, .int 0, .int 0])), (a23, .inr (2, [.int 0, .int 0, .int 0, .int 0, .int 0, .int 0, .int 0, .int 0, .int 0, .int 0, .int 0, .int 0])), (a24, .inr (2, [.int 0, .int 0, .int 0, .int 0, .int 0, .int 0, .int 0, .int 0, .int 0, .int 0, .int 0, .int 0])), (a25, .inr (2, [.int 0, .int 0, .int 0, .int 0, .int 0, .int 0, .int 0, .int 0, .int 0, .int 0, .int 0, .int 0])), (a26, .inr (2, [.int 0, .int 0, .int 0, .int 0, .int 0, .int 0, .int 0, .int 0, .int 0, .int 0, .int 0, .int 0])), (a27, .inr (1, [.ref a28, .int 0, .int 0])), (a28, .inl (cy 1, 16, .inr (.inl (fun _ => 0)))), (a29, .inr (1, [.ref a30, .int 0, .int 0])), (a30, .inl (cy 1, 16, .inr (.inl (fun _ => 0)))), (a31, .inr (1, [.ref a32, .int 0, .int 0])), (a32, .inl (cy 1, 16, .inr (.inl (fun _ => 0)))), (a33, .inr (1, [.ref a34, .int 0, .int 0])), (a34, .inl (cy 1, 16, .inr (.inl (fun _ => 0)))), (a35, .inr (6, [.ref a36, .int 0])), (a36, .inl (cy 2, 40, .inl (fun _ => 0))), (a37, .inr (0, [.ref a38, .int 0])), (a38, .inl (cy 0, 32, .inl (fun _ => 0))), (md, .inr (9, [.ref mM, .ref mL, .ref mS, .null, .int 0, .ref mC, .int 0, .int 0, .int 0, .ref mR, .ref mJ, .ref mA, .int 0, .int 0, .int 0, .ref mD, .ref mT])), (mM, .inl (cy 0, 559, .inl (fun _ => 0))), (mL, .inl (cy 5, 26, .inr (.inr (.inr (.inr g))))), (mS, .inl (cy 0, 559, .inl (fun _ => 0))), (mC, .inl (cy 0, 8, .inl (fun _ => 0))), (mR, .inl (cy 0, 10, .inl (fun _ => 0))), (mJ, .inl (cy 0, 8, .inl (fun _ => 0))), (mA, .inl (cy 0, 8, .inl (fun _ => 0))), (mD, .inl (cy 0, 559, .inl (fun _ => 0))), (mT, .inl (cy 0, 3, .inl (fun _ => 0)))] ++ PL cy L) := hD
  refine lv_aload_n hx hb dL_law_822 rfl (lv_at hl 2 rfl) ?_
  refine vp_callSi (va_Run.run (va_runV (As := []) (rest := []) ⟨hx, hb, hml, hown, hts⟩ (c78_X9_undo l D cy x a0) (cwV 0 hts (gt_VL kt_829 kt_830 kt_831 kt_1 kt_832) rfl rfl rfl (by decide +kernel) ⟨Nat.le_of_ble_eq_true rfl, Nat.le_of_ble_eq_true rfl⟩) (gP_V hK (hP.sub (ws' := (w78 cy x a0)) [0] rfl) hP (ci := 8) (q0 := 0) rfl rfl) rfl rfl hl.1 rfl (lv_room (Nat.le_of_ble_eq_true rfl)) dL_law_823 ⟨Nat.le_of_ble_eq_true rfl, Nat.le_of_ble_eq_true rfl⟩)) (fun r1 hw2 => ?_)
  obtain rfl : r1 = (-3) := hw2
  refine lv_aload_n hx hb dL_law_826 rfl (lv_at hl 1 rfl) ?_
  refine vp_callSi (va_Run.run (va_runV (As := []) (rest := [.int (-3)]) ⟨hx, hb, hml, hown, hts⟩ (c129_X10_undo l D cy md mM mL mS mC mR mJ mA mD mT) (cwV 0 hts (gt_VL kt_1201 kt_1202 kt_1203 kt_8 kt_1204) rfl rfl rfl (by decide +kernel) ⟨Nat.le_of_ble_eq_true rfl, Nat.le_of_ble_eq_true rfl⟩) (gP_V hK (hP.sub (ws' := (w129 cy md mM mL mS mC mR mJ mA mD mT)) [40] rfl) hP (ci := 9) (q0 := 40) rfl rfl) rfl rfl hl.1 rfl (lv_room (Nat.le_of_ble_eq_true rfl)) dL_law_827 ⟨Nat.le_of_ble_eq_true rfl, Nat.le_of_ble_eq_true rfl⟩)) (fun r3 hw4 => ?_)
  obtain rfl : r3 = (-3) := hw4
  refine lv_icmp_eq (tgt := 858) hx hb dL_law_830 (by decide) (fun _ => ?_) (fun c5 => absurd c5 (by decide))
  exact law_end hx hb hr hlocks hX hbl hbA hAf hS hl (Nat.le_of_ble_eq_true rfl) (Nat.le_of_ble_eq_true rfl)
set_option maxHeartbeats 4000000 in
set_option maxRecDepth 100000 in
theorem law_case_26 {p : Program} {l : Launch} {e : Env} {s : State} {m : MethodId} {below : List Frame} {meth : Method} {c : Code} {b : Nat} {xs : Nat → Int32} {A : Nat → Prop} {H : Heap} {locs : List Loc} {ls : Array Slot} {D : va_G} {cy : Nat → ClassId} {x a0 a1 a2 a3 a4 a5 a6 a7 a8 a9 a10 a11 a12 a13 a14 a15 a16 a17 a18 a19 a20 a21 a22 a23 a24 a25 a26 a27 a28 a29 a30 a31 a32 a33 a34 a35 a36 a37 a38 md mM mL mS mC mR mJ mA mD mT : Nat} {L : List Nat} {g : Nat → Option Nat} (hx : p.tables.exec = Jvm.exec) (hb : c.code = code) (hr : meth.sig.returnType = ret) (hlocks : meth.locks = false) (hml : c.maxLocals = 4) (hown : s.vm.findClass R_law = some m.cls) (hts : ∀ w ∈ lw_tbl, w.before #[Value.ref b] s = true) (hX : va_X b 6 xs s s.heap) (hbl : b < s.heap.size) (hbA : ¬ A b) (hAf : ∀ q, A q → s.heap.size ≤ q) (hA : ∀ q : Nat, s.heap.size ≤ q → A q) (hK : KK D cy s) (hg : okG g L 26) (hP : va_P D classes (wLaw cy x a0 a1 a2 a3 a4 a5 a6 a7 a8 a9 a10 a11 a12 a13 a14 a15 a16 a17 a18 a19 a20 a21 a22 a23 a24 a25 a26 a27 a28 a29 a30 a31 a32 a33 a34 a35 a36 a37 a38 md mM mL mS mC mR mJ mA mD mT L g) H) (hD : va_D A (wLaw cy x a0 a1 a2 a3 a4 a5 a6 a7 a8 a9 a10 a11 a12 a13 a14 a15 a16 a17 a18 a19 a20 a21 a22 a23 a24 a25 a26 a27 a28 a29 a30 a31 a32 a33 a34 a35 a36 a37 a38 md mM mL mS mC mR mJ mA mD mT L g)) (hS : va_S A s.heap H locs) (hl : lv_has ls 4 [(3, .int 0), (2, .ref md), (1, .ref x), (0, .ref b)]) : W p l e room_1 s m #[Value.ref b] below meth c H locs 76 5684 (lw_Z below #[Value.ref b] s) (F0 m 835 ls []) := by
  have ht : ∀ w ∈ GT, w.before #[Value.ref b] s = true := fun w h => hts w (List.mem_filter.mp h).1
  have hP : va_P D classes ([(x, .inr (8, [.ref a0, .null, .null])), (a0, .inr (4, [.ref a1, .int 0, .ref a14, .int 0, .ref a27, .ref a29, .ref a31, .ref a33, .ref a35, .ref a37, .int 0, .int 0, .int 0, .int 0, .int 0])), (a1, .inl (cy 3, 3, .inr (.inr (.inr (.inr (va_up (va_up (va_up (fun _ => none) 0 (some a2)) 1 (some a6)) 2 (some a10))))))), (a2, .inr (3, [.int 0, .int 8, .int 0, .int 0, .int 0, .int 0, .int 0, .ref a3, .ref a4, .ref a5])), (a3, .inl (cy 0, 16, .inl (fun _ => 0))), (a4, .inl (cy 0, 16, .inl (fun _ => 0))), (a5, .inl (cy 0, 48, .inl (fun _ => 0))), (a6, .inr (3, [.int 0, .int 8, .int 0, .int 0, .int 0, .int 0, .int 0, .ref a7, .ref a8, .ref a9])), (a7, .inl (cy 0, 16, .inl (fun _ => 0))), (a8, .inl (cy 0, 16, .inl (fun _ => 0))), (a9, .inl (cy 0, 48, .inl (fun _ => 0))), (a10, .inr (3, [.int 0, .int 8, .int 0, .int 0, .int 0, .int 0, .int 0, .ref a11, .ref a12, .ref a13])), (a11, .inl (cy 0, 16, .inl (fun _ => 0))), (a12, .inl (cy 0, 16, .inl (fun _ => 0))), (a13, .inl (cy 0, 48, .inl (fun _ => 0))), (a14, .inl (cy 4, 12, .inr (.inr (.inr (.inr (va_up (va_up (va_up (va_up (va_up (va_up (va_up (va_up (va_up (va_up (va_up (va_up (fun _ => none) 0 (some a15)) 1 (some a16)) 2 (some a17)) 3 (some a18)) 4 (some a19)) 5 (some a20)) 6 (some a21)) 7 (some a22)) 8 (some a23)) 9 (some a24)) 10 (some a25)) 11 (some a26))))))), (a15, .inr (2, [.int 0, .int 0, .int 0, .int 0, .int 0, .int 0, .int 0, .int 0, .int 0, .int 0, .int 0, .int 0])), (a16, .inr (2, [.int 0, .int 0, .int 0, .int 0, .int 0, .int 0, .int 0, .int 0, .int 0, .int 0, .int 0, .int 0])), (a17, .inr (2, [.int 0, .int 0, .int 0, .int 0, .int 0, .int 0, .int 0, .int 0, .int 0, .int 0, .int 0, .int 0])), (a18, .inr (2, [.int 0, .int 0, .int 0, .int 0, .int 0, .int 0, .int 0, .int 0, .int 0, .int 0, .int 0, .int 0])), (a19, .inr (2, [.int 0, .int 0, .int 0, .int 0, .int 0, .int 0, .int 0, .int 0, .int 0, .int 0, .int 0, .int 0])), (a20, .inr (2, [.int 0, .int 0, .int 0, .int 0, .int 0, .int 0, .int 0, .int 0, .int 0, .int 0, .int 0, .int 0])), (a21, .inr (2, [.int 0, .int 0, .int 0, .int 0, .int 0, .int 0, .int 0, .int 0, .int 0, .int 0, .int 0, .int 0])), (a22, .inr (2, [.int 0, .int 0, .int 0, .int 0, .int 0, .int 0, .int 0, .int 0, .int 0, .int 0, .int 0, .int 0])), (a23, .inr (2, [.int 0, .int 0, .int 0, .int 0, .int 0, .int 0, .int 0, .int 0, .int 0, .int 0, .int 0, .int 0])), (a24, .inr (2, [.int 0, .int 0, .int 0, .int 0, .int 0, .int 0, .int 0, .int 0, .int 0, .int 0, .int 0, .int 0])), (a25, .inr (2, [.int 0, .int 0, .int 0, .int 0, .int 0, .int 0, .int 0, .int 0, .int 0, .int 0, .int 0, .int 0])), (a26, .inr (2, [.int 0, .int 0, .int 0, .int 0, .int 0, .int 0, .int 0, .int 0, .int 0, .int 0, .int 0, .int 0])), (a27, .inr (1, [.ref a28, .int 0, .int 0])), (a28, .inl (cy 1, 16, .inr (.inl (fun _ => 0)))), (a29, .inr (1, [.ref a30, .int 0, .int 0])), (a30, .inl (cy 1, 16, .inr (.inl (fun _ => 0)))), (a31, .inr (1, [.ref a32, .int 0, .int 0])), (a32, .inl (cy 1, 16, .inr (.inl (fun _ => 0)))), (a33, .inr (1, [.ref a34, .int 0, .int 0])), (a34, .inl (cy 1, 16, .inr (.inl (fun _ => 0)))), (a35, .inr (6, [.ref a36, .int 0])), (a36, .inl (cy 2, 40, .inl (fun _ => 0))), (a37, .inr (0, [.ref a38, .int 0])), (a38, .inl (cy 0, 32, .inl (fun _ => 0))), (md, .inr (9, [.ref mM, .ref mL, .ref mS, .null, .int 0, .ref mC, .int 0, .int 0, .int 0, .ref mR, .ref mJ, .ref mA, .int 0, .int 0, .int 0, .ref mD, .ref mT])), (mM, .inl (cy 0, 559, .inl (fun _ => 0))), (mL, .inl (cy 5, 26, .inr (.inr (.inr (.inr g))))), (mS, .inl (cy 0, 559, .inl (fun _ => 0))), (mC, .inl (cy 0, 8, .inl (fun _ => 0))), (mR, .inl (cy 0, 10, .inl (fun _ => 0))), (mJ, .inl (cy 0, 8, .inl (fun _ => 0))), (mA, .inl (cy 0, 8, .inl (fun _ => 0))), (mD, .inl (cy 0, 559, .inl (fun _ => 0))), (mT, .inl (cy 0, 3, .inl (fun _ => 0)))] ++ PL cy L) H := hP
  have hD : va_D A ([(x, .inr (8, [.ref a0, .null, .null])), (a0, .inr (4, [.ref a1, .int 0, .ref a14, .int 0, .ref a27, .ref a29, .ref a31, .ref a33, .ref a35, .ref a37, .int 0, .int 0, .int 0, .int 0, .int 0])), (a1, .inl (cy 3, 3, .inr (.inr (.inr (.inr (va_up (va_up (va_up (fun _ => none) 0 (some a2)) 1 (some a6)) 2 (some a10))))))), (a2, .inr (3, [.int 0, .int 8, .int 0, .int 0, .int 0, .int 0, .int 0, .ref a3, .ref a4, .ref a5])), (a3, .inl (cy 0, 16, .inl (fun _ => 0))), (a4, .inl (cy 0, 16, .inl (fun _ => 0))), (a5, .inl (cy 0, 48, .inl (fun _ => 0))), (a6, .inr (3, [.int 0, .int 8, .int 0, .int 0, .int 0, .int 0, .int 0, .ref a7, .ref a8, .ref a9])), (a7, .inl (cy 0, 16, .inl (fun _ => 0))), (a8, .inl (cy 0, 16, .inl (fun _ => 0))), (a9, .inl (cy 0, 48, .inl (fun _ => 0))), (a10, .inr (3, [.int 0, .int 8, .int 0, .int 0, .int 0, .int 0, .int 0, .ref a11, .ref a12, .ref a13])), (a11, .inl (cy 0, 16, .inl (fun _ => 0))), (a12, .inl (cy 0, 16, .inl (fun _ => 0))), (a13, .inl (cy 0, 48, .inl (fun _ => 0))), (a14, .inl (cy 4, 12, .inr (.inr (.inr (.inr (va_up (va_up (va_up (va_up (va_up (va_up (va_up (va_up (va_up (va_up (va_up (va_up (fun _ => none) 0 (some a15)) 1 (some a16)) 2 (some a17)) 3 (some a18)) 4 (some a19)) 5 (some a20)) 6 (some a21)) 7 (some a22)) 8 (some a23)) 9 (some a24)) 10 (some a25)) 11 (some a26))))))), (a15, .inr (2, [.int 0, .int 0, .int 0, .int 0, .int 0, .int 0, .int 0, .int 0, .int 0, .int 0, .int 0, .int 0])), (a16, .inr (2, [.int 0, .int 0, .int 0, .int 0, .int 0, .int 0, .int 0, .int 0, .int 0, .int 0, .int 0, .int 0])), (a17, .inr (2, [.int 0, .int 0, .int 0, .int 0, .int 0, .int 0, .int 0, .int 0, .int 0, .int 0, .int 0, .int 0])), (a18, .inr (2, [.int 0, .int 0, .int 0, .int 0, .int 0, .int 0, .int 0, .int 0, .int 0, .int 0, .int 0, .int 0])), (a19, .inr (2, [.int 0, .int 0, .int 0, .int 0, .int 0, .int 0, .int 0, .int 0, .int 0, .int 0, .int 0, .int 0])), (a20, .inr (2, [.int 0, .int 0, .int 0, .int 0, .int 0, .int 0, .int 0, .int 0, .int 0, .int 0, .int 0, .int 0])), (a21, .inr (2, [.int 0, .int 0, .int 0, .int 0, .int 0, .int 0, .int 0, .int 0, .int 0, .int 0, .int 0, .int 0])), (a22, .inr (2, [.int 0, .int 0, .int 0, .int 0, .int 0, .int 0, .int 0, .int 0, .int 0, .int 0, .int 0, .int 0])), (a23, .inr (2, [.int 0, .int 0, .int 0, .int 0, .int 0, .int 0, .int 0, .int 0, .int 0, .int 0, .int 0, .int 0])), (a24, .inr (2, [.int 0, .int 0, .int 0, .int 0, .int 0, .int 0, .int 0, .int 0, .int 0, .int 0, .int 0, .int 0])), (a25, .inr (2, [.int 0, .int 0, .int 0, .int 0, .int 0, .int 0, .int 0, .int 0, .int 0, .int 0, .int 0, .int 0])), (a26, .inr (2, [.int 0, .int 0, .int 0, .int 0, .int 0, .int 0, .int 0, .int 0, .int 0, .int 0, .int 0, .int 0])), (a27, .inr (1, [.ref a28, .int 0, .int 0])), (a28, .inl (cy 1, 16, .inr (.inl (fun _ => 0)))), (a29, .inr (1, [.ref a30, .int 0, .int 0])), (a30, .inl (cy 1, 16, .inr (.inl (fun _ => 0)))), (a31, .inr (1, [.ref a32, .int 0, .int 0])), (a32, .inl (cy 1, 16, .inr (.inl (fun _ => 0)))), (a33, .inr (1, [.ref a34, .int 0, .int 0])), (a34, .inl (cy 1, 16, .inr (.inl (fun _ => 0)))), (a35, .inr (6, [.ref a36, .int 0])), (a36, .inl (cy 2, 40, .inl (fun _ => 0))), (a37, .inr (0, [.ref a38, .int 0])), (a38, .inl (cy 0, 32, .inl (fun _ => 0))), (md, .inr (9, [.ref mM, .ref mL, .ref mS, .null, .int 0, .ref mC, .int 0, .int 0, .int 0, .ref mR, .ref mJ, .ref mA, .int 0, .int 0, .int 0, .ref mD, .ref mT])), (mM, .inl (cy 0, 559, .inl (fun _ => 0))), (mL, .inl (cy 5, 26, .inr (.inr (.inr (.inr g))))), (mS, .inl (cy 0, 559, .inl (fun _ => 0))), (mC, .inl (cy 0, 8, .inl (fun _ => 0))), (mR, .inl (cy 0, 10, .inl (fun _ => 0))), (mJ, .inl (cy 0, 8, .inl (fun _ => 0))), (mA, .inl (cy 0, 8, .inl (fun _ => 0))), (mD, .inl (cy 0, 559, .inl (fun _ => 0))), (mT, .inl (cy 0, 3, .inl (fun _ => 0)))] ++ PL cy L) := hD
  refine lv_aload_n hx hb dL_law_835 rfl (lv_at hl 2 rfl) ?_
  refine lv_aload_n hx hb dL_law_836 rfl (lv_at hl 3 rfl) ?_
  refine lv_iload_n hx hb dL_law_837 rfl (lv_at hl 0 rfl) ?_
  refine lv_iconst (v := 1) hx hb dL_law_838 (by decide) ?_
  refine lv_iadd hx hb dL_law_839 ?_
  refine lz_i 1 (by decide) ?_
  refine va_sld hx hb hX hbl hbA hS (vin (by decide)) dL_law_840 ?_
  refine lv_topi (fun sv1 esv1 => ?_)
  refine vp_callSi (va_Run.run (va_runV (As := [.int sv1]) (rest := []) ⟨hx, hb, hml, hown, hts⟩ (c80_X9_count l D cy x a0 a1 a14 a27 a29 a31 a33 a35 a37 a28 a34 a36 a38 sv1) (cwV 1 hts (gt_VL kt_833 kt_834 kt_835 kt_1 kt_836) rfl rfl rfl (by decide +kernel) ⟨Nat.le_of_ble_eq_true rfl, Nat.le_of_ble_eq_true rfl⟩) (gP_V hK (hP.sub (ws' := (w80 cy x a0 a1 a14 a27 a29 a31 a33 a35 a37 a28 a34 a36 a38 sv1)) [0, 1, 28, 34, 36, 38] rfl) hP (ci := 8) (q0 := 0) rfl rfl) rfl rfl hl.1 rfl (lv_room (Nat.le_of_ble_eq_true rfl)) dL_law_841 ⟨Nat.le_of_ble_eq_true rfl, Nat.le_of_ble_eq_true rfl⟩)) (fun r1 hw2 => ?_)
  rcases hw2 with ⟨c3, rfl⟩ | ⟨c4, c5, rfl⟩ | ⟨c6, c7, c8, rfl⟩ | ⟨c9, c10, c11, c12, rfl⟩ | ⟨c13, c14, c15, c16, c17, rfl⟩ | ⟨c18, c19, c20, c21, c22, c23, rfl⟩ | ⟨c24, c25, c26, c27, c28, c29, c30, rfl⟩ | ⟨c31, c32, c33, c34, c35, c36, c37, c38, rfl⟩ | ⟨c39, c40, c41, c42, c43, c44, c45, c46, c47, rfl⟩ | ⟨c48, c49, c50, c51, c52, c53, c54, c55, c56, c57, rfl⟩ | ⟨c58, c59, c60, c61, c62, c63, c64, c65, c66, c67, c68, rfl⟩ | ⟨c69, c70, c71, c72, c73, c74, c75, c76, c77, c78, c79, c80, rfl⟩ | ⟨c81, c82, c83, c84, c85, c86, c87, c88, c89, c90, c91, c92, rfl⟩
  · skip
    refine lv_aload_n hx hb dL_law_844 rfl (lv_at hl 1 rfl) ?_
    refine lv_aload_n hx hb dL_law_845 rfl (lv_at hl 3 rfl) ?_
    refine lv_iload_n hx hb dL_law_846 rfl (lv_at hl 0 rfl) ?_
    refine lv_iconst (v := 1) hx hb dL_law_847 (by decide) ?_
    refine lv_iadd hx hb dL_law_848 ?_
    refine lz_i 1 (by decide) ?_
    refine va_sld hx hb hX hbl hbA hS (vin (by decide)) dL_law_849 ?_
    refine lz_i sv1 esv1.symm ?_
    refine vp_callSi (va_Run.run (va_runV (As := [.int sv1]) (rest := [.int 0]) ⟨hx, hb, hml, hown, hts⟩ (c131_X10_count l D cy md mM mL mS mC mR mJ mA mD mT sv1) (cwV 1 hts (gt_VL kt_1205 kt_1206 kt_1207 kt_8 kt_1208) rfl rfl rfl (by decide +kernel) ⟨Nat.le_of_ble_eq_true rfl, Nat.le_of_ble_eq_true rfl⟩) (gP_V hK (hP.sub (ws' := (w131 cy md mM mL mS mC mR mJ mA mD mT sv1)) [40, 41] rfl) hP (ci := 9) (q0 := 40) rfl rfl) rfl rfl hl.1 rfl (lv_room (Nat.le_of_ble_eq_true rfl)) dL_law_850 ⟨Nat.le_of_ble_eq_true rfl, Nat.le_of_ble_eq_true rfl⟩)) (fun r93 hw94 => ?_)
    rcases hw94 with ⟨c95, rfl⟩ | ⟨c96, c97, rfl⟩ | ⟨c98, c99, c100, rfl⟩ | ⟨c101, c102, c103, c104, rfl⟩ | ⟨c105, c106, c107, c108, c109, rfl⟩ | ⟨c110, c111, c112, c113, c114, c115, rfl⟩ | ⟨c116, c117, c118, c119, c120, c121, c122, rfl⟩ | ⟨c123, c124, c125, c126, c127, c128, c129, c130, rfl⟩ | ⟨c131, c132, c133, c134, c135, c136, c137, c138, c139, rfl⟩ | ⟨c140, c141, c142, c143, c144, c145, c146, c147, c148, c149, rfl⟩ | ⟨c150, c151, c152, c153, c154, c155, c156, c157, c158, c159, c160, rfl⟩ | ⟨c161, c162, c163, c164, c165, c166, c167, c168, c169, c170, c171, c172, rfl⟩ | ⟨c173, c174, c175, c176, c177, c178, c179, c180, c181, c182, c183, c184, rfl⟩
    · skip
      refine lv_icmp_eq (tgt := 858) hx hb dL_law_853 (by decide) (fun _ => ?_) (fun c185 => absurd c185 (by decide))
      exact law_end hx hb hr hlocks hX hbl hbA hAf hS hl (Nat.le_of_ble_eq_true rfl) (Nat.le_of_ble_eq_true rfl)
    · skip
      exact (by omega : False).elim
    · skip
      exact (by omega : False).elim
    · skip
      exact (by omega : False).elim
    · skip
      exact (by omega : False).elim
    · skip
      exact (by omega : False).elim
    · skip
      exact (by omega : False).elim
    · skip
      exact (by omega : False).elim
    · skip
      exact (by omega : False).elim
    · skip
      exact (by omega : False).elim
    · skip
      exact (by omega : False).elim
    · skip
      exact (by omega : False).elim
    · skip
      exact (by omega : False).elim
  · skip
    refine lv_aload_n hx hb dL_law_844 rfl (lv_at hl 1 rfl) ?_
    refine lv_aload_n hx hb dL_law_845 rfl (lv_at hl 3 rfl) ?_
    refine lv_iload_n hx hb dL_law_846 rfl (lv_at hl 0 rfl) ?_
    refine lv_iconst (v := 1) hx hb dL_law_847 (by decide) ?_
    refine lv_iadd hx hb dL_law_848 ?_
    refine lz_i 1 (by decide) ?_
    refine va_sld hx hb hX hbl hbA hS (vin (by decide)) dL_law_849 ?_
    refine lz_i sv1 esv1.symm ?_
    refine vp_callSi (va_Run.run (va_runV (As := [.int sv1]) (rest := [.int 0]) ⟨hx, hb, hml, hown, hts⟩ (c131_X10_count l D cy md mM mL mS mC mR mJ mA mD mT sv1) (cwV 1 hts (gt_VL kt_1205 kt_1206 kt_1207 kt_8 kt_1208) rfl rfl rfl (by decide +kernel) ⟨Nat.le_of_ble_eq_true rfl, Nat.le_of_ble_eq_true rfl⟩) (gP_V hK (hP.sub (ws' := (w131 cy md mM mL mS mC mR mJ mA mD mT sv1)) [40, 41] rfl) hP (ci := 9) (q0 := 40) rfl rfl) rfl rfl hl.1 rfl (lv_room (Nat.le_of_ble_eq_true rfl)) dL_law_850 ⟨Nat.le_of_ble_eq_true rfl, Nat.le_of_ble_eq_true rfl⟩)) (fun r186 hw187 => ?_)
    rcases hw187 with ⟨c188, rfl⟩ | ⟨c189, c190, rfl⟩ | ⟨c191, c192, c193, rfl⟩ | ⟨c194, c195, c196, c197, rfl⟩ | ⟨c198, c199, c200, c201, c202, rfl⟩ | ⟨c203, c204, c205, c206, c207, c208, rfl⟩ | ⟨c209, c210, c211, c212, c213, c214, c215, rfl⟩ | ⟨c216, c217, c218, c219, c220, c221, c222, c223, rfl⟩ | ⟨c224, c225, c226, c227, c228, c229, c230, c231, c232, rfl⟩ | ⟨c233, c234, c235, c236, c237, c238, c239, c240, c241, c242, rfl⟩ | ⟨c243, c244, c245, c246, c247, c248, c249, c250, c251, c252, c253, rfl⟩ | ⟨c254, c255, c256, c257, c258, c259, c260, c261, c262, c263, c264, c265, rfl⟩ | ⟨c266, c267, c268, c269, c270, c271, c272, c273, c274, c275, c276, c277, rfl⟩
    · skip
      exact (by omega : False).elim
    · skip
      refine lv_icmp_eq (tgt := 858) hx hb dL_law_853 (by decide) (fun _ => ?_) (fun c278 => absurd c278 (by decide))
      exact law_end hx hb hr hlocks hX hbl hbA hAf hS hl (Nat.le_of_ble_eq_true rfl) (Nat.le_of_ble_eq_true rfl)
    · skip
      exact (by omega : False).elim
    · skip
      exact (by omega : False).elim
    · skip
      exact (by omega : False).elim
    · skip
      exact (by omega : False).elim
    · skip
      exact (by omega : False).elim
    · skip
      exact (by omega : False).elim
    · skip
      exact (by omega : False).elim
    · skip
      exact (by omega : False).elim
    · skip
      exact (by omega : False).elim
    · skip
      exact (by omega : False).elim
    · skip
      exact (by omega : False).elim
  · skip
    refine lv_aload_n hx hb dL_law_844 rfl (lv_at hl 1 rfl) ?_
    refine lv_aload_n hx hb dL_law_845 rfl (lv_at hl 3 rfl) ?_
    refine lv_iload_n hx hb dL_law_846 rfl (lv_at hl 0 rfl) ?_
    refine lv_iconst (v := 1) hx hb dL_law_847 (by decide) ?_
    refine lv_iadd hx hb dL_law_848 ?_
    refine lz_i 1 (by decide) ?_
    refine va_sld hx hb hX hbl hbA hS (vin (by decide)) dL_law_849 ?_
    refine lz_i sv1 esv1.symm ?_
    refine vp_callSi (va_Run.run (va_runV (As := [.int sv1]) (rest := [.int 0]) ⟨hx, hb, hml, hown, hts⟩ (c131_X10_count l D cy md mM mL mS mC mR mJ mA mD mT sv1) (cwV 1 hts (gt_VL kt_1205 kt_1206 kt_1207 kt_8 kt_1208) rfl rfl rfl (by decide +kernel) ⟨Nat.le_of_ble_eq_true rfl, Nat.le_of_ble_eq_true rfl⟩) (gP_V hK (hP.sub (ws' := (w131 cy md mM mL mS mC mR mJ mA mD mT sv1)) [40, 41] rfl) hP (ci := 9) (q0 := 40) rfl rfl) rfl rfl hl.1 rfl (lv_room (Nat.le_of_ble_eq_true rfl)) dL_law_850 ⟨Nat.le_of_ble_eq_true rfl, Nat.le_of_ble_eq_true rfl⟩)) (fun r279 hw280 => ?_)
    rcases hw280 with ⟨c281, rfl⟩ | ⟨c282, c283, rfl⟩ | ⟨c284, c285, c286, rfl⟩ | ⟨c287, c288, c289, c290, rfl⟩ | ⟨c291, c292, c293, c294, c295, rfl⟩ | ⟨c296, c297, c298, c299, c300, c301, rfl⟩ | ⟨c302, c303, c304, c305, c306, c307, c308, rfl⟩ | ⟨c309, c310, c311, c312, c313, c314, c315, c316, rfl⟩ | ⟨c317, c318, c319, c320, c321, c322, c323, c324, c325, rfl⟩ | ⟨c326, c327, c328, c329, c330, c331, c332, c333, c334, c335, rfl⟩ | ⟨c336, c337, c338, c339, c340, c341, c342, c343, c344, c345, c346, rfl⟩ | ⟨c347, c348, c349, c350, c351, c352, c353, c354, c355, c356, c357, c358, rfl⟩ | ⟨c359, c360, c361, c362, c363, c364, c365, c366, c367, c368, c369, c370, rfl⟩
    · skip
      exact (by omega : False).elim
    · skip
      exact (by omega : False).elim
    · skip
      refine lv_icmp_eq (tgt := 858) hx hb dL_law_853 (by decide) (fun _ => ?_) (fun c371 => absurd c371 (by decide))
      exact law_end hx hb hr hlocks hX hbl hbA hAf hS hl (Nat.le_of_ble_eq_true rfl) (Nat.le_of_ble_eq_true rfl)
    · skip
      exact (by omega : False).elim
    · skip
      exact (by omega : False).elim
    · skip
      exact (by omega : False).elim
    · skip
      exact (by omega : False).elim
    · skip
      exact (by omega : False).elim
    · skip
      exact (by omega : False).elim
    · skip
      exact (by omega : False).elim
    · skip
      exact (by omega : False).elim
    · skip
      exact (by omega : False).elim
    · skip
      exact (by omega : False).elim
  · skip
    refine lv_aload_n hx hb dL_law_844 rfl (lv_at hl 1 rfl) ?_
    refine lv_aload_n hx hb dL_law_845 rfl (lv_at hl 3 rfl) ?_
    refine lv_iload_n hx hb dL_law_846 rfl (lv_at hl 0 rfl) ?_
    refine lv_iconst (v := 1) hx hb dL_law_847 (by decide) ?_
    refine lv_iadd hx hb dL_law_848 ?_
    refine lz_i 1 (by decide) ?_
    refine va_sld hx hb hX hbl hbA hS (vin (by decide)) dL_law_849 ?_
    refine lz_i sv1 esv1.symm ?_
    refine vp_callSi (va_Run.run (va_runV (As := [.int sv1]) (rest := [.int 0]) ⟨hx, hb, hml, hown, hts⟩ (c131_X10_count l D cy md mM mL mS mC mR mJ mA mD mT sv1) (cwV 1 hts (gt_VL kt_1205 kt_1206 kt_1207 kt_8 kt_1208) rfl rfl rfl (by decide +kernel) ⟨Nat.le_of_ble_eq_true rfl, Nat.le_of_ble_eq_true rfl⟩) (gP_V hK (hP.sub (ws' := (w131 cy md mM mL mS mC mR mJ mA mD mT sv1)) [40, 41] rfl) hP (ci := 9) (q0 := 40) rfl rfl) rfl rfl hl.1 rfl (lv_room (Nat.le_of_ble_eq_true rfl)) dL_law_850 ⟨Nat.le_of_ble_eq_true rfl, Nat.le_of_ble_eq_true rfl⟩)) (fun r372 hw373 => ?_)
    rcases hw373 with ⟨c374, rfl⟩ | ⟨c375, c376, rfl⟩ | ⟨c377, c378, c379, rfl⟩ | ⟨c380, c381, c382, c383, rfl⟩ | ⟨c384, c385, c386, c387, c388, rfl⟩ | ⟨c389, c390, c391, c392, c393, c394, rfl⟩ | ⟨c395, c396, c397, c398, c399, c400, c401, rfl⟩ | ⟨c402, c403, c404, c405, c406, c407, c408, c409, rfl⟩ | ⟨c410, c411, c412, c413, c414, c415, c416, c417, c418, rfl⟩ | ⟨c419, c420, c421, c422, c423, c424, c425, c426, c427, c428, rfl⟩ | ⟨c429, c430, c431, c432, c433, c434, c435, c436, c437, c438, c439, rfl⟩ | ⟨c440, c441, c442, c443, c444, c445, c446, c447, c448, c449, c450, c451, rfl⟩ | ⟨c452, c453, c454, c455, c456, c457, c458, c459, c460, c461, c462, c463, rfl⟩
    · skip
      exact (by omega : False).elim
    · skip
      exact (by omega : False).elim
    · skip
      exact (by omega : False).elim
    · skip
      refine lv_icmp_eq (tgt := 858) hx hb dL_law_853 (by decide) (fun _ => ?_) (fun c464 => absurd c464 (by decide))
      exact law_end hx hb hr hlocks hX hbl hbA hAf hS hl (Nat.le_of_ble_eq_true rfl) (Nat.le_of_ble_eq_true rfl)
    · skip
      exact (by omega : False).elim
    · skip
      exact (by omega : False).elim
    · skip
      exact (by omega : False).elim
    · skip
      exact (by omega : False).elim
    · skip
      exact (by omega : False).elim
    · skip
      exact (by omega : False).elim
    · skip
      exact (by omega : False).elim
    · skip
      exact (by omega : False).elim
    · skip
      exact (by omega : False).elim
  · skip
    refine lv_aload_n hx hb dL_law_844 rfl (lv_at hl 1 rfl) ?_
    refine lv_aload_n hx hb dL_law_845 rfl (lv_at hl 3 rfl) ?_
    refine lv_iload_n hx hb dL_law_846 rfl (lv_at hl 0 rfl) ?_
    refine lv_iconst (v := 1) hx hb dL_law_847 (by decide) ?_
    refine lv_iadd hx hb dL_law_848 ?_
    refine lz_i 1 (by decide) ?_
    refine va_sld hx hb hX hbl hbA hS (vin (by decide)) dL_law_849 ?_
    refine lz_i sv1 esv1.symm ?_
    refine vp_callSi (va_Run.run (va_runV (As := [.int sv1]) (rest := [.int 0]) ⟨hx, hb, hml, hown, hts⟩ (c131_X10_count l D cy md mM mL mS mC mR mJ mA mD mT sv1) (cwV 1 hts (gt_VL kt_1205 kt_1206 kt_1207 kt_8 kt_1208) rfl rfl rfl (by decide +kernel) ⟨Nat.le_of_ble_eq_true rfl, Nat.le_of_ble_eq_true rfl⟩) (gP_V hK (hP.sub (ws' := (w131 cy md mM mL mS mC mR mJ mA mD mT sv1)) [40, 41] rfl) hP (ci := 9) (q0 := 40) rfl rfl) rfl rfl hl.1 rfl (lv_room (Nat.le_of_ble_eq_true rfl)) dL_law_850 ⟨Nat.le_of_ble_eq_true rfl, Nat.le_of_ble_eq_true rfl⟩)) (fun r465 hw466 => ?_)
    rcases hw466 with ⟨c467, rfl⟩ | ⟨c468, c469, rfl⟩ | ⟨c470, c471, c472, rfl⟩ | ⟨c473, c474, c475, c476, rfl⟩ | ⟨c477, c478, c479, c480, c481, rfl⟩ | ⟨c482, c483, c484, c485, c486, c487, rfl⟩ | ⟨c488, c489, c490, c491, c492, c493, c494, rfl⟩ | ⟨c495, c496, c497, c498, c499, c500, c501, c502, rfl⟩ | ⟨c503, c504, c505, c506, c507, c508, c509, c510, c511, rfl⟩ | ⟨c512, c513, c514, c515, c516, c517, c518, c519, c520, c521, rfl⟩ | ⟨c522, c523, c524, c525, c526, c527, c528, c529, c530, c531, c532, rfl⟩ | ⟨c533, c534, c535, c536, c537, c538, c539, c540, c541, c542, c543, c544, rfl⟩ | ⟨c545, c546, c547, c548, c549, c550, c551, c552, c553, c554, c555, c556, rfl⟩
    · skip
      exact (by omega : False).elim
    · skip
      exact (by omega : False).elim
    · skip
      exact (by omega : False).elim
    · skip
      exact (by omega : False).elim
    · skip
      refine lv_icmp_eq (tgt := 858) hx hb dL_law_853 (by decide) (fun _ => ?_) (fun c557 => absurd c557 (by decide))
      exact law_end hx hb hr hlocks hX hbl hbA hAf hS hl (Nat.le_of_ble_eq_true rfl) (Nat.le_of_ble_eq_true rfl)
    · skip
      exact (by omega : False).elim
    · skip
      exact (by omega : False).elim
    · skip
      exact (by omega : False).elim
    · skip
      exact (by omega : False).elim
    · skip
      exact (by omega : False).elim
    · skip
      exact (by omega : False).elim
    · skip
      exact (by omega : False).elim
    · skip
      exact (by omega : False).elim
  · skip
    refine lv_aload_n hx hb dL_law_844 rfl (lv_at hl 1 rfl) ?_
    refine lv_aload_n hx hb dL_law_845 rfl (lv_at hl 3 rfl) ?_
    refine lv_iload_n hx hb dL_law_846 rfl (lv_at hl 0 rfl) ?_
    refine lv_iconst (v := 1) hx hb dL_law_847 (by decide) ?_
    refine lv_iadd hx hb dL_law_848 ?_
    refine lz_i 1 (by decide) ?_
    refine va_sld hx hb hX hbl hbA hS (vin (by decide)) dL_law_849 ?_
    refine lz_i sv1 esv1.symm ?_
    refine vp_callSi (va_Run.run (va_runV (As := [.int sv1]) (rest := [.int 0]) ⟨hx, hb, hml, hown, hts⟩ (c131_X10_count l D cy md mM mL mS mC mR mJ mA mD mT sv1) (cwV 1 hts (gt_VL kt_1205 kt_1206 kt_1207 kt_8 kt_1208) rfl rfl rfl (by decide +kernel) ⟨Nat.le_of_ble_eq_true rfl, Nat.le_of_ble_eq_true rfl⟩) (gP_V hK (hP.sub (ws' := (w131 cy md mM mL mS mC mR mJ mA mD mT sv1)) [40, 41] rfl) hP (ci := 9) (q0 := 40) rfl rfl) rfl rfl hl.1 rfl (lv_room (Nat.le_of_ble_eq_true rfl)) dL_law_850 ⟨Nat.le_of_ble_eq_true rfl, Nat.le_of_ble_eq_true rfl⟩)) (fun r558 hw559 => ?_)
    rcases hw559 with ⟨c560, rfl⟩ | ⟨c561, c562, rfl⟩ | ⟨c563, c564, c565, rfl⟩ | ⟨c566, c567, c568, c569, rfl⟩ | ⟨c570, c571, c572, c573, c574, rfl⟩ | ⟨c575, c576, c577, c578, c579, c580, rfl⟩ | ⟨c581, c582, c583, c584, c585, c586, c587, rfl⟩ | ⟨c588, c589, c590, c591, c592, c593, c594, c595, rfl⟩ | ⟨c596, c597, c598, c599, c600, c601, c602, c603, c604, rfl⟩ | ⟨c605, c606, c607, c608, c609, c610, c611, c612, c613, c614, rfl⟩ | ⟨c615, c616, c617, c618, c619, c620, c621, c622, c623, c624, c625, rfl⟩ | ⟨c626, c627, c628, c629, c630, c631, c632, c633, c634, c635, c636, c637, rfl⟩ | ⟨c638, c639, c640, c641, c642, c643, c644, c645, c646, c647, c648, c649, rfl⟩
    · skip
      exact (by omega : False).elim
    · skip
      exact (by omega : False).elim
    · skip
      exact (by omega : False).elim
    · skip
      exact (by omega : False).elim
    · skip
      exact (by omega : False).elim
    · skip
      refine lv_icmp_eq (tgt := 858) hx hb dL_law_853 (by decide) (fun _ => ?_) (fun c650 => absurd c650 (by decide))
      exact law_end hx hb hr hlocks hX hbl hbA hAf hS hl (Nat.le_of_ble_eq_true rfl) (Nat.le_of_ble_eq_true rfl)
    · skip
      exact (by omega : False).elim
    · skip
      exact (by omega : False).elim
    · skip
      exact (by omega : False).elim
    · skip
      exact (by omega : False).elim
    · skip
      exact (by omega : False).elim
    · skip
      exact (by omega : False).elim
    · skip
      exact (by omega : False).elim
  · skip
    refine lv_aload_n hx hb dL_law_844 rfl (lv_at hl 1 rfl) ?_
    refine lv_aload_n hx hb dL_law_845 rfl (lv_at hl 3 rfl) ?_
    refine lv_iload_n hx hb dL_law_846 rfl (lv_at hl 0 rfl) ?_
    refine lv_iconst (v := 1) hx hb dL_law_847 (by decide) ?_
    refine lv_iadd hx hb dL_law_848 ?_
    refine lz_i 1 (by decide) ?_
    refine va_sld hx hb hX hbl hbA hS (vin (by decide)) dL_law_849 ?_
    refine lz_i sv1 esv1.symm ?_
    refine vp_callSi (va_Run.run (va_runV (As := [.int sv1]) (rest := [.int 0]) ⟨hx, hb, hml, hown, hts⟩ (c131_X10_count l D cy md mM mL mS mC mR mJ mA mD mT sv1) (cwV 1 hts (gt_VL kt_1205 kt_1206 kt_1207 kt_8 kt_1208) rfl rfl rfl (by decide +kernel) ⟨Nat.le_of_ble_eq_true rfl, Nat.le_of_ble_eq_true rfl⟩) (gP_V hK (hP.sub (ws' := (w131 cy md mM mL mS mC mR mJ mA mD mT sv1)) [40, 41] rfl) hP (ci := 9) (q0 := 40) rfl rfl) rfl rfl hl.1 rfl (lv_room (Nat.le_of_ble_eq_true rfl)) dL_law_850 ⟨Nat.le_of_ble_eq_true rfl, Nat.le_of_ble_eq_true rfl⟩)) (fun r651 hw652 => ?_)
    rcases hw652 with ⟨c653, rfl⟩ | ⟨c654, c655, rfl⟩ | ⟨c656, c657, c658, rfl⟩ | ⟨c659, c660, c661, c662, rfl⟩ | ⟨c663, c664, c665, c666, c667, rfl⟩ | ⟨c668, c669, c670, c671, c672, c673, rfl⟩ | ⟨c674, c675, c676, c677, c678, c679, c680, rfl⟩ | ⟨c681, c682, c683, c684, c685, c686, c687, c688, rfl⟩ | ⟨c689, c690, c691, c692, c693, c694, c695, c696, c697, rfl⟩ | ⟨c698, c699, c700, c701, c702, c703, c704, c705, c706, c707, rfl⟩ | ⟨c708, c709, c710, c711, c712, c713, c714, c715, c716, c717, c718, rfl⟩ | ⟨c719, c720, c721, c722, c723, c724, c725, c726, c727, c728, c729, c730, rfl⟩ | ⟨c731, c732, c733, c734, c735, c736, c737, c738, c739, c740, c741, c742, rfl⟩
    · skip
      exact (by omega : False).elim
    · skip
      exact (by omega : False).elim
    · skip
      exact (by omega : False).elim
    · skip
      exact (by omega : False).elim
    · skip
      exact (by omega : False).elim
    · skip
      exact (by omega : False).elim
    · skip
      refine lv_icmp_eq (tgt := 858) hx hb dL_law_853 (by decide) (fun _ => ?_) (fun c743 => absurd c743 (by decide))
      exact law_end hx hb hr hlocks hX hbl hbA hAf hS hl (Nat.le_of_ble_eq_true rfl) (Nat.le_of_ble_eq_true rfl)
    · skip
      exact (by omega : False).elim
    · skip
      exact (by omega : False).elim
    · skip
      exact (by omega : False).elim
    · skip
      exact (by omega : False).elim
    · skip
      exact (by omega : False).elim
    · skip
      exact (by omega : False).elim
  · skip
    refine lv_aload_n hx hb dL_law_844 rfl (lv_at hl 1 rfl) ?_
    refine lv_aload_n hx hb dL_law_845 rfl (lv_at hl 3 rfl) ?_
    refine lv_iload_n hx hb dL_law_846 rfl (lv_at hl 0 rfl) ?_
    refine lv_iconst (v := 1) hx hb dL_law_847 (by decide) ?_
    refine lv_iadd hx hb dL_law_848 ?_
    refine lz_i 1 (by decide) ?_
    refine va_sld hx hb hX hbl hbA hS (vin (by decide)) dL_law_849 ?_
    refine lz_i sv1 esv1.symm ?_
    refine vp_callSi (va_Run.run (va_runV (As := [.int sv1]) (rest := [.int 0]) ⟨hx, hb, hml, hown, hts⟩ (c131_X10_count l D cy md mM mL mS mC mR mJ mA mD mT sv1) (cwV 1 hts (gt_VL kt_1205 kt_1206 kt_1207 kt_8 kt_1208) rfl rfl rfl (by decide +kernel) ⟨Nat.le_of_ble_eq_true rfl, Nat.le_of_ble_eq_true rfl⟩) (gP_V hK (hP.sub (ws' := (w131 cy md mM mL mS mC mR mJ mA mD mT sv1)) [40, 41] rfl) hP (ci := 9) (q0 := 40) rfl rfl) rfl rfl hl.1 rfl (lv_room (Nat.le_of_ble_eq_true rfl)) dL_law_850 ⟨Nat.le_of_ble_eq_true rfl, Nat.le_of_ble_eq_true rfl⟩)) (fun r744 hw745 => ?_)
    rcases hw745 with ⟨c746, rfl⟩ | ⟨c747, c748, rfl⟩ | ⟨c749, c750, c751, rfl⟩ | ⟨c752, c753, c754, c755, rfl⟩ | ⟨c756, c757, c758, c759, c760, rfl⟩ | ⟨c761, c762, c763, c764, c765, c766, rfl⟩ | ⟨c767, c768, c769, c770, c771, c772, c773, rfl⟩ | ⟨c774, c775, c776, c777, c778, c779, c780, c781, rfl⟩ | ⟨c782, c783, c784, c785, c786, c787, c788, c789, c790, rfl⟩ | ⟨c791, c792, c793, c794, c795, c796, c797, c798, c799, c800, rfl⟩ | ⟨c801, c802, c803, c804, c805, c806, c807, c808, c809, c810, c811, rfl⟩ | ⟨c812, c813, c814, c815, c816, c817, c818, c819, c820, c821, c822, c823, rfl⟩ | ⟨c824, c825, c826, c827, c828, c829, c830, c831, c832, c833, c834, c835, rfl⟩
    · skip
      exact (by omega : False).elim
    · skip
      exact (by omega : False).elim
    · skip
      exact (by omega : False).elim
    · skip
      exact (by omega : False).elim
    · skip
      exact (by omega : False).elim
    · skip
      exact (by omega : False).elim
    · skip
      exact (by omega : False).elim
    · skip
      refine lv_icmp_eq (tgt := 858) hx hb dL_law_853 (by decide) (fun _ => ?_) (fun c836 => absurd c836 (by decide))
      exact law_end hx hb hr hlocks hX hbl hbA hAf hS hl (Nat.le_of_ble_eq_true rfl) (Nat.le_of_ble_eq_true rfl)
    · skip
      exact (by omega : False).elim
    · skip
      exact (by omega : False).elim
    · skip
      exact (by omega : False).elim
    · skip
      exact (by omega : False).elim
    · skip
      exact (by omega : False).elim
  · skip
    refine lv_aload_n hx hb dL_law_844 rfl (lv_at hl 1 rfl) ?_
    refine lv_aload_n hx hb dL_law_845 rfl (lv_at hl 3 rfl) ?_
    refine lv_iload_n hx hb dL_law_846 rfl (lv_at hl 0 rfl) ?_
    refine lv_iconst (v := 1) hx hb dL_law_847 (by decide) ?_
    refine lv_iadd hx hb dL_law_848 ?_
    refine lz_i 1 (by decide) ?_
    refine va_sld hx hb hX hbl hbA hS (vin (by decide)) dL_law_849 ?_
    refine lz_i sv1 esv1.symm ?_
    refine vp_callSi (va_Run.run (va_runV (As := [.int sv1]) (rest := [.int 0]) ⟨hx, hb, hml, hown, hts⟩ (c131_X10_count l D cy md mM mL mS mC mR mJ mA mD mT sv1) (cwV 1 hts (gt_VL kt_1205 kt_1206 kt_1207 kt_8 kt_1208) rfl rfl rfl (by decide +kernel) ⟨Nat.le_of_ble_eq_true rfl, Nat.le_of_ble_eq_true rfl⟩) (gP_V hK (hP.sub (ws' := (w131 cy md mM mL mS mC mR mJ mA mD mT sv1)) [40, 41] rfl) hP (ci := 9) (q0 := 40) rfl rfl) rfl rfl hl.1 rfl (lv_room (Nat.le_of_ble_eq_true rfl)) dL_law_850 ⟨Nat.le_of_ble_eq_true rfl, Nat.le_of_ble_eq_true rfl⟩)) (fun r837 hw838 => ?_)
    rcases hw838 with ⟨c839, rfl⟩ | ⟨c840, c841, rfl⟩ | ⟨c842, c843, c844, rfl⟩ | ⟨c845, c846, c847, c848, rfl⟩ | ⟨c849, c850, c851, c852, c853, rfl⟩ | ⟨c854, c855, c856, c857, c858, c859, rfl⟩ | ⟨c860, c861, c862, c863, c864, c865, c866, rfl⟩ | ⟨c867, c868, c869, c870, c871, c872, c873, c874, rfl⟩ | ⟨c875, c876, c877, c878, c879, c880, c881, c882, c883, rfl⟩ | ⟨c884, c885, c886, c887, c888, c889, c890, c891, c892, c893, rfl⟩ | ⟨c894, c895, c896, c897, c898, c899, c900, c901, c902, c903, c904, rfl⟩ | ⟨c905, c906, c907, c908, c909, c910, c911, c912, c913, c914, c915, c916, rfl⟩ | ⟨c917, c918, c919, c920, c921, c922, c923, c924, c925, c926, c927, c928, rfl⟩
    · skip
      exact (by omega : False).elim
    · skip
      exact (by omega : False).elim
    · skip
      exact (by omega : False).elim
    · skip
      exact (by omega : False).elim
    · skip
      exact (by omega : False).elim
    · skip
      exact (by omega : False).elim
    · skip
      exact (by omega : False).elim
    · skip
      exact (by omega : False).elim
    · skip
      refine lv_icmp_eq (tgt := 858) hx hb dL_law_853 (by decide) (fun _ => ?_) (fun c929 => absurd c929 (by decide))
      exact law_end hx hb hr hlocks hX hbl hbA hAf hS hl (Nat.le_of_ble_eq_true rfl) (Nat.le_of_ble_eq_true rfl)
    · skip
      exact (by omega : False).elim
    · skip
      exact (by omega : False).elim
    · skip
      exact (by omega : False).elim
    · skip
      exact (by omega : False).elim
  · skip
    refine lv_aload_n hx hb dL_law_844 rfl (lv_at hl 1 rfl) ?_
    refine lv_aload_n hx hb dL_law_845 rfl (lv_at hl 3 rfl) ?_
    refine lv_iload_n hx hb dL_law_846 rfl (lv_at hl 0 rfl) ?_
    refine lv_iconst (v := 1) hx hb dL_law_847 (by decide) ?_
    refine lv_iadd hx hb dL_law_848 ?_
    refine lz_i 1 (by decide) ?_
    refine va_sld hx hb hX hbl hbA hS (vin (by decide)) dL_law_849 ?_
    refine lz_i sv1 esv1.symm ?_
    refine vp_callSi (va_Run.run (va_runV (As := [.int sv1]) (rest := [.int 0]) ⟨hx, hb, hml, hown, hts⟩ (c131_X10_count l D cy md mM mL mS mC mR mJ mA mD mT sv1) (cwV 1 hts (gt_VL kt_1205 kt_1206 kt_1207 kt_8 kt_1208) rfl rfl rfl (by decide +kernel) ⟨Nat.le_of_ble_eq_true rfl, Nat.le_of_ble_eq_true rfl⟩) (gP_V hK (hP.sub (ws' := (w131 cy md mM mL mS mC mR mJ mA mD mT sv1)) [40, 41] rfl) hP (ci := 9) (q0 := 40) rfl rfl) rfl rfl hl.1 rfl (lv_room (Nat.le_of_ble_eq_true rfl)) dL_law_850 ⟨Nat.le_of_ble_eq_true rfl, Nat.le_of_ble_eq_true rfl⟩)) (fun r930 hw931 => ?_)
    rcases hw931 with ⟨c932, rfl⟩ | ⟨c933, c934, rfl⟩ | ⟨c935, c936, c937, rfl⟩ | ⟨c938, c939, c940, c941, rfl⟩ | ⟨c942, c943, c944, c945, c946, rfl⟩ | ⟨c947, c948, c949, c950, c951, c952, rfl⟩ | ⟨c953, c954, c955, c956, c957, c958, c959, rfl⟩ | ⟨c960, c961, c962, c963, c964, c965, c966, c967, rfl⟩ | ⟨c968, c969, c970, c971, c972, c973, c974, c975, c976, rfl⟩ | ⟨c977, c978, c979, c980, c981, c982, c983, c984, c985, c986, rfl⟩ | ⟨c987, c988, c989, c990, c991, c992, c993, c994, c995, c996, c997, rfl⟩ | ⟨c998, c999, c1000, c1001, c1002, c1003, c1004, c1005, c1006, c1007, c1008, c1009, rfl⟩ | ⟨c1010, c1011, c1012, c1013, c1014, c1015, c1016, c1017, c1018, c1019, c1020, c1021, rfl⟩
    · skip
      exact (by omega : False).elim
    · skip
      exact (by omega : False).elim
    · skip
      exact (by omega : False).elim
    · skip
      exact (by omega : False).elim
    · skip
      exact (by omega : False).elim
    · skip
      exact (by omega : False).elim
    · skip
      exact (by omega : False).elim
    · skip
      exact (by omega : False).elim
    · skip
      exact (by omega : False).elim
    · skip
      refine lv_icmp_eq (tgt := 858) hx hb dL_law_853 (by decide) (fun _ => ?_) (fun c1022 => absurd c1022 (by decide))
      exact law_end hx hb hr hlocks hX hbl hbA hAf hS hl (Nat.le_of_ble_eq_true rfl) (Nat.le_of_ble_eq_true rfl)
    · skip
      exact (by omega : False).elim
    · skip
      exact (by omega : False).elim
    · skip
      exact (by omega : False).elim
  · skip
    refine lv_aload_n hx hb dL_law_844 rfl (lv_at hl 1 rfl) ?_
    refine lv_aload_n hx hb dL_law_845 rfl (lv_at hl 3 rfl) ?_
    refine lv_iload_n hx hb dL_law_846 rfl (lv_at hl 0 rfl) ?_
    refine lv_iconst (v := 1) hx hb dL_law_847 (by decide) ?_
    refine lv_iadd hx hb dL_law_848 ?_
    refine lz_i 1 (by decide) ?_
    refine va_sld hx hb hX hbl hbA hS (vin (by decide)) dL_law_849 ?_
    refine lz_i sv1 esv1.symm ?_
    refine vp_callSi (va_Run.run (va_runV (As := [.int sv1]) (rest := [.int 0]) ⟨hx, hb, hml, hown, hts⟩ (c131_X10_count l D cy md mM mL mS mC mR mJ mA mD mT sv1) (cwV 1 hts (gt_VL kt_1205 kt_1206 kt_1207 kt_8 kt_1208) rfl rfl rfl (by decide +kernel) ⟨Nat.le_of_ble_eq_true rfl, Nat.le_of_ble_eq_true rfl⟩) (gP_V hK (hP.sub (ws' := (w131 cy md mM mL mS mC mR mJ mA mD mT sv1)) [40, 41] rfl) hP (ci := 9) (q0 := 40) rfl rfl) rfl rfl hl.1 rfl (lv_room (Nat.le_of_ble_eq_true rfl)) dL_law_850 ⟨Nat.le_of_ble_eq_true rfl, Nat.le_of_ble_eq_true rfl⟩)) (fun r1023 hw1024 => ?_)
    rcases hw1024 with ⟨c1025, rfl⟩ | ⟨c1026, c1027, rfl⟩ | ⟨c1028, c1029, c1030, rfl⟩ | ⟨c1031, c1032, c1033, c1034, rfl⟩ | ⟨c1035, c1036, c1037, c1038, c1039, rfl⟩ | ⟨c1040, c1041, c1042, c1043, c1044, c1045, rfl⟩ | ⟨c1046, c1047, c1048, c1049, c1050, c1051, c1052, rfl⟩ | ⟨c1053, c1054, c1055, c1056, c1057, c1058, c1059, c1060, rfl⟩ | ⟨c1061, c1062, c1063, c1064, c1065, c1066, c1067, c1068, c1069, rfl⟩ | ⟨c1070, c1071, c1072, c1073, c1074, c1075, c1076, c1077, c1078, c1079, rfl⟩ | ⟨c1080, c1081, c1082, c1083, c1084, c1085, c1086, c1087, c1088, c1089, c1090, rfl⟩ | ⟨c1091, c1092, c1093, c1094, c1095, c1096, c1097, c1098, c1099, c1100, c1101, c1102, rfl⟩ | ⟨c1103, c1104, c1105, c1106, c1107, c1108, c1109, c1110, c1111, c1112, c1113, c1114, rfl⟩
    · skip
      exact (by omega : False).elim
    · skip
      exact (by omega : False).elim
    · skip
      exact (by omega : False).elim
    · skip
      exact (by omega : False).elim
    · skip
      exact (by omega : False).elim
    · skip
      exact (by omega : False).elim
    · skip
      exact (by omega : False).elim
    · skip
      exact (by omega : False).elim
    · skip
      exact (by omega : False).elim
    · skip
      exact (by omega : False).elim
    · skip
      refine lv_icmp_eq (tgt := 858) hx hb dL_law_853 (by decide) (fun _ => ?_) (fun c1115 => absurd c1115 (by decide))
      exact law_end hx hb hr hlocks hX hbl hbA hAf hS hl (Nat.le_of_ble_eq_true rfl) (Nat.le_of_ble_eq_true rfl)
    · skip
      exact (by omega : False).elim
    · skip
      exact (by omega : False).elim
  · skip
    refine lv_aload_n hx hb dL_law_844 rfl (lv_at hl 1 rfl) ?_
    refine lv_aload_n hx hb dL_law_845 rfl (lv_at hl 3 rfl) ?_
    refine lv_iload_n hx hb dL_law_846 rfl (lv_at hl 0 rfl) ?_
    refine lv_iconst (v := 1) hx hb dL_law_847 (by decide) ?_
    refine lv_iadd hx hb dL_law_848 ?_
    refine lz_i 1 (by decide) ?_
    refine va_sld hx hb hX hbl hbA hS (vin (by decide)) dL_law_849 ?_
    refine lz_i sv1 esv1.symm ?_
    refine vp_callSi (va_Run.run (va_runV (As := [.int sv1]) (rest := [.int 0]) ⟨hx, hb, hml, hown, hts⟩ (c131_X10_count l D cy md mM mL mS mC mR mJ mA mD mT sv1) (cwV 1 hts (gt_VL kt_1205 kt_1206 kt_1207 kt_8 kt_1208) rfl rfl rfl (by decide +kernel) ⟨Nat.le_of_ble_eq_true rfl, Nat.le_of_ble_eq_true rfl⟩) (gP_V hK (hP.sub (ws' := (w131 cy md mM mL mS mC mR mJ mA mD mT sv1)) [40, 41] rfl) hP (ci := 9) (q0 := 40) rfl rfl) rfl rfl hl.1 rfl (lv_room (Nat.le_of_ble_eq_true rfl)) dL_law_850 ⟨Nat.le_of_ble_eq_true rfl, Nat.le_of_ble_eq_true rfl⟩)) (fun r1116 hw1117 => ?_)
    rcases hw1117 with ⟨c1118, rfl⟩ | ⟨c1119, c1120, rfl⟩ | ⟨c1121, c1122, c1123, rfl⟩ | ⟨c1124, c1125, c1126, c1127, rfl⟩ | ⟨c1128, c1129, c1130, c1131, c1132, rfl⟩ | ⟨c1133, c1134, c1135, c1136, c1137, c1138, rfl⟩ | ⟨c1139, c1140, c1141, c1142, c1143, c1144, c1145, rfl⟩ | ⟨c1146, c1147, c1148, c1149, c1150, c1151, c1152, c1153, rfl⟩ | ⟨c1154, c1155, c1156, c1157, c1158, c1159, c1160, c1161, c1162, rfl⟩ | ⟨c1163, c1164, c1165, c1166, c1167, c1168, c1169, c1170, c1171, c1172, rfl⟩ | ⟨c1173, c1174, c1175, c1176, c1177, c1178, c1179, c1180, c1181, c1182, c1183, rfl⟩ | ⟨c1184, c1185, c1186, c1187, c1188, c1189, c1190, c1191, c1192, c1193, c1194, c1195, rfl⟩ | ⟨c1196, c1197, c1198, c1199, c1200, c1201, c1202, c1203, c1204, c1205, c1206, c1207, rfl⟩
    · skip
      exact (by omega : False).elim
    · skip
      exact (by omega : False).elim
    · skip
      exact (by omega : False).elim
    · skip
      exact (by omega : False).elim
    · skip
      exact (by omega : False).elim
    · skip
      exact (by omega : False).elim
    · skip
      exact (by omega : False).elim
    · skip
      exact (by omega : False).elim
    · skip
      exact (by omega : False).elim
    · skip
      exact (by omega : False).elim
    · skip
      exact (by omega : False).elim
    · skip
      refine lv_icmp_eq (tgt := 858) hx hb dL_law_853 (by decide) (fun _ => ?_) (fun c1208 => absurd c1208 (by decide))
      exact law_end hx hb hr hlocks hX hbl hbA hAf hS hl (Nat.le_of_ble_eq_true rfl) (Nat.le_of_ble_eq_true rfl)
    · skip
      exact (by omega : False).elim
  · skip
    refine lv_aload_n hx hb dL_law_844 rfl (lv_at hl 1 rfl) ?_
    refine lv_aload_n hx hb dL_law_845 rfl (lv_at hl 3 rfl) ?_
    refine lv_iload_n hx hb dL_law_846 rfl (lv_at hl 0 rfl) ?_
    refine lv_iconst (v := 1) hx hb dL_law_847 (by decide) ?_
    refine lv_iadd hx hb dL_law_848 ?_
    refine lz_i 1 (by decide) ?_
    refine va_sld hx hb hX hbl hbA hS (vin (by decide)) dL_law_849 ?_
    refine lz_i sv1 esv1.symm ?_
    refine vp_callSi (va_Run.run (va_runV (As := [.int sv1]) (rest := [.int (-1)]) ⟨hx, hb, hml, hown, hts⟩ (c131_X10_count l D cy md mM mL mS mC mR mJ mA mD mT sv1) (cwV 1 hts (gt_VL kt_1205 kt_1206 kt_1207 kt_8 kt_1208) rfl rfl rfl (by decide +kernel) ⟨Nat.le_of_ble_eq_true rfl, Nat.le_of_ble_eq_true rfl⟩) (gP_V hK (hP.sub (ws' := (w131 cy md mM mL mS mC mR mJ mA mD mT sv1)) [40, 41] rfl) hP (ci := 9) (q0 := 40) rfl rfl) rfl rfl hl.1 rfl (lv_room (Nat.le_of_ble_eq_true rfl)) dL_law_850 ⟨Nat.le_of_ble_eq_true rfl, Nat.le_of_ble_eq_true rfl⟩)) (fun r1209 hw1210 => ?_)
    rcases hw1210 with ⟨c1211, rfl⟩ | ⟨c1212, c1213, rfl⟩ | ⟨c1214, c1215, c1216, rfl⟩ | ⟨c1217, c1218, c1219, c1220, rfl⟩ | ⟨c1221, c1222, c1223, c1224, c1225, rfl⟩ | ⟨c1226, c1227, c1228, c1229, c1230, c1231, rfl⟩ | ⟨c1232, c1233, c1234, c1235, c1236, c1237, c1238, rfl⟩ | ⟨c1239, c1240, c1241, c1242, c1243, c1244, c1245, c1246, rfl⟩ | ⟨c1247, c1248, c1249, c1250, c1251, c1252, c1253, c1254, c1255, rfl⟩ | ⟨c1256, c1257, c1258, c1259, c1260, c1261, c1262, c1263, c1264, c1265, rfl⟩ | ⟨c1266, c1267, c1268, c1269, c1270, c1271, c1272, c1273, c1274, c1275, c1276, rfl⟩ | ⟨c1277, c1278, c1279, c1280, c1281, c1282, c1283, c1284, c1285, c1286, c1287, c1288, rfl⟩ | ⟨c1289, c1290, c1291, c1292, c1293, c1294, c1295, c1296, c1297, c1298, c1299, c1300, rfl⟩
    · skip
      exact (by omega : False).elim
    · skip
      exact (by omega : False).elim
    · skip
      exact (by omega : False).elim
    · skip
      exact (by omega : False).elim
    · skip
      exact (by omega : False).elim
    · skip
      exact (by omega : False).elim
    · skip
      exact (by omega : False).elim
    · skip
      exact (by omega : False).elim
    · skip
      exact (by omega : False).elim
    · skip
      exact (by omega : False).elim
    · skip
      exact (by omega : False).elim
    · skip
      exact (by omega : False).elim
    · skip
      refine lv_icmp_eq (tgt := 858) hx hb dL_law_853 (by decide) (fun _ => ?_) (fun c1301 => absurd c1301 (by decide))
      exact law_end hx hb hr hlocks hX hbl hbA hAf hS hl (Nat.le_of_ble_eq_true rfl) (Nat.le_of_ble_eq_true rfl)
