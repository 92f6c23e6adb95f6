set_option maxHeartbeats 4000000 in
set_option maxRecDepth 100000 in
theorem c_m_would (l : Launch) (D : va_G) (cy : Nat → ClassId) (md mM mL mS mC mR mJ mA mD mT : Nat) (L : List Nat) (g : Nat → Option Nat) (hg : okG g L 26) (i0 i1 : Int32) (sz : Nat) : Met l yX10_would (Cond.code yX10_would cX10_would 3 (some .int) :: GT) ({ frames := 2, cells := 27, slots := 3354, locals := 46 }) (gN D cy ([(md, .inr (9, [.ref mM, .ref mL, .ref mS, .null, .int 0, .ref mC, .int 0, .int 0, .int 0, .ref mR, .ref mJ, .ref mA, .int 0, .int 0, .int 0, .ref mD, .ref mT])), (mM, .inl (cy 0, 559, .inl (fun _ => 0))), (mL, .inl (cy 5, 26, .inr (.inr (.inr (.inr g))))), (mD, .inl (cy 0, 559, .inl (fun _ => 0))), (mT, .inl (cy 0, 3, .inl (fun _ => 0)))] ++ PL cy L) [.ref md, .int i0, .int i1] sz) (va_Qi (fun (r : Int32) (_ : Unit) => (i1.toInt < 0 ∧ r = (-1)) ∨ (¬ i1.toInt < 0 ∧ 2 < i1.toInt ∧ r = (-1)) ∨ (¬ i1.toInt < 0 ∧ ¬ 2 < i1.toInt ∧ i0.toInt < 0 ∧ r = (-2)) ∨ (¬ i1.toInt < 0 ∧ ¬ 2 < i1.toInt ∧ ¬ i0.toInt < 0 ∧ 4 < i0.toInt ∧ r = (-2)) ∨ (¬ i1.toInt < 0 ∧ ¬ 2 < i1.toInt ∧ ¬ i0.toInt < 0 ∧ ¬ 4 < i0.toInt ∧ r = 0)) (fun _ _ => True) (va_A ([(md, .inr (9, [.ref mM, .ref mL, .ref mS, .null, .int 0, .ref mC, .int 0, .int 0, .int 0, .ref mR, .ref mJ, .ref mA, .int 0, .int 0, .int 0, .ref mD, .ref mT])), (mM, .inl (cy 0, 559, .inl (fun _ => 0))), (mL, .inl (cy 5, 26, .inr (.inr (.inr (.inr g))))), (mD, .inl (cy 0, 559, .inl (fun _ => 0))), (mT, .inl (cy 0, 3, .inl (fun _ => 0)))] ++ PL cy L) sz)) 27 3354 (va_A ([(md, .inr (9, [.ref mM, .ref mL, .ref mS, .null, .int 0, .ref mC, .int 0, .int 0, .int 0, .ref mR, .ref mJ, .ref mA, .int 0, .int 0, .int 0, .ref mD, .ref mT])), (mM, .inl (cy 0, 559, .inl (fun _ => 0))), (mL, .inl (cy 5, 26, .inr (.inr (.inr (.inr g))))), (mD, .inl (cy 0, 559, .inl (fun _ => 0))), (mT, .inl (cy 0, 3, .inl (fun _ => 0)))] ++ PL cy L) sz) := by
  refine Met.ofW (cc := cX10_would) (maxL := 3) (ret := some .int) (by decide) rfl ?_
  intro p e s m args below meth c s₁ B hml hv
  obtain ⟨rfl, hsz, hP, hK, hD0⟩ := hv
  have hx := B.exec
  have hb := B.bytes
  have hr := B.returns
  have hts := atoms_spec (ws := (Cond.code yX10_would cX10_would 3 (some .int) :: GT)) B.pre
  have ht : ∀ w ∈ GT, w.before _ s = true := fun w h => hts w (List.mem_cons_of_mem _ h)
  have hown : s.vm.findClass RX10 = some m.cls := findClass_of_methodNamed B.named
  have hlocks := B.notSynchronized
  subst hsz
  have hD := hD0.self (sz := s.heap.size)
  generalize hAe : va_A ([(md, .inr (9, [.ref mM, .ref mL, .ref mS, .null, .int 0, .ref mC, .int 0, .int 0, .int 0, .ref mR, .ref mJ, .ref mA, .int 0, .int 0, .int 0, .ref mD, .ref mT])), (mM, .inl (cy 0, 559, .inl (fun _ => 0))), (mL, .inl (cy 5, 26, .inr (.inr (.inr (.inr g))))), (mD, .inl (cy 0, 559, .inl (fun _ => 0))), (mT, .inl (cy 0, 3, .inl (fun _ => 0)))] ++ PL cy L) s.heap.size = A at hD ⊢
  have hA : ∀ q : Nat, s.heap.size ≤ q → A q := fun q h => by rw [← hAe]; exact Or.inr h
  have hS : va_S A s.heap s.heap [] := va_S.rf
  have hl := lv_entry ([.ref md, .int i0, .int i1]) (n := 3) (Nat.le_of_ble_eq_true rfl)
  rw [lg_entry_eq]
  generalize (lg_sl ([.ref md, .int i0, .int i1]) ++ List.replicate (3 - (lg_sl ([.ref md, .int i0, .int i1])).length) Slot.unset).toArray = ls at hl ⊢
  have hl : lv_has ls 3 [(0, .ref md), (1, .int i0), (2, .int i1)] := hl
  refine lv_iload_n hx hb dX10_would_0 rfl (lv_at hl 2 rfl) ?_
  refine lv_iconst (v := 0) hx hb dX10_would_1 (by decide) ?_
  refine lv_iconst (v := 2) hx hb dX10_would_2 (by decide) ?_
  refine vp_callSi (va_Run.run (va_runS (As := [.int i1, .int 0, .int 2]) (rest := []) ⟨hx, hb, hml, hown, hts⟩ (c121_X10_in l D cy i1) (va_cwS 3 hts (gt_S kt_905 kt_906 kt_8 kt_907) rfl rfl rfl (by decide +kernel) ⟨Nat.le_of_ble_eq_true rfl, Nat.le_of_ble_eq_true rfl⟩) (gP_S hK (hP.sub (ws' := (w121 cy i1)) [] rfl)) rfl rfl hl.1 rfl (lv_room (Nat.le_of_ble_eq_true rfl)) dX10_would_3 ⟨Nat.le_of_ble_eq_true rfl, Nat.le_of_ble_eq_true rfl⟩)) (fun r1 hw2 => ?_)
  rcases hw2 with ⟨c3, rfl⟩ | ⟨c4, c5, rfl⟩ | ⟨c6, c7, rfl⟩
  · skip
    refine lv_if_ne (tgt := 11) hx hb dX10_would_6 (by decide) (fun c8 => absurd c8 (by decide)) (fun _ => ?_)
    refine lv_iconst (v := (-1)) hx hb dX10_would_9 (by decide) ?_
    refine W.widen (k := 27) (n := 3354) (Nat.le_of_ble_eq_true rfl) (Nat.le_of_ble_eq_true rfl) ?_
    exact W.iret (v := (-1)) hx hb hr (fun t ht2 hW => ⟨⟨(-1), (), rfl, (Or.inl ⟨c3, rfl⟩), trivial⟩, hS.F ht2⟩) hS.2.2 dX10_would_10
  · skip
    refine lv_if_ne (tgt := 11) hx hb dX10_would_6 (by decide) (fun c9 => absurd c9 (by decide)) (fun _ => ?_)
    refine lv_iconst (v := (-1)) hx hb dX10_would_9 (by decide) ?_
    refine W.widen (k := 27) (n := 3354) (Nat.le_of_ble_eq_true rfl) (Nat.le_of_ble_eq_true rfl) ?_
    exact W.iret (v := (-1)) hx hb hr (fun t ht2 hW => ⟨⟨(-1), (), rfl, (Or.inr (Or.inl ⟨c4, c5, rfl⟩)), trivial⟩, hS.F ht2⟩) hS.2.2 dX10_would_10
  · skip
    refine lv_if_ne (tgt := 11) hx hb dX10_would_6 (by decide) (fun _ => ?_) (fun c10 => absurd c10 (by decide))
    refine lv_iload_n hx hb dX10_would_11 rfl (lv_at hl 1 rfl) ?_
    refine lv_iconst (v := 0) hx hb dX10_would_12 (by decide) ?_
    refine lv_iconst (v := 4) hx hb dX10_would_13 (by decide) ?_
    refine vp_callSi (va_Run.run (va_runS (As := [.int i0, .int 0, .int 4]) (rest := []) ⟨hx, hb, hml, hown, hts⟩ (c103_X10_in l D cy i0) (va_cwS 3 hts (gt_S kt_905 kt_906 kt_8 kt_907) rfl rfl rfl (by decide +kernel) ⟨Nat.le_of_ble_eq_true rfl, Nat.le_of_ble_eq_true rfl⟩) (gP_S hK (hP.sub (ws' := (w103 cy i0)) [] rfl)) rfl rfl hl.1 rfl (lv_room (Nat.le_of_ble_eq_true rfl)) dX10_would_14 ⟨Nat.le_of_ble_eq_true rfl, Nat.le_of_ble_eq_true rfl⟩)) (fun r11 hw12 => ?_)
    rcases hw12 with ⟨c13, rfl⟩ | ⟨c14, c15, rfl⟩ | ⟨c16, c17, rfl⟩
    · skip
      refine lv_if_ne (tgt := 23) hx hb dX10_would_17 (by decide) (fun c18 => absurd c18 (by decide)) (fun _ => ?_)
      refine lv_bipush (v := (-2)) hx hb dX10_would_20 (by decide) ?_
      refine W.widen (k := 27) (n := 3354) (Nat.le_of_ble_eq_true rfl) (Nat.le_of_ble_eq_true rfl) ?_
      exact W.iret (v := (-2)) hx hb hr (fun t ht2 hW => ⟨⟨(-2), (), rfl, (Or.inr (Or.inr (Or.inl ⟨c6, c7, c13, rfl⟩))), trivial⟩, hS.F ht2⟩) hS.2.2 dX10_would_22
    · skip
      refine lv_if_ne (tgt := 23) hx hb dX10_would_17 (by decide) (fun c19 => absurd c19 (by decide)) (fun _ => ?_)
      refine lv_bipush (v := (-2)) hx hb dX10_would_20 (by decide) ?_
      refine W.widen (k := 27) (n := 3354) (Nat.le_of_ble_eq_true rfl) (Nat.le_of_ble_eq_true rfl) ?_
      exact W.iret (v := (-2)) hx hb hr (fun t ht2 hW => ⟨⟨(-2), (), rfl, (Or.inr (Or.inr (Or.inr (Or.inl ⟨c6, c7, c14, c15, rfl⟩)))), trivial⟩, hS.F ht2⟩) hS.2.2 dX10_would_22
    · skip
      refine lv_if_ne (tgt := 23) hx hb dX10_would_17 (by decide) (fun _ => ?_) (fun c20 => absurd c20 (by decide))
      refine lv_aload_n hx hb dX10_would_23 rfl (lv_at hl 0 rfl) ?_
      refine lv_iload_n hx hb dX10_would_24 rfl (lv_at hl 1 rfl) ?_
      have hPc := va_P.part (X := ([(md, .inr (9, [.ref mM, .ref mL, .ref mS, .null, .int 0, .ref mC, .int 0, .int 0, .int 0, .ref mR, .ref mJ, .ref mA, .int 0, .int 0, .int 0, .ref mD, .ref mT])), (mM, .inl (cy 0, 559, .inl (fun _ => 0))), (mL, .inl (cy 5, 26, .inr (.inr (.inr (.inr g))))), (mD, .inl (cy 0, 559, .inl (fun _ => 0))), (mT, .inl (cy 0, 3, .inl (fun _ => 0)))] : va_W)) (cx := ([(md, .inr (9, [.ref mM, .ref mL, .ref mS, .null, .int 0, .ref mC, .int 0, .int 0, .int 0, .ref mR, .ref mJ, .ref mA, .int 0, .int 0, .int 0, .ref mD, .ref mT])), (mM, .inl (cy 0, 559, .inl (fun _ => 0))), (mL, .inl (cy 5, 26, .inr (.inr (.inr (.inr g))))), (mD, .inl (cy 0, 559, .inl (fun _ => 0))), (mT, .inl (cy 0, 3, .inl (fun _ => 0)))] : va_W)) hP [0, 1, 2, 3, 4] rfl
      have hDc := va_D.part (X := ([(md, .inr (9, [.ref mM, .ref mL, .ref mS, .null, .int 0, .ref mC, .int 0, .int 0, .int 0, .ref mR, .ref mJ, .ref mA, .int 0, .int 0, .int 0, .ref mD, .ref mT])), (mM, .inl (cy 0, 559, .inl (fun _ => 0))), (mL, .inl (cy 5, 26, .inr (.inr (.inr (.inr g))))), (mD, .inl (cy 0, 559, .inl (fun _ => 0))), (mT, .inl (cy 0, 3, .inl (fun _ => 0)))] : va_W)) (cx := ([(md, .inr (9, [.ref mM, .ref mL, .ref mS, .null, .int 0, .ref mC, .int 0, .int 0, .int 0, .ref mR, .ref mJ, .ref mA, .int 0, .int 0, .int 0, .ref mD, .ref mT])), (mM, .inl (cy 0, 559, .inl (fun _ => 0))), (mL, .inl (cy 5, 26, .inr (.inr (.inr (.inr g))))), (mD, .inl (cy 0, 559, .inl (fun _ => 0))), (mT, .inl (cy 0, 3, .inl (fun _ => 0)))] : va_W)) hD [0, 1, 2, 3, 4] (by decide) rfl
      have hFc := va_freeP (X := ([(md, .inr (9, [.ref mM, .ref mL, .ref mS, .null, .int 0, .ref mC, .int 0, .int 0, .int 0, .ref mR, .ref mJ, .ref mA, .int 0, .int 0, .int 0, .ref mD, .ref mT])), (mM, .inl (cy 0, 559, .inl (fun _ => 0))), (mL, .inl (cy 5, 26, .inr (.inr (.inr (.inr g))))), (mD, .inl (cy 0, 559, .inl (fun _ => 0))), (mT, .inl (cy 0, 3, .inl (fun _ => 0)))] : va_W)) (cx := ([(md, .inr (9, [.ref mM, .ref mL, .ref mS, .null, .int 0, .ref mC, .int 0, .int 0, .int 0, .ref mR, .ref mJ, .ref mA, .int 0, .int 0, .int 0, .ref mD, .ref mT])), (mM, .inl (cy 0, 559, .inl (fun _ => 0))), (mL, .inl (cy 5, 26, .inr (.inr (.inr (.inr g))))), (mD, .inl (cy 0, 559, .inl (fun _ => 0))), (mT, .inl (cy 0, 3, .inl (fun _ => 0)))] : va_W)) hD hS hA [0, 1, 2, 3, 4] rfl
      refine va_callv (va_runV (As := [.int i0]) (rest := []) ⟨hx, hb, hml, hown, hts⟩ (c_thinks l D cy md mM mL mS mC mR mJ mA mD mT (L) (g) hg i0 s.heap.size) (cwV 1 hts (gt_V kt_1176 kt_1178 kp_69 kt_8 kt_1179) rfl rfl rfl (by decide +kernel) ⟨Nat.le_of_ble_eq_true rfl, Nat.le_of_ble_eq_true rfl⟩) (gN_V hK hPc hDc hP (ci := 9) (q0 := 0) rfl rfl) rfl rfl hl.1 rfl (lv_room (Nat.le_of_ble_eq_true rfl)) dX10_would_25 ⟨Nat.le_of_ble_eq_true rfl, Nat.le_of_ble_eq_true rfl⟩) hS (fun q _ h => hFc q h) hFc (fun u21 t H1 locs ht2 hvm hw22 hB hz1 hk1 hS => ?_)
      obtain ⟨hP1, hD1⟩ := hB
      rw [ht2] at hP1
      obtain ⟨hP, hD⟩ := va_joinP (X := ([(md, .inr (9, [.ref mM, .ref mL, .ref mS, .null, .int 0, .ref mC, .int 0, .int 0, .int 0, .ref mR, .ref mJ, .ref mA, .int 0, .int 0, .int 0, .ref mD, .ref mT])), (mM, .inl (cy 0, 559, .inl (fun _ => 0))), (mL, .inl (cy 5, 26, .inr (.inr (.inr (.inr g))))), (mD, .inl (cy 0, 559, .inl (fun _ => 0))), (mT, .inl (cy 0, 3, .inl (fun _ => 0)))] : va_W)) (cx := ([(md, .inr (9, [.ref mM, .ref mL, .ref mS, .null, .int 0, .ref mC, .int 0, .int 0, .int 0, .ref mR, .ref mJ, .ref mA, .int 0, .int 0, .int 0, .ref mD, .ref mT])), (mM, .inl (cy 0, 559, .inl (fun _ => 0))), (mL, .inl (cy 5, 26, .inr (.inr (.inr (.inr g))))), (mD, .inl (cy 0, 559, .inl (fun _ => 0))), (mT, .inl (cy 0, 3, .inl (fun _ => 0)))] : va_W)) (wr := ([] : va_W)) (rx := ([(md, .inr (9, [.ref mM, .ref mL, .ref mS, .null, .int 0, .ref mC, .int 0, .int 0, .int 0, .ref mR, .ref mJ, .ref mA, .int 0, .int 0, .int 0, .ref mD, .ref mT])), (mM, .inl (cy 0, 559, .inl (fun _ => 0))), (mL, .inl (cy 5, 26, .inr (.inr (.inr (.inr u21.2))))), (mD, .inl (cy 0, 559, .inl (fun _ => 0))), (mT, .inl (cy 0, 3, .inl (fun _ => 0)))] : va_W)) (pl1 := PL cy u21.1) hP hD [0, 1, 2, 3, 4] [] rfl rfl (by decide) (by decide) hk1 hFc hP1 hD1
      generalize H1 = H at hP hS ⊢
      have hP : va_P D classes ([(md, .inr (9, [.ref mM, .ref mL, .ref mS, .null, .int 0, .ref mC, .int 0, .int 0, .int 0, .ref mR, .ref mJ, .ref mA, .int 0, .int 0, .int 0, .ref mD, .ref mT])), (mM, .inl (cy 0, 559, .inl (fun _ => 0))), (mL, .inl (cy 5, 26, .inr (.inr (.inr (.inr u21.2))))), (mD, .inl (cy 0, 559, .inl (fun _ => 0))), (mT, .inl (cy 0, 3, .inl (fun _ => 0)))] ++ PL cy u21.1) H := hP
      have hD : va_D A ([(md, .inr (9, [.ref mM, .ref mL, .ref mS, .null, .int 0, .ref mC, .int 0, .int 0, .int 0, .ref mR, .ref mJ, .ref mA, .int 0, .int 0, .int 0, .ref mD, .ref mT])), (mM, .inl (cy 0, 559, .inl (fun _ => 0))), (mL, .inl (cy 5, 26, .inr (.inr (.inr (.inr u21.2))))), (mD, .inl (cy 0, 559, .inl (fun _ => 0))), (mT, .inl (cy 0, 3, .inl (fun _ => 0)))] ++ PL cy u21.1) := hD
      refine W.widen (k := 27) (n := 3354) (Nat.le_of_ble_eq_true rfl) (Nat.le_of_ble_eq_true rfl) ?_
      refine lv_aload_n hx hb dX10_would_28 rfl (lv_at hl 0 rfl) ?_
      refine va_get (D := D) (ci := 9) (v := .ref mT) (C := RX10) (T := TX10) (N := 17) hx hb hts i_X10 hown hK.1 hP 0 rfl rfl 16 (by decide) (ht _ kt_865) (fun _ h9 => h9) rfl dX10_would_29 ?_
      refine lv_iload_n hx hb dX10_would_32 rfl (lv_at hl 2 rfl) ?_
      refine va_iald hx hb hK.1 hP 4 0 rfl rfl (vp_in_iff.mpr ⟨by omega, by omega⟩) dX10_would_33 ?_
      refine lz_i 0 rfl ?_
      refine W.widen (k := 27) (n := 3354) (Nat.le_of_ble_eq_true rfl) (Nat.le_of_ble_eq_true rfl) ?_
      exact W.iret (v := 0) hx hb hr (fun t ht2 hW => ⟨⟨0, (), rfl, (Or.inr (Or.inr (Or.inr (Or.inr (⟨c6, c7, c16, c17, rfl⟩))))), trivial⟩, hS.F ht2⟩) hS.2.2 dX10_would_34
set_option maxHeartbeats 4000000 in
set_option maxRecDepth 100000 in
theorem c_m_best (l : Launch) (D : va_G) (cy : Nat → ClassId) (md mM mL mS mC mR mJ mA mD mT : Nat) (L : List Nat) (g : Nat → Option Nat) (hg : okG g L 26) (sz : Nat) : Met l yX10_best (Cond.code yX10_best cX10_best 4 (some .int) :: GT) ({ frames := 2, cells := 135, slots := 16770, locals := 46 }) (gN D cy ([(md, .inr (9, [.ref mM, .ref mL, .ref mS, .null, .int 0, .ref mC, .int 0, .int 0, .int 0, .ref mR, .ref mJ, .ref mA, .int 0, .int 0, .int 0, .ref mD, .ref mT])), (mM, .inl (cy 0, 559, .inl (fun _ => 0))), (mL, .inl (cy 5, 26, .inr (.inr (.inr (.inr g))))), (mD, .inl (cy 0, 559, .inl (fun _ => 0))), (mT, .inl (cy 0, 3, .inl (fun _ => 0)))] ++ PL cy L) [.ref md] sz) (va_Qi (fun (r : Int32) (_ : Unit) => r = 0) (fun _ _ => True) (va_A ([(md, .inr (9, [.ref mM, .ref mL, .ref mS, .null, .int 0, .ref mC, .int 0, .int 0, .int 0, .ref mR, .ref mJ, .ref mA, .int 0, .int 0, .int 0, .ref mD, .ref mT])), (mM, .inl (cy 0, 559, .inl (fun _ => 0))), (mL, .inl (cy 5, 26, .inr (.inr (.inr (.inr g))))), (mD, .inl (cy 0, 559, .inl (fun _ => 0))), (mT, .inl (cy 0, 3, .inl (fun _ => 0)))] ++ PL cy L) sz)) 135 16770 (va_A ([(md, .inr (9, [.ref mM, .ref mL, .ref mS, .null, .int 0, .ref mC, .int 0, .int 0, .int 0, .ref mR, .ref mJ, .ref mA, .int 0, .int 0, .int 0, .ref mD, .ref mT])), (mM, .inl (cy 0, 559, .inl (fun _ => 0))), (mL, .inl (cy 5, 26, .inr (.inr (.inr (.inr g))))), (mD, .inl (cy 0, 559, .inl (fun _ => 0))), (mT, .inl (cy 0, 3, .inl (fun _ => 0)))] ++ PL cy L) sz) := by
  refine Met.ofW (cc := cX10_best) (maxL := 4) (ret := some .int) (by decide) rfl ?_
  intro p e s m args below meth c s₁ B hml hv
  obtain ⟨rfl, hsz, hP, hK, hD0⟩ := hv
  have hx := B.exec
  have hb := B.bytes
  have hr := B.returns
  have hts := atoms_spec (ws := (Cond.code yX10_best cX10_best 4 (some .int) :: GT)) B.pre
  have ht : ∀ w ∈ GT, w.before _ s = true := fun w h => hts w (List.mem_cons_of_mem _ h)
  have hown : s.vm.findClass RX10 = some m.cls := findClass_of_methodNamed B.named
  have hlocks := B.notSynchronized
  subst hsz
  have hD := hD0.self (sz := s.heap.size)
  generalize hAe : va_A ([(md, .inr (9, [.ref mM, .ref mL, .ref mS, .null, .int 0, .ref mC, .int 0, .int 0, .int 0, .ref mR, .ref mJ, .ref mA, .int 0, .int 0, .int 0, .ref mD, .ref mT])), (mM, .inl (cy 0, 559, .inl (fun _ => 0))), (mL, .inl (cy 5, 26, .inr (.inr (.inr (.inr g))))), (mD, .inl (cy 0, 559, .inl (fun _ => 0))), (mT, .inl (cy 0, 3, .inl (fun _ => 0)))] ++ PL cy L) s.heap.size = A at hD ⊢
  have hA : ∀ q : Nat, s.heap.size ≤ q → A q := fun q h => by rw [← hAe]; exact Or.inr h
  have hS : va_S A s.heap s.heap [] := va_S.rf
  have hl := lv_entry ([.ref md]) (n := 4) (Nat.le_of_ble_eq_true rfl)
  rw [lg_entry_eq]
  generalize (lg_sl ([.ref md]) ++ List.replicate (4 - (lg_sl ([.ref md])).length) Slot.unset).toArray = ls at hl ⊢
  have hl : lv_has ls 4 [(0, .ref md)] := hl
  refine lv_iconst (v := 0) hx hb dX10_best_0 (by decide) ?_
  refine lv_istore_n (lv' := [(1, .int 0), (0, .ref md)]) hx hb dX10_best_1 rfl hl (by decide) rfl (fun ls hl => ?_)
  refine lv_ldc (v := 2147483647) hx hb hown (ht _ kt_1188) dX10_best_2 ?_
  refine lv_istore_n (lv' := [(2, .int 2147483647), (1, .int 0), (0, .ref md)]) hx hb dX10_best_4 rfl hl (by decide) rfl (fun ls hl => ?_)
  refine lv_iconst (v := 0) hx hb dX10_best_5 (by decide) ?_
  refine lv_istore_n (lv' := [(3, .int 0), (2, .int 2147483647), (1, .int 0), (0, .ref md)]) hx hb dX10_best_6 rfl hl (by decide) rfl (fun ls hl => ?_)
  refine lv_iload_n hx hb dX10_best_7 rfl (lv_at hl 0 rfl) ?_
  refine lv_iconst (v := 5) hx hb dX10_best_8 (by decide) ?_
  refine lv_icmp_ge (tgt := 50) hx hb dX10_best_9 (by decide) (fun c1 => absurd c1 (by decide)) (fun _ => ?_)
  refine lv_aload_n hx hb dX10_best_12 rfl (lv_at hl 3 rfl) ?_
  refine lv_iload_n hx hb dX10_best_13 rfl (lv_at hl 0 rfl) ?_
  have hPc := va_P.part (X := ([(md, .inr (9, [.ref mM, .ref mL, .ref mS, .null, .int 0, .ref mC, .int 0, .int 0, .int 0, .ref mR, .ref mJ, .ref mA, .int 0, .int 0, .int 0, .ref mD, .ref mT])), (mM, .inl (cy 0, 559, .inl (fun _ => 0))), (mL, .inl (cy 5, 26, .inr (.inr (.inr (.inr g))))), (mD, .inl (cy 0, 559, .inl (fun _ => 0))), (mT, .inl (cy 0, 3, .inl (fun _ => 0)))] : va_W)) (cx := ([(md, .inr (9, [.ref mM, .ref mL, .ref mS, .null, .int 0, .ref mC, .int 0, .int 0, .int 0, .ref mR, .ref mJ, .ref mA, .int 0, .int 0, .int 0, .ref mD, .ref mT])), (mM, .inl (cy 0, 559, .inl (fun _ => 0))), (mL, .inl (cy 5, 26, .inr (.inr (.inr (.inr g))))), (mD, .inl (cy 0, 559, .inl (fun _ => 0))), (mT, .inl (cy 0, 3, .inl (fun _ => 0)))] : va_W)) hP [0, 1, 2, 3, 4] rfl
  have hDc := va_D.part (X := ([(md, .inr (9, [.ref mM, .ref mL, .ref mS, .null, .int 0, .ref mC, .int 0, .int 0, .int 0, .ref mR, .ref mJ, .ref mA, .int 0, .int 0, .int 0, .ref mD, .ref mT])), (mM, .inl (cy 0, 559, .inl (fun _ => 0))), (mL, .inl (cy 5, 26, .inr (.inr (.inr (.inr g))))), (mD, .inl (cy 0, 559, .inl (fun _ => 0))), (mT, .inl (cy 0, 3, .inl (fun _ => 0)))] : va_W)) (cx := ([(md, .inr (9, [.ref mM, .ref mL, .ref mS, .null, .int 0, .ref mC, .int 0, .int 0, .int 0, .ref mR, .ref mJ, .ref mA, .int 0, .int 0, .int 0, .ref mD, .ref mT])), (mM, .inl (cy 0, 559, .inl (fun _ => 0))), (mL, .inl (cy 5, 26, .inr (.inr (.inr (.inr g))))), (mD, .inl (cy 0, 559, .inl (fun _ => 0))), (mT, .inl (cy 0, 3, .inl (fun _ => 0)))] : va_W)) hD [0, 1, 2, 3, 4] (by decide) rfl
  have hFc := va_freeP (X := ([(md, .inr (9, [.ref mM, .ref mL, .ref mS, .null, .int 0, .ref mC, .int 0, .int 0, .int 0, .ref mR, .ref mJ, .ref mA, .int 0, .int 0, .int 0, .ref mD, .ref mT])), (mM, .inl (cy 0, 559, .inl (fun _ => 0))), (mL, .inl (cy 5, 26, .inr (.inr (.inr (.inr g))))), (mD, .inl (cy 0, 559, .inl (fun _ => 0))), (mT, .inl (cy 0, 3, .inl (fun _ => 0)))] : va_W)) (cx := ([(md, .inr (9, [.ref mM, .ref mL, .ref mS, .null, .int 0, .ref mC, .int 0, .int 0, .int 0, .ref mR, .ref mJ, .ref mA, .int 0, .int 0, .int 0, .ref mD, .ref mT])), (mM, .inl (cy 0, 559, .inl (fun _ => 0))), (mL, .inl (cy 5, 26, .inr (.inr (.inr (.inr g))))), (mD, .inl (cy 0, 559, .inl (fun _ => 0))), (mT, .inl (cy 0, 3, .inl (fun _ => 0)))] : va_W)) hD hS hA [0, 1, 2, 3, 4] rfl
  refine va_callv (va_runV (As := [.int 0]) (rest := []) ⟨hx, hb, hml, hown, hts⟩ (c_thinks l D cy md mM mL mS mC mR mJ mA mD mT (L) (g) hg 0 s.heap.size) (cwV 1 hts (gt_V kt_1176 kt_1178 kp_69 kt_8 kt_1179) rfl rfl rfl (by decide +kernel) ⟨Nat.le_of_ble_eq_true rfl, Nat.le_of_ble_eq_true rfl⟩) (gN_V hK hPc hDc hP (ci := 9) (q0 := 0) rfl rfl) rfl rfl hl.1 rfl (lv_room (Nat.le_of_ble_eq_true rfl)) dX10_best_14 ⟨Nat.le_of_ble_eq_true rfl, Nat.le_of_ble_eq_true rfl⟩) hS (fun q _ h => hFc q h) hFc (fun u2 t H1 locs ht2 hvm hw3 hB hz1 hk1 hS => ?_)
  obtain ⟨hP1, hD1⟩ := hB
  rw [ht2] at hP1
  obtain ⟨hP, hD⟩ := va_joinP (X := ([(md, .inr (9, [.ref mM, .ref mL, .ref mS, .null, .int 0, .ref mC, .int 0, .int 0, .int 0, .ref mR, .ref mJ, .ref mA, .int 0, .int 0, .int 0, .ref mD, .ref mT])), (mM, .inl (cy 0, 559, .inl (fun _ => 0))), (mL, .inl (cy 5, 26, .inr (.inr (.inr (.inr g))))), (mD, .inl (cy 0, 559, .inl (fun _ => 0))), (mT, .inl (cy 0, 3, .inl (fun _ => 0)))] : va_W)) (cx := ([(md, .inr (9, [.ref mM, .ref mL, .ref mS, .null, .int 0, .ref mC, .int 0, .int 0, .int 0, .ref mR, .ref mJ, .ref mA, .int 0, .int 0, .int 0, .ref mD, .ref mT])), (mM, .inl (cy 0, 559, .inl (fun _ => 0))), (mL, .inl (cy 5, 26, .inr (.inr (.inr (.inr g))))), (mD, .inl (cy 0, 559, .inl (fun _ => 0))), (mT, .inl (cy 0, 3, .inl (fun _ => 0)))] : va_W)) (wr := ([] : va_W)) (rx := ([(md, .inr (9, [.ref mM, .ref mL, .ref mS, .null, .int 0, .ref mC, .int 0, .int 0, .int 0, .ref mR, .ref mJ, .ref mA, .int 0, .int 0, .int 0, .ref mD, .ref mT])), (mM, .inl (cy 0, 559, .inl (fun _ => 0))), (mL, .inl (cy 5, 26, .inr (.inr (.inr (.inr u2.2))))), (mD, .inl (cy 0, 559, .inl (fun _ => 0))), (mT, .inl (cy 0, 3, .inl (fun _ => 0)))] : va_W)) (pl1 := PL cy u2.1) hP hD [0, 1, 2, 3, 4] [] rfl rfl (by decide) (by decide) hk1 hFc hP1 hD1
  generalize H1 = H at hP hS ⊢
  have hP : va_P D classes ([(md, .inr (9, [.ref mM, .ref mL, .ref mS, .null, .int 0, .ref mC, .int 0, .int 0, .int 0, .ref mR, .ref mJ, .ref mA, .int 0, .int 0, .int 0, .ref mD, .ref mT])), (mM, .inl (cy 0, 559, .inl (fun _ => 0))), (mL, .inl (cy 5, 26, .inr (.inr (.inr (.inr u2.2))))), (mD, .inl (cy 0, 559, .inl (fun _ => 0))), (mT, .inl (cy 0, 3, .inl (fun _ => 0)))] ++ PL cy u2.1) H := hP
  have hD : va_D A ([(md, .inr (9, [.ref mM, .ref mL, .ref mS, .null, .int 0, .ref mC, .int 0, .int 0, .int 0, .ref mR, .ref mJ, .ref mA, .int 0, .int 0, .int 0, .ref mD, .ref mT])), (mM, .inl (cy 0, 559, .inl (fun _ => 0))), (mL, .inl (cy 5, 26, .inr (.inr (.inr (.inr u2.2))))), (mD, .inl (cy 0, 559, .inl (fun _ => 0))), (mT, .inl (cy 0, 3, .inl (fun _ => 0)))] ++ PL cy u2.1) := hD
  refine W.widen (k := 27) (n := 3354) (Nat.le_of_ble_eq_true rfl) (Nat.le_of_ble_eq_true rfl) ?_
  refine lv_aload_n hx hb dX10_best_17 rfl (lv_at hl 3 rfl) ?_
  refine va_get (D := D) (ci := 9) (v := .ref mT) (C := RX10) (T := TX10) (N := 17) hx hb hts i_X10 hown hK.1 hP 0 rfl rfl 16 (by decide) (ht _ kt_865) (fun _ h9 => h9) rfl dX10_best_18 ?_
  refine lv_iconst (v := 0) hx hb dX10_best_21 (by decide) ?_
  refine va_iald hx hb hK.1 hP 4 0 rfl rfl (vin (by decide)) dX10_best_22 ?_
  refine lz_i 0 rfl ?_
  refine lv_iload_n hx hb dX10_best_23 rfl (lv_at hl 1 rfl) ?_
  refine lv_icmp_ge (tgt := 31) hx hb dX10_best_24 (by decide) (fun c4 => absurd c4 (by decide)) (fun _ => ?_)
  refine lv_iload_n hx hb dX10_best_27 rfl (lv_at hl 0 rfl) ?_
  refine lv_goto (tgt := 32) hx hb dX10_best_28 (by decide) ?_
  refine lv_istore_n (lv' := [(1, .int 0), (3, .int 0), (2, .int 2147483647), (0, .ref md)]) hx hb dX10_best_32 rfl hl (by decide) rfl (fun ls hl => ?_)
  refine lv_iload_n hx hb dX10_best_33 rfl (lv_at hl 2 rfl) ?_
  refine lv_aload_n hx hb dX10_best_34 rfl (lv_at hl 3 rfl) ?_
  refine va_get (D := D) (ci := 9) (v := .ref mT) (C := RX10) (T := TX10) (N := 17) hx hb hts i_X10 hown hK.1 hP 0 rfl rfl 16 (by decide) (ht _ kt_865) (fun _ h9 => h9) rfl dX10_best_35 ?_
  refine lv_iconst (v := 0) hx hb dX10_best_38 (by decide) ?_
  refine va_iald hx hb hK.1 hP 4 0 rfl rfl (vin (by decide)) dX10_best_39 ?_
  refine lz_i 0 rfl ?_
  refine va_mmin hx hb (hml.trans hl.1.symm) hown (ht _ kt_976) (ht _ kt_415) (ht _ kt_12) (ht _ kt_416) (Nat.le_of_ble_eq_true rfl) (Nat.le_of_ble_eq_true rfl) (Nat.le_of_ble_eq_true rfl) (Nat.le_of_ble_eq_true rfl) dX10_best_40 ?_
  refine lz_i 0 (by decide) ?_
  refine lv_istore_n (lv' := [(2, .int 0), (1, .int 0), (3, .int 0), (0, .ref md)]) hx hb dX10_best_43 rfl hl (by decide) rfl (fun ls hl => ?_)
  refine lv_iinc (v := 1) (lv' := [(3, .int 1), (2, .int 0), (1, .int 0), (0, .ref md)]) hx hb dX10_best_44 hl (k := 2) rfl (by decide) (by decide) rfl (fun ls hl => ?_)
  refine lv_goto (tgt := 7) hx hb dX10_best_47 (by decide) ?_
  refine lv_iload_n hx hb dX10_best_7 rfl (lv_at hl 0 rfl) ?_
  refine lv_iconst (v := 5) hx hb dX10_best_8 (by decide) ?_
  refine lv_icmp_ge (tgt := 50) hx hb dX10_best_9 (by decide) (fun c5 => absurd c5 (by decide)) (fun _ => ?_)
  refine lv_aload_n hx hb dX10_best_12 rfl (lv_at hl 3 rfl) ?_
  refine lv_iload_n hx hb dX10_best_13 rfl (lv_at hl 0 rfl) ?_
  have hPc := va_P.part (X := ([(md, .inr (9, [.ref mM, .ref mL, .ref mS, .null, .int 0, .ref mC, .int 0, .int 0, .int 0, .ref mR, .ref mJ, .ref mA, .int 0, .int 0, .int 0, .ref mD, .ref mT])), (mM, .inl (cy 0, 559, .inl (fun _ => 0))), (mL, .inl (cy 5, 26, .inr (.inr (.inr (.inr u2.2))))), (mD, .inl (cy 0, 559, .inl (fun _ => 0))), (mT, .inl (cy 0, 3, .inl (fun _ => 0)))] : va_W)) (cx := ([(md, .inr (9, [.ref mM, .ref mL, .ref mS, .null, .int 0, .ref mC, .int 0, .int 0, .int 0, .ref mR, .ref mJ, .ref mA, .int 0, .int 0, .int 0, .ref mD, .ref mT])), (mM, .inl (cy 0, 559, .inl (fun _ => 0))), (mL, .inl (cy 5, 26, .inr (.inr (.inr (.inr u2.2))))), (mD, .inl (cy 0, 559, .inl (fun _ => 0))), (mT, .inl (cy 0, 3, .inl (fun _ => 0)))] : va_W)) hP [0, 1, 2, 3, 4] rfl
  have hDc := va_D.part (X := ([(md, .inr (9, [.ref mM, .ref mL, .ref mS, .null, .int 0, .ref mC, .int 0, .int 0, .int 0, .ref mR, .ref mJ, .ref mA, .int 0, .int 0, .int 0, .ref mD, .ref mT])), (mM, .inl (cy 0, 559, .inl (fun _ => 0))), (mL, .inl (cy 5, 26, .inr (.inr (.inr (.inr u2.2))))), (mD, .inl (cy 0, 559, .inl (fun _ => 0))), (mT, .inl (cy 0, 3, .inl (fun _ => 0)))] : va_W)) (cx := ([(md, .inr (9, [.ref mM, .ref mL, .ref mS, .null, .int 0, .ref mC, .int 0, .int 0, .int 0, .ref mR, .ref mJ, .ref mA, .int 0, .int 0, .int 0, .ref mD, .ref mT])), (mM, .inl (cy 0, 559, .inl (fun _ => 0))), (mL, .inl (cy 5, 26, .inr (.inr (.inr (.inr u2.2))))), (mD, .inl (cy 0, 559, .inl (fun _ => 0))), (mT, .inl (cy 0, 3, .inl (fun _ => 0)))] : va_W)) hD [0, 1, 2, 3, 4] (by decide) rfl
  have hFc := va_freeP (X := ([(md, .inr (9, [.ref mM, .ref mL, .ref mS, .null, .int 0, .ref mC, .int 0, .int 0, .int 0, .ref mR, .ref mJ, .ref mA, .int 0, .int 0, .int 0, .ref mD, .ref mT])), (mM, .inl (cy 0, 559, .inl (fun _ => 0))), (mL, .inl (cy 5, 26, .inr (.inr (.inr (.inr u2.2))))), (mD, .inl (cy 0, 559, .inl (fun _ => 0))), (mT, .inl (cy 0, 3, .inl (fun _ => 0)))] : va_W)) (cx := ([(md, .inr (9, [.ref mM, .ref mL, .ref mS, .null, .int 0, .ref mC, .int 0, .int 0, .int 0, .ref mR, .ref mJ, .ref mA, .int 0, .int 0, .int 0, .ref mD, .ref mT])), (mM, .inl (cy 0, 559, .inl (fun _ => 0))), (mL, .inl (cy 5, 26, .inr (.inr (.inr (.inr u2.2))))), (mD, .inl (cy 0, 559, .inl (fun _ => 0))), (mT, .inl (cy 0, 3, .inl (fun _ => 0)))] : va_W)) hD hS hA [0, 1, 2, 3, 4] rfl
  refine va_callv (va_runV (As := [.int 1]) (rest := []) ⟨hx, hb, hml, hown, hts⟩ (c_thinks l D cy md mM mL mS mC mR mJ mA mD mT (u2.1) (u2.2) hw3 1 H.size) (cwV 1 hts (gt_V kt_1176 kt_1178 kp_69 kt_8 kt_1179) rfl rfl rfl (by decide +kernel) ⟨Nat.le_of_ble_eq_true rfl, Nat.le_of_ble_eq_true rfl⟩) (gN_V hK hPc hDc hP (ci := 9) (q0 := 0) rfl rfl) rfl rfl hl.1 rfl (lv_room (Nat.le_of_ble_eq_true rfl)) dX10_best_14 ⟨Nat.le_of_ble_eq_true rfl, Nat.le_of_ble_eq_true rfl⟩) hS (fun q _ h => hFc q h) hFc (fun u6 t H1 locs ht2 hvm hw7 hB hz1 hk1 hS => ?_)
  obtain ⟨hP1, hD1⟩ := hB
  rw [ht2] at hP1
  obtain ⟨hP, hD⟩ := va_joinP (X := ([(md, .inr (9, [.ref mM, .ref mL, .ref mS, .null, .int 0, .ref mC, .int 0, .int 0, .int 0, .ref mR, .ref mJ, .ref mA, .int 0, .int 0, .int 0, .ref mD, .ref mT])), (mM, .inl (cy 0, 559, .inl (fun _ => 0))), (mL, .inl (cy 5, 26, .inr (.inr (.inr (.inr u2.2))))), (mD, .inl (cy 0, 559, .inl (fun _ => 0))), (mT, .inl (cy 0, 3, .inl (fun _ => 0)))] : va_W)) (cx := ([(md, .inr (9, [.ref mM, .ref mL, .ref mS, .null, .int 0, .ref mC, .int 0, .int 0, .int 0, .ref mR, .ref mJ, .ref mA, .int 0, .int 0, .int 0, .ref mD, .ref mT])), (mM, .inl (cy 0, 559, .inl (fun _ => 0))), (mL, .inl (cy 5, 26, .inr (.inr (.inr (.inr u2.2))))), (mD, .inl (cy 0, 559, .inl (fun _ => 0))), (mT, .inl (cy 0, 3, .inl (fun _ => 0)))] : va_W)) (wr := ([] : va_W)) (rx := ([(md, .inr (9, [.ref mM, .ref mL, .ref mS, .null, .int 0, .ref mC, .int 0, .int 0, .int 0, .ref mR, .ref mJ, .ref mA, .int 0, .int 0, .int 0, .ref mD, .ref mT])), (mM, .inl (cy 0, 559, .inl (fun _ => 0))), (mL, .inl (cy 5, 26, .inr (.inr (.inr (.inr u6.2))))), (mD, .inl (cy 0, 559, .inl (fun _ => 0))), (mT, .inl (cy 0, 3, .inl (fun _ => 0)))] : va_W)) (pl1 := PL cy u6.1) hP hD [0, 1, 2, 3, 4] [] rfl rfl (by decide) (by decide) hk1 hFc hP1 hD1
  generalize H1 = H at hP hS ⊢
  have hP : va_P D classes ([(md, .inr (9, [.ref mM, .ref mL, .ref mS, .null, .int 0, .ref mC, .int 0, .int 0, .int 0, .ref mR, .ref mJ, .ref mA, .int 0, .int 0, .int 0, .ref mD, .ref mT])), (mM, .inl (cy 0, 559, .inl (fun _ => 0))), (mL, .inl (cy 5, 26, .inr (.inr (.inr (.inr u6.2))))), (mD, .inl (cy 0, 559, .inl (fun _ => 0))), (mT, .inl (cy 0, 3, .inl (fun _ => 0)))] ++ PL cy u6.1) H := hP
  have hD : va_D A ([(md, .inr (9, [.ref mM, .ref mL, .ref mS, .null, .int 0, .ref mC, .int 0, .int 0, .int 0, .ref mR, .ref mJ, .ref mA, .int 0, .int 0, .int 0, .ref mD, .ref mT])), (mM, .inl (cy 0, 559, .inl (fun _ => 0))), (mL, .inl (cy 5, 26, .inr (.inr (.inr (.inr u6.2))))), (mD, .inl (cy 0, 559, .inl (fun _ => 0))), (mT, .inl (cy 0, 3, .inl (fun _ => 0)))] ++ PL cy u6.1) := hD
  refine W.widen (k := 54) (n := 6708) (Nat.le_of_ble_eq_true rfl) (Nat.le_of_ble_eq_true rfl) ?_
  refine lv_aload_n hx hb dX10_best_17 rfl (lv_at hl 3 rfl) ?_
  refine va_get (D := D) (ci := 9) (v := .ref mT) (C := RX10) (T := TX10) (N := 17) hx hb hts i_X10 hown hK.1 hP 0 rfl rfl 16 (by decide) (ht _ kt_865) (fun _ h9 => h9) rfl dX10_best_18 ?_
  refine lv_iconst (v := 0) hx hb dX10_best_21 (by decide) ?_
  refine va_iald hx hb hK.1 hP 4 0 rfl rfl (vin (by decide)) dX10_best_22 ?_
  refine lz_i 0 rfl ?_
  refine lv_iload_n hx hb dX10_best_23 rfl (lv_at hl 1 rfl) ?_
  refine lv_icmp_ge (tgt := 31) hx hb dX10_best_24 (by decide) (fun _ => ?_) (fun c8 => absurd c8 (by decide))
  refine lv_iload_n hx hb dX10_best_31 rfl (lv_at hl 2 rfl) ?_
  refine lv_istore_n (lv' := [(1, .int 0), (3, .int 1), (2, .int 0), (0, .ref md)]) hx hb dX10_best_32 rfl hl (by decide) rfl (fun ls hl => ?_)
  refine lv_iload_n hx hb dX10_best_33 rfl (lv_at hl 2 rfl) ?_
  refine lv_aload_n hx hb dX10_best_34 rfl (lv_at hl 3 rfl) ?_
  refine va_get (D := D) (ci := 9) (v := .ref mT) (C := RX10) (T := TX10) (N := 17) hx hb hts i_X10 hown hK.1 hP 0 rfl rfl 16 (by decide) (ht _ kt_865) (fun _ h9 => h9) rfl dX10_best_35 ?_
  refine lv_iconst (v := 0) hx hb dX10_best_38 (by decide) ?_
  refine va_iald hx hb hK.1 hP 4 0 rfl rfl (vin (by decide)) dX10_best_39 ?_
  refine lz_i 0 rfl ?_
  refine va_mmin hx hb (hml.trans hl.1.symm) hown (ht _ kt_976) (ht _ kt_415) (ht _ kt_12) (ht _ kt_416) (Nat.le_of_ble_eq_true rfl) (Nat.le_of_ble_eq_true rfl) (Nat.le_of_ble_eq_true rfl) (Nat.le_of_ble_eq_true rfl) dX10_best_40 ?_
  refine lz_i 0 (by decide) ?_
  refine lv_istore_n (lv' := [(2, .int 0), (1, .int 0), (3, .int 1), (0, .ref md)]) hx hb dX10_best_43 rfl hl (by decide) rfl (fun ls hl => ?_)
  refine lv_iinc (v := 2) (lv' := [(3, .int 2), (2, .int 0), (1, .int 0), (0, .ref md)]) hx hb dX10_best_44 hl (k := 2) rfl (by decide) (by decide) rfl (fun ls hl => ?_)
  refine lv_goto (tgt := 7) hx hb dX10_best_47 (by decide) ?_
  refine lv_iload_n hx hb dX10_best_7 rfl (lv_at hl 0 rfl) ?_
  refine lv_iconst (v := 5) hx hb dX10_best_8 (by decide) ?_
  refine lv_icmp_ge (tgt := 50) hx hb dX10_best_9 (by decide) (fun c9 => absurd c9 (by decide)) (fun _ => ?_)
  refine lv_aload_n hx hb dX10_best_12 rfl (lv_at hl 3 rfl) ?_
  refine lv_iload_n hx hb dX10_best_13 rfl (lv_at hl 0 rfl) ?_
  have hPc := va_P.part (X := ([(md, .inr (9, [.ref mM, .ref mL, .ref mS, .null, .int 0, .ref mC, .int 0, .int 0, .int 0, .ref mR, .ref mJ, .ref mA, .int 0, .int 0, .int 0, .ref mD, .ref mT])), (mM, .inl (cy 0, 559, .inl (fun _ => 0))), (mL, .inl (cy 5, 26, .inr (.inr (.inr (.inr u6.2))))), (mD, .inl (cy 0, 559, .inl (fun _ => 0))), (mT, .inl (cy 0, 3, .inl (fun _ => 0)))] : va_W)) (cx := ([(md, .inr (9, [.ref mM, .ref mL, .ref mS, .null, .int 0, .ref mC, .int 0, .int 0, .int 0, .ref mR, .ref mJ, .ref mA, .int 0, .int 0, .int 0, .ref mD, .ref mT])), (mM, .inl (cy 0, 559, .inl (fun _ => 0))), (mL, .inl (cy 5, 26, .inr (.inr (.inr (.inr u6.2))))), (mD, .inl (cy 0, 559, .inl (fun _ => 0))), (mT, .inl (cy 0, 3, .inl (fun _ => 0)))] : va_W)) hP [0, 1, 2, 3, 4] rfl
  have hDc := va_D.part (X := ([(md, .inr (9, [.ref mM, .ref mL, .ref mS, .null, .int 0, .ref mC, .int 0, .int 0, .int 0, .ref mR, .ref mJ, .ref mA, .int 0, .int 0, .int 0, .ref mD, .ref mT])), (mM, .inl (cy 0, 559, .inl (fun _ => 0))), (mL, .inl (cy 5, 26, .inr (.inr (.inr (.inr u6.2))))), (mD, .inl (cy 0, 559, .inl (fun _ => 0))), (mT, .inl (cy 0, 3, .inl (fun _ => 0)))] : va_W)) (cx := ([(md, .inr (9, [.ref mM, .ref mL, .ref mS, .null, .int 0, .ref mC, .int 0, .int 0, .int 0, .ref mR, .ref mJ, .ref mA, .int 0, .int 0, .int 0, .ref mD, .ref mT])), (mM, .inl (cy 0, 559, .inl (fun _ => 0))), (mL, .inl (cy 5, 26, .inr (.inr (.inr (.inr u6.2))))), (mD, .inl (cy 0, 559, .inl (fun _ => 0))), (mT, .inl (cy 0, 3, .inl (fun _ => 0)))] : va_W)) hD [0, 1, 2, 3, 4] (by decide) rfl
  have hFc := va_freeP (X := ([(md, .inr (9, [.ref mM, .ref mL, .ref mS, .null, .int 0, .ref mC, .int 0, .int 0, .int 0, .ref mR, .ref mJ, .ref mA, .int 0, .int 0, .int 0, .ref mD, .ref mT])), (mM, .inl (cy 0, 559, .inl (fun _ => 0))), (mL, .inl (cy 5, 26, .inr (.inr (.inr (.inr u6.2))))), (mD, .inl (cy 0, 559, .inl (fun _ => 0))), (mT, .inl (cy 0, 3, .inl (fun _ => 0)))] : va_W)) (cx := ([(md, .inr (9, [.ref mM, .ref mL, .ref mS, .null, .int 0, .ref mC, .int 0, .int 0, .int 0, .ref mR, .ref mJ, .ref mA, .int 0, .int 0, .int 0, .ref mD, .ref mT])), (mM, .inl (cy 0, 559, .inl (fun _ => 0))), (mL, .inl (cy 5, 26, .inr (.inr (.inr (.inr u6.2))))), (mD, .inl (cy 0, 559, .inl (fun _ => 0))), (mT, .inl (cy 0, 3, .inl (fun _ => 0)))] : va_W)) hD hS hA [0, 1, 2, 3, 4] rfl
  refine va_callv (va_runV (As := [.int 2]) (rest := []) ⟨hx, hb, hml, hown, hts⟩ (c_thinks l D cy md mM mL mS mC mR mJ mA mD mT (u6.1) (u6.2) hw7 2 H.size) (cwV 1 hts (gt_V kt_1176 kt_1178 kp_69 kt_8 kt_1179) rfl rfl rfl (by decide +kernel) ⟨Nat.le_of_ble_eq_true rfl, Nat.le_of_ble_eq_true rfl⟩) (gN_V hK hPc hDc hP (ci := 9) (q0 := 0) rfl rfl) rfl rfl hl.1 rfl (lv_room (Nat.le_of_ble_eq_true rfl)) dX10_best_14 ⟨Nat.le_of_ble_eq_true rfl, Nat.le_of_ble_eq_true rfl⟩) hS (fun q _ h => hFc q h) hFc (fun u10 t H1 locs ht2 hvm hw11 hB hz1 hk1 hS => ?_)
  obtain ⟨hP1, hD1⟩ := hB
  rw [ht2] at hP1
  obtain ⟨hP, hD⟩ := va_joinP (X := ([(md, .inr (9, [.ref mM, .ref mL, .ref mS, .null, .int 0, .ref mC, .int 0, .int 0, .int 0, .ref mR, .ref mJ, .ref mA, .int 0, .int 0, .int 0, .ref mD, .ref mT])), (mM, .inl (cy 0, 559, .inl (fun _ => 0))), (mL, .inl (cy 5, 26, .inr (.inr (.inr (.inr u6.2))))), (mD, .inl (cy 0, 559, .inl (fun _ => 0))), (mT, .inl (cy 0, 3, .inl (fun _ => 0)))] : va_W)) (cx := ([(md, .inr (9, [.ref mM, .ref mL, .ref mS, .null, .int 0, .ref mC, .int 0, .int 0, .int 0, .ref mR, .ref mJ, .ref mA, .int 0, .int 0, .int 0, .ref mD, .ref mT])), (mM, .inl (cy 0, 559, .inl (fun _ => 0))), (mL, .inl (cy 5, 26, .inr (.inr (.inr (.inr u6.2))))), (mD, .inl (cy 0, 559, .inl (fun _ => 0))), (mT, .inl (cy 0, 3, .inl (fun _ => 0)))] : va_W)) (wr := ([] : va_W)) (rx := ([(md, .inr (9, [.ref mM, .ref mL, .ref mS, .null, .int 0, .ref mC, .int 0, .int 0, .int 0, .ref mR, .ref mJ, .ref mA, .int 0, .int 0, .int 0, .ref mD, .ref mT])), (mM, .inl (cy 0, 559, .inl (fun _ => 0))), (mL, .inl (cy 5, 26, .inr (.inr (.inr (.inr u10.2))))), (mD, .inl (cy 0, 559, .inl (fun _ => 0))), (mT, .inl (cy 0, 3, .inl (fun _ => 0)))] : va_W)) (pl1 := PL cy u10.1) hP hD [0, 1, 2, 3, 4] [] rfl rfl (by decide) (by decide) hk1 hFc hP1 hD1
  generalize H1 = H at hP hS ⊢
  have hP : va_P D classes ([(md, .inr (9, [.ref mM, .ref mL, .ref mS, .null, .int 0, .ref mC, .int 0, .int 0, .int 0, .ref mR, .ref mJ, .ref mA, .int 0, .int 0, .int 0, .ref mD, .ref mT])), (mM, .inl (cy 0, 559, .inl (fun _ => 0))), (mL, .inl (cy 5, 26, .inr (.inr (.inr (.inr u10.2))))), (mD, .inl (cy 0, 559, .inl (fun _ => 0))), (mT, .inl (cy 0, 3, .inl (fun _ => 0)))] ++ PL cy u10.1) H := hP
  have hD : va_D A ([(md, .inr (9, [.ref mM, .ref mL, .ref mS, .null, .int 0, .ref mC, .int 0, .int 0, .int 0, .ref mR, .ref mJ, .ref mA, .int 0, .int 0, .int 0, .ref mD, .ref mT])), (mM, .inl (cy 0, 559, .inl (fun _ => 0))), (mL, .inl (cy 5, 26, .inr (.inr (.inr (.inr u10.2))))), (mD, .inl (cy 0, 559, .inl (fun _ => 0))), (mT, .inl (cy 0, 3, .inl (fun _ => 0)))] ++ PL cy u10.1) := hD
  refine W.widen (k := 81) (n := 10062) (Nat.le_of_ble_eq_true rfl) (Nat.le_of_ble_eq_true rfl) ?_
  refine lv_aload_n hx hb dX10_best_17 rfl (lv_at hl 3 rfl) ?_
  refine va_get (D := D) (ci := 9) (v := .ref mT) (C := RX10) (T := TX10) (N := 17) hx hb hts i_X10 hown hK.1 hP 0 rfl rfl 16 (by decide) (ht _ kt_865) (fun _ h9 => h9) rfl dX10_best_18 ?_
  refine lv_iconst (v := 0) hx hb dX10_best_21 (by decide) ?_
  refine va_iald hx hb hK.1 hP 4 0 rfl rfl (vin (by decide)) dX10_best_22 ?_
  refine lz_i 0 rfl ?_
  refine lv_iload_n hx hb dX10_best_23 rfl (lv_at hl 1 rfl) ?_
  refine lv_icmp_ge (tgt := 31) hx hb dX10_best_24 (by decide) (fun _ => ?_) (fun c12 => absurd c12 (by decide))
  refine lv_iload_n hx hb dX10_best_31 rfl (lv_at hl 2 rfl) ?_
  refine lv_istore_n (lv' := [(1, .int 0), (3, .int 2), (2, .int 0), (0, .ref md)]) hx hb dX10_best_32 rfl hl (by decide) rfl (fun ls hl => ?_)
  refine lv_iload_n hx hb dX10_best_33 rfl (lv_at hl 2 rfl) ?_
  refine lv_aload_n hx hb dX10_best_34 rfl (lv_at hl 3 rfl) ?_
  refine va_get (D := D) (ci := 9) (v := .ref mT) (C := RX10) (T := TX10) (N := 17) hx hb hts i_X10 hown hK.1 hP 0 rfl rfl 16 (by decide) (ht _ kt_865) (fun _ h9 => h9) rfl dX10_best_35 ?_
  refine lv_iconst (v := 0) hx hb dX10_best_38 (by decide) ?_
  refine va_iald hx hb hK.1 hP 4 0 rfl rfl (vin (by decide)) dX10_best_39 ?_
  refine lz_i 0 rfl ?_
  refine va_mmin hx hb (hml.trans hl.1.symm) hown (ht _ kt_976) (ht _ kt_415) (ht _ kt_12) (ht _ kt_416) (Nat.le_of_ble_eq_true rfl) (Nat.le_of_ble_eq_true rfl) (Nat.le_of_ble_eq_true rfl) (Nat.le_of_ble_eq_true rfl) dX10_best_40 ?_
  refine lz_i 0 (by decide) ?_
  refine lv_istore_n (lv' := [(2, .int 0), (1, .int 0), (3, .int 2), (0, .ref md)]) hx hb dX10_best_43 rfl hl (by decide) rfl (fun ls hl => ?_)
  refine lv_iinc (v := 3) (lv' := [(3, .int 3), (2, .int 0), (1, .int 0), (0, .ref md)]) hx hb dX10_best_44 hl (k := 2) rfl (by decide) (by decide) rfl (fun ls hl => ?_)
  refine lv_goto (tgt := 7) hx hb dX10_best_47 (by decide) ?_
  refine lv_iload_n hx hb dX10_best_7 rfl (lv_at hl 0 rfl) ?_
  refine lv_iconst (v := 5) hx hb dX10_best_8 (by decide) ?_
  refine lv_icmp_ge (tgt := 50) hx hb dX10_best_9 (by decide) (fun c13 => absurd c13 (by decide)) (fun _ => ?_)
  refine lv_aload_n hx hb dX10_best_12 rfl (lv_at hl 3 rfl) ?_
  refine lv_iload_n hx hb dX10_best_13 rfl (lv_at hl 0 rfl) ?_
  have hPc := va_P.part (X := ([(md, .inr (9, [.ref mM, .ref mL, .ref mS, .null, .int 0, .ref mC, .int 0, .int 0, .int 0, .ref mR, .ref mJ, .ref mA, .int 0, .int 0, .int 0, .ref mD, .ref mT])), (mM, .inl (cy 0, 559, .inl (fun _ => 0))), (mL, .inl (cy 5, 26, .inr (.inr (.inr (.inr u10.2))))), (mD, .inl (cy 0, 559, .inl (fun _ => 0))), (mT, .inl (cy 0, 3, .inl (fun _ => 0)))] : va_W)) (cx := ([(md, .inr (9, [.ref mM, .ref mL, .ref mS, .null, .int 0, .ref mC, .int 0, .int 0, .int 0, .ref mR, .ref mJ, .ref mA, .int 0, .int 0, .int 0, .ref mD, .ref mT])), (mM, .inl (cy 0, 559, .inl (fun _ => 0))), (mL, .inl (cy 5, 26, .inr (.inr (.inr (.inr u10.2))))), (mD, .inl (cy 0, 559, .inl (fun _ => 0))), (mT, .inl (cy 0, 3, .inl (fun _ => 0)))] : va_W)) hP [0, 1, 2, 3, 4] rfl
  have hDc := va_D.part (X := ([(md, .inr (9, [.ref mM, .ref mL, .ref mS, .null, .int 0, .ref mC, .int 0, .int 0, .int 0, .ref mR, .ref mJ, .ref mA, .int 0, .int 0, .int 0, .ref mD, .ref mT])), (mM, .inl (cy 0, 559, .inl (fun _ => 0))), (mL, .inl (cy 5, 26, .inr (.inr (.inr (.inr u10.2))))), (mD, .inl (cy 0, 559, .inl (fun _ => 0))), (mT, .inl (cy 0, 3, .inl (fun _ => 0)))] : va_W)) (cx := ([(md, .inr (9, [.ref mM, .ref mL, .ref mS, .null, .int 0, .ref mC, .int 0, .int 0, .int 0, .ref mR, .ref mJ, .ref mA, .int 0, .int 0, .int 0, .ref mD, .ref mT])), (mM, .inl (cy 0, 559, .inl (fun _ => 0))), (mL, .inl (cy 5, 26, .inr (.inr (.inr (.inr u10.2))))), (mD, .inl (cy 0, 559, .inl (fun _ => 0))), (mT, .inl (cy 0, 3, .inl (fun _ => 0)))] : va_W)) hD [0, 1, 2, 3, 4] (by decide) rfl
  have hFc := va_freeP (X := ([(md, .inr (9, [.ref mM, .ref mL, .ref mS, .null, .int 0, .ref mC, .int 0, .int 0, .int 0, .ref mR, .ref mJ, .ref mA, .int 0, .int 0, .int 0, .ref mD, .ref mT])), (mM, .inl (cy 0, 559, .inl (fun _ => 0))), (mL, .inl (cy 5, 26, .inr (.inr (.inr (.inr u10.2))))), (mD, .inl (cy 0, 559, .inl (fun _ => 0))), (mT, .inl (cy 0, 3, .inl (fun _ => 0)))] : va_W)) (cx := ([(md, .inr (9, [.ref mM, .ref mL, .ref mS, .null, .int 0, .ref mC, .int 0, .int 0, .int 0, .ref mR, .ref mJ, .ref mA, .int 0, .int 0, .int 0, .ref mD, .ref mT])), (mM, .inl (cy 0, 559, .inl (fun _ => 0))), (mL, .inl (cy 5, 26, .inr (.inr (.inr (.inr u10.2))))), (mD, .inl (cy 0, 559, .inl (fun _ => 0))), (mT, .inl (cy 0, 3, .inl (fun _ => 0)))] : va_W)) hD hS hA [0, 1, 2, 3, 4] rfl
  refine va_callv (va_runV (As := [.int 3]) (rest := []) ⟨hx, hb, hml, hown, hts⟩ (c_thinks l D cy md mM mL mS mC mR mJ mA mD mT (u10.1) (u10.2) hw11 3 H.size) (cwV 1 hts (gt_V kt_1176 kt_1178 kp_69 kt_8 kt_1179) rfl rfl rfl (by decide +kernel) ⟨Nat.le_of_ble_eq_true rfl, Nat.le_of_ble_eq_true rfl⟩) (gN_V hK hPc hDc hP (ci := 9) (q0 := 0) rfl rfl) rfl rfl hl.1 rfl (lv_room (Nat.le_of_ble_eq_true rfl)) dX10_best_14 ⟨Nat.le_of_ble_eq_true rfl, Nat.le_of_ble_eq_true rfl⟩) hS (fun q _ h => hFc q h) hFc (fun u14 t H1 locs ht2 hvm hw15 hB hz1 hk1 hS => ?_)
  obtain ⟨hP1, hD1⟩ := hB
  rw [ht2] at hP1
  obtain ⟨hP, hD⟩ := va_joinP (X := ([(md, .inr (9, [.ref mM, .ref mL, .ref mS, .null, .int 0, .ref mC, .int 0, .int 0, .int 0, .ref mR, .ref mJ, .ref mA, .int 0, .int 0, .int 0, .ref mD, .ref mT])), (mM, .inl (cy 0, 559, .inl (fun _ => 0))), (mL, .inl (cy 5, 26, .inr (.inr (.inr (.inr u10.2))))), (mD, .inl (cy 0, 559, .inl (fun _ => 0))), (mT, .inl (cy 0, 3, .inl (fun _ => 0)))] : va_W)) (cx := ([(md, .inr (9, [.ref mM, .ref mL, .ref mS, .null, .int 0, .ref mC, .int 0, .int 0, .int 0, .ref mR, .ref mJ, .ref mA, .int 0, .int 0, .int 0, .ref mD, .ref mT])), (mM, .inl (cy 0, 559, .inl (fun _ => 0))), (mL, .inl (cy 5, 26, .inr (.inr (.inr (.inr u10.2))))), (mD, .inl (cy 0, 559, .inl (fun _ => 0))), (mT, .inl (cy 0, 3, .inl (fun _ => 0)))] : va_W)) (wr := ([] : va_W)) (rx := ([(md, .inr (9, [.ref mM, .ref mL, .ref mS, .null, .int 0, .ref mC, .int 0, .int 0, .int 0, .ref mR, .ref mJ, .ref mA, .int 0, .int 0, .int 0, .ref mD, .ref mT])), (mM, .inl (cy 0, 559, .inl (fun _ => 0))), (mL, .inl (cy 5, 26, .inr (.inr (.inr (.inr u14.2))))), (mD, .inl (cy 0, 559, .inl (fun _ => 0))), (mT, .inl (cy 0, 3, .inl (fun _ => 0)))] : va_W)) (pl1 := PL cy u14.1) hP hD [0, 1, 2, 3, 4] [] rfl rfl (by decide) (by decide) hk1 hFc hP1 hD1
  generalize H1 = H at hP hS ⊢
  have hP : va_P D classes ([(md, .inr (9, [.ref mM, .ref mL, .ref mS, .null, .int 0, .ref mC, .int 0, .int 0, .int 0, .ref mR, .ref mJ, .ref mA, .int 0, .int 0, .int 0, .ref mD, .ref mT])), (mM, .inl (cy 0, 559, .inl (fun _ => 0))), (mL, .inl (cy 5, 26, .inr (.inr (.inr (.inr u14.2))))), (mD, .inl (cy 0, 559, .inl (fun _ => 0))), (mT, .inl (cy 0, 3, .inl (fun _ => 0)))] ++ PL cy u14.1) H := hP
  have hD : va_D A ([(md, .inr (9, [.ref mM, .ref mL, .ref mS, .null, .int 0, .ref mC, .int 0, .int 0, .int 0, .ref mR, .ref mJ, .ref mA, .int 0, .int 0, .int 0, .ref mD, .ref mT])), (mM, .inl (cy 0, 559, .inl (fun _ => 0))), (mL, .inl (cy 5, 26, .inr (.inr (.inr (.inr u14.2))))), (mD, .inl (cy 0, 559, .inl (fun _ => 0))), (mT, .inl (cy 0, 3, .inl (fun _ => 0)))] ++ PL cy u14.1) := hD
  refine W.widen (k := 108) (n := 13416) (Nat.le_of_ble_eq_true rfl) (Nat.le_of_ble_eq_true rfl) ?_
  refine lv_aload_n hx hb dX10_best_17 rfl (lv_at hl 3 rfl) ?_
  refine va_get (D := D) (ci := 9) (v := .ref mT) (C := RX10) (T := TX10) (N := 17) hx hb hts i_X10 hown hK.1 hP 0 rfl rfl 16 (by decide) (ht _ kt_865) (fun _ h9 => h9) rfl dX10_best_18 ?_
  refine lv_iconst (v := 0) hx hb dX10_best_21 (by decide) ?_
  refine va_iald hx hb hK.1 hP 4 0 rfl rfl (vin (by decide)) dX10_best_22 ?_
  refine lz_i 0 rfl ?_
  refine lv_iload_n hx hb dX10_best_23 rfl (lv_at hl 1 rfl) ?_
  refine lv_icmp_ge (tgt := 31) hx hb dX10_best_24 (by decide) (fun _ => ?_) (fun c16 => absurd c16 (by decide))
  refine lv_iload_n hx hb dX10_best_31 rfl (lv_at hl 2 rfl) ?_
  refine lv_istore_n (lv' := [(1, .int 0), (3, .int 3), (2, .int 0), (0, .ref md)]) hx hb dX10_best_32 rfl hl (by decide) rfl (fun ls hl => ?_)
  refine lv_iload_n hx hb dX10_best_33 rfl (lv_at hl 2 rfl) ?_
  refine lv_aload_n hx hb dX10_best_34 rfl (lv_at hl 3 rfl) ?_
  refine va_get (D := D) (ci := 9) (v := .ref mT) (C := RX10) (T := TX10) (N := 17) hx hb hts i_X10 hown hK.1 hP 0 rfl rfl 16 (by decide) (ht _ kt_865) (fun _ h9 => h9) rfl dX10_best_35 ?_
  refine lv_iconst (v := 0) hx hb dX10_best_38 (by decide) ?_
  refine va_iald hx hb hK.1 hP 4 0 rfl rfl (vin (by decide)) dX10_best_39 ?_
  refine lz_i 0 rfl ?_
  refine va_mmin hx hb (hml.trans hl.1.symm) hown (ht _ kt_976) (ht _ kt_415) (ht _ kt_12) (ht _ kt_416) (Nat.le_of_ble_eq_true rfl) (Nat.le_of_ble_eq_true rfl) (Nat.le_of_ble_eq_true rfl) (Nat.le_of_ble_eq_true rfl) dX10_best_40 ?_
  refine lz_i 0 (by decide) ?_
  refine lv_istore_n (lv' := [(2, .int 0), (1, .int 0), (3, .int 3), (0, .ref md)]) hx hb dX10_best_43 rfl hl (by decide) rfl (fun ls hl => ?_)
  refine lv_iinc (v := 4) (lv' := [(3, .int 4), (2, .int 0), (1, .int 0), (0, .ref md)]) hx hb dX10_best_44 hl (k := 2) rfl (by decide) (by decide) rfl (fun ls hl => ?_)
  refine lv_goto (tgt := 7) hx hb dX10_best_47 (by decide) ?_
  refine lv_iload_n hx hb dX10_best_7 rfl (lv_at hl 0 rfl) ?_
  refine lv_iconst (v := 5) hx hb dX10_best_8 (by decide) ?_
  refine lv_icmp_ge (tgt := 50) hx hb dX10_best_9 (by decide) (fun c17 => absurd c17 (by decide)) (fun _ => ?_)
  refine lv_aload_n hx hb dX10_best_12 rfl (lv_at hl 3 rfl) ?_
  refine lv_iload_n hx hb dX10_best_13 rfl (lv_at hl 0 rfl) ?_
  have hPc := va_P.part (X := ([(md, .inr (9, [.ref mM, .ref mL, .ref mS, .null, .int 0, .ref mC, .int 0, .int 0, .int 0, .ref mR, .ref mJ, .ref mA, .int 0, .int 0, .int 0, .ref mD, .ref mT])), (mM, .inl (cy 0, 559, .inl (fun _ => 0))), (mL, .inl (cy 5, 26, .inr (.inr (.inr (.inr u14.2))))), (mD, .inl (cy 0, 559, .inl (fun _ => 0))), (mT, .inl (cy 0, 3, .inl (fun _ => 0)))] : va_W)) (cx := ([(md, .inr (9, [.ref mM, .ref mL, .ref mS, .null, .int 0, .ref mC, .int 0, .int 0, .int 0, .ref mR, .ref mJ, .ref mA, .int 0, .int 0, .int 0, .ref mD, .ref mT])), (mM, .inl (cy 0, 559, .inl (fun _ => 0))), (mL, .inl (cy 5, 26, .inr (.inr (.inr (.inr u14.2))))), (mD, .inl (cy 0, 559, .inl (fun _ => 0))), (mT, .inl (cy 0, 3, .inl (fun _ => 0)))] : va_W)) hP [0, 1, 2, 3, 4] rfl
  have hDc := va_D.part (X := ([(md, .inr (9, [.ref mM, .ref mL, .ref mS, .null, .int 0, .ref mC, .int 0, .int 0, .int 0, .ref mR, .ref mJ, .ref mA, .int 0, .int 0, .int 0, .ref mD, .ref mT])), (mM, .inl (cy 0, 559, .inl (fun _ => 0))), (mL, .inl (cy 5, 26, .inr (.inr (.inr (.inr u14.2))))), (mD, .inl (cy 0, 559, .inl (fun _ => 0))), (mT, .inl (cy 0, 3, .inl (fun _ => 0)))] : va_W)) (cx := ([(md, .inr (9, [.ref mM, .ref mL, .ref mS, .null, .int 0, .ref mC, .int 0, .int 0, .int 0, .ref mR, .ref mJ, .ref mA, .int 0, .int 0, .int 0, .ref mD, .ref mT])), (mM, .inl (cy 0, 559, .inl (fun _ => 0))), (mL, .inl (cy 5, 26, .inr (.inr (.inr (.inr u14.2))))), (mD, .inl (cy 0, 559, .inl (fun _ => 0))), (mT, .inl (cy 0, 3, .inl (fun _ => 0)))] : va_W)) hD [0, 1, 2, 3, 4] (by decide) rfl
  have hFc := va_freeP (X := ([(md, .inr (9, [.ref mM, .ref mL, .ref mS, .null, .int 0, .ref mC, .int 0, .int 0, .int 0, .ref mR, .ref mJ, .ref mA, .int 0, .int 0, .int 0, .ref mD, .ref mT])), (mM, .inl (cy 0, 559, .inl (fun _ => 0))), (mL, .inl (cy 5, 26, .inr (.inr (.inr (.inr u14.2))))), (mD, .inl (cy 0, 559, .inl (fun _ => 0))), (mT, .inl (cy 0, 3, .inl (fun _ => 0)))] : va_W)) (cx := ([(md, .inr (9, [.ref mM, .ref mL, .ref mS, .null, .int 0, .ref mC, .int 0, .int 0, .int 0, .ref mR, .ref mJ, .ref mA, .int 0, .int 0, .int 0, .ref mD, .ref mT])), (mM, .inl (cy 0, 559, .inl (fun _ => 0))), (mL, .inl (cy 5, 26, .inr (.inr (.inr (.inr u14.2))))), (mD, .inl (cy 0, 559, .inl (fun _ => 0))), (mT, .inl (cy 0, 3, .inl (fun _ => 0)))] : va_W)) hD hS hA [0, 1, 2, 3, 4] rfl
  refine va_callv (va_runV (As := [.int 4]) (rest := []) ⟨hx, hb, hml, hown, hts⟩ (c_thinks l D cy md mM mL mS mC mR mJ mA mD mT (u14.1) (u14.2) hw15 4 H.size) (cwV 1 hts (gt_V kt_1176 kt_1178 kp_69 kt_8 kt_1179) rfl rfl rfl (by decide +kernel) ⟨Nat.le_of_ble_eq_true rfl, Nat.le_of_ble_eq_true rfl⟩) (gN_V hK hPc hDc hP (ci := 9) (q0 := 0) rfl rfl) rfl rfl hl.1 rfl (lv_room (Nat.le_of_ble_eq_true rfl)) dX10_best_14 ⟨Nat.le_of_ble_eq_true rfl, Nat.le_of_ble_eq_true rfl⟩) hS (fun q _ h => hFc q h) hFc (fun u18 t H1 locs ht2 hvm hw19 hB hz1 hk1 hS => ?_)
  obtain ⟨hP1, hD1⟩ := hB
  rw [ht2] at hP1
  obtain ⟨hP, hD⟩ := va_joinP (X := ([(md, .inr (9, [.ref mM, .ref mL, .ref mS, .null, .int 0, .ref mC, .int 0, .int 0, .int 0, .ref mR, .ref mJ, .ref mA, .int 0, .int 0, .int 0, .ref mD, .ref mT])), (mM, .inl (cy 0, 559, .inl (fun _ => 0))), (mL, .inl (cy 5, 26, .inr (.inr (.inr (.inr u14.2))))), (mD, .inl (cy 0, 559, .inl (fun _ => 0))), (mT, .inl (cy 0, 3, .inl (fun _ => 0)))] : va_W)) (cx := ([(md, .inr (9, [.ref mM, .ref mL, .ref mS, .null, .int 0, .ref mC, .int 0, .int 0, .int 0, .ref mR, .ref mJ, .ref mA, .int 0, .int 0, .int 0, .ref mD, .ref mT])), (mM, .inl (cy 0, 559, .inl (fun _ => 0))), (mL, .inl (cy 5, 26, .inr (.inr (.inr (.inr u14.2))))), (mD, .inl (cy 0, 559, .inl (fun _ => 0))), (mT, .inl (cy 0, 3, .inl (fun _ => 0)))] : va_W)) (wr := ([] : va_W)) (rx := ([(md, .inr (9, [.ref mM, .ref mL, .ref mS, .null, .int 0, .ref mC, .int 0, .int 0, .int 0, .ref mR, .ref mJ, .ref mA, .int 0, .int 0, .int 0, .ref mD, .ref mT])), (mM, .inl (cy 0, 559, .inl (fun _ => 0))), (mL, .inl (cy 5, 26, .inr (.inr (.inr (.inr u18.2))))), (mD, .inl (cy 0, 559, .inl (fun _ => 0))), (mT, .inl (cy 0, 3, .inl (fun _ => 0)))] : va_W)) (pl1 := PL cy u18.1) hP hD [0, 1, 2, 3, 4] [] rfl rfl (by decide) (by decide) hk1 hFc hP1 hD1
  generalize H1 = H at hP hS ⊢
  have hP : va_P D classes ([(md, .inr (9, [.ref mM, .ref mL, .ref mS, .null, .int 0, .ref mC, .int 0, .int 0, .int 0, .ref mR, .ref mJ, .ref mA, .int 0, .int 0, .int 0, .ref mD, .ref mT])), (mM, .inl (cy 0, 559, .inl (fun _ => 0))), (mL, .inl (cy 5, 26, .inr (.inr (.inr (.inr u18.2))))), (mD, .inl (cy 0, 559, .inl (fun _ => 0))), (mT, .inl (cy 0, 3, .inl (fun _ => 0)))] ++ PL cy u18.1) H := hP
  have hD : va_D A ([(md, .inr (9, [.ref mM, .ref mL, .ref mS, .null, .int 0, .ref mC, .int 0, .int 0, .int 0, .ref mR, .ref mJ, .ref mA, .int 0, .int 0, .int 0, .ref mD, .ref mT])), (mM, .inl (cy 0, 559, .inl (fun _ => 0))), (mL, .inl (cy 5, 26, .inr (.inr (.inr (.inr u18.2))))), (mD, .inl (cy 0, 559, .inl (fun _ => 0))), (mT, .inl (cy 0, 3, .inl (fun _ => 0)))] ++ PL cy u18.1) := hD
  refine W.widen (k := 135) (n := 16770) (Nat.le_of_ble_eq_true rfl) (Nat.le_of_ble_eq_true rfl) ?_
  refine lv_aload_n hx hb dX10_best_17 rfl (lv_at hl 3 rfl) ?_
  refine va_get (D := D) (ci := 9) (v := .ref mT) (C := RX10) (T := TX10) (N := 17) hx hb hts i_X10 hown hK.1 hP 0 rfl rfl 16 (by decide) (ht _ kt_865) (fun _ h9 => h9) rfl dX10_best_18 ?_
  refine lv_iconst (v := 0) hx hb dX10_best_21 (by decide) ?_
  refine va_iald hx hb hK.1 hP 4 0 rfl rfl (vin (by decide)) dX10_best_22 ?_
  refine lz_i 0 rfl ?_
  refine lv_iload_n hx hb dX10_best_23 rfl (lv_at hl 1 rfl) ?_
  refine lv_icmp_ge (tgt := 31) hx hb dX10_best_24 (by decide) (fun _ => ?_) (fun c20 => absurd c20 (by decide))
  refine lv_iload_n hx hb dX10_best_31 rfl (lv_at hl 2 rfl) ?_
  refine lv_istore_n (lv' := [(1, .int 0), (3, .int 4), (2, .int 0), (0, .ref md)]) hx hb dX10_best_32 rfl hl (by decide) rfl (fun ls hl => ?_)
  refine lv_iload_n hx hb dX10_best_33 rfl (lv_at hl 2 rfl) ?_
  refine lv_aload_n hx hb dX10_best_34 rfl (lv_at hl 3 rfl) ?_
  refine va_get (D := D) (ci := 9) (v := .ref mT) (C := RX10) (T := TX10) (N := 17) hx hb hts i_X10 hown hK.1 hP 0 rfl rfl 16 (by decide) (ht _ kt_865) (fun _ h9 => h9) rfl dX10_best_35 ?_
  refine lv_iconst (v := 0) hx hb dX10_best_38 (by decide) ?_
  refine va_iald hx hb hK.1 hP 4 0 rfl rfl (vin (by decide)) dX10_best_39 ?_
  refine lz_i 0 rfl ?_
  refine va_mmin hx hb (hml.trans hl.1.symm) hown (ht _ kt_976) (ht _ kt_415) (ht _ kt_12) (ht _ kt_416) (Nat.le_of_ble_eq_true rfl) (Nat.le_of_ble_eq_true rfl) (Nat.le_of_ble_eq_true rfl) (Nat.le_of_ble_eq_true rfl) dX10_best_40 ?_
  refine lz_i 0 (by decide) ?_
  refine lv_istore_n (lv' := [(2, .int 0), (1, .int 0), (3, .int 4), (0, .ref md)]) hx hb dX10_best_43 rfl hl (by decide) rfl (fun ls hl => ?_)
  refine lv_iinc (v := 5) (lv' := [(3, .int 5), (2, .int 0), (1, .int 0), (0, .ref md)]) hx hb dX10_best_44 hl (k := 2) rfl (by decide) (by decide) rfl (fun ls hl => ?_)
  refine lv_goto (tgt := 7) hx hb dX10_best_47 (by decide) ?_
  refine lv_iload_n hx hb dX10_best_7 rfl (lv_at hl 0 rfl) ?_
  refine lv_iconst (v := 5) hx hb dX10_best_8 (by decide) ?_
  refine lv_icmp_ge (tgt := 50) hx hb dX10_best_9 (by decide) (fun _ => ?_) (fun c21 => absurd c21 (by decide))
  refine lv_iload_n hx hb dX10_best_50 rfl (lv_at hl 2 rfl) ?_
  refine W.widen (k := 135) (n := 16770) (Nat.le_of_ble_eq_true rfl) (Nat.le_of_ble_eq_true rfl) ?_
  exact W.iret (v := 0) hx hb hr (fun t ht2 hW => ⟨⟨0, (), rfl, rfl, trivial⟩, hS.F ht2⟩) hS.2.2 dX10_best_51
set_option maxHeartbeats 4000000 in
set_option maxRecDepth 100000 in
theorem im_loop {p : Program} {l : Launch} {e : Env} {R : Room} {s : State} {m : MethodId} {args : Array Value} {below : List Frame} {meth : Method} {c : Code} {Q : State → Prop} {D : va_G} {cy : Nat → ClassId} {A : Nat → Prop} {md mM mL mS mC mR mJ mA mD mT : Nat} {L : List Nat} {g : Nat → Option Nat} (hx : p.tables.exec = Jvm.exec) (hb : c.code = cX10_image) (hts : ∀ w ∈ (Cond.code yX10_image cX10_image 2 (some .int) :: GT), w.before args s = true) (hown : s.vm.findClass RX10 = some m.cls) (hK : KK D cy s) {cells slots : Nat}
    (kend : ∀ (H : Heap) (locs : List Loc) (ls : Array Slot), va_P D classes ([(md, .inr (9, [.ref mM, .ref mL, .ref mS, .null, .int 0, .ref mC, .int 0, .int 0, .int 0, .ref mR, .ref mJ, .ref mA, .int 0, .int 0, .int 0, .ref mD, .ref mT])), (mM, .inl (cy 0, 559, .inl (fun _ => 0))), (mS, .inl (cy 0, 559, .inl (fun _ => 0))), (mL, .inl (cy 5, 26, .inr (.inr (.inr (.inr g)))))] ++ PL cy L) H → va_D A ([(md, .inr (9, [.ref mM, .ref mL, .ref mS, .null, .int 0, .ref mC, .int 0, .int 0, .int 0, .ref mR, .ref mJ, .ref mA, .int 0, .int 0, .int 0, .ref mD, .ref mT])), (mM, .inl (cy 0, 559, .inl (fun _ => 0))), (mS, .inl (cy 0, 559, .inl (fun _ => 0))), (mL, .inl (cy 5, 26, .inr (.inr (.inr (.inr g)))))] ++ PL cy L) → va_S A s.heap H locs → lv_has ls 2 [(1, .int (nI 559)), (0, .ref md)] → W p l e R s m args below meth c H locs cells slots Q (F0 m 27 ls [])) :
    ∀ (n k : Nat) (f : Nat → Int32) (H : Heap) (locs : List Loc) (ls : Array Slot), k ≤ 559 → 559 - k < n → (∀ j, (j < k ∨ j ≠ 5) → f j = 0) → va_P D classes ([(md, .inr (9, [.ref mM, .ref mL, .ref mS, .null, .int 0, .ref mC, .int 0, .int 0, .int 0, .ref mR, .ref mJ, .ref mA, .int 0, .int 0, .int 0, .ref mD, .ref mT])), (mM, .inl (cy 0, 559, .inl (fun _ => 0))), (mS, .inl (cy 0, 559, .inl f)), (mL, .inl (cy 5, 26, .inr (.inr (.inr (.inr g)))))] ++ PL cy L) H → va_D A ([(md, .inr (9, [.ref mM, .ref mL, .ref mS, .null, .int 0, .ref mC, .int 0, .int 0, .int 0, .ref mR, .ref mJ, .ref mA, .int 0, .int 0, .int 0, .ref mD, .ref mT])), (mM, .inl (cy 0, 559, .inl (fun _ => 0))), (mS, .inl (cy 0, 559, .inl f)), (mL, .inl (cy 5, 26, .inr (.inr (.inr (.inr g)))))] ++ PL cy L) → va_S A s.heap H locs → lv_has ls 2 [(1, .int (nI k)), (0, .ref md)] → W p l e R s m args below meth c H locs cells slots Q (F0 m 2 ls []) := by
  intro n
  induction n with
  | zero => intro k f H locs ls h1 h2; omega
  | succ n ih =>
    intro k f H locs ls hk hn hf hP hD hS hl
    have ht : ∀ w ∈ GT, w.before args s = true := fun w h => hts w (List.mem_cons_of_mem _ h)
    refine lv_iload_n hx hb dX10_image_2 rfl (lv_at hl 0 rfl) ?_
    refine lv_sipush (v := 559) hx hb dX10_image_3 (by decide) ?_
    refine lv_icmp_ge (tgt := 27) hx hb dX10_image_6 (by decide) (fun cq => ?_) (fun cq => ?_)
    · have cq : (559 : Int) ≤ (k : Int) := i_le cq rfl (nI_toInt (by omega))
      have hk2 : k = 559 := by omega
      subst hk2
      have hf0 : f = fun _ => 0 := funext fun j => hf j (by omega)
      subst hf0
      exact kend H locs ls hP hD hS hl
    · have cq : ¬ (559 : Int) ≤ (k : Int) := i_nle cq rfl (nI_toInt (by omega))
      have hlt : k < 559 := by omega
      have hvk : vp_in (nI k) 559 := vp_in_nI hlt (by decide)
      refine lv_aload_n hx hb dX10_image_9 rfl (lv_at hl 1 rfl) ?_
      refine va_get (D := D) (ci := 9) (v := .ref mS) (C := RX10) (T := TX10) (N := 17) hx hb hts i_X10 hown hK.1 hP 0 rfl rfl 2 (by decide) (ht _ kt_851) (fun _ h9 => h9) rfl dX10_image_10 ?_
      refine lv_iload_n hx hb dX10_image_13 rfl (lv_at hl 0 rfl) ?_
      refine lv_aload_n hx hb dX10_image_14 rfl (lv_at hl 1 rfl) ?_
      refine va_get (D := D) (ci := 9) (v := .ref mM) (C := RX10) (T := TX10) (N := 17) hx hb hts i_X10 hown hK.1 hP 0 rfl rfl 0 (by decide) (ht _ kt_849) (fun _ h9 => h9) rfl dX10_image_15 ?_
      refine lv_iload_n hx hb dX10_image_18 rfl (lv_at hl 0 rfl) ?_
      refine va_iald hx hb hK.1 hP 1 0 rfl rfl hvk dX10_image_19 ?_
      refine lz_i 0 rfl ?_
      refine va_iast hx hb hK.1 hP hD hS 2 0 rfl rfl hvk dX10_image_20 (fun H locs hP hD hS => ?_)
      rw [nI_clamp (by omega)] at hP hD
      refine lv_iinc (v := nI (k + 1)) (lv' := [(1, .int (nI (k + 1))), (0, .ref md)]) hx hb dX10_image_21 hl (k := 0) rfl (nI_succ k).symm (by decide) rfl (fun ls hl => ?_)
      refine lv_goto (tgt := 2) hx hb dX10_image_24 (by decide) ?_
      refine ih (k + 1) (upd f k 0) H locs ls (by omega) (by omega) (fun j hj => ?_) hP hD hS hl
      by_cases e : j = k
      · subst e; simp [upd]
      · have := hf j (by omega); simp [upd, e, this]
set_option maxHeartbeats 4000000 in
set_option maxRecDepth 100000 in
theorem c_m_image (l : Launch) (D : va_G) (cy : Nat → ClassId) (md mM mL mS mC mR mJ mA mD mT : Nat) (L : List Nat) (g : Nat → Option Nat) (hg : okG g L 26) (sz : Nat) : Met l yX10_image (Cond.code yX10_image cX10_image 2 (some .int) :: GT) ({ frames := 1, cells := 27, slots := 3354, locals := 23 }) (gN D cy ([(md, .inr (9, [.ref mM, .ref mL, .ref mS, .null, .int 0, .ref mC, .int 0, .int 0, .int 0, .ref mR, .ref mJ, .ref mA, .int 0, .int 0, .int 0, .ref mD, .ref mT])), (mM, .inl (cy 0, 559, .inl (fun _ => 0))), (mS, .inl (cy 0, 559, .inl (fun _ => 0))), (mL, .inl (cy 5, 26, .inr (.inr (.inr (.inr g)))))] ++ PL cy L) [.ref md] sz) (va_Qi (fun (r : Int32) (_ : Unit) => r = 0) (fun _ _ => True) (va_A ([(md, .inr (9, [.ref mM, .ref mL, .ref mS, .null, .int 0, .ref mC, .int 0, .int 0, .int 0, .ref mR, .ref mJ, .ref mA, .int 0, .int 0, .int 0, .ref mD, .ref mT])), (mM, .inl (cy 0, 559, .inl (fun _ => 0))), (mS, .inl (cy 0, 559, .inl (fun _ => 0))), (mL, .inl (cy 5, 26, .inr (.inr (.inr (.inr g)))))] ++ PL cy L) sz)) 27 3354 (va_A ([(md, .inr (9, [.ref mM, .ref mL, .ref mS, .null, .int 0, .ref mC, .int 0, .int 0, .int 0, .ref mR, .ref mJ, .ref mA, .int 0, .int 0, .int 0, .ref mD, .ref mT])), (mM, .inl (cy 0, 559, .inl (fun _ => 0))), (mS, .inl (cy 0, 559, .inl (fun _ => 0))), (mL, .inl (cy 5, 26, .inr (.inr (.inr (.inr g)))))] ++ PL cy L) sz) := by
  refine Met.ofW (cc := cX10_image) (maxL := 2) (ret := some .int) (by decide) rfl ?_
  intro p e s m args below meth c s₁ B hml hv
  obtain ⟨rfl, hsz, hP, hK, hD0⟩ := hv
  have hx := B.exec
  have hb := B.bytes
  have hr := B.returns
  have hts := atoms_spec (ws := (Cond.code yX10_image cX10_image 2 (some .int) :: GT)) B.pre
  have ht : ∀ w ∈ GT, w.before _ s = true := fun w h => hts w (List.mem_cons_of_mem _ h)
  have hown : s.vm.findClass RX10 = some m.cls := findClass_of_methodNamed B.named
  have hlocks := B.notSynchronized
  subst hsz
  have hD := hD0.self (sz := s.heap.size)
  generalize hAe : va_A ([(md, .inr (9, [.ref mM, .ref mL, .ref mS, .null, .int 0, .ref mC, .int 0, .int 0, .int 0, .ref mR, .ref mJ, .ref mA, .int 0, .int 0, .int 0, .ref mD, .ref mT])), (mM, .inl (cy 0, 559, .inl (fun _ => 0))), (mS, .inl (cy 0, 559, .inl (fun _ => 0))), (mL, .inl (cy 5, 26, .inr (.inr (.inr (.inr g)))))] ++ PL cy L) s.heap.size = A at hD ⊢
  have hA : ∀ q : Nat, s.heap.size ≤ q → A q := fun q h => by rw [← hAe]; exact Or.inr h
  have hS : va_S A s.heap s.heap [] := va_S.rf
  have hl := lv_entry ([.ref md]) (n := 2) (Nat.le_of_ble_eq_true rfl)
  rw [lg_entry_eq]
  generalize (lg_sl ([.ref md]) ++ List.replicate (2 - (lg_sl ([.ref md])).length) Slot.unset).toArray = ls at hl ⊢
  have hl : lv_has ls 2 [(0, .ref md)] := hl
  refine lv_iconst (v := 0) hx hb dX10_image_0 (by decide) ?_
  refine lv_istore_n (lv' := [(1, .int 0), (0, .ref md)]) hx hb dX10_image_1 rfl hl (by decide) rfl (fun ls hl => ?_)
  refine im_loop (L := L) (g := g) hx hb hts hown hK (fun H locs ls hP hD hS hl => ?_) 560 0 (fun _ => 0) _ _ ls (by omega) (by omega) (fun _ _ => rfl) hP hD hS (by rw [nI_0]; exact lv_sub hl [0, 1] rfl)
  refine lv_aload_n hx hb dX10_image_27 rfl (lv_at hl 1 rfl) ?_
  refine lv_aload_n hx hb dX10_image_28 rfl (lv_at hl 1 rfl) ?_
  refine va_get (D := D) (ci := 9) (v := .ref mL) (C := RX10) (T := TX10) (N := 17) hx hb hts i_X10 hown hK.1 hP 0 rfl rfl 1 (by decide) (ht _ kt_850) (fun _ h9 => h9) rfl dX10_image_29 ?_
  have hPc := va_P.part (X := ([(md, .inr (9, [.ref mM, .ref mL, .ref mS, .null, .int 0, .ref mC, .int 0, .int 0, .int 0, .ref mR, .ref mJ, .ref mA, .int 0, .int 0, .int 0, .ref mD, .ref mT])), (mM, .inl (cy 0, 559, .inl (fun _ => 0))), (mS, .inl (cy 0, 559, .inl (fun _ => 0))), (mL, .inl (cy 5, 26, .inr (.inr (.inr (.inr g)))))] : va_W)) (cx := ([(mL, .inl (cy 5, 26, .inr (.inr (.inr (.inr g)))))] : va_W)) hP [3] rfl
  have hDc := va_D.part (X := ([(md, .inr (9, [.ref mM, .ref mL, .ref mS, .null, .int 0, .ref mC, .int 0, .int 0, .int 0, .ref mR, .ref mJ, .ref mA, .int 0, .int 0, .int 0, .ref mD, .ref mT])), (mM, .inl (cy 0, 559, .inl (fun _ => 0))), (mS, .inl (cy 0, 559, .inl (fun _ => 0))), (mL, .inl (cy 5, 26, .inr (.inr (.inr (.inr g)))))] : va_W)) (cx := ([(mL, .inl (cy 5, 26, .inr (.inr (.inr (.inr g)))))] : va_W)) hD [3] (by decide) rfl
  have hFc := va_freeP (X := ([(md, .inr (9, [.ref mM, .ref mL, .ref mS, .null, .int 0, .ref mC, .int 0, .int 0, .int 0, .ref mR, .ref mJ, .ref mA, .int 0, .int 0, .int 0, .ref mD, .ref mT])), (mM, .inl (cy 0, 559, .inl (fun _ => 0))), (mS, .inl (cy 0, 559, .inl (fun _ => 0))), (mL, .inl (cy 5, 26, .inr (.inr (.inr (.inr g)))))] : va_W)) (cx := ([(mL, .inl (cy 5, 26, .inr (.inr (.inr (.inr g)))))] : va_W)) hD hS hA [3] rfl
  refine va_callr (va_runS (As := [.ref mL]) (rest := [.ref md]) ⟨hx, hb, hml, hown, hts⟩ (c_copyOf l D cy mL (L) (g) hg H.size) (va_cwS 1 hts (gt_S kt_1180 kt_1181 kt_8 kt_1182) rfl rfl rfl (by decide +kernel) ⟨Nat.le_of_ble_eq_true rfl, Nat.le_of_ble_eq_true rfl⟩) (gN_S hK hPc hDc) rfl rfl hl.1 rfl (lv_room (Nat.le_of_ble_eq_true rfl)) dX10_image_32 ⟨Nat.le_of_ble_eq_true rfl, Nat.le_of_ble_eq_true rfl⟩) hS (fun q _ h => hFc q h) hFc (fun u1 ra2 t H1 locs ht2 hvm hw3 hB hz1 hk1 hS => ?_)
  obtain ⟨hP1, hD1⟩ := hB
  rw [ht2] at hP1
  obtain ⟨hP, hD⟩ := va_joinP (X := ([(md, .inr (9, [.ref mM, .ref mL, .ref mS, .null, .int 0, .ref mC, .int 0, .int 0, .int 0, .ref mR, .ref mJ, .ref mA, .int 0, .int 0, .int 0, .ref mD, .ref mT])), (mM, .inl (cy 0, 559, .inl (fun _ => 0))), (mS, .inl (cy 0, 559, .inl (fun _ => 0))), (mL, .inl (cy 5, 26, .inr (.inr (.inr (.inr g)))))] : va_W)) (cx := ([(mL, .inl (cy 5, 26, .inr (.inr (.inr (.inr g)))))] : va_W)) (wr := ([(md, .inr (9, [.ref mM, .ref mL, .ref mS, .null, .int 0, .ref mC, .int 0, .int 0, .int 0, .ref mR, .ref mJ, .ref mA, .int 0, .int 0, .int 0, .ref mD, .ref mT])), (mM, .inl (cy 0, 559, .inl (fun _ => 0))), (mS, .inl (cy 0, 559, .inl (fun _ => 0)))] : va_W)) (rx := ([(mL, .inl (cy 5, 26, .inr (.inr (.inr (.inr g))))), (ra2, .inl (cy 5, 26, .inr (.inr (.inr (.inr u1.2)))))] : va_W)) (pl1 := PL cy u1.1) hP hD [3] [0, 1, 2] rfl rfl (by decide) (by decide) hk1 hFc hP1 hD1
  generalize H1 = H at hP hS ⊢
  have hP : va_P D classes ([(md, .inr (9, [.ref mM, .ref mL, .ref mS, .null, .int 0, .ref mC, .int 0, .int 0, .int 0, .ref mR, .ref mJ, .ref mA, .int 0, .int 0, .int 0, .ref mD, .ref mT])), (mM, .inl (cy 0, 559, .inl (fun _ => 0))), (mS, .inl (cy 0, 559, .inl (fun _ => 0))), (mL, .inl (cy 5, 26, .inr (.inr (.inr (.inr g))))), (ra2, .inl (cy 5, 26, .inr (.inr (.inr (.inr u1.2)))))] ++ PL cy u1.1) H := hP
  have hD : va_D A ([(md, .inr (9, [.ref mM, .ref mL, .ref mS, .null, .int 0, .ref mC, .int 0, .int 0, .int 0, .ref mR, .ref mJ, .ref mA, .int 0, .int 0, .int 0, .ref mD, .ref mT])), (mM, .inl (cy 0, 559, .inl (fun _ => 0))), (mS, .inl (cy 0, 559, .inl (fun _ => 0))), (mL, .inl (cy 5, 26, .inr (.inr (.inr (.inr g))))), (ra2, .inl (cy 5, 26, .inr (.inr (.inr (.inr u1.2)))))] ++ PL cy u1.1) := hD
  refine W.widen (k := 27) (n := 3354) (Nat.le_of_ble_eq_true rfl) (Nat.le_of_ble_eq_true rfl) ?_
  refine va_put (D := D) (ci := 9) (v := .ref ra2) (ty := .array (.array .int)) (C := RX10) (T := TX10) (N := 17) hx hb hts i_X10 tyX10 tyX10_ok nmX10 hown hK.1 hP hD hS 0 rfl rfl 3 (by decide) (ht _ kt_852) (fun _ h9 => h9) rfl (by decide +kernel) rfl rfl (Nat.le_of_ble_eq_true rfl) dX10_image_35 (fun H locs hP hD hS => ?_)
  have hP : va_P D classes ([(md, .inr (9, [.ref mM, .ref mL, .ref mS, .ref ra2, .int 0, .ref mC, .int 0, .int 0, .int 0, .ref mR, .ref mJ, .ref mA, .int 0, .int 0, .int 0, .ref mD, .ref mT])), (mM, .inl (cy 0, 559, .inl (fun _ => 0))), (mS, .inl (cy 0, 559, .inl (fun _ => 0))), (mL, .inl (cy 5, 26, .inr (.inr (.inr (.inr g))))), (ra2, .inl (cy 5, 26, .inr (.inr (.inr (.inr u1.2)))))] ++ PL cy u1.1) H := hP
  have hD : va_D A ([(md, .inr (9, [.ref mM, .ref mL, .ref mS, .ref ra2, .int 0, .ref mC, .int 0, .int 0, .int 0, .ref mR, .ref mJ, .ref mA, .int 0, .int 0, .int 0, .ref mD, .ref mT])), (mM, .inl (cy 0, 559, .inl (fun _ => 0))), (mS, .inl (cy 0, 559, .inl (fun _ => 0))), (mL, .inl (cy 5, 26, .inr (.inr (.inr (.inr g))))), (ra2, .inl (cy 5, 26, .inr (.inr (.inr (.inr u1.2)))))] ++ PL cy u1.1) := hD
  refine lv_aload_n hx hb dX10_image_38 rfl (lv_at hl 1 rfl) ?_
  refine lv_iconst (v := 1) hx hb dX10_image_39 (by decide) ?_
  refine va_put (D := D) (ci := 9) (v := .int 1) (ty := .boolean) (C := RX10) (T := TX10) (N := 17) hx hb hts i_X10 tyX10 tyX10_ok nmX10 hown hK.1 hP hD hS 0 rfl rfl 4 (by decide) (ht _ kt_853) (fun _ h9 => h9) rfl (by decide +kernel) rfl rfl (Nat.le_of_ble_eq_true rfl) dX10_image_40 (fun H locs hP hD hS => ?_)
  have hP : va_P D classes ([(md, .inr (9, [.ref mM, .ref mL, .ref mS, .ref ra2, .int 1, .ref mC, .int 0, .int 0, .int 0, .ref mR, .ref mJ, .ref mA, .int 0, .int 0, .int 0, .ref mD, .ref mT])), (mM, .inl (cy 0, 559, .inl (fun _ => 0))), (mS, .inl (cy 0, 559, .inl (fun _ => 0))), (mL, .inl (cy 5, 26, .inr (.inr (.inr (.inr g))))), (ra2, .inl (cy 5, 26, .inr (.inr (.inr (.inr u1.2)))))] ++ PL cy u1.1) H := hP
  have hD : va_D A ([(md, .inr (9, [.ref mM, .ref mL, .ref mS, .ref ra2, .int 1, .ref mC, .int 0, .int 0, .int 0, .ref mR, .ref mJ, .ref mA, .int 0, .int 0, .int 0, .ref mD, .ref mT])), (mM, .inl (cy 0, 559, .inl (fun _ => 0))), (mS, .inl (cy 0, 559, .inl (fun _ => 0))), (mL, .inl (cy 5, 26, .inr (.inr (.inr (.inr g))))), (ra2, .inl (cy 5, 26, .inr (.inr (.inr (.inr u1.2)))))] ++ PL cy u1.1) := hD
  refine lv_aload_n hx hb dX10_image_43 rfl (lv_at hl 1 rfl) ?_
  refine lv_iconst (v := 0) hx hb dX10_image_44 (by decide) ?_
  refine vp_callSi (va_Run.run (va_runV (As := [.int 0]) (rest := []) ⟨hx, hb, hml, hown, hts⟩ (c134_X10_sizeOf l D cy md mM mL mS ra2 mC mR mJ mA mD mT) (cwV 1 hts (gt_V kt_936 kt_938 kp_29 kt_8 kt_939) rfl rfl rfl (by decide +kernel) ⟨Nat.le_of_ble_eq_true rfl, Nat.le_of_ble_eq_true rfl⟩) (gP_V hK (hP.sub (ws' := (w134 cy md mM mL mS ra2 mC mR mJ mA mD mT)) [0, 1] rfl) hP (ci := 9) (q0 := 0) rfl rfl) rfl rfl hl.1 rfl (lv_room (Nat.le_of_ble_eq_true rfl)) dX10_image_45 ⟨Nat.le_of_ble_eq_true rfl, Nat.le_of_ble_eq_true rfl⟩)) (fun r4 hw5 => ?_)
  obtain rfl : r4 = 0 := hw5
  refine W.widen (k := 27) (n := 3354) (Nat.le_of_ble_eq_true rfl) (Nat.le_of_ble_eq_true rfl) ?_
  exact W.iret (v := 0) hx hb hr (fun t ht2 hW => ⟨⟨0, (), rfl, rfl, trivial⟩, hS.F ht2⟩) hS.2.2 dX10_image_48
