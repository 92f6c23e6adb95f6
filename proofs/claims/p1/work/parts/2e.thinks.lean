set_option maxHeartbeats 4000000 in
set_option maxRecDepth 100000 in
theorem th_loop1 {p : Program} {l : Launch} {e : Env} {R : Room} {s : State} {m : MethodId} {args : Array Value} {below : List Frame} {meth : Method} {c : Code} {Q : State → Prop} {D : va_G} {cy : Nat → ClassId} {A : Nat → Prop} {md mM mL mS mC mR mJ mA mD mT : Nat} {ra : Nat} {i0 : Int32} {L1 : List Nat} {g g1 : Nat → Option Nat} (hx : p.tables.exec = Jvm.exec) (hb : c.code = cX10_thinks) (hts : ∀ w ∈ (Cond.code yX10_thinks cX10_thinks 4 (none) :: GT), w.before args s = true) (hown : s.vm.findClass RX10 = some m.cls) (hK : KK D cy s) {cells slots : Nat}
    (kend : ∀ (H : Heap) (locs : List Loc) (ls : Array Slot), va_P D classes ([(md, .inr (9, [.ref mM, .ref mL, .ref mS, .null, .int 0, .ref mC, .int 0, .int 0, .int 0, .ref mR, .ref mJ, .ref mA, .int 0, .int 0, .int 0, .ref mD, .ref mT])), (mM, .inl (cy 0, 559, .inl (fun _ => 0))), (mD, .inl (cy 0, 559, .inl (fun _ => 0))), (mT, .inl (cy 0, 3, .inl (fun _ => 0))), (mL, .inl (cy 5, 26, .inr (.inr (.inr (.inr g))))), (ra, .inl (cy 5, 26, .inr (.inr (.inr (.inr g1)))))] ++ PL cy L1) H → va_D A ([(md, .inr (9, [.ref mM, .ref mL, .ref mS, .null, .int 0, .ref mC, .int 0, .int 0, .int 0, .ref mR, .ref mJ, .ref mA, .int 0, .int 0, .int 0, .ref mD, .ref mT])), (mM, .inl (cy 0, 559, .inl (fun _ => 0))), (mD, .inl (cy 0, 559, .inl (fun _ => 0))), (mT, .inl (cy 0, 3, .inl (fun _ => 0))), (mL, .inl (cy 5, 26, .inr (.inr (.inr (.inr g))))), (ra, .inl (cy 5, 26, .inr (.inr (.inr (.inr g1)))))] ++ PL cy L1) → va_S A s.heap H locs → lv_has ls 4 [(3, .int (nI 559)), (2, .ref ra), (1, .int i0), (0, .ref md)] → W p l e R s m args below meth c H locs cells slots Q (F0 m 35 ls [])) :
    ∀ (n k : Nat) (f : Nat → Int32) (H : Heap) (locs : List Loc) (ls : Array Slot), k ≤ 559 → 559 - k < n → (∀ j, (j < k ∨ j ≠ 5) → f j = 0) → va_P D classes ([(md, .inr (9, [.ref mM, .ref mL, .ref mS, .null, .int 0, .ref mC, .int 0, .int 0, .int 0, .ref mR, .ref mJ, .ref mA, .int 0, .int 0, .int 0, .ref mD, .ref mT])), (mM, .inl (cy 0, 559, .inl (fun _ => 0))), (mD, .inl (cy 0, 559, .inl f)), (mT, .inl (cy 0, 3, .inl (fun _ => 0))), (mL, .inl (cy 5, 26, .inr (.inr (.inr (.inr g))))), (ra, .inl (cy 5, 26, .inr (.inr (.inr (.inr g1)))))] ++ PL cy L1) H → va_D A ([(md, .inr (9, [.ref mM, .ref mL, .ref mS, .null, .int 0, .ref mC, .int 0, .int 0, .int 0, .ref mR, .ref mJ, .ref mA, .int 0, .int 0, .int 0, .ref mD, .ref mT])), (mM, .inl (cy 0, 559, .inl (fun _ => 0))), (mD, .inl (cy 0, 559, .inl f)), (mT, .inl (cy 0, 3, .inl (fun _ => 0))), (mL, .inl (cy 5, 26, .inr (.inr (.inr (.inr g))))), (ra, .inl (cy 5, 26, .inr (.inr (.inr (.inr g1)))))] ++ PL cy L1) → va_S A s.heap H locs → lv_has ls 4 [(3, .int (nI k)), (2, .ref ra), (1, .int i0), (0, .ref md)] → W p l e R s m args below meth c H locs cells slots Q (F0 m 10 ls []) := by
  intro n
  induction n with
  | zero => intro k f H locs ls h1 h2; omega
  | succ n ih =>
    intro k f H locs ls hk hn hf hP hD hS hl
    have ht : ∀ w ∈ GT, w.before args s = true := fun w h => hts w (List.mem_cons_of_mem _ h)
    refine lv_iload_n hx hb dX10_thinks_10 rfl (lv_at hl 0 rfl) ?_
    refine lv_sipush (v := 559) hx hb dX10_thinks_11 (by decide) ?_
    refine lv_icmp_ge (tgt := 35) hx hb dX10_thinks_14 (by decide) (fun cq => ?_) (fun cq => ?_)
    · have cq : (559 : Int) ≤ (k : Int) := i_le cq rfl (nI_toInt (by omega))
      have hk2 : k = 559 := by omega
      subst hk2
      have hf0 : f = fun _ => 0 := funext fun j => hf j (by omega)
      subst hf0
      exact kend H locs ls hP hD hS hl
    · have cq : ¬ (559 : Int) ≤ (k : Int) := i_nle cq rfl (nI_toInt (by omega))
      have hlt : k < 559 := by omega
      have hvk : vp_in (nI k) 559 := vp_in_nI hlt (by decide)
      refine lv_aload_n hx hb dX10_thinks_17 rfl (lv_at hl 3 rfl) ?_
      refine va_get (D := D) (ci := 9) (v := .ref mD) (C := RX10) (T := TX10) (N := 17) hx hb hts i_X10 hown hK.1 hP 0 rfl rfl 15 (by decide) (ht _ kt_864) (fun _ h9 => h9) rfl dX10_thinks_18 ?_
      refine lv_iload_n hx hb dX10_thinks_21 rfl (lv_at hl 0 rfl) ?_
      refine lv_aload_n hx hb dX10_thinks_22 rfl (lv_at hl 3 rfl) ?_
      refine va_get (D := D) (ci := 9) (v := .ref mM) (C := RX10) (T := TX10) (N := 17) hx hb hts i_X10 hown hK.1 hP 0 rfl rfl 0 (by decide) (ht _ kt_849) (fun _ h9 => h9) rfl dX10_thinks_23 ?_
      refine lv_iload_n hx hb dX10_thinks_26 rfl (lv_at hl 0 rfl) ?_
      refine va_iald hx hb hK.1 hP 1 0 rfl rfl hvk dX10_thinks_27 ?_
      refine lz_i 0 rfl ?_
      refine va_iast hx hb hK.1 hP hD hS 2 0 rfl rfl hvk dX10_thinks_28 (fun H locs hP hD hS => ?_)
      rw [nI_clamp (by omega)] at hP hD
      refine lv_iinc (v := nI (k + 1)) (lv' := [(3, .int (nI (k + 1))), (2, .ref ra), (1, .int i0), (0, .ref md)]) hx hb dX10_thinks_29 hl (k := 0) rfl (nI_succ k).symm (by decide) rfl (fun ls hl => ?_)
      refine lv_goto (tgt := 10) hx hb dX10_thinks_32 (by decide) ?_
      refine ih (k + 1) (upd f k 0) H locs ls (by omega) (by omega) (fun j hj => ?_) hP hD hS hl
      by_cases e : j = k
      · subst e; simp [upd]
      · have := hf j (by omega); simp [upd, e, this]
set_option maxHeartbeats 4000000 in
set_option maxRecDepth 100000 in
theorem th_loop2 {p : Program} {l : Launch} {e : Env} {R : Room} {s : State} {m : MethodId} {args : Array Value} {below : List Frame} {meth : Method} {c : Code} {Q : State → Prop} {D : va_G} {cy : Nat → ClassId} {A : Nat → Prop} {md mM mL mS mC mR mJ mA mD mT : Nat} {ra : Nat} {i0 : Int32} {L1 : List Nat} {g g1 : Nat → Option Nat} (hx : p.tables.exec = Jvm.exec) (hb : c.code = cX10_thinks) (hts : ∀ w ∈ (Cond.code yX10_thinks cX10_thinks 4 (none) :: GT), w.before args s = true) (hown : s.vm.findClass RX10 = some m.cls) (hK : KK D cy s) {cells slots : Nat}
    (kend : ∀ (H : Heap) (locs : List Loc) (ls : Array Slot), va_P D classes ([(md, .inr (9, [.ref mM, .ref mL, .ref mS, .null, .int 0, .ref mC, .int 0, .int 0, .int 0, .ref mR, .ref mJ, .ref mA, .int 0, .int 0, .int 0, .ref mD, .ref mT])), (mM, .inl (cy 0, 559, .inl (fun _ => 0))), (mD, .inl (cy 0, 559, .inl (fun _ => 0))), (mT, .inl (cy 0, 3, .inl (fun _ => 0))), (mL, .inl (cy 5, 26, .inr (.inr (.inr (.inr g))))), (ra, .inl (cy 5, 26, .inr (.inr (.inr (.inr g1)))))] ++ PL cy L1) H → va_D A ([(md, .inr (9, [.ref mM, .ref mL, .ref mS, .null, .int 0, .ref mC, .int 0, .int 0, .int 0, .ref mR, .ref mJ, .ref mA, .int 0, .int 0, .int 0, .ref mD, .ref mT])), (mM, .inl (cy 0, 559, .inl (fun _ => 0))), (mD, .inl (cy 0, 559, .inl (fun _ => 0))), (mT, .inl (cy 0, 3, .inl (fun _ => 0))), (mL, .inl (cy 5, 26, .inr (.inr (.inr (.inr g))))), (ra, .inl (cy 5, 26, .inr (.inr (.inr (.inr g1)))))] ++ PL cy L1) → va_S A s.heap H locs → lv_has ls 4 [(3, .int (nI 559)), (2, .ref ra), (1, .int i0), (0, .ref md)] → W p l e R s m args below meth c H locs cells slots Q (F0 m 134 ls [])) :
    ∀ (n k : Nat) (f : Nat → Int32) (H : Heap) (locs : List Loc) (ls : Array Slot), k ≤ 559 → 559 - k < n → (∀ j, (j < k ∨ j ≠ 5) → f j = 0) → va_P D classes ([(md, .inr (9, [.ref mM, .ref mL, .ref mS, .null, .int 0, .ref mC, .int 0, .int 0, .int 0, .ref mR, .ref mJ, .ref mA, .int 0, .int 0, .int 0, .ref mD, .ref mT])), (mM, .inl (cy 0, 559, .inl f)), (mD, .inl (cy 0, 559, .inl (fun _ => 0))), (mT, .inl (cy 0, 3, .inl (fun _ => 0))), (mL, .inl (cy 5, 26, .inr (.inr (.inr (.inr g))))), (ra, .inl (cy 5, 26, .inr (.inr (.inr (.inr g1)))))] ++ PL cy L1) H → va_D A ([(md, .inr (9, [.ref mM, .ref mL, .ref mS, .null, .int 0, .ref mC, .int 0, .int 0, .int 0, .ref mR, .ref mJ, .ref mA, .int 0, .int 0, .int 0, .ref mD, .ref mT])), (mM, .inl (cy 0, 559, .inl f)), (mD, .inl (cy 0, 559, .inl (fun _ => 0))), (mT, .inl (cy 0, 3, .inl (fun _ => 0))), (mL, .inl (cy 5, 26, .inr (.inr (.inr (.inr g))))), (ra, .inl (cy 5, 26, .inr (.inr (.inr (.inr g1)))))] ++ PL cy L1) → va_S A s.heap H locs → lv_has ls 4 [(3, .int (nI k)), (2, .ref ra), (1, .int i0), (0, .ref md)] → W p l e R s m args below meth c H locs cells slots Q (F0 m 109 ls []) := by
  intro n
  induction n with
  | zero => intro k f H locs ls h1 h2; omega
  | succ n ih =>
    intro k f H locs ls hk hn hf hP hD hS hl
    have ht : ∀ w ∈ GT, w.before args s = true := fun w h => hts w (List.mem_cons_of_mem _ h)
    refine lv_iload_n hx hb dX10_thinks_109 rfl (lv_at hl 0 rfl) ?_
    refine lv_sipush (v := 559) hx hb dX10_thinks_110 (by decide) ?_
    refine lv_icmp_ge (tgt := 134) hx hb dX10_thinks_113 (by decide) (fun cq => ?_) (fun cq => ?_)
    · have cq : (559 : Int) ≤ (k : Int) := i_le cq rfl (nI_toInt (by omega))
      have hk2 : k = 559 := by omega
      subst hk2
      have hf0 : f = fun _ => 0 := funext fun j => hf j (by omega)
      subst hf0
      exact kend H locs ls hP hD hS hl
    · have cq : ¬ (559 : Int) ≤ (k : Int) := i_nle cq rfl (nI_toInt (by omega))
      have hlt : k < 559 := by omega
      have hvk : vp_in (nI k) 559 := vp_in_nI hlt (by decide)
      refine lv_aload_n hx hb dX10_thinks_116 rfl (lv_at hl 3 rfl) ?_
      refine va_get (D := D) (ci := 9) (v := .ref mM) (C := RX10) (T := TX10) (N := 17) hx hb hts i_X10 hown hK.1 hP 0 rfl rfl 0 (by decide) (ht _ kt_849) (fun _ h9 => h9) rfl dX10_thinks_117 ?_
      refine lv_iload_n hx hb dX10_thinks_120 rfl (lv_at hl 0 rfl) ?_
      refine lv_aload_n hx hb dX10_thinks_121 rfl (lv_at hl 3 rfl) ?_
      refine va_get (D := D) (ci := 9) (v := .ref mD) (C := RX10) (T := TX10) (N := 17) hx hb hts i_X10 hown hK.1 hP 0 rfl rfl 15 (by decide) (ht _ kt_864) (fun _ h9 => h9) rfl dX10_thinks_122 ?_
      refine lv_iload_n hx hb dX10_thinks_125 rfl (lv_at hl 0 rfl) ?_
      refine va_iald hx hb hK.1 hP 2 0 rfl rfl hvk dX10_thinks_126 ?_
      refine lz_i 0 rfl ?_
      refine va_iast hx hb hK.1 hP hD hS 1 0 rfl rfl hvk dX10_thinks_127 (fun H locs hP hD hS => ?_)
      rw [nI_clamp (by omega)] at hP hD
      refine lv_iinc (v := nI (k + 1)) (lv' := [(3, .int (nI (k + 1))), (2, .ref ra), (1, .int i0), (0, .ref md)]) hx hb dX10_thinks_128 hl (k := 0) rfl (nI_succ k).symm (by decide) rfl (fun ls hl => ?_)
      refine lv_goto (tgt := 109) hx hb dX10_thinks_131 (by decide) ?_
      refine ih (k + 1) (upd f k 0) H locs ls (by omega) (by omega) (fun j hj => ?_) hP hD hS hl
      by_cases e : j = k
      · subst e; simp [upd]
      · have := hf j (by omega); simp [upd, e, this]
set_option maxHeartbeats 4000000 in
set_option maxRecDepth 100000 in
theorem th_loop3 {p : Program} {l : Launch} {e : Env} {R : Room} {s : State} {m : MethodId} {args : Array Value} {below : List Frame} {meth : Method} {c : Code} {Q : State → Prop} {D : va_G} {cy : Nat → ClassId} {A : Nat → Prop} {md mM mL mS mC mR mJ mA mD mT : Nat} {ra : Nat} {i0 : Int32} {L1 : List Nat} {g1 : Nat → Option Nat} (hx : p.tables.exec = Jvm.exec) (hb : c.code = cX10_thinks) (hts : ∀ w ∈ (Cond.code yX10_thinks cX10_thinks 4 (none) :: GT), w.before args s = true) (hown : s.vm.findClass RX10 = some m.cls) (hK : KK D cy s) (hg1 : okG g1 L1 26) {cells slots : Nat}
    (kend : ∀ (g2 : Nat → Option Nat) (H : Heap) (locs : List Loc) (ls : Array Slot), okG g2 L1 26 → va_P D classes ([(md, .inr (9, [.ref mM, .ref mL, .ref mS, .null, .int 0, .ref mC, .int 0, .int 0, .int 0, .ref mR, .ref mJ, .ref mA, .int 0, .int 0, .int 0, .ref mD, .ref mT])), (mM, .inl (cy 0, 559, .inl (fun _ => 0))), (mD, .inl (cy 0, 559, .inl (fun _ => 0))), (mT, .inl (cy 0, 3, .inl (fun _ => 0))), (mL, .inl (cy 5, 26, .inr (.inr (.inr (.inr g2))))), (ra, .inl (cy 5, 26, .inr (.inr (.inr (.inr g1)))))] ++ PL cy L1) H → va_D A ([(md, .inr (9, [.ref mM, .ref mL, .ref mS, .null, .int 0, .ref mC, .int 0, .int 0, .int 0, .ref mR, .ref mJ, .ref mA, .int 0, .int 0, .int 0, .ref mD, .ref mT])), (mM, .inl (cy 0, 559, .inl (fun _ => 0))), (mD, .inl (cy 0, 559, .inl (fun _ => 0))), (mT, .inl (cy 0, 3, .inl (fun _ => 0))), (mL, .inl (cy 5, 26, .inr (.inr (.inr (.inr g2))))), (ra, .inl (cy 5, 26, .inr (.inr (.inr (.inr g1)))))] ++ PL cy L1) → va_S A s.heap H locs → lv_has ls 4 [(3, .int (nI 26)), (2, .ref ra), (1, .int i0), (0, .ref md)] → W p l e R s m args below meth c H locs cells slots Q (F0 m 157 ls [])) :
    ∀ (n k : Nat) (g2 : Nat → Option Nat) (H : Heap) (locs : List Loc) (ls : Array Slot), k ≤ 26 → 26 - k < n → okG g2 L1 26 → va_P D classes ([(md, .inr (9, [.ref mM, .ref mL, .ref mS, .null, .int 0, .ref mC, .int 0, .int 0, .int 0, .ref mR, .ref mJ, .ref mA, .int 0, .int 0, .int 0, .ref mD, .ref mT])), (mM, .inl (cy 0, 559, .inl (fun _ => 0))), (mD, .inl (cy 0, 559, .inl (fun _ => 0))), (mT, .inl (cy 0, 3, .inl (fun _ => 0))), (mL, .inl (cy 5, 26, .inr (.inr (.inr (.inr g2))))), (ra, .inl (cy 5, 26, .inr (.inr (.inr (.inr g1)))))] ++ PL cy L1) H → va_D A ([(md, .inr (9, [.ref mM, .ref mL, .ref mS, .null, .int 0, .ref mC, .int 0, .int 0, .int 0, .ref mR, .ref mJ, .ref mA, .int 0, .int 0, .int 0, .ref mD, .ref mT])), (mM, .inl (cy 0, 559, .inl (fun _ => 0))), (mD, .inl (cy 0, 559, .inl (fun _ => 0))), (mT, .inl (cy 0, 3, .inl (fun _ => 0))), (mL, .inl (cy 5, 26, .inr (.inr (.inr (.inr g2))))), (ra, .inl (cy 5, 26, .inr (.inr (.inr (.inr g1)))))] ++ PL cy L1) → va_S A s.heap H locs → lv_has ls 4 [(3, .int (nI k)), (2, .ref ra), (1, .int i0), (0, .ref md)] → W p l e R s m args below meth c H locs cells slots Q (F0 m 136 ls []) := by
  intro n
  induction n with
  | zero => intro k g2 H locs ls h1 h2; omega
  | succ n ih =>
    intro k g2 H locs ls hk hn hg2 hP hD hS hl
    have ht : ∀ w ∈ GT, w.before args s = true := fun w h => hts w (List.mem_cons_of_mem _ h)
    refine lv_iload_n hx hb dX10_thinks_136 rfl (lv_at hl 0 rfl) ?_
    refine lv_bipush (v := 26) hx hb dX10_thinks_137 (by decide) ?_
    refine lv_icmp_ge (tgt := 157) hx hb dX10_thinks_139 (by decide) (fun cq => ?_) (fun cq => ?_)
    · have cq : (26 : Int) ≤ (k : Int) := i_le cq rfl (nI_toInt (by omega))
      have hk2 : k = 26 := by omega
      subst hk2
      exact kend g2 H locs ls hg2 hP hD hS hl
    · have cq : ¬ (26 : Int) ≤ (k : Int) := i_nle cq rfl (nI_toInt (by omega))
      have hlt : k < 26 := by omega
      have hvk : vp_in (nI k) 26 := vp_in_nI hlt (by decide)
      obtain ⟨b, hbL, hb1⟩ := hg1 k hlt
      have hb2 : g1 (nI k).toNatClampNeg = some b := by rw [nI_clamp (by omega)]; exact hb1
      obtain ⟨kb, hkb⟩ := PL_get (cy := cy) (X := [(md, .inr (9, [.ref mM, .ref mL, .ref mS, .null, .int 0, .ref mC, .int 0, .int 0, .int 0, .ref mR, .ref mJ, .ref mA, .int 0, .int 0, .int 0, .ref mD, .ref mT])), (mM, .inl (cy 0, 559, .inl (fun _ => 0))), (mD, .inl (cy 0, 559, .inl (fun _ => 0))), (mT, .inl (cy 0, 3, .inl (fun _ => 0))), (mL, .inl (cy 5, 26, .inr (.inr (.inr (.inr g2))))), (ra, .inl (cy 5, 26, .inr (.inr (.inr (.inr g1)))))]) hbL
      refine lv_aload_n hx hb dX10_thinks_142 rfl (lv_at hl 3 rfl) ?_
      refine va_get (D := D) (ci := 9) (v := .ref mL) (C := RX10) (T := TX10) (N := 17) hx hb hts i_X10 hown hK.1 hP 0 rfl rfl 1 (by decide) (ht _ kt_850) (fun _ h9 => h9) rfl dX10_thinks_143 ?_
      refine lv_iload_n hx hb dX10_thinks_146 rfl (lv_at hl 0 rfl) ?_
      refine lv_aload_n hx hb dX10_thinks_147 rfl (lv_at hl 1 rfl) ?_
      refine lv_iload_n hx hb dX10_thinks_148 rfl (lv_at hl 0 rfl) ?_
      refine yr_ald hx hb hK hP 5 rfl hvk hb2 dX10_thinks_149 ?_
      refine yr_ast hx hb hK hP hD hS 4 rfl kb hkb hvk dX10_thinks_150 (fun H locs hP hD hS => ?_)
      rw [nI_clamp (by omega)] at hP hD
      refine lv_iinc (v := nI (k + 1)) (lv' := [(3, .int (nI (k + 1))), (2, .ref ra), (1, .int i0), (0, .ref md)]) hx hb dX10_thinks_151 hl (k := 0) rfl (nI_succ k).symm (by decide) rfl (fun ls hl => ?_)
      refine lv_goto (tgt := 136) hx hb dX10_thinks_154 (by decide) ?_
      exact ih (k + 1) (va_up g2 k (some b)) H locs ls (by omega) (by omega) (okG_in hg2 hbL) hP hD hS hl
set_option maxHeartbeats 4000000 in
set_option maxRecDepth 100000 in
theorem c_thinks (l : Launch) (D : va_G) (cy : Nat → ClassId) (md mM mL mS mC mR mJ mA mD mT : Nat) (L : List Nat) (g : Nat → Option Nat) (hg : okG g L 26) (i0 : Int32) (sz : Nat) : Met l yX10_thinks (Cond.code yX10_thinks cX10_thinks 4 (none) :: GT) ({ frames := 1, cells := 27, slots := 3354, locals := 23 }) (gN D cy ([(md, .inr (9, [.ref mM, .ref mL, .ref mS, .null, .int 0, .ref mC, .int 0, .int 0, .int 0, .ref mR, .ref mJ, .ref mA, .int 0, .int 0, .int 0, .ref mD, .ref mT])), (mM, .inl (cy 0, 559, .inl (fun _ => 0))), (mL, .inl (cy 5, 26, .inr (.inr (.inr (.inr g))))), (mD, .inl (cy 0, 559, .inl (fun _ => 0))), (mT, .inl (cy 0, 3, .inl (fun _ => 0)))] ++ PL cy L) [.ref md, .int i0] sz) (va_Qv (fun u : List Nat × (Nat → Option Nat) => okG u.2 u.1 26) (fun u t => va_P D classes ([(md, .inr (9, [.ref mM, .ref mL, .ref mS, .null, .int 0, .ref mC, .int 0, .int 0, .int 0, .ref mR, .ref mJ, .ref mA, .int 0, .int 0, .int 0, .ref mD, .ref mT])), (mM, .inl (cy 0, 559, .inl (fun _ => 0))), (mL, .inl (cy 5, 26, .inr (.inr (.inr (.inr u.2))))), (mD, .inl (cy 0, 559, .inl (fun _ => 0))), (mT, .inl (cy 0, 3, .inl (fun _ => 0)))] ++ PL cy u.1) t.heap ∧ va_D (va_A ([(md, .inr (9, [.ref mM, .ref mL, .ref mS, .null, .int 0, .ref mC, .int 0, .int 0, .int 0, .ref mR, .ref mJ, .ref mA, .int 0, .int 0, .int 0, .ref mD, .ref mT])), (mM, .inl (cy 0, 559, .inl (fun _ => 0))), (mL, .inl (cy 5, 26, .inr (.inr (.inr (.inr g))))), (mD, .inl (cy 0, 559, .inl (fun _ => 0))), (mT, .inl (cy 0, 3, .inl (fun _ => 0)))] ++ PL cy L) sz) ([(md, .inr (9, [.ref mM, .ref mL, .ref mS, .null, .int 0, .ref mC, .int 0, .int 0, .int 0, .ref mR, .ref mJ, .ref mA, .int 0, .int 0, .int 0, .ref mD, .ref mT])), (mM, .inl (cy 0, 559, .inl (fun _ => 0))), (mL, .inl (cy 5, 26, .inr (.inr (.inr (.inr u.2))))), (mD, .inl (cy 0, 559, .inl (fun _ => 0))), (mT, .inl (cy 0, 3, .inl (fun _ => 0)))] ++ PL cy u.1)) (va_A ([(md, .inr (9, [.ref mM, .ref mL, .ref mS, .null, .int 0, .ref mC, .int 0, .int 0, .int 0, .ref mR, .ref mJ, .ref mA, .int 0, .int 0, .int 0, .ref mD, .ref mT])), (mM, .inl (cy 0, 559, .inl (fun _ => 0))), (mL, .inl (cy 5, 26, .inr (.inr (.inr (.inr g))))), (mD, .inl (cy 0, 559, .inl (fun _ => 0))), (mT, .inl (cy 0, 3, .inl (fun _ => 0)))] ++ PL cy L) sz)) 27 3354 (va_A ([(md, .inr (9, [.ref mM, .ref mL, .ref mS, .null, .int 0, .ref mC, .int 0, .int 0, .int 0, .ref mR, .ref mJ, .ref mA, .int 0, .int 0, .int 0, .ref mD, .ref mT])), (mM, .inl (cy 0, 559, .inl (fun _ => 0))), (mL, .inl (cy 5, 26, .inr (.inr (.inr (.inr g))))), (mD, .inl (cy 0, 559, .inl (fun _ => 0))), (mT, .inl (cy 0, 3, .inl (fun _ => 0)))] ++ PL cy L) sz) := by
  refine Met.ofW (cc := cX10_thinks) (maxL := 4) (ret := none) (by decide) rfl ?_
  intro p e s m args below meth c s₁ B hml hv
  obtain ⟨rfl, hsz, hP, hK, hD0⟩ := hv
  have hx := B.exec
  have hb := B.bytes
  have hr := B.returns
  have hts := atoms_spec (ws := (Cond.code yX10_thinks cX10_thinks 4 (none) :: GT)) B.pre
  have ht : ∀ w ∈ GT, w.before _ s = true := fun w h => hts w (List.mem_cons_of_mem _ h)
  have hown : s.vm.findClass RX10 = some m.cls := findClass_of_methodNamed B.named
  have hlocks := B.notSynchronized
  subst hsz
  have hD := hD0.self (sz := s.heap.size)
  generalize hAe : va_A ([(md, .inr (9, [.ref mM, .ref mL, .ref mS, .null, .int 0, .ref mC, .int 0, .int 0, .int 0, .ref mR, .ref mJ, .ref mA, .int 0, .int 0, .int 0, .ref mD, .ref mT])), (mM, .inl (cy 0, 559, .inl (fun _ => 0))), (mL, .inl (cy 5, 26, .inr (.inr (.inr (.inr g))))), (mD, .inl (cy 0, 559, .inl (fun _ => 0))), (mT, .inl (cy 0, 3, .inl (fun _ => 0)))] ++ PL cy L) s.heap.size = A at hD ⊢
  have hA : ∀ q : Nat, s.heap.size ≤ q → A q := fun q h => by rw [← hAe]; exact Or.inr h
  have hS : va_S A s.heap s.heap [] := va_S.rf
  have hl := lv_entry ([.ref md, .int i0]) (n := 4) (Nat.le_of_ble_eq_true rfl)
  rw [lg_entry_eq]
  generalize (lg_sl ([.ref md, .int i0]) ++ List.replicate (4 - (lg_sl ([.ref md, .int i0])).length) Slot.unset).toArray = ls at hl ⊢
  have hl : lv_has ls 4 [(0, .ref md), (1, .int i0)] := hl
  refine lv_aload_n hx hb dX10_thinks_0 rfl (lv_at hl 0 rfl) ?_
  refine va_get (D := D) (ci := 9) (v := .ref mL) (C := RX10) (T := TX10) (N := 17) hx hb hts i_X10 hown hK.1 hP 0 rfl rfl 1 (by decide) (ht _ kt_850) (fun _ h9 => h9) rfl dX10_thinks_1 ?_
  have hPc := va_P.part (X := ([(md, .inr (9, [.ref mM, .ref mL, .ref mS, .null, .int 0, .ref mC, .int 0, .int 0, .int 0, .ref mR, .ref mJ, .ref mA, .int 0, .int 0, .int 0, .ref mD, .ref mT])), (mM, .inl (cy 0, 559, .inl (fun _ => 0))), (mL, .inl (cy 5, 26, .inr (.inr (.inr (.inr g))))), (mD, .inl (cy 0, 559, .inl (fun _ => 0))), (mT, .inl (cy 0, 3, .inl (fun _ => 0)))] : va_W)) (cx := ([(mL, .inl (cy 5, 26, .inr (.inr (.inr (.inr g)))))] : va_W)) hP [2] rfl
  have hDc := va_D.part (X := ([(md, .inr (9, [.ref mM, .ref mL, .ref mS, .null, .int 0, .ref mC, .int 0, .int 0, .int 0, .ref mR, .ref mJ, .ref mA, .int 0, .int 0, .int 0, .ref mD, .ref mT])), (mM, .inl (cy 0, 559, .inl (fun _ => 0))), (mL, .inl (cy 5, 26, .inr (.inr (.inr (.inr g))))), (mD, .inl (cy 0, 559, .inl (fun _ => 0))), (mT, .inl (cy 0, 3, .inl (fun _ => 0)))] : va_W)) (cx := ([(mL, .inl (cy 5, 26, .inr (.inr (.inr (.inr g)))))] : va_W)) hD [2] (by decide) rfl
  have hFc := va_freeP (X := ([(md, .inr (9, [.ref mM, .ref mL, .ref mS, .null, .int 0, .ref mC, .int 0, .int 0, .int 0, .ref mR, .ref mJ, .ref mA, .int 0, .int 0, .int 0, .ref mD, .ref mT])), (mM, .inl (cy 0, 559, .inl (fun _ => 0))), (mL, .inl (cy 5, 26, .inr (.inr (.inr (.inr g))))), (mD, .inl (cy 0, 559, .inl (fun _ => 0))), (mT, .inl (cy 0, 3, .inl (fun _ => 0)))] : va_W)) (cx := ([(mL, .inl (cy 5, 26, .inr (.inr (.inr (.inr g)))))] : va_W)) hD hS hA [2] rfl
  refine va_callr (va_runS (As := [.ref mL]) (rest := []) ⟨hx, hb, hml, hown, hts⟩ (c_copyOf l D cy mL (L) (g) hg s.heap.size) (va_cwS 1 hts (gt_S kt_1180 kt_1181 kt_8 kt_1182) rfl rfl rfl (by decide +kernel) ⟨Nat.le_of_ble_eq_true rfl, Nat.le_of_ble_eq_true rfl⟩) (gN_S hK hPc hDc) rfl rfl hl.1 rfl (lv_room (Nat.le_of_ble_eq_true rfl)) dX10_thinks_4 ⟨Nat.le_of_ble_eq_true rfl, Nat.le_of_ble_eq_true rfl⟩) hS (fun q _ h => hFc q h) hFc (fun u1 ra2 t H1 locs ht2 hvm hw3 hB hz1 hk1 hS => ?_)
  obtain ⟨hP1, hD1⟩ := hB
  rw [ht2] at hP1
  obtain ⟨hP, hD⟩ := va_joinP (X := ([(md, .inr (9, [.ref mM, .ref mL, .ref mS, .null, .int 0, .ref mC, .int 0, .int 0, .int 0, .ref mR, .ref mJ, .ref mA, .int 0, .int 0, .int 0, .ref mD, .ref mT])), (mM, .inl (cy 0, 559, .inl (fun _ => 0))), (mL, .inl (cy 5, 26, .inr (.inr (.inr (.inr g))))), (mD, .inl (cy 0, 559, .inl (fun _ => 0))), (mT, .inl (cy 0, 3, .inl (fun _ => 0)))] : va_W)) (cx := ([(mL, .inl (cy 5, 26, .inr (.inr (.inr (.inr g)))))] : va_W)) (wr := ([(md, .inr (9, [.ref mM, .ref mL, .ref mS, .null, .int 0, .ref mC, .int 0, .int 0, .int 0, .ref mR, .ref mJ, .ref mA, .int 0, .int 0, .int 0, .ref mD, .ref mT])), (mM, .inl (cy 0, 559, .inl (fun _ => 0))), (mD, .inl (cy 0, 559, .inl (fun _ => 0))), (mT, .inl (cy 0, 3, .inl (fun _ => 0)))] : va_W)) (rx := ([(mL, .inl (cy 5, 26, .inr (.inr (.inr (.inr g))))), (ra2, .inl (cy 5, 26, .inr (.inr (.inr (.inr u1.2)))))] : va_W)) (pl1 := PL cy u1.1) hP hD [2] [0, 1, 3, 4] rfl rfl (by decide) (by decide) hk1 hFc hP1 hD1
  generalize H1 = H at hP hS ⊢
  have hP : va_P D classes ([(md, .inr (9, [.ref mM, .ref mL, .ref mS, .null, .int 0, .ref mC, .int 0, .int 0, .int 0, .ref mR, .ref mJ, .ref mA, .int 0, .int 0, .int 0, .ref mD, .ref mT])), (mM, .inl (cy 0, 559, .inl (fun _ => 0))), (mD, .inl (cy 0, 559, .inl (fun _ => 0))), (mT, .inl (cy 0, 3, .inl (fun _ => 0))), (mL, .inl (cy 5, 26, .inr (.inr (.inr (.inr g))))), (ra2, .inl (cy 5, 26, .inr (.inr (.inr (.inr u1.2)))))] ++ PL cy u1.1) H := hP
  have hD : va_D A ([(md, .inr (9, [.ref mM, .ref mL, .ref mS, .null, .int 0, .ref mC, .int 0, .int 0, .int 0, .ref mR, .ref mJ, .ref mA, .int 0, .int 0, .int 0, .ref mD, .ref mT])), (mM, .inl (cy 0, 559, .inl (fun _ => 0))), (mD, .inl (cy 0, 559, .inl (fun _ => 0))), (mT, .inl (cy 0, 3, .inl (fun _ => 0))), (mL, .inl (cy 5, 26, .inr (.inr (.inr (.inr g))))), (ra2, .inl (cy 5, 26, .inr (.inr (.inr (.inr u1.2)))))] ++ PL cy u1.1) := hD
  refine W.widen (k := 27) (n := 3354) (Nat.le_of_ble_eq_true rfl) (Nat.le_of_ble_eq_true rfl) ?_
  refine lv_astore_n (lv' := [(2, .ref ra2), (0, .ref md), (1, .int i0)]) hx hb dX10_thinks_7 rfl hl (by decide) rfl (fun ls hl => ?_)
  refine lv_iconst (v := 0) hx hb dX10_thinks_8 (by decide) ?_
  refine lv_istore_n (lv' := [(3, .int 0), (2, .ref ra2), (0, .ref md), (1, .int i0)]) hx hb dX10_thinks_9 rfl hl (by decide) rfl (fun ls hl => ?_)
  refine th_loop1 (g := g) hx hb hts hown hK (fun H locs ls hP hD hS hl => ?_) 560 0 (fun _ => 0) H _ ls (by omega) (by omega) (fun _ _ => rfl) hP hD hS (by rw [nI_0]; exact lv_sub hl [0, 1, 3, 2] rfl)
  refine lv_aload_n hx hb dX10_thinks_35 rfl (lv_at hl 3 rfl) ?_
  refine va_get (D := D) (ci := 9) (v := .ref mM) (C := RX10) (T := TX10) (N := 17) hx hb hts i_X10 hown hK.1 hP 0 rfl rfl 0 (by decide) (ht _ kt_849) (fun _ h9 => h9) rfl dX10_thinks_36 ?_
  refine lv_iconst (v := 5) hx hb dX10_thinks_39 (by decide) ?_
  refine lv_iload_n hx hb dX10_thinks_40 rfl (lv_at hl 2 rfl) ?_
  refine va_iast hx hb hK.1 hP hD hS 1 0 rfl rfl (vin (by decide)) dX10_thinks_41 (fun H locs hP hD hS => ?_)
  have hP : va_P D classes ([(md, .inr (9, [.ref mM, .ref mL, .ref mS, .null, .int 0, .ref mC, .int 0, .int 0, .int 0, .ref mR, .ref mJ, .ref mA, .int 0, .int 0, .int 0, .ref mD, .ref mT])), (mM, .inl (cy 0, 559, .inl (upd (fun _ => 0) 5 i0))), (mD, .inl (cy 0, 559, .inl (fun _ => 0))), (mT, .inl (cy 0, 3, .inl (fun _ => 0))), (mL, .inl (cy 5, 26, .inr (.inr (.inr (.inr g))))), (ra2, .inl (cy 5, 26, .inr (.inr (.inr (.inr u1.2)))))] ++ PL cy u1.1) H := hP
  have hD : va_D A ([(md, .inr (9, [.ref mM, .ref mL, .ref mS, .null, .int 0, .ref mC, .int 0, .int 0, .int 0, .ref mR, .ref mJ, .ref mA, .int 0, .int 0, .int 0, .ref mD, .ref mT])), (mM, .inl (cy 0, 559, .inl (upd (fun _ => 0) 5 i0))), (mD, .inl (cy 0, 559, .inl (fun _ => 0))), (mT, .inl (cy 0, 3, .inl (fun _ => 0))), (mL, .inl (cy 5, 26, .inr (.inr (.inr (.inr g))))), (ra2, .inl (cy 5, 26, .inr (.inr (.inr (.inr u1.2)))))] ++ PL cy u1.1) := hD
  refine lv_aload_n hx hb dX10_thinks_42 rfl (lv_at hl 3 rfl) ?_
  refine lv_iconst (v := 0) hx hb dX10_thinks_43 (by decide) ?_
  refine vp_callSi (va_Run.run (va_runV (As := [.int 0]) (rest := []) ⟨hx, hb, hml, hown, hts⟩ (c132_X10_sizeOf l D cy md mM mL mS mC mR mJ mA mD mT i0) (cwV 1 hts (gt_V kt_936 kt_938 kp_29 kt_8 kt_939) rfl rfl rfl (by decide +kernel) ⟨Nat.le_of_ble_eq_true rfl, Nat.le_of_ble_eq_true rfl⟩) (gP_V hK (hP.sub (ws' := (w132 cy md mM mL mS mC mR mJ mA mD mT i0)) [0, 1] rfl) hP (ci := 9) (q0 := 0) rfl rfl) rfl rfl hl.1 rfl (lv_room (Nat.le_of_ble_eq_true rfl)) dX10_thinks_44 ⟨Nat.le_of_ble_eq_true rfl, Nat.le_of_ble_eq_true rfl⟩)) (fun r4 hw5 => ?_)
  obtain rfl : r4 = 0 := hw5
  refine lv_if_le (tgt := 57) hx hb dX10_thinks_47 (by decide) (fun _ => ?_) (fun c6 => absurd c6 (by decide))
  refine lv_aload_n hx hb dX10_thinks_57 rfl (lv_at hl 3 rfl) ?_
  refine va_get (D := D) (ci := 9) (v := .ref mT) (C := RX10) (T := TX10) (N := 17) hx hb hts i_X10 hown hK.1 hP 0 rfl rfl 16 (by decide) (ht _ kt_865) (fun _ h9 => h9) rfl dX10_thinks_58 ?_
  refine lv_iconst (v := 0) hx hb dX10_thinks_61 (by decide) ?_
  refine lv_aload_n hx hb dX10_thinks_62 rfl (lv_at hl 3 rfl) ?_
  refine va_get (D := D) (ci := 9) (v := .ref mM) (C := RX10) (T := TX10) (N := 17) hx hb hts i_X10 hown hK.1 hP 0 rfl rfl 0 (by decide) (ht _ kt_849) (fun _ h9 => h9) rfl dX10_thinks_63 ?_
  refine lv_iconst (v := 4) hx hb dX10_thinks_66 (by decide) ?_
  refine va_iald hx hb hK.1 hP 1 0 rfl rfl (vin (by decide)) dX10_thinks_67 ?_
  refine lz_i 0 rfl ?_
  refine lv_aload_n hx hb dX10_thinks_68 rfl (lv_at hl 3 rfl) ?_
  refine va_get (D := D) (ci := 9) (v := .ref mD) (C := RX10) (T := TX10) (N := 17) hx hb hts i_X10 hown hK.1 hP 0 rfl rfl 15 (by decide) (ht _ kt_864) (fun _ h9 => h9) rfl dX10_thinks_69 ?_
  refine lv_iconst (v := 4) hx hb dX10_thinks_72 (by decide) ?_
  refine va_iald hx hb hK.1 hP 2 0 rfl rfl (vin (by decide)) dX10_thinks_73 ?_
  refine lz_i 0 rfl ?_
  refine lv_isub hx hb dX10_thinks_74 ?_
  refine lz_i 0 (by decide) ?_
  refine va_iast hx hb hK.1 hP hD hS 3 0 rfl rfl (vin (by decide)) dX10_thinks_75 (fun H locs hP hD hS => ?_)
  rw [upd_zero] at hP hD
  have hP : va_P D classes ([(md, .inr (9, [.ref mM, .ref mL, .ref mS, .null, .int 0, .ref mC, .int 0, .int 0, .int 0, .ref mR, .ref mJ, .ref mA, .int 0, .int 0, .int 0, .ref mD, .ref mT])), (mM, .inl (cy 0, 559, .inl (upd (fun _ => 0) 5 i0))), (mD, .inl (cy 0, 559, .inl (fun _ => 0))), (mT, .inl (cy 0, 3, .inl (fun _ => 0))), (mL, .inl (cy 5, 26, .inr (.inr (.inr (.inr g))))), (ra2, .inl (cy 5, 26, .inr (.inr (.inr (.inr u1.2)))))] ++ PL cy u1.1) H := hP
  have hD : va_D A ([(md, .inr (9, [.ref mM, .ref mL, .ref mS, .null, .int 0, .ref mC, .int 0, .int 0, .int 0, .ref mR, .ref mJ, .ref mA, .int 0, .int 0, .int 0, .ref mD, .ref mT])), (mM, .inl (cy 0, 559, .inl (upd (fun _ => 0) 5 i0))), (mD, .inl (cy 0, 559, .inl (fun _ => 0))), (mT, .inl (cy 0, 3, .inl (fun _ => 0))), (mL, .inl (cy 5, 26, .inr (.inr (.inr (.inr g))))), (ra2, .inl (cy 5, 26, .inr (.inr (.inr (.inr u1.2)))))] ++ PL cy u1.1) := hD
  refine lv_aload_n hx hb dX10_thinks_76 rfl (lv_at hl 3 rfl) ?_
  refine va_get (D := D) (ci := 9) (v := .ref mT) (C := RX10) (T := TX10) (N := 17) hx hb hts i_X10 hown hK.1 hP 0 rfl rfl 16 (by decide) (ht _ kt_865) (fun _ h9 => h9) rfl dX10_thinks_77 ?_
  refine lv_iconst (v := 1) hx hb dX10_thinks_80 (by decide) ?_
  refine lv_aload_n hx hb dX10_thinks_81 rfl (lv_at hl 3 rfl) ?_
  refine va_get (D := D) (ci := 9) (v := .ref mM) (C := RX10) (T := TX10) (N := 17) hx hb hts i_X10 hown hK.1 hP 0 rfl rfl 0 (by decide) (ht _ kt_849) (fun _ h9 => h9) rfl dX10_thinks_82 ?_
  refine lv_iconst (v := 3) hx hb dX10_thinks_85 (by decide) ?_
  refine va_iald hx hb hK.1 hP 1 0 rfl rfl (vin (by decide)) dX10_thinks_86 ?_
  refine lz_i 0 rfl ?_
  refine lv_aload_n hx hb dX10_thinks_87 rfl (lv_at hl 3 rfl) ?_
  refine va_get (D := D) (ci := 9) (v := .ref mD) (C := RX10) (T := TX10) (N := 17) hx hb hts i_X10 hown hK.1 hP 0 rfl rfl 15 (by decide) (ht _ kt_864) (fun _ h9 => h9) rfl dX10_thinks_88 ?_
  refine lv_iconst (v := 3) hx hb dX10_thinks_91 (by decide) ?_
  refine va_iald hx hb hK.1 hP 2 0 rfl rfl (vin (by decide)) dX10_thinks_92 ?_
  refine lz_i 0 rfl ?_
  refine lv_isub hx hb dX10_thinks_93 ?_
  refine lz_i 0 (by decide) ?_
  refine va_iast hx hb hK.1 hP hD hS 3 0 rfl rfl (vin (by decide)) dX10_thinks_94 (fun H locs hP hD hS => ?_)
  rw [upd_zero] at hP hD
  have hP : va_P D classes ([(md, .inr (9, [.ref mM, .ref mL, .ref mS, .null, .int 0, .ref mC, .int 0, .int 0, .int 0, .ref mR, .ref mJ, .ref mA, .int 0, .int 0, .int 0, .ref mD, .ref mT])), (mM, .inl (cy 0, 559, .inl (upd (fun _ => 0) 5 i0))), (mD, .inl (cy 0, 559, .inl (fun _ => 0))), (mT, .inl (cy 0, 3, .inl (fun _ => 0))), (mL, .inl (cy 5, 26, .inr (.inr (.inr (.inr g))))), (ra2, .inl (cy 5, 26, .inr (.inr (.inr (.inr u1.2)))))] ++ PL cy u1.1) H := hP
  have hD : va_D A ([(md, .inr (9, [.ref mM, .ref mL, .ref mS, .null, .int 0, .ref mC, .int 0, .int 0, .int 0, .ref mR, .ref mJ, .ref mA, .int 0, .int 0, .int 0, .ref mD, .ref mT])), (mM, .inl (cy 0, 559, .inl (upd (fun _ => 0) 5 i0))), (mD, .inl (cy 0, 559, .inl (fun _ => 0))), (mT, .inl (cy 0, 3, .inl (fun _ => 0))), (mL, .inl (cy 5, 26, .inr (.inr (.inr (.inr g))))), (ra2, .inl (cy 5, 26, .inr (.inr (.inr (.inr u1.2)))))] ++ PL cy u1.1) := hD
  refine lv_aload_n hx hb dX10_thinks_95 rfl (lv_at hl 3 rfl) ?_
  refine va_get (D := D) (ci := 9) (v := .ref mT) (C := RX10) (T := TX10) (N := 17) hx hb hts i_X10 hown hK.1 hP 0 rfl rfl 16 (by decide) (ht _ kt_865) (fun _ h9 => h9) rfl dX10_thinks_96 ?_
  refine lv_iconst (v := 2) hx hb dX10_thinks_99 (by decide) ?_
  refine lv_aload_n hx hb dX10_thinks_100 rfl (lv_at hl 3 rfl) ?_
  refine lv_bipush (v := 25) hx hb dX10_thinks_101 (by decide) ?_
  refine vp_callSi (va_Run.run (va_runV (As := [.int 25]) (rest := [.int 2, .ref mT]) ⟨hx, hb, hml, hown, hts⟩ (c133_X10_sizeOf l D cy md mM mL mS mC mR mJ mA mD mT i0) (cwV 1 hts (gt_V kt_936 kt_938 kp_29 kt_8 kt_939) rfl rfl rfl (by decide +kernel) ⟨Nat.le_of_ble_eq_true rfl, Nat.le_of_ble_eq_true rfl⟩) (gP_V hK (hP.sub (ws' := (w133 cy md mM mL mS mC mR mJ mA mD mT i0)) [0, 1] rfl) hP (ci := 9) (q0 := 0) rfl rfl) rfl rfl hl.1 rfl (lv_room (Nat.le_of_ble_eq_true rfl)) dX10_thinks_103 ⟨Nat.le_of_ble_eq_true rfl, Nat.le_of_ble_eq_true rfl⟩)) (fun r7 hw8 => ?_)
  obtain rfl : r7 = 0 := hw8
  refine va_iast hx hb hK.1 hP hD hS 3 0 rfl rfl (vin (by decide)) dX10_thinks_106 (fun H locs hP hD hS => ?_)
  rw [upd_zero] at hP hD
  have hP : va_P D classes ([(md, .inr (9, [.ref mM, .ref mL, .ref mS, .null, .int 0, .ref mC, .int 0, .int 0, .int 0, .ref mR, .ref mJ, .ref mA, .int 0, .int 0, .int 0, .ref mD, .ref mT])), (mM, .inl (cy 0, 559, .inl (upd (fun _ => 0) 5 i0))), (mD, .inl (cy 0, 559, .inl (fun _ => 0))), (mT, .inl (cy 0, 3, .inl (fun _ => 0))), (mL, .inl (cy 5, 26, .inr (.inr (.inr (.inr g))))), (ra2, .inl (cy 5, 26, .inr (.inr (.inr (.inr u1.2)))))] ++ PL cy u1.1) H := hP
  have hD : va_D A ([(md, .inr (9, [.ref mM, .ref mL, .ref mS, .null, .int 0, .ref mC, .int 0, .int 0, .int 0, .ref mR, .ref mJ, .ref mA, .int 0, .int 0, .int 0, .ref mD, .ref mT])), (mM, .inl (cy 0, 559, .inl (upd (fun _ => 0) 5 i0))), (mD, .inl (cy 0, 559, .inl (fun _ => 0))), (mT, .inl (cy 0, 3, .inl (fun _ => 0))), (mL, .inl (cy 5, 26, .inr (.inr (.inr (.inr g))))), (ra2, .inl (cy 5, 26, .inr (.inr (.inr (.inr u1.2)))))] ++ PL cy u1.1) := hD
  refine lv_iconst (v := 0) hx hb dX10_thinks_107 (by decide) ?_
  refine lv_istore_n (lv' := [(3, .int 0), (2, .ref ra2), (1, .int i0), (0, .ref md)]) hx hb dX10_thinks_108 rfl hl (by decide) rfl (fun ls hl => ?_)
  refine th_loop2 (g := g) hx hb hts hown hK (fun H locs ls hP hD hS hl => ?_) 560 0 (upd (fun _ => 0) 5 i0) H _ ls (by omega) (by omega) (fun j hj => hj.elim (fun h => absurd h (Nat.not_lt_zero j)) (fun h => by simp [upd, h])) hP hD hS (by rw [nI_0]; exact lv_sub hl [0, 1, 2, 3] rfl)
  refine lv_iconst (v := 0) hx hb dX10_thinks_134 (by decide) ?_
  refine lv_istore_n (lv' := [(3, .int 0), (2, .ref ra2), (1, .int i0), (0, .ref md)]) hx hb dX10_thinks_135 rfl hl (by decide) rfl (fun ls hl => ?_)
  refine th_loop3 hx hb hts hown hK hw3.1 (fun g2 H locs ls hg2 hP hD hS hl => ?_) 27 0 g H _ ls (by omega) (by omega) (okG_mono hg hw3.2) hP hD hS (by rw [nI_0]; exact lv_sub hl [0, 1, 2, 3] rfl)
  have hP9 := va_P.part (X := [(md, .inr (9, [.ref mM, .ref mL, .ref mS, .null, .int 0, .ref mC, .int 0, .int 0, .int 0, .ref mR, .ref mJ, .ref mA, .int 0, .int 0, .int 0, .ref mD, .ref mT])), (mM, .inl (cy 0, 559, .inl (fun _ => 0))), (mD, .inl (cy 0, 559, .inl (fun _ => 0))), (mT, .inl (cy 0, 3, .inl (fun _ => 0))), (mL, .inl (cy 5, 26, .inr (.inr (.inr (.inr g2))))), (ra2, .inl (cy 5, 26, .inr (.inr (.inr (.inr u1.2)))))]) (cx := [(md, .inr (9, [.ref mM, .ref mL, .ref mS, .null, .int 0, .ref mC, .int 0, .int 0, .int 0, .ref mR, .ref mJ, .ref mA, .int 0, .int 0, .int 0, .ref mD, .ref mT])), (mM, .inl (cy 0, 559, .inl (fun _ => 0))), (mL, .inl (cy 5, 26, .inr (.inr (.inr (.inr g2))))), (mD, .inl (cy 0, 559, .inl (fun _ => 0))), (mT, .inl (cy 0, 3, .inl (fun _ => 0)))]) hP [0, 1, 4, 2, 3] rfl
  have hD9 := va_D.part (X := [(md, .inr (9, [.ref mM, .ref mL, .ref mS, .null, .int 0, .ref mC, .int 0, .int 0, .int 0, .ref mR, .ref mJ, .ref mA, .int 0, .int 0, .int 0, .ref mD, .ref mT])), (mM, .inl (cy 0, 559, .inl (fun _ => 0))), (mD, .inl (cy 0, 559, .inl (fun _ => 0))), (mT, .inl (cy 0, 3, .inl (fun _ => 0))), (mL, .inl (cy 5, 26, .inr (.inr (.inr (.inr g2))))), (ra2, .inl (cy 5, 26, .inr (.inr (.inr (.inr u1.2)))))]) (cx := [(md, .inr (9, [.ref mM, .ref mL, .ref mS, .null, .int 0, .ref mC, .int 0, .int 0, .int 0, .ref mR, .ref mJ, .ref mA, .int 0, .int 0, .int 0, .ref mD, .ref mT])), (mM, .inl (cy 0, 559, .inl (fun _ => 0))), (mL, .inl (cy 5, 26, .inr (.inr (.inr (.inr g2))))), (mD, .inl (cy 0, 559, .inl (fun _ => 0))), (mT, .inl (cy 0, 3, .inl (fun _ => 0)))]) hD [0, 1, 4, 2, 3] (by decide) rfl
  exact W.vret hx hb hr (fun t ht2 hW => ⟨⟨(u1.1, g2), rfl, hg2, by rw [ht2]; exact hP9, hD9⟩, hS.F ht2⟩) hS.2.2 dX10_thinks_157
