set_option maxHeartbeats 4000000 in
set_option maxRecDepth 100000 in
theorem co_inner {p : Program} {l : Launch} {e : Env} {R : Room} {s : State} {m : MethodId} {args : Array Value} {below : List Frame} {meth : Method} {c : Code} {Q : State → Prop} {D : va_G} {cy : Nat → ClassId} {A : Nat → Prop} (hx : p.tables.exec = Jvm.exec) (hb : c.code = cX10_copyOf) (hK : KK D cy s) {cells slots h0 q i a b : Nat} {g g1 : Nat → Option Nat} {L1 : List Nat} (hi : i < 26) (ha : g i = some a) (haL : a ∈ L1) (hb1 : g1 i = some b) (hbL : b ∈ L1)
    (kend : ∀ (H : Heap) (locs : List Loc) (ls : Array Slot), va_P D classes ([(h0, gg cy g), (q, gg cy g1)] ++ PL cy L1) H → va_D A ([(h0, gg cy g), (q, gg cy g1)] ++ PL cy L1) → va_S A s.heap H locs → lv_has ls 4 [(3, .int (nI 128)), (2, .int (nI i)), (1, .ref q), (0, .ref h0)] → W p l e R s m args below meth c H locs cells slots Q (F0 m 49 ls [])) :
    ∀ (n k : Nat) (H : Heap) (locs : List Loc) (ls : Array Slot), k ≤ 128 → 128 - k < n → va_P D classes ([(h0, gg cy g), (q, gg cy g1)] ++ PL cy L1) H → va_D A ([(h0, gg cy g), (q, gg cy g1)] ++ PL cy L1) → va_S A s.heap H locs → lv_has ls 4 [(3, .int (nI k)), (2, .int (nI i)), (1, .ref q), (0, .ref h0)] → W p l e R s m args below meth c H locs cells slots Q (F0 m 25 ls []) := by
  intro n
  induction n with
  | zero => intro k H locs ls h1 h2; omega
  | succ n ih =>
    intro k H locs ls hk hn hP hD hS hl
    have ha2 : g (nI i).toNatClampNeg = some a := by rw [nI_clamp (by omega)]; exact ha
    have hb2 : g1 (nI i).toNatClampNeg = some b := by rw [nI_clamp (by omega)]; exact hb1
    have hvi : vp_in (nI i) 26 := vp_in_nI hi (by decide)
    obtain ⟨ka, hka⟩ := PL_get (cy := cy) (X := [(h0, gg cy g), (q, gg cy g1)]) haL
    obtain ⟨kb, hkb⟩ := PL_get (cy := cy) (X := [(h0, gg cy g), (q, gg cy g1)]) hbL
    refine lv_iload_n hx hb dX10_copyOf_25 rfl (lv_at hl 0 rfl) ?_
    refine lv_aload_n hx hb dX10_copyOf_26 rfl (lv_at hl 3 rfl) ?_
    refine lv_iload_n hx hb dX10_copyOf_27 rfl (lv_at hl 1 rfl) ?_
    refine yr_ald hx hb hK hP 0 rfl hvi ha2 dX10_copyOf_28 ?_
    refine va_alen hx hb hK.1 hP ka 0 hka rfl (v := 128) (by decide) dX10_copyOf_29 ?_
    refine lv_icmp_ge (tgt := 49) hx hb dX10_copyOf_30 (by decide) (fun cq => ?_) (fun cq => ?_)
    · have cq : (128 : Int) ≤ (k : Int) := i_le cq rfl (nI_toInt (by omega))
      have hk2 : k = 128 := by omega
      subst hk2
      exact kend H locs ls hP hD hS hl
    · have cq : ¬ (128 : Int) ≤ (k : Int) := i_nle cq rfl (nI_toInt (by omega))
      have hlt : k < 128 := by omega
      have hvk : vp_in (nI k) 128 := vp_in_nI hlt (by decide)
      refine lv_aload_n hx hb dX10_copyOf_33 rfl (lv_at hl 2 rfl) ?_
      refine lv_iload_n hx hb dX10_copyOf_34 rfl (lv_at hl 1 rfl) ?_
      refine yr_ald hx hb hK hP 1 rfl hvi hb2 dX10_copyOf_35 ?_
      refine lv_iload_n hx hb dX10_copyOf_36 rfl (lv_at hl 0 rfl) ?_
      refine lv_aload_n hx hb dX10_copyOf_37 rfl (lv_at hl 3 rfl) ?_
      refine lv_iload_n hx hb dX10_copyOf_38 rfl (lv_at hl 1 rfl) ?_
      refine yr_ald hx hb hK hP 0 rfl hvi ha2 dX10_copyOf_39 ?_
      refine lv_iload_n hx hb dX10_copyOf_40 rfl (lv_at hl 0 rfl) ?_
      refine va_iald hx hb hK.1 hP ka 0 hka rfl hvk dX10_copyOf_41 ?_
      refine lz_i 0 rfl ?_
      refine va_iast hx hb hK.1 hP hD hS kb 0 hkb rfl hvk dX10_copyOf_42 (fun H locs hP hD hS => ?_)
      rw [upd_zero, set_same hkb] at hP hD
      refine lv_iinc (v := nI (k + 1)) (lv' := [(3, .int (nI (k + 1))), (2, .int (nI i)), (1, .ref q), (0, .ref h0)]) hx hb dX10_copyOf_43 hl (k := 0) rfl (nI_succ k).symm (by decide) rfl (fun ls hl => ?_)
      refine lv_goto (tgt := 25) hx hb dX10_copyOf_46 (by decide) ?_
      exact ih (k + 1) H locs ls (by omega) (by omega) hP hD hS hl
set_option maxHeartbeats 4000000 in
set_option maxRecDepth 100000 in
theorem co_outer {p : Program} {l : Launch} {e : Env} {R : Room} {s : State} {m : MethodId} {args : Array Value} {below : List Frame} {meth : Method} {c : Code} {Q : State → Prop} {D : va_G} {cy : Nat → ClassId} {A : Nat → Prop} (hx : p.tables.exec = Jvm.exec) (hb : c.code = cX10_copyOf) (harr : (Cond.arrayClass .int).before args s = true) (hK : KK D cy s) (hA : ∀ q : Nat, s.heap.size ≤ q → A q) (hRc : 27 ≤ R.cells) (hRs : 3354 ≤ R.slots) {h0 q : Nat} {g : Nat → Option Nat} {L : List Nat} (hg : okG g L 26)
    (kend : ∀ (L1 : List Nat) (g1 : Nat → Option Nat) (H : Heap) (locs : List Loc) (ls : Array Slot), okG g1 L1 26 → (∀ x, x ∈ L → x ∈ L1) → va_P D classes ([(h0, gg cy g), (q, gg cy g1)] ++ PL cy L1) H → va_D A ([(h0, gg cy g), (q, gg cy g1)] ++ PL cy L1) → va_S A s.heap H locs → lv_has ls 4 [(2, .int (nI 26)), (1, .ref q), (0, .ref h0)] → W p l e R s m args below meth c H locs 27 3354 Q (F0 m 55 ls [])) :
    ∀ (n i : Nat) (L1 : List Nat) (g1 : Nat → Option Nat) (H : Heap) (locs : List Loc) (ls : Array Slot), i ≤ 26 → 26 - i < n → okG g1 L1 i → (∀ x, x ∈ L → x ∈ L1) → va_P D classes ([(h0, gg cy g), (q, gg cy g1)] ++ PL cy L1) H → va_D A ([(h0, gg cy g), (q, gg cy g1)] ++ PL cy L1) → va_S A s.heap H locs → lv_has ls 4 [(2, .int (nI i)), (1, .ref q), (0, .ref h0)] → W p l e R s m args below meth c H locs (1 + i) (26 + 128 * i) Q (F0 m 8 ls []) := by
  intro n
  induction n with
  | zero => intro i L1 g1 H locs ls h1 h2; omega
  | succ n ih =>
    intro i L1 g1 H locs ls hi hn hok hsub hP hD hS hl
    refine lv_iload_n hx hb dX10_copyOf_8 rfl (lv_at hl 0 rfl) ?_
    refine lv_bipush (v := 26) hx hb dX10_copyOf_9 (by decide) ?_
    refine lv_icmp_ge (tgt := 55) hx hb dX10_copyOf_11 (by decide) (fun cq => ?_) (fun cq => ?_)
    · have cq : (26 : Int) ≤ (i : Int) := i_le cq rfl (nI_toInt (by omega))
      have hi2 : i = 26 := by omega
      subst hi2
      exact kend L1 g1 H locs ls hok hsub hP hD hS hl
    · have cq : ¬ (26 : Int) ≤ (i : Int) := i_nle cq rfl (nI_toInt (by omega))
      have hlt : i < 26 := by omega
      have hvi : vp_in (nI i) 26 := vp_in_nI hlt (by decide)
      obtain ⟨a, haL0, ha⟩ := hg i hlt
      have haL := hsub a haL0
      have ha2 : g (nI i).toNatClampNeg = some a := by rw [nI_clamp (by omega)]; exact ha
      obtain ⟨ka, hka⟩ := PL_get (cy := cy) (X := [(h0, gg cy g), (q, gg cy g1)]) haL
      refine lv_aload_n hx hb dX10_copyOf_14 rfl (lv_at hl 1 rfl) ?_
      refine lv_iload_n hx hb dX10_copyOf_15 rfl (lv_at hl 0 rfl) ?_
      refine lv_aload_n hx hb dX10_copyOf_16 rfl (lv_at hl 2 rfl) ?_
      refine lv_iload_n hx hb dX10_copyOf_17 rfl (lv_at hl 0 rfl) ?_
      refine yr_ald hx hb hK hP 0 rfl hvi ha2 dX10_copyOf_18 ?_
      refine va_alen hx hb hK.1 hP ka 0 hka rfl (v := 128) (by decide) dX10_copyOf_19 ?_
      refine va_newa (atype := .int) (a0 := (128, .inl (fun _ => 0))) hx hb harr rfl hK.1 hP hD hS hA (fun _ => rfl) (by decide) (by decide) (Nat.le_of_ble_eq_true rfl) (by omega) (by omega) dX10_copyOf_20 (fun b cA H hKn hP hD hS => ?_)
      obtain rfl : cA = cy 0 := k_same hK hKn 0 rfl
      rw [PL_push] at hP hD
      obtain ⟨kb, hkb⟩ := PL_get (cy := cy) (X := [(h0, gg cy g), (q, gg cy g1)]) (L := L1 ++ [b]) (a := b) (by simp)
      refine yr_ast hx hb hK hP hD hS 1 rfl kb hkb hvi dX10_copyOf_22 (fun H locs hP hD hS => ?_)
      rw [nI_clamp (by omega)] at hP hD
      have hP : va_P D classes ([(h0, gg cy g), (q, gg cy (va_up g1 i (some b)))] ++ PL cy (L1 ++ [b])) H := hP
      have hD : va_D A ([(h0, gg cy g), (q, gg cy (va_up g1 i (some b)))] ++ PL cy (L1 ++ [b])) := hD
      refine W.cs (cells' := 1 + (i + 1)) (slots' := 26 + 128 * (i + 1)) (by omega) (by omega) ?_
      refine lv_iconst (v := 0) hx hb dX10_copyOf_23 (by decide) ?_
      refine lv_istore_n (lv' := [(3, .int 0), (2, .int (nI i)), (1, .ref q), (0, .ref h0)]) hx hb dX10_copyOf_24 rfl hl (by decide) rfl (fun ls hl => ?_)
      refine co_inner hx hb hK hlt ha (List.mem_append_left _ haL) (b := b) (by simp [va_up]) (by simp) (fun H locs ls hP hD hS hl => ?_) 129 0 H locs ls (by omega) (by omega) hP hD hS (by rw [nI_0]; exact hl)
      refine lv_iinc (v := nI (i + 1)) (lv' := [(2, .int (nI (i + 1))), (3, .int (nI 128)), (1, .ref q), (0, .ref h0)]) hx hb dX10_copyOf_49 hl (k := 1) rfl (nI_succ i).symm (by decide) rfl (fun ls hl => ?_)
      refine lv_goto (tgt := 8) hx hb dX10_copyOf_52 (by decide) ?_
      exact ih (i + 1) (L1 ++ [b]) (va_up g1 i (some b)) H locs ls (by omega) (by omega) (okG_up hok) (fun x hx => List.mem_append_left _ (hsub x hx)) hP hD hS (lv_sub hl [0, 2, 3] rfl)
set_option maxHeartbeats 4000000 in
set_option maxRecDepth 100000 in
theorem c_copyOf (l : Launch) (D : va_G) (cy : Nat → ClassId) (h0 : Nat) (L : List Nat) (g : Nat → Option Nat) (hg : okG g L 26) (sz : Nat) : Met l yX10_copyOf (Cond.code yX10_copyOf cX10_copyOf 4 (some (.array (.array .int))) :: GT) ({ frames := 0, cells := 27, slots := 3354, locals := 0 }) (gN D cy ([(h0, gg cy g)] ++ PL cy L) [.ref h0] sz) (va_Qr (fun u : List Nat × (Nat → Option Nat) => okG u.2 u.1 26 ∧ (∀ x, x ∈ L → x ∈ u.1)) (fun u a t => va_P D classes ([(h0, gg cy g), (a, gg cy u.2)] ++ PL cy u.1) t.heap ∧ va_D (va_A ([(h0, gg cy g)] ++ PL cy L) sz) ([(h0, gg cy g), (a, gg cy u.2)] ++ PL cy u.1)) (va_A ([(h0, gg cy g)] ++ PL cy L) sz)) 27 3354 (va_A ([(h0, gg cy g)] ++ PL cy L) sz) := by
  refine Met.ofW (cc := cX10_copyOf) (maxL := 4) (ret := some (.array (.array .int))) (by decide) rfl ?_
  intro p e s m args below meth c s₁ B hml hv
  obtain ⟨rfl, hsz, hP, hK, hD0⟩ := hv
  have hx := B.exec
  have hb := B.bytes
  have hr := B.returns
  have hts := atoms_spec (ws := (Cond.code yX10_copyOf cX10_copyOf 4 (some (.array (.array .int))) :: GT)) B.pre
  have ht : ∀ w ∈ GT, w.before _ s = true := fun w h => hts w (List.mem_cons_of_mem _ h)
  have hown : s.vm.findClass RX10 = some m.cls := findClass_of_methodNamed B.named
  have hlocks := B.notSynchronized
  subst hsz
  have hD := hD0.self (sz := s.heap.size)
  generalize hAe : va_A ([(h0, gg cy g)] ++ PL cy L) s.heap.size = A at hD ⊢
  have hA : ∀ q : Nat, s.heap.size ≤ q → A q := fun q h => by rw [← hAe]; exact Or.inr h
  have hS : va_S A s.heap s.heap [] := va_S.rf
  have hl := lv_entry ([.ref h0]) (n := 4) (Nat.le_of_ble_eq_true rfl)
  rw [lg_entry_eq]
  generalize (lg_sl ([.ref h0]) ++ List.replicate (4 - (lg_sl ([.ref h0])).length) Slot.unset).toArray = ls at hl ⊢
  have hl : lv_has ls 4 [(0, .ref h0)] := hl
  refine lv_bipush (v := 26) hx hb dX10_copyOf_0 (by decide) ?_
  refine yr_new (N' := 26) hx hb hown (ht _ kt_1183) hK hP hD hS hA (by decide) (by decide) (Nat.le_of_ble_eq_true rfl) (Nat.le_of_ble_eq_true rfl) (Nat.le_of_ble_eq_true rfl) dX10_copyOf_2 (fun q H hP hD hS => ?_)
  have hP := va_P.swap hP
  have hD := va_D.swap hD
  have hP : va_P D classes ([(h0, gg cy g), (q, gg cy (fun _ => none))] ++ PL cy L) H := hP
  have hD : va_D A ([(h0, gg cy g), (q, gg cy (fun _ => none))] ++ PL cy L) := hD
  refine lv_astore_n (lv' := [(1, .ref q), (0, .ref h0)]) hx hb dX10_copyOf_5 rfl hl (by decide) rfl (fun ls hl => ?_)
  refine lv_iconst (v := 0) hx hb dX10_copyOf_6 (by decide) ?_
  refine lv_istore_n (lv' := [(2, .int 0), (1, .ref q), (0, .ref h0)]) hx hb dX10_copyOf_7 rfl hl (by decide) rfl (fun ls hl => ?_)
  refine W.cs (cells' := 1 + 0) (slots' := 26 + 128 * 0) rfl rfl ?_
  refine co_outer hx hb (ht _ kt_80) hK hA (Nat.le_refl 27) (Nat.le_refl 3354) hg (fun L1 g1 H locs ls hok hsub hP hD hS hl => ?_) 27 0 L (fun _ => none) H _ ls (by omega) (by omega) (fun i hi => absurd hi (Nat.not_lt_zero i)) (fun x hx => hx) hP hD hS (by rw [nI_0]; exact hl)
  refine lv_aload_n hx hb dX10_copyOf_55 rfl (lv_at hl 1 rfl) ?_
  exact W.aret (v := .ref q) hx hb hr (Or.inr ⟨_, rfl⟩) (Or.inr ⟨_, rfl⟩) (fun t ht2 hW => ⟨⟨(L1, g1), q, rfl, ⟨hok, hsub⟩, by rw [ht2]; exact hP, hD⟩, hS.F ht2⟩) hS.2.2 dX10_copyOf_56
