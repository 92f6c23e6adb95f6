/-! THE CLAIM OUT OF ONE WALK OF THE LAW'S BODY. Your part is whole_start (and what it stands on); all else here is the same for every law, but numbers. -/
def R_law : String := "AdaptiveQueryExecutorLaw"
def lw_P (b : Addr) (xs : List Int32) (args : Array Value) (s : State) : Prop := args = #[.ref b] ∧ s.IntsAt b xs ∧ xs.length ≤ 6 ∧ (Jvm.Cond.and given_1 narrow_1).before args s = true
def lw_Q (_ : Array Value) (s : State) (o : Outcome) (t : State) : Prop := o = .returned (some (.int 1)) ∧ Framed s o t [] 600000 7302250
def lw_Z (below : List Frame) (a : Array Value) (s : State) : State → Prop := fun t => ∃ o, t.status = .running ∧ Ended t below o ∧ lw_Q a s o t
/-- the law's own end, with 1 on the stack, nothing written that was there before, its room as the claim has it -/
theorem lw_ret {p : Program} {l : Launch} {e : Env} {s : State} {m : MethodId} {below : List Frame} {meth : Method} {c : Code} {b : Nat} (hx : p.tables.exec = Jvm.exec) (hb : c.code = code) (hr : meth.sig.returnType = ret) (hlocks : meth.locks = false) {pc : Nat} {H : Heap} {ls : Array Slot} (hdg : decode code pc = .ok (.ireturn, 1)) : W p l e room_1 s m #[Value.ref b] below meth c H [] 600000 7302250 (lw_Z below #[Value.ref b] s) (F0 m pc ls [.int 1]) := by
  intro T hT X
  obtain ⟨fs, hret, hrun, hended, hW, hframe⟩ := X.leave (v := some (.int 1)) (hlocks := hlocks) (fun h => by rw [hr] at h; cases h)
  have hmeth' : T.vm.method? m = some meth := X.method'
  refine ⟨T.setFrames fs, ?_, .returned (some (.int 1)), hrun, hended, rfl, ⟨_, rfl⟩, hW, hframe⟩
  jvm_step X.here [X.here.top, hx, hb, hdg, hmeth', hr, ret, narrow_b1]
  (try refine ⟨rfl, ?_⟩); (try refine ⟨rfl, ?_⟩)
  first | (intro acts; rw [hret _ acts rfl rfl rfl]) | rw [hret _ _ rfl rfl rfl]
  exact Steps.refl _
/-- what holds at the law's entry: the machine, the code, the tables' words (any of lw_tbl by 'hts w (by decide +kernel)'), the script of L ints xs at the cell b, what the Statement gives of the start (any of its parts by flat_of_before) -/
def lw_At (p : Program) (s : State) (m : MethodId) (meth : Method) (c : Code) (b L : Nat) (xs : Nat → Int32) : Prop :=
  p.tables.exec = Jvm.exec ∧ c.code = code ∧ meth.sig.returnType = ret ∧ c.maxLocals = 4 ∧ s.vm.findClass R_law = some m.cls ∧ (∀ w ∈ lw_tbl, w.before #[Value.ref b] s = true) ∧ va_X b L xs s s.heap ∧ b < s.heap.size ∧ meth.locks = false ∧ (Jvm.Cond.and given_1 narrow_1).before #[Value.ref b] s = true
def wLaw (cy : Nat → ClassId) (x a0 a1 a2 a3 a4 a5 a6 a7 a8 a9 a10 a11 a12 a13 a14 a15 a16 a17 a18 a19 a20 a21 a22 a23 a24 a25 a26 a27 a28 a29 a30 a31 a32 a33 a34 a35 a36 a37 a38 md mM mL mS mC mR mJ mA mD mT : Nat) (L : List Nat) (g : Nat → Option Nat) : va_W := [(x, .inr (8, [.ref a0, .null, .null])), (a0, .inr (4, [.ref a1, .int 0, .ref a14, .int 0, .ref a27, .ref a29, .ref a31, .ref a33, .ref a35, .ref a37, .int 0, .int 0, .int 0, .int 0, .int 0])), (a1, .inl (cy 3, 3, .inr (.inr (.inr (.inr (va_up (va_up (va_up (fun _ => none) 0 (some a2)) 1 (some a6)) 2 (some a10))))))), (a2, .inr (3, [.int 0, .int 8, .int 0, .int 0, .int 0, .int 0, .int 0, .ref a3, .ref a4, .ref a5])), (a3, .inl (cy 0, 16, .inl (fun _ => 0))), (a4, .inl (cy 0, 16, .inl (fun _ => 0))), (a5, .inl (cy 0, 48, .inl (fun _ => 0))), (a6, .inr (3, [.int 0, .int 8, .int 0, .int 0, .int 0, .int 0, .int 0, .ref a7, .ref a8, .ref a9])), (a7, .inl (cy 0, 16, .inl (fun _ => 0))), (a8, .inl (cy 0, 16, .inl (fun _ => 0))), (a9, .inl (cy 0, 48, .inl (fun _ => 0))), (a10, .inr (3, [.int 0, .int 8, .int 0, .int 0, .int 0, .int 0, .int 0, .ref a11, .ref a12, .ref a13])), (a11, .inl (cy 0, 16, .inl (fun _ => 0))), (a12, .inl (cy 0, 16, .inl (fun _ => 0))), (a13, .inl (cy 0, 48, .inl (fun _ => 0))), (a14, .inl (cy 4, 12, .inr (.inr (.inr (.inr (va_up (va_up (va_up (va_up (va_up (va_up (va_up (va_up (va_up (va_up (va_up (va_up (fun _ => none) 0 (some a15)) 1 (some a16)) 2 (some a17)) 3 (some a18)) 4 (some a19)) 5 (some a20)) 6 (some a21)) 7 (some a22)) 8 (some a23)) 9 (some a24)) 10 (some a25)) 11 (some a26))))))), (a15, .inr (2, [.int 0, .int 0, .int 0, .int 0, .int 0, .int 0, .int 0, .int 0, .int 0, .int 0, .int 0, .int 0])), (a16, .inr (2, [.int 0, .int 0, .int 0, .int 0, .int 0, .int 0, .int 0, .int 0, .int 0, .int 0, .int 0, .int 0])), (a17, .inr (2, [.int 0, .int 0, .int 0, .int 0, .int 0, .int 0, .int 0, .int 0, .int 0, .int 0, .int 0, .int 0])), (a18, .inr (2, [.int 0, .int 0, .int 0, .int 0, .int 0, .int 0, .int 0, .int 0, .int 0, .int 0, .int 0, .int 0])), (a19, .inr (2, [.int 0, .int 0, .int 0, .int 0, .int 0, .int 0, .int 0, .int 0, .int 0, .int 0, .int 0, .int 0])), (a20, .inr (2, [.int 0, .int 0, .int 0, .int 0, .int 0, .int 0, .int 0, .int 0, .int 0, .int 0, .int 0, .int 0])), (a21, .inr (2, [.int 0, .int 0, .int 0, .int 0, .int 0, .int 0, .int 0, .int 0, .int 0, .int 0, .int 0, .int 0])), (a22, .inr (2, [.int 0, .int 0, .int 0, .int 0, .int 0, .int 0, .int 0, .int 0, .int 0, .int 0, .int 0, .int 0])), (a23, .inr (2, [.int 0, .int 0, .int 0, .int 0, .int 0, .int 0, .int 0, .int 0, .int 0, .int 0, .int 0, .int 0])), (a24, .inr (2, [.int 0, .int 0, .int 0, .int 0, .int 0, .int 0, .int 0, .int 0, .int 0, .int 0, .int 0, .int 0])), (a25, .inr (2, [.int 0, .int 0, .int 0, .int 0, .int 0, .int 0, .int 0, .int 0, .int 0, .int 0, .int 0, .int 0])), (a26, .inr (2, [.int 0, .int 0, .int 0, .int 0, .int 0, .int 0, .int 0, .int 0, .int 0, .int 0, .int 0, .int 0])), (a27, .inr (1, [.ref a28, .int 0, .int 0])), (a28, .inl (cy 1, 16, .inr (.inl (fun _ => 0)))), (a29, .inr (1, [.ref a30, .int 0, .int 0])), (a30, .inl (cy 1, 16, .inr (.inl (fun _ => 0)))), (a31, .inr (1, [.ref a32, .int 0, .int 0])), (a32, .inl (cy 1, 16, .inr (.inl (fun _ => 0)))), (a33, .inr (1, [.ref a34, .int 0, .int 0])), (a34, .inl (cy 1, 16, .inr (.inl (fun _ => 0)))), (a35, .inr (6, [.ref a36, .int 0])), (a36, .inl (cy 2, 40, .inl (fun _ => 0))), (a37, .inr (0, [.ref a38, .int 0])), (a38, .inl (cy 0, 32, .inl (fun _ => 0))), (md, .inr (9, [.ref mM, .ref mL, .ref mS, .null, .int 0, .ref mC, .int 0, .int 0, .int 0, .ref mR, .ref mJ, .ref mA, .int 0, .int 0, .int 0, .ref mD, .ref mT])), (mM, .inl (cy 0, 559, .inl (fun _ => 0))), (mL, .inl (cy 5, 26, .inr (.inr (.inr (.inr g))))), (mS, .inl (cy 0, 559, .inl (fun _ => 0))), (mC, .inl (cy 0, 8, .inl (fun _ => 0))), (mR, .inl (cy 0, 10, .inl (fun _ => 0))), (mJ, .inl (cy 0, 8, .inl (fun _ => 0))), (mA, .inl (cy 0, 8, .inl (fun _ => 0))), (mD, .inl (cy 0, 559, .inl (fun _ => 0))), (mT, .inl (cy 0, 3, .inl (fun _ => 0)))] ++ PL cy L
set_option maxHeartbeats 4000000 in
set_option maxRecDepth 100000 in
theorem law_K {s : State} {b : Nat} (hts : ∀ w ∈ lw_tbl, w.before #[Value.ref b] s = true) : ∃ (D : va_G) (cy : Nat → ClassId), KK D cy s := by
  have ht : ∀ w ∈ GT, w.before #[Value.ref b] s = true := fun w h => hts w (List.mem_filter.mp h).1
  obtain ⟨c0, iS0, hKn0⟩ := u_known (C := RX1) (T := TX1) (N := 2) (n := 2) ht j_X1 (ht _ kt_184)
  obtain ⟨c1, iS1, hKn1⟩ := u_known (C := RX2) (T := TX2) (N := 3) (n := 3) ht j_X2 (ht _ kt_149)
  obtain ⟨c2, iS2, hKn2⟩ := u_known (C := RX3) (T := TX3) (N := 12) (n := 12) ht j_X3 (ht _ kt_83)
  obtain ⟨c3, iS3, hKn3⟩ := u_known (C := RX4) (T := TX4) (N := 10) (n := 10) ht j_X4 (ht _ kt_31)
  obtain ⟨c4, iS4, hKn4⟩ := u_known (C := RX5) (T := TX5) (N := 15) (n := 15) ht j_X5 (ht _ kt_24)
  obtain ⟨c5, iS5, hKn5⟩ := u_known (C := RX6) (T := TX6) (N := 2) (n := 2) ht j_X6 (ht _ kt_726)
  obtain ⟨c6, iS6, hKn6⟩ := u_known (C := RX7) (T := TX7) (N := 2) (n := 2) ht j_X7 (ht _ kt_168)
  obtain ⟨c7, iS7, hKn7⟩ := u_known (C := RX8) (T := TX8) (N := 4) (n := 4) ht j_X8 (ht _ kt_387)
  obtain ⟨c8, iS8, hKn8⟩ := u_known (C := RX9) (T := TX9) (N := 3) (n := 3) ht j_X9 (ht _ kt_16)
  obtain ⟨c9, iS9, hKn9⟩ := u_known (C := RX10) (T := TX10) (N := 17) (n := 17) ht j_X10 (ht _ kt_842)
  obtain ⟨d0, kd0, co0, f0, g0, h0⟩ := Cond.arrayClass_spec (ht _ kt_80)
  obtain ⟨d1, kd1, co1, f1, g1, h1⟩ := Cond.arrayClass_spec (ht _ kt_166)
  obtain ⟨d2, kd2, co2, f2, g2, h2⟩ := Cond.arrayClass_spec (ht _ kt_182)
  have hAO : ∀ w ∈ lw_tbl, w.before #[Value.ref b] s = true := hts
  have hov3 : (Cond.arrayOver (.object RX4)).before #[Value.ref b] s = true := hts _ (List.mem_append_right _ (List.mem_of_getElem? (i := 30) (by decide +kernel)))
  have hov4 : (Cond.arrayOver (.object RX3)).before #[Value.ref b] s = true := hts _ (List.mem_append_right _ (List.mem_of_getElem? (i := 82) (by decide +kernel)))
  have hov5 : (Cond.arrayOver (.array .int)).before #[Value.ref b] s = true := hts _ (List.mem_append_right _ (List.mem_of_getElem? (i := 848) (by decide +kernel)))
  obtain ⟨co3, d3, kd3, e3, -, g3, h3, f3⟩ := Cond.arrayOver_spec hov3
  obtain ⟨co4, d4, kd4, e4, -, g4, h4, f4⟩ := Cond.arrayOver_spec hov4
  obtain ⟨co5, d5, kd5, e5, -, g5, h5, f5⟩ := arrayOverA_spec hov5
  refine ⟨(fun k => if k = 0 then c0 else if k = 1 then c1 else if k = 2 then c2 else if k = 3 then c3 else if k = 4 then c4 else if k = 5 then c5 else if k = 6 then c6 else if k = 7 then c7 else if k = 8 then c8 else c9, fun k => if k = 0 then iS0 else if k = 1 then iS1 else if k = 2 then iS2 else if k = 3 then iS3 else if k = 4 then iS4 else if k = 5 then iS5 else if k = 6 then iS6 else if k = 7 then iS7 else if k = 8 then iS8 else iS9), fun k => if k = 0 then d0 else if k = 1 then d1 else if k = 2 then d2 else if k = 3 then d3 else if k = 4 then d4 else d5, ⟨?_, ?_⟩, ?_, hov3, hov4, over_moved (Vm.Alike.refl s.vm) hov5⟩
  · intro k q hq
    match k, hq with
    | 0, hq => cases hq; exact hKn0
    | 1, hq => cases hq; exact hKn1
    | 2, hq => cases hq; exact hKn2
    | 3, hq => cases hq; exact hKn3
    | 4, hq => cases hq; exact hKn4
    | 5, hq => cases hq; exact hKn5
    | 6, hq => cases hq; exact hKn6
    | 7, hq => cases hq; exact hKn7
    | 8, hq => cases hq; exact hKn8
    | 9, hq => cases hq; exact hKn9
    | k + 10, hq => simp [classes] at hq
  · intro k q hq
    match k, hq with
    | 0, hq => cases hq; exact ⟨fun n z => ⟨(fun k h => by cases h), kd0, g0, co0, h0⟩, f0⟩
    | 1, hq => cases hq; exact ⟨fun n z => ⟨(fun k h => by cases h), kd1, g1, co1, h1⟩, f1⟩
    | 2, hq => cases hq; exact ⟨fun n z => ⟨(fun k h => by cases h), kd2, g2, co2, h2⟩, f2⟩
    | 3, hq => cases hq; exact ⟨fun n z => ⟨(fun k h => by cases h), kd3, g3, co3, h3⟩, kd3, co3, g3, h3, e3, f3⟩
    | 4, hq => cases hq; exact ⟨fun n z => ⟨(fun k h => by cases h), kd4, g4, co4, h4⟩, kd4, co4, g4, h4, e4, f4⟩
    | 5, hq => cases hq; exact ⟨fun n z => ⟨(fun k h => by cases h), kd5, g5, co5, h5⟩, f5⟩
    | k + 6, hq => simp [TY] at hq
  · intro w hw
    have hn : isNest w = true := (List.mem_filter.mp hw).2
    have h0 := hts w (List.mem_filter.mp hw).1
    cases w <;> first | exact va_Nw.of rfl h0 | exact absurd hn (by simp [isNest])
set_option maxHeartbeats 4000000 in
set_option maxRecDepth 100000 in
theorem law_out {p : Program} {l : Launch} {e : Env} {s : State} {m : MethodId} {below : List Frame} {meth : Method} {c : Code} {b : Nat} {A : Nat → Prop} {H : Heap} {locs : List Loc} {ls : Array Slot} {cells slots : Nat} (hx : p.tables.exec = Jvm.exec) (hb : c.code = code) (hr : meth.sig.returnType = ret) (hlocks : meth.locks = false) (hAf : ∀ q, A q → s.heap.size ≤ q) (hS : va_S A s.heap H locs) (hc : cells ≤ 600000) (hs : slots ≤ 7302250) : W p l e room_1 s m #[Value.ref b] below meth c H locs cells slots (lw_Z below #[Value.ref b] s) (F0 m 864 ls []) := by
  refine lv_iconst (v := 1) hx hb dL_law_864 (by decide) ?_
  refine va_forget (fun q hq => hAf _ (hS.2.2 q hq)) ?_
  refine W.widen hc hs ?_
  exact lw_ret hx hb hr hlocks dL_law_865
set_option maxHeartbeats 4000000 in
set_option maxRecDepth 100000 in
theorem law_end {p : Program} {l : Launch} {e : Env} {s : State} {m : MethodId} {below : List Frame} {meth : Method} {c : Code} {b : Nat} {xs : Nat → Int32} {A : Nat → Prop} {H : Heap} {locs : List Loc} {ls : Array Slot} {cells slots x md : Nat} (hx : p.tables.exec = Jvm.exec) (hb : c.code = code) (hr : meth.sig.returnType = ret) (hlocks : meth.locks = false) (hX : va_X b 6 xs s s.heap) (hbl : b < s.heap.size) (hbA : ¬ A b) (hAf : ∀ q, A q → s.heap.size ≤ q) (hS : va_S A s.heap H locs) (hl : lv_has ls 4 [(3, .int 0), (2, .ref md), (1, .ref x), (0, .ref b)]) (hc : cells ≤ 600000) (hs : slots ≤ 7302250) : W p l e room_1 s m #[Value.ref b] below meth c H locs cells slots (lw_Z below #[Value.ref b] s) (F0 m 858 ls []) := by
  refine lv_iinc (v := 6) (lv' := [(3, .int 6), (2, .ref md), (1, .ref x), (0, .ref b)]) hx hb dL_law_858 hl (k := 0) rfl (by decide) (by decide) rfl (fun ls hl => ?_)
  refine lv_goto (tgt := 18) hx hb dL_law_861 (by decide) ?_
  refine lv_iload_n hx hb dL_law_18 rfl (lv_at hl 0 rfl) ?_
  refine lv_aload_n hx hb dL_law_19 rfl (lv_at hl 3 rfl) ?_
  refine va_slen hx hb hX hbl hbA hS dL_law_20 ?_
  refine lv_bipush (v := 6) hx hb dL_law_21 (by decide) ?_
  refine lv_isub hx hb dL_law_23 ?_
  refine lz_i 0 (by decide) ?_
  refine lv_icmp_gt (tgt := 864) hx hb dL_law_24 (by decide) (fun _ => ?_) (fun cq => absurd cq (by decide))
  exact law_out hx hb hr hlocks hAf hS hc hs
