abbrev classes : List vw_C := [(RX1, TX1, 2), (RX2, TX2, 3), (RX3, TX3, 12), (RX4, TX4, 10), (RX5, TX5, 15), (RX6, TX6, 2), (RX7, TX7, 2), (RX8, TX8, 4), (RX9, TX9, 3), (RX10, TX10, 17)]
def isNest : Cond → Bool
  | .fieldLinkNest .. => true
  | .methodLinkNest .. => true
  | _ => false
def GT : List Cond := lw_tbl.filter goodWord
def NT : List Cond := lw_tbl.filter isNest
def TY (cy : Nat → ClassId) : List (ClassId × FieldType) := [(cy 0, .int), (cy 1, .long), (cy 2, .byte), (cy 3, .object RX4), (cy 4, .object RX3), (cy 5, .array .int)]
def oAI (U : State) : Prop := (Cond.arrayOver (.array .int)).before #[] U = true
/-- what all methods know of the classes, the array classes, the nest words -/
def KK (D : va_G) (cy : Nat → ClassId) (U : State) : Prop := va_K D classes (TY cy) U ∧ (∀ w ∈ NT, va_Nw w U) ∧ va_AO RX4 U ∧ va_AO RX3 U ∧ oAI U
theorem KK.warm {D : va_G} {cy : Nat → ClassId} {s U : State} (hW : s.WarmedH U.vm) (h : KK D cy s) : KK D cy U := by
  obtain ⟨h1, h2, h3, h4, h5⟩ := h
  refine ⟨va_K.moved hW.alike h1, fun w hw => ?_, h3.moved hW.alike, h4.moved hW.alike, over_moved hW.alike h5⟩
  have hn : isNest w = true := (List.mem_filter.mp hw).2
  have h0 := h2 w hw
  cases w <;> first | exact va_Nw.warmF hW h0 | exact va_Nw.warmM hW h0 | exact absurd hn (by simp [isNest])
theorem KK.call {D : va_G} {cy : Nat → ClassId} {U : State} {g : JFrame} {mk : MethodId} {a : Array Value} (h : KK D cy U) : KK D cy (U.calling g mk a) := by
  obtain ⟨h1, h2, h3, h4, h5⟩ := h
  refine ⟨va_K.moved (u := U) (U := U.calling g mk a) (Vm.Alike.refl U.vm) h1, fun w hw => ?_, va_AO.moved (u := U) (U := U.calling g mk a) (Vm.Alike.refl U.vm) h3, va_AO.moved (u := U) (U := U.calling g mk a) (Vm.Alike.refl U.vm) h4, over_moved (u := U) (E := U.calling g mk a) (Vm.Alike.refl U.vm) h5⟩
  have hn : isNest w = true := (List.mem_filter.mp hw).2
  have h0 := h2 w hw
  cases w <;> first | exact va_Nw.same rfl (u := U) (U := U.calling g mk a) rfl h0 | exact absurd hn (by simp [isNest])
/-- a start that only reads -/
def gP (D : va_G) (cy : Nat → ClassId) (W : va_W) (av : List Value) : Array Value → State → Prop := va_Pc av (fun U => va_P D classes W U.heap ∧ KK D cy U)
/-- a start that writes -/
def gN (D : va_G) (cy : Nat → ClassId) (W : va_W) (av : List Value) (sz : Nat) : Array Value → State → Prop := va_Pc av (fun U => U.heap.size = sz ∧ va_P D classes W U.heap ∧ KK D cy U ∧ va_D (fun _ => True) W)
theorem gP_blind {D : va_G} {cy : Nat → ClassId} {W : va_W} {av : List Value} : FrameBlind (gP D cy W av) := fun _ _ _ _ h => ⟨h.1, h.2.1, h.2.2.call⟩
theorem gN_blind {D : va_G} {cy : Nat → ClassId} {W : va_W} {av : List Value} {sz : Nat} : FrameBlind (gN D cy W av sz) := fun _ _ _ _ h => ⟨h.1, h.2.1, h.2.2.1, h.2.2.2.1.call, h.2.2.2.2⟩
theorem gP_S {D : va_G} {cy : Nat → ClassId} {W : va_W} {av : List Value} {s : State} {H : Heap} (hK : KK D cy s) (hP : va_P D classes W H) : PreS s H (gP D cy W av) av := ⟨gP_blind, fun _ hU hW => ⟨rfl, by rw [hU]; exact hP, hK.warm hW⟩⟩
theorem gN_S {D : va_G} {cy : Nat → ClassId} {W : va_W} {av : List Value} {s : State} {H : Heap} {A : Nat → Prop} (hK : KK D cy s) (hP : va_P D classes W H) (hD : va_D A W) : PreS s H (gN D cy W av H.size) av := ⟨gN_blind, fun _ hU hW => ⟨rfl, by rw [hU], by rw [hU]; exact hP, hK.warm hW, hD.weaken (fun _ _ _ _ => trivial)⟩⟩
theorem gP_V {D : va_G} {cy : Nat → ClassId} {W W0 : va_W} {As : List Value} {s : State} {H : Heap} {b q0 ci : Nat} {r : vw_C} {fs : List Value} (hK : KK D cy s) (hP : va_P D classes W H) (hP0 : va_P D classes W0 H) (hc : classes[ci]? = some r) (he : W0[q0]? = some (b, .inr (ci, fs))) : PreV s H r.1 b (gP D cy W (.ref b :: As)) As := ⟨gP_blind, va_recv hK.1 hP0 hc he, (gP_S hK hP).2⟩
theorem gN_V {D : va_G} {cy : Nat → ClassId} {W W0 : va_W} {As : List Value} {s : State} {H : Heap} {b q0 ci : Nat} {r : vw_C} {fs : List Value} {A : Nat → Prop} (hK : KK D cy s) (hP : va_P D classes W H) (hD : va_D A W) (hP0 : va_P D classes W0 H) (hc : classes[ci]? = some r) (he : W0[q0]? = some (b, .inr (ci, fs))) : PreV s H r.1 b (gN D cy W (.ref b :: As) H.size) As := ⟨gN_blind, va_recv hK.1 hP0 hc he, (gN_S hK hP hD).2⟩
theorem gt_good {w : Cond} (h : w ∈ GT) : (w.onTables && w.keeps) = true ∨ ∃ ty, w = .arrayClass ty := good_of_word (List.mem_filter.mp h).2
theorem gt_c {c : Cond} {w : Cond} (h : w ∈ GT) : w ∈ c :: GT := List.mem_cons_of_mem _ h
theorem gt_G {c d : Cond} (h : d ∈ GT) : GoodIn (c :: GT) (d :: GT) := fun w hw => (List.mem_cons.mp hw).elim (fun e => by rw [e]; exact ⟨gt_c h, gt_good h⟩) (fun q => ⟨gt_c q, gt_good q⟩)
theorem gt_GL {d : Cond} (h : d ∈ GT) : GoodIn lw_tbl (d :: GT) := fun w hw => (List.mem_cons.mp hw).elim (fun e => by rw [e]; exact ⟨(List.mem_filter.mp h).1, gt_good h⟩) (fun q => ⟨(List.mem_filter.mp q).1, gt_good q⟩)
theorem gt_V {c d : Cond} {own C : String} {idx : Nat} {y : MethodName} (h1 : .methodLink own idx y ∈ GT) (h2 : .instanceMethod y ∈ GT) (h3 : .selects C y y ∈ GT) (h4 : .initialized C ∈ GT) (h : d ∈ GT) : GoodIn (c :: GT) (wsV own idx C y (d :: GT)) := by
  intro w hw
  rcases List.mem_append.mp hw with q | q
  · have hg : w ∈ GT := by
      rcases List.mem_cons.mp q with rfl | q
      · exact h1
      rcases List.mem_cons.mp q with rfl | q
      · exact h2
      rcases List.mem_cons.mp q with rfl | q
      · exact h3
      rcases List.mem_cons.mp q with rfl | q
      · exact h4
      cases q
    exact ⟨gt_c hg, gt_good hg⟩
  · exact gt_G h w q
theorem gt_VL {d : Cond} {own C : String} {idx : Nat} {y : MethodName} (h1 : .methodLink own idx y ∈ GT) (h2 : .instanceMethod y ∈ GT) (h3 : .selects C y y ∈ GT) (h4 : .initialized C ∈ GT) (h : d ∈ GT) : GoodIn lw_tbl (wsV own idx C y (d :: GT)) := by
  intro w hw
  have hg := gt_V (c := d) h1 h2 h3 h4 h w hw
  refine ⟨?_, hg.2⟩
  rcases List.mem_cons.mp hg.1 with q | q
  · rw [q]; exact (List.mem_filter.mp h).1
  · exact (List.mem_filter.mp q).1
theorem gt_S {c d : Cond} {own : String} {idx : Nat} {y : MethodName} (h1 : .methodLink own idx y ∈ GT) (h2 : .static y ∈ GT) (h4 : .initialized y.cls ∈ GT) (h : d ∈ GT) : GoodIn (c :: GT) (va_wsS own idx y (d :: GT)) := by
  intro w hw
  rcases List.mem_append.mp hw with q | q
  · have hg : w ∈ GT := by
      rcases List.mem_cons.mp q with rfl | q
      · exact h1
      rcases List.mem_cons.mp q with rfl | q
      · exact h2
      rcases List.mem_cons.mp q with rfl | q
      · exact h4
      cases q
    exact ⟨gt_c hg, gt_good hg⟩
  · exact gt_G h w q
-- numbers: a comparison of ints, told of their integers
theorem i_lt {x y : Int32} {a b : Int} (h : x < y) (hx : x.toInt = a) (hy : y.toInt = b) : a < b := by rw [← hx, ← hy]; exact Int32.lt_iff_toInt_lt.mp h
theorem i_nlt {x y : Int32} {a b : Int} (h : ¬ x < y) (hx : x.toInt = a) (hy : y.toInt = b) : ¬ a < b := by rw [← hx, ← hy]; exact fun q => h (Int32.lt_iff_toInt_lt.mpr q)
theorem i_le {x y : Int32} {a b : Int} (h : x ≤ y) (hx : x.toInt = a) (hy : y.toInt = b) : a ≤ b := by rw [← hx, ← hy]; exact Int32.le_iff_toInt_le.mp h
theorem i_nle {x y : Int32} {a b : Int} (h : ¬ x ≤ y) (hx : x.toInt = a) (hy : y.toInt = b) : ¬ a ≤ b := by rw [← hx, ← hy]; exact fun q => h (Int32.le_iff_toInt_le.mpr q)
theorem i_eq {x y : Int32} {a b : Int} (h : x = y) (hx : x.toInt = a) (hy : y.toInt = b) : a = b := by rw [← hx, ← hy, h]
theorem i_ne {x y : Int32} {a b : Int} (h : ¬ x = y) (hx : x.toInt = a) (hy : y.toInt = b) : ¬ a = b := by rw [← hx, ← hy]; exact fun q => h (Int32.toInt_inj.mp q)
theorem k_same {D : va_G} {cy : Nat → ClassId} {s : State} {cA : ClassId} {ty : FieldType} (hK : KK D cy s) (h : va_K D classes (TY cy ++ [(cA, ty)]) s) (t0 : Nat) {cB : ClassId} (ht : (TY cy)[t0]? = some (cB, ty)) : cA = cB := by
  have h1 := (hK.1.2 t0 _ ht).2
  have h2 := (h.2 (TY cy).length (cA, ty) (by simp)).2
  cases ty with
  | object C =>
    obtain ⟨_, _, _, _, _, e1⟩ := h1
    obtain ⟨_, _, _, _, _, e2⟩ := h2
    exact Option.some.inj (e2.symm.trans e1)
  | _ => exact Option.some.inj (h2.symm.trans h1)
