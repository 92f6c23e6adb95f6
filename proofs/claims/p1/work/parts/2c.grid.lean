abbrev gg (cy : Nat → ClassId) (g : Nat → Option Nat) : va_E := .inl (cy 5, 26, .inr (.inr (.inr (.inr g))))
abbrev zr (cy : Nat → ClassId) : va_E := .inl (cy 0, 128, .inl (fun _ => 0))
/-- the pooled rows: int[128], all 0 -/
def PL (cy : Nat → ClassId) (L : List Nat) : va_W := va_pl L (fun _ => zr cy)
/-- the first n places of an outer array hold pooled rows -/
def okG (g : Nat → Option Nat) (L : List Nat) (n : Nat) : Prop := ∀ i, i < n → ∃ a, a ∈ L ∧ g i = some a
theorem PL_get {cy : Nat → ClassId} {X : va_W} {L : List Nat} {a : Nat} (h : a ∈ L) : ∃ k : Nat, (X ++ PL cy L)[k]? = some (a, zr cy) := va_pl_get h
theorem PL_push {cy : Nat → ClassId} {X : va_W} {L : List Nat} {q : Nat} : (X ++ PL cy L) ++ [(q, zr cy)] = X ++ PL cy (L ++ [q]) := by simp [PL, va_pl]
theorem set_same {ws : va_W} {k : Nat} {x : Nat × va_E} (h : ws[k]? = some x) : ws.set k x = ws := by
  apply List.ext_getElem?
  intro i
  rw [List.getElem?_set]
  have hk : k < ws.length := (List.getElem?_eq_some_iff.mp h).1
  by_cases e : k = i
  · subst e; simp [hk]; exact ((List.getElem?_eq_some_iff.mp h).2).symm
  · simp [e]
theorem okG_up {g : Nat → Option Nat} {L : List Nat} {i b : Nat} (h : okG g L i) : okG (va_up g i (some b)) (L ++ [b]) (i + 1) := by
  intro j hj
  by_cases e : j = i
  · subst e
    exact ⟨b, by simp, by simp [va_up]⟩
  · obtain ⟨a, h1, h2⟩ := h j (by omega)
    exact ⟨a, List.mem_append_left _ h1, by simp [va_up, e]; exact h2⟩
theorem okG_in {g : Nat → Option Nat} {L : List Nat} {n i b : Nat} (h : okG g L n) (hb : b ∈ L) : okG (va_up g i (some b)) L n := by
  intro j hj
  by_cases e : j = i
  · subst e
    exact ⟨b, hb, by simp [va_up]⟩
  · obtain ⟨a, h1, h2⟩ := h j hj
    exact ⟨a, h1, by simp [va_up, e]; exact h2⟩
theorem okG_mono {g : Nat → Option Nat} {L L' : List Nat} {n : Nat} (h : okG g L n) (hs : ∀ x, x ∈ L → x ∈ L') : okG g L' n := fun i hi => by
  obtain ⟨a, h1, h2⟩ := h i hi
  exact ⟨a, hs a h1, h2⟩
section GR
variable {p : Program} {l : Launch} {e : Env} {R : Room} {s : State} {m : MethodId} {args : Array Value} {below : List Frame} {meth : Method} {c : Code} {H H0 : Heap} {locs : List Loc} {cells slots : Nat} {Q : State → Prop} {pc : Nat} {ls : Array Slot} {rest : List Value} {cc : ByteArray} {D : va_G} {cy : Nat → ClassId} {A : Nat → Prop} {ws : va_W} {a : Nat}
/-- aaload out of an array of int[]s -/
theorem yr_ald (hexec : p.tables.exec = Jvm.exec) (hb : c.code = cc) (hK : KK D cy s) (hP : va_P D classes ws H) (q0 : Nat) {n : Nat} {f : Nat → Option Nat} (ha : ws[q0]? = some (a, .inl (cy 5, n, .inr (.inr (.inr (.inr f)))))) {i : Int32} (hin : vp_in i n) {v : Nat} (hf : f i.toNatClampNeg = some v) (hdg : decode cc pc = .ok (.aaload, 1))
    (kk : W p l e R s m args below meth c H locs cells slots Q (F0 m (pc + 1) ls (.ref v :: rest))) : W p l e R s m args below meth c H locs cells slots Q (F0 m pc ls (.int i :: .ref a :: rest)) := by
  have hlt : i.toNatClampNeg < n := Nat.not_le.mp fun q => hin (Or.inr q)
  refine W.aald (v := .ref v) (ty := .array .int) hexec hb (hP q0 _ ha) ((hK.1.2 5 (cy 5, .array .int) rfl).1 n (fun j => va_rf (f j))) rfl (fun q => by cases q) ?_ ?_ rfl rfl hdg kk
  · show ¬ (i < 0 ∨ (arrV _ _ _).slots.size ≤ _)
    rw [arrV_size]
    exact hin
  · show (arrV _ _ _).slots[_]? = _
    rw [arrV_read _ _ hlt, hf]
    rfl
theorem same_cls (vm : Vm) (k : ClassId) : vm.assignable k k = true := by first | exact Vm.assignable_self vm k | (show vm.assignableAux (255 + 1) k k = true; unfold Vm.assignableAux; simp)
/-- aastore of an int[] into an array of int[]s -/
theorem yr_ast (hexec : p.tables.exec = Jvm.exec) (hb : c.code = cc) (hK : KK D cy s) (hP : va_P D classes ws H) (hD : va_D A ws) (hS : va_S A H0 H locs) (q0 : Nat) {n v nv : Nat} {f : Nat → Option Nat} {fv : Nat → Int32} (ha : ws[q0]? = some (a, .inl (cy 5, n, .inr (.inr (.inr (.inr f)))))) (qk : Nat) (hv : ws[qk]? = some (v, .inl (cy 0, nv, .inl fv))) {i : Int32} (hin : vp_in i n) (hdg : decode cc pc = .ok (.aastore, 1))
    (kk : ∀ (H1 : Heap) (locs1 : List Loc), va_P D classes (ws.set q0 (a, .inl (cy 5, n, .inr (.inr (.inr (.inr (va_up f i.toNatClampNeg (some v)))))))) H1 → va_D A (ws.set q0 (a, .inl (cy 5, n, .inr (.inr (.inr (.inr (va_up f i.toNatClampNeg (some v)))))))) → va_S A H0 H1 locs1 → W p l e R s m args below meth c H1 locs1 cells slots Q (F0 m (pc + 1) ls rest)) : W p l e R s m args below meth c H locs cells slots Q (F0 m pc ls (.ref v :: .int i :: .ref a :: rest)) := by
  have hlt : i.toNatClampNeg < n := Nat.not_le.mp fun q => hin (Or.inr q)
  have h0 : ¬ i < 0 := fun q => hin (Or.inl q)
  obtain ⟨comp, cA, kA, h1, -, h3, h4, h5⟩ := arrayOverA_spec hK.2.2.2.2
  have e5 : cA = cy 5 := Option.some.inj (h5.symm.trans (hK.1.2 5 (cy 5, .array .int) rfl).2)
  have e0 : comp = cy 0 := Option.some.inj (h1.symm.trans (hK.1.2 0 (cy 0, .int) rfl).2)
  subst e5
  subst e0
  obtain ⟨-, k0, hk0, -⟩ := (hK.1.2 0 (cy 0, .int) rfl).1 0 (fun _ => .null)
  refine W.aast (k := kA) (kv := k0) (kcomp := k0) (comp := cy 0) (t := .array .int) hexec hb (hP q0 _ ha) (fun q h => by cases h) (fun h => by cases h) h3 h4 rfl hk0 ⟨h0, ?_⟩ (hP qk _ hv) (fun q h => by cases h) hk0 (same_cls _ _) rfl rfl hdg fun H1 e z oq => ?_
  · show _ < (arrV _ _ _).slots.size
    rw [arrV_size]
    exact hlt
  refine kk H1 _ (hP.set hD ha ?_ oq) (hD.set ha) (hS.put z oq (hD.2 q0 _ ha))
  show H1[a]? = some (vp_cell _ _)
  rw [e, vp_cell_q, vp_cell_q, arrV_store]
  congr 2
  funext q
  by_cases hq : q = i.toNatClampNeg
  · subst hq
    simp [updV, va_up, va_rf]
  · simp [updV, va_up, hq]
/-- anewarray of int[] -/
theorem yr_new (hexec : p.tables.exec = Jvm.exec) (hb : c.code = cc) {own : String} {index : Nat} (hown : s.vm.findClass own = some m.cls) (hclink : (Cond.classLink own index "[I").before args s = true) (hK : KK D cy s) (hP : va_P D classes ws H) (hD : va_D A ws) (hS : va_S A H0 H locs) (hA : ∀ q, H0.size ≤ q → A q)
    {n : Int32} {N' : Nat} (hn : ¬ n < 0) (hN : n.toNatClampNeg = N') (hbytes : N' * 4 ≤ 536870912) (hcells : cells + 1 ≤ R.cells) (hslots : slots + N' ≤ R.slots) (hdg : decode cc pc = .ok (.anewarray index, 3))
    (kk : ∀ (q : Nat) (H1 : Heap), va_P D classes (ws ++ [(q, .inl (cy 5, N', .inr (.inr (.inr (.inr (fun _ => none))))))]) H1 → va_D A (ws ++ [(q, .inl (cy 5, N', .inr (.inr (.inr (.inr (fun _ => none))))))]) → va_S A H0 H1 locs →
      W p l e R s m args below meth c H1 locs (cells + 1) (slots + N') Q (F0 m (pc + 3) ls (.ref q :: rest))) : W p l e R s m args below meth c H locs cells slots Q (F0 m pc ls (.int n :: rest)) := by
  subst hN
  refine W.anewA (t := .int) hexec hb hown hclink (over_moved (Vm.Alike.refl s.vm) hK.2.2.2.2) rfl hdg rfl hn hbytes hcells hslots fun cA kA comp f1 f2 f3 f4 => ?_
  have e5 : cA = cy 5 := Option.some.inj (f1.symm.trans (hK.1.2 5 (cy 5, .array .int) rfl).2)
  subst e5
  generalize hH1 : H.push ({ cls := cy 5, slots := Array.replicate n.toNatClampNeg .null, vm := .none } : Cell) = H1
  have z1 : H1.size = H.size + 1 := by rw [← hH1, Array.size_push]
  have e1 : H1[H.size]? = some (arrV (cy 5) n.toNatClampNeg (fun _ => .null)) := by rw [← hH1, Array.getElem?_push_size, ← arrV_new]
  have o1 : ∀ q : Nat, q < H.size → H1[q]? = H[q]? := fun q hq => by rw [← hH1, Array.getElem?_push, if_neg (Nat.ne_of_lt hq)]
  have hk : ∀ (k : Nat) (x : Nat × va_E), ws[k]? = some x → H1[x.1]? = H[x.1]? := fun k x hx => o1 x.1 ((hP k x hx).lt)
  refine kk H.size H1 ((hP.kept hk).app (fun k x hx => ?_)) (hD.push hP rfl (hA _ hS.1)) ⟨Nat.le_trans hS.1 (by omega), fun x h1 h2 => (o1 x (Nat.lt_of_lt_of_le h1 hS.1)).trans (hS.2.1 x h1 h2), hS.2.2⟩
  have hz : k < 1 := (List.getElem?_eq_some_iff.mp hx).1
  rw [show k = 0 by omega] at hx
  cases hx
  show H1[H.size]? = some (vp_cell _ _)
  rw [vp_cell_q]
  exact e1
end GR
