section LZ
variable {p : Program} {l : Launch} {e : Env} {R : Room} {s : State} {m : MethodId} {args : Array Value} {below : List Frame} {meth : Method} {c : Code} {H : Heap} {locs : List Loc} {cells slots : Nat} {Q : State → Prop} {pc : Nat} {ls : Array Slot} {rest : List Value}
theorem lz_i {x : Int32} (v : Int32) (h : x = v) (k : W p l e R s m args below meth c H locs cells slots Q (F0 m pc ls (.int v :: rest))) : W p l e R s m args below meth c H locs cells slots Q (F0 m pc ls (.int x :: rest)) := h ▸ k
theorem lz_l {x : Int64} (v : Int64) (h : x = v) (k : W p l e R s m args below meth c H locs cells slots Q (F0 m pc ls (.long v :: rest))) : W p l e R s m args below meth c H locs cells slots Q (F0 m pc ls (.long x :: rest)) := h ▸ k
theorem lz_v {x : Value} (v : Value) (h : x = v) (k : W p l e R s m args below meth c H locs cells slots Q (F0 m pc ls (v :: rest))) : W p l e R s m args below meth c H locs cells slots Q (F0 m pc ls (x :: rest)) := h ▸ k
end LZ
theorem vin {i : Int32} {n : Nat} (h : ¬ (i < 0 ∨ n ≤ i.toNatClampNeg)) : vp_in i n := h
theorem upd_zero {k : Nat} : upd (fun _ => (0 : Int32)) k 0 = fun _ => 0 := by funext j; unfold upd; split <;> rfl
theorem cpy_zero {a b n : Nat} : va_cpy (fun _ => (0 : Int32)) (fun _ => 0) a b n = fun _ => 0 := by funext j; unfold va_cpy; split <;> rfl
set_option maxRecDepth 20000 in
theorem j_X1 : ∀ w ∈ u_ws RX1 TX1 2, w ∈ GT := by decide +kernel
theorem i_X1 {c : Cond} : ∀ w ∈ u_ws RX1 TX1 2, w ∈ c :: GT := fun w h => List.mem_cons_of_mem _ (j_X1 w h)
theorem df_X1 : ∀ j, j < 2 → defaultValue (tyX1 j) = vp_V [.null, .int 0] j := fun j hj => by rcases (show j = 0 ∨ j = 1 by omega) with rfl | rfl <;> rfl
set_option maxRecDepth 20000 in
theorem j_X2 : ∀ w ∈ u_ws RX2 TX2 3, w ∈ GT := by decide +kernel
theorem i_X2 {c : Cond} : ∀ w ∈ u_ws RX2 TX2 3, w ∈ c :: GT := fun w h => List.mem_cons_of_mem _ (j_X2 w h)
theorem df_X2 : ∀ j, j < 3 → defaultValue (tyX2 j) = vp_V [.null, .int 0, .int 0] j := fun j hj => by rcases (show j = 0 ∨ j = 1 ∨ j = 2 by omega) with rfl | rfl | rfl <;> rfl
set_option maxRecDepth 20000 in
theorem j_X3 : ∀ w ∈ u_ws RX3 TX3 12, w ∈ GT := by decide +kernel
theorem i_X3 {c : Cond} : ∀ w ∈ u_ws RX3 TX3 12, w ∈ c :: GT := fun w h => List.mem_cons_of_mem _ (j_X3 w h)
theorem df_X3 : ∀ j, j < 12 → defaultValue (tyX3 j) = vp_V [.int 0, .int 0, .int 0, .int 0, .int 0, .int 0, .int 0, .int 0, .int 0, .int 0, .int 0, .int 0] j := fun j hj => by rcases (show j = 0 ∨ j = 1 ∨ j = 2 ∨ j = 3 ∨ j = 4 ∨ j = 5 ∨ j = 6 ∨ j = 7 ∨ j = 8 ∨ j = 9 ∨ j = 10 ∨ j = 11 by omega) with rfl | rfl | rfl | rfl | rfl | rfl | rfl | rfl | rfl | rfl | rfl | rfl <;> rfl
set_option maxRecDepth 20000 in
theorem j_X4 : ∀ w ∈ u_ws RX4 TX4 10, w ∈ GT := by decide +kernel
theorem i_X4 {c : Cond} : ∀ w ∈ u_ws RX4 TX4 10, w ∈ c :: GT := fun w h => List.mem_cons_of_mem _ (j_X4 w h)
theorem df_X4 : ∀ j, j < 10 → defaultValue (tyX4 j) = vp_V [.int 0, .int 0, .int 0, .int 0, .int 0, .int 0, .int 0, .null, .null, .null] j := fun j hj => by rcases (show j = 0 ∨ j = 1 ∨ j = 2 ∨ j = 3 ∨ j = 4 ∨ j = 5 ∨ j = 6 ∨ j = 7 ∨ j = 8 ∨ j = 9 by omega) with rfl | rfl | rfl | rfl | rfl | rfl | rfl | rfl | rfl | rfl <;> rfl
set_option maxRecDepth 20000 in
theorem j_X5 : ∀ w ∈ u_ws RX5 TX5 15, w ∈ GT := by decide +kernel
theorem i_X5 {c : Cond} : ∀ w ∈ u_ws RX5 TX5 15, w ∈ c :: GT := fun w h => List.mem_cons_of_mem _ (j_X5 w h)
theorem df_X5 : ∀ j, j < 15 → defaultValue (tyX5 j) = vp_V [.null, .int 0, .null, .int 0, .null, .null, .null, .null, .null, .null, .int 0, .int 0, .int 0, .int 0, .int 0] j := fun j hj => by rcases (show j = 0 ∨ j = 1 ∨ j = 2 ∨ j = 3 ∨ j = 4 ∨ j = 5 ∨ j = 6 ∨ j = 7 ∨ j = 8 ∨ j = 9 ∨ j = 10 ∨ j = 11 ∨ j = 12 ∨ j = 13 ∨ j = 14 by omega) with rfl | rfl | rfl | rfl | rfl | rfl | rfl | rfl | rfl | rfl | rfl | rfl | rfl | rfl | rfl <;> rfl
set_option maxRecDepth 20000 in
theorem j_X6 : ∀ w ∈ u_ws RX6 TX6 2, w ∈ GT := by decide +kernel
theorem i_X6 {c : Cond} : ∀ w ∈ u_ws RX6 TX6 2, w ∈ c :: GT := fun w h => List.mem_cons_of_mem _ (j_X6 w h)
theorem df_X6 : ∀ j, j < 2 → defaultValue (tyX6 j) = vp_V [.int 0, .int 0] j := fun j hj => by rcases (show j = 0 ∨ j = 1 by omega) with rfl | rfl <;> rfl
set_option maxRecDepth 20000 in
theorem j_X7 : ∀ w ∈ u_ws RX7 TX7 2, w ∈ GT := by decide +kernel
theorem i_X7 {c : Cond} : ∀ w ∈ u_ws RX7 TX7 2, w ∈ c :: GT := fun w h => List.mem_cons_of_mem _ (j_X7 w h)
theorem df_X7 : ∀ j, j < 2 → defaultValue (tyX7 j) = vp_V [.null, .int 0] j := fun j hj => by rcases (show j = 0 ∨ j = 1 by omega) with rfl | rfl <;> rfl
set_option maxRecDepth 20000 in
theorem j_X8 : ∀ w ∈ u_ws RX8 TX8 4, w ∈ GT := by decide +kernel
theorem i_X8 {c : Cond} : ∀ w ∈ u_ws RX8 TX8 4, w ∈ c :: GT := fun w h => List.mem_cons_of_mem _ (j_X8 w h)
theorem df_X8 : ∀ j, j < 4 → defaultValue (tyX8 j) = vp_V [.null, .null, .int 0, .int 0] j := fun j hj => by rcases (show j = 0 ∨ j = 1 ∨ j = 2 ∨ j = 3 by omega) with rfl | rfl | rfl | rfl <;> rfl
set_option maxRecDepth 20000 in
theorem j_X9 : ∀ w ∈ u_ws RX9 TX9 3, w ∈ GT := by decide +kernel
theorem i_X9 {c : Cond} : ∀ w ∈ u_ws RX9 TX9 3, w ∈ c :: GT := fun w h => List.mem_cons_of_mem _ (j_X9 w h)
theorem df_X9 : ∀ j, j < 3 → defaultValue (tyX9 j) = vp_V [.null, .null, .null] j := fun j hj => by rcases (show j = 0 ∨ j = 1 ∨ j = 2 by omega) with rfl | rfl | rfl <;> rfl
set_option maxRecDepth 20000 in
theorem j_X10 : ∀ w ∈ u_ws RX10 TX10 17, w ∈ GT := by decide +kernel
theorem i_X10 {c : Cond} : ∀ w ∈ u_ws RX10 TX10 17, w ∈ c :: GT := fun w h => List.mem_cons_of_mem _ (j_X10 w h)
theorem df_X10 : ∀ j, j < 17 → defaultValue (tyX10 j) = vp_V [.null, .null, .null, .null, .int 0, .null, .int 0, .int 0, .int 0, .null, .null, .null, .int 0, .int 0, .int 0, .null, .null] j := fun j hj => by rcases (show j = 0 ∨ j = 1 ∨ j = 2 ∨ j = 3 ∨ j = 4 ∨ j = 5 ∨ j = 6 ∨ j = 7 ∨ j = 8 ∨ j = 9 ∨ j = 10 ∨ j = 11 ∨ j = 12 ∨ j = 13 ∨ j = 14 ∨ j = 15 ∨ j = 16 by omega) with rfl | rfl | rfl | rfl | rfl | rfl | rfl | rfl | rfl | rfl | rfl | rfl | rfl | rfl | rfl | rfl | rfl <;> rfl
theorem kt_20 : (.methodLink RX9 3 ⟨"java/lang/Object", "<init>", "()V"⟩ : Cond) ∈ GT := List.mem_filter.mpr ⟨List.mem_append_right _ (List.mem_of_getElem? (i := 20) (by decide +kernel)), by decide +kernel⟩
theorem kt_21 : (.instanceMethod ⟨"java/lang/Object", "<init>", "()V"⟩ : Cond) ∈ GT := List.mem_filter.mpr ⟨List.mem_append_right _ (List.mem_of_getElem? (i := 21) (by decide +kernel)), by decide +kernel⟩
theorem kt_22 : (.code objectInit ⟨#[0xb1]⟩ 1 none : Cond) ∈ GT := List.mem_filter.mpr ⟨List.mem_append_right _ (List.mem_of_getElem? (i := 22) (by decide +kernel)), by decide +kernel⟩
theorem kt_23 : (.classLink RX9 9 RX5 : Cond) ∈ GT := List.mem_filter.mpr ⟨List.mem_append_right _ (List.mem_of_getElem? (i := 23) (by decide +kernel)), by decide +kernel⟩
theorem kt_24 : (.instantiable RX5 15 : Cond) ∈ GT := List.mem_filter.mpr ⟨List.mem_append_right _ (List.mem_of_getElem? (i := 24) (by decide +kernel)), by decide +kernel⟩
theorem kt_2 : (.initialized RX5 : Cond) ∈ GT := List.mem_filter.mpr ⟨List.mem_append_right _ (List.mem_of_getElem? (i := 2) (by decide +kernel)), by decide +kernel⟩
theorem kt_28 : (.methodLink RX5 3 ⟨"java/lang/Object", "<init>", "()V"⟩ : Cond) ∈ GT := List.mem_filter.mpr ⟨List.mem_append_right _ (List.mem_of_getElem? (i := 28) (by decide +kernel)), by decide +kernel⟩
theorem kt_29 : (.classLink RX5 9 RX4 : Cond) ∈ GT := List.mem_filter.mpr ⟨List.mem_append_right _ (List.mem_of_getElem? (i := 29) (by decide +kernel)), by decide +kernel⟩
theorem kt_196 : (.fieldLink RX5 11 RX5 "sources" "[LAdaptiveQueryExecutor$Source;" : Cond) ∈ GT := List.mem_filter.mpr ⟨List.mem_append_right _ (List.mem_of_getElem? (i := 196) (by decide +kernel)), by decide +kernel⟩
theorem kt_31 : (.instantiable RX4 10 : Cond) ∈ GT := List.mem_filter.mpr ⟨List.mem_append_right _ (List.mem_of_getElem? (i := 31) (by decide +kernel)), by decide +kernel⟩
theorem kt_3 : (.initialized RX4 : Cond) ∈ GT := List.mem_filter.mpr ⟨List.mem_append_right _ (List.mem_of_getElem? (i := 3) (by decide +kernel)), by decide +kernel⟩
theorem kt_35 : (.methodLink RX4 3 ⟨"java/lang/Object", "<init>", "()V"⟩ : Cond) ∈ GT := List.mem_filter.mpr ⟨List.mem_append_right _ (List.mem_of_getElem? (i := 35) (by decide +kernel)), by decide +kernel⟩
theorem kt_36 : (.fieldLink RX4 9 RX4 "width" "I" : Cond) ∈ GT := List.mem_filter.mpr ⟨List.mem_append_right _ (List.mem_of_getElem? (i := 36) (by decide +kernel)), by decide +kernel⟩
theorem kt_40 : (.fieldLink RX4 15 RX4 "window" "I" : Cond) ∈ GT := List.mem_filter.mpr ⟨List.mem_append_right _ (List.mem_of_getElem? (i := 40) (by decide +kernel)), by decide +kernel⟩
theorem kt_80 : (.arrayClass .int : Cond) ∈ GT := List.mem_filter.mpr ⟨List.mem_append_right _ (List.mem_of_getElem? (i := 80) (by decide +kernel)), by decide +kernel⟩
theorem kt_56 : (.fieldLink RX4 18 RX4 "keys" "[I" : Cond) ∈ GT := List.mem_filter.mpr ⟨List.mem_append_right _ (List.mem_of_getElem? (i := 56) (by decide +kernel)), by decide +kernel⟩
theorem kt_57 : (.fieldLink RX4 22 RX4 "arrivals" "[I" : Cond) ∈ GT := List.mem_filter.mpr ⟨List.mem_append_right _ (List.mem_of_getElem? (i := 57) (by decide +kernel)), by decide +kernel⟩
theorem kt_58 : (.fieldLink RX4 25 RX4 "values" "[I" : Cond) ∈ GT := List.mem_filter.mpr ⟨List.mem_append_right _ (List.mem_of_getElem? (i := 58) (by decide +kernel)), by decide +kernel⟩
theorem kt_34 : (.code yX4_init cX4_init 1 (none) : Cond) ∈ GT := List.mem_filter.mpr ⟨List.mem_append_right _ (List.mem_of_getElem? (i := 34) (by decide +kernel)), by decide +kernel⟩
theorem kt_32 : (.methodLink RX5 17 yX4_init : Cond) ∈ GT := List.mem_filter.mpr ⟨List.mem_append_right _ (List.mem_of_getElem? (i := 32) (by decide +kernel)), by decide +kernel⟩
theorem kt_33 : (.instanceMethod yX4_init : Cond) ∈ GT := List.mem_filter.mpr ⟨List.mem_append_right _ (List.mem_of_getElem? (i := 33) (by decide +kernel)), by decide +kernel⟩
theorem kt_81 : (.classLink RX5 18 RX3 : Cond) ∈ GT := List.mem_filter.mpr ⟨List.mem_append_right _ (List.mem_of_getElem? (i := 81) (by decide +kernel)), by decide +kernel⟩
theorem kt_202 : (.fieldLink RX5 20 RX5 "operators" "[LAdaptiveQueryExecutor$Operator;" : Cond) ∈ GT := List.mem_filter.mpr ⟨List.mem_append_right _ (List.mem_of_getElem? (i := 202) (by decide +kernel)), by decide +kernel⟩
theorem kt_83 : (.instantiable RX3 12 : Cond) ∈ GT := List.mem_filter.mpr ⟨List.mem_append_right _ (List.mem_of_getElem? (i := 83) (by decide +kernel)), by decide +kernel⟩
theorem kt_4 : (.initialized RX3 : Cond) ∈ GT := List.mem_filter.mpr ⟨List.mem_append_right _ (List.mem_of_getElem? (i := 4) (by decide +kernel)), by decide +kernel⟩
theorem kt_87 : (.methodLink RX3 3 ⟨"java/lang/Object", "<init>", "()V"⟩ : Cond) ∈ GT := List.mem_filter.mpr ⟨List.mem_append_right _ (List.mem_of_getElem? (i := 87) (by decide +kernel)), by decide +kernel⟩
theorem kt_96 : (.fieldLink RX3 9 RX3 "active" "Z" : Cond) ∈ GT := List.mem_filter.mpr ⟨List.mem_append_right _ (List.mem_of_getElem? (i := 96) (by decide +kernel)), by decide +kernel⟩
theorem kt_86 : (.code yX3_init cX3_init 1 (none) : Cond) ∈ GT := List.mem_filter.mpr ⟨List.mem_append_right _ (List.mem_of_getElem? (i := 86) (by decide +kernel)), by decide +kernel⟩
theorem kt_84 : (.methodLink RX5 24 yX3_init : Cond) ∈ GT := List.mem_filter.mpr ⟨List.mem_append_right _ (List.mem_of_getElem? (i := 84) (by decide +kernel)), by decide +kernel⟩
theorem kt_85 : (.instanceMethod yX3_init : Cond) ∈ GT := List.mem_filter.mpr ⟨List.mem_append_right _ (List.mem_of_getElem? (i := 85) (by decide +kernel)), by decide +kernel⟩
theorem kt_148 : (.classLink RX5 25 RX2 : Cond) ∈ GT := List.mem_filter.mpr ⟨List.mem_append_right _ (List.mem_of_getElem? (i := 148) (by decide +kernel)), by decide +kernel⟩
theorem kt_149 : (.instantiable RX2 3 : Cond) ∈ GT := List.mem_filter.mpr ⟨List.mem_append_right _ (List.mem_of_getElem? (i := 149) (by decide +kernel)), by decide +kernel⟩
theorem kt_5 : (.initialized RX2 : Cond) ∈ GT := List.mem_filter.mpr ⟨List.mem_append_right _ (List.mem_of_getElem? (i := 5) (by decide +kernel)), by decide +kernel⟩
theorem kt_153 : (.methodLink RX2 1 ⟨"java/lang/Object", "<init>", "()V"⟩ : Cond) ∈ GT := List.mem_filter.mpr ⟨List.mem_append_right _ (List.mem_of_getElem? (i := 153) (by decide +kernel)), by decide +kernel⟩
theorem kt_166 : (.arrayClass .long : Cond) ∈ GT := List.mem_filter.mpr ⟨List.mem_append_right _ (List.mem_of_getElem? (i := 166) (by decide +kernel)), by decide +kernel⟩
theorem kt_154 : (.fieldLink RX2 9 RX2 "ring" "[J" : Cond) ∈ GT := List.mem_filter.mpr ⟨List.mem_append_right _ (List.mem_of_getElem? (i := 154) (by decide +kernel)), by decide +kernel⟩
theorem kt_155 : (.fieldLink RX2 13 RX2 "head" "I" : Cond) ∈ GT := List.mem_filter.mpr ⟨List.mem_append_right _ (List.mem_of_getElem? (i := 155) (by decide +kernel)), by decide +kernel⟩
theorem kt_156 : (.fieldLink RX2 17 RX2 "size" "I" : Cond) ∈ GT := List.mem_filter.mpr ⟨List.mem_append_right _ (List.mem_of_getElem? (i := 156) (by decide +kernel)), by decide +kernel⟩
theorem kt_152 : (.code yX2_init cX2_init 1 (none) : Cond) ∈ GT := List.mem_filter.mpr ⟨List.mem_append_right _ (List.mem_of_getElem? (i := 152) (by decide +kernel)), by decide +kernel⟩
theorem kt_150 : (.methodLink RX5 27 yX2_init : Cond) ∈ GT := List.mem_filter.mpr ⟨List.mem_append_right _ (List.mem_of_getElem? (i := 150) (by decide +kernel)), by decide +kernel⟩
theorem kt_151 : (.instanceMethod yX2_init : Cond) ∈ GT := List.mem_filter.mpr ⟨List.mem_append_right _ (List.mem_of_getElem? (i := 151) (by decide +kernel)), by decide +kernel⟩
theorem kt_206 : (.fieldLink RX5 28 RX5 "queue" "LAdaptiveQueryExecutor$Ledger;" : Cond) ∈ GT := List.mem_filter.mpr ⟨List.mem_append_right _ (List.mem_of_getElem? (i := 206) (by decide +kernel)), by decide +kernel⟩
theorem kt_208 : (.fieldLink RX5 32 RX5 "parked" "LAdaptiveQueryExecutor$Ledger;" : Cond) ∈ GT := List.mem_filter.mpr ⟨List.mem_append_right _ (List.mem_of_getElem? (i := 208) (by decide +kernel)), by decide +kernel⟩
theorem kt_210 : (.fieldLink RX5 35 RX5 "probes" "LAdaptiveQueryExecutor$Ledger;" : Cond) ∈ GT := List.mem_filter.mpr ⟨List.mem_append_right _ (List.mem_of_getElem? (i := 210) (by decide +kernel)), by decide +kernel⟩
theorem kt_212 : (.fieldLink RX5 38 RX5 "outputs" "LAdaptiveQueryExecutor$Ledger;" : Cond) ∈ GT := List.mem_filter.mpr ⟨List.mem_append_right _ (List.mem_of_getElem? (i := 212) (by decide +kernel)), by decide +kernel⟩
theorem kt_167 : (.classLink RX5 41 RX7 : Cond) ∈ GT := List.mem_filter.mpr ⟨List.mem_append_right _ (List.mem_of_getElem? (i := 167) (by decide +kernel)), by decide +kernel⟩
theorem kt_168 : (.instantiable RX7 2 : Cond) ∈ GT := List.mem_filter.mpr ⟨List.mem_append_right _ (List.mem_of_getElem? (i := 168) (by decide +kernel)), by decide +kernel⟩
theorem kt_6 : (.initialized RX7 : Cond) ∈ GT := List.mem_filter.mpr ⟨List.mem_append_right _ (List.mem_of_getElem? (i := 6) (by decide +kernel)), by decide +kernel⟩
theorem kt_172 : (.methodLink RX7 3 ⟨"java/lang/Object", "<init>", "()V"⟩ : Cond) ∈ GT := List.mem_filter.mpr ⟨List.mem_append_right _ (List.mem_of_getElem? (i := 172) (by decide +kernel)), by decide +kernel⟩
theorem kt_182 : (.arrayClass .byte : Cond) ∈ GT := List.mem_filter.mpr ⟨List.mem_append_right _ (List.mem_of_getElem? (i := 182) (by decide +kernel)), by decide +kernel⟩
theorem kt_173 : (.fieldLink RX7 9 RX7 "signs" "[B" : Cond) ∈ GT := List.mem_filter.mpr ⟨List.mem_append_right _ (List.mem_of_getElem? (i := 173) (by decide +kernel)), by decide +kernel⟩
theorem kt_174 : (.fieldLink RX7 15 RX7 "length" "I" : Cond) ∈ GT := List.mem_filter.mpr ⟨List.mem_append_right _ (List.mem_of_getElem? (i := 174) (by decide +kernel)), by decide +kernel⟩
theorem kt_171 : (.code yX7_init cX7_init 1 (none) : Cond) ∈ GT := List.mem_filter.mpr ⟨List.mem_append_right _ (List.mem_of_getElem? (i := 171) (by decide +kernel)), by decide +kernel⟩
theorem kt_169 : (.methodLink RX5 43 yX7_init : Cond) ∈ GT := List.mem_filter.mpr ⟨List.mem_append_right _ (List.mem_of_getElem? (i := 169) (by decide +kernel)), by decide +kernel⟩
theorem kt_170 : (.instanceMethod yX7_init : Cond) ∈ GT := List.mem_filter.mpr ⟨List.mem_append_right _ (List.mem_of_getElem? (i := 170) (by decide +kernel)), by decide +kernel⟩
theorem kt_215 : (.fieldLink RX5 44 RX5 "tape" "LAdaptiveQueryExecutor$Tape;" : Cond) ∈ GT := List.mem_filter.mpr ⟨List.mem_append_right _ (List.mem_of_getElem? (i := 215) (by decide +kernel)), by decide +kernel⟩
theorem kt_183 : (.classLink RX5 48 RX1 : Cond) ∈ GT := List.mem_filter.mpr ⟨List.mem_append_right _ (List.mem_of_getElem? (i := 183) (by decide +kernel)), by decide +kernel⟩
theorem kt_184 : (.instantiable RX1 2 : Cond) ∈ GT := List.mem_filter.mpr ⟨List.mem_append_right _ (List.mem_of_getElem? (i := 184) (by decide +kernel)), by decide +kernel⟩
theorem kt_7 : (.initialized RX1 : Cond) ∈ GT := List.mem_filter.mpr ⟨List.mem_append_right _ (List.mem_of_getElem? (i := 7) (by decide +kernel)), by decide +kernel⟩
theorem kt_188 : (.methodLink RX1 3 ⟨"java/lang/Object", "<init>", "()V"⟩ : Cond) ∈ GT := List.mem_filter.mpr ⟨List.mem_append_right _ (List.mem_of_getElem? (i := 188) (by decide +kernel)), by decide +kernel⟩
theorem kt_189 : (.fieldLink RX1 9 RX1 "ring" "[I" : Cond) ∈ GT := List.mem_filter.mpr ⟨List.mem_append_right _ (List.mem_of_getElem? (i := 189) (by decide +kernel)), by decide +kernel⟩
theorem kt_190 : (.fieldLink RX1 15 RX1 "total" "I" : Cond) ∈ GT := List.mem_filter.mpr ⟨List.mem_append_right _ (List.mem_of_getElem? (i := 190) (by decide +kernel)), by decide +kernel⟩
theorem kt_187 : (.code yX1_init cX1_init 1 (none) : Cond) ∈ GT := List.mem_filter.mpr ⟨List.mem_append_right _ (List.mem_of_getElem? (i := 187) (by decide +kernel)), by decide +kernel⟩
theorem kt_185 : (.methodLink RX5 50 yX1_init : Cond) ∈ GT := List.mem_filter.mpr ⟨List.mem_append_right _ (List.mem_of_getElem? (i := 185) (by decide +kernel)), by decide +kernel⟩
theorem kt_186 : (.instanceMethod yX1_init : Cond) ∈ GT := List.mem_filter.mpr ⟨List.mem_append_right _ (List.mem_of_getElem? (i := 186) (by decide +kernel)), by decide +kernel⟩
theorem kt_217 : (.fieldLink RX5 51 RX5 "events" "LAdaptiveQueryExecutor$Events;" : Cond) ∈ GT := List.mem_filter.mpr ⟨List.mem_append_right _ (List.mem_of_getElem? (i := 217) (by decide +kernel)), by decide +kernel⟩
theorem kt_27 : (.code yX5_init cX5_init 2 (none) : Cond) ∈ GT := List.mem_filter.mpr ⟨List.mem_append_right _ (List.mem_of_getElem? (i := 27) (by decide +kernel)), by decide +kernel⟩
theorem kt_25 : (.methodLink RX9 11 yX5_init : Cond) ∈ GT := List.mem_filter.mpr ⟨List.mem_append_right _ (List.mem_of_getElem? (i := 25) (by decide +kernel)), by decide +kernel⟩
theorem kt_26 : (.instanceMethod yX5_init : Cond) ∈ GT := List.mem_filter.mpr ⟨List.mem_append_right _ (List.mem_of_getElem? (i := 26) (by decide +kernel)), by decide +kernel⟩
theorem kt_260 : (.fieldLink RX9 12 RX9 "state" "LAdaptiveQueryExecutor$State;" : Cond) ∈ GT := List.mem_filter.mpr ⟨List.mem_append_right _ (List.mem_of_getElem? (i := 260) (by decide +kernel)), by decide +kernel⟩
theorem kt_261 : (.fieldLink RX9 18 RX9 "saved" "LAdaptiveQueryExecutor$State;" : Cond) ∈ GT := List.mem_filter.mpr ⟨List.mem_append_right _ (List.mem_of_getElem? (i := 261) (by decide +kernel)), by decide +kernel⟩
theorem kt_262 : (.fieldLink RX9 21 RX9 "trial" "LAdaptiveQueryExecutor$State;" : Cond) ∈ GT := List.mem_filter.mpr ⟨List.mem_append_right _ (List.mem_of_getElem? (i := 262) (by decide +kernel)), by decide +kernel⟩
theorem kt_199 : (.fieldLinkNest RX9 24 RX5 "sourceCount" "I" RX9 : Cond) ∈ NT := List.mem_filter.mpr ⟨List.mem_append_right _ (List.mem_of_getElem? (i := 199) (by decide +kernel)), by decide +kernel⟩
theorem kt_223 : (.fieldLinkNest RX9 28 RX5 "arrivals" "I" RX9 : Cond) ∈ NT := List.mem_filter.mpr ⟨List.mem_append_right _ (List.mem_of_getElem? (i := 223) (by decide +kernel)), by decide +kernel⟩
theorem kt_201 : (.fieldLink RX5 62 RX5 "sourceCount" "I" : Cond) ∈ GT := List.mem_filter.mpr ⟨List.mem_append_right _ (List.mem_of_getElem? (i := 201) (by decide +kernel)), by decide +kernel⟩
theorem kt_37 : (.fieldLinkNest RX5 93 RX4 "width" "I" RX9 : Cond) ∈ NT := List.mem_filter.mpr ⟨List.mem_append_right _ (List.mem_of_getElem? (i := 37) (by decide +kernel)), by decide +kernel⟩
theorem kt_277 : (.code yX5_addSource cX5_addSource 2 (some .int) : Cond) ∈ GT := List.mem_filter.mpr ⟨List.mem_append_right _ (List.mem_of_getElem? (i := 277) (by decide +kernel)), by decide +kernel⟩
theorem kt_274 : (.methodLink RX9 31 yX5_addSource : Cond) ∈ GT := List.mem_filter.mpr ⟨List.mem_append_right _ (List.mem_of_getElem? (i := 274) (by decide +kernel)), by decide +kernel⟩
theorem kt_275 : (.instanceMethod yX5_addSource : Cond) ∈ GT := List.mem_filter.mpr ⟨List.mem_append_right _ (List.mem_of_getElem? (i := 275) (by decide +kernel)), by decide +kernel⟩
theorem kt_276 : (.selects RX5 yX5_addSource yX5_addSource : Cond) ∈ GT := List.mem_filter.mpr ⟨List.mem_append_right _ (List.mem_of_getElem? (i := 276) (by decide +kernel)), by decide +kernel⟩
theorem kt_285 : (.code yX5_hasSource cX5_hasSource 2 (some .boolean) : Cond) ∈ GT := List.mem_filter.mpr ⟨List.mem_append_right _ (List.mem_of_getElem? (i := 285) (by decide +kernel)), by decide +kernel⟩
theorem kt_282 : (.methodLink RX9 35 yX5_hasSource : Cond) ∈ GT := List.mem_filter.mpr ⟨List.mem_append_right _ (List.mem_of_getElem? (i := 282) (by decide +kernel)), by decide +kernel⟩
theorem kt_283 : (.instanceMethod yX5_hasSource : Cond) ∈ GT := List.mem_filter.mpr ⟨List.mem_append_right _ (List.mem_of_getElem? (i := 283) (by decide +kernel)), by decide +kernel⟩
theorem kt_284 : (.selects RX5 yX5_hasSource yX5_hasSource : Cond) ∈ GT := List.mem_filter.mpr ⟨List.mem_append_right _ (List.mem_of_getElem? (i := 284) (by decide +kernel)), by decide +kernel⟩
theorem kt_216 : (.fieldLinkNest RX9 108 RX5 "tape" "LAdaptiveQueryExecutor$Tape;" RX9 : Cond) ∈ NT := List.mem_filter.mpr ⟨List.mem_append_right _ (List.mem_of_getElem? (i := 216) (by decide +kernel)), by decide +kernel⟩
theorem kt_176 : (.fieldLinkNest RX9 112 RX7 "length" "I" RX9 : Cond) ∈ NT := List.mem_filter.mpr ⟨List.mem_append_right _ (List.mem_of_getElem? (i := 176) (by decide +kernel)), by decide +kernel⟩
theorem kt_381 : (.code yX7_append cX7_append 2 (some .int) : Cond) ∈ GT := List.mem_filter.mpr ⟨List.mem_append_right _ (List.mem_of_getElem? (i := 381) (by decide +kernel)), by decide +kernel⟩
theorem kt_378 : (.methodLink RX9 117 yX7_append : Cond) ∈ GT := List.mem_filter.mpr ⟨List.mem_append_right _ (List.mem_of_getElem? (i := 378) (by decide +kernel)), by decide +kernel⟩
theorem kt_379 : (.instanceMethod yX7_append : Cond) ∈ GT := List.mem_filter.mpr ⟨List.mem_append_right _ (List.mem_of_getElem? (i := 379) (by decide +kernel)), by decide +kernel⟩
theorem kt_380 : (.selects RX7 yX7_append yX7_append : Cond) ∈ GT := List.mem_filter.mpr ⟨List.mem_append_right _ (List.mem_of_getElem? (i := 380) (by decide +kernel)), by decide +kernel⟩
theorem kt_205 : (.fieldLinkNest RX9 120 RX5 "operatorCount" "I" RX9 : Cond) ∈ NT := List.mem_filter.mpr ⟨List.mem_append_right _ (List.mem_of_getElem? (i := 205) (by decide +kernel)), by decide +kernel⟩
theorem kt_203 : (.fieldLinkNest RX9 123 RX5 "operators" "[LAdaptiveQueryExecutor$Operator;" RX9 : Cond) ∈ NT := List.mem_filter.mpr ⟨List.mem_append_right _ (List.mem_of_getElem? (i := 203) (by decide +kernel)), by decide +kernel⟩
theorem kt_386 : (.classLink RX9 127 RX8 : Cond) ∈ GT := List.mem_filter.mpr ⟨List.mem_append_right _ (List.mem_of_getElem? (i := 386) (by decide +kernel)), by decide +kernel⟩
theorem kt_387 : (.instantiable RX8 4 : Cond) ∈ GT := List.mem_filter.mpr ⟨List.mem_append_right _ (List.mem_of_getElem? (i := 387) (by decide +kernel)), by decide +kernel⟩
theorem kt_11 : (.initialized RX8 : Cond) ∈ GT := List.mem_filter.mpr ⟨List.mem_append_right _ (List.mem_of_getElem? (i := 11) (by decide +kernel)), by decide +kernel⟩
theorem kt_391 : (.methodLink RX8 3 ⟨"java/lang/Object", "<init>", "()V"⟩ : Cond) ∈ GT := List.mem_filter.mpr ⟨List.mem_append_right _ (List.mem_of_getElem? (i := 391) (by decide +kernel)), by decide +kernel⟩
theorem kt_392 : (.fieldLink RX8 9 RX8 "state" "LAdaptiveQueryExecutor$State;" : Cond) ∈ GT := List.mem_filter.mpr ⟨List.mem_append_right _ (List.mem_of_getElem? (i := 392) (by decide +kernel)), by decide +kernel⟩
theorem kt_214 : (.fieldLinkNest RX8 15 RX5 "tape" "LAdaptiveQueryExecutor$Tape;" RX9 : Cond) ∈ NT := List.mem_filter.mpr ⟨List.mem_append_right _ (List.mem_of_getElem? (i := 214) (by decide +kernel)), by decide +kernel⟩
theorem kt_393 : (.fieldLink RX8 21 RX8 "tape" "LAdaptiveQueryExecutor$Tape;" : Cond) ∈ GT := List.mem_filter.mpr ⟨List.mem_append_right _ (List.mem_of_getElem? (i := 393) (by decide +kernel)), by decide +kernel⟩
theorem kt_394 : (.fieldLink RX8 22 RX8 "at" "I" : Cond) ∈ GT := List.mem_filter.mpr ⟨List.mem_append_right _ (List.mem_of_getElem? (i := 394) (by decide +kernel)), by decide +kernel⟩
theorem kt_396 : (.fieldLink RX8 26 RX8 "wrong" "Z" : Cond) ∈ GT := List.mem_filter.mpr ⟨List.mem_append_right _ (List.mem_of_getElem? (i := 396) (by decide +kernel)), by decide +kernel⟩
theorem kt_390 : (.code yX8_init cX8_init 2 (none) : Cond) ∈ GT := List.mem_filter.mpr ⟨List.mem_append_right _ (List.mem_of_getElem? (i := 390) (by decide +kernel)), by decide +kernel⟩
theorem kt_388 : (.methodLink RX9 129 yX8_init : Cond) ∈ GT := List.mem_filter.mpr ⟨List.mem_append_right _ (List.mem_of_getElem? (i := 388) (by decide +kernel)), by decide +kernel⟩
theorem kt_389 : (.instanceMethod yX8_init : Cond) ∈ GT := List.mem_filter.mpr ⟨List.mem_append_right _ (List.mem_of_getElem? (i := 389) (by decide +kernel)), by decide +kernel⟩
theorem kt_414 : (.methodLink RX8 117 yJ9_min_7cf53 : Cond) ∈ GT := List.mem_filter.mpr ⟨List.mem_append_right _ (List.mem_of_getElem? (i := 414) (by decide +kernel)), by decide +kernel⟩
theorem kt_415 : (.static yJ9_min_7cf53 : Cond) ∈ GT := List.mem_filter.mpr ⟨List.mem_append_right _ (List.mem_of_getElem? (i := 415) (by decide +kernel)), by decide +kernel⟩
theorem kt_12 : (.initialized "java/lang/Math" : Cond) ∈ GT := List.mem_filter.mpr ⟨List.mem_append_right _ (List.mem_of_getElem? (i := 12) (by decide +kernel)), by decide +kernel⟩
theorem kt_416 : (.code Lib.Math.min.name Lib.Math.min.code 2 (some .int) : Cond) ∈ GT := List.mem_filter.mpr ⟨List.mem_append_right _ (List.mem_of_getElem? (i := 416) (by decide +kernel)), by decide +kernel⟩
theorem kt_424 : (.code yX7_signAt cX7_signAt 2 (some .int) : Cond) ∈ GT := List.mem_filter.mpr ⟨List.mem_append_right _ (List.mem_of_getElem? (i := 424) (by decide +kernel)), by decide +kernel⟩
theorem kt_421 : (.methodLink RX8 101 yX7_signAt : Cond) ∈ GT := List.mem_filter.mpr ⟨List.mem_append_right _ (List.mem_of_getElem? (i := 421) (by decide +kernel)), by decide +kernel⟩
theorem kt_422 : (.instanceMethod yX7_signAt : Cond) ∈ GT := List.mem_filter.mpr ⟨List.mem_append_right _ (List.mem_of_getElem? (i := 422) (by decide +kernel)), by decide +kernel⟩
theorem kt_423 : (.selects RX7 yX7_signAt yX7_signAt : Cond) ∈ GT := List.mem_filter.mpr ⟨List.mem_append_right _ (List.mem_of_getElem? (i := 423) (by decide +kernel)), by decide +kernel⟩
theorem kt_420 : (.code yX8_readDigit cX8_readDigit 4 (some .int) : Cond) ∈ GT := List.mem_filter.mpr ⟨List.mem_append_right _ (List.mem_of_getElem? (i := 420) (by decide +kernel)), by decide +kernel⟩
theorem kt_417 : (.methodLink RX8 46 yX8_readDigit : Cond) ∈ GT := List.mem_filter.mpr ⟨List.mem_append_right _ (List.mem_of_getElem? (i := 417) (by decide +kernel)), by decide +kernel⟩
theorem kt_419 : (.instanceMethod yX8_readDigit : Cond) ∈ GT := List.mem_filter.mpr ⟨List.mem_append_right _ (List.mem_of_getElem? (i := 419) (by decide +kernel)), by decide +kernel⟩
theorem kp_3 : (.selects RX8 yX8_readDigit yX8_readDigit : Cond) ∈ GT := List.mem_filter.mpr ⟨List.mem_append_left _ (List.mem_of_getElem? (i := 3) (by decide +kernel)), by decide +kernel⟩
theorem kt_413 : (.code yX8_readNumber cX8_readNumber 5 (some .int) : Cond) ∈ GT := List.mem_filter.mpr ⟨List.mem_append_right _ (List.mem_of_getElem? (i := 413) (by decide +kernel)), by decide +kernel⟩
theorem kt_410 : (.methodLink RX8 30 yX8_readNumber : Cond) ∈ GT := List.mem_filter.mpr ⟨List.mem_append_right _ (List.mem_of_getElem? (i := 410) (by decide +kernel)), by decide +kernel⟩
theorem kt_412 : (.instanceMethod yX8_readNumber : Cond) ∈ GT := List.mem_filter.mpr ⟨List.mem_append_right _ (List.mem_of_getElem? (i := 412) (by decide +kernel)), by decide +kernel⟩
theorem kp_2 : (.selects RX8 yX8_readNumber yX8_readNumber : Cond) ∈ GT := List.mem_filter.mpr ⟨List.mem_append_left _ (List.mem_of_getElem? (i := 2) (by decide +kernel)), by decide +kernel⟩
theorem kt_92 : (.fieldLinkNest RX8 34 RX3 "cost" "I" RX9 : Cond) ∈ NT := List.mem_filter.mpr ⟨List.mem_append_right _ (List.mem_of_getElem? (i := 92) (by decide +kernel)), by decide +kernel⟩
theorem kt_431 : (.code yX8_expect cX8_expect 2 (none) : Cond) ∈ GT := List.mem_filter.mpr ⟨List.mem_append_right _ (List.mem_of_getElem? (i := 431) (by decide +kernel)), by decide +kernel⟩
theorem kt_428 : (.methodLink RX8 39 yX8_expect : Cond) ∈ GT := List.mem_filter.mpr ⟨List.mem_append_right _ (List.mem_of_getElem? (i := 428) (by decide +kernel)), by decide +kernel⟩
theorem kt_430 : (.instanceMethod yX8_expect : Cond) ∈ GT := List.mem_filter.mpr ⟨List.mem_append_right _ (List.mem_of_getElem? (i := 430) (by decide +kernel)), by decide +kernel⟩
theorem kp_4 : (.selects RX8 yX8_expect yX8_expect : Cond) ∈ GT := List.mem_filter.mpr ⟨List.mem_append_left _ (List.mem_of_getElem? (i := 4) (by decide +kernel)), by decide +kernel⟩
theorem kt_200 : (.fieldLinkNest RX8 43 RX5 "sourceCount" "I" RX9 : Cond) ∈ NT := List.mem_filter.mpr ⟨List.mem_append_right _ (List.mem_of_getElem? (i := 200) (by decide +kernel)), by decide +kernel⟩
theorem kt_105 : (.fieldLinkNest RX8 49 RX3 "leftSource" "I" RX9 : Cond) ∈ NT := List.mem_filter.mpr ⟨List.mem_append_right _ (List.mem_of_getElem? (i := 105) (by decide +kernel)), by decide +kernel⟩
theorem kt_436 : (.methodLink RX8 104 yX5_hasSource : Cond) ∈ GT := List.mem_filter.mpr ⟨List.mem_append_right _ (List.mem_of_getElem? (i := 436) (by decide +kernel)), by decide +kernel⟩
theorem kt_435 : (.code yX8_readValueOf cX8_readValueOf 3 (some .int) : Cond) ∈ GT := List.mem_filter.mpr ⟨List.mem_append_right _ (List.mem_of_getElem? (i := 435) (by decide +kernel)), by decide +kernel⟩
theorem kt_432 : (.methodLink RX8 52 yX8_readValueOf : Cond) ∈ GT := List.mem_filter.mpr ⟨List.mem_append_right _ (List.mem_of_getElem? (i := 432) (by decide +kernel)), by decide +kernel⟩
theorem kt_434 : (.instanceMethod yX8_readValueOf : Cond) ∈ GT := List.mem_filter.mpr ⟨List.mem_append_right _ (List.mem_of_getElem? (i := 434) (by decide +kernel)), by decide +kernel⟩
theorem kp_5 : (.selects RX8 yX8_readValueOf yX8_readValueOf : Cond) ∈ GT := List.mem_filter.mpr ⟨List.mem_append_left _ (List.mem_of_getElem? (i := 5) (by decide +kernel)), by decide +kernel⟩
theorem kt_108 : (.fieldLinkNest RX8 56 RX3 "leftValue" "I" RX9 : Cond) ∈ NT := List.mem_filter.mpr ⟨List.mem_append_right _ (List.mem_of_getElem? (i := 108) (by decide +kernel)), by decide +kernel⟩
theorem kt_111 : (.fieldLinkNest RX8 59 RX3 "rightSource" "I" RX9 : Cond) ∈ NT := List.mem_filter.mpr ⟨List.mem_append_right _ (List.mem_of_getElem? (i := 111) (by decide +kernel)), by decide +kernel⟩
theorem kt_114 : (.fieldLinkNest RX8 62 RX3 "rightValue" "I" RX9 : Cond) ∈ NT := List.mem_filter.mpr ⟨List.mem_append_right _ (List.mem_of_getElem? (i := 114) (by decide +kernel)), by decide +kernel⟩
theorem kt_444 : (.code yX8_take cX8_take 2 (some .boolean) : Cond) ∈ GT := List.mem_filter.mpr ⟨List.mem_append_right _ (List.mem_of_getElem? (i := 444) (by decide +kernel)), by decide +kernel⟩
theorem kt_441 : (.methodLink RX8 74 yX8_take : Cond) ∈ GT := List.mem_filter.mpr ⟨List.mem_append_right _ (List.mem_of_getElem? (i := 441) (by decide +kernel)), by decide +kernel⟩
theorem kt_443 : (.instanceMethod yX8_take : Cond) ∈ GT := List.mem_filter.mpr ⟨List.mem_append_right _ (List.mem_of_getElem? (i := 443) (by decide +kernel)), by decide +kernel⟩
theorem kp_7 : (.selects RX8 yX8_take yX8_take : Cond) ∈ GT := List.mem_filter.mpr ⟨List.mem_append_left _ (List.mem_of_getElem? (i := 7) (by decide +kernel)), by decide +kernel⟩
theorem kt_88 : (.fieldLinkNest RX8 78 RX3 "kind" "I" RX9 : Cond) ∈ NT := List.mem_filter.mpr ⟨List.mem_append_right _ (List.mem_of_getElem? (i := 88) (by decide +kernel)), by decide +kernel⟩
theorem kt_117 : (.fieldLinkNest RX8 98 RX3 "relation" "I" RX9 : Cond) ∈ NT := List.mem_filter.mpr ⟨List.mem_append_right _ (List.mem_of_getElem? (i := 117) (by decide +kernel)), by decide +kernel⟩
theorem kt_448 : (.code yX8_readSigned cX8_readSigned 1 (some .int) : Cond) ∈ GT := List.mem_filter.mpr ⟨List.mem_append_right _ (List.mem_of_getElem? (i := 448) (by decide +kernel)), by decide +kernel⟩
theorem kt_445 : (.methodLink RX8 87 yX8_readSigned : Cond) ∈ GT := List.mem_filter.mpr ⟨List.mem_append_right _ (List.mem_of_getElem? (i := 445) (by decide +kernel)), by decide +kernel⟩
theorem kt_447 : (.instanceMethod yX8_readSigned : Cond) ∈ GT := List.mem_filter.mpr ⟨List.mem_append_right _ (List.mem_of_getElem? (i := 447) (by decide +kernel)), by decide +kernel⟩
theorem kp_8 : (.selects RX8 yX8_readSigned yX8_readSigned : Cond) ∈ GT := List.mem_filter.mpr ⟨List.mem_append_left _ (List.mem_of_getElem? (i := 8) (by decide +kernel)), by decide +kernel⟩
theorem kt_119 : (.fieldLinkNest RX8 81 RX3 "number" "I" RX9 : Cond) ∈ NT := List.mem_filter.mpr ⟨List.mem_append_right _ (List.mem_of_getElem? (i := 119) (by decide +kernel)), by decide +kernel⟩
theorem kt_440 : (.code yX8_readCondition cX8_readCondition 2 (none) : Cond) ∈ GT := List.mem_filter.mpr ⟨List.mem_append_right _ (List.mem_of_getElem? (i := 440) (by decide +kernel)), by decide +kernel⟩
theorem kt_437 : (.methodLink RX8 65 yX8_readCondition : Cond) ∈ GT := List.mem_filter.mpr ⟨List.mem_append_right _ (List.mem_of_getElem? (i := 437) (by decide +kernel)), by decide +kernel⟩
theorem kt_439 : (.instanceMethod yX8_readCondition : Cond) ∈ GT := List.mem_filter.mpr ⟨List.mem_append_right _ (List.mem_of_getElem? (i := 439) (by decide +kernel)), by decide +kernel⟩
theorem kp_6 : (.selects RX8 yX8_readCondition yX8_readCondition : Cond) ∈ GT := List.mem_filter.mpr ⟨List.mem_append_left _ (List.mem_of_getElem? (i := 6) (by decide +kernel)), by decide +kernel⟩
theorem kt_175 : (.fieldLinkNest RX8 69 RX7 "length" "I" RX9 : Cond) ∈ NT := List.mem_filter.mpr ⟨List.mem_append_right _ (List.mem_of_getElem? (i := 175) (by decide +kernel)), by decide +kernel⟩
theorem kt_409 : (.code yX8_readOperator cX8_readOperator 2 (some .boolean) : Cond) ∈ GT := List.mem_filter.mpr ⟨List.mem_append_right _ (List.mem_of_getElem? (i := 409) (by decide +kernel)), by decide +kernel⟩
theorem kt_406 : (.methodLink RX9 132 yX8_readOperator : Cond) ∈ GT := List.mem_filter.mpr ⟨List.mem_append_right _ (List.mem_of_getElem? (i := 406) (by decide +kernel)), by decide +kernel⟩
theorem kt_407 : (.instanceMethod yX8_readOperator : Cond) ∈ GT := List.mem_filter.mpr ⟨List.mem_append_right _ (List.mem_of_getElem? (i := 407) (by decide +kernel)), by decide +kernel⟩
theorem kt_408 : (.selects RX8 yX8_readOperator yX8_readOperator : Cond) ∈ GT := List.mem_filter.mpr ⟨List.mem_append_right _ (List.mem_of_getElem? (i := 408) (by decide +kernel)), by decide +kernel⟩
theorem kt_395 : (.fieldLinkNest RX9 136 RX8 "at" "I" RX9 : Cond) ∈ NT := List.mem_filter.mpr ⟨List.mem_append_right _ (List.mem_of_getElem? (i := 395) (by decide +kernel)), by decide +kernel⟩
theorem kt_204 : (.fieldLink RX5 66 RX5 "operatorCount" "I" : Cond) ∈ GT := List.mem_filter.mpr ⟨List.mem_append_right _ (List.mem_of_getElem? (i := 204) (by decide +kernel)), by decide +kernel⟩
theorem kt_477 : (.code yX5_hasOperator cX5_hasOperator 2 (some .boolean) : Cond) ∈ GT := List.mem_filter.mpr ⟨List.mem_append_right _ (List.mem_of_getElem? (i := 477) (by decide +kernel)), by decide +kernel⟩
theorem kt_474 : (.methodLink RX9 143 yX5_hasOperator : Cond) ∈ GT := List.mem_filter.mpr ⟨List.mem_append_right _ (List.mem_of_getElem? (i := 474) (by decide +kernel)), by decide +kernel⟩
theorem kt_475 : (.instanceMethod yX5_hasOperator : Cond) ∈ GT := List.mem_filter.mpr ⟨List.mem_append_right _ (List.mem_of_getElem? (i := 475) (by decide +kernel)), by decide +kernel⟩
theorem kt_476 : (.selects RX5 yX5_hasOperator yX5_hasOperator : Cond) ∈ GT := List.mem_filter.mpr ⟨List.mem_append_right _ (List.mem_of_getElem? (i := 476) (by decide +kernel)), by decide +kernel⟩
theorem kt_220 : (.fieldLinkNest RX9 155 RX5 "policy" "I" RX9 : Cond) ∈ NT := List.mem_filter.mpr ⟨List.mem_append_right _ (List.mem_of_getElem? (i := 220) (by decide +kernel)), by decide +kernel⟩
theorem kt_222 : (.fieldLinkNest RX9 158 RX5 "discipline" "I" RX9 : Cond) ∈ NT := List.mem_filter.mpr ⟨List.mem_append_right _ (List.mem_of_getElem? (i := 222) (by decide +kernel)), by decide +kernel⟩
theorem kt_226 : (.fieldLinkNest RX9 161 RX5 "steps" "I" RX9 : Cond) ∈ NT := List.mem_filter.mpr ⟨List.mem_append_right _ (List.mem_of_getElem? (i := 226) (by decide +kernel)), by decide +kernel⟩
theorem kt_207 : (.fieldLinkNest RX9 84 RX5 "queue" "LAdaptiveQueryExecutor$Ledger;" RX9 : Cond) ∈ NT := List.mem_filter.mpr ⟨List.mem_append_right _ (List.mem_of_getElem? (i := 207) (by decide +kernel)), by decide +kernel⟩
theorem kt_158 : (.fieldLinkNest RX9 164 RX2 "size" "I" RX9 : Cond) ∈ NT := List.mem_filter.mpr ⟨List.mem_append_right _ (List.mem_of_getElem? (i := 158) (by decide +kernel)), by decide +kernel⟩
theorem kt_228 : (.fieldLinkNest RX9 170 RX5 "work" "I" RX9 : Cond) ∈ NT := List.mem_filter.mpr ⟨List.mem_append_right _ (List.mem_of_getElem? (i := 228) (by decide +kernel)), by decide +kernel⟩
theorem kt_633 : (.constant RX9 173 1000000 : Cond) ∈ GT := List.mem_filter.mpr ⟨List.mem_append_right _ (List.mem_of_getElem? (i := 633) (by decide +kernel)), by decide +kernel⟩
theorem kt_213 : (.fieldLinkNest RX9 259 RX5 "outputs" "LAdaptiveQueryExecutor$Ledger;" RX9 : Cond) ∈ NT := List.mem_filter.mpr ⟨List.mem_append_right _ (List.mem_of_getElem? (i := 213) (by decide +kernel)), by decide +kernel⟩
theorem kt_701 : (.methodLink RX5 281 yJ9_min_7cf53 : Cond) ∈ GT := List.mem_filter.mpr ⟨List.mem_append_right _ (List.mem_of_getElem? (i := 701) (by decide +kernel)), by decide +kernel⟩
theorem kt_358 : (.constantLong RX0 21 63 : Cond) ∈ GT := List.mem_filter.mpr ⟨List.mem_append_right _ (List.mem_of_getElem? (i := 358) (by decide +kernel)), by decide +kernel⟩
theorem kt_357 : (.code yX0_withOrigin cX0_withOrigin 3 (some .long) : Cond) ∈ GT := List.mem_filter.mpr ⟨List.mem_append_right _ (List.mem_of_getElem? (i := 357) (by decide +kernel)), by decide +kernel⟩
theorem kt_706 : (.methodLink RX5 292 yX0_withOrigin : Cond) ∈ GT := List.mem_filter.mpr ⟨List.mem_append_right _ (List.mem_of_getElem? (i := 706) (by decide +kernel)), by decide +kernel⟩
theorem kt_356 : (.static yX0_withOrigin : Cond) ∈ GT := List.mem_filter.mpr ⟨List.mem_append_right _ (List.mem_of_getElem? (i := 356) (by decide +kernel)), by decide +kernel⟩
theorem kt_10 : (.initialized RX0 : Cond) ∈ GT := List.mem_filter.mpr ⟨List.mem_append_right _ (List.mem_of_getElem? (i := 10) (by decide +kernel)), by decide +kernel⟩
theorem kt_700 : (.code yX5_combinationOf cX5_combinationOf 8 (some .long) : Cond) ∈ GT := List.mem_filter.mpr ⟨List.mem_append_right _ (List.mem_of_getElem? (i := 700) (by decide +kernel)), by decide +kernel⟩
theorem kt_697 : (.methodLink RX9 262 yX5_combinationOf : Cond) ∈ GT := List.mem_filter.mpr ⟨List.mem_append_right _ (List.mem_of_getElem? (i := 697) (by decide +kernel)), by decide +kernel⟩
theorem kt_698 : (.instanceMethod yX5_combinationOf : Cond) ∈ GT := List.mem_filter.mpr ⟨List.mem_append_right _ (List.mem_of_getElem? (i := 698) (by decide +kernel)), by decide +kernel⟩
theorem kt_699 : (.selects RX5 yX5_combinationOf yX5_combinationOf : Cond) ∈ GT := List.mem_filter.mpr ⟨List.mem_append_right _ (List.mem_of_getElem? (i := 699) (by decide +kernel)), by decide +kernel⟩
theorem kt_725 : (.classLink RX9 268 RX6 : Cond) ∈ GT := List.mem_filter.mpr ⟨List.mem_append_right _ (List.mem_of_getElem? (i := 725) (by decide +kernel)), by decide +kernel⟩
theorem kt_726 : (.instantiable RX6 2 : Cond) ∈ GT := List.mem_filter.mpr ⟨List.mem_append_right _ (List.mem_of_getElem? (i := 726) (by decide +kernel)), by decide +kernel⟩
theorem kt_13 : (.initialized RX6 : Cond) ∈ GT := List.mem_filter.mpr ⟨List.mem_append_right _ (List.mem_of_getElem? (i := 13) (by decide +kernel)), by decide +kernel⟩
theorem kt_730 : (.methodLink RX6 1 ⟨"java/lang/Object", "<init>", "()V"⟩ : Cond) ∈ GT := List.mem_filter.mpr ⟨List.mem_append_right _ (List.mem_of_getElem? (i := 730) (by decide +kernel)), by decide +kernel⟩
theorem kt_731 : (.fieldLink RX6 7 RX6 "combinations" "I" : Cond) ∈ GT := List.mem_filter.mpr ⟨List.mem_append_right _ (List.mem_of_getElem? (i := 731) (by decide +kernel)), by decide +kernel⟩
theorem kt_733 : (.fieldLink RX6 13 RX6 "leastCode" "I" : Cond) ∈ GT := List.mem_filter.mpr ⟨List.mem_append_right _ (List.mem_of_getElem? (i := 733) (by decide +kernel)), by decide +kernel⟩
theorem kt_729 : (.code yX6_init cX6_init 1 (none) : Cond) ∈ GT := List.mem_filter.mpr ⟨List.mem_append_right _ (List.mem_of_getElem? (i := 729) (by decide +kernel)), by decide +kernel⟩
theorem kt_727 : (.methodLink RX9 270 yX6_init : Cond) ∈ GT := List.mem_filter.mpr ⟨List.mem_append_right _ (List.mem_of_getElem? (i := 727) (by decide +kernel)), by decide +kernel⟩
theorem kt_728 : (.instanceMethod yX6_init : Cond) ∈ GT := List.mem_filter.mpr ⟨List.mem_append_right _ (List.mem_of_getElem? (i := 728) (by decide +kernel)), by decide +kernel⟩
theorem kt_732 : (.fieldLinkNest RX9 275 RX6 "combinations" "I" RX9 : Cond) ∈ NT := List.mem_filter.mpr ⟨List.mem_append_right _ (List.mem_of_getElem? (i := 732) (by decide +kernel)), by decide +kernel⟩
theorem kt_157 : (.fieldLinkNest RX5 168 RX2 "size" "I" RX9 : Cond) ∈ NT := List.mem_filter.mpr ⟨List.mem_append_right _ (List.mem_of_getElem? (i := 157) (by decide +kernel)), by decide +kernel⟩
theorem kt_756 : (.code yX5_isSettledOn cX5_isSettledOn 3 (some .boolean) : Cond) ∈ GT := List.mem_filter.mpr ⟨List.mem_append_right _ (List.mem_of_getElem? (i := 756) (by decide +kernel)), by decide +kernel⟩
theorem kt_753 : (.methodLink RX9 281 yX5_isSettledOn : Cond) ∈ GT := List.mem_filter.mpr ⟨List.mem_append_right _ (List.mem_of_getElem? (i := 753) (by decide +kernel)), by decide +kernel⟩
theorem kt_754 : (.instanceMethod yX5_isSettledOn : Cond) ∈ GT := List.mem_filter.mpr ⟨List.mem_append_right _ (List.mem_of_getElem? (i := 754) (by decide +kernel)), by decide +kernel⟩
theorem kt_755 : (.selects RX5 yX5_isSettledOn yX5_isSettledOn : Cond) ∈ GT := List.mem_filter.mpr ⟨List.mem_append_right _ (List.mem_of_getElem? (i := 755) (by decide +kernel)), by decide +kernel⟩
theorem kt_656 : (.code yX9_asInt cX9_asInt 1 (some .int) : Cond) ∈ GT := List.mem_filter.mpr ⟨List.mem_append_right _ (List.mem_of_getElem? (i := 656) (by decide +kernel)), by decide +kernel⟩
theorem kt_654 : (.methodLink RX9 204 yX9_asInt : Cond) ∈ GT := List.mem_filter.mpr ⟨List.mem_append_right _ (List.mem_of_getElem? (i := 654) (by decide +kernel)), by decide +kernel⟩
theorem kt_655 : (.static yX9_asInt : Cond) ∈ GT := List.mem_filter.mpr ⟨List.mem_append_right _ (List.mem_of_getElem? (i := 655) (by decide +kernel)), by decide +kernel⟩
theorem kt_1 : (.initialized RX9 : Cond) ∈ GT := List.mem_filter.mpr ⟨List.mem_append_right _ (List.mem_of_getElem? (i := 1) (by decide +kernel)), by decide +kernel⟩
theorem kt_761 : (.constantLong RX9 284 (-9223372036854775808) : Cond) ∈ GT := List.mem_filter.mpr ⟨List.mem_append_right _ (List.mem_of_getElem? (i := 761) (by decide +kernel)), by decide +kernel⟩
theorem kt_43 : (.fieldLink RX4 28 RX4 "rows" "I" : Cond) ∈ GT := List.mem_filter.mpr ⟨List.mem_append_right _ (List.mem_of_getElem? (i := 43) (by decide +kernel)), by decide +kernel⟩
theorem kt_45 : (.fieldLink RX4 35 RX4 "live" "I" : Cond) ∈ GT := List.mem_filter.mpr ⟨List.mem_append_right _ (List.mem_of_getElem? (i := 45) (by decide +kernel)), by decide +kernel⟩
theorem kt_48 : (.fieldLink RX4 38 RX4 "probes" "I" : Cond) ∈ GT := List.mem_filter.mpr ⟨List.mem_append_right _ (List.mem_of_getElem? (i := 48) (by decide +kernel)), by decide +kernel⟩
theorem kt_51 : (.fieldLink RX4 41 RX4 "matches" "I" : Cond) ∈ GT := List.mem_filter.mpr ⟨List.mem_append_right _ (List.mem_of_getElem? (i := 51) (by decide +kernel)), by decide +kernel⟩
theorem kt_55 : (.fieldLink RX4 44 RX4 "duplicates" "I" : Cond) ∈ GT := List.mem_filter.mpr ⟨List.mem_append_right _ (List.mem_of_getElem? (i := 55) (by decide +kernel)), by decide +kernel⟩
theorem kt_783 : (.methodLink RX4 47 ⟨"java/lang/System", "arraycopy", "(Ljava/lang/Object;ILjava/lang/Object;II)V"⟩ : Cond) ∈ GT := List.mem_filter.mpr ⟨List.mem_append_right _ (List.mem_of_getElem? (i := 783) (by decide +kernel)), by decide +kernel⟩
theorem kt_785 : (.native ⟨"java/lang/System", "arraycopy", "(Ljava/lang/Object;ILjava/lang/Object;II)V"⟩ : Cond) ∈ GT := List.mem_filter.mpr ⟨List.mem_append_right _ (List.mem_of_getElem? (i := 785) (by decide +kernel)), by decide +kernel⟩
theorem kt_784 : (.static ⟨"java/lang/System", "arraycopy", "(Ljava/lang/Object;ILjava/lang/Object;II)V"⟩ : Cond) ∈ GT := List.mem_filter.mpr ⟨List.mem_append_right _ (List.mem_of_getElem? (i := 784) (by decide +kernel)), by decide +kernel⟩
theorem kt_14 : (.initialized "java/lang/System" : Cond) ∈ GT := List.mem_filter.mpr ⟨List.mem_append_right _ (List.mem_of_getElem? (i := 14) (by decide +kernel)), by decide +kernel⟩
theorem kt_782 : (.code yX4_copyFrom cX4_copyFrom 2 (none) : Cond) ∈ GT := List.mem_filter.mpr ⟨List.mem_append_right _ (List.mem_of_getElem? (i := 782) (by decide +kernel)), by decide +kernel⟩
theorem kt_779 : (.methodLink RX5 55 yX4_copyFrom : Cond) ∈ GT := List.mem_filter.mpr ⟨List.mem_append_right _ (List.mem_of_getElem? (i := 779) (by decide +kernel)), by decide +kernel⟩
theorem kt_780 : (.instanceMethod yX4_copyFrom : Cond) ∈ GT := List.mem_filter.mpr ⟨List.mem_append_right _ (List.mem_of_getElem? (i := 780) (by decide +kernel)), by decide +kernel⟩
theorem kt_781 : (.selects RX4 yX4_copyFrom yX4_copyFrom : Cond) ∈ GT := List.mem_filter.mpr ⟨List.mem_append_right _ (List.mem_of_getElem? (i := 781) (by decide +kernel)), by decide +kernel⟩
theorem kt_89 : (.fieldLink RX3 28 RX3 "kind" "I" : Cond) ∈ GT := List.mem_filter.mpr ⟨List.mem_append_right _ (List.mem_of_getElem? (i := 89) (by decide +kernel)), by decide +kernel⟩
theorem kt_93 : (.fieldLink RX3 50 RX3 "cost" "I" : Cond) ∈ GT := List.mem_filter.mpr ⟨List.mem_append_right _ (List.mem_of_getElem? (i := 93) (by decide +kernel)), by decide +kernel⟩
theorem kt_99 : (.fieldLink RX3 15 RX3 "evaluated" "I" : Cond) ∈ GT := List.mem_filter.mpr ⟨List.mem_append_right _ (List.mem_of_getElem? (i := 99) (by decide +kernel)), by decide +kernel⟩
theorem kt_102 : (.fieldLink RX3 19 RX3 "passed" "I" : Cond) ∈ GT := List.mem_filter.mpr ⟨List.mem_append_right _ (List.mem_of_getElem? (i := 102) (by decide +kernel)), by decide +kernel⟩
theorem kt_106 : (.fieldLink RX3 22 RX3 "leftSource" "I" : Cond) ∈ GT := List.mem_filter.mpr ⟨List.mem_append_right _ (List.mem_of_getElem? (i := 106) (by decide +kernel)), by decide +kernel⟩
theorem kt_109 : (.fieldLink RX3 60 RX3 "leftValue" "I" : Cond) ∈ GT := List.mem_filter.mpr ⟨List.mem_append_right _ (List.mem_of_getElem? (i := 109) (by decide +kernel)), by decide +kernel⟩
theorem kt_112 : (.fieldLink RX3 25 RX3 "rightSource" "I" : Cond) ∈ GT := List.mem_filter.mpr ⟨List.mem_append_right _ (List.mem_of_getElem? (i := 112) (by decide +kernel)), by decide +kernel⟩
theorem kt_115 : (.fieldLink RX3 63 RX3 "rightValue" "I" : Cond) ∈ GT := List.mem_filter.mpr ⟨List.mem_append_right _ (List.mem_of_getElem? (i := 115) (by decide +kernel)), by decide +kernel⟩
theorem kt_118 : (.fieldLink RX3 31 RX3 "relation" "I" : Cond) ∈ GT := List.mem_filter.mpr ⟨List.mem_append_right _ (List.mem_of_getElem? (i := 118) (by decide +kernel)), by decide +kernel⟩
theorem kt_120 : (.fieldLink RX3 34 RX3 "number" "I" : Cond) ∈ GT := List.mem_filter.mpr ⟨List.mem_append_right _ (List.mem_of_getElem? (i := 120) (by decide +kernel)), by decide +kernel⟩
theorem kt_122 : (.fieldLink RX3 43 RX3 "remainder" "I" : Cond) ∈ GT := List.mem_filter.mpr ⟨List.mem_append_right _ (List.mem_of_getElem? (i := 122) (by decide +kernel)), by decide +kernel⟩
theorem kt_789 : (.code yX3_copyFrom cX3_copyFrom 2 (none) : Cond) ∈ GT := List.mem_filter.mpr ⟨List.mem_append_right _ (List.mem_of_getElem? (i := 789) (by decide +kernel)), by decide +kernel⟩
theorem kt_786 : (.methodLink RX5 59 yX3_copyFrom : Cond) ∈ GT := List.mem_filter.mpr ⟨List.mem_append_right _ (List.mem_of_getElem? (i := 786) (by decide +kernel)), by decide +kernel⟩
theorem kt_787 : (.instanceMethod yX3_copyFrom : Cond) ∈ GT := List.mem_filter.mpr ⟨List.mem_append_right _ (List.mem_of_getElem? (i := 787) (by decide +kernel)), by decide +kernel⟩
theorem kt_788 : (.selects RX3 yX3_copyFrom yX3_copyFrom : Cond) ∈ GT := List.mem_filter.mpr ⟨List.mem_append_right _ (List.mem_of_getElem? (i := 788) (by decide +kernel)), by decide +kernel⟩
theorem kt_793 : (.code yX2_copyFrom cX2_copyFrom 3 (none) : Cond) ∈ GT := List.mem_filter.mpr ⟨List.mem_append_right _ (List.mem_of_getElem? (i := 793) (by decide +kernel)), by decide +kernel⟩
theorem kt_790 : (.methodLink RX5 69 yX2_copyFrom : Cond) ∈ GT := List.mem_filter.mpr ⟨List.mem_append_right _ (List.mem_of_getElem? (i := 790) (by decide +kernel)), by decide +kernel⟩
theorem kt_791 : (.instanceMethod yX2_copyFrom : Cond) ∈ GT := List.mem_filter.mpr ⟨List.mem_append_right _ (List.mem_of_getElem? (i := 791) (by decide +kernel)), by decide +kernel⟩
theorem kt_792 : (.selects RX2 yX2_copyFrom yX2_copyFrom : Cond) ∈ GT := List.mem_filter.mpr ⟨List.mem_append_right _ (List.mem_of_getElem? (i := 792) (by decide +kernel)), by decide +kernel⟩
theorem kt_798 : (.methodLink RX7 19 ⟨"java/lang/System", "arraycopy", "(Ljava/lang/Object;ILjava/lang/Object;II)V"⟩ : Cond) ∈ GT := List.mem_filter.mpr ⟨List.mem_append_right _ (List.mem_of_getElem? (i := 798) (by decide +kernel)), by decide +kernel⟩
theorem kt_797 : (.code yX7_copyFrom cX7_copyFrom 2 (none) : Cond) ∈ GT := List.mem_filter.mpr ⟨List.mem_append_right _ (List.mem_of_getElem? (i := 797) (by decide +kernel)), by decide +kernel⟩
theorem kt_794 : (.methodLink RX5 72 yX7_copyFrom : Cond) ∈ GT := List.mem_filter.mpr ⟨List.mem_append_right _ (List.mem_of_getElem? (i := 794) (by decide +kernel)), by decide +kernel⟩
theorem kt_795 : (.instanceMethod yX7_copyFrom : Cond) ∈ GT := List.mem_filter.mpr ⟨List.mem_append_right _ (List.mem_of_getElem? (i := 795) (by decide +kernel)), by decide +kernel⟩
theorem kt_796 : (.selects RX7 yX7_copyFrom yX7_copyFrom : Cond) ∈ GT := List.mem_filter.mpr ⟨List.mem_append_right _ (List.mem_of_getElem? (i := 796) (by decide +kernel)), by decide +kernel⟩
theorem kt_803 : (.methodLink RX1 25 ⟨"java/lang/System", "arraycopy", "(Ljava/lang/Object;ILjava/lang/Object;II)V"⟩ : Cond) ∈ GT := List.mem_filter.mpr ⟨List.mem_append_right _ (List.mem_of_getElem? (i := 803) (by decide +kernel)), by decide +kernel⟩
theorem kt_802 : (.code yX1_copyFrom cX1_copyFrom 2 (none) : Cond) ∈ GT := List.mem_filter.mpr ⟨List.mem_append_right _ (List.mem_of_getElem? (i := 802) (by decide +kernel)), by decide +kernel⟩
theorem kt_799 : (.methodLink RX5 75 yX1_copyFrom : Cond) ∈ GT := List.mem_filter.mpr ⟨List.mem_append_right _ (List.mem_of_getElem? (i := 799) (by decide +kernel)), by decide +kernel⟩
theorem kt_800 : (.instanceMethod yX1_copyFrom : Cond) ∈ GT := List.mem_filter.mpr ⟨List.mem_append_right _ (List.mem_of_getElem? (i := 800) (by decide +kernel)), by decide +kernel⟩
theorem kt_801 : (.selects RX1 yX1_copyFrom yX1_copyFrom : Cond) ∈ GT := List.mem_filter.mpr ⟨List.mem_append_right _ (List.mem_of_getElem? (i := 801) (by decide +kernel)), by decide +kernel⟩
theorem kt_219 : (.fieldLink RX5 78 RX5 "policy" "I" : Cond) ∈ GT := List.mem_filter.mpr ⟨List.mem_append_right _ (List.mem_of_getElem? (i := 219) (by decide +kernel)), by decide +kernel⟩
theorem kt_221 : (.fieldLink RX5 81 RX5 "discipline" "I" : Cond) ∈ GT := List.mem_filter.mpr ⟨List.mem_append_right _ (List.mem_of_getElem? (i := 221) (by decide +kernel)), by decide +kernel⟩
theorem kt_224 : (.fieldLink RX5 84 RX5 "arrivals" "I" : Cond) ∈ GT := List.mem_filter.mpr ⟨List.mem_append_right _ (List.mem_of_getElem? (i := 224) (by decide +kernel)), by decide +kernel⟩
theorem kt_225 : (.fieldLink RX5 87 RX5 "steps" "I" : Cond) ∈ GT := List.mem_filter.mpr ⟨List.mem_append_right _ (List.mem_of_getElem? (i := 225) (by decide +kernel)), by decide +kernel⟩
theorem kt_227 : (.fieldLink RX5 90 RX5 "work" "I" : Cond) ∈ GT := List.mem_filter.mpr ⟨List.mem_append_right _ (List.mem_of_getElem? (i := 227) (by decide +kernel)), by decide +kernel⟩
theorem kt_778 : (.code yX5_copyFrom cX5_copyFrom 3 (none) : Cond) ∈ GT := List.mem_filter.mpr ⟨List.mem_append_right _ (List.mem_of_getElem? (i := 778) (by decide +kernel)), by decide +kernel⟩
theorem kt_775 : (.methodLink RX9 301 yX5_copyFrom : Cond) ∈ GT := List.mem_filter.mpr ⟨List.mem_append_right _ (List.mem_of_getElem? (i := 775) (by decide +kernel)), by decide +kernel⟩
theorem kt_776 : (.instanceMethod yX5_copyFrom : Cond) ∈ GT := List.mem_filter.mpr ⟨List.mem_append_right _ (List.mem_of_getElem? (i := 776) (by decide +kernel)), by decide +kernel⟩
theorem kt_777 : (.selects RX5 yX5_copyFrom yX5_copyFrom : Cond) ∈ GT := List.mem_filter.mpr ⟨List.mem_append_right _ (List.mem_of_getElem? (i := 777) (by decide +kernel)), by decide +kernel⟩
theorem kt_774 : (.code yX9_simulated cX9_simulated 3 (some (.object "AdaptiveQueryExecutor$State")) : Cond) ∈ GT := List.mem_filter.mpr ⟨List.mem_append_right _ (List.mem_of_getElem? (i := 774) (by decide +kernel)), by decide +kernel⟩
theorem kt_771 : (.methodLink RX9 297 yX9_simulated : Cond) ∈ GT := List.mem_filter.mpr ⟨List.mem_append_right _ (List.mem_of_getElem? (i := 771) (by decide +kernel)), by decide +kernel⟩
theorem kt_773 : (.instanceMethod yX9_simulated : Cond) ∈ GT := List.mem_filter.mpr ⟨List.mem_append_right _ (List.mem_of_getElem? (i := 773) (by decide +kernel)), by decide +kernel⟩
theorem kp_22 : (.selects RX9 yX9_simulated yX9_simulated : Cond) ∈ GT := List.mem_filter.mpr ⟨List.mem_append_left _ (List.mem_of_getElem? (i := 22) (by decide +kernel)), by decide +kernel⟩
theorem kt_218 : (.fieldLinkNest RX9 64 RX5 "events" "LAdaptiveQueryExecutor$Events;" RX9 : Cond) ∈ NT := List.mem_filter.mpr ⟨List.mem_append_right _ (List.mem_of_getElem? (i := 218) (by decide +kernel)), by decide +kernel⟩
theorem kt_820 : (.methodLink RX1 19 yJ9_min_7cf53 : Cond) ∈ GT := List.mem_filter.mpr ⟨List.mem_append_right _ (List.mem_of_getElem? (i := 820) (by decide +kernel)), by decide +kernel⟩
theorem kt_819 : (.code yX1_kept cX1_kept 1 (some .int) : Cond) ∈ GT := List.mem_filter.mpr ⟨List.mem_append_right _ (List.mem_of_getElem? (i := 819) (by decide +kernel)), by decide +kernel⟩
theorem kt_816 : (.methodLink RX9 304 yX1_kept : Cond) ∈ GT := List.mem_filter.mpr ⟨List.mem_append_right _ (List.mem_of_getElem? (i := 816) (by decide +kernel)), by decide +kernel⟩
theorem kt_817 : (.instanceMethod yX1_kept : Cond) ∈ GT := List.mem_filter.mpr ⟨List.mem_append_right _ (List.mem_of_getElem? (i := 817) (by decide +kernel)), by decide +kernel⟩
theorem kt_818 : (.selects RX1 yX1_kept yX1_kept : Cond) ∈ GT := List.mem_filter.mpr ⟨List.mem_append_right _ (List.mem_of_getElem? (i := 818) (by decide +kernel)), by decide +kernel⟩
theorem kt_840 : (.code yX5_activeOperators cX5_activeOperators 3 (some .int) : Cond) ∈ GT := List.mem_filter.mpr ⟨List.mem_append_right _ (List.mem_of_getElem? (i := 840) (by decide +kernel)), by decide +kernel⟩
theorem kt_837 : (.methodLink RX9 309 yX5_activeOperators : Cond) ∈ GT := List.mem_filter.mpr ⟨List.mem_append_right _ (List.mem_of_getElem? (i := 837) (by decide +kernel)), by decide +kernel⟩
theorem kt_838 : (.instanceMethod yX5_activeOperators : Cond) ∈ GT := List.mem_filter.mpr ⟨List.mem_append_right _ (List.mem_of_getElem? (i := 838) (by decide +kernel)), by decide +kernel⟩
theorem kt_839 : (.selects RX5 yX5_activeOperators yX5_activeOperators : Cond) ∈ GT := List.mem_filter.mpr ⟨List.mem_append_right _ (List.mem_of_getElem? (i := 839) (by decide +kernel)), by decide +kernel⟩
theorem kt_907 : (.code yX10_in cX10_in 3 (some .boolean) : Cond) ∈ GT := List.mem_filter.mpr ⟨List.mem_append_right _ (List.mem_of_getElem? (i := 907) (by decide +kernel)), by decide +kernel⟩
theorem kt_905 : (.methodLink RX10 45 yX10_in : Cond) ∈ GT := List.mem_filter.mpr ⟨List.mem_append_right _ (List.mem_of_getElem? (i := 905) (by decide +kernel)), by decide +kernel⟩
theorem kt_906 : (.static yX10_in : Cond) ∈ GT := List.mem_filter.mpr ⟨List.mem_append_right _ (List.mem_of_getElem? (i := 906) (by decide +kernel)), by decide +kernel⟩
theorem kt_8 : (.initialized RX10 : Cond) ∈ GT := List.mem_filter.mpr ⟨List.mem_append_right _ (List.mem_of_getElem? (i := 8) (by decide +kernel)), by decide +kernel⟩
theorem kt_849 : (.fieldLink RX10 11 RX10 "m" "[I" : Cond) ∈ GT := List.mem_filter.mpr ⟨List.mem_append_right _ (List.mem_of_getElem? (i := 849) (by decide +kernel)), by decide +kernel⟩
theorem kt_915 : (.code yX10_isSource cX10_isSource 2 (some .boolean) : Cond) ∈ GT := List.mem_filter.mpr ⟨List.mem_append_right _ (List.mem_of_getElem? (i := 915) (by decide +kernel)), by decide +kernel⟩
theorem kt_912 : (.methodLink RX10 49 yX10_isSource : Cond) ∈ GT := List.mem_filter.mpr ⟨List.mem_append_right _ (List.mem_of_getElem? (i := 912) (by decide +kernel)), by decide +kernel⟩
theorem kt_914 : (.instanceMethod yX10_isSource : Cond) ∈ GT := List.mem_filter.mpr ⟨List.mem_append_right _ (List.mem_of_getElem? (i := 914) (by decide +kernel)), by decide +kernel⟩
theorem kp_23 : (.selects RX10 yX10_isSource yX10_isSource : Cond) ∈ GT := List.mem_filter.mpr ⟨List.mem_append_left _ (List.mem_of_getElem? (i := 23) (by decide +kernel)), by decide +kernel⟩
theorem kt_959 : (.code yX10_isRow cX10_isRow 3 (some .boolean) : Cond) ∈ GT := List.mem_filter.mpr ⟨List.mem_append_right _ (List.mem_of_getElem? (i := 959) (by decide +kernel)), by decide +kernel⟩
theorem kt_956 : (.methodLink RX10 90 yX10_isRow : Cond) ∈ GT := List.mem_filter.mpr ⟨List.mem_append_right _ (List.mem_of_getElem? (i := 956) (by decide +kernel)), by decide +kernel⟩
theorem kt_958 : (.instanceMethod yX10_isRow : Cond) ∈ GT := List.mem_filter.mpr ⟨List.mem_append_right _ (List.mem_of_getElem? (i := 958) (by decide +kernel)), by decide +kernel⟩
theorem kp_32 : (.selects RX10 yX10_isRow yX10_isRow : Cond) ∈ GT := List.mem_filter.mpr ⟨List.mem_append_left _ (List.mem_of_getElem? (i := 32) (by decide +kernel)), by decide +kernel⟩
theorem kt_855 : (.fieldLink RX10 97 RX10 "size" "I" : Cond) ∈ GT := List.mem_filter.mpr ⟨List.mem_append_right _ (List.mem_of_getElem? (i := 855) (by decide +kernel)), by decide +kernel⟩
theorem kt_856 : (.fieldLink RX10 93 RX10 "place" "I" : Cond) ∈ GT := List.mem_filter.mpr ⟨List.mem_append_right _ (List.mem_of_getElem? (i := 856) (by decide +kernel)), by decide +kernel⟩
theorem kt_857 : (.fieldLink RX10 100 RX10 "isBad" "Z" : Cond) ∈ GT := List.mem_filter.mpr ⟨List.mem_append_right _ (List.mem_of_getElem? (i := 857) (by decide +kernel)), by decide +kernel⟩
theorem kt_858 : (.fieldLink RX10 26 RX10 "read" "[I" : Cond) ∈ GT := List.mem_filter.mpr ⟨List.mem_append_right _ (List.mem_of_getElem? (i := 858) (by decide +kernel)), by decide +kernel⟩
theorem kt_976 : (.methodLink RX10 107 yJ9_min_7cf53 : Cond) ∈ GT := List.mem_filter.mpr ⟨List.mem_append_right _ (List.mem_of_getElem? (i := 976) (by decide +kernel)), by decide +kernel⟩
theorem kt_984 : (.code yX10_here cX10_here 1 (some .int) : Cond) ∈ GT := List.mem_filter.mpr ⟨List.mem_append_right _ (List.mem_of_getElem? (i := 984) (by decide +kernel)), by decide +kernel⟩
theorem kt_981 : (.methodLink RX10 103 yX10_here : Cond) ∈ GT := List.mem_filter.mpr ⟨List.mem_append_right _ (List.mem_of_getElem? (i := 981) (by decide +kernel)), by decide +kernel⟩
theorem kt_983 : (.instanceMethod yX10_here : Cond) ∈ GT := List.mem_filter.mpr ⟨List.mem_append_right _ (List.mem_of_getElem? (i := 983) (by decide +kernel)), by decide +kernel⟩
theorem kp_36 : (.selects RX10 yX10_here yX10_here : Cond) ∈ GT := List.mem_filter.mpr ⟨List.mem_append_left _ (List.mem_of_getElem? (i := 36) (by decide +kernel)), by decide +kernel⟩
theorem kt_980 : (.code yX10_digit cX10_digit 3 (some .int) : Cond) ∈ GT := List.mem_filter.mpr ⟨List.mem_append_right _ (List.mem_of_getElem? (i := 980) (by decide +kernel)), by decide +kernel⟩
theorem kt_977 : (.methodLink RX10 112 yX10_digit : Cond) ∈ GT := List.mem_filter.mpr ⟨List.mem_append_right _ (List.mem_of_getElem? (i := 977) (by decide +kernel)), by decide +kernel⟩
theorem kt_979 : (.instanceMethod yX10_digit : Cond) ∈ GT := List.mem_filter.mpr ⟨List.mem_append_right _ (List.mem_of_getElem? (i := 979) (by decide +kernel)), by decide +kernel⟩
theorem kp_35 : (.selects RX10 yX10_digit yX10_digit : Cond) ∈ GT := List.mem_filter.mpr ⟨List.mem_append_left _ (List.mem_of_getElem? (i := 35) (by decide +kernel)), by decide +kernel⟩
theorem kt_975 : (.code yX10_small cX10_small 4 (some .int) : Cond) ∈ GT := List.mem_filter.mpr ⟨List.mem_append_right _ (List.mem_of_getElem? (i := 975) (by decide +kernel)), by decide +kernel⟩
theorem kt_972 : (.methodLink RX10 118 yX10_small : Cond) ∈ GT := List.mem_filter.mpr ⟨List.mem_append_right _ (List.mem_of_getElem? (i := 972) (by decide +kernel)), by decide +kernel⟩
theorem kt_974 : (.instanceMethod yX10_small : Cond) ∈ GT := List.mem_filter.mpr ⟨List.mem_append_right _ (List.mem_of_getElem? (i := 974) (by decide +kernel)), by decide +kernel⟩
theorem kp_34 : (.selects RX10 yX10_small yX10_small : Cond) ∈ GT := List.mem_filter.mpr ⟨List.mem_append_left _ (List.mem_of_getElem? (i := 34) (by decide +kernel)), by decide +kernel⟩
theorem kt_988 : (.code yX10_take cX10_take 2 (none) : Cond) ∈ GT := List.mem_filter.mpr ⟨List.mem_append_right _ (List.mem_of_getElem? (i := 988) (by decide +kernel)), by decide +kernel⟩
theorem kt_985 : (.methodLink RX10 115 yX10_take : Cond) ∈ GT := List.mem_filter.mpr ⟨List.mem_append_right _ (List.mem_of_getElem? (i := 985) (by decide +kernel)), by decide +kernel⟩
theorem kt_987 : (.instanceMethod yX10_take : Cond) ∈ GT := List.mem_filter.mpr ⟨List.mem_append_right _ (List.mem_of_getElem? (i := 987) (by decide +kernel)), by decide +kernel⟩
theorem kp_37 : (.selects RX10 yX10_take yX10_take : Cond) ∈ GT := List.mem_filter.mpr ⟨List.mem_append_left _ (List.mem_of_getElem? (i := 37) (by decide +kernel)), by decide +kernel⟩
theorem kt_992 : (.code yX10_reference cX10_reference 5 (some .int) : Cond) ∈ GT := List.mem_filter.mpr ⟨List.mem_append_right _ (List.mem_of_getElem? (i := 992) (by decide +kernel)), by decide +kernel⟩
theorem kt_989 : (.methodLink RX10 121 yX10_reference : Cond) ∈ GT := List.mem_filter.mpr ⟨List.mem_append_right _ (List.mem_of_getElem? (i := 989) (by decide +kernel)), by decide +kernel⟩
theorem kt_991 : (.instanceMethod yX10_reference : Cond) ∈ GT := List.mem_filter.mpr ⟨List.mem_append_right _ (List.mem_of_getElem? (i := 991) (by decide +kernel)), by decide +kernel⟩
theorem kp_38 : (.selects RX10 yX10_reference yX10_reference : Cond) ∈ GT := List.mem_filter.mpr ⟨List.mem_append_left _ (List.mem_of_getElem? (i := 38) (by decide +kernel)), by decide +kernel⟩
theorem kt_971 : (.code yX10_readText cX10_readText 4 (none) : Cond) ∈ GT := List.mem_filter.mpr ⟨List.mem_append_right _ (List.mem_of_getElem? (i := 971) (by decide +kernel)), by decide +kernel⟩
theorem kt_968 : (.methodLink RX10 130 yX10_readText : Cond) ∈ GT := List.mem_filter.mpr ⟨List.mem_append_right _ (List.mem_of_getElem? (i := 968) (by decide +kernel)), by decide +kernel⟩
theorem kt_970 : (.instanceMethod yX10_readText : Cond) ∈ GT := List.mem_filter.mpr ⟨List.mem_append_right _ (List.mem_of_getElem? (i := 970) (by decide +kernel)), by decide +kernel⟩
theorem kp_33 : (.selects RX10 yX10_readText yX10_readText : Cond) ∈ GT := List.mem_filter.mpr ⟨List.mem_append_left _ (List.mem_of_getElem? (i := 33) (by decide +kernel)), by decide +kernel⟩
theorem kt_1020 : (.code yX10_isOperator cX10_isOperator 2 (some .boolean) : Cond) ∈ GT := List.mem_filter.mpr ⟨List.mem_append_right _ (List.mem_of_getElem? (i := 1020) (by decide +kernel)), by decide +kernel⟩
theorem kt_1017 : (.methodLink RX10 136 yX10_isOperator : Cond) ∈ GT := List.mem_filter.mpr ⟨List.mem_append_right _ (List.mem_of_getElem? (i := 1017) (by decide +kernel)), by decide +kernel⟩
theorem kt_1019 : (.instanceMethod yX10_isOperator : Cond) ∈ GT := List.mem_filter.mpr ⟨List.mem_append_right _ (List.mem_of_getElem? (i := 1019) (by decide +kernel)), by decide +kernel⟩
theorem kp_44 : (.selects RX10 yX10_isOperator yX10_isOperator : Cond) ∈ GT := List.mem_filter.mpr ⟨List.mem_append_left _ (List.mem_of_getElem? (i := 44) (by decide +kernel)), by decide +kernel⟩
theorem kt_939 : (.code yX10_sizeOf cX10_sizeOf 2 (some .int) : Cond) ∈ GT := List.mem_filter.mpr ⟨List.mem_append_right _ (List.mem_of_getElem? (i := 939) (by decide +kernel)), by decide +kernel⟩
theorem kt_936 : (.methodLink RX10 53 yX10_sizeOf : Cond) ∈ GT := List.mem_filter.mpr ⟨List.mem_append_right _ (List.mem_of_getElem? (i := 936) (by decide +kernel)), by decide +kernel⟩
theorem kt_938 : (.instanceMethod yX10_sizeOf : Cond) ∈ GT := List.mem_filter.mpr ⟨List.mem_append_right _ (List.mem_of_getElem? (i := 938) (by decide +kernel)), by decide +kernel⟩
theorem kp_29 : (.selects RX10 yX10_sizeOf yX10_sizeOf : Cond) ∈ GT := List.mem_filter.mpr ⟨List.mem_append_left _ (List.mem_of_getElem? (i := 29) (by decide +kernel)), by decide +kernel⟩
theorem kt_860 : (.fieldLink RX10 32 RX10 "asked" "[I" : Cond) ∈ GT := List.mem_filter.mpr ⟨List.mem_append_right _ (List.mem_of_getElem? (i := 860) (by decide +kernel)), by decide +kernel⟩
theorem kt_1137 : (.code yX10_isAsked cX10_isAsked 5 (some .boolean) : Cond) ∈ GT := List.mem_filter.mpr ⟨List.mem_append_right _ (List.mem_of_getElem? (i := 1137) (by decide +kernel)), by decide +kernel⟩
theorem kt_1134 : (.methodLink RX10 205 yX10_isAsked : Cond) ∈ GT := List.mem_filter.mpr ⟨List.mem_append_right _ (List.mem_of_getElem? (i := 1134) (by decide +kernel)), by decide +kernel⟩
theorem kt_1136 : (.instanceMethod yX10_isAsked : Cond) ∈ GT := List.mem_filter.mpr ⟨List.mem_append_right _ (List.mem_of_getElem? (i := 1136) (by decide +kernel)), by decide +kernel⟩
theorem kp_62 : (.selects RX10 yX10_isAsked yX10_isAsked : Cond) ∈ GT := List.mem_filter.mpr ⟨List.mem_append_left _ (List.mem_of_getElem? (i := 62) (by decide +kernel)), by decide +kernel⟩
theorem kt_861 : (.fieldLink RX10 211 RX10 "answers" "I" : Cond) ∈ GT := List.mem_filter.mpr ⟨List.mem_append_right _ (List.mem_of_getElem? (i := 861) (by decide +kernel)), by decide +kernel⟩
theorem kt_862 : (.fieldLink RX10 214 RX10 "leastCode" "I" : Cond) ∈ GT := List.mem_filter.mpr ⟨List.mem_append_right _ (List.mem_of_getElem? (i := 862) (by decide +kernel)), by decide +kernel⟩
theorem kt_863 : (.fieldLink RX10 217 RX10 "areOutputs" "Z" : Cond) ∈ GT := List.mem_filter.mpr ⟨List.mem_append_right _ (List.mem_of_getElem? (i := 863) (by decide +kernel)), by decide +kernel⟩
theorem kt_1154 : (.code yX10_findAnswer cX10_findAnswer 7 (none) : Cond) ∈ GT := List.mem_filter.mpr ⟨List.mem_append_right _ (List.mem_of_getElem? (i := 1154) (by decide +kernel)), by decide +kernel⟩
theorem kt_1151 : (.methodLink RX10 230 yX10_findAnswer : Cond) ∈ GT := List.mem_filter.mpr ⟨List.mem_append_right _ (List.mem_of_getElem? (i := 1151) (by decide +kernel)), by decide +kernel⟩
theorem kt_1153 : (.instanceMethod yX10_findAnswer : Cond) ∈ GT := List.mem_filter.mpr ⟨List.mem_append_right _ (List.mem_of_getElem? (i := 1153) (by decide +kernel)), by decide +kernel⟩
theorem kp_65 : (.selects RX10 yX10_findAnswer yX10_findAnswer : Cond) ∈ GT := List.mem_filter.mpr ⟨List.mem_append_left _ (List.mem_of_getElem? (i := 65) (by decide +kernel)), by decide +kernel⟩
theorem kt_1171 : (.constantLong RX10 233 (-9223372036854775808) : Cond) ∈ GT := List.mem_filter.mpr ⟨List.mem_append_right _ (List.mem_of_getElem? (i := 1171) (by decide +kernel)), by decide +kernel⟩
theorem kt_853 : (.fieldLink RX10 41 RX10 "isSaved" "Z" : Cond) ∈ GT := List.mem_filter.mpr ⟨List.mem_append_right _ (List.mem_of_getElem? (i := 853) (by decide +kernel)), by decide +kernel⟩
theorem kt_1212 : (.code yX10_activeMany cX10_activeMany 3 (some .int) : Cond) ∈ GT := List.mem_filter.mpr ⟨List.mem_append_right _ (List.mem_of_getElem? (i := 1212) (by decide +kernel)), by decide +kernel⟩
theorem kt_1209 : (.methodLink RX10 249 yX10_activeMany : Cond) ∈ GT := List.mem_filter.mpr ⟨List.mem_append_right _ (List.mem_of_getElem? (i := 1209) (by decide +kernel)), by decide +kernel⟩
theorem kt_1211 : (.instanceMethod yX10_activeMany : Cond) ∈ GT := List.mem_filter.mpr ⟨List.mem_append_right _ (List.mem_of_getElem? (i := 1211) (by decide +kernel)), by decide +kernel⟩
theorem kp_70 : (.selects RX10 yX10_activeMany yX10_activeMany : Cond) ∈ GT := List.mem_filter.mpr ⟨List.mem_append_left _ (List.mem_of_getElem? (i := 70) (by decide +kernel)), by decide +kernel⟩
