/-! ===== the few library members that the text constant reaches ===== -/
theorem dj1_0 : decode prog_18_method_11_code 0 = .ok (.iload_n 0, 1) := by decide +kernel
theorem dj1_1 : decode prog_18_method_11_code 1 = .ok (.ifCond .lt 8, 3) := by decide +kernel
theorem dj1_4 : decode prog_18_method_11_code 4 = .ok (.iload_n 0, 1) := by decide +kernel
theorem dj1_5 : decode prog_18_method_11_code 5 = .ok (.iload_n 1, 1) := by decide +kernel
theorem dj1_6 : decode prog_18_method_11_code 6 = .ok (.if_icmp .lt 10, 3) := by decide +kernel
theorem dj1_16 : decode prog_18_method_11_code 16 = .ok (.iload_n 0, 1) := by decide +kernel
theorem dj1_17 : decode prog_18_method_11_code 17 = .ok (.ireturn, 1) := by decide +kernel
theorem dj2_0 : decode prog_13_method_155_code 0 = .ok (.iload_n 0, 1) := by decide +kernel
theorem dj2_1 : decode prog_13_method_155_code 1 = .ok (.iload_n 1, 1) := by decide +kernel
theorem dj2_2 : decode prog_13_method_155_code 2 = .ok (.getstatic 1053, 3) := by decide +kernel
theorem dj2_5 : decode prog_13_method_155_code 5 = .ok (.invokestatic 1059, 3) := by decide +kernel
theorem dj2_8 : decode prog_13_method_155_code 8 = .ok (.pop, 1) := by decide +kernel
theorem dj2_9 : decode prog_13_method_155_code 9 = .ok (.return_, 1) := by decide +kernel
theorem dj3_0 : decode prog_14_method_2_code 0 = .ok (.iload_n 1, 1) := by decide +kernel
theorem dj3_1 : decode prog_14_method_2_code 1 = .ok (.aload_n 0, 1) := by decide +kernel
theorem dj3_2 : decode prog_14_method_2_code 2 = .ok (.arraylength, 1) := by decide +kernel
theorem dj3_3 : decode prog_14_method_2_code 3 = .ok (.invokestatic 9, 3) := by decide +kernel
theorem dj3_6 : decode prog_14_method_2_code 6 = .ok (.aload_n 0, 1) := by decide +kernel
theorem dj3_7 : decode prog_14_method_2_code 7 = .ok (.iload_n 1, 1) := by decide +kernel
theorem dj3_8 : decode prog_14_method_2_code 8 = .ok (.baload, 1) := by decide +kernel
theorem dj3_9 : decode prog_14_method_2_code 9 = .ok (.sipush 255, 3) := by decide +kernel
theorem dj3_12 : decode prog_14_method_2_code 12 = .ok (.iand, 1) := by decide +kernel
theorem dj3_13 : decode prog_14_method_2_code 13 = .ok (.i2c, 1) := by decide +kernel
theorem dj3_14 : decode prog_14_method_2_code 14 = .ok (.ireturn, 1) := by decide +kernel
theorem dj4_0 : decode prog_13_method_154_code 0 = .ok (.getstatic 38, 3) := by decide +kernel
theorem dj4_3 : decode prog_13_method_154_code 3 = .ok (.ifCond .eq 14, 3) := by decide +kernel
theorem dj4_6 : decode prog_13_method_154_code 6 = .ok (.aload_n 0, 1) := by decide +kernel
theorem dj4_7 : decode prog_13_method_154_code 7 = .ok (.getfield 15, 3) := by decide +kernel
theorem dj4_10 : decode prog_13_method_154_code 10 = .ok (.ifCond .ne 7, 3) := by decide +kernel
theorem dj4_13 : decode prog_13_method_154_code 13 = .ok (.iconst 1, 1) := by decide +kernel
theorem dj4_14 : decode prog_13_method_154_code 14 = .ok (.goto 4, 3) := by decide +kernel
theorem dj4_18 : decode prog_13_method_154_code 18 = .ok (.ireturn, 1) := by decide +kernel
theorem dj5_0 : decode prog_13_method_152_code 0 = .ok (.getstatic 38, 3) := by decide +kernel
theorem dj5_3 : decode prog_13_method_152_code 3 = .ok (.ifCond .eq 10, 3) := by decide +kernel
theorem dj5_6 : decode prog_13_method_152_code 6 = .ok (.aload_n 0, 1) := by decide +kernel
theorem dj5_7 : decode prog_13_method_152_code 7 = .ok (.getfield 15, 3) := by decide +kernel
theorem dj5_10 : decode prog_13_method_152_code 10 = .ok (.goto 4, 3) := by decide +kernel
theorem dj5_14 : decode prog_13_method_152_code 14 = .ok (.ireturn, 1) := by decide +kernel
theorem dj6_0 : decode prog_13_method_54_code 0 = .ok (.aload_n 0, 1) := by decide +kernel
theorem dj6_1 : decode prog_13_method_54_code 1 = .ok (.getfield 9, 3) := by decide +kernel
theorem dj6_4 : decode prog_13_method_54_code 4 = .ok (.arraylength, 1) := by decide +kernel
theorem dj6_5 : decode prog_13_method_54_code 5 = .ok (.aload_n 0, 1) := by decide +kernel
theorem dj6_6 : decode prog_13_method_54_code 6 = .ok (.invokevirtual 335, 3) := by decide +kernel
theorem dj6_9 : decode prog_13_method_54_code 9 = .ok (.ishr, 1) := by decide +kernel
theorem dj6_10 : decode prog_13_method_54_code 10 = .ok (.ireturn, 1) := by decide +kernel
theorem dj7_0 : decode prog_13_method_56_code 0 = .ok (.aload_n 0, 1) := by decide +kernel
theorem dj7_1 : decode prog_13_method_56_code 1 = .ok (.invokevirtual 492, 3) := by decide +kernel
theorem dj7_4 : decode prog_13_method_56_code 4 = .ok (.ifCond .eq 12, 3) := by decide +kernel
theorem dj7_7 : decode prog_13_method_56_code 7 = .ok (.aload_n 0, 1) := by decide +kernel
theorem dj7_8 : decode prog_13_method_56_code 8 = .ok (.getfield 9, 3) := by decide +kernel
theorem dj7_11 : decode prog_13_method_56_code 11 = .ok (.iload_n 1, 1) := by decide +kernel
theorem dj7_12 : decode prog_13_method_56_code 12 = .ok (.invokestatic 495, 3) := by decide +kernel
theorem dj7_15 : decode prog_13_method_56_code 15 = .ok (.ireturn, 1) := by decide +kernel
abbrev jy1 : MethodName := ⟨"jdk/internal/util/Preconditions", "checkIndex", "(IILjava/util/function/BiFunction;)I"⟩
abbrev jw1 : List Cond := Cond.code jy1 prog_18_method_11_code 3 (some .int) :: wl
set_option maxRecDepth 20000 in
theorem jc1 : Cond.code jy1 prog_18_method_11_code 3 (some .int) ∈ wl := wl_t 318 rfl rfl
theorem jg1 : GoodIn wl jw1 := by
  intro w hw
  have hm : w ∈ wl := by
    rcases List.mem_cons.mp hw with q | q
    · rw [q]; exact jc1
    · exact q
  exact ⟨hm, good_of_word (List.mem_filter.mp hm).2⟩
abbrev jy2 : MethodName := ⟨"java/lang/String", "checkIndex", "(II)V"⟩
abbrev jw2 : List Cond := Cond.code jy2 prog_13_method_155_code 2 none :: wl
set_option maxRecDepth 20000 in
theorem jc2 : Cond.code jy2 prog_13_method_155_code 2 none ∈ wl := wl_t 313 rfl rfl
theorem jg2 : GoodIn wl jw2 := by
  intro w hw
  have hm : w ∈ wl := by
    rcases List.mem_cons.mp hw with q | q
    · rw [q]; exact jc2
    · exact q
  exact ⟨hm, good_of_word (List.mem_filter.mp hm).2⟩
abbrev jy3 : MethodName := ⟨"java/lang/StringLatin1", "charAt", "([BI)C"⟩
abbrev jw3 : List Cond := Cond.code jy3 prog_14_method_2_code 2 (some .char) :: wl
set_option maxRecDepth 20000 in
theorem jc3 : Cond.code jy3 prog_14_method_2_code 2 (some .char) ∈ wl := wl_t 310 rfl rfl
theorem jg3 : GoodIn wl jw3 := by
  intro w hw
  have hm : w ∈ wl := by
    rcases List.mem_cons.mp hw with q | q
    · rw [q]; exact jc3
    · exact q
  exact ⟨hm, good_of_word (List.mem_filter.mp hm).2⟩
abbrev jy4 : MethodName := ⟨"java/lang/String", "isLatin1", "()Z"⟩
abbrev jw4 : List Cond := Cond.code jy4 prog_13_method_154_code 1 (some .boolean) :: wl
set_option maxRecDepth 20000 in
theorem jc4 : Cond.code jy4 prog_13_method_154_code 1 (some .boolean) ∈ wl := wl_t 307 rfl rfl
theorem jg4 : GoodIn wl jw4 := by
  intro w hw
  have hm : w ∈ wl := by
    rcases List.mem_cons.mp hw with q | q
    · rw [q]; exact jc4
    · exact q
  exact ⟨hm, good_of_word (List.mem_filter.mp hm).2⟩
abbrev jy5 : MethodName := ⟨"java/lang/String", "coder", "()B"⟩
abbrev jw5 : List Cond := Cond.code jy5 prog_13_method_152_code 1 (some .byte) :: wl
set_option maxRecDepth 20000 in
theorem jc5 : Cond.code jy5 prog_13_method_152_code 1 (some .byte) ∈ wl := wl_t 297 rfl rfl
theorem jg5 : GoodIn wl jw5 := by
  intro w hw
  have hm : w ∈ wl := by
    rcases List.mem_cons.mp hw with q | q
    · rw [q]; exact jc5
    · exact q
  exact ⟨hm, good_of_word (List.mem_filter.mp hm).2⟩
abbrev jy6 : MethodName := ⟨"java/lang/String", "length", "()I"⟩
abbrev jw6 : List Cond := Cond.code jy6 prog_13_method_54_code 1 (some .int) :: wl
set_option maxRecDepth 20000 in
theorem jc6 : Cond.code jy6 prog_13_method_54_code 1 (some .int) ∈ wl := wl_t 293 rfl rfl
theorem jg6 : GoodIn wl jw6 := by
  intro w hw
  have hm : w ∈ wl := by
    rcases List.mem_cons.mp hw with q | q
    · rw [q]; exact jc6
    · exact q
  exact ⟨hm, good_of_word (List.mem_filter.mp hm).2⟩
abbrev jy7 : MethodName := ⟨"java/lang/String", "charAt", "(I)C"⟩
abbrev jw7 : List Cond := Cond.code jy7 prog_13_method_56_code 2 (some .char) :: wl
set_option maxRecDepth 20000 in
theorem jc7 : Cond.code jy7 prog_13_method_56_code 2 (some .char) ∈ wl := wl_t 303 rfl rfl
theorem jg7 : GoodIn wl jw7 := by
  intro w hw
  have hm : w ∈ wl := by
    rcases List.mem_cons.mp hw with q | q
    · rw [q]; exact jc7
    · exact q
  exact ⟨hm, good_of_word (List.mem_filter.mp hm).2⟩
set_option maxRecDepth 20000 in
theorem q_i1 : Cond.initialized "java/lang/String" ∈ wl := wl_t 10 rfl rfl
set_option maxRecDepth 20000 in
theorem q_i2 : Cond.initialized "java/lang/StringLatin1" ∈ wl := wl_t 11 rfl rfl
set_option maxRecDepth 20000 in
theorem q_i3 : Cond.initialized "jdk/internal/util/Preconditions" ∈ wl := wl_t 12 rfl rfl
set_option maxRecDepth 20000 in
theorem q_l6 : Cond.methodLink "TierPods" 80 jy6 ∈ wl := wl_t 290 rfl rfl
set_option maxRecDepth 20000 in
theorem q_m6 : Cond.instanceMethod jy6 ∈ wl := wl_t 291 rfl rfl
set_option maxRecDepth 20000 in
theorem q_s6 : Cond.selects "java/lang/String" jy6 jy6 ∈ wl := wl_t 292 rfl rfl
set_option maxRecDepth 20000 in
theorem q_l5 : Cond.methodLink "java/lang/String" 335 jy5 ∈ wl := wl_t 294 rfl rfl
set_option maxRecDepth 20000 in
theorem q_m5 : Cond.instanceMethod jy5 ∈ wl := wl_t 295 rfl rfl
set_option maxRecDepth 20000 in
theorem q_s5 : Cond.selects "java/lang/String" jy5 jy5 ∈ wl := wl_t 296 rfl rfl
set_option maxRecDepth 20000 in
theorem q_f38 : Cond.fieldLink "java/lang/String" 38 "java/lang/String" "COMPACT_STRINGS" "Z" ∈ wl := wl_t 298 rfl rfl
set_option maxRecDepth 20000 in
theorem q_l7 : Cond.methodLink "TierPods" 86 jy7 ∈ wl := wl_t 300 rfl rfl
set_option maxRecDepth 20000 in
theorem q_m7 : Cond.instanceMethod jy7 ∈ wl := wl_t 301 rfl rfl
set_option maxRecDepth 20000 in
theorem q_s7 : Cond.selects "java/lang/String" jy7 jy7 ∈ wl := wl_t 302 rfl rfl
set_option maxRecDepth 20000 in
theorem q_l4 : Cond.methodLink "java/lang/String" 492 jy4 ∈ wl := wl_t 304 rfl rfl
set_option maxRecDepth 20000 in
theorem q_m4 : Cond.instanceMethod jy4 ∈ wl := wl_t 305 rfl rfl
set_option maxRecDepth 20000 in
theorem q_s4 : Cond.selects "java/lang/String" jy4 jy4 ∈ wl := wl_t 306 rfl rfl
set_option maxRecDepth 20000 in
theorem q_l3 : Cond.methodLink "java/lang/String" 495 jy3 ∈ wl := wl_t 308 rfl rfl
set_option maxRecDepth 20000 in
theorem q_t3 : Cond.static jy3 ∈ wl := wl_t 309 rfl rfl
set_option maxRecDepth 20000 in
theorem q_l2 : Cond.methodLink "java/lang/StringLatin1" 9 jy2 ∈ wl := wl_t 311 rfl rfl
set_option maxRecDepth 20000 in
theorem q_t2 : Cond.static jy2 ∈ wl := wl_t 312 rfl rfl
set_option maxRecDepth 20000 in
theorem q_f1053 : Cond.fieldLink "java/lang/String" 1053 "jdk/internal/util/Preconditions" "SIOOBE_FORMATTER" "Ljava/util/function/BiFunction;" ∈ wl := wl_t 314 rfl rfl
set_option maxRecDepth 20000 in
theorem q_l1 : Cond.methodLink "java/lang/String" 1059 jy1 ∈ wl := wl_t 316 rfl rfl
set_option maxRecDepth 20000 in
theorem q_t1 : Cond.static jy1 ∈ wl := wl_t 317 rfl rfl
set_option maxRecDepth 20000 in
theorem q_f9 : Cond.fieldLink "java/lang/String" 9 "java/lang/String" "value" "[B" ∈ wl := wl_t 1223 rfl rfl
set_option maxRecDepth 20000 in
theorem q_f15 : Cond.fieldLink "java/lang/String" 15 "java/lang/String" "coder" "B" ∈ wl := wl_t 1224 rfl rfl
abbrev jN : Nat → Prop := fun _ => False
abbrev jB (j : Nat) : Int32 := ([txtI].getD 0 []).getD j 0
theorem jtx : ∀ k : Nat, k < 67 → ((jB k &&& 255).toUInt32 % 65536).toInt32 = Int32.ofInt (txt0.getD k 0 : Nat) ∧ narrow .char (.int (Int32.ofInt (txt0.getD k 0 : Nat))) = .int (Int32.ofInt (txt0.getD k 0 : Nat)) := by decide +kernel
/-- what of the text lies where it lies -/
def JB (a v : Nat) (A : Nat → Prop) (U : State) (H : Heap) : Prop := va_Z "java/lang/String" "COMPACT_STRINGS" "Z" (.int 1) A U H ∧ va_Zq "jdk/internal/util/Preconditions" "SIOOBE_FORMATTER" "Ljava/util/function/BiFunction;" A U H ∧ vk_S 1 [67] [txtI] (fun _ => a) (fun _ => v) A U H
theorem JB.at {a v : Nat} {A B : Nat → Prop} {s U : State} {H : Heap} {locs : List Loc} (q : JB a v A s s.heap) (hS : va_S A s.heap H locs) (hW : s.WarmedH U.vm) (hU : U.heap = H) (hB : ∀ z, B z → A z) : JB a v B U U.heap := by
  obtain ⟨q1, q2, q3⟩ := q
  rw [← hU] at hS
  have hq : ∀ a : Nat, a < s.heap.size → ¬ A a → U.heap[a]? = s.heap[a]? := hS.2.1
  exact ⟨((q1.moved hW.alike).kept hq).narrow hB, ((q2.moved hW.alike).kept hq).narrow hB, ((q3.moved hW.alike).kept hq).narrow hB⟩
abbrev jP (av : List Value) (a v : Nat) : Array Value → State → Prop := va_Pc av (fun U => JB a v jN U U.heap)
theorem jP.blind {av : List Value} {a v : Nat} : FrameBlind (jP av a v) := by
  intro x U g mk q
  obtain ⟨q0, q1, q2, q3⟩ := q
  exact ⟨q0, va_Z.moved (u := U) (Vm.Alike.refl U.vm) q1, va_Zq.moved (u := U) (Vm.Alike.refl U.vm) q2, vk_S.moved (u := U) (Vm.Alike.refl U.vm) q3⟩
abbrev jQ (z : Int32) : Array Value → State → Outcome → State → Prop := va_Qi (fun (r : Int32) (_ : Unit) => r = z) (fun _ _ => True) jN
abbrev jQv : Array Value → State → Outcome → State → Prop := va_Qv (fun (_ : Unit) => True) (fun _ _ => True) jN
section JDK
variable {l : Launch} {a v : Nat}
theorem jm1n {i n : Int32} (h0 : ¬ i < 0) (h1 : i < n) : Met l jy1 jw1 (rmD 0 0 0) (jP [.int i, .int n, .null] a v) (jQ i) 0 0 jN := by
  refine Met.ofW (cc := prog_18_method_11_code) (maxL := 3) (ret := (some .int)) (by decide) rfl ?_
  intro p e s m args below meth c s₁ B hml hv
  obtain ⟨rfl, hJ⟩ := hv
  have hx := B.exec
  have hb := B.bytes
  have hr := B.returns
  have hlk := B.notSynchronized
  have hts0 := atoms_spec (ws := jw1) B.pre
  have hts : ∀ w ∈ wl, w.before [.int i, .int n, .null].toArray s = true := fun w hw => hts0 w (List.mem_cons_of_mem _ hw)
  have hown : s.vm.findClass jy1.cls = some m.cls := findClass_of_methodNamed B.named
  have hS : va_S jN s.heap s.heap [] := va_S.rf
  have hl := lv_entry [.int i, .int n, .null] (n := 3) (Nat.le_of_ble_eq_true rfl)
  rw [lg_entry_eq]
  generalize (lg_sl [.int i, .int n, .null] ++ List.replicate (3 - (lg_sl [.int i, .int n, .null]).length) Slot.unset).toArray = ls at hl ⊢
  have hl : lv_has ls 3 [(0, .int i), (1, .int n), (2, .null)] := hl
  refine lv_iload_n hx hb dj1_0 rfl (lv_at hl 0 rfl) ?_
  refine lv_if_lt (tgt := 9) hx hb dj1_1 (by decide) (fun q => absurd q h0) (fun _ => ?_)
  refine lv_iload_n hx hb dj1_4 rfl (lv_at hl 0 rfl) ?_
  refine lv_iload_n hx hb dj1_5 rfl (lv_at hl 1 rfl) ?_
  refine lv_icmp_lt (tgt := 16) hx hb dj1_6 (by decide) (fun _ => ?_) (fun q => absurd h1 q)
  refine lv_iload_n hx hb dj1_16 rfl (lv_at hl 0 rfl) ?_
  exact W.iret hx hb hr (fun t ht hW => ⟨⟨i, (), rfl, rfl, trivial⟩, hS.F ht⟩) hS.2.2 dj1_17 hlk
theorem jm1r {t : Nat} {i n : Int32} (h0 : ¬ i < 0) (h1 : i < n) : Met l jy1 jw1 (rmD 0 0 0) (jP [.int i, .int n, .ref t] a v) (jQ i) 0 0 jN := by
  refine Met.ofW (cc := prog_18_method_11_code) (maxL := 3) (ret := (some .int)) (by decide) rfl ?_
  intro p e s m args below meth c s₁ B hml hv
  obtain ⟨rfl, hJ⟩ := hv
  have hx := B.exec
  have hb := B.bytes
  have hr := B.returns
  have hlk := B.notSynchronized
  have hts0 := atoms_spec (ws := jw1) B.pre
  have hts : ∀ w ∈ wl, w.before [.int i, .int n, .ref t].toArray s = true := fun w hw => hts0 w (List.mem_cons_of_mem _ hw)
  have hown : s.vm.findClass jy1.cls = some m.cls := findClass_of_methodNamed B.named
  have hS : va_S jN s.heap s.heap [] := va_S.rf
  have hl := lv_entry [.int i, .int n, .ref t] (n := 3) (Nat.le_of_ble_eq_true rfl)
  rw [lg_entry_eq]
  generalize (lg_sl [.int i, .int n, .ref t] ++ List.replicate (3 - (lg_sl [.int i, .int n, .ref t]).length) Slot.unset).toArray = ls at hl ⊢
  have hl : lv_has ls 3 [(0, .int i), (1, .int n), (2, .ref t)] := hl
  refine lv_iload_n hx hb dj1_0 rfl (lv_at hl 0 rfl) ?_
  refine lv_if_lt (tgt := 9) hx hb dj1_1 (by decide) (fun q => absurd q h0) (fun _ => ?_)
  refine lv_iload_n hx hb dj1_4 rfl (lv_at hl 0 rfl) ?_
  refine lv_iload_n hx hb dj1_5 rfl (lv_at hl 1 rfl) ?_
  refine lv_icmp_lt (tgt := 16) hx hb dj1_6 (by decide) (fun _ => ?_) (fun q => absurd h1 q)
  refine lv_iload_n hx hb dj1_16 rfl (lv_at hl 0 rfl) ?_
  exact W.iret hx hb hr (fun t ht hW => ⟨⟨i, (), rfl, rfl, trivial⟩, hS.F ht⟩) hS.2.2 dj1_17 hlk
theorem jm2 {i n : Int32} (h0 : ¬ i < 0) (h1 : i < n) : Met l jy2 jw2 (rmD 1 0 0) (jP [.int i, .int n] a v) (jQv) 0 0 jN := by
  refine Met.ofW (cc := prog_13_method_155_code) (maxL := 2) (ret := none) (by decide) rfl ?_
  intro p e s m args below meth c s₁ B hml hv
  obtain ⟨rfl, hJ⟩ := hv
  have hx := B.exec
  have hb := B.bytes
  have hr := B.returns
  have hlk := B.notSynchronized
  have hts0 := atoms_spec (ws := jw2) B.pre
  have hts : ∀ w ∈ wl, w.before [.int i, .int n].toArray s = true := fun w hw => hts0 w (List.mem_cons_of_mem _ hw)
  have hown : s.vm.findClass jy2.cls = some m.cls := findClass_of_methodNamed B.named
  have hS : va_S jN s.heap s.heap [] := va_S.rf
  have hl := lv_entry [.int i, .int n] (n := 2) (Nat.le_of_ble_eq_true rfl)
  rw [lg_entry_eq]
  generalize (lg_sl [.int i, .int n] ++ List.replicate (2 - (lg_sl [.int i, .int n]).length) Slot.unset).toArray = ls at hl ⊢
  have hfix : CallFix p m c prog_13_method_155_code 2 s _ wl "java/lang/String" := ⟨hx, hb, hml, hown, hts⟩
  have hl : lv_has ls 2 [(0, .int i), (1, .int n)] := hl
  refine lv_iload_n hx hb dj2_0 rfl (lv_at hl 0 rfl) ?_
  refine lv_iload_n hx hb dj2_1 rfl (lv_at hl 1 rfl) ?_
  rcases hJ.2.1 with hz | ⟨t, hz⟩
  · refine va_gets hx hb hz hS hown (hts _ q_f1053) (fun _ h => h) dj2_2 ?_
    refine va_calli (va_runS (n := 3) (bytes := prog_18_method_11_code) (maxL := 3) (ret := some .int) (As := [.int i, .int n, .null]) (rest := []) hfix (jm1n h0 h1) ⟨callB_of 3 hts jg1 rfl rfl rfl (hts _ q_i3) (hts _ q_l1) ⟨by decide, by decide, by decide +kernel⟩ ⟨Nat.le_of_ble_eq_true rfl, Nat.le_of_ble_eq_true rfl⟩, hts _ q_t1⟩ ⟨jP.blind, fun U hU hW => ⟨rfl, hJ.at hS hW hU (fun _ z => z)⟩⟩ rfl rfl hl.1 rfl (lv_room (Nat.le_of_ble_eq_true rfl)) dj2_5 ⟨Nat.le_of_ble_eq_true rfl, Nat.le_of_ble_eq_true rfl⟩) hS (fun _ _ z => z.elim) (fun _ z => z.elim) (fun r u t H1 locs1 ht hvm hpost hB hsz hk hS => ?_)
    refine lv_pop hx hb dj2_8 rfl ?_
    exact W.vret hx hb hr (fun t ht hW => ⟨⟨(), rfl, trivial, trivial⟩, hS.F ht⟩) hS.2.2 dj2_9 hlk
  · refine va_gets hx hb hz hS hown (hts _ q_f1053) (fun _ h => h) dj2_2 ?_
    refine va_calli (va_runS (n := 3) (bytes := prog_18_method_11_code) (maxL := 3) (ret := some .int) (As := [.int i, .int n, .ref t]) (rest := []) hfix (jm1r h0 h1) ⟨callB_of 3 hts jg1 rfl rfl rfl (hts _ q_i3) (hts _ q_l1) ⟨by decide, by decide, by decide +kernel⟩ ⟨Nat.le_of_ble_eq_true rfl, Nat.le_of_ble_eq_true rfl⟩, hts _ q_t1⟩ ⟨jP.blind, fun U hU hW => ⟨rfl, hJ.at hS hW hU (fun _ z => z)⟩⟩ rfl rfl hl.1 rfl (lv_room (Nat.le_of_ble_eq_true rfl)) dj2_5 ⟨Nat.le_of_ble_eq_true rfl, Nat.le_of_ble_eq_true rfl⟩) hS (fun _ _ z => z.elim) (fun _ z => z.elim) (fun r u t H1 locs1 ht hvm hpost hB hsz hk hS => ?_)
    refine lv_pop hx hb dj2_8 rfl ?_
    exact W.vret hx hb hr (fun t ht hW => ⟨⟨(), rfl, trivial, trivial⟩, hS.F ht⟩) hS.2.2 dj2_9 hlk
theorem jm3 {k : Nat} (hk : k < 67) : Met l jy3 jw3 (rmD 2 0 0) (jP [.ref v, .int (Int32.ofInt k)] a v) (jQ (Int32.ofInt (txt0.getD k 0 : Nat))) 0 0 jN := by
  refine Met.ofW (cc := prog_14_method_2_code) (maxL := 2) (ret := (some .char)) (by decide) rfl ?_
  intro p e s m args below meth c s₁ B hml hv
  obtain ⟨rfl, hJ⟩ := hv
  have hx := B.exec
  have hb := B.bytes
  have hr := B.returns
  have hlk := B.notSynchronized
  have hts0 := atoms_spec (ws := jw3) B.pre
  have hts : ∀ w ∈ wl, w.before [.ref v, .int (Int32.ofInt k)].toArray s = true := fun w hw => hts0 w (List.mem_cons_of_mem _ hw)
  have hown : s.vm.findClass jy3.cls = some m.cls := findClass_of_methodNamed B.named
  have hS : va_S jN s.heap s.heap [] := va_S.rf
  have hl := lv_entry [.ref v, .int (Int32.ofInt k)] (n := 2) (Nat.le_of_ble_eq_true rfl)
  rw [lg_entry_eq]
  generalize (lg_sl [.ref v, .int (Int32.ofInt k)] ++ List.replicate (2 - (lg_sl [.ref v, .int (Int32.ofInt k)]).length) Slot.unset).toArray = ls at hl ⊢
  have hfix : CallFix p m c prog_14_method_2_code 2 s _ wl "java/lang/StringLatin1" := ⟨hx, hb, hml, hown, hts⟩
  have hl : lv_has ls 2 [(0, .ref v), (1, .int (Int32.ofInt k))] := hl
  have hT : va_T .byte v 67 (fun j => .int (jB j)) jN s s.heap := (hJ.2.2.1 0 (by decide)).2.2.2
  have hin : inR (k : Int) := ⟨by omega, by omega⟩
  have h0 : ¬ Int32.ofInt (k : Int) < 0 := fun z => by
    have := (oI_lt hin inR_0).mp z
    omega
  have h1 : Int32.ofInt (k : Int) < 67 := (oI_lt hin (show inR 67 from ⟨by decide, by decide⟩)).mpr (by omega)
  refine lv_iload_n hx hb dj3_0 rfl (lv_at hl 1 rfl) ?_
  refine lv_aload_n hx hb dj3_1 rfl (lv_at hl 0 rfl) ?_
  refine va_tlen hx hb hT hS (v := 67) rfl dj3_2 ?_
  refine va_callv (va_runS (n := 2) (bytes := prog_13_method_155_code) (maxL := 2) (ret := none) (As := [.int (Int32.ofInt k), .int 67]) (rest := []) hfix (jm2 h0 h1) ⟨callB_of 2 hts jg2 rfl rfl rfl (hts _ q_i1) (hts _ q_l2) ⟨by decide, by decide, by decide +kernel⟩ ⟨Nat.le_of_ble_eq_true rfl, Nat.le_of_ble_eq_true rfl⟩, hts _ q_t2⟩ ⟨jP.blind, fun U hU hW => ⟨rfl, hJ.at hS hW hU (fun _ z => z)⟩⟩ rfl rfl hl.1 rfl (lv_room (Nat.le_of_ble_eq_true rfl)) dj3_3 ⟨Nat.le_of_ble_eq_true rfl, Nat.le_of_ble_eq_true rfl⟩) hS (fun _ _ z => z.elim) (fun _ z => z.elim) (fun u t H1 locs1 ht hvm hpost hB hsz hk1 hS => ?_)
  refine lv_aload_n hx hb dj3_6 rfl (lv_at hl 0 rfl) ?_
  refine lv_iload_n hx hb dj3_7 rfl (lv_at hl 1 rfl) ?_
  refine va_tb hx hb hT hS (i := Int32.ofInt k) (in_vp hin (by omega) (by omega)) (v := .int (jB k)) (by rw [oI_n hin, Int.toNat_natCast]) dj3_8 ?_
  refine lv_sipush hx hb dj3_9 (v := 255) (by decide) ?_
  refine lv_iand hx hb dj3_12 ?_
  refine lv_i2c hx hb dj3_13 (jtx k hk).1 ?_
  exact W.zret hx hb hr (jtx k hk).2 (fun t ht hW => ⟨⟨_, (), rfl, rfl, trivial⟩, hS.F ht⟩) hS.2.2 dj3_14 hlk
theorem jm4  : Met l jy4 jw4 (rmD 0 0 0) (jP [.ref a] a v) (jQ 1) 0 0 jN := by
  refine Met.ofW (cc := prog_13_method_154_code) (maxL := 1) (ret := (some .boolean)) (by decide) rfl ?_
  intro p e s m args below meth c s₁ B hml hv
  obtain ⟨rfl, hJ⟩ := hv
  have hx := B.exec
  have hb := B.bytes
  have hr := B.returns
  have hlk := B.notSynchronized
  have hts0 := atoms_spec (ws := jw4) B.pre
  have hts : ∀ w ∈ wl, w.before [.ref a].toArray s = true := fun w hw => hts0 w (List.mem_cons_of_mem _ hw)
  have hown : s.vm.findClass jy4.cls = some m.cls := findClass_of_methodNamed B.named
  have hS : va_S jN s.heap s.heap [] := va_S.rf
  have hl := lv_entry [.ref a] (n := 1) (Nat.le_of_ble_eq_true rfl)
  rw [lg_entry_eq]
  generalize (lg_sl [.ref a] ++ List.replicate (1 - (lg_sl [.ref a]).length) Slot.unset).toArray = ls at hl ⊢
  have hl : lv_has ls 1 [(0, .ref a)] := hl
  refine va_gets hx hb hJ.1 hS hown (hts _ q_f38) (fun _ h => h) dj4_0 ?_
  refine lv_if_eq (tgt := 17) hx hb dj4_3 (by decide) (fun z => absurd z (by decide)) (fun _ => ?_)
  refine lv_aload_n hx hb dj4_6 rfl (lv_at hl 0 rfl) ?_
  refine vk_getf hx hb (hJ.2.2.1 0 (by decide)).2.1 hS hown (hts _ q_f15) (fun _ h => h) dj4_7 ?_
  refine lv_if_ne (tgt := 17) hx hb dj4_10 (by decide) (fun z => absurd rfl z) (fun _ => ?_)
  refine lv_iconst hx hb dj4_13 (v := 1) (by decide) ?_
  refine lv_goto (tgt := 18) hx hb dj4_14 (by decide) ?_
  exact W.zret hx hb hr rfl (fun t ht hW => ⟨⟨_, (), rfl, rfl, trivial⟩, hS.F ht⟩) hS.2.2 dj4_18 hlk
theorem jm5  : Met l jy5 jw5 (rmD 0 0 0) (jP [.ref a] a v) (jQ 0) 0 0 jN := by
  refine Met.ofW (cc := prog_13_method_152_code) (maxL := 1) (ret := (some .byte)) (by decide) rfl ?_
  intro p e s m args below meth c s₁ B hml hv
  obtain ⟨rfl, hJ⟩ := hv
  have hx := B.exec
  have hb := B.bytes
  have hr := B.returns
  have hlk := B.notSynchronized
  have hts0 := atoms_spec (ws := jw5) B.pre
  have hts : ∀ w ∈ wl, w.before [.ref a].toArray s = true := fun w hw => hts0 w (List.mem_cons_of_mem _ hw)
  have hown : s.vm.findClass jy5.cls = some m.cls := findClass_of_methodNamed B.named
  have hS : va_S jN s.heap s.heap [] := va_S.rf
  have hl := lv_entry [.ref a] (n := 1) (Nat.le_of_ble_eq_true rfl)
  rw [lg_entry_eq]
  generalize (lg_sl [.ref a] ++ List.replicate (1 - (lg_sl [.ref a]).length) Slot.unset).toArray = ls at hl ⊢
  have hl : lv_has ls 1 [(0, .ref a)] := hl
  refine va_gets hx hb hJ.1 hS hown (hts _ q_f38) (fun _ h => h) dj5_0 ?_
  refine lv_if_eq (tgt := 13) hx hb dj5_3 (by decide) (fun z => absurd z (by decide)) (fun _ => ?_)
  refine lv_aload_n hx hb dj5_6 rfl (lv_at hl 0 rfl) ?_
  refine vk_getf hx hb (hJ.2.2.1 0 (by decide)).2.1 hS hown (hts _ q_f15) (fun _ h => h) dj5_7 ?_
  refine lv_goto (tgt := 14) hx hb dj5_10 (by decide) ?_
  exact W.zret hx hb hr rfl (fun t ht hW => ⟨⟨_, (), rfl, rfl, trivial⟩, hS.F ht⟩) hS.2.2 dj5_14 hlk
theorem jm6  : Met l jy6 jw6 (rmD 1 0 0) (jP [.ref a] a v) (jQ 67) 0 0 jN := by
  refine Met.ofW (cc := prog_13_method_54_code) (maxL := 1) (ret := (some .int)) (by decide) rfl ?_
  intro p e s m args below meth c s₁ B hml hv
  obtain ⟨rfl, hJ⟩ := hv
  have hx := B.exec
  have hb := B.bytes
  have hr := B.returns
  have hlk := B.notSynchronized
  have hts0 := atoms_spec (ws := jw6) B.pre
  have hts : ∀ w ∈ wl, w.before [.ref a].toArray s = true := fun w hw => hts0 w (List.mem_cons_of_mem _ hw)
  have hown : s.vm.findClass jy6.cls = some m.cls := findClass_of_methodNamed B.named
  have hS : va_S jN s.heap s.heap [] := va_S.rf
  have hl := lv_entry [.ref a] (n := 1) (Nat.le_of_ble_eq_true rfl)
  rw [lg_entry_eq]
  generalize (lg_sl [.ref a] ++ List.replicate (1 - (lg_sl [.ref a]).length) Slot.unset).toArray = ls at hl ⊢
  have hfix : CallFix p m c prog_13_method_54_code 1 s _ wl "java/lang/String" := ⟨hx, hb, hml, hown, hts⟩
  have hl : lv_has ls 1 [(0, .ref a)] := hl
  have hT : va_T .byte v 67 (fun j => .int (jB j)) jN s s.heap := (hJ.2.2.1 0 (by decide)).2.2.2
  refine lv_aload_n hx hb dj6_0 rfl (lv_at hl 0 rfl) ?_
  refine vk_getf hx hb (hJ.2.2.1 0 (by decide)).2.2.1 hS hown (hts _ q_f9) (fun _ h => h) dj6_1 ?_
  refine va_tlen hx hb hT hS (v := 67) rfl dj6_4 ?_
  refine lv_aload_n hx hb dj6_5 rfl (lv_at hl 0 rfl) ?_
  refine va_calli (va_runV (n := 0) (bytes := prog_13_method_152_code) (maxL := 1) (ret := some .byte) (C := "java/lang/String") (b := a) (As := []) (rest := [.int 67]) hfix (jm5) ⟨callB_of 0 hts jg5 rfl rfl rfl (hts _ q_i1) (hts _ q_l5) ⟨by decide, by decide, by decide +kernel⟩ ⟨Nat.le_of_ble_eq_true rfl, Nat.le_of_ble_eq_true rfl⟩, hts _ q_m5, hts _ q_s5⟩ ⟨jP.blind, vk_recv hJ.2.2 (i := 0) (by decide) hS, fun U hU hW => ⟨rfl, hJ.at hS hW hU (fun _ z => z)⟩⟩ rfl rfl hl.1 rfl (lv_room (Nat.le_of_ble_eq_true rfl)) dj6_6 ⟨Nat.le_of_ble_eq_true rfl, Nat.le_of_ble_eq_true rfl⟩) hS (fun _ _ z => z.elim) (fun _ z => z.elim) (fun r u t H1 locs1 ht hvm hpost hB hsz hk1 hS => ?_)
  subst hpost
  refine lv_ishr hx hb dj6_9 ?_
  exact W.iret hx hb hr (fun t ht hW => ⟨⟨_, (), rfl, by decide, trivial⟩, hS.F ht⟩) hS.2.2 dj6_10 hlk
theorem jm7 {k : Nat} (hk : k < 67) : Met l jy7 jw7 (rmD 3 0 0) (jP [.ref a, .int (Int32.ofInt k)] a v) (jQ (Int32.ofInt (txt0.getD k 0 : Nat))) 0 0 jN := by
  refine Met.ofW (cc := prog_13_method_56_code) (maxL := 2) (ret := (some .char)) (by decide) rfl ?_
  intro p e s m args below meth c s₁ B hml hv
  obtain ⟨rfl, hJ⟩ := hv
  have hx := B.exec
  have hb := B.bytes
  have hr := B.returns
  have hlk := B.notSynchronized
  have hts0 := atoms_spec (ws := jw7) B.pre
  have hts : ∀ w ∈ wl, w.before [.ref a, .int (Int32.ofInt k)].toArray s = true := fun w hw => hts0 w (List.mem_cons_of_mem _ hw)
  have hown : s.vm.findClass jy7.cls = some m.cls := findClass_of_methodNamed B.named
  have hS : va_S jN s.heap s.heap [] := va_S.rf
  have hl := lv_entry [.ref a, .int (Int32.ofInt k)] (n := 2) (Nat.le_of_ble_eq_true rfl)
  rw [lg_entry_eq]
  generalize (lg_sl [.ref a, .int (Int32.ofInt k)] ++ List.replicate (2 - (lg_sl [.ref a, .int (Int32.ofInt k)]).length) Slot.unset).toArray = ls at hl ⊢
  have hfix : CallFix p m c prog_13_method_56_code 2 s _ wl "java/lang/String" := ⟨hx, hb, hml, hown, hts⟩
  have hl : lv_has ls 2 [(0, .ref a), (1, .int (Int32.ofInt k))] := hl
  refine lv_aload_n hx hb dj7_0 rfl (lv_at hl 0 rfl) ?_
  refine va_calli (va_runV (n := 0) (bytes := prog_13_method_154_code) (maxL := 1) (ret := some .boolean) (C := "java/lang/String") (b := a) (As := []) (rest := []) hfix (jm4) ⟨callB_of 0 hts jg4 rfl rfl rfl (hts _ q_i1) (hts _ q_l4) ⟨by decide, by decide, by decide +kernel⟩ ⟨Nat.le_of_ble_eq_true rfl, Nat.le_of_ble_eq_true rfl⟩, hts _ q_m4, hts _ q_s4⟩ ⟨jP.blind, vk_recv hJ.2.2 (i := 0) (by decide) hS, fun U hU hW => ⟨rfl, hJ.at hS hW hU (fun _ z => z)⟩⟩ rfl rfl hl.1 rfl (lv_room (Nat.le_of_ble_eq_true rfl)) dj7_1 ⟨Nat.le_of_ble_eq_true rfl, Nat.le_of_ble_eq_true rfl⟩) hS (fun _ _ z => z.elim) (fun _ z => z.elim) (fun r u t H1 locs1 ht hvm hpost hB hsz hk1 hS => ?_)
  subst hpost
  refine lv_if_eq (tgt := 16) hx hb dj7_4 (by decide) (fun z => absurd z (by decide)) (fun _ => ?_)
  refine lv_aload_n hx hb dj7_7 rfl (lv_at hl 0 rfl) ?_
  refine vk_getf hx hb (hJ.2.2.1 0 (by decide)).2.2.1 hS hown (hts _ q_f9) (fun _ h => h) dj7_8 ?_
  refine lv_iload_n hx hb dj7_11 rfl (lv_at hl 1 rfl) ?_
  refine va_calli (va_runS (n := 2) (bytes := prog_14_method_2_code) (maxL := 2) (ret := some .char) (As := [.ref v, .int (Int32.ofInt k)]) (rest := []) hfix (jm3 hk) ⟨callB_of 2 hts jg3 rfl rfl rfl (hts _ q_i2) (hts _ q_l3) ⟨by decide, by decide, by decide +kernel⟩ ⟨Nat.le_of_ble_eq_true rfl, Nat.le_of_ble_eq_true rfl⟩, hts _ q_t3⟩ ⟨jP.blind, fun U hU hW => ⟨rfl, hJ.at hS hW hU (fun _ z => z)⟩⟩ rfl rfl hl.1 rfl (lv_room (Nat.le_of_ble_eq_true rfl)) dj7_12 ⟨Nat.le_of_ble_eq_true rfl, Nat.le_of_ble_eq_true rfl⟩) hS (fun _ _ z => z.elim) (fun _ z => z.elim) (fun r u t H2 locs2 ht hvm hpost hB hsz hk2 hS => ?_)
  subst hpost
  exact W.zret hx hb hr (jtx k hk).2 (fun t ht hW => ⟨⟨_, (), rfl, rfl, trivial⟩, hS.F ht⟩) hS.2.2 dj7_15 hlk
end JDK
