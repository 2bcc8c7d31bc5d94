def vx_L (C n d : String) (A : Nat → Prop) (U : State) (H : Heap) : Prop := ∃ (c : ClassId) (k : Class) (i : Nat) (f : Field) (a : Nat) (cell : Cell), U.vm.findClass C = some c ∧ U.fieldFound? C n d = some (c, k, i, f) ∧ f.isStatic = true ∧ k.statics = some a ∧ H[a]? = some cell ∧ cell.vm.isStatics = true ∧ cell.cls = c ∧ f.slot < cell.slots.size ∧ k.staticTypes[f.slot]? = some f.type ∧ ¬ A a
theorem vx_L.moved {C n d : String} {A : Nat → Prop} {u U : State} {H : Heap} (hvm : u.vm.Alike U.vm) (h : vx_L C n d A u H) : vx_L C n d A U H := by
  obtain ⟨c, k, i, f, a, cell, h1, h2, h3, h4, h5, h6, h7, h8, h9, h10⟩ := h
  obtain ⟨k', hi', he⟩ := State.fieldFound?_setVm hvm h2
  exact ⟨c, k', i, f, a, cell, by rw [hvm.findClass]; exact h1, hi', h3, by rw [he]; exact h4, h5, h6, h7, h8, by rw [he]; exact h9, h10⟩
theorem vx_L.kept {C n d : String} {A : Nat → Prop} {U : State} {H H1 : Heap} (h : vx_L C n d A U H) (hq : ∀ a : Nat, a < H.size → ¬ A a → H1[a]? = H[a]?) : vx_L C n d A U H1 := by
  obtain ⟨c, k, i, f, a, cell, h1, h2, h3, h4, h5, h6, h7, h8, h9, h10⟩ := h
  exact ⟨c, k, i, f, a, cell, h1, h2, h3, h4, by rw [hq a (Array.getElem?_eq_some_iff.mp h5).1 h10]; exact h5, h6, h7, h8, h9, h10⟩
theorem vx_L.narrow {C n d : String} {A B : Nat → Prop} {U : State} {H : Heap} (h : vx_L C n d A U H) (hAB : ∀ q, B q → A q) : vx_L C n d B U H := by
  obtain ⟨c, k, i, f, a, cell, h1, h2, h3, h4, h5, h6, h7, h8, h9, h10⟩ := h
  exact ⟨c, k, i, f, a, cell, h1, h2, h3, h4, h5, h6, h7, h8, h9, fun z => h10 (hAB _ z)⟩
theorem vx_L.word {C n d : String} {A : Nat → Prop} {s : State} {args : Array Value} (h : vx_L C n d A s s.heap) : (Cond.laysStatic C n d).before args s = true := by
  obtain ⟨c, k, i, f, a, cell, h1, h2, h3, h4, h5, h6, h7, h8, h9, -⟩ := h
  show (Cond.laysStatic C n d).holds args s none s [] = true
  exact Cond.laysStatic_of h1 h2 h3 h4 h5 h6 h7 h8 h9
/-- .. and what it holds: null or some reference -/
def vx_Zq (C n d : String) (A : Nat → Prop) (U : State) (H : Heap) : Prop := va_Zq C n d A U H ∧ vx_L C n d A U H
theorem vx_Zq.moved {C n d : String} {A : Nat → Prop} {u U : State} {H : Heap} (hvm : u.vm.Alike U.vm) (h : vx_Zq C n d A u H) : vx_Zq C n d A U H := ⟨va_Zq.moved hvm h.1, vx_L.moved hvm h.2⟩
theorem vx_Zq.kept {C n d : String} {A : Nat → Prop} {U : State} {H H1 : Heap} (h : vx_Zq C n d A U H) (hq : ∀ a : Nat, a < H.size → ¬ A a → H1[a]? = H[a]?) : vx_Zq C n d A U H1 := ⟨va_Zq.kept h.1 hq, vx_L.kept h.2 hq⟩
theorem vx_Zq.narrow {C n d : String} {A B : Nat → Prop} {U : State} {H : Heap} (h : vx_Zq C n d A U H) (hAB : ∀ q, B q → A q) : vx_Zq C n d B U H := ⟨va_Zq.narrow h.1 hAB, vx_L.narrow h.2 hAB⟩
theorem vx_Zqof {args : Array Value} {s : State} {C n d : String} {A : Nat → Prop} (hl : (Cond.laysStatic C n d).before args s = true) (hini : (Cond.initialized C).before args s = true) (h : (Cond.isRef (.static C n d)).before args s = true) (hA : ∀ a : Nat, a < s.heap.size → ¬ A a) : vx_Zq C n d A s s.heap := by
  refine ⟨va_Zqof hl hini h hA, ?_⟩
  obtain ⟨c, k, i, f, a, cell, h1, h2, h3, h4, h5, h6, h7, h8, h9⟩ := Cond.laysStatic_spec hl
  exact ⟨c, k, i, f, a, cell, h1, h2, h3, h4, h5, h6, h7, h8, h9, hA a (Array.getElem?_eq_some_iff.mp h5).1⟩
theorem vx_isRef {C n d : String} {v : Value} {A : Nat → Prop} {s : State} {args : Array Value} (h : va_Z C n d v A s s.heap) (hv : v.isRef = true) : (Cond.isRef (.static C n d)).before args s = true := by
  obtain ⟨cf, kf, fi, f, a, cell, h1, h2, h3, h4, h5, h6, h7, -⟩ := h
  have he : (Term.static C n d).eval args s none [] s = some v := by
    simp [Term.eval, State.fieldNamed?, h1, h2, h4, h5, h6, h7]
  simp only [Cond.before, Cond.holds, Cond.value, he]
  cases v <;> simp_all [Value.isRef]
theorem vx_isRefq {C n d : String} {A : Nat → Prop} {s : State} {args : Array Value} (h : va_Zq C n d A s s.heap) : (Cond.isRef (.static C n d)).before args s = true := by
  rcases h with h | ⟨t, h⟩
  · exact vx_isRef h rfl
  · exact vx_isRef h rfl
/-- what a throw needs of the tables and of the statics, the latter in H outside A -/
def xTA (A : Nat → Prop) (U : State) (H : Heap) : Prop := vx_Zq "java/lang/Throwable" "UNASSIGNED_STACK" "[Ljava/lang/StackTraceElement;" A U H ∧ vx_Zq "java/lang/Throwable" "SUPPRESSED_SENTINEL" "Ljava/util/List;" A U H ∧ va_Nw (.declares (Bundle.initS "java/lang/RuntimeException")) U ∧ va_Nw (.declares (Bundle.initS "java/lang/Exception")) U ∧ va_Nw (.declares (Bundle.initS "java/lang/Throwable")) U ∧ (∃ a : Nat, vk_R "MeasuredStages" 47 "an image's number is 0 .. 7" a U) ∧ (∃ a : Nat, vk_R "MeasuredStages" 72 "a fault stopped the boot" a U) ∧ (∃ a : Nat, vk_R "MeasuredStages" 90 "a register's number is 0 .. 5" a U) ∧ (∃ a : Nat, vk_R "MeasuredStages" 100 "the log is full" a U) ∧ (∃ a : Nat, vk_R "MeasuredStages" 110 "the log has no such event" a U) ∧ (∃ a : Nat, vk_R "MeasuredStages" 126 "a mask is 1 .. 63" a U) ∧ (∃ a : Nat, vk_R "MeasuredStages" 132 "no blob is free" a U) ∧ (∃ a : Nat, vk_R "MeasuredStages" 144 "there is no such blob, or it is free" a U) ∧ (∃ a : Nat, vk_R "MeasuredStages" 149 "the blob is sealed to other registers" a U)
def xT (U : State) : Prop := xTA (fun _ => False) U U.heap
theorem xTA.at {A : Nat → Prop} {s U : State} {H : Heap} (h : xTA A s H) (hU : U.heap = H) (hW : s.WarmedH U.vm) : xT U := by
  obtain ⟨h0, h1, h2, h3, h4, h5, h6, h7, h8, h9, h10, h11, h12, h13⟩ := h
  unfold xT
  rw [hU]
  exact ⟨(vx_Zq.moved hW.alike h0).narrow (fun _ z => z.elim), (vx_Zq.moved hW.alike h1).narrow (fun _ z => z.elim), va_Nw.warmD hW h2, va_Nw.warmD hW h3, va_Nw.warmD hW h4, (fun ⟨a, z⟩ => ⟨a, vk_R.warm hW z⟩) h5, (fun ⟨a, z⟩ => ⟨a, vk_R.warm hW z⟩) h6, (fun ⟨a, z⟩ => ⟨a, vk_R.warm hW z⟩) h7, (fun ⟨a, z⟩ => ⟨a, vk_R.warm hW z⟩) h8, (fun ⟨a, z⟩ => ⟨a, vk_R.warm hW z⟩) h9, (fun ⟨a, z⟩ => ⟨a, vk_R.warm hW z⟩) h10, (fun ⟨a, z⟩ => ⟨a, vk_R.warm hW z⟩) h11, (fun ⟨a, z⟩ => ⟨a, vk_R.warm hW z⟩) h12, (fun ⟨a, z⟩ => ⟨a, vk_R.warm hW z⟩) h13⟩
theorem xTA.kept {A : Nat → Prop} {s : State} {H H1 : Heap} (h : xTA A s H) (hq : ∀ a : Nat, a < H.size → ¬ A a → H1[a]? = H[a]?) : xTA A s H1 := by
  obtain ⟨h0, h1, h2, h3, h4, h5, h6, h7, h8, h9, h10, h11, h12, h13⟩ := h
  exact ⟨vx_Zq.kept h0 hq, vx_Zq.kept h1 hq, h2, h3, h4, h5, h6, h7, h8, h9, h10, h11, h12, h13⟩
theorem xT.calling {U : State} {g : JFrame} {mk : MethodId} {a : Array Value} (h : xT U) : xT (U.calling g mk a) := by
  obtain ⟨h0, h1, h2, h3, h4, h5, h6, h7, h8, h9, h10, h11, h12, h13⟩ := h
  exact ⟨vx_Zq.moved (u := U) (U := U.calling g mk a) (Vm.Alike.refl U.vm) h0, vx_Zq.moved (u := U) (U := U.calling g mk a) (Vm.Alike.refl U.vm) h1, va_Nw.same rfl rfl h2, va_Nw.same rfl rfl h3, va_Nw.same rfl rfl h4, (fun ⟨a, z⟩ => ⟨a, vk_R.same rfl z⟩) h5, (fun ⟨a, z⟩ => ⟨a, vk_R.same rfl z⟩) h6, (fun ⟨a, z⟩ => ⟨a, vk_R.same rfl z⟩) h7, (fun ⟨a, z⟩ => ⟨a, vk_R.same rfl z⟩) h8, (fun ⟨a, z⟩ => ⟨a, vk_R.same rfl z⟩) h9, (fun ⟨a, z⟩ => ⟨a, vk_R.same rfl z⟩) h10, (fun ⟨a, z⟩ => ⟨a, vk_R.same rfl z⟩) h11, (fun ⟨a, z⟩ => ⟨a, vk_R.same rfl z⟩) h12, (fun ⟨a, z⟩ => ⟨a, vk_R.same rfl z⟩) h13⟩
def xw_PreT (D : va_G) (cs : Nat → ClassId) (ad : Nat → Nat) (u : Sg) (j : Jx) (sz : Nat) (U : State) : Prop := xw_Pre D cs ad u j sz U ∧ xT U
theorem xw_blindT {D : va_G} {cs : Nat → ClassId} {ad : Nat → Nat} {u : Sg} {j : Jx} {av : List Value} {sz : Nat} : FrameBlind (va_Pc av (xw_PreT D cs ad u j sz)) := fun a U g mk q => ⟨(xw_blind a U g mk ⟨q.1, q.2.1⟩).1, (xw_blind a U g mk ⟨q.1, q.2.1⟩).2, q.2.2.calling⟩
theorem xt_w1 {args : Array Value} {s : State} (hT : ∀ w ∈ TB, w.before args s = true) (hZ : xT s) : ∀ a ∈ Bundle.throwableAtoms, a.before args s = true := by
  intro a ha
  simp only [Bundle.throwableAtoms, List.mem_append, List.mem_cons, List.not_mem_nil, or_false] at ha
  rcases ha with rfl | rfl | rfl | rfl | rfl | rfl | rfl | rfl | rfl | rfl | rfl | rfl | rfl | rfl | rfl | rfl | rfl | rfl | rfl | rfl | rfl | rfl | rfl | rfl
  · exact hT _ tb_5
  · exact hT _ tb_176
  · exact hT _ tb_185
  · exact hT _ tb_190
  · exact hT _ tb_193
  · exact hT _ tb_195
  · exact hT _ tb_177
  · exact hT _ tb_178
  · exact hT _ tb_19
  · exact hT _ tb_20
  · exact hT _ tb_179
  · exact hT _ tb_184
  · exact hT _ tb_191
  · exact hT _ tb_211
  · exact hT _ tb_166
  · exact hT _ tb_212
  · exact hT _ tb_168
  · exact hT _ tb_213
  · exact hT _ tb_170
  · exact hT _ tb_180
  · exact hZ.1.2.word
  · exact hT _ tb_182
  · exact hZ.2.1.2.word
  · exact hT _ tb_172
theorem xt_w2 {args : Array Value} {s : State} (hT : ∀ w ∈ TB, w.before args s = true) : ∀ a ∈ Bundle.throwableSAtoms, a.before args s = true := by
  intro a ha
  simp only [Bundle.throwableSAtoms, List.mem_append, List.mem_cons, List.not_mem_nil, or_false] at ha
  rcases ha with rfl | rfl | rfl | rfl
  · exact hT _ tb_207
  · exact hT _ tb_208
  · exact hT _ tb_210
  · exact hT _ tb_172
theorem xt_w4 {args : Array Value} {s : State} (hT : ∀ w ∈ TB, w.before args s = true) (hZ : xT s) : ∀ a ∈ Bundle.chainSAtoms "java/lang/RuntimeException" ["java/lang/Exception"], a.before args s = true := by
  intro a ha
  rcases List.mem_append.mp (show a ∈ Bundle.passSAtoms "java/lang/RuntimeException" "java/lang/Exception" 7 Bundle.six ++ Bundle.passSAtoms "java/lang/Exception" Bundle.tN 7 Bundle.six from ha) with ha | ha
  · simp only [Bundle.passSAtoms, List.mem_cons, List.not_mem_nil, or_false] at ha
    rcases ha with rfl | rfl | rfl | rfl | rfl
    · exact hT _ tb_201
    · exact hT _ tb_202
    · exact hT _ tb_203
    · exact hT _ tb_204
    · exact va_Nw.use rfl hZ.2.2.2.1
  · simp only [Bundle.passSAtoms, List.mem_cons, List.not_mem_nil, or_false] at ha
    rcases ha with rfl | rfl | rfl | rfl | rfl
    · exact hT _ tb_204
    · exact hT _ tb_205
    · exact hT _ tb_206
    · exact hT _ tb_207
    · exact va_Nw.use rfl hZ.2.2.2.2.1
theorem xt_w3_IAE {args : Array Value} {s : State} (hT : ∀ w ∈ TB, w.before args s = true) (hZ : xT s) : ∀ a ∈ Bundle.passSAtoms "java/lang/IllegalArgumentException" "java/lang/RuntimeException" 7 prog_7_method_2_code, a.before args s = true := by
  intro a ha
  simp only [Bundle.passSAtoms, List.mem_append, List.mem_cons, List.not_mem_nil, or_false] at ha
  rcases ha with rfl | rfl | rfl | rfl | rfl
  · exact hT _ tb_198
  · exact hT _ tb_199
  · exact hT _ tb_200
  · exact hT _ tb_201
  · exact va_Nw.use rfl hZ.2.2.1
theorem xt_w5_IAE {args : Array Value} {s : State} (hT : ∀ w ∈ TB, w.before args s = true) : ∀ a ∈ tk_own "MeasuredStages" 45 49 "java/lang/IllegalArgumentException", a.before args s = true := by
  intro a ha
  simp only [tk_own, List.mem_append, List.mem_cons, List.not_mem_nil, or_false] at ha
  rcases ha with rfl | rfl | rfl | rfl | rfl | rfl | rfl | rfl | rfl | rfl | rfl | rfl | rfl
  · exact hT _ tb_154
  · exact hT _ tb_8
  · exact hT _ tb_197
  · exact hT _ tb_155
  · exact hT _ tb_163
  · exact hT _ tb_164
  · exact hT _ tb_165
  · exact hT _ tb_167
  · exact hT _ tb_169
  · exact hT _ tb_171
  · exact hT _ tb_175
  · exact hT _ tb_174
  · exact hT _ tb_173
theorem xd_IAE_0 : decode prog_7_method_2_code 0 = .ok (.aload_n 0, 1) := by decide +kernel
theorem xd_IAE_1 : decode prog_7_method_2_code 1 = .ok (.aload_n 1, 1) := by decide +kernel
theorem xd_IAE_2 : decode prog_7_method_2_code 2 = .ok (.invokespecial 7, 3) := by decide +kernel
theorem xd_IAE_5 : decode prog_7_method_2_code 5 = .ok (.return_, 1) := by decide +kernel
theorem xt_w3_ISE {args : Array Value} {s : State} (hT : ∀ w ∈ TB, w.before args s = true) (hZ : xT s) : ∀ a ∈ Bundle.passSAtoms "java/lang/IllegalStateException" "java/lang/RuntimeException" 7 prog_8_method_2_code, a.before args s = true := by
  intro a ha
  simp only [Bundle.passSAtoms, List.mem_append, List.mem_cons, List.not_mem_nil, or_false] at ha
  rcases ha with rfl | rfl | rfl | rfl | rfl
  · exact hT _ tb_332
  · exact hT _ tb_333
  · exact hT _ tb_334
  · exact hT _ tb_201
  · exact va_Nw.use rfl hZ.2.2.1
theorem xt_w5_ISE {args : Array Value} {s : State} (hT : ∀ w ∈ TB, w.before args s = true) : ∀ a ∈ tk_own "MeasuredStages" 70 74 "java/lang/IllegalStateException", a.before args s = true := by
  intro a ha
  simp only [tk_own, List.mem_append, List.mem_cons, List.not_mem_nil, or_false] at ha
  rcases ha with rfl | rfl | rfl | rfl | rfl | rfl | rfl | rfl | rfl | rfl | rfl | rfl | rfl
  · exact hT _ tb_321
  · exact hT _ tb_10
  · exact hT _ tb_331
  · exact hT _ tb_322
  · exact hT _ tb_324
  · exact hT _ tb_187
  · exact hT _ tb_325
  · exact hT _ tb_326
  · exact hT _ tb_327
  · exact hT _ tb_328
  · exact hT _ tb_175
  · exact hT _ tb_174
  · exact hT _ tb_329
theorem xd_ISE_0 : decode prog_8_method_2_code 0 = .ok (.aload_n 0, 1) := by decide +kernel
theorem xd_ISE_1 : decode prog_8_method_2_code 1 = .ok (.aload_n 1, 1) := by decide +kernel
theorem xd_ISE_2 : decode prog_8_method_2_code 2 = .ok (.invokespecial 7, 3) := by decide +kernel
theorem xd_ISE_5 : decode prog_8_method_2_code 5 = .ok (.return_, 1) := by decide +kernel
theorem xt_w3_IOOBE {args : Array Value} {s : State} (hT : ∀ w ∈ TB, w.before args s = true) (hZ : xT s) : ∀ a ∈ Bundle.passSAtoms "java/lang/IndexOutOfBoundsException" "java/lang/RuntimeException" 7 prog_9_method_2_code, a.before args s = true := by
  intro a ha
  simp only [Bundle.passSAtoms, List.mem_append, List.mem_cons, List.not_mem_nil, or_false] at ha
  rcases ha with rfl | rfl | rfl | rfl | rfl
  · exact hT _ tb_359
  · exact hT _ tb_360
  · exact hT _ tb_361
  · exact hT _ tb_201
  · exact va_Nw.use rfl hZ.2.2.1
theorem xt_w5_IOOBE {args : Array Value} {s : State} (hT : ∀ w ∈ TB, w.before args s = true) : ∀ a ∈ tk_own "MeasuredStages" 88 92 "java/lang/IndexOutOfBoundsException", a.before args s = true := by
  intro a ha
  simp only [tk_own, List.mem_append, List.mem_cons, List.not_mem_nil, or_false] at ha
  rcases ha with rfl | rfl | rfl | rfl | rfl | rfl | rfl | rfl | rfl | rfl | rfl | rfl | rfl
  · exact hT _ tb_348
  · exact hT _ tb_11
  · exact hT _ tb_358
  · exact hT _ tb_349
  · exact hT _ tb_351
  · exact hT _ tb_188
  · exact hT _ tb_352
  · exact hT _ tb_353
  · exact hT _ tb_354
  · exact hT _ tb_355
  · exact hT _ tb_175
  · exact hT _ tb_174
  · exact hT _ tb_356
theorem xd_IOOBE_0 : decode prog_9_method_2_code 0 = .ok (.aload_n 0, 1) := by decide +kernel
theorem xd_IOOBE_1 : decode prog_9_method_2_code 1 = .ok (.aload_n 1, 1) := by decide +kernel
theorem xd_IOOBE_2 : decode prog_9_method_2_code 2 = .ok (.invokespecial 7, 3) := by decide +kernel
theorem xd_IOOBE_5 : decode prog_9_method_2_code 5 = .ok (.return_, 1) := by decide +kernel
theorem xt_w3_NSEE {args : Array Value} {s : State} (hT : ∀ w ∈ TB, w.before args s = true) (hZ : xT s) : ∀ a ∈ Bundle.passSAtoms "java/util/NoSuchElementException" "java/lang/RuntimeException" 13 prog_14_method_4_code, a.before args s = true := by
  intro a ha
  simp only [Bundle.passSAtoms, List.mem_append, List.mem_cons, List.not_mem_nil, or_false] at ha
  rcases ha with rfl | rfl | rfl | rfl | rfl
  · exact hT _ tb_395
  · exact hT _ tb_396
  · exact hT _ tb_397
  · exact hT _ tb_201
  · exact va_Nw.use rfl hZ.2.2.1
theorem xt_w5_NSEE {args : Array Value} {s : State} (hT : ∀ w ∈ TB, w.before args s = true) : ∀ a ∈ tk_own "MeasuredStages" 108 112 "java/util/NoSuchElementException", a.before args s = true := by
  intro a ha
  simp only [tk_own, List.mem_append, List.mem_cons, List.not_mem_nil, or_false] at ha
  rcases ha with rfl | rfl | rfl | rfl | rfl | rfl | rfl | rfl | rfl | rfl | rfl | rfl | rfl
  · exact hT _ tb_384
  · exact hT _ tb_12
  · exact hT _ tb_394
  · exact hT _ tb_385
  · exact hT _ tb_387
  · exact hT _ tb_189
  · exact hT _ tb_388
  · exact hT _ tb_389
  · exact hT _ tb_390
  · exact hT _ tb_391
  · exact hT _ tb_175
  · exact hT _ tb_174
  · exact hT _ tb_392
theorem xd_NSEE_0 : decode prog_14_method_4_code 0 = .ok (.aload_n 0, 1) := by decide +kernel
theorem xd_NSEE_1 : decode prog_14_method_4_code 1 = .ok (.aload_n 1, 1) := by decide +kernel
theorem xd_NSEE_2 : decode prog_14_method_4_code 2 = .ok (.invokespecial 13, 3) := by decide +kernel
theorem xd_NSEE_5 : decode prog_14_method_4_code 5 = .ok (.return_, 1) := by decide +kernel
theorem xt_st {D : va_G} {cl : List vw_C} {ws : va_W} {H : Heap} {sz : Nat} (hP : va_P D cl ws H) (hz : H.size = sz) {q : Nat} (hq : va_A ws sz q) {cell : Cell} (hc : H[q]? = some cell) : cell.vm.isStatics = false := by
  rcases hq with ⟨k, e, hk⟩ | hq
  · have h := hP k _ hk
    unfold va_at at h
    cases e with
    | inl a =>
      have h : H[q]? = some (vp_cell a.1 a.2) := h
      rw [hc] at h
      cases h
      unfold vp_cell
      split <;> rfl
    | inr o =>
      obtain ⟨r, -, c, h1, -, h3, -⟩ := h
      have h1 : H[q]? = some c := h1
      rw [hc] at h1
      cases h1
      rw [h3]; rfl
  · have := (Array.getElem?_eq_some_iff.mp hc).1
    omega
