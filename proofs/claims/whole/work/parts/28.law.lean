/-- the class, the row for answers, the model: all that the law holds -/
def zw (ad : Nat → Nat) (cs : Nat → ClassId) (am : Nat → Nat) (cm : Nat → ClassId) (u : Sg) (j : Jy) (w : Sg) (k : Jm) : va_W := yw ad cs u j ++ mw am cm w k
def zty (cs cm : Nat → ClassId) : List (ClassId × FieldType) := yty cs ++ mty cm
theorem gj_V {own C : String} {index maxL : Nat} {y : MethodName} {bytes : ByteArray} {ret : Option FieldType} (h1 : Cond.methodLink own index y ∈ TB) (h2 : Cond.instanceMethod y ∈ TB) (h3 : Cond.selects C y y ∈ TB) (h4 : Cond.initialized C ∈ TB) (h5 : Cond.code y bytes maxL ret ∈ TB) :
    GoodIn TB (wsV own index C y (Cond.code y bytes maxL ret :: TB)) := fun w hw => by
  have hm : w ∈ TB := by
    simp only [wsV, List.mem_append, List.mem_cons, List.not_mem_nil, or_false] at hw
    rcases hw with (rfl | rfl | rfl | rfl) | rfl | hw
    · exact h1
    · exact h2
    · exact h3
    · exact h4
    · exact h5
    · exact hw
  exact ⟨hm, tb_good hm⟩
theorem gj_SW {own : String} {index maxL : Nat} {y : MethodName} {bytes : ByteArray} {ret : Option FieldType} {hh : List (Nat × Nat × Nat × Nat)} (h1 : Cond.methodLink own index y ∈ TB) (h2 : Cond.static y ∈ TB) (h4 : Cond.initialized y.cls ∈ TB) (h5 : Cond.codeWith y bytes maxL ret hh ∈ TB) :
    GoodIn TB (va_wsS own index y (Cond.codeWith y bytes maxL ret hh :: TB)) := fun w hw => by
  have hm : w ∈ TB := by
    simp only [va_wsS, List.mem_append, List.mem_cons, List.not_mem_nil, or_false] at hw
    rcases hw with (rfl | rfl | rfl) | rfl | hw
    · exact h1
    · exact h2
    · exact h4
    · exact h5
    · exact hw
  exact ⟨hm, tb_good hm⟩
section ZW
variable {p : Program} {l : Launch} {e : Env} {R : Room} {s : State} {m : MethodId} {args : Array Value} {below : List Frame} {meth : Method} {c : Code} {H : Heap} {locs : List Loc} {cells slots : Nat} {Q : State → Prop}
variable {y : MethodName} {bytes cc : ByteArray} {maxL nL index pc : Nat} {ret : Option FieldType} {rm : Room} {own C host : String} {b : Nat} {As rest st0 : List Value} {ls : Array Slot} {D : va_G} {cs cm : Nat → ClassId} {ad am : Nat → Nat} {u u' w w' : Sg} {A : Nat → Prop} {j : Jy} {k : Jm}
theorem zx_rdi {v : Int32} (S : CallFix p m c cc nL s args TB own) (hM : Met l y (Cond.code y bytes maxL ret :: TB) rm (va_Pc (.ref b :: As) (xw_Pre D cs ad u (jyx j) H.size)) (vp_Si (fun r => r = v)) 0 0 (fun _ => False))
    (h1 : Cond.methodLink own index y ∈ TB) (h2 : Cond.instanceMethod y ∈ TB) (h3 : Cond.selects C y y ∈ TB) (h4 : Cond.initialized C ∈ TB) (h5 : Cond.code y bytes maxL ret ∈ TB)
    (hd : y.cls = C ∧ y.cls ≠ "java/lang/invoke/MethodHandle" ∧ y.cls ≠ "java/lang/invoke/VarHandle" ∧ (parseMethodDescriptor y.desc).map (fun d => d.parameters.length) = some As.length) (hR : rm.frames + 1 ≤ R.frames ∧ 8 + (maxL + 11) + rm.locals ≤ R.locals) (hrc : rm.cells = 0) (hrs : rm.slots = 0)
    (hK : va_K D cx (zty cs cm) s) (hP : va_P D cx (zw ad cs am cm u j w k) H) (hD : va_D A (zw ad cs am cm u j w k)) (hN : xw_N s) (q0 ci : Nat) {T : u_T} {N : Nat} {fs : List Value} (hc : cx[ci]? = some (C, T, N)) (he : (xw ad cs u (jyx j))[q0]? = some (b, .inr (ci, fs)))
    (hsize : ls.size = nL) (hst : st0 = As.reverse ++ .ref b :: rest) (hW : (rest.map fun v => v.category).sum ≤ 8) (hdg : decode cc pc = .ok (.invokevirtual index, 3)) (hf : cells + 0 ≤ R.cells ∧ slots + 0 ≤ R.slots)
    (hS : va_S A s.heap H locs) (hA : ∀ q, s.heap.size ≤ q → A q)
    (kk : W p l e R s m args below meth c H locs cells slots Q (F0 m (pc + 3) ls (.int v :: rest))) : W p l e R s m args below meth c H locs cells slots Q (F0 m pc ls st0) := by
  have hPc := hP.sub (ws' := xw ad cs u (jyx j)) [1, 2, 3, 4, 5, 6, 7, 8, 9, 10, 11, 12, 13, 14, 15] rfl
  have hDc := hD.sub (ws' := xw ad cs u (jyx j)) [1, 2, 3, 4, 5, 6, 7, 8, 9, 10, 11, 12, 13, 14, 15] (by decide) rfl
  have hKc := hK.sub (tys' := xty cs) [1, 2, 3, 4, 5, 6, 7, 8, 9, 10, 11, 12] rfl
  have hFc := va_free (wc := xw ad cs u (jyx j)) hD hS hA [1, 2, 3, 4, 5, 6, 7, 8, 9, 10, 11, 12, 13, 14, 15] rfl
  refine vp_callSi (va_Run.run (va_runV (As := As) (rest := rest) S hM (cwV As.length S.2.2.2.2 (gj_V h1 h2 h3 h4 h5) rfl hrc hrs hd hR) (xw_preV hKc hPc hDc hN hc he) rfl rfl hsize hst (lv_room hW) hdg hf)) (fun r hr => ?_)
  subst hr
  exact kk
theorem zx_rdl {v : Int64} (S : CallFix p m c cc nL s args TB own) (hM : Met l y (Cond.code y bytes maxL ret :: TB) rm (va_Pc (.ref b :: As) (xw_Pre D cs ad u (jyx j) H.size)) (vp_Sl (fun r => r = v)) 0 0 (fun _ => False))
    (h1 : Cond.methodLink own index y ∈ TB) (h2 : Cond.instanceMethod y ∈ TB) (h3 : Cond.selects C y y ∈ TB) (h4 : Cond.initialized C ∈ TB) (h5 : Cond.code y bytes maxL ret ∈ TB)
    (hd : y.cls = C ∧ y.cls ≠ "java/lang/invoke/MethodHandle" ∧ y.cls ≠ "java/lang/invoke/VarHandle" ∧ (parseMethodDescriptor y.desc).map (fun d => d.parameters.length) = some As.length) (hR : rm.frames + 1 ≤ R.frames ∧ 8 + (maxL + 11) + rm.locals ≤ R.locals) (hrc : rm.cells = 0) (hrs : rm.slots = 0)
    (hK : va_K D cx (zty cs cm) s) (hP : va_P D cx (zw ad cs am cm u j w k) H) (hD : va_D A (zw ad cs am cm u j w k)) (hN : xw_N s) (q0 ci : Nat) {T : u_T} {N : Nat} {fs : List Value} (hc : cx[ci]? = some (C, T, N)) (he : (xw ad cs u (jyx j))[q0]? = some (b, .inr (ci, fs)))
    (hsize : ls.size = nL) (hst : st0 = As.reverse ++ .ref b :: rest) (hW : (rest.map fun v => v.category).sum ≤ 8) (hdg : decode cc pc = .ok (.invokevirtual index, 3)) (hf : cells + 0 ≤ R.cells ∧ slots + 0 ≤ R.slots)
    (hS : va_S A s.heap H locs) (hA : ∀ q, s.heap.size ≤ q → A q)
    (kk : W p l e R s m args below meth c H locs cells slots Q (F0 m (pc + 3) ls (.long v :: rest))) : W p l e R s m args below meth c H locs cells slots Q (F0 m pc ls st0) := by
  have hPc := hP.sub (ws' := xw ad cs u (jyx j)) [1, 2, 3, 4, 5, 6, 7, 8, 9, 10, 11, 12, 13, 14, 15] rfl
  have hDc := hD.sub (ws' := xw ad cs u (jyx j)) [1, 2, 3, 4, 5, 6, 7, 8, 9, 10, 11, 12, 13, 14, 15] (by decide) rfl
  have hKc := hK.sub (tys' := xty cs) [1, 2, 3, 4, 5, 6, 7, 8, 9, 10, 11, 12] rfl
  have hFc := va_free (wc := xw ad cs u (jyx j)) hD hS hA [1, 2, 3, 4, 5, 6, 7, 8, 9, 10, 11, 12, 13, 14, 15] rfl
  refine vp_callSl (va_Run.run (va_runV (As := As) (rest := rest) S hM (cwV As.length S.2.2.2.2 (gj_V h1 h2 h3 h4 h5) rfl hrc hrs hd hR) (xw_preV hKc hPc hDc hN hc he) rfl rfl hsize hst (lv_room hW) hdg hf)) (fun r hr => ?_)
  subst hr
  exact kk
theorem zm_rdi {v : Int32} (S : CallFix p m c cc nL s args TB own) (hM : Met l y (Cond.code y bytes maxL ret :: TB) rm (va_Pc (.ref b :: As) (mw_Pre D cm am w k H.size)) (vp_Si (fun r => r = v)) 0 0 (fun _ => False))
    (h1 : Cond.methodLink own index y ∈ TB) (h2 : Cond.instanceMethod y ∈ TB) (h3 : Cond.selects C y y ∈ TB) (h4 : Cond.initialized C ∈ TB) (h5 : Cond.code y bytes maxL ret ∈ TB)
    (hd : y.cls = C ∧ y.cls ≠ "java/lang/invoke/MethodHandle" ∧ y.cls ≠ "java/lang/invoke/VarHandle" ∧ (parseMethodDescriptor y.desc).map (fun d => d.parameters.length) = some As.length) (hR : rm.frames + 1 ≤ R.frames ∧ 8 + (maxL + 11) + rm.locals ≤ R.locals) (hrc : rm.cells = 0) (hrs : rm.slots = 0)
    (hK : va_K D cx (zty cs cm) s) (hP : va_P D cx (zw ad cs am cm u j w k) H) (hD : va_D A (zw ad cs am cm u j w k)) (hN : xw_N s) (q0 ci : Nat) {T : u_T} {N : Nat} {fs : List Value} (hc : cx[ci]? = some (C, T, N)) (he : (mw am cm w k)[q0]? = some (b, .inr (ci, fs)))
    (hsize : ls.size = nL) (hst : st0 = As.reverse ++ .ref b :: rest) (hW : (rest.map fun v => v.category).sum ≤ 8) (hdg : decode cc pc = .ok (.invokevirtual index, 3)) (hf : cells + 0 ≤ R.cells ∧ slots + 0 ≤ R.slots)
    (hS : va_S A s.heap H locs) (hA : ∀ q, s.heap.size ≤ q → A q)
    (kk : W p l e R s m args below meth c H locs cells slots Q (F0 m (pc + 3) ls (.int v :: rest))) : W p l e R s m args below meth c H locs cells slots Q (F0 m pc ls st0) := by
  have hPc := hP.sub (ws' := mw am cm w k) [16, 17, 18, 19, 20, 21, 22, 23, 24, 25, 26, 27, 28] rfl
  have hDc := hD.sub (ws' := mw am cm w k) [16, 17, 18, 19, 20, 21, 22, 23, 24, 25, 26, 27, 28] (by decide) rfl
  have hKc := hK.sub (tys' := mty cm) [13, 14, 15, 16, 17, 18, 19, 20, 21, 22, 23, 24] rfl
  have hFc := va_free (wc := mw am cm w k) hD hS hA [16, 17, 18, 19, 20, 21, 22, 23, 24, 25, 26, 27, 28] rfl
  refine vp_callSi (va_Run.run (va_runV (As := As) (rest := rest) S hM (cwV As.length S.2.2.2.2 (gj_V h1 h2 h3 h4 h5) rfl hrc hrs hd hR) (mw_preV hKc hPc hDc trivial hc he) rfl rfl hsize hst (lv_room hW) hdg hf)) (fun r hr => ?_)
  subst hr
  exact kk
theorem zm_rdl {v : Int64} (S : CallFix p m c cc nL s args TB own) (hM : Met l y (Cond.code y bytes maxL ret :: TB) rm (va_Pc (.ref b :: As) (mw_Pre D cm am w k H.size)) (vp_Sl (fun r => r = v)) 0 0 (fun _ => False))
    (h1 : Cond.methodLink own index y ∈ TB) (h2 : Cond.instanceMethod y ∈ TB) (h3 : Cond.selects C y y ∈ TB) (h4 : Cond.initialized C ∈ TB) (h5 : Cond.code y bytes maxL ret ∈ TB)
    (hd : y.cls = C ∧ y.cls ≠ "java/lang/invoke/MethodHandle" ∧ y.cls ≠ "java/lang/invoke/VarHandle" ∧ (parseMethodDescriptor y.desc).map (fun d => d.parameters.length) = some As.length) (hR : rm.frames + 1 ≤ R.frames ∧ 8 + (maxL + 11) + rm.locals ≤ R.locals) (hrc : rm.cells = 0) (hrs : rm.slots = 0)
    (hK : va_K D cx (zty cs cm) s) (hP : va_P D cx (zw ad cs am cm u j w k) H) (hD : va_D A (zw ad cs am cm u j w k)) (hN : xw_N s) (q0 ci : Nat) {T : u_T} {N : Nat} {fs : List Value} (hc : cx[ci]? = some (C, T, N)) (he : (mw am cm w k)[q0]? = some (b, .inr (ci, fs)))
    (hsize : ls.size = nL) (hst : st0 = As.reverse ++ .ref b :: rest) (hW : (rest.map fun v => v.category).sum ≤ 8) (hdg : decode cc pc = .ok (.invokevirtual index, 3)) (hf : cells + 0 ≤ R.cells ∧ slots + 0 ≤ R.slots)
    (hS : va_S A s.heap H locs) (hA : ∀ q, s.heap.size ≤ q → A q)
    (kk : W p l e R s m args below meth c H locs cells slots Q (F0 m (pc + 3) ls (.long v :: rest))) : W p l e R s m args below meth c H locs cells slots Q (F0 m pc ls st0) := by
  have hPc := hP.sub (ws' := mw am cm w k) [16, 17, 18, 19, 20, 21, 22, 23, 24, 25, 26, 27, 28] rfl
  have hDc := hD.sub (ws' := mw am cm w k) [16, 17, 18, 19, 20, 21, 22, 23, 24, 25, 26, 27, 28] (by decide) rfl
  have hKc := hK.sub (tys' := mty cm) [13, 14, 15, 16, 17, 18, 19, 20, 21, 22, 23, 24] rfl
  have hFc := va_free (wc := mw am cm w k) hD hS hA [16, 17, 18, 19, 20, 21, 22, 23, 24, 25, 26, 27, 28] rfl
  refine vp_callSl (va_Run.run (va_runV (As := As) (rest := rest) S hM (cwV As.length S.2.2.2.2 (gj_V h1 h2 h3 h4 h5) rfl hrc hrs hd hR) (mw_preV hKc hPc hDc trivial hc he) rfl rfl hsize hst (lv_room hW) hdg hf)) (fun r hr => ?_)
  subst hr
  exact kk
theorem zx_wri {v : Int32} {pj : Jx → Prop} (S : CallFix p m c cc nL s args TB own) (hM : Met l y (Cond.code y bytes maxL ret :: TB) rm (va_Pc (.ref b :: As) (xw_Pre D cs ad u (jyx j) H.size)) (va_Qi (fun (r : Int32) (j1 : Jx) => r = v ∧ pj j1) (fun (j1 : Jx) t => xw_B D cs ad (va_A (xw ad cs u (jyx j)) H.size) u' j1 t) (va_A (xw ad cs u (jyx j)) H.size)) 0 0 (va_A (xw ad cs u (jyx j)) H.size))
    (h1 : Cond.methodLink own index y ∈ TB) (h2 : Cond.instanceMethod y ∈ TB) (h3 : Cond.selects C y y ∈ TB) (h4 : Cond.initialized C ∈ TB) (h5 : Cond.code y bytes maxL ret ∈ TB)
    (hd : y.cls = C ∧ y.cls ≠ "java/lang/invoke/MethodHandle" ∧ y.cls ≠ "java/lang/invoke/VarHandle" ∧ (parseMethodDescriptor y.desc).map (fun d => d.parameters.length) = some As.length) (hR : rm.frames + 1 ≤ R.frames ∧ 8 + (maxL + 11) + rm.locals ≤ R.locals) (hrc : rm.cells = 0) (hrs : rm.slots = 0)
    (hK : va_K D cx (zty cs cm) s) (hP : va_P D cx (zw ad cs am cm u j w k) H) (hD : va_D A (zw ad cs am cm u j w k)) (hN : xw_N s) (q0 ci : Nat) {T : u_T} {N : Nat} {fs : List Value} (hc : cx[ci]? = some (C, T, N)) (he : (xw ad cs u (jyx j))[q0]? = some (b, .inr (ci, fs)))
    (hsize : ls.size = nL) (hst : st0 = As.reverse ++ .ref b :: rest) (hW : (rest.map fun v => v.category).sum ≤ 8) (hdg : decode cc pc = .ok (.invokevirtual index, 3)) (hf : cells + 0 ≤ R.cells ∧ slots + 0 ≤ R.slots)
    (hS : va_S A s.heap H locs) (hA : ∀ q, s.heap.size ≤ q → A q)
    (kk : ∀ (j1 : Jx) (H1 : Heap) (locs1 : List Loc), pj j1 → va_P D cx (zw ad cs am cm u' (jxy j1 (jy_ou j)) w k) H1 → va_D A (zw ad cs am cm u' (jxy j1 (jy_ou j)) w k) → va_S A s.heap H1 locs1 → (∀ q : Nat, q < H.size → ¬ A q → H1[q]? = H[q]?) → W p l e R s m args below meth c H1 locs1 cells slots Q (F0 m (pc + 3) ls (.int v :: rest))) : W p l e R s m args below meth c H locs cells slots Q (F0 m pc ls st0) := by
  have hPc := hP.sub (ws' := xw ad cs u (jyx j)) [1, 2, 3, 4, 5, 6, 7, 8, 9, 10, 11, 12, 13, 14, 15] rfl
  have hDc := hD.sub (ws' := xw ad cs u (jyx j)) [1, 2, 3, 4, 5, 6, 7, 8, 9, 10, 11, 12, 13, 14, 15] (by decide) rfl
  have hKc := hK.sub (tys' := xty cs) [1, 2, 3, 4, 5, 6, 7, 8, 9, 10, 11, 12] rfl
  have hFc := va_free (wc := xw ad cs u (jyx j)) hD hS hA [1, 2, 3, 4, 5, 6, 7, 8, 9, 10, 11, 12, 13, 14, 15] rfl
  refine va_calli (va_runV (As := As) (rest := rest) S hM (cwV As.length S.2.2.2.2 (gj_V h1 h2 h3 h4 h5) rfl hrc hrs hd hR) (xw_preV hKc hPc hDc hN hc he) rfl rfl hsize hst (lv_room hW) hdg hf) hS (fun q _ h => hFc q h) (fun q h => hFc q h) (fun r j1 t H1 locs1 ht hvm hp hB hle hk1 hS1 => ?_)
  obtain ⟨hP1, -, hD1⟩ := hB
  rw [ht] at hP1
  obtain ⟨rfl, hp⟩ := hp
  obtain ⟨hP2, hD2⟩ := va_join (wr := (ad 15, .inl (cs 12, 1, .inr (.inl (jy_ou j)))) :: mw am cm w k) hP hD [1, 2, 3, 4, 5, 6, 7, 8, 9, 10, 11, 12, 13, 14, 15] [0, 16, 17, 18, 19, 20, 21, 22, 23, 24, 25, 26, 27, 28] rfl rfl (by decide) (by decide) hk1 hFc hP1 hD1
  exact kk j1 H1 locs1 hp (hP2.sub [0, 14, 15, 16, 17, 18, 19, 20, 21, 22, 23, 24, 25, 26, 27, 28, 1, 2, 3, 4, 5, 6, 7, 8, 9, 10, 11, 12, 13] rfl) (hD2.sub [0, 14, 15, 16, 17, 18, 19, 20, 21, 22, 23, 24, 25, 26, 27, 28, 1, 2, 3, 4, 5, 6, 7, 8, 9, 10, 11, 12, 13] (by decide) rfl) hS1 (fun q h1 h2 => hk1 q h1 (fun z => h2 (hFc q z)))
theorem zm_wri {v : Int32} {pj : Jm → Prop} (S : CallFix p m c cc nL s args TB own) (hM : Met l y (Cond.code y bytes maxL ret :: TB) rm (va_Pc (.ref b :: As) (mw_Pre D cm am w k H.size)) (va_Qi (fun (r : Int32) (j1 : Jm) => r = v ∧ pj j1) (fun (j1 : Jm) t => mw_B D cm am (va_A (mw am cm w k) H.size) w' j1 t) (va_A (mw am cm w k) H.size)) 0 0 (va_A (mw am cm w k) H.size))
    (h1 : Cond.methodLink own index y ∈ TB) (h2 : Cond.instanceMethod y ∈ TB) (h3 : Cond.selects C y y ∈ TB) (h4 : Cond.initialized C ∈ TB) (h5 : Cond.code y bytes maxL ret ∈ TB)
    (hd : y.cls = C ∧ y.cls ≠ "java/lang/invoke/MethodHandle" ∧ y.cls ≠ "java/lang/invoke/VarHandle" ∧ (parseMethodDescriptor y.desc).map (fun d => d.parameters.length) = some As.length) (hR : rm.frames + 1 ≤ R.frames ∧ 8 + (maxL + 11) + rm.locals ≤ R.locals) (hrc : rm.cells = 0) (hrs : rm.slots = 0)
    (hK : va_K D cx (zty cs cm) s) (hP : va_P D cx (zw ad cs am cm u j w k) H) (hD : va_D A (zw ad cs am cm u j w k)) (hN : xw_N s) (q0 ci : Nat) {T : u_T} {N : Nat} {fs : List Value} (hc : cx[ci]? = some (C, T, N)) (he : (mw am cm w k)[q0]? = some (b, .inr (ci, fs)))
    (hsize : ls.size = nL) (hst : st0 = As.reverse ++ .ref b :: rest) (hW : (rest.map fun v => v.category).sum ≤ 8) (hdg : decode cc pc = .ok (.invokevirtual index, 3)) (hf : cells + 0 ≤ R.cells ∧ slots + 0 ≤ R.slots)
    (hS : va_S A s.heap H locs) (hA : ∀ q, s.heap.size ≤ q → A q)
    (kk : ∀ (j1 : Jm) (H1 : Heap) (locs1 : List Loc), pj j1 → va_P D cx (zw ad cs am cm u j w' j1) H1 → va_D A (zw ad cs am cm u j w' j1) → va_S A s.heap H1 locs1 → (∀ q : Nat, q < H.size → ¬ A q → H1[q]? = H[q]?) → W p l e R s m args below meth c H1 locs1 cells slots Q (F0 m (pc + 3) ls (.int v :: rest))) : W p l e R s m args below meth c H locs cells slots Q (F0 m pc ls st0) := by
  have hPc := hP.sub (ws' := mw am cm w k) [16, 17, 18, 19, 20, 21, 22, 23, 24, 25, 26, 27, 28] rfl
  have hDc := hD.sub (ws' := mw am cm w k) [16, 17, 18, 19, 20, 21, 22, 23, 24, 25, 26, 27, 28] (by decide) rfl
  have hKc := hK.sub (tys' := mty cm) [13, 14, 15, 16, 17, 18, 19, 20, 21, 22, 23, 24] rfl
  have hFc := va_free (wc := mw am cm w k) hD hS hA [16, 17, 18, 19, 20, 21, 22, 23, 24, 25, 26, 27, 28] rfl
  refine va_calli (va_runV (As := As) (rest := rest) S hM (cwV As.length S.2.2.2.2 (gj_V h1 h2 h3 h4 h5) rfl hrc hrs hd hR) (mw_preV hKc hPc hDc trivial hc he) rfl rfl hsize hst (lv_room hW) hdg hf) hS (fun q _ h => hFc q h) (fun q h => hFc q h) (fun r j1 t H1 locs1 ht hvm hp hB hle hk1 hS1 => ?_)
  obtain ⟨hP1, -, hD1⟩ := hB
  rw [ht] at hP1
  obtain ⟨rfl, hp⟩ := hp
  obtain ⟨hP2, hD2⟩ := va_join (wr := yw ad cs u j) hP hD [16, 17, 18, 19, 20, 21, 22, 23, 24, 25, 26, 27, 28] [0, 1, 2, 3, 4, 5, 6, 7, 8, 9, 10, 11, 12, 13, 14, 15] rfl rfl (by decide) (by decide) hk1 hFc hP1 hD1
  exact kk j1 H1 locs1 hp (hP2.sub [0, 1, 2, 3, 4, 5, 6, 7, 8, 9, 10, 11, 12, 13, 14, 15, 16, 17, 18, 19, 20, 21, 22, 23, 24, 25, 26, 27, 28] rfl) (hD2.sub [0, 1, 2, 3, 4, 5, 6, 7, 8, 9, 10, 11, 12, 13, 14, 15, 16, 17, 18, 19, 20, 21, 22, 23, 24, 25, 26, 27, 28] (by decide) rfl) hS1 (fun q h1 h2 => hk1 q h1 (fun z => h2 (hFc q z)))
theorem zm_wrl {v : Int64} {pj : Jm → Prop} (S : CallFix p m c cc nL s args TB own) (hM : Met l y (Cond.code y bytes maxL ret :: TB) rm (va_Pc (.ref b :: As) (mw_Pre D cm am w k H.size)) (va_Ql (fun (r : Int64) (j1 : Jm) => r = v ∧ pj j1) (fun (j1 : Jm) t => mw_B D cm am (va_A (mw am cm w k) H.size) w' j1 t) (va_A (mw am cm w k) H.size)) 0 0 (va_A (mw am cm w k) H.size))
    (h1 : Cond.methodLink own index y ∈ TB) (h2 : Cond.instanceMethod y ∈ TB) (h3 : Cond.selects C y y ∈ TB) (h4 : Cond.initialized C ∈ TB) (h5 : Cond.code y bytes maxL ret ∈ TB)
    (hd : y.cls = C ∧ y.cls ≠ "java/lang/invoke/MethodHandle" ∧ y.cls ≠ "java/lang/invoke/VarHandle" ∧ (parseMethodDescriptor y.desc).map (fun d => d.parameters.length) = some As.length) (hR : rm.frames + 1 ≤ R.frames ∧ 8 + (maxL + 11) + rm.locals ≤ R.locals) (hrc : rm.cells = 0) (hrs : rm.slots = 0)
    (hK : va_K D cx (zty cs cm) s) (hP : va_P D cx (zw ad cs am cm u j w k) H) (hD : va_D A (zw ad cs am cm u j w k)) (hN : xw_N s) (q0 ci : Nat) {T : u_T} {N : Nat} {fs : List Value} (hc : cx[ci]? = some (C, T, N)) (he : (mw am cm w k)[q0]? = some (b, .inr (ci, fs)))
    (hsize : ls.size = nL) (hst : st0 = As.reverse ++ .ref b :: rest) (hW : (rest.map fun v => v.category).sum ≤ 8) (hdg : decode cc pc = .ok (.invokevirtual index, 3)) (hf : cells + 0 ≤ R.cells ∧ slots + 0 ≤ R.slots)
    (hS : va_S A s.heap H locs) (hA : ∀ q, s.heap.size ≤ q → A q)
    (kk : ∀ (j1 : Jm) (H1 : Heap) (locs1 : List Loc), pj j1 → va_P D cx (zw ad cs am cm u j w' j1) H1 → va_D A (zw ad cs am cm u j w' j1) → va_S A s.heap H1 locs1 → (∀ q : Nat, q < H.size → ¬ A q → H1[q]? = H[q]?) → W p l e R s m args below meth c H1 locs1 cells slots Q (F0 m (pc + 3) ls (.long v :: rest))) : W p l e R s m args below meth c H locs cells slots Q (F0 m pc ls st0) := by
  have hPc := hP.sub (ws' := mw am cm w k) [16, 17, 18, 19, 20, 21, 22, 23, 24, 25, 26, 27, 28] rfl
  have hDc := hD.sub (ws' := mw am cm w k) [16, 17, 18, 19, 20, 21, 22, 23, 24, 25, 26, 27, 28] (by decide) rfl
  have hKc := hK.sub (tys' := mty cm) [13, 14, 15, 16, 17, 18, 19, 20, 21, 22, 23, 24] rfl
  have hFc := va_free (wc := mw am cm w k) hD hS hA [16, 17, 18, 19, 20, 21, 22, 23, 24, 25, 26, 27, 28] rfl
  refine va_calll (va_runV (As := As) (rest := rest) S hM (cwV As.length S.2.2.2.2 (gj_V h1 h2 h3 h4 h5) rfl hrc hrs hd hR) (mw_preV hKc hPc hDc trivial hc he) rfl rfl hsize hst (lv_room hW) hdg hf) hS (fun q _ h => hFc q h) (fun q h => hFc q h) (fun r j1 t H1 locs1 ht hvm hp hB hle hk1 hS1 => ?_)
  obtain ⟨hP1, -, hD1⟩ := hB
  rw [ht] at hP1
  obtain ⟨rfl, hp⟩ := hp
  obtain ⟨hP2, hD2⟩ := va_join (wr := yw ad cs u j) hP hD [16, 17, 18, 19, 20, 21, 22, 23, 24, 25, 26, 27, 28] [0, 1, 2, 3, 4, 5, 6, 7, 8, 9, 10, 11, 12, 13, 14, 15] rfl rfl (by decide) (by decide) hk1 hFc hP1 hD1
  exact kk j1 H1 locs1 hp (hP2.sub [0, 1, 2, 3, 4, 5, 6, 7, 8, 9, 10, 11, 12, 13, 14, 15, 16, 17, 18, 19, 20, 21, 22, 23, 24, 25, 26, 27, 28] rfl) (hD2.sub [0, 1, 2, 3, 4, 5, 6, 7, 8, 9, 10, 11, 12, 13, 14, 15, 16, 17, 18, 19, 20, 21, 22, 23, 24, 25, 26, 27, 28] (by decide) rfl) hS1 (fun q h1 h2 => hk1 q h1 (fun z => h2 (hFc q z)))
theorem zm_wrv {pj : Jm → Prop} (S : CallFix p m c cc nL s args TB own) (hM : Met l y (Cond.code y bytes maxL ret :: TB) rm (va_Pc (.ref b :: As) (mw_Pre D cm am w k H.size)) (va_Qv (fun (j1 : Jm) => pj j1) (fun (j1 : Jm) t => mw_B D cm am (va_A (mw am cm w k) H.size) w' j1 t) (va_A (mw am cm w k) H.size)) 0 0 (va_A (mw am cm w k) H.size))
    (h1 : Cond.methodLink own index y ∈ TB) (h2 : Cond.instanceMethod y ∈ TB) (h3 : Cond.selects C y y ∈ TB) (h4 : Cond.initialized C ∈ TB) (h5 : Cond.code y bytes maxL ret ∈ TB)
    (hd : y.cls = C ∧ y.cls ≠ "java/lang/invoke/MethodHandle" ∧ y.cls ≠ "java/lang/invoke/VarHandle" ∧ (parseMethodDescriptor y.desc).map (fun d => d.parameters.length) = some As.length) (hR : rm.frames + 1 ≤ R.frames ∧ 8 + (maxL + 11) + rm.locals ≤ R.locals) (hrc : rm.cells = 0) (hrs : rm.slots = 0)
    (hK : va_K D cx (zty cs cm) s) (hP : va_P D cx (zw ad cs am cm u j w k) H) (hD : va_D A (zw ad cs am cm u j w k)) (hN : xw_N s) (q0 ci : Nat) {T : u_T} {N : Nat} {fs : List Value} (hc : cx[ci]? = some (C, T, N)) (he : (mw am cm w k)[q0]? = some (b, .inr (ci, fs)))
    (hsize : ls.size = nL) (hst : st0 = As.reverse ++ .ref b :: rest) (hW : (rest.map fun v => v.category).sum ≤ 8) (hdg : decode cc pc = .ok (.invokevirtual index, 3)) (hf : cells + 0 ≤ R.cells ∧ slots + 0 ≤ R.slots)
    (hS : va_S A s.heap H locs) (hA : ∀ q, s.heap.size ≤ q → A q)
    (kk : ∀ (j1 : Jm) (H1 : Heap) (locs1 : List Loc), pj j1 → va_P D cx (zw ad cs am cm u j w' j1) H1 → va_D A (zw ad cs am cm u j w' j1) → va_S A s.heap H1 locs1 → (∀ q : Nat, q < H.size → ¬ A q → H1[q]? = H[q]?) → W p l e R s m args below meth c H1 locs1 cells slots Q (F0 m (pc + 3) ls (rest))) : W p l e R s m args below meth c H locs cells slots Q (F0 m pc ls st0) := by
  have hPc := hP.sub (ws' := mw am cm w k) [16, 17, 18, 19, 20, 21, 22, 23, 24, 25, 26, 27, 28] rfl
  have hDc := hD.sub (ws' := mw am cm w k) [16, 17, 18, 19, 20, 21, 22, 23, 24, 25, 26, 27, 28] (by decide) rfl
  have hKc := hK.sub (tys' := mty cm) [13, 14, 15, 16, 17, 18, 19, 20, 21, 22, 23, 24] rfl
  have hFc := va_free (wc := mw am cm w k) hD hS hA [16, 17, 18, 19, 20, 21, 22, 23, 24, 25, 26, 27, 28] rfl
  refine va_callv (va_runV (As := As) (rest := rest) S hM (cwV As.length S.2.2.2.2 (gj_V h1 h2 h3 h4 h5) rfl hrc hrs hd hR) (mw_preV hKc hPc hDc trivial hc he) rfl rfl hsize hst (lv_room hW) hdg hf) hS (fun q _ h => hFc q h) (fun q h => hFc q h) (fun j1 t H1 locs1 ht hvm hp hB hle hk1 hS1 => ?_)
  obtain ⟨hP1, -, hD1⟩ := hB
  rw [ht] at hP1
  obtain ⟨hP2, hD2⟩ := va_join (wr := yw ad cs u j) hP hD [16, 17, 18, 19, 20, 21, 22, 23, 24, 25, 26, 27, 28] [0, 1, 2, 3, 4, 5, 6, 7, 8, 9, 10, 11, 12, 13, 14, 15] rfl rfl (by decide) (by decide) hk1 hFc hP1 hD1
  exact kk j1 H1 locs1 hp (hP2.sub [0, 1, 2, 3, 4, 5, 6, 7, 8, 9, 10, 11, 12, 13, 14, 15, 16, 17, 18, 19, 20, 21, 22, 23, 24, 25, 26, 27, 28] rfl) (hD2.sub [0, 1, 2, 3, 4, 5, 6, 7, 8, 9, 10, 11, 12, 13, 14, 15, 16, 17, 18, 19, 20, 21, 22, 23, 24, 25, 26, 27, 28] (by decide) rfl) hS1 (fun q h1 h2 => hk1 q h1 (fun z => h2 (hFc q z)))
theorem zy_i {v : Int32} {pj : Jy → Prop} {mc ms : Nat} {hh : List (Nat × Nat × Nat × Nat)} (S : CallFix p m c cc nL s args TB own) (hM : Met l y (Cond.codeWith y bytes maxL ret hh :: TB) rm (va_Pc As (yw_Pre D cs ad u j H.size)) (va_Qi (fun (r : Int32) (j1 : Jy) => r = v ∧ pj j1) (fun (j1 : Jy) t => yw_B D cs ad (va_A (yw ad cs u j) H.size) u' j1 t) (va_A (yw ad cs u j) H.size)) mc ms (va_A (yw ad cs u j) H.size))
    (h1 : Cond.methodLink own index y ∈ TB) (h2 : Cond.static y ∈ TB) (h4 : Cond.initialized y.cls ∈ TB) (h5 : Cond.codeWith y bytes maxL ret hh ∈ TB)
    (hd : y.cls ≠ "java/lang/invoke/MethodHandle" ∧ y.cls ≠ "java/lang/invoke/VarHandle" ∧ (parseMethodDescriptor y.desc).map (fun d => d.parameters.length) = some As.length) (hR : rm.frames + 1 ≤ R.frames ∧ 8 + (maxL + 11) + rm.locals ≤ R.locals) (hrc : rm.cells = mc) (hrs : rm.slots = ms)
    (hK : va_K D cx (zty cs cm) s) (hP : va_P D cx (zw ad cs am cm u j w k) H) (hD : va_D A (zw ad cs am cm u j w k)) (hN : xw_N s) (hZ : xTA A s H) (hC : xC s)
    (hsize : ls.size = nL) (hst : st0 = As.reverse ++ rest) (hW : (rest.map fun v => v.category).sum ≤ 8) (hdg : decode cc pc = .ok (.invokestatic index, 3)) (hf : cells + mc ≤ R.cells ∧ slots + ms ≤ R.slots)
    (hS : va_S A s.heap H locs) (hA : ∀ q, s.heap.size ≤ q → A q)
    (kk : ∀ (j1 : Jy) (H1 : Heap) (locs1 : List Loc), pj j1 → va_P D cx (zw ad cs am cm u' j1 w k) H1 → va_D A (zw ad cs am cm u' j1 w k) → va_S A s.heap H1 locs1 → (∀ q : Nat, q < H.size → ¬ A q → H1[q]? = H[q]?) → W p l e R s m args below meth c H1 locs1 (cells + mc) (slots + ms) Q (F0 m (pc + 3) ls (.int v :: rest))) : W p l e R s m args below meth c H locs cells slots Q (F0 m pc ls st0) := by
  have hPc := hP.sub (ws' := yw ad cs u j) [0, 1, 2, 3, 4, 5, 6, 7, 8, 9, 10, 11, 12, 13, 14, 15] rfl
  have hDc := hD.sub (ws' := yw ad cs u j) [0, 1, 2, 3, 4, 5, 6, 7, 8, 9, 10, 11, 12, 13, 14, 15] (by decide) rfl
  have hKc := hK.sub (tys' := yty cs) [0, 1, 2, 3, 4, 5, 6, 7, 8, 9, 10, 11, 12] rfl
  have hFc := va_free (wc := yw ad cs u j) hD hS hA [0, 1, 2, 3, 4, 5, 6, 7, 8, 9, 10, 11, 12, 13, 14, 15] rfl
  refine va_calli (vx_runSW (As := As) (rest := rest) S hM (vx_cwSW As.length S.2.2.2.2 (gj_SW h1 h2 h4 h5) rfl hrc hrs hd hR) ⟨yw_blind, fun U hU hW => ⟨rfl, by rw [hU], by rw [hU]; exact hPc, va_K.moved hW.alike hKc, hDc.weaken (fun _ _ _ _ => trivial), hN.warm hW, hZ.at hU hW, xC.moved hW.alike hC⟩⟩ rfl rfl hsize hst (lv_room hW) hdg hf) hS (fun q _ h => hFc q h) (fun q h => hFc q h) (fun r j1 t H1 locs1 ht hvm hp hB hle hk1 hS1 => ?_)
  obtain ⟨hP1, -, hD1⟩ := hB
  rw [ht] at hP1
  obtain ⟨rfl, hp⟩ := hp
  obtain ⟨hP2, hD2⟩ := va_join (wr := mw am cm w k) hP hD [0, 1, 2, 3, 4, 5, 6, 7, 8, 9, 10, 11, 12, 13, 14, 15] [16, 17, 18, 19, 20, 21, 22, 23, 24, 25, 26, 27, 28] rfl rfl (by decide) (by decide) hk1 hFc hP1 hD1
  exact kk j1 H1 locs1 hp (hP2.sub [13, 14, 15, 16, 17, 18, 19, 20, 21, 22, 23, 24, 25, 26, 27, 28, 0, 1, 2, 3, 4, 5, 6, 7, 8, 9, 10, 11, 12] rfl) (hD2.sub [13, 14, 15, 16, 17, 18, 19, 20, 21, 22, 23, 24, 25, 26, 27, 28, 0, 1, 2, 3, 4, 5, 6, 7, 8, 9, 10, 11, 12] (by decide) rfl) hS1 (fun q h1 h2 => hk1 q h1 (fun z => h2 (hFc q z)))
end ZW
