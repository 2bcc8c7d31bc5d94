section VXS
variable {p : Program} {l : Launch} {e : Env} {R : Room} {s : State} {m : MethodId} {args : Array Value} {below : List Frame} {meth : Method} {c : Code} {T : State} {H : Heap} {locs : List Loc} {cells slots : Nat}
abbrev vx_CSW (R : Room) (s : State) (args : Array Value) (own : String) (index : Nat) (y : MethodName) (bytes : ByteArray) (maxL : Nat) (ret : Option FieldType) (hh : List (Nat × Nat × Nat × Nat)) (ws : List Cond) (rm : Room) (mc ms n : Nat) : Prop :=
  (rm.cells = mc ∧ rm.slots = ms ∧ rm.frames + 1 ≤ R.frames ∧ 8 + (maxL + 11) + rm.locals ≤ R.locals ∧ (∀ w ∈ ws, ∀ (a' : Array Value) (U : State), s.WarmedH U.vm → w.before a' U = true) ∧ Cond.codeWith y bytes maxL ret hh ∈ ws) ∧
  (Cond.codeWith y bytes maxL ret hh).before args s = true ∧ (Cond.initialized y.cls).before args s = true ∧ (y.cls ≠ "java/lang/invoke/MethodHandle" ∧ y.cls ≠ "java/lang/invoke/VarHandle") ∧
  (∀ sig, parseMethodDescriptor y.desc = some sig → n = sig.parameters.length) ∧ (Cond.methodLink own index y).before args s = true ∧ (Cond.static y).before args s = true
theorem vx_cwSW {own : String} {index maxL mc ms : Nat} {y : MethodName} {bytes : ByteArray} {ret : Option FieldType} {hh : List (Nat × Nat × Nat × Nat)} {Ts ws ws' : List Cond} {rm : Room} (n : Nat) (ht : ∀ w ∈ Ts, w.before args s = true) (hT : GoodIn Ts (va_wsS own index y ws)) (hw : ws = Cond.codeWith y bytes maxL ret hh :: ws') (hrc : rm.cells = mc) (hrs : rm.slots = ms)
    (hd : y.cls ≠ "java/lang/invoke/MethodHandle" ∧ y.cls ≠ "java/lang/invoke/VarHandle" ∧ (parseMethodDescriptor y.desc).map (fun d => d.parameters.length) = some n) (hR : rm.frames + 1 ≤ R.frames ∧ 8 + (maxL + 11) + rm.locals ≤ R.locals) :
    vx_CSW R s args own index y bytes maxL ret hh ws rm mc ms n := by
  have ok : ∀ w ∈ va_wsS own index y ws, w.before args s = true := fun w h => ht w (hT w h).1
  have hG : GoodIn Ts ws := fun w h => hT w (by unfold va_wsS; exact List.mem_append_right _ h)
  have hc : Cond.codeWith y bytes maxL ret hh ∈ ws := by rw [hw]; exact List.mem_cons_self
  refine ⟨⟨hrc, hrs, hR.1, hR.2, pay_in ht hG, hc⟩, ht _ (hG _ hc).1, ok _ (by simp [va_wsS]), ⟨hd.1, hd.2.1⟩, fun sig h => ?_, ok _ (by simp [va_wsS]), ok _ (by simp [va_wsS])⟩
  have h2 := hd.2.2
  rw [h] at h2
  exact (Option.some.inj h2).symm
theorem vx_callSW (X : Stand p l e R s m args below meth c T locs cells slots) (hexec : p.tables.exec = Jvm.exec) {own : String} {index : Nat} {y : MethodName} {bytes : ByteArray} {maxL : Nat} {ret : Option FieldType} {hh : List (Nat × Nat × Nat × Nat)}
    (hown : s.vm.findClass own = some m.cls) (hlink : (Cond.methodLink own index y).before args s = true) (hstat : (Cond.static y).before args s = true) (hinit : (Cond.initialized y.cls).before args s = true)
    (hcode : (Cond.codeWith y bytes maxL ret hh).before args s = true) (hy : y.cls ≠ "java/lang/invoke/MethodHandle" ∧ y.cls ≠ "java/lang/invoke/VarHandle")
    {W9 : Nat} {Pre : Pt → Array Value → Prop} {Post : Pt → Array Value → Option Value → Pt → Prop} (hK : Back l R p e below s args y 3 W9 Pre Post)
    {g : JFrame} (hg : g.method = m) (hsize : g.locals.size = c.maxLocals) {argsL rest : List Value} (hlen : ∀ sig, parseMethodDescriptor y.desc = some sig → argsL.length = sig.parameters.length)
    (hstack : g.stack = argsL.reverse ++ rest) (hW : 2 * g.monitorRoom + (rest.map fun v => v.category).sum ≤ W9) (hdg : decode c.code g.pc = .ok (.invokestatic index, 3))
    (hpre : ∀ vm₁, s.WarmedH vm₁ → Pre ⟨T.setVm vm₁, locs, cells, slots⟩ argsL.toArray) :
    ∃ (v : Option Value) (vm₁ : Vm) (B : Pt), s.WarmedH vm₁ ∧ Stand p l e R s m args below meth c B.U B.locs B.cells B.slots ∧ Post ⟨T.setVm vm₁, locs, cells, slots⟩ argsL.toArray v B ∧
      ∀ target, Steps p.tables e below (B.U.setTop { g with pc := g.pc + 3, stack := v.toList ++ rest }) target → Steps p.tables e below (T.setTop g) target := by
  obtain ⟨mk, methM, cM, hnamed, hmethM, -, -, -, -, -, -, hsigM⟩ := Cond.codeWith_spec hcode
  have hstatic : methM.isStatic = true := Cond.static_spec hnamed hmethM hstat
  obtain ⟨kP, hkP, -⟩ := className_of_methodNamed hnamed
  have hinitP : kP.init = .initialized := Cond.initialized_spec (findClass_of_methodNamed hnamed) hkP hinit
  obtain ⟨vm₁, X₁, hstep₁⟩ := X.invokestatic hexec hown hlink hnamed hmethM hstatic hkP hinitP hy (g := g) hg (argsL := argsL) (rest := rest) (hlen _ hsigM) hstack hdg
  obtain ⟨v, B, X', hpost, hsteps⟩ := hK m meth c ⟨T.setVm vm₁, locs, cells, slots⟩ { g with stack := rest } (.invokestatic index) mk argsL.toArray X₁ hg hsize hdg hW (X₁.named hnamed) (hpre vm₁ X₁.warmed)
  exact ⟨v, vm₁, B, X₁.warmed, X', hpost, fun target h => hstep₁ _ fun acts => by rw [doInvoke_state]; exact hsteps.trans h⟩
theorem vx_runSW {y : MethodName} {bytes cc : ByteArray} {maxL nL mc ms n index : Nat} {ret : Option FieldType} {hh : List (Nat × Nat × Nat × Nat)} {ws : List Cond} {rm : Room} {Pc : Array Value → State → Prop} {Qc : Array Value → State → Outcome → State → Prop} {free : Addr → Prop} {Ts : List Cond} {own : String} {As rest : List Value} {g : JFrame}
    (S : CallFix p m c cc nL s args Ts own) (hM : Met l y ws rm Pc Qc mc ms free) (cw : vx_CSW R s args own index y bytes maxL ret hh ws rm mc ms n) (hp : PreS s H Pc As)
    (hg : g.method = m) (hn : As.length = n) (hsize : g.locals.size = nL) (hstack : g.stack = As.reverse ++ rest) (hW : 2 * g.monitorRoom + (rest.map fun v => v.category).sum ≤ 8) (hdg : decode cc g.pc = .ok (.invokestatic index, 3)) (hf : cells + mc ≤ R.cells ∧ slots + ms ≤ R.slots) :
    va_Run p l e R s m args below meth c H locs cells slots mc ms g rest (Qc As.toArray) (free) := by
  obtain ⟨⟨hrc, hrs, hfr, hlo, hws, hcw⟩, hcode, hini, hy, hlen, hl, hstt⟩ := cw
  have hK : Back l R p e below s args y 3 8 (PreOf R mc ms Pc) (PostOf Qc mc ms free) := va_backW (hh := hh) (bytes := bytes) (maxL := maxL) (ret := ret) hM hp.1 hrc hrs hfr hlo hws hcw (fun a' U hW => word_at hW (Or.inl (by first | rfl | simp [Cond.onTables, Cond.keeps, Cond.steady])) hini)
  obtain ⟨hx, hb, hml, ho, -⟩ := S
  intro T hT X
  obtain ⟨v, vm₁, ⟨U', l2, c2, s2⟩, hW₁, X', ⟨g', mk, t, L, e1, e2, hq, h1, hL, h2, h3⟩, st⟩ := vx_callSW X hx (hh := hh) (bytes := bytes) (maxL := maxL) (ret := ret) ho hl hstt hini hcode hy hK hg (hsize.trans hml.symm) (argsL := As) (rest := rest) (fun sig h => hn.trans (hlen sig h)) hstack hW (by rw [hb]; exact hdg)
    (fun vm₁ hW₁ => ⟨hf.1, hf.2, hp.2 (T.setVm vm₁) hT hW₁⟩)
  dsimp only [Pt.U, Pt.locs, Pt.cells, Pt.slots] at X' e1 e2 h1 h2 h3 st
  subst h1; subst h2; subst h3
  exact ⟨v, (T.setVm vm₁).calling g' mk As.toArray, t, U', L, hT, X', hL, e1, e2, hq, st⟩
end VXS
abbrev Jy : Type := (Nat → Int64) × (Nat → Int32) × Int32 × (Nat → Int64) × (Nat → Int64)
def jy_ru (j : Jy) : Nat → Int64 := j.1
def jy_nd (j : Jy) : Nat → Int32 := j.2.1
def jy_de (j : Jy) : Int32 := j.2.2.1
def jy_rp (j : Jy) : Nat → Int64 := j.2.2.2.1
def jy_ou (j : Jy) : Nat → Int64 := j.2.2.2.2
def sy_ru (j : Jy) (x : Nat → Int64) : Jy := (x, j.2.1, j.2.2.1, j.2.2.2.1, j.2.2.2.2)
def sy_nd (j : Jy) (x : Nat → Int32) : Jy := (j.1, x, j.2.2.1, j.2.2.2.1, j.2.2.2.2)
def sy_de (j : Jy) (x : Int32) : Jy := (j.1, j.2.1, x, j.2.2.2.1, j.2.2.2.2)
def sy_rp (j : Jy) (x : Nat → Int64) : Jy := (j.1, j.2.1, j.2.2.1, x, j.2.2.2.2)
def sy_ou (j : Jy) (x : Nat → Int64) : Jy := (j.1, j.2.1, j.2.2.1, j.2.2.2.1, x)
/-- the class's cells behind the row for answers -/
def yv (ad : Nat → Nat) (cs : Nat → ClassId) (im : Nat → Int64) (ap : Nat → Int32) (ag : Nat → Int64) (he : Nat → Int64) (er : Nat → Int32) (ev : Nat → Int64) (en : Int32) (ma : Nat → Int32) (po : Nat → Int64) (se : Nat → Int64) (ac : Int64) (fa : Int32) (la : Int32) (st : Int32) (jru : Nat → Int64) (jnd : Nat → Int32) (jde : Int32) (jrp : Nat → Int64) (jou : Nat → Int64) : va_W := (ad 15, .inl (cs 12, 1, .inr (.inl jou))) :: xv ad cs im ap ag he er ev en ma po se ac fa la st jru jnd jde jrp
def yw (ad : Nat → Nat) (cs : Nat → ClassId) (u : Sg) (j : Jy) : va_W := yv ad cs (sg_im u) (sg_ap u) (sg_ag u) (sg_he u) (sg_er u) (sg_ev u) (sg_en u) (sg_ma u) (sg_po u) (sg_se u) (sg_ac u) (sg_fa u) (sg_la u) (sg_st u) (jy_ru j) (jy_nd j) (jy_de j) (jy_rp j) (jy_ou j)
theorem yw_j (ad : Nat → Nat) (cs : Nat → ClassId) (u : Sg) (jru : Nat → Int64) (jnd : Nat → Int32) (jde : Int32) (jrp : Nat → Int64) (jou : Nat → Int64) : yw ad cs u (jru, jnd, jde, jrp, jou) = yv ad cs (sg_im u) (sg_ap u) (sg_ag u) (sg_he u) (sg_er u) (sg_ev u) (sg_en u) (sg_ma u) (sg_po u) (sg_se u) (sg_ac u) (sg_fa u) (sg_la u) (sg_st u) jru jnd jde jrp jou := rfl
def yty (cs : Nat → ClassId) : List (ClassId × FieldType) := (cs 12, .long) :: xty cs
def jyx (j : Jy) : Jx := (jy_ru j, jy_nd j, jy_de j, jy_rp j)
def jxy (j : Jx) (o : Nat → Int64) : Jy := (jx_ru j, jx_nd j, jx_de j, jx_rp j, o)
def xC (U : State) : Prop := va_Nc "java/lang/IllegalStateException" "java/lang/IllegalArgumentException" U ∧ va_Nc "java/lang/IllegalStateException" "java/lang/IndexOutOfBoundsException" U ∧ va_Nc "java/lang/IllegalStateException" "java/util/NoSuchElementException" U
theorem xC.moved {u U : State} (hvm : u.vm.Alike U.vm) (h : xC u) : xC U := ⟨h.1.moved hvm, h.2.1.moved hvm, h.2.2.moved hvm⟩
def yw_Pre (D : va_G) (cs : Nat → ClassId) (ad : Nat → Nat) (u : Sg) (j : Jy) (sz : Nat) (U : State) : Prop := U.heap.size = sz ∧ va_P D cx (yw ad cs u j) U.heap ∧ va_K D cx (yty cs) U ∧ va_D (fun _ => True) (yw ad cs u j) ∧ xw_N U ∧ xT U ∧ xC U
def yw_B (D : va_G) (cs : Nat → ClassId) (ad : Nat → Nat) (A : Nat → Prop) (u : Sg) (j : Jy) (t : State) : Prop := va_P D cx (yw ad cs u j) t.heap ∧ va_K D cx (yty cs) t ∧ va_D A (yw ad cs u j)
section YW
variable {p : Program} {l : Launch} {e : Env} {R : Room} {s : State} {m : MethodId} {args : Array Value} {below : List Frame} {meth : Method} {c : Code} {H : Heap} {locs : List Loc} {cells slots : Nat} {Q : State → Prop}
variable {y : MethodName} {bytes cc : ByteArray} {maxL nL index pc : Nat} {ret : Option FieldType} {rm : Room} {own C host : String} {b : Nat} {As rest st0 : List Value} {ls : Array Slot} {c0 : Cond} {D : va_G} {cs : Nat → ClassId} {ad : Nat → Nat} {u u' : Sg} {A : Nat → Prop}
variable {j : Jy}
theorem yw_blind {av : List Value} {sz : Nat} : FrameBlind (va_Pc av (yw_Pre D cs ad u j sz)) := fun a U g mk q => by
  obtain ⟨q0, q1, qP, qK, qD, qN, qT, qC⟩ := q
  exact ⟨q0, q1, qP, va_K.moved (u := U) (U := U.calling g mk a) (Vm.Alike.refl U.vm) qK, qD, qN.calling, qT.calling, xC.moved (u := U) (U := U.calling g mk a) (Vm.Alike.refl U.vm) qC⟩
theorem yx_rdi {v : Int32} (S : CallFix p m c cc nL s args (c0 :: TB) own) (hM : Met l y (Cond.code y bytes maxL ret :: TB) rm (va_Pc (.ref b :: As) (xw_Pre D cs ad u (jyx j) H.size)) (vp_Si (fun r => r = v)) 0 0 (fun _ => False))
    (h1 : Cond.methodLink own index y ∈ TB) (h2 : Cond.instanceMethod y ∈ TB) (h3 : Cond.selects C y y ∈ TB) (h4 : Cond.initialized C ∈ TB) (h5 : Cond.code y bytes maxL ret ∈ TB)
    (hd : y.cls = C ∧ y.cls ≠ "java/lang/invoke/MethodHandle" ∧ y.cls ≠ "java/lang/invoke/VarHandle" ∧ (parseMethodDescriptor y.desc).map (fun d => d.parameters.length) = some As.length) (hR : rm.frames + 1 ≤ R.frames ∧ 8 + (maxL + 11) + rm.locals ≤ R.locals) (hrc : rm.cells = 0) (hrs : rm.slots = 0)
    (hK : va_K D cx (yty cs) s) (hP : va_P D cx (yw ad cs u j) H) (hD : va_D A (yw ad cs u j)) (hN : xw_N s) (q0 ci : Nat) {T : u_T} {N : Nat} {fs : List Value} (hc : cx[ci]? = some (C, T, N)) (he : (xw ad cs u (jyx j))[q0]? = some (b, .inr (ci, fs)))
    (hsize : ls.size = nL) (hst : st0 = As.reverse ++ .ref b :: rest) (hW : (rest.map fun v => v.category).sum ≤ 8) (hdg : decode cc pc = .ok (.invokevirtual index, 3)) (hf : cells + 0 ≤ R.cells ∧ slots + 0 ≤ R.slots)
    (hS : va_S A s.heap H locs) (hA : ∀ q, s.heap.size ≤ q → A q)
    (kk : W p l e R s m args below meth c H locs cells slots Q (F0 m (pc + 3) ls (.int v :: rest))) : W p l e R s m args below meth c H locs cells slots Q (F0 m pc ls st0) := by
  have hPc := hP.sub (ws' := xw ad cs u (jyx j)) [1, 2, 3, 4, 5, 6, 7, 8, 9, 10, 11, 12, 13, 14, 15] rfl
  have hDc := hD.sub (ws' := xw ad cs u (jyx j)) [1, 2, 3, 4, 5, 6, 7, 8, 9, 10, 11, 12, 13, 14, 15] (by decide) rfl
  have hKc := hK.sub (tys' := xty cs) [1, 2, 3, 4, 5, 6, 7, 8, 9, 10, 11, 12] rfl
  have hFc := va_free (wc := xw ad cs u (jyx j)) hD hS hA [1, 2, 3, 4, 5, 6, 7, 8, 9, 10, 11, 12, 13, 14, 15] rfl
  refine vp_callSi (va_Run.run (va_runV (As := As) (rest := rest) S hM (cwV As.length S.2.2.2.2 (gi_V h1 h2 h3 h4 h5) rfl hrc hrs hd hR) (xw_preV hKc hPc hDc hN hc he) rfl rfl hsize hst (lv_room hW) hdg hf)) (fun r hr => ?_)
  subst hr
  exact kk
theorem yx_rdl {v : Int64} (S : CallFix p m c cc nL s args (c0 :: TB) own) (hM : Met l y (Cond.code y bytes maxL ret :: TB) rm (va_Pc (.ref b :: As) (xw_Pre D cs ad u (jyx j) H.size)) (vp_Sl (fun r => r = v)) 0 0 (fun _ => False))
    (h1 : Cond.methodLink own index y ∈ TB) (h2 : Cond.instanceMethod y ∈ TB) (h3 : Cond.selects C y y ∈ TB) (h4 : Cond.initialized C ∈ TB) (h5 : Cond.code y bytes maxL ret ∈ TB)
    (hd : y.cls = C ∧ y.cls ≠ "java/lang/invoke/MethodHandle" ∧ y.cls ≠ "java/lang/invoke/VarHandle" ∧ (parseMethodDescriptor y.desc).map (fun d => d.parameters.length) = some As.length) (hR : rm.frames + 1 ≤ R.frames ∧ 8 + (maxL + 11) + rm.locals ≤ R.locals) (hrc : rm.cells = 0) (hrs : rm.slots = 0)
    (hK : va_K D cx (yty cs) s) (hP : va_P D cx (yw ad cs u j) H) (hD : va_D A (yw ad cs u j)) (hN : xw_N s) (q0 ci : Nat) {T : u_T} {N : Nat} {fs : List Value} (hc : cx[ci]? = some (C, T, N)) (he : (xw ad cs u (jyx j))[q0]? = some (b, .inr (ci, fs)))
    (hsize : ls.size = nL) (hst : st0 = As.reverse ++ .ref b :: rest) (hW : (rest.map fun v => v.category).sum ≤ 8) (hdg : decode cc pc = .ok (.invokevirtual index, 3)) (hf : cells + 0 ≤ R.cells ∧ slots + 0 ≤ R.slots)
    (hS : va_S A s.heap H locs) (hA : ∀ q, s.heap.size ≤ q → A q)
    (kk : W p l e R s m args below meth c H locs cells slots Q (F0 m (pc + 3) ls (.long v :: rest))) : W p l e R s m args below meth c H locs cells slots Q (F0 m pc ls st0) := by
  have hPc := hP.sub (ws' := xw ad cs u (jyx j)) [1, 2, 3, 4, 5, 6, 7, 8, 9, 10, 11, 12, 13, 14, 15] rfl
  have hDc := hD.sub (ws' := xw ad cs u (jyx j)) [1, 2, 3, 4, 5, 6, 7, 8, 9, 10, 11, 12, 13, 14, 15] (by decide) rfl
  have hKc := hK.sub (tys' := xty cs) [1, 2, 3, 4, 5, 6, 7, 8, 9, 10, 11, 12] rfl
  have hFc := va_free (wc := xw ad cs u (jyx j)) hD hS hA [1, 2, 3, 4, 5, 6, 7, 8, 9, 10, 11, 12, 13, 14, 15] rfl
  refine vp_callSl (va_Run.run (va_runV (As := As) (rest := rest) S hM (cwV As.length S.2.2.2.2 (gi_V h1 h2 h3 h4 h5) rfl hrc hrs hd hR) (xw_preV hKc hPc hDc hN hc he) rfl rfl hsize hst (lv_room hW) hdg hf)) (fun r hr => ?_)
  subst hr
  exact kk
theorem yx_wri {v : Int32} {pj : Jx → Prop} (S : CallFix p m c cc nL s args (c0 :: TB) own) (hM : Met l y (Cond.code y bytes maxL ret :: TB) rm (va_Pc (.ref b :: As) (xw_Pre D cs ad u (jyx j) H.size)) (va_Qi (fun (r : Int32) (j1 : Jx) => r = v ∧ pj j1) (fun (j1 : Jx) t => xw_B D cs ad (va_A (xw ad cs u (jyx j)) H.size) u' j1 t) (va_A (xw ad cs u (jyx j)) H.size)) 0 0 (va_A (xw ad cs u (jyx j)) H.size))
    (h1 : Cond.methodLink own index y ∈ TB) (h2 : Cond.instanceMethod y ∈ TB) (h3 : Cond.selects C y y ∈ TB) (h4 : Cond.initialized C ∈ TB) (h5 : Cond.code y bytes maxL ret ∈ TB)
    (hd : y.cls = C ∧ y.cls ≠ "java/lang/invoke/MethodHandle" ∧ y.cls ≠ "java/lang/invoke/VarHandle" ∧ (parseMethodDescriptor y.desc).map (fun d => d.parameters.length) = some As.length) (hR : rm.frames + 1 ≤ R.frames ∧ 8 + (maxL + 11) + rm.locals ≤ R.locals) (hrc : rm.cells = 0) (hrs : rm.slots = 0)
    (hK : va_K D cx (yty cs) s) (hP : va_P D cx (yw ad cs u j) H) (hD : va_D A (yw ad cs u j)) (hN : xw_N s) (q0 ci : Nat) {T : u_T} {N : Nat} {fs : List Value} (hc : cx[ci]? = some (C, T, N)) (he : (xw ad cs u (jyx j))[q0]? = some (b, .inr (ci, fs)))
    (hsize : ls.size = nL) (hst : st0 = As.reverse ++ .ref b :: rest) (hW : (rest.map fun v => v.category).sum ≤ 8) (hdg : decode cc pc = .ok (.invokevirtual index, 3)) (hf : cells + 0 ≤ R.cells ∧ slots + 0 ≤ R.slots)
    (hS : va_S A s.heap H locs) (hA : ∀ q, s.heap.size ≤ q → A q)
    (kk : ∀ (j1 : Jx) (H1 : Heap) (locs1 : List Loc), pj j1 → va_P D cx (yw ad cs u' (jxy j1 (jy_ou j))) H1 → va_D A (yw ad cs u' (jxy j1 (jy_ou j))) → va_S A s.heap H1 locs1 → W p l e R s m args below meth c H1 locs1 cells slots Q (F0 m (pc + 3) ls (.int v :: rest))) : W p l e R s m args below meth c H locs cells slots Q (F0 m pc ls st0) := by
  have hPc := hP.sub (ws' := xw ad cs u (jyx j)) [1, 2, 3, 4, 5, 6, 7, 8, 9, 10, 11, 12, 13, 14, 15] rfl
  have hDc := hD.sub (ws' := xw ad cs u (jyx j)) [1, 2, 3, 4, 5, 6, 7, 8, 9, 10, 11, 12, 13, 14, 15] (by decide) rfl
  have hKc := hK.sub (tys' := xty cs) [1, 2, 3, 4, 5, 6, 7, 8, 9, 10, 11, 12] rfl
  have hFc := va_free (wc := xw ad cs u (jyx j)) hD hS hA [1, 2, 3, 4, 5, 6, 7, 8, 9, 10, 11, 12, 13, 14, 15] rfl
  refine va_calli (va_runV (As := As) (rest := rest) S hM (cwV As.length S.2.2.2.2 (gi_V h1 h2 h3 h4 h5) rfl hrc hrs hd hR) (xw_preV hKc hPc hDc hN hc he) rfl rfl hsize hst (lv_room hW) hdg hf) hS (fun q _ h => hFc q h) (fun q h => hFc q h) (fun r j1 t H1 locs1 ht hvm hp hB hle hk1 hS1 => ?_)
  obtain ⟨hP1, -, hD1⟩ := hB
  rw [ht] at hP1
  obtain ⟨rfl, hp⟩ := hp
  obtain ⟨hP2, hD2⟩ := va_join (wr := [(ad 15, .inl (cs 12, 1, .inr (.inl (jy_ou j))))]) hP hD [1, 2, 3, 4, 5, 6, 7, 8, 9, 10, 11, 12, 13, 14, 15] [0] rfl rfl (by decide) (by decide) hk1 hFc hP1 hD1
  exact kk j1 H1 locs1 hp hP2 hD2 hS1
theorem yx_wrv {pj : Jx → Prop} (S : CallFix p m c cc nL s args (c0 :: TB) own) (hM : Met l y (Cond.code y bytes maxL ret :: TB) rm (va_Pc (.ref b :: As) (xw_Pre D cs ad u (jyx j) H.size)) (va_Qv (fun (j1 : Jx) => pj j1) (fun (j1 : Jx) t => xw_B D cs ad (va_A (xw ad cs u (jyx j)) H.size) u' j1 t) (va_A (xw ad cs u (jyx j)) H.size)) 0 0 (va_A (xw ad cs u (jyx j)) H.size))
    (h1 : Cond.methodLink own index y ∈ TB) (h2 : Cond.instanceMethod y ∈ TB) (h3 : Cond.selects C y y ∈ TB) (h4 : Cond.initialized C ∈ TB) (h5 : Cond.code y bytes maxL ret ∈ TB)
    (hd : y.cls = C ∧ y.cls ≠ "java/lang/invoke/MethodHandle" ∧ y.cls ≠ "java/lang/invoke/VarHandle" ∧ (parseMethodDescriptor y.desc).map (fun d => d.parameters.length) = some As.length) (hR : rm.frames + 1 ≤ R.frames ∧ 8 + (maxL + 11) + rm.locals ≤ R.locals) (hrc : rm.cells = 0) (hrs : rm.slots = 0)
    (hK : va_K D cx (yty cs) s) (hP : va_P D cx (yw ad cs u j) H) (hD : va_D A (yw ad cs u j)) (hN : xw_N s) (q0 ci : Nat) {T : u_T} {N : Nat} {fs : List Value} (hc : cx[ci]? = some (C, T, N)) (he : (xw ad cs u (jyx j))[q0]? = some (b, .inr (ci, fs)))
    (hsize : ls.size = nL) (hst : st0 = As.reverse ++ .ref b :: rest) (hW : (rest.map fun v => v.category).sum ≤ 8) (hdg : decode cc pc = .ok (.invokevirtual index, 3)) (hf : cells + 0 ≤ R.cells ∧ slots + 0 ≤ R.slots)
    (hS : va_S A s.heap H locs) (hA : ∀ q, s.heap.size ≤ q → A q)
    (kk : ∀ (j1 : Jx) (H1 : Heap) (locs1 : List Loc), pj j1 → va_P D cx (yw ad cs u' (jxy j1 (jy_ou j))) H1 → va_D A (yw ad cs u' (jxy j1 (jy_ou j))) → va_S A s.heap H1 locs1 → W p l e R s m args below meth c H1 locs1 cells slots Q (F0 m (pc + 3) ls (rest))) : W p l e R s m args below meth c H locs cells slots Q (F0 m pc ls st0) := by
  have hPc := hP.sub (ws' := xw ad cs u (jyx j)) [1, 2, 3, 4, 5, 6, 7, 8, 9, 10, 11, 12, 13, 14, 15] rfl
  have hDc := hD.sub (ws' := xw ad cs u (jyx j)) [1, 2, 3, 4, 5, 6, 7, 8, 9, 10, 11, 12, 13, 14, 15] (by decide) rfl
  have hKc := hK.sub (tys' := xty cs) [1, 2, 3, 4, 5, 6, 7, 8, 9, 10, 11, 12] rfl
  have hFc := va_free (wc := xw ad cs u (jyx j)) hD hS hA [1, 2, 3, 4, 5, 6, 7, 8, 9, 10, 11, 12, 13, 14, 15] rfl
  refine va_callv (va_runV (As := As) (rest := rest) S hM (cwV As.length S.2.2.2.2 (gi_V h1 h2 h3 h4 h5) rfl hrc hrs hd hR) (xw_preV hKc hPc hDc hN hc he) rfl rfl hsize hst (lv_room hW) hdg hf) hS (fun q _ h => hFc q h) (fun q h => hFc q h) (fun j1 t H1 locs1 ht hvm hp hB hle hk1 hS1 => ?_)
  obtain ⟨hP1, -, hD1⟩ := hB
  rw [ht] at hP1
  obtain ⟨hP2, hD2⟩ := va_join (wr := [(ad 15, .inl (cs 12, 1, .inr (.inl (jy_ou j))))]) hP hD [1, 2, 3, 4, 5, 6, 7, 8, 9, 10, 11, 12, 13, 14, 15] [0] rfl rfl (by decide) (by decide) hk1 hFc hP1 hD1
  exact kk j1 H1 locs1 hp hP2 hD2 hS1
theorem yx_tr {X : String} (S : CallFix p m c cc nL s args (c0 :: TB) own) (hM : tk_Met l y (Cond.code y bytes maxL ret :: TB) rm (va_Pc (.ref b :: As) (xw_PreT D cs ad u (jyx j) H.size)) (tk_Qt X (fun t => ∃ j1 : Jx, xw_B D cs ad (va_A (xw ad cs u (jyx j)) H.size) u' j1 t) (va_A (xw ad cs u (jyx j)) H.size)) 1 6 (va_A (xw ad cs u (jyx j)) H.size))
    (h1 : Cond.methodLink own index y ∈ TB) (h2 : Cond.instanceMethod y ∈ TB) (h3 : Cond.selects C y y ∈ TB) (h4 : Cond.initialized C ∈ TB) (h5 : Cond.code y bytes maxL ret ∈ TB)
    (hd : y.cls = C ∧ y.cls ≠ "java/lang/invoke/MethodHandle" ∧ y.cls ≠ "java/lang/invoke/VarHandle" ∧ (parseMethodDescriptor y.desc).map (fun d => d.parameters.length) = some As.length) (hR : rm.frames + 1 ≤ R.frames ∧ 8 + (maxL + 11) + rm.locals ≤ R.locals) (hrc : rm.cells = 1) (hrs : rm.slots = 6)
    (hK : va_K D cx (yty cs) s) (hP : va_P D cx (yw ad cs u j) H) (hD : va_D A (yw ad cs u j)) (hN : xw_N s) (q0 ci : Nat) {T : u_T} {N : Nat} {fs : List Value} (hc : cx[ci]? = some (C, T, N)) (he : (xw ad cs u (jyx j))[q0]? = some (b, .inr (ci, fs)))
    (hsize : ls.size = nL) (hst : st0 = As.reverse ++ .ref b :: rest) (hW : (rest.map fun v => v.category).sum ≤ 8) (hdg : decode cc pc = .ok (.invokevirtual index, 3)) (hf : cells + 1 ≤ R.cells ∧ slots + 6 ≤ R.slots)
    (hS : va_S A s.heap H locs) (hA : ∀ q, s.heap.size ≤ q → A q)
    {A1 : Nat → Prop} (hZ : xTA A1 s H) (pre : List ExceptionTableEntry) (x : ExceptionTableEntry) (suf : List ExceptionTableEntry) (hsplit : c.exceptionTable.toList = pre ++ x :: suf)
    (hpass : ∀ z ∈ pre, covers z pc = false ∨ (z.catchType ≠ 0 ∧ ∃ nm : String, (Cond.classLink own z.catchType nm).before args s = true ∧ va_Nc X nm s)) (hx : covers x pc = true) (h0 : x.catchType ≠ 0) (hlink : (Cond.classLink own x.catchType X).before args s = true)
    (kk : ∀ (x9 : Nat) (j1 : Jx) (H1 : Heap) (locs1 : List Loc), va_P D cx (yw ad cs u' (jxy j1 (jy_ou j))) H1 → va_D A (yw ad cs u' (jxy j1 (jy_ou j))) → va_S A s.heap H1 locs1 → W p l e R s m args below meth c H1 locs1 (cells + 1) (slots + 6) Q (F0 m x.handlerPc ls [.ref x9])) : W p l e R s m args below meth c H locs cells slots Q (F0 m pc ls st0) := by
  have hPc := hP.sub (ws' := xw ad cs u (jyx j)) [1, 2, 3, 4, 5, 6, 7, 8, 9, 10, 11, 12, 13, 14, 15] rfl
  have hDc := hD.sub (ws' := xw ad cs u (jyx j)) [1, 2, 3, 4, 5, 6, 7, 8, 9, 10, 11, 12, 13, 14, 15] (by decide) rfl
  have hKc := hK.sub (tys' := xty cs) [1, 2, 3, 4, 5, 6, 7, 8, 9, 10, 11, 12] rfl
  have hFc := va_free (wc := xw ad cs u (jyx j)) hD hS hA [1, 2, 3, 4, 5, 6, 7, 8, 9, 10, 11, 12, 13, 14, 15] rfl
  refine tk_catch S.2.2.2.1 pre x suf hsplit hpass hx h0 hlink (tk_runV (As := As) (rest := rest) S hM (fun a st o t h => by obtain ⟨⟨q, ce, ho, -⟩, -⟩ := h; exact ⟨q, ho⟩) (cwV As.length S.2.2.2.2 (gi_V h1 h2 h3 h4 h5) rfl hrc hrs hd hR) ⟨xw_blindT, va_recv hKc hPc hc he, fun U hU hW => ⟨rfl, ⟨by rw [hU], by rw [hU]; exact hPc, va_K.moved hW.alike hKc, hDc.weaken (fun _ _ _ _ => trivial), hN.warm hW⟩, hZ.at hU hW⟩⟩ rfl rfl hsize hst (lv_room hW) hdg hf) hS (fun q _ h => hFc q h) (fun q h => hFc q h) (fun x9 t H1 locs1 ht hvm hB hle hk1 hS1 => ?_)
  obtain ⟨j1, hP1, -, hD1⟩ := hB
  rw [ht] at hP1
  obtain ⟨hP2, hD2⟩ := va_join (wr := [(ad 15, .inl (cs 12, 1, .inr (.inl (jy_ou j))))]) hP hD [1, 2, 3, 4, 5, 6, 7, 8, 9, 10, 11, 12, 13, 14, 15] [0] rfl rfl (by decide) (by decide) hk1 hFc hP1 hD1
  exact kk x9 j1 H1 locs1 hP2 hD2 hS1
end YW
