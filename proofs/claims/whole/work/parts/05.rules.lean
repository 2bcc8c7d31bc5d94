abbrev cx : List vw_C := [("MeasuredStages", F_ms, 12), ("MeasuredStages$Registers", F_rg, 5), ("MeasuredStages$Blobs", F_bl, 3), ("MeasuredStagesModel", F_md, 19)]
abbrev Jx : Type := (Nat → Int64) × (Nat → Int32) × Int32 × (Nat → Int64)
def jx_ru (j : Jx) : Nat → Int64 := j.1
def jx_nd (j : Jx) : Nat → Int32 := j.2.1
def jx_de (j : Jx) : Int32 := j.2.2.1
def jx_rp (j : Jx) : Nat → Int64 := j.2.2.2
def sx_ru (j : Jx) (x : Nat → Int64) : Jx := (x, j.2.1, j.2.2.1, j.2.2.2)
def sx_nd (j : Jx) (x : Nat → Int32) : Jx := (j.1, x, j.2.2.1, j.2.2.2)
def sx_de (j : Jx) (x : Int32) : Jx := (j.1, j.2.1, x, j.2.2.2)
def sx_rp (j : Jx) (x : Nat → Int64) : Jx := (j.1, j.2.1, j.2.2.1, x)
/-- the cells, by what they hold -/
def xv (ad : Nat → Nat) (cs : Nat → ClassId) (im : Nat → Int64) (ap : Nat → Int32) (ag : Nat → Int64) (he : Nat → Int64) (er : Nat → Int32) (ev : Nat → Int64) (en : Int32) (ma : Nat → Int32) (po : Nat → Int64) (se : Nat → Int64) (ac : Int64) (fa : Int32) (la : Int32) (st : Int32) (jru : Nat → Int64) (jnd : Nat → Int32) (jde : Int32) (jrp : Nat → Int64) : va_W := [(ad 0, .inr (0, [.ref (ad 1), .ref (ad 2), .ref (ad 3), .ref (ad 4), .ref (ad 5), .ref (ad 6), .ref (ad 7), .int jde, .long ac, .int fa, .int la, .int st])), (ad 1, .inl (cs 0, 8, .inr (.inl im))), (ad 2, .inl (cs 1, 8, .inl ap)), (ad 3, .inl (cs 2, 8, .inr (.inl ag))), (ad 4, .inr (1, [.ref (ad 8), .ref (ad 9), .ref (ad 10), .int en, .ref (ad 11)])), (ad 5, .inr (2, [.ref (ad 12), .ref (ad 13), .ref (ad 14)])), (ad 6, .inl (cs 3, 6, .inr (.inl jru))), (ad 7, .inl (cs 4, 6, .inl jnd)), (ad 8, .inl (cs 5, 6, .inr (.inl he))), (ad 9, .inl (cs 6, 32, .inl er)), (ad 10, .inl (cs 7, 32, .inr (.inl ev))), (ad 11, .inl (cs 8, 6, .inr (.inl jrp))), (ad 12, .inl (cs 9, 8, .inl ma)), (ad 13, .inl (cs 10, 8, .inr (.inl po))), (ad 14, .inl (cs 11, 8, .inr (.inl se)))]
def xw (ad : Nat → Nat) (cs : Nat → ClassId) (u : Sg) (j : Jx) : va_W := xv ad cs (sg_im u) (sg_ap u) (sg_ag u) (sg_he u) (sg_er u) (sg_ev u) (sg_en u) (sg_ma u) (sg_po u) (sg_se u) (sg_ac u) (sg_fa u) (sg_la u) (sg_st u) (jx_ru j) (jx_nd j) (jx_de j) (jx_rp j)
theorem xw_u (ad : Nat → Nat) (cs : Nat → ClassId) (im : Nat → Int64) (ap : Nat → Int32) (ag : Nat → Int64) (he : Nat → Int64) (er : Nat → Int32) (ev : Nat → Int64) (en : Int32) (ma : Nat → Int32) (po : Nat → Int64) (se : Nat → Int64) (ac : Int64) (fa : Int32) (la : Int32) (st : Int32) (j : Jx) : xw ad cs (im, ap, ag, he, er, ev, en, ma, po, se, ac, fa, la, st) j = xv ad cs im ap ag he er ev en ma po se ac fa la st (jx_ru j) (jx_nd j) (jx_de j) (jx_rp j) := rfl
theorem xw_j (ad : Nat → Nat) (cs : Nat → ClassId) (u : Sg) (jru : Nat → Int64) (jnd : Nat → Int32) (jde : Int32) (jrp : Nat → Int64) : xw ad cs u (jru, jnd, jde, jrp) = xv ad cs (sg_im u) (sg_ap u) (sg_ag u) (sg_he u) (sg_er u) (sg_ev u) (sg_en u) (sg_ma u) (sg_po u) (sg_se u) (sg_ac u) (sg_fa u) (sg_la u) (sg_st u) jru jnd jde jrp := rfl
theorem xw_uj (ad : Nat → Nat) (cs : Nat → ClassId) (im : Nat → Int64) (ap : Nat → Int32) (ag : Nat → Int64) (he : Nat → Int64) (er : Nat → Int32) (ev : Nat → Int64) (en : Int32) (ma : Nat → Int32) (po : Nat → Int64) (se : Nat → Int64) (ac : Int64) (fa : Int32) (la : Int32) (st : Int32) (jru : Nat → Int64) (jnd : Nat → Int32) (jde : Int32) (jrp : Nat → Int64) : xw ad cs (im, ap, ag, he, er, ev, en, ma, po, se, ac, fa, la, st) (jru, jnd, jde, jrp) = xv ad cs im ap ag he er ev en ma po se ac fa la st jru jnd jde jrp := rfl
def xty (cs : Nat → ClassId) : List (ClassId × FieldType) := [(cs 0, .long), (cs 1, .boolean), (cs 2, .long), (cs 3, .long), (cs 4, .int), (cs 5, .long), (cs 6, .int), (cs 7, .long), (cs 8, .long), (cs 9, .int), (cs 10, .long), (cs 11, .long)]
abbrev Jm : Type := (Nat → Int64) × Int32 × (Nat → Int32) × (Nat → Int32) × Int32
def jm_ag (j : Jm) : Nat → Int64 := j.1
def jm_de (j : Jm) : Int32 := j.2.1
def jm_ru (j : Jm) : Nat → Int32 := j.2.2.1
def jm_nx (j : Jm) : Nat → Int32 := j.2.2.2.1
def jm_th (j : Jm) : Int32 := j.2.2.2.2
def sm_ag (j : Jm) (x : Nat → Int64) : Jm := (x, j.2.1, j.2.2.1, j.2.2.2.1, j.2.2.2.2)
def sm_de (j : Jm) (x : Int32) : Jm := (j.1, x, j.2.2.1, j.2.2.2.1, j.2.2.2.2)
def sm_ru (j : Jm) (x : Nat → Int32) : Jm := (j.1, j.2.1, x, j.2.2.2.1, j.2.2.2.2)
def sm_nx (j : Jm) (x : Nat → Int32) : Jm := (j.1, j.2.1, j.2.2.1, x, j.2.2.2.2)
def sm_th (j : Jm) (x : Int32) : Jm := (j.1, j.2.1, j.2.2.1, j.2.2.2.1, x)
/-- the cells, by what they hold -/
def mv (ad : Nat → Nat) (cs : Nat → ClassId) (im : Nat → Int64) (ap : Nat → Int32) (ag : Nat → Int64) (he : Nat → Int64) (er : Nat → Int32) (ev : Nat → Int64) (en : Int32) (ma : Nat → Int32) (po : Nat → Int64) (se : Nat → Int64) (ac : Int64) (fa : Int32) (la : Int32) (st : Int32) (jag : Nat → Int64) (jde : Int32) (jru : Nat → Int32) (jnx : Nat → Int32) (jth : Int32) : va_W := [(ad 0, .inr (3, [.ref (ad 1), .ref (ad 2), .ref (ad 3), .ref (ad 4), .ref (ad 5), .ref (ad 6), .ref (ad 7), .int en, .ref (ad 8), .ref (ad 9), .ref (ad 10), .long ac, .int la, .int st, .int fa, .int jde, .ref (ad 11), .ref (ad 12), .int jth])), (ad 1, .inl (cs 0, 6, .inr (.inl he))), (ad 2, .inl (cs 1, 8, .inr (.inl im))), (ad 3, .inl (cs 2, 8, .inl ap)), (ad 4, .inl (cs 3, 8, .inr (.inl ag))), (ad 5, .inl (cs 4, 8, .inl ma)), (ad 6, .inl (cs 5, 8, .inr (.inl po))), (ad 7, .inl (cs 6, 8, .inr (.inl se))), (ad 8, .inl (cs 7, 32, .inl er)), (ad 9, .inl (cs 8, 32, .inr (.inl ev))), (ad 10, .inl (cs 9, 6, .inr (.inl jag))), (ad 11, .inl (cs 10, 6, .inl jru)), (ad 12, .inl (cs 11, 6, .inl jnx))]
def mw (ad : Nat → Nat) (cs : Nat → ClassId) (u : Sg) (j : Jm) : va_W := mv ad cs (sg_im u) (sg_ap u) (sg_ag u) (sg_he u) (sg_er u) (sg_ev u) (sg_en u) (sg_ma u) (sg_po u) (sg_se u) (sg_ac u) (sg_fa u) (sg_la u) (sg_st u) (jm_ag j) (jm_de j) (jm_ru j) (jm_nx j) (jm_th j)
theorem mw_u (ad : Nat → Nat) (cs : Nat → ClassId) (im : Nat → Int64) (ap : Nat → Int32) (ag : Nat → Int64) (he : Nat → Int64) (er : Nat → Int32) (ev : Nat → Int64) (en : Int32) (ma : Nat → Int32) (po : Nat → Int64) (se : Nat → Int64) (ac : Int64) (fa : Int32) (la : Int32) (st : Int32) (j : Jm) : mw ad cs (im, ap, ag, he, er, ev, en, ma, po, se, ac, fa, la, st) j = mv ad cs im ap ag he er ev en ma po se ac fa la st (jm_ag j) (jm_de j) (jm_ru j) (jm_nx j) (jm_th j) := rfl
theorem mw_j (ad : Nat → Nat) (cs : Nat → ClassId) (u : Sg) (jag : Nat → Int64) (jde : Int32) (jru : Nat → Int32) (jnx : Nat → Int32) (jth : Int32) : mw ad cs u (jag, jde, jru, jnx, jth) = mv ad cs (sg_im u) (sg_ap u) (sg_ag u) (sg_he u) (sg_er u) (sg_ev u) (sg_en u) (sg_ma u) (sg_po u) (sg_se u) (sg_ac u) (sg_fa u) (sg_la u) (sg_st u) jag jde jru jnx jth := rfl
theorem mw_uj (ad : Nat → Nat) (cs : Nat → ClassId) (im : Nat → Int64) (ap : Nat → Int32) (ag : Nat → Int64) (he : Nat → Int64) (er : Nat → Int32) (ev : Nat → Int64) (en : Int32) (ma : Nat → Int32) (po : Nat → Int64) (se : Nat → Int64) (ac : Int64) (fa : Int32) (la : Int32) (st : Int32) (jag : Nat → Int64) (jde : Int32) (jru : Nat → Int32) (jnx : Nat → Int32) (jth : Int32) : mw ad cs (im, ap, ag, he, er, ev, en, ma, po, se, ac, fa, la, st) (jag, jde, jru, jnx, jth) = mv ad cs im ap ag he er ev en ma po se ac fa la st jag jde jru jnx jth := rfl
def mty (cs : Nat → ClassId) : List (ClassId × FieldType) := [(cs 0, .long), (cs 1, .long), (cs 2, .boolean), (cs 3, .long), (cs 4, .int), (cs 5, .long), (cs 6, .long), (cs 7, .int), (cs 8, .long), (cs 9, .long), (cs 10, .int), (cs 11, .int)]
abbrev Jf : Type := (Nat → Int64)
def jf_f (j : Jf) : Nat → Int64 := j
def sf_f (j : Jf) (x : Nat → Int64) : Jf := (x)
/-- the cells, by what they hold -/
def fv (ad : Nat → Nat) (cs : Nat → ClassId) (im : Nat → Int64) (ap : Nat → Int32) (ag : Nat → Int64) (he : Nat → Int64) (er : Nat → Int32) (ev : Nat → Int64) (en : Int32) (ma : Nat → Int32) (po : Nat → Int64) (se : Nat → Int64) (ac : Int64) (fa : Int32) (la : Int32) (st : Int32) (jf : Nat → Int64) : va_W := [(ad 0, .inl (cs 0, 6, .inr (.inl jf)))]
def fw (ad : Nat → Nat) (cs : Nat → ClassId) (u : Sg) (j : Jf) : va_W := fv ad cs (sg_im u) (sg_ap u) (sg_ag u) (sg_he u) (sg_er u) (sg_ev u) (sg_en u) (sg_ma u) (sg_po u) (sg_se u) (sg_ac u) (sg_fa u) (sg_la u) (sg_st u) (jf_f j)
theorem fw_u (ad : Nat → Nat) (cs : Nat → ClassId) (im : Nat → Int64) (ap : Nat → Int32) (ag : Nat → Int64) (he : Nat → Int64) (er : Nat → Int32) (ev : Nat → Int64) (en : Int32) (ma : Nat → Int32) (po : Nat → Int64) (se : Nat → Int64) (ac : Int64) (fa : Int32) (la : Int32) (st : Int32) (j : Jf) : fw ad cs (im, ap, ag, he, er, ev, en, ma, po, se, ac, fa, la, st) j = fv ad cs im ap ag he er ev en ma po se ac fa la st (jf_f j) := rfl
theorem fw_j (ad : Nat → Nat) (cs : Nat → ClassId) (u : Sg) (jf : Nat → Int64) : fw ad cs u (jf) = fv ad cs (sg_im u) (sg_ap u) (sg_ag u) (sg_he u) (sg_er u) (sg_ev u) (sg_en u) (sg_ma u) (sg_po u) (sg_se u) (sg_ac u) (sg_fa u) (sg_la u) (sg_st u) jf := rfl
theorem fw_uj (ad : Nat → Nat) (cs : Nat → ClassId) (im : Nat → Int64) (ap : Nat → Int32) (ag : Nat → Int64) (he : Nat → Int64) (er : Nat → Int32) (ev : Nat → Int64) (en : Int32) (ma : Nat → Int32) (po : Nat → Int64) (se : Nat → Int64) (ac : Int64) (fa : Int32) (la : Int32) (st : Int32) (jf : Nat → Int64) : fw ad cs (im, ap, ag, he, er, ev, en, ma, po, se, ac, fa, la, st) (jf) = fv ad cs im ap ag he er ev en ma po se ac fa la st jf := rfl
def fty (cs : Nat → ClassId) : List (ClassId × FieldType) := [(cs 0, .long)]
def xw_N (U : State) : Prop := va_Nw (.methodLinkNest "MeasuredStages$Registers" 35 y_ms_hash "MeasuredStages") U
def mw_N (_ : State) : Prop := True
def fw_N (_ : State) : Prop := True
theorem xw_N.calling {U : State} {g : JFrame} {mk : MethodId} {a : Array Value} (h : xw_N U) : xw_N (U.calling g mk a) := va_Nw.same rfl rfl h
theorem mw_N.calling {U : State} {g : JFrame} {mk : MethodId} {a : Array Value} (_ : mw_N U) : mw_N (U.calling g mk a) := trivial
theorem xw_N.warm {s U : State} (hW : s.WarmedH U.vm) (h : xw_N s) : xw_N U := va_Nw.warmM hW h
theorem fw_N.calling {U : State} {g : JFrame} {mk : MethodId} {a : Array Value} (_ : fw_N U) : fw_N (U.calling g mk a) := trivial
theorem fw_N.warm {s U : State} (_ : s.WarmedH U.vm) (_ : fw_N s) : fw_N U := trivial
theorem mw_N.warm {s U : State} (_ : s.WarmedH U.vm) (_ : mw_N s) : mw_N U := trivial
theorem gi_V {own C : String} {index maxL : Nat} {y : MethodName} {bytes : ByteArray} {ret : Option FieldType} {c0 : Cond} (h1 : Cond.methodLink own index y ∈ TB) (h2 : Cond.instanceMethod y ∈ TB) (h3 : Cond.selects C y y ∈ TB) (h4 : Cond.initialized C ∈ TB) (h5 : Cond.code y bytes maxL ret ∈ TB) :
    GoodIn (c0 :: TB) (wsV own index C y (Cond.code y bytes maxL ret :: TB)) := tb_gi (by
  intro w hw
  simp only [wsV, List.mem_append, List.mem_cons, List.not_mem_nil, or_false] at hw
  rcases hw with (rfl | rfl | rfl | rfl) | rfl | hw
  · exact h1
  · exact h2
  · exact h3
  · exact h4
  · exact h5
  · exact hw)
theorem gi_S {own : String} {index maxL : Nat} {y : MethodName} {bytes : ByteArray} {ret : Option FieldType} {c0 : Cond} (h1 : Cond.methodLink own index y ∈ TB) (h2 : Cond.static y ∈ TB) (h4 : Cond.initialized y.cls ∈ TB) (h5 : Cond.code y bytes maxL ret ∈ TB) :
    GoodIn (c0 :: TB) (va_wsS own index y (Cond.code y bytes maxL ret :: TB)) := tb_gi (by
  intro w hw
  simp only [va_wsS, List.mem_append, List.mem_cons, List.not_mem_nil, or_false] at hw
  rcases hw with (rfl | rfl | rfl) | rfl | hw
  · exact h1
  · exact h2
  · exact h4
  · exact h5
  · exact hw)
theorem gi_C {maxL : Nat} {y : MethodName} {bytes : ByteArray} {ret : Option FieldType} {c0 : Cond} (h5 : Cond.code y bytes maxL ret ∈ TB) : GoodIn (c0 :: TB) (Cond.code y bytes maxL ret :: TB) := tb_gi (by
  intro w hw
  rcases List.mem_cons.mp hw with rfl | hw
  · exact h5
  · exact hw)
section ST
variable {p : Program} {l : Launch} {e : Env} {R : Room} {s : State} {m : MethodId} {args : Array Value} {below : List Frame} {meth : Method} {c : Code} {H : Heap} {locs : List Loc} {cells slots : Nat} {Q : State → Prop}
variable {y : MethodName} {bytes cc : ByteArray} {maxL nL index pc : Nat} {ret : Option FieldType} {rm : Room} {own C host : String} {b : Nat} {As rest st0 : List Value} {ls : Array Slot} {c0 : Cond} {D : va_G} {cs : Nat → ClassId} {ad : Nat → Nat} {u u' : Sg} {A : Nat → Prop}
theorem st_pre : PreS s H (va_Pc As (fun _ => True)) As := ⟨fun _ _ _ _ q => q, fun _ _ _ => ⟨rfl, trivial⟩⟩
/-- a call of a static method that reads nothing -/
theorem st_i {v : Int32} (S : CallFix p m c cc nL s args (c0 :: TB) own) (hM : Met l y (Cond.code y bytes maxL ret :: TB) rm (va_Pc As (fun _ => True)) (vp_Si (fun r => r = v)) 0 0 (fun _ => False))
    (h1 : Cond.methodLink own index y ∈ TB) (h2 : Cond.static y ∈ TB) (h4 : Cond.initialized y.cls ∈ TB) (h5 : Cond.code y bytes maxL ret ∈ TB)
    (hd : y.cls ≠ "java/lang/invoke/MethodHandle" ∧ y.cls ≠ "java/lang/invoke/VarHandle" ∧ (parseMethodDescriptor y.desc).map (fun d => d.parameters.length) = some As.length) (hR : rm.frames + 1 ≤ R.frames ∧ 8 + (maxL + 11) + rm.locals ≤ R.locals) (hrc : rm.cells = 0) (hrs : rm.slots = 0)
    (hsize : ls.size = nL) (hst : st0 = As.reverse ++ rest) (hW : (rest.map fun v => v.category).sum ≤ 8) (hdg : decode cc pc = .ok (.invokestatic index, 3)) (hf : cells ≤ R.cells ∧ slots ≤ R.slots)
    (kk : W p l e R s m args below meth c H locs cells slots Q (F0 m (pc + 3) ls (.int v :: rest))) : W p l e R s m args below meth c H locs cells slots Q (F0 m pc ls st0) := by
  refine vp_callSi (va_Run.run (va_runS (As := As) (rest := rest) S hM (va_cwS As.length S.2.2.2.2 (gi_S h1 h2 h4 h5) rfl hrc hrs hd hR) st_pre rfl rfl hsize hst (lv_room hW) hdg hf)) (fun r hr => ?_)
  subst hr
  exact kk
/-- the same of a nest mate's private one -/
theorem sn_i {v : Int32} (S : CallFix p m c cc nL s args (c0 :: TB) own) (hM : Met l y (Cond.code y bytes maxL ret :: TB) rm (va_Pc As (fun _ => True)) (vp_Si (fun r => r = v)) 0 0 (fun _ => False))
    (h1 : va_Nw (.methodLinkNest own index y host) s) (h2 : Cond.static y ∈ TB) (h4 : Cond.initialized y.cls ∈ TB) (h5 : Cond.code y bytes maxL ret ∈ TB)
    (hd : y.cls ≠ "java/lang/invoke/MethodHandle" ∧ y.cls ≠ "java/lang/invoke/VarHandle" ∧ (parseMethodDescriptor y.desc).map (fun d => d.parameters.length) = some As.length) (hR : rm.frames + 1 ≤ R.frames ∧ 8 + (maxL + 11) + rm.locals ≤ R.locals) (hrc : rm.cells = 0) (hrs : rm.slots = 0)
    (hsize : ls.size = nL) (hst : st0 = As.reverse ++ rest) (hW : (rest.map fun v => v.category).sum ≤ 8) (hdg : decode cc pc = .ok (.invokestatic index, 3)) (hf : cells ≤ R.cells ∧ slots ≤ R.slots)
    (kk : W p l e R s m args below meth c H locs cells slots Q (F0 m (pc + 3) ls (.int v :: rest))) : W p l e R s m args below meth c H locs cells slots Q (F0 m pc ls st0) := by
  refine vp_callSi (va_Run.run (va_runSN (As := As) (rest := rest) S hM ⟨va_cnB As.length S.2.2.2.2 (gi_C h5) rfl hrc hrs h1 (S.2.2.2.2 _ (List.mem_cons_of_mem _ h4)) hd hR, S.2.2.2.2 _ (List.mem_cons_of_mem _ h2), trivial⟩ st_pre rfl rfl hsize hst (lv_room hW) hdg hf)) (fun r hr => ?_)
  subst hr
  exact kk
/-- a call of a static method that reads nothing -/
theorem st_l {v : Int64} (S : CallFix p m c cc nL s args (c0 :: TB) own) (hM : Met l y (Cond.code y bytes maxL ret :: TB) rm (va_Pc As (fun _ => True)) (vp_Sl (fun r => r = v)) 0 0 (fun _ => False))
    (h1 : Cond.methodLink own index y ∈ TB) (h2 : Cond.static y ∈ TB) (h4 : Cond.initialized y.cls ∈ TB) (h5 : Cond.code y bytes maxL ret ∈ TB)
    (hd : y.cls ≠ "java/lang/invoke/MethodHandle" ∧ y.cls ≠ "java/lang/invoke/VarHandle" ∧ (parseMethodDescriptor y.desc).map (fun d => d.parameters.length) = some As.length) (hR : rm.frames + 1 ≤ R.frames ∧ 8 + (maxL + 11) + rm.locals ≤ R.locals) (hrc : rm.cells = 0) (hrs : rm.slots = 0)
    (hsize : ls.size = nL) (hst : st0 = As.reverse ++ rest) (hW : (rest.map fun v => v.category).sum ≤ 8) (hdg : decode cc pc = .ok (.invokestatic index, 3)) (hf : cells ≤ R.cells ∧ slots ≤ R.slots)
    (kk : W p l e R s m args below meth c H locs cells slots Q (F0 m (pc + 3) ls (.long v :: rest))) : W p l e R s m args below meth c H locs cells slots Q (F0 m pc ls st0) := by
  refine vp_callSl (va_Run.run (va_runS (As := As) (rest := rest) S hM (va_cwS As.length S.2.2.2.2 (gi_S h1 h2 h4 h5) rfl hrc hrs hd hR) st_pre rfl rfl hsize hst (lv_room hW) hdg hf)) (fun r hr => ?_)
  subst hr
  exact kk
/-- the same of a nest mate's private one -/
theorem sn_l {v : Int64} (S : CallFix p m c cc nL s args (c0 :: TB) own) (hM : Met l y (Cond.code y bytes maxL ret :: TB) rm (va_Pc As (fun _ => True)) (vp_Sl (fun r => r = v)) 0 0 (fun _ => False))
    (h1 : va_Nw (.methodLinkNest own index y host) s) (h2 : Cond.static y ∈ TB) (h4 : Cond.initialized y.cls ∈ TB) (h5 : Cond.code y bytes maxL ret ∈ TB)
    (hd : y.cls ≠ "java/lang/invoke/MethodHandle" ∧ y.cls ≠ "java/lang/invoke/VarHandle" ∧ (parseMethodDescriptor y.desc).map (fun d => d.parameters.length) = some As.length) (hR : rm.frames + 1 ≤ R.frames ∧ 8 + (maxL + 11) + rm.locals ≤ R.locals) (hrc : rm.cells = 0) (hrs : rm.slots = 0)
    (hsize : ls.size = nL) (hst : st0 = As.reverse ++ rest) (hW : (rest.map fun v => v.category).sum ≤ 8) (hdg : decode cc pc = .ok (.invokestatic index, 3)) (hf : cells ≤ R.cells ∧ slots ≤ R.slots)
    (kk : W p l e R s m args below meth c H locs cells slots Q (F0 m (pc + 3) ls (.long v :: rest))) : W p l e R s m args below meth c H locs cells slots Q (F0 m pc ls st0) := by
  refine vp_callSl (va_Run.run (va_runSN (As := As) (rest := rest) S hM ⟨va_cnB As.length S.2.2.2.2 (gi_C h5) rfl hrc hrs h1 (S.2.2.2.2 _ (List.mem_cons_of_mem _ h4)) hd hR, S.2.2.2.2 _ (List.mem_cons_of_mem _ h2), trivial⟩ st_pre rfl rfl hsize hst (lv_room hW) hdg hf)) (fun r hr => ?_)
  subst hr
  exact kk
end ST
section RW_xw
variable {p : Program} {l : Launch} {e : Env} {R : Room} {s : State} {m : MethodId} {args : Array Value} {below : List Frame} {meth : Method} {c : Code} {H : Heap} {locs : List Loc} {cells slots : Nat} {Q : State → Prop}
variable {y : MethodName} {bytes cc : ByteArray} {maxL nL index pc : Nat} {ret : Option FieldType} {rm : Room} {own C host : String} {b : Nat} {As rest st0 : List Value} {ls : Array Slot} {c0 : Cond} {D : va_G} {cs : Nat → ClassId} {ad : Nat → Nat} {u u' : Sg} {A : Nat → Prop}
variable {j : Jx}
def xw_Pre (D : va_G) (cs : Nat → ClassId) (ad : Nat → Nat) (u : Sg) (j : Jx) (sz : Nat) (U : State) : Prop := U.heap.size = sz ∧ va_P D cx (xw ad cs u j) U.heap ∧ va_K D cx (xty cs) U ∧ va_D (fun _ => True) (xw ad cs u j) ∧ xw_N U
def xw_B (D : va_G) (cs : Nat → ClassId) (ad : Nat → Nat) (A : Nat → Prop) (u : Sg) (j : Jx) (t : State) : Prop := va_P D cx (xw ad cs u j) t.heap ∧ va_K D cx (xty cs) t ∧ va_D A (xw ad cs u j)
theorem xw_blind {av : List Value} {sz : Nat} : FrameBlind (va_Pc av (xw_Pre D cs ad u j sz)) := fun a U g mk q => by
  obtain ⟨q0, q1, qP, qK, qD, qN⟩ := q
  exact ⟨q0, q1, qP, va_K.moved (u := U) (U := U.calling g mk a) (Vm.Alike.refl U.vm) qK, qD, qN.calling⟩
theorem xw_preV {q0 ci : Nat} {T : u_T} {N : Nat} {fs : List Value} (hK : va_K D cx (xty cs) s) (hP : va_P D cx (xw ad cs u j) H) (hD : va_D A (xw ad cs u j)) (hN : xw_N s) (hc : cx[ci]? = some (C, T, N)) (he : (xw ad cs u j)[q0]? = some (b, .inr (ci, fs))) :
    PreV s H C b (va_Pc (.ref b :: As) (xw_Pre D cs ad u j H.size)) As :=
  ⟨xw_blind, va_recv hK hP hc he, fun U hU hW => ⟨rfl, by rw [hU], by rw [hU]; exact hP, va_K.moved hW.alike hK, hD.weaken (fun _ _ _ _ => trivial), hN.warm hW⟩⟩
/-- a call of a method that only reads its world -/
theorem xw_rdi {v : Int32} (S : CallFix p m c cc nL s args (c0 :: TB) own) (hM : Met l y (Cond.code y bytes maxL ret :: TB) rm (va_Pc (.ref b :: As) (xw_Pre D cs ad u j H.size)) (vp_Si (fun r => r = v)) 0 0 (fun _ => False))
    (h1 : Cond.methodLink own index y ∈ TB) (h2 : Cond.instanceMethod y ∈ TB) (h3 : Cond.selects C y y ∈ TB) (h4 : Cond.initialized C ∈ TB) (h5 : Cond.code y bytes maxL ret ∈ TB)
    (hd : y.cls = C ∧ y.cls ≠ "java/lang/invoke/MethodHandle" ∧ y.cls ≠ "java/lang/invoke/VarHandle" ∧ (parseMethodDescriptor y.desc).map (fun d => d.parameters.length) = some As.length) (hR : rm.frames + 1 ≤ R.frames ∧ 8 + (maxL + 11) + rm.locals ≤ R.locals) (hrc : rm.cells = 0) (hrs : rm.slots = 0)
    (hK : va_K D cx (xty cs) s) (hP : va_P D cx (xw ad cs u j) H) (hD : va_D A (xw ad cs u j)) (hN : xw_N s) (q0 ci : Nat) {T : u_T} {N : Nat} {fs : List Value} (hc : cx[ci]? = some (C, T, N)) (he : (xw ad cs u j)[q0]? = some (b, .inr (ci, fs)))
    (hsize : ls.size = nL) (hst : st0 = As.reverse ++ .ref b :: rest) (hW : (rest.map fun v => v.category).sum ≤ 8) (hdg : decode cc pc = .ok (.invokevirtual index, 3)) (hf : cells ≤ R.cells ∧ slots ≤ R.slots)
    (kk : W p l e R s m args below meth c H locs cells slots Q (F0 m (pc + 3) ls (.int v :: rest))) : W p l e R s m args below meth c H locs cells slots Q (F0 m pc ls st0) := by
  refine vp_callSi (va_Run.run (va_runV (As := As) (rest := rest) S hM (cwV As.length S.2.2.2.2 (gi_V h1 h2 h3 h4 h5) rfl hrc hrs hd hR) (xw_preV hK hP hD hN hc he) rfl rfl hsize hst (lv_room hW) hdg hf)) (fun r hr => ?_)
  subst hr
  exact kk
/-- a call of a method that only reads its world -/
theorem xw_rdl {v : Int64} (S : CallFix p m c cc nL s args (c0 :: TB) own) (hM : Met l y (Cond.code y bytes maxL ret :: TB) rm (va_Pc (.ref b :: As) (xw_Pre D cs ad u j H.size)) (vp_Sl (fun r => r = v)) 0 0 (fun _ => False))
    (h1 : Cond.methodLink own index y ∈ TB) (h2 : Cond.instanceMethod y ∈ TB) (h3 : Cond.selects C y y ∈ TB) (h4 : Cond.initialized C ∈ TB) (h5 : Cond.code y bytes maxL ret ∈ TB)
    (hd : y.cls = C ∧ y.cls ≠ "java/lang/invoke/MethodHandle" ∧ y.cls ≠ "java/lang/invoke/VarHandle" ∧ (parseMethodDescriptor y.desc).map (fun d => d.parameters.length) = some As.length) (hR : rm.frames + 1 ≤ R.frames ∧ 8 + (maxL + 11) + rm.locals ≤ R.locals) (hrc : rm.cells = 0) (hrs : rm.slots = 0)
    (hK : va_K D cx (xty cs) s) (hP : va_P D cx (xw ad cs u j) H) (hD : va_D A (xw ad cs u j)) (hN : xw_N s) (q0 ci : Nat) {T : u_T} {N : Nat} {fs : List Value} (hc : cx[ci]? = some (C, T, N)) (he : (xw ad cs u j)[q0]? = some (b, .inr (ci, fs)))
    (hsize : ls.size = nL) (hst : st0 = As.reverse ++ .ref b :: rest) (hW : (rest.map fun v => v.category).sum ≤ 8) (hdg : decode cc pc = .ok (.invokevirtual index, 3)) (hf : cells ≤ R.cells ∧ slots ≤ R.slots)
    (kk : W p l e R s m args below meth c H locs cells slots Q (F0 m (pc + 3) ls (.long v :: rest))) : W p l e R s m args below meth c H locs cells slots Q (F0 m pc ls st0) := by
  refine vp_callSl (va_Run.run (va_runV (As := As) (rest := rest) S hM (cwV As.length S.2.2.2.2 (gi_V h1 h2 h3 h4 h5) rfl hrc hrs hd hR) (xw_preV hK hP hD hN hc he) rfl rfl hsize hst (lv_room hW) hdg hf)) (fun r hr => ?_)
  subst hr
  exact kk
/-- a call of a method that may change its world -/
theorem xw_wri {v : Int32} {pj : Jx → Prop} (S : CallFix p m c cc nL s args (c0 :: TB) own) (hM : Met l y (Cond.code y bytes maxL ret :: TB) rm (va_Pc (.ref b :: As) (xw_Pre D cs ad u j H.size)) (va_Qi (fun (r : Int32) (j1 : Jx) => r = v ∧ pj j1) (fun (j1 : Jx) t => xw_B D cs ad (va_A (xw ad cs u j) H.size) u' j1 t) (va_A (xw ad cs u j) H.size)) 0 0 (va_A (xw ad cs u j) H.size))
    (h1 : Cond.methodLink own index y ∈ TB) (h2 : Cond.instanceMethod y ∈ TB) (h3 : Cond.selects C y y ∈ TB) (h4 : Cond.initialized C ∈ TB) (h5 : Cond.code y bytes maxL ret ∈ TB)
    (hd : y.cls = C ∧ y.cls ≠ "java/lang/invoke/MethodHandle" ∧ y.cls ≠ "java/lang/invoke/VarHandle" ∧ (parseMethodDescriptor y.desc).map (fun d => d.parameters.length) = some As.length) (hR : rm.frames + 1 ≤ R.frames ∧ 8 + (maxL + 11) + rm.locals ≤ R.locals) (hrc : rm.cells = 0) (hrs : rm.slots = 0)
    (hK : va_K D cx (xty cs) s) (hP : va_P D cx (xw ad cs u j) H) (hD : va_D A (xw ad cs u j)) (hN : xw_N s) (q0 ci : Nat) {T : u_T} {N : Nat} {fs : List Value} (hc : cx[ci]? = some (C, T, N)) (he : (xw ad cs u j)[q0]? = some (b, .inr (ci, fs)))
    (hsize : ls.size = nL) (hst : st0 = As.reverse ++ .ref b :: rest) (hW : (rest.map fun v => v.category).sum ≤ 8) (hdg : decode cc pc = .ok (.invokevirtual index, 3)) (hf : cells ≤ R.cells ∧ slots ≤ R.slots)
    (hS : va_S A s.heap H locs) (hA : ∀ q, s.heap.size ≤ q → A q)
    (kk : ∀ (j1 : Jx) (H1 : Heap) (locs1 : List Loc), pj j1 → va_P D cx (xw ad cs u' j1) H1 → va_D A (xw ad cs u' j1) → va_S A s.heap H1 locs1 → W p l e R s m args below meth c H1 locs1 cells slots Q (F0 m (pc + 3) ls (.int v :: rest))) : W p l e R s m args below meth c H locs cells slots Q (F0 m pc ls st0) := by
  have hF := va_free (wc := xw ad cs u j) hD hS hA [0, 1, 2, 3, 4, 5, 6, 7, 8, 9, 10, 11, 12, 13, 14] rfl
  refine va_calli (va_runV (As := As) (rest := rest) S hM (cwV As.length S.2.2.2.2 (gi_V h1 h2 h3 h4 h5) rfl hrc hrs hd hR) (xw_preV hK hP hD hN hc he) rfl rfl hsize hst (lv_room hW) hdg hf) hS (fun q _ h => hF q h) (fun q h => hF q h) (fun r j1 t H1 locs1 ht hvm hp hB hle hk1 hS1 => ?_)
  obtain ⟨hP1, -, hD1⟩ := hB
  rw [ht] at hP1
  obtain ⟨rfl, hp⟩ := hp
  exact kk j1 H1 locs1 hp hP1 (hD1.weaken (fun _ q _ h => hF q.1 h)) hS1
/-- a call of a method that may change its world -/
theorem xw_wrl {v : Int64} {pj : Jx → Prop} (S : CallFix p m c cc nL s args (c0 :: TB) own) (hM : Met l y (Cond.code y bytes maxL ret :: TB) rm (va_Pc (.ref b :: As) (xw_Pre D cs ad u j H.size)) (va_Ql (fun (r : Int64) (j1 : Jx) => r = v ∧ pj j1) (fun (j1 : Jx) t => xw_B D cs ad (va_A (xw ad cs u j) H.size) u' j1 t) (va_A (xw ad cs u j) H.size)) 0 0 (va_A (xw ad cs u j) H.size))
    (h1 : Cond.methodLink own index y ∈ TB) (h2 : Cond.instanceMethod y ∈ TB) (h3 : Cond.selects C y y ∈ TB) (h4 : Cond.initialized C ∈ TB) (h5 : Cond.code y bytes maxL ret ∈ TB)
    (hd : y.cls = C ∧ y.cls ≠ "java/lang/invoke/MethodHandle" ∧ y.cls ≠ "java/lang/invoke/VarHandle" ∧ (parseMethodDescriptor y.desc).map (fun d => d.parameters.length) = some As.length) (hR : rm.frames + 1 ≤ R.frames ∧ 8 + (maxL + 11) + rm.locals ≤ R.locals) (hrc : rm.cells = 0) (hrs : rm.slots = 0)
    (hK : va_K D cx (xty cs) s) (hP : va_P D cx (xw ad cs u j) H) (hD : va_D A (xw ad cs u j)) (hN : xw_N s) (q0 ci : Nat) {T : u_T} {N : Nat} {fs : List Value} (hc : cx[ci]? = some (C, T, N)) (he : (xw ad cs u j)[q0]? = some (b, .inr (ci, fs)))
    (hsize : ls.size = nL) (hst : st0 = As.reverse ++ .ref b :: rest) (hW : (rest.map fun v => v.category).sum ≤ 8) (hdg : decode cc pc = .ok (.invokevirtual index, 3)) (hf : cells ≤ R.cells ∧ slots ≤ R.slots)
    (hS : va_S A s.heap H locs) (hA : ∀ q, s.heap.size ≤ q → A q)
    (kk : ∀ (j1 : Jx) (H1 : Heap) (locs1 : List Loc), pj j1 → va_P D cx (xw ad cs u' j1) H1 → va_D A (xw ad cs u' j1) → va_S A s.heap H1 locs1 → W p l e R s m args below meth c H1 locs1 cells slots Q (F0 m (pc + 3) ls (.long v :: rest))) : W p l e R s m args below meth c H locs cells slots Q (F0 m pc ls st0) := by
  have hF := va_free (wc := xw ad cs u j) hD hS hA [0, 1, 2, 3, 4, 5, 6, 7, 8, 9, 10, 11, 12, 13, 14] rfl
  refine va_calll (va_runV (As := As) (rest := rest) S hM (cwV As.length S.2.2.2.2 (gi_V h1 h2 h3 h4 h5) rfl hrc hrs hd hR) (xw_preV hK hP hD hN hc he) rfl rfl hsize hst (lv_room hW) hdg hf) hS (fun q _ h => hF q h) (fun q h => hF q h) (fun r j1 t H1 locs1 ht hvm hp hB hle hk1 hS1 => ?_)
  obtain ⟨hP1, -, hD1⟩ := hB
  rw [ht] at hP1
  obtain ⟨rfl, hp⟩ := hp
  exact kk j1 H1 locs1 hp hP1 (hD1.weaken (fun _ q _ h => hF q.1 h)) hS1
/-- a call of a method that may change its world -/
theorem xw_wrv {pj : Jx → Prop} (S : CallFix p m c cc nL s args (c0 :: TB) own) (hM : Met l y (Cond.code y bytes maxL ret :: TB) rm (va_Pc (.ref b :: As) (xw_Pre D cs ad u j H.size)) (va_Qv (fun (j1 : Jx) => pj j1) (fun (j1 : Jx) t => xw_B D cs ad (va_A (xw ad cs u j) H.size) u' j1 t) (va_A (xw ad cs u j) H.size)) 0 0 (va_A (xw ad cs u j) H.size))
    (h1 : Cond.methodLink own index y ∈ TB) (h2 : Cond.instanceMethod y ∈ TB) (h3 : Cond.selects C y y ∈ TB) (h4 : Cond.initialized C ∈ TB) (h5 : Cond.code y bytes maxL ret ∈ TB)
    (hd : y.cls = C ∧ y.cls ≠ "java/lang/invoke/MethodHandle" ∧ y.cls ≠ "java/lang/invoke/VarHandle" ∧ (parseMethodDescriptor y.desc).map (fun d => d.parameters.length) = some As.length) (hR : rm.frames + 1 ≤ R.frames ∧ 8 + (maxL + 11) + rm.locals ≤ R.locals) (hrc : rm.cells = 0) (hrs : rm.slots = 0)
    (hK : va_K D cx (xty cs) s) (hP : va_P D cx (xw ad cs u j) H) (hD : va_D A (xw ad cs u j)) (hN : xw_N s) (q0 ci : Nat) {T : u_T} {N : Nat} {fs : List Value} (hc : cx[ci]? = some (C, T, N)) (he : (xw ad cs u j)[q0]? = some (b, .inr (ci, fs)))
    (hsize : ls.size = nL) (hst : st0 = As.reverse ++ .ref b :: rest) (hW : (rest.map fun v => v.category).sum ≤ 8) (hdg : decode cc pc = .ok (.invokevirtual index, 3)) (hf : cells ≤ R.cells ∧ slots ≤ R.slots)
    (hS : va_S A s.heap H locs) (hA : ∀ q, s.heap.size ≤ q → A q)
    (kk : ∀ (j1 : Jx) (H1 : Heap) (locs1 : List Loc), pj j1 → va_P D cx (xw ad cs u' j1) H1 → va_D A (xw ad cs u' j1) → va_S A s.heap H1 locs1 → W p l e R s m args below meth c H1 locs1 cells slots Q (F0 m (pc + 3) ls (rest))) : W p l e R s m args below meth c H locs cells slots Q (F0 m pc ls st0) := by
  have hF := va_free (wc := xw ad cs u j) hD hS hA [0, 1, 2, 3, 4, 5, 6, 7, 8, 9, 10, 11, 12, 13, 14] rfl
  refine va_callv (va_runV (As := As) (rest := rest) S hM (cwV As.length S.2.2.2.2 (gi_V h1 h2 h3 h4 h5) rfl hrc hrs hd hR) (xw_preV hK hP hD hN hc he) rfl rfl hsize hst (lv_room hW) hdg hf) hS (fun q _ h => hF q h) (fun q h => hF q h) (fun j1 t H1 locs1 ht hvm hp hB hle hk1 hS1 => ?_)
  obtain ⟨hP1, -, hD1⟩ := hB
  rw [ht] at hP1
  exact kk j1 H1 locs1 hp hP1 (hD1.weaken (fun _ q _ h => hF q.1 h)) hS1
end RW_xw
section RW_mw
variable {p : Program} {l : Launch} {e : Env} {R : Room} {s : State} {m : MethodId} {args : Array Value} {below : List Frame} {meth : Method} {c : Code} {H : Heap} {locs : List Loc} {cells slots : Nat} {Q : State → Prop}
variable {y : MethodName} {bytes cc : ByteArray} {maxL nL index pc : Nat} {ret : Option FieldType} {rm : Room} {own C host : String} {b : Nat} {As rest st0 : List Value} {ls : Array Slot} {c0 : Cond} {D : va_G} {cs : Nat → ClassId} {ad : Nat → Nat} {u u' : Sg} {A : Nat → Prop}
variable {j : Jm}
def mw_Pre (D : va_G) (cs : Nat → ClassId) (ad : Nat → Nat) (u : Sg) (j : Jm) (sz : Nat) (U : State) : Prop := U.heap.size = sz ∧ va_P D cx (mw ad cs u j) U.heap ∧ va_K D cx (mty cs) U ∧ va_D (fun _ => True) (mw ad cs u j) ∧ mw_N U
def mw_B (D : va_G) (cs : Nat → ClassId) (ad : Nat → Nat) (A : Nat → Prop) (u : Sg) (j : Jm) (t : State) : Prop := va_P D cx (mw ad cs u j) t.heap ∧ va_K D cx (mty cs) t ∧ va_D A (mw ad cs u j)
theorem mw_blind {av : List Value} {sz : Nat} : FrameBlind (va_Pc av (mw_Pre D cs ad u j sz)) := fun a U g mk q => by
  obtain ⟨q0, q1, qP, qK, qD, qN⟩ := q
  exact ⟨q0, q1, qP, va_K.moved (u := U) (U := U.calling g mk a) (Vm.Alike.refl U.vm) qK, qD, qN.calling⟩
theorem mw_preV {q0 ci : Nat} {T : u_T} {N : Nat} {fs : List Value} (hK : va_K D cx (mty cs) s) (hP : va_P D cx (mw ad cs u j) H) (hD : va_D A (mw ad cs u j)) (hN : mw_N s) (hc : cx[ci]? = some (C, T, N)) (he : (mw ad cs u j)[q0]? = some (b, .inr (ci, fs))) :
    PreV s H C b (va_Pc (.ref b :: As) (mw_Pre D cs ad u j H.size)) As :=
  ⟨mw_blind, va_recv hK hP hc he, fun U hU hW => ⟨rfl, by rw [hU], by rw [hU]; exact hP, va_K.moved hW.alike hK, hD.weaken (fun _ _ _ _ => trivial), hN.warm hW⟩⟩
/-- a call of a method that only reads its world -/
theorem mw_rdi {v : Int32} (S : CallFix p m c cc nL s args (c0 :: TB) own) (hM : Met l y (Cond.code y bytes maxL ret :: TB) rm (va_Pc (.ref b :: As) (mw_Pre D cs ad u j H.size)) (vp_Si (fun r => r = v)) 0 0 (fun _ => False))
    (h1 : Cond.methodLink own index y ∈ TB) (h2 : Cond.instanceMethod y ∈ TB) (h3 : Cond.selects C y y ∈ TB) (h4 : Cond.initialized C ∈ TB) (h5 : Cond.code y bytes maxL ret ∈ TB)
    (hd : y.cls = C ∧ y.cls ≠ "java/lang/invoke/MethodHandle" ∧ y.cls ≠ "java/lang/invoke/VarHandle" ∧ (parseMethodDescriptor y.desc).map (fun d => d.parameters.length) = some As.length) (hR : rm.frames + 1 ≤ R.frames ∧ 8 + (maxL + 11) + rm.locals ≤ R.locals) (hrc : rm.cells = 0) (hrs : rm.slots = 0)
    (hK : va_K D cx (mty cs) s) (hP : va_P D cx (mw ad cs u j) H) (hD : va_D A (mw ad cs u j)) (hN : mw_N s) (q0 ci : Nat) {T : u_T} {N : Nat} {fs : List Value} (hc : cx[ci]? = some (C, T, N)) (he : (mw ad cs u j)[q0]? = some (b, .inr (ci, fs)))
    (hsize : ls.size = nL) (hst : st0 = As.reverse ++ .ref b :: rest) (hW : (rest.map fun v => v.category).sum ≤ 8) (hdg : decode cc pc = .ok (.invokevirtual index, 3)) (hf : cells ≤ R.cells ∧ slots ≤ R.slots)
    (kk : W p l e R s m args below meth c H locs cells slots Q (F0 m (pc + 3) ls (.int v :: rest))) : W p l e R s m args below meth c H locs cells slots Q (F0 m pc ls st0) := by
  refine vp_callSi (va_Run.run (va_runV (As := As) (rest := rest) S hM (cwV As.length S.2.2.2.2 (gi_V h1 h2 h3 h4 h5) rfl hrc hrs hd hR) (mw_preV hK hP hD hN hc he) rfl rfl hsize hst (lv_room hW) hdg hf)) (fun r hr => ?_)
  subst hr
  exact kk
/-- a call of a method that only reads its world -/
theorem mw_rdl {v : Int64} (S : CallFix p m c cc nL s args (c0 :: TB) own) (hM : Met l y (Cond.code y bytes maxL ret :: TB) rm (va_Pc (.ref b :: As) (mw_Pre D cs ad u j H.size)) (vp_Sl (fun r => r = v)) 0 0 (fun _ => False))
    (h1 : Cond.methodLink own index y ∈ TB) (h2 : Cond.instanceMethod y ∈ TB) (h3 : Cond.selects C y y ∈ TB) (h4 : Cond.initialized C ∈ TB) (h5 : Cond.code y bytes maxL ret ∈ TB)
    (hd : y.cls = C ∧ y.cls ≠ "java/lang/invoke/MethodHandle" ∧ y.cls ≠ "java/lang/invoke/VarHandle" ∧ (parseMethodDescriptor y.desc).map (fun d => d.parameters.length) = some As.length) (hR : rm.frames + 1 ≤ R.frames ∧ 8 + (maxL + 11) + rm.locals ≤ R.locals) (hrc : rm.cells = 0) (hrs : rm.slots = 0)
    (hK : va_K D cx (mty cs) s) (hP : va_P D cx (mw ad cs u j) H) (hD : va_D A (mw ad cs u j)) (hN : mw_N s) (q0 ci : Nat) {T : u_T} {N : Nat} {fs : List Value} (hc : cx[ci]? = some (C, T, N)) (he : (mw ad cs u j)[q0]? = some (b, .inr (ci, fs)))
    (hsize : ls.size = nL) (hst : st0 = As.reverse ++ .ref b :: rest) (hW : (rest.map fun v => v.category).sum ≤ 8) (hdg : decode cc pc = .ok (.invokevirtual index, 3)) (hf : cells ≤ R.cells ∧ slots ≤ R.slots)
    (kk : W p l e R s m args below meth c H locs cells slots Q (F0 m (pc + 3) ls (.long v :: rest))) : W p l e R s m args below meth c H locs cells slots Q (F0 m pc ls st0) := by
  refine vp_callSl (va_Run.run (va_runV (As := As) (rest := rest) S hM (cwV As.length S.2.2.2.2 (gi_V h1 h2 h3 h4 h5) rfl hrc hrs hd hR) (mw_preV hK hP hD hN hc he) rfl rfl hsize hst (lv_room hW) hdg hf)) (fun r hr => ?_)
  subst hr
  exact kk
/-- a call of a method that may change its world -/
theorem mw_wri {v : Int32} {pj : Jm → Prop} (S : CallFix p m c cc nL s args (c0 :: TB) own) (hM : Met l y (Cond.code y bytes maxL ret :: TB) rm (va_Pc (.ref b :: As) (mw_Pre D cs ad u j H.size)) (va_Qi (fun (r : Int32) (j1 : Jm) => r = v ∧ pj j1) (fun (j1 : Jm) t => mw_B D cs ad (va_A (mw ad cs u j) H.size) u' j1 t) (va_A (mw ad cs u j) H.size)) 0 0 (va_A (mw ad cs u j) H.size))
    (h1 : Cond.methodLink own index y ∈ TB) (h2 : Cond.instanceMethod y ∈ TB) (h3 : Cond.selects C y y ∈ TB) (h4 : Cond.initialized C ∈ TB) (h5 : Cond.code y bytes maxL ret ∈ TB)
    (hd : y.cls = C ∧ y.cls ≠ "java/lang/invoke/MethodHandle" ∧ y.cls ≠ "java/lang/invoke/VarHandle" ∧ (parseMethodDescriptor y.desc).map (fun d => d.parameters.length) = some As.length) (hR : rm.frames + 1 ≤ R.frames ∧ 8 + (maxL + 11) + rm.locals ≤ R.locals) (hrc : rm.cells = 0) (hrs : rm.slots = 0)
    (hK : va_K D cx (mty cs) s) (hP : va_P D cx (mw ad cs u j) H) (hD : va_D A (mw ad cs u j)) (hN : mw_N s) (q0 ci : Nat) {T : u_T} {N : Nat} {fs : List Value} (hc : cx[ci]? = some (C, T, N)) (he : (mw ad cs u j)[q0]? = some (b, .inr (ci, fs)))
    (hsize : ls.size = nL) (hst : st0 = As.reverse ++ .ref b :: rest) (hW : (rest.map fun v => v.category).sum ≤ 8) (hdg : decode cc pc = .ok (.invokevirtual index, 3)) (hf : cells ≤ R.cells ∧ slots ≤ R.slots)
    (hS : va_S A s.heap H locs) (hA : ∀ q, s.heap.size ≤ q → A q)
    (kk : ∀ (j1 : Jm) (H1 : Heap) (locs1 : List Loc), pj j1 → va_P D cx (mw ad cs u' j1) H1 → va_D A (mw ad cs u' j1) → va_S A s.heap H1 locs1 → W p l e R s m args below meth c H1 locs1 cells slots Q (F0 m (pc + 3) ls (.int v :: rest))) : W p l e R s m args below meth c H locs cells slots Q (F0 m pc ls st0) := by
  have hF := va_free (wc := mw ad cs u j) hD hS hA [0, 1, 2, 3, 4, 5, 6, 7, 8, 9, 10, 11, 12] rfl
  refine va_calli (va_runV (As := As) (rest := rest) S hM (cwV As.length S.2.2.2.2 (gi_V h1 h2 h3 h4 h5) rfl hrc hrs hd hR) (mw_preV hK hP hD hN hc he) rfl rfl hsize hst (lv_room hW) hdg hf) hS (fun q _ h => hF q h) (fun q h => hF q h) (fun r j1 t H1 locs1 ht hvm hp hB hle hk1 hS1 => ?_)
  obtain ⟨hP1, -, hD1⟩ := hB
  rw [ht] at hP1
  obtain ⟨rfl, hp⟩ := hp
  exact kk j1 H1 locs1 hp hP1 (hD1.weaken (fun _ q _ h => hF q.1 h)) hS1
/-- a call of a method that may change its world -/
theorem mw_wrl {v : Int64} {pj : Jm → Prop} (S : CallFix p m c cc nL s args (c0 :: TB) own) (hM : Met l y (Cond.code y bytes maxL ret :: TB) rm (va_Pc (.ref b :: As) (mw_Pre D cs ad u j H.size)) (va_Ql (fun (r : Int64) (j1 : Jm) => r = v ∧ pj j1) (fun (j1 : Jm) t => mw_B D cs ad (va_A (mw ad cs u j) H.size) u' j1 t) (va_A (mw ad cs u j) H.size)) 0 0 (va_A (mw ad cs u j) H.size))
    (h1 : Cond.methodLink own index y ∈ TB) (h2 : Cond.instanceMethod y ∈ TB) (h3 : Cond.selects C y y ∈ TB) (h4 : Cond.initialized C ∈ TB) (h5 : Cond.code y bytes maxL ret ∈ TB)
    (hd : y.cls = C ∧ y.cls ≠ "java/lang/invoke/MethodHandle" ∧ y.cls ≠ "java/lang/invoke/VarHandle" ∧ (parseMethodDescriptor y.desc).map (fun d => d.parameters.length) = some As.length) (hR : rm.frames + 1 ≤ R.frames ∧ 8 + (maxL + 11) + rm.locals ≤ R.locals) (hrc : rm.cells = 0) (hrs : rm.slots = 0)
    (hK : va_K D cx (mty cs) s) (hP : va_P D cx (mw ad cs u j) H) (hD : va_D A (mw ad cs u j)) (hN : mw_N s) (q0 ci : Nat) {T : u_T} {N : Nat} {fs : List Value} (hc : cx[ci]? = some (C, T, N)) (he : (mw ad cs u j)[q0]? = some (b, .inr (ci, fs)))
    (hsize : ls.size = nL) (hst : st0 = As.reverse ++ .ref b :: rest) (hW : (rest.map fun v => v.category).sum ≤ 8) (hdg : decode cc pc = .ok (.invokevirtual index, 3)) (hf : cells ≤ R.cells ∧ slots ≤ R.slots)
    (hS : va_S A s.heap H locs) (hA : ∀ q, s.heap.size ≤ q → A q)
    (kk : ∀ (j1 : Jm) (H1 : Heap) (locs1 : List Loc), pj j1 → va_P D cx (mw ad cs u' j1) H1 → va_D A (mw ad cs u' j1) → va_S A s.heap H1 locs1 → W p l e R s m args below meth c H1 locs1 cells slots Q (F0 m (pc + 3) ls (.long v :: rest))) : W p l e R s m args below meth c H locs cells slots Q (F0 m pc ls st0) := by
  have hF := va_free (wc := mw ad cs u j) hD hS hA [0, 1, 2, 3, 4, 5, 6, 7, 8, 9, 10, 11, 12] rfl
  refine va_calll (va_runV (As := As) (rest := rest) S hM (cwV As.length S.2.2.2.2 (gi_V h1 h2 h3 h4 h5) rfl hrc hrs hd hR) (mw_preV hK hP hD hN hc he) rfl rfl hsize hst (lv_room hW) hdg hf) hS (fun q _ h => hF q h) (fun q h => hF q h) (fun r j1 t H1 locs1 ht hvm hp hB hle hk1 hS1 => ?_)
  obtain ⟨hP1, -, hD1⟩ := hB
  rw [ht] at hP1
  obtain ⟨rfl, hp⟩ := hp
  exact kk j1 H1 locs1 hp hP1 (hD1.weaken (fun _ q _ h => hF q.1 h)) hS1
/-- a call of a method that may change its world -/
theorem mw_wrv {pj : Jm → Prop} (S : CallFix p m c cc nL s args (c0 :: TB) own) (hM : Met l y (Cond.code y bytes maxL ret :: TB) rm (va_Pc (.ref b :: As) (mw_Pre D cs ad u j H.size)) (va_Qv (fun (j1 : Jm) => pj j1) (fun (j1 : Jm) t => mw_B D cs ad (va_A (mw ad cs u j) H.size) u' j1 t) (va_A (mw ad cs u j) H.size)) 0 0 (va_A (mw ad cs u j) H.size))
    (h1 : Cond.methodLink own index y ∈ TB) (h2 : Cond.instanceMethod y ∈ TB) (h3 : Cond.selects C y y ∈ TB) (h4 : Cond.initialized C ∈ TB) (h5 : Cond.code y bytes maxL ret ∈ TB)
    (hd : y.cls = C ∧ y.cls ≠ "java/lang/invoke/MethodHandle" ∧ y.cls ≠ "java/lang/invoke/VarHandle" ∧ (parseMethodDescriptor y.desc).map (fun d => d.parameters.length) = some As.length) (hR : rm.frames + 1 ≤ R.frames ∧ 8 + (maxL + 11) + rm.locals ≤ R.locals) (hrc : rm.cells = 0) (hrs : rm.slots = 0)
    (hK : va_K D cx (mty cs) s) (hP : va_P D cx (mw ad cs u j) H) (hD : va_D A (mw ad cs u j)) (hN : mw_N s) (q0 ci : Nat) {T : u_T} {N : Nat} {fs : List Value} (hc : cx[ci]? = some (C, T, N)) (he : (mw ad cs u j)[q0]? = some (b, .inr (ci, fs)))
    (hsize : ls.size = nL) (hst : st0 = As.reverse ++ .ref b :: rest) (hW : (rest.map fun v => v.category).sum ≤ 8) (hdg : decode cc pc = .ok (.invokevirtual index, 3)) (hf : cells ≤ R.cells ∧ slots ≤ R.slots)
    (hS : va_S A s.heap H locs) (hA : ∀ q, s.heap.size ≤ q → A q)
    (kk : ∀ (j1 : Jm) (H1 : Heap) (locs1 : List Loc), pj j1 → va_P D cx (mw ad cs u' j1) H1 → va_D A (mw ad cs u' j1) → va_S A s.heap H1 locs1 → W p l e R s m args below meth c H1 locs1 cells slots Q (F0 m (pc + 3) ls (rest))) : W p l e R s m args below meth c H locs cells slots Q (F0 m pc ls st0) := by
  have hF := va_free (wc := mw ad cs u j) hD hS hA [0, 1, 2, 3, 4, 5, 6, 7, 8, 9, 10, 11, 12] rfl
  refine va_callv (va_runV (As := As) (rest := rest) S hM (cwV As.length S.2.2.2.2 (gi_V h1 h2 h3 h4 h5) rfl hrc hrs hd hR) (mw_preV hK hP hD hN hc he) rfl rfl hsize hst (lv_room hW) hdg hf) hS (fun q _ h => hF q h) (fun q h => hF q h) (fun j1 t H1 locs1 ht hvm hp hB hle hk1 hS1 => ?_)
  obtain ⟨hP1, -, hD1⟩ := hB
  rw [ht] at hP1
  exact kk j1 H1 locs1 hp hP1 (hD1.weaken (fun _ q _ h => hF q.1 h)) hS1
end RW_mw
section RW_fw
variable {p : Program} {l : Launch} {e : Env} {R : Room} {s : State} {m : MethodId} {args : Array Value} {below : List Frame} {meth : Method} {c : Code} {H : Heap} {locs : List Loc} {cells slots : Nat} {Q : State → Prop}
variable {y : MethodName} {bytes cc : ByteArray} {maxL nL index pc : Nat} {ret : Option FieldType} {rm : Room} {own C host : String} {b : Nat} {As rest st0 : List Value} {ls : Array Slot} {c0 : Cond} {D : va_G} {cs : Nat → ClassId} {ad : Nat → Nat} {u u' : Sg} {A : Nat → Prop}
variable {j : Jf}
def fw_Pre (D : va_G) (cs : Nat → ClassId) (ad : Nat → Nat) (u : Sg) (j : Jf) (sz : Nat) (U : State) : Prop := U.heap.size = sz ∧ va_P D cx (fw ad cs u j) U.heap ∧ va_K D cx (fty cs) U ∧ va_D (fun _ => True) (fw ad cs u j) ∧ fw_N U
def fw_B (D : va_G) (cs : Nat → ClassId) (ad : Nat → Nat) (A : Nat → Prop) (u : Sg) (j : Jf) (t : State) : Prop := va_P D cx (fw ad cs u j) t.heap ∧ va_K D cx (fty cs) t ∧ va_D A (fw ad cs u j)
theorem fw_blind {av : List Value} {sz : Nat} : FrameBlind (va_Pc av (fw_Pre D cs ad u j sz)) := fun a U g mk q => by
  obtain ⟨q0, q1, qP, qK, qD, qN⟩ := q
  exact ⟨q0, q1, qP, va_K.moved (u := U) (U := U.calling g mk a) (Vm.Alike.refl U.vm) qK, qD, qN.calling⟩
theorem fw_preV {q0 ci : Nat} {T : u_T} {N : Nat} {fs : List Value} (hK : va_K D cx (fty cs) s) (hP : va_P D cx (fw ad cs u j) H) (hD : va_D A (fw ad cs u j)) (hN : fw_N s) (hc : cx[ci]? = some (C, T, N)) (he : (fw ad cs u j)[q0]? = some (b, .inr (ci, fs))) :
    PreV s H C b (va_Pc (.ref b :: As) (fw_Pre D cs ad u j H.size)) As :=
  ⟨fw_blind, va_recv hK hP hc he, fun U hU hW => ⟨rfl, by rw [hU], by rw [hU]; exact hP, va_K.moved hW.alike hK, hD.weaken (fun _ _ _ _ => trivial), hN.warm hW⟩⟩
/-- a call of a method that only reads its world -/
theorem fw_rdi {v : Int32} (S : CallFix p m c cc nL s args (c0 :: TB) own) (hM : Met l y (Cond.code y bytes maxL ret :: TB) rm (va_Pc (.ref b :: As) (fw_Pre D cs ad u j H.size)) (vp_Si (fun r => r = v)) 0 0 (fun _ => False))
    (h1 : Cond.methodLink own index y ∈ TB) (h2 : Cond.instanceMethod y ∈ TB) (h3 : Cond.selects C y y ∈ TB) (h4 : Cond.initialized C ∈ TB) (h5 : Cond.code y bytes maxL ret ∈ TB)
    (hd : y.cls = C ∧ y.cls ≠ "java/lang/invoke/MethodHandle" ∧ y.cls ≠ "java/lang/invoke/VarHandle" ∧ (parseMethodDescriptor y.desc).map (fun d => d.parameters.length) = some As.length) (hR : rm.frames + 1 ≤ R.frames ∧ 8 + (maxL + 11) + rm.locals ≤ R.locals) (hrc : rm.cells = 0) (hrs : rm.slots = 0)
    (hK : va_K D cx (fty cs) s) (hP : va_P D cx (fw ad cs u j) H) (hD : va_D A (fw ad cs u j)) (hN : fw_N s) (q0 ci : Nat) {T : u_T} {N : Nat} {fs : List Value} (hc : cx[ci]? = some (C, T, N)) (he : (fw ad cs u j)[q0]? = some (b, .inr (ci, fs)))
    (hsize : ls.size = nL) (hst : st0 = As.reverse ++ .ref b :: rest) (hW : (rest.map fun v => v.category).sum ≤ 8) (hdg : decode cc pc = .ok (.invokevirtual index, 3)) (hf : cells ≤ R.cells ∧ slots ≤ R.slots)
    (kk : W p l e R s m args below meth c H locs cells slots Q (F0 m (pc + 3) ls (.int v :: rest))) : W p l e R s m args below meth c H locs cells slots Q (F0 m pc ls st0) := by
  refine vp_callSi (va_Run.run (va_runV (As := As) (rest := rest) S hM (cwV As.length S.2.2.2.2 (gi_V h1 h2 h3 h4 h5) rfl hrc hrs hd hR) (fw_preV hK hP hD hN hc he) rfl rfl hsize hst (lv_room hW) hdg hf)) (fun r hr => ?_)
  subst hr
  exact kk
/-- a call of a method that only reads its world -/
theorem fw_rdl {v : Int64} (S : CallFix p m c cc nL s args (c0 :: TB) own) (hM : Met l y (Cond.code y bytes maxL ret :: TB) rm (va_Pc (.ref b :: As) (fw_Pre D cs ad u j H.size)) (vp_Sl (fun r => r = v)) 0 0 (fun _ => False))
    (h1 : Cond.methodLink own index y ∈ TB) (h2 : Cond.instanceMethod y ∈ TB) (h3 : Cond.selects C y y ∈ TB) (h4 : Cond.initialized C ∈ TB) (h5 : Cond.code y bytes maxL ret ∈ TB)
    (hd : y.cls = C ∧ y.cls ≠ "java/lang/invoke/MethodHandle" ∧ y.cls ≠ "java/lang/invoke/VarHandle" ∧ (parseMethodDescriptor y.desc).map (fun d => d.parameters.length) = some As.length) (hR : rm.frames + 1 ≤ R.frames ∧ 8 + (maxL + 11) + rm.locals ≤ R.locals) (hrc : rm.cells = 0) (hrs : rm.slots = 0)
    (hK : va_K D cx (fty cs) s) (hP : va_P D cx (fw ad cs u j) H) (hD : va_D A (fw ad cs u j)) (hN : fw_N s) (q0 ci : Nat) {T : u_T} {N : Nat} {fs : List Value} (hc : cx[ci]? = some (C, T, N)) (he : (fw ad cs u j)[q0]? = some (b, .inr (ci, fs)))
    (hsize : ls.size = nL) (hst : st0 = As.reverse ++ .ref b :: rest) (hW : (rest.map fun v => v.category).sum ≤ 8) (hdg : decode cc pc = .ok (.invokevirtual index, 3)) (hf : cells ≤ R.cells ∧ slots ≤ R.slots)
    (kk : W p l e R s m args below meth c H locs cells slots Q (F0 m (pc + 3) ls (.long v :: rest))) : W p l e R s m args below meth c H locs cells slots Q (F0 m pc ls st0) := by
  refine vp_callSl (va_Run.run (va_runV (As := As) (rest := rest) S hM (cwV As.length S.2.2.2.2 (gi_V h1 h2 h3 h4 h5) rfl hrc hrs hd hR) (fw_preV hK hP hD hN hc he) rfl rfl hsize hst (lv_room hW) hdg hf)) (fun r hr => ?_)
  subst hr
  exact kk
/-- a call of a method that may change its world -/
theorem fw_wri {v : Int32} {pj : Jf → Prop} (S : CallFix p m c cc nL s args (c0 :: TB) own) (hM : Met l y (Cond.code y bytes maxL ret :: TB) rm (va_Pc (.ref b :: As) (fw_Pre D cs ad u j H.size)) (va_Qi (fun (r : Int32) (j1 : Jf) => r = v ∧ pj j1) (fun (j1 : Jf) t => fw_B D cs ad (va_A (fw ad cs u j) H.size) u' j1 t) (va_A (fw ad cs u j) H.size)) 0 0 (va_A (fw ad cs u j) H.size))
    (h1 : Cond.methodLink own index y ∈ TB) (h2 : Cond.instanceMethod y ∈ TB) (h3 : Cond.selects C y y ∈ TB) (h4 : Cond.initialized C ∈ TB) (h5 : Cond.code y bytes maxL ret ∈ TB)
    (hd : y.cls = C ∧ y.cls ≠ "java/lang/invoke/MethodHandle" ∧ y.cls ≠ "java/lang/invoke/VarHandle" ∧ (parseMethodDescriptor y.desc).map (fun d => d.parameters.length) = some As.length) (hR : rm.frames + 1 ≤ R.frames ∧ 8 + (maxL + 11) + rm.locals ≤ R.locals) (hrc : rm.cells = 0) (hrs : rm.slots = 0)
    (hK : va_K D cx (fty cs) s) (hP : va_P D cx (fw ad cs u j) H) (hD : va_D A (fw ad cs u j)) (hN : fw_N s) (q0 ci : Nat) {T : u_T} {N : Nat} {fs : List Value} (hc : cx[ci]? = some (C, T, N)) (he : (fw ad cs u j)[q0]? = some (b, .inr (ci, fs)))
    (hsize : ls.size = nL) (hst : st0 = As.reverse ++ .ref b :: rest) (hW : (rest.map fun v => v.category).sum ≤ 8) (hdg : decode cc pc = .ok (.invokevirtual index, 3)) (hf : cells ≤ R.cells ∧ slots ≤ R.slots)
    (hS : va_S A s.heap H locs) (hA : ∀ q, s.heap.size ≤ q → A q)
    (kk : ∀ (j1 : Jf) (H1 : Heap) (locs1 : List Loc), pj j1 → va_P D cx (fw ad cs u' j1) H1 → va_D A (fw ad cs u' j1) → va_S A s.heap H1 locs1 → W p l e R s m args below meth c H1 locs1 cells slots Q (F0 m (pc + 3) ls (.int v :: rest))) : W p l e R s m args below meth c H locs cells slots Q (F0 m pc ls st0) := by
  have hF := va_free (wc := fw ad cs u j) hD hS hA [0] rfl
  refine va_calli (va_runV (As := As) (rest := rest) S hM (cwV As.length S.2.2.2.2 (gi_V h1 h2 h3 h4 h5) rfl hrc hrs hd hR) (fw_preV hK hP hD hN hc he) rfl rfl hsize hst (lv_room hW) hdg hf) hS (fun q _ h => hF q h) (fun q h => hF q h) (fun r j1 t H1 locs1 ht hvm hp hB hle hk1 hS1 => ?_)
  obtain ⟨hP1, -, hD1⟩ := hB
  rw [ht] at hP1
  obtain ⟨rfl, hp⟩ := hp
  exact kk j1 H1 locs1 hp hP1 (hD1.weaken (fun _ q _ h => hF q.1 h)) hS1
/-- a call of a method that may change its world -/
theorem fw_wrl {v : Int64} {pj : Jf → Prop} (S : CallFix p m c cc nL s args (c0 :: TB) own) (hM : Met l y (Cond.code y bytes maxL ret :: TB) rm (va_Pc (.ref b :: As) (fw_Pre D cs ad u j H.size)) (va_Ql (fun (r : Int64) (j1 : Jf) => r = v ∧ pj j1) (fun (j1 : Jf) t => fw_B D cs ad (va_A (fw ad cs u j) H.size) u' j1 t) (va_A (fw ad cs u j) H.size)) 0 0 (va_A (fw ad cs u j) H.size))
    (h1 : Cond.methodLink own index y ∈ TB) (h2 : Cond.instanceMethod y ∈ TB) (h3 : Cond.selects C y y ∈ TB) (h4 : Cond.initialized C ∈ TB) (h5 : Cond.code y bytes maxL ret ∈ TB)
    (hd : y.cls = C ∧ y.cls ≠ "java/lang/invoke/MethodHandle" ∧ y.cls ≠ "java/lang/invoke/VarHandle" ∧ (parseMethodDescriptor y.desc).map (fun d => d.parameters.length) = some As.length) (hR : rm.frames + 1 ≤ R.frames ∧ 8 + (maxL + 11) + rm.locals ≤ R.locals) (hrc : rm.cells = 0) (hrs : rm.slots = 0)
    (hK : va_K D cx (fty cs) s) (hP : va_P D cx (fw ad cs u j) H) (hD : va_D A (fw ad cs u j)) (hN : fw_N s) (q0 ci : Nat) {T : u_T} {N : Nat} {fs : List Value} (hc : cx[ci]? = some (C, T, N)) (he : (fw ad cs u j)[q0]? = some (b, .inr (ci, fs)))
    (hsize : ls.size = nL) (hst : st0 = As.reverse ++ .ref b :: rest) (hW : (rest.map fun v => v.category).sum ≤ 8) (hdg : decode cc pc = .ok (.invokevirtual index, 3)) (hf : cells ≤ R.cells ∧ slots ≤ R.slots)
    (hS : va_S A s.heap H locs) (hA : ∀ q, s.heap.size ≤ q → A q)
    (kk : ∀ (j1 : Jf) (H1 : Heap) (locs1 : List Loc), pj j1 → va_P D cx (fw ad cs u' j1) H1 → va_D A (fw ad cs u' j1) → va_S A s.heap H1 locs1 → W p l e R s m args below meth c H1 locs1 cells slots Q (F0 m (pc + 3) ls (.long v :: rest))) : W p l e R s m args below meth c H locs cells slots Q (F0 m pc ls st0) := by
  have hF := va_free (wc := fw ad cs u j) hD hS hA [0] rfl
  refine va_calll (va_runV (As := As) (rest := rest) S hM (cwV As.length S.2.2.2.2 (gi_V h1 h2 h3 h4 h5) rfl hrc hrs hd hR) (fw_preV hK hP hD hN hc he) rfl rfl hsize hst (lv_room hW) hdg hf) hS (fun q _ h => hF q h) (fun q h => hF q h) (fun r j1 t H1 locs1 ht hvm hp hB hle hk1 hS1 => ?_)
  obtain ⟨hP1, -, hD1⟩ := hB
  rw [ht] at hP1
  obtain ⟨rfl, hp⟩ := hp
  exact kk j1 H1 locs1 hp hP1 (hD1.weaken (fun _ q _ h => hF q.1 h)) hS1
/-- a call of a method that may change its world -/
theorem fw_wrv {pj : Jf → Prop} (S : CallFix p m c cc nL s args (c0 :: TB) own) (hM : Met l y (Cond.code y bytes maxL ret :: TB) rm (va_Pc (.ref b :: As) (fw_Pre D cs ad u j H.size)) (va_Qv (fun (j1 : Jf) => pj j1) (fun (j1 : Jf) t => fw_B D cs ad (va_A (fw ad cs u j) H.size) u' j1 t) (va_A (fw ad cs u j) H.size)) 0 0 (va_A (fw ad cs u j) H.size))
    (h1 : Cond.methodLink own index y ∈ TB) (h2 : Cond.instanceMethod y ∈ TB) (h3 : Cond.selects C y y ∈ TB) (h4 : Cond.initialized C ∈ TB) (h5 : Cond.code y bytes maxL ret ∈ TB)
    (hd : y.cls = C ∧ y.cls ≠ "java/lang/invoke/MethodHandle" ∧ y.cls ≠ "java/lang/invoke/VarHandle" ∧ (parseMethodDescriptor y.desc).map (fun d => d.parameters.length) = some As.length) (hR : rm.frames + 1 ≤ R.frames ∧ 8 + (maxL + 11) + rm.locals ≤ R.locals) (hrc : rm.cells = 0) (hrs : rm.slots = 0)
    (hK : va_K D cx (fty cs) s) (hP : va_P D cx (fw ad cs u j) H) (hD : va_D A (fw ad cs u j)) (hN : fw_N s) (q0 ci : Nat) {T : u_T} {N : Nat} {fs : List Value} (hc : cx[ci]? = some (C, T, N)) (he : (fw ad cs u j)[q0]? = some (b, .inr (ci, fs)))
    (hsize : ls.size = nL) (hst : st0 = As.reverse ++ .ref b :: rest) (hW : (rest.map fun v => v.category).sum ≤ 8) (hdg : decode cc pc = .ok (.invokevirtual index, 3)) (hf : cells ≤ R.cells ∧ slots ≤ R.slots)
    (hS : va_S A s.heap H locs) (hA : ∀ q, s.heap.size ≤ q → A q)
    (kk : ∀ (j1 : Jf) (H1 : Heap) (locs1 : List Loc), pj j1 → va_P D cx (fw ad cs u' j1) H1 → va_D A (fw ad cs u' j1) → va_S A s.heap H1 locs1 → W p l e R s m args below meth c H1 locs1 cells slots Q (F0 m (pc + 3) ls (rest))) : W p l e R s m args below meth c H locs cells slots Q (F0 m pc ls st0) := by
  have hF := va_free (wc := fw ad cs u j) hD hS hA [0] rfl
  refine va_callv (va_runV (As := As) (rest := rest) S hM (cwV As.length S.2.2.2.2 (gi_V h1 h2 h3 h4 h5) rfl hrc hrs hd hR) (fw_preV hK hP hD hN hc he) rfl rfl hsize hst (lv_room hW) hdg hf) hS (fun q _ h => hF q h) (fun q h => hF q h) (fun j1 t H1 locs1 ht hvm hp hB hle hk1 hS1 => ?_)
  obtain ⟨hP1, -, hD1⟩ := hB
  rw [ht] at hP1
  exact kk j1 H1 locs1 hp hP1 (hD1.weaken (fun _ q _ h => hF q.1 h)) hS1
end RW_fw
