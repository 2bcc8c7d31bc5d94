theorem d_ja_fill_0 : decode b_ja_fill 0 = .ok (.iconst 0, 1) := by decide +kernel
theorem d_ja_fill_1 : decode b_ja_fill 1 = .ok (.istore_n 3, 1) := by decide +kernel
theorem d_ja_fill_2 : decode b_ja_fill 2 = .ok (.aload_n 0, 1) := by decide +kernel
theorem d_ja_fill_3 : decode b_ja_fill 3 = .ok (.arraylength, 1) := by decide +kernel
theorem d_ja_fill_4 : decode b_ja_fill 4 = .ok (.istore 4, 2) := by decide +kernel
theorem d_ja_fill_6 : decode b_ja_fill 6 = .ok (.iload_n 3, 1) := by decide +kernel
theorem d_ja_fill_7 : decode b_ja_fill 7 = .ok (.iload 4, 2) := by decide +kernel
theorem d_ja_fill_9 : decode b_ja_fill 9 = .ok (.if_icmp .ge 13, 3) := by decide +kernel
theorem d_ja_fill_12 : decode b_ja_fill 12 = .ok (.aload_n 0, 1) := by decide +kernel
theorem d_ja_fill_13 : decode b_ja_fill 13 = .ok (.iload_n 3, 1) := by decide +kernel
theorem d_ja_fill_14 : decode b_ja_fill 14 = .ok (.lload_n 1, 1) := by decide +kernel
theorem d_ja_fill_15 : decode b_ja_fill 15 = .ok (.lastore, 1) := by decide +kernel
theorem d_ja_fill_16 : decode b_ja_fill 16 = .ok (.iinc 3 1, 3) := by decide +kernel
theorem d_ja_fill_19 : decode b_ja_fill 19 = .ok (.goto (-13), 3) := by decide +kernel
theorem d_ja_fill_22 : decode b_ja_fill 22 = .ok (.return_, 1) := by decide +kernel
set_option maxHeartbeats 4000000 in
set_option maxRecDepth 100000 in
theorem c_ja_fill (l : Launch) (D : va_G) (cs : Nat → ClassId) (ad : Nat → Nat) (sz : Nat) (u : Sg) (j : Jf)   : Met l y_ja_fill (Cond.code y_ja_fill b_ja_fill 5 none :: TB) { frames := 0, cells := 0, slots := 0, locals := 0 } (va_Pc [.ref (ad 0), .long (0)] (fw_Pre D cs ad u j sz)) (va_Qv (fun (j1 : Jf) => j1 = sp_z6 j) (fun (j1 : Jf) t => fw_B D cs ad (va_A (fw ad cs u j) sz) u j1 t) (va_A (fw ad cs u j) sz)) 0 0 (va_A (fw ad cs u j) sz) := by
  refine Met.ofW (cc := b_ja_fill) (maxL := 5) (ret := none) (by decide) rfl ?_
  intro p e s m args below meth c s₁ B hml hv
  obtain ⟨rfl, hsz, hP, hK, hD, hN⟩ := hv
  have hx := B.exec
  have hb := B.bytes
  have hret := B.returns
  have hts := atoms_spec (ws := Cond.code y_ja_fill b_ja_fill 5 none :: TB) B.pre
  have hT : ∀ w ∈ TB, w.before _ s = true := fun w h => hts w (List.mem_cons_of_mem _ h)
  have hown : s.vm.findClass "java/util/Arrays" = some m.cls := findClass_of_methodNamed B.named
  have hlocks := B.notSynchronized
  subst hsz
  have hD := hD.self (sz := s.heap.size)
  generalize hAe : va_A (fw ad cs u j) s.heap.size = A at hD ⊢
  have hA : ∀ q : Nat, s.heap.size ≤ q → A q := fun q h => by rw [← hAe]; exact Or.inr h
  have hS : va_S A s.heap s.heap [] := va_S.rf
  have hl := lv_entry ([.ref (ad 0), .long (0)]) (n := 5) (Nat.le_of_ble_eq_true rfl)
  rw [lg_entry_eq]
  generalize (lg_sl ([.ref (ad 0), .long (0)]) ++ List.replicate (5 - (lg_sl ([.ref (ad 0), .long (0)])).length) Slot.unset).toArray = ls at hl ⊢
  have hl : lv_has ls 5 [(0, .ref (ad 0)), (1, .long (0))] := hl
  skip
  refine lv_iconst (v := 0) hx hb d_ja_fill_0 (by decide) ?_
  refine lv_istore_n (nL := 5) (lv' := [(3, .int (0)), (0, .ref (ad 0)), (1, .long (0))]) hx hb d_ja_fill_1 rfl hl (by decide) rfl (fun ls hl => ?_)
  refine lv_aload_n hx hb d_ja_fill_2 rfl (lv_at hl 1 rfl) ?_
  refine va_alen hx hb hK hP 0 0 rfl rfl (v := 6) rfl d_ja_fill_3 ?_
  refine lv_istore (nL := 5) (lv' := [(4, .int (6)), (3, .int (0)), (0, .ref (ad 0)), (1, .long (0))]) hx hb d_ja_fill_4 hl (by decide) rfl (fun ls hl => ?_)
  refine lv_iload_n hx hb d_ja_fill_6 rfl (lv_at hl 1 rfl) ?_
  refine lv_iload hx hb d_ja_fill_7 (lv_at hl 0 rfl) ?_
  refine lv_icmp_ge hx hb d_ja_fill_9 (tgt := 22) (by decide) (fun z => absurd z (by decide)) (fun _ => ?_)
  refine lv_aload_n hx hb d_ja_fill_12 rfl (lv_at hl 2 rfl) ?_
  refine lv_iload_n hx hb d_ja_fill_13 rfl (lv_at hl 1 rfl) ?_
  refine lv_lload_n hx hb d_ja_fill_14 rfl (lv_at hl 3 rfl) ?_
  refine va_last hx hb hK hP hD hS 0 0 rfl rfl (by unfold vp_in; decide) d_ja_fill_15 (fun H locs hP hD hS => ?_)
  have hP : va_P D cx (fv ad cs (sg_im u) (sg_ap u) (sg_ag u) (sg_he u) (sg_er u) (sg_ev u) (sg_en u) (sg_ma u) (sg_po u) (sg_se u) (sg_ac u) (sg_fa u) (sg_la u) (sg_st u) (vp_updL (jf_f j) (0 : Int32).toNatClampNeg (0))) H := hP
  have hD : va_D A (fv ad cs (sg_im u) (sg_ap u) (sg_ag u) (sg_he u) (sg_er u) (sg_ev u) (sg_en u) (sg_ma u) (sg_po u) (sg_se u) (sg_ac u) (sg_fa u) (sg_la u) (sg_st u) (vp_updL (jf_f j) (0 : Int32).toNatClampNeg (0))) := hD
  refine lv_iinc (nL := 5) (k := 1) (v := 1) (lv' := [(3, .int (1)), (4, .int (6)), (0, .ref (ad 0)), (1, .long (0))]) hx hb d_ja_fill_16 hl rfl (by decide) (by decide) rfl (fun ls hl => ?_)
  refine lv_goto hx hb d_ja_fill_19 (tgt := 6) (by decide) ?_
  refine lv_iload_n hx hb d_ja_fill_6 rfl (lv_at hl 0 rfl) ?_
  refine lv_iload hx hb d_ja_fill_7 (lv_at hl 1 rfl) ?_
  refine lv_icmp_ge hx hb d_ja_fill_9 (tgt := 22) (by decide) (fun z => absurd z (by decide)) (fun _ => ?_)
  refine lv_aload_n hx hb d_ja_fill_12 rfl (lv_at hl 2 rfl) ?_
  refine lv_iload_n hx hb d_ja_fill_13 rfl (lv_at hl 0 rfl) ?_
  refine lv_lload_n hx hb d_ja_fill_14 rfl (lv_at hl 3 rfl) ?_
  refine va_last hx hb hK hP hD hS 0 0 rfl rfl (by unfold vp_in; decide) d_ja_fill_15 (fun H locs hP hD hS => ?_)
  have hP : va_P D cx (fv ad cs (sg_im u) (sg_ap u) (sg_ag u) (sg_he u) (sg_er u) (sg_ev u) (sg_en u) (sg_ma u) (sg_po u) (sg_se u) (sg_ac u) (sg_fa u) (sg_la u) (sg_st u) (vp_updL (vp_updL (jf_f j) (0 : Int32).toNatClampNeg (0)) (1 : Int32).toNatClampNeg (0))) H := hP
  have hD : va_D A (fv ad cs (sg_im u) (sg_ap u) (sg_ag u) (sg_he u) (sg_er u) (sg_ev u) (sg_en u) (sg_ma u) (sg_po u) (sg_se u) (sg_ac u) (sg_fa u) (sg_la u) (sg_st u) (vp_updL (vp_updL (jf_f j) (0 : Int32).toNatClampNeg (0)) (1 : Int32).toNatClampNeg (0))) := hD
  refine lv_iinc (nL := 5) (k := 0) (v := 2) (lv' := [(3, .int (2)), (4, .int (6)), (0, .ref (ad 0)), (1, .long (0))]) hx hb d_ja_fill_16 hl rfl (by decide) (by decide) rfl (fun ls hl => ?_)
  refine lv_goto hx hb d_ja_fill_19 (tgt := 6) (by decide) ?_
  refine lv_iload_n hx hb d_ja_fill_6 rfl (lv_at hl 0 rfl) ?_
  refine lv_iload hx hb d_ja_fill_7 (lv_at hl 1 rfl) ?_
  refine lv_icmp_ge hx hb d_ja_fill_9 (tgt := 22) (by decide) (fun z => absurd z (by decide)) (fun _ => ?_)
  refine lv_aload_n hx hb d_ja_fill_12 rfl (lv_at hl 2 rfl) ?_
  refine lv_iload_n hx hb d_ja_fill_13 rfl (lv_at hl 0 rfl) ?_
  refine lv_lload_n hx hb d_ja_fill_14 rfl (lv_at hl 3 rfl) ?_
  refine va_last hx hb hK hP hD hS 0 0 rfl rfl (by unfold vp_in; decide) d_ja_fill_15 (fun H locs hP hD hS => ?_)
  have hP : va_P D cx (fv ad cs (sg_im u) (sg_ap u) (sg_ag u) (sg_he u) (sg_er u) (sg_ev u) (sg_en u) (sg_ma u) (sg_po u) (sg_se u) (sg_ac u) (sg_fa u) (sg_la u) (sg_st u) (vp_updL (vp_updL (vp_updL (jf_f j) (0 : Int32).toNatClampNeg (0)) (1 : Int32).toNatClampNeg (0)) (2 : Int32).toNatClampNeg (0))) H := hP
  have hD : va_D A (fv ad cs (sg_im u) (sg_ap u) (sg_ag u) (sg_he u) (sg_er u) (sg_ev u) (sg_en u) (sg_ma u) (sg_po u) (sg_se u) (sg_ac u) (sg_fa u) (sg_la u) (sg_st u) (vp_updL (vp_updL (vp_updL (jf_f j) (0 : Int32).toNatClampNeg (0)) (1 : Int32).toNatClampNeg (0)) (2 : Int32).toNatClampNeg (0))) := hD
  refine lv_iinc (nL := 5) (k := 0) (v := 3) (lv' := [(3, .int (3)), (4, .int (6)), (0, .ref (ad 0)), (1, .long (0))]) hx hb d_ja_fill_16 hl rfl (by decide) (by decide) rfl (fun ls hl => ?_)
  refine lv_goto hx hb d_ja_fill_19 (tgt := 6) (by decide) ?_
  refine lv_iload_n hx hb d_ja_fill_6 rfl (lv_at hl 0 rfl) ?_
  refine lv_iload hx hb d_ja_fill_7 (lv_at hl 1 rfl) ?_
  refine lv_icmp_ge hx hb d_ja_fill_9 (tgt := 22) (by decide) (fun z => absurd z (by decide)) (fun _ => ?_)
  refine lv_aload_n hx hb d_ja_fill_12 rfl (lv_at hl 2 rfl) ?_
  refine lv_iload_n hx hb d_ja_fill_13 rfl (lv_at hl 0 rfl) ?_
  refine lv_lload_n hx hb d_ja_fill_14 rfl (lv_at hl 3 rfl) ?_
  refine va_last hx hb hK hP hD hS 0 0 rfl rfl (by unfold vp_in; decide) d_ja_fill_15 (fun H locs hP hD hS => ?_)
  have hP : va_P D cx (fv ad cs (sg_im u) (sg_ap u) (sg_ag u) (sg_he u) (sg_er u) (sg_ev u) (sg_en u) (sg_ma u) (sg_po u) (sg_se u) (sg_ac u) (sg_fa u) (sg_la u) (sg_st u) (vp_updL (vp_updL (vp_updL (vp_updL (jf_f j) (0 : Int32).toNatClampNeg (0)) (1 : Int32).toNatClampNeg (0)) (2 : Int32).toNatClampNeg (0)) (3 : Int32).toNatClampNeg (0))) H := hP
  have hD : va_D A (fv ad cs (sg_im u) (sg_ap u) (sg_ag u) (sg_he u) (sg_er u) (sg_ev u) (sg_en u) (sg_ma u) (sg_po u) (sg_se u) (sg_ac u) (sg_fa u) (sg_la u) (sg_st u) (vp_updL (vp_updL (vp_updL (vp_updL (jf_f j) (0 : Int32).toNatClampNeg (0)) (1 : Int32).toNatClampNeg (0)) (2 : Int32).toNatClampNeg (0)) (3 : Int32).toNatClampNeg (0))) := hD
  refine lv_iinc (nL := 5) (k := 0) (v := 4) (lv' := [(3, .int (4)), (4, .int (6)), (0, .ref (ad 0)), (1, .long (0))]) hx hb d_ja_fill_16 hl rfl (by decide) (by decide) rfl (fun ls hl => ?_)
  refine lv_goto hx hb d_ja_fill_19 (tgt := 6) (by decide) ?_
  refine lv_iload_n hx hb d_ja_fill_6 rfl (lv_at hl 0 rfl) ?_
  refine lv_iload hx hb d_ja_fill_7 (lv_at hl 1 rfl) ?_
  refine lv_icmp_ge hx hb d_ja_fill_9 (tgt := 22) (by decide) (fun z => absurd z (by decide)) (fun _ => ?_)
  refine lv_aload_n hx hb d_ja_fill_12 rfl (lv_at hl 2 rfl) ?_
  refine lv_iload_n hx hb d_ja_fill_13 rfl (lv_at hl 0 rfl) ?_
  refine lv_lload_n hx hb d_ja_fill_14 rfl (lv_at hl 3 rfl) ?_
  refine va_last hx hb hK hP hD hS 0 0 rfl rfl (by unfold vp_in; decide) d_ja_fill_15 (fun H locs hP hD hS => ?_)
  have hP : va_P D cx (fv ad cs (sg_im u) (sg_ap u) (sg_ag u) (sg_he u) (sg_er u) (sg_ev u) (sg_en u) (sg_ma u) (sg_po u) (sg_se u) (sg_ac u) (sg_fa u) (sg_la u) (sg_st u) (vp_updL (vp_updL (vp_updL (vp_updL (vp_updL (jf_f j) (0 : Int32).toNatClampNeg (0)) (1 : Int32).toNatClampNeg (0)) (2 : Int32).toNatClampNeg (0)) (3 : Int32).toNatClampNeg (0)) (4 : Int32).toNatClampNeg (0))) H := hP
  have hD : va_D A (fv ad cs (sg_im u) (sg_ap u) (sg_ag u) (sg_he u) (sg_er u) (sg_ev u) (sg_en u) (sg_ma u) (sg_po u) (sg_se u) (sg_ac u) (sg_fa u) (sg_la u) (sg_st u) (vp_updL (vp_updL (vp_updL (vp_updL (vp_updL (jf_f j) (0 : Int32).toNatClampNeg (0)) (1 : Int32).toNatClampNeg (0)) (2 : Int32).toNatClampNeg (0)) (3 : Int32).toNatClampNeg (0)) (4 : Int32).toNatClampNeg (0))) := hD
  refine lv_iinc (nL := 5) (k := 0) (v := 5) (lv' := [(3, .int (5)), (4, .int (6)), (0, .ref (ad 0)), (1, .long (0))]) hx hb d_ja_fill_16 hl rfl (by decide) (by decide) rfl (fun ls hl => ?_)
  refine lv_goto hx hb d_ja_fill_19 (tgt := 6) (by decide) ?_
  refine lv_iload_n hx hb d_ja_fill_6 rfl (lv_at hl 0 rfl) ?_
  refine lv_iload hx hb d_ja_fill_7 (lv_at hl 1 rfl) ?_
  refine lv_icmp_ge hx hb d_ja_fill_9 (tgt := 22) (by decide) (fun z => absurd z (by decide)) (fun _ => ?_)
  refine lv_aload_n hx hb d_ja_fill_12 rfl (lv_at hl 2 rfl) ?_
  refine lv_iload_n hx hb d_ja_fill_13 rfl (lv_at hl 0 rfl) ?_
  refine lv_lload_n hx hb d_ja_fill_14 rfl (lv_at hl 3 rfl) ?_
  refine va_last hx hb hK hP hD hS 0 0 rfl rfl (by unfold vp_in; decide) d_ja_fill_15 (fun H locs hP hD hS => ?_)
  have hP : va_P D cx (fv ad cs (sg_im u) (sg_ap u) (sg_ag u) (sg_he u) (sg_er u) (sg_ev u) (sg_en u) (sg_ma u) (sg_po u) (sg_se u) (sg_ac u) (sg_fa u) (sg_la u) (sg_st u) (vp_updL (vp_updL (vp_updL (vp_updL (vp_updL (vp_updL (jf_f j) (0 : Int32).toNatClampNeg (0)) (1 : Int32).toNatClampNeg (0)) (2 : Int32).toNatClampNeg (0)) (3 : Int32).toNatClampNeg (0)) (4 : Int32).toNatClampNeg (0)) (5 : Int32).toNatClampNeg (0))) H := hP
  have hD : va_D A (fv ad cs (sg_im u) (sg_ap u) (sg_ag u) (sg_he u) (sg_er u) (sg_ev u) (sg_en u) (sg_ma u) (sg_po u) (sg_se u) (sg_ac u) (sg_fa u) (sg_la u) (sg_st u) (vp_updL (vp_updL (vp_updL (vp_updL (vp_updL (vp_updL (jf_f j) (0 : Int32).toNatClampNeg (0)) (1 : Int32).toNatClampNeg (0)) (2 : Int32).toNatClampNeg (0)) (3 : Int32).toNatClampNeg (0)) (4 : Int32).toNatClampNeg (0)) (5 : Int32).toNatClampNeg (0))) := hD
  refine lv_iinc (nL := 5) (k := 0) (v := 6) (lv' := [(3, .int (6)), (4, .int (6)), (0, .ref (ad 0)), (1, .long (0))]) hx hb d_ja_fill_16 hl rfl (by decide) (by decide) rfl (fun ls hl => ?_)
  refine lv_goto hx hb d_ja_fill_19 (tgt := 6) (by decide) ?_
  refine lv_iload_n hx hb d_ja_fill_6 rfl (lv_at hl 0 rfl) ?_
  refine lv_iload hx hb d_ja_fill_7 (lv_at hl 1 rfl) ?_
  refine lv_icmp_ge hx hb d_ja_fill_9 (tgt := 22) (by decide) (fun _ => ?_) (fun z => absurd (by decide) z)
  obtain ⟨q1, eq1⟩ : ∃ z : Jf, z = (vp_updL (vp_updL (vp_updL (vp_updL (vp_updL (vp_updL (jf_f j) (0 : Int32).toNatClampNeg (0)) (1 : Int32).toNatClampNeg (0)) (2 : Int32).toNatClampNeg (0)) (3 : Int32).toNatClampNeg (0)) (4 : Int32).toNatClampNeg (0)) (5 : Int32).toNatClampNeg (0)) := ⟨_, rfl⟩
  have hP : va_P D cx (fw ad cs u q1) H := by rw [eq1, fw_j]; exact hP
  have hD : va_D A (fw ad cs u q1) := by rw [eq1, fw_j]; exact hD
  exact W.vret hx hb hret (fun t ht hW => ⟨⟨q1, rfl, (by subst eq1; rfl), by rw [ht]; exact hP, va_K.moved hW.alike hK, hD⟩, hS.F ht⟩) hS.2.2 d_ja_fill_22
/-- Arrays.fill of the row at ad 8 with zeros -/
theorem xw_fl8 {p : Program} {l : Launch} {e : Env} {R : Room} {s : State} {m : MethodId} {args : Array Value} {below : List Frame} {meth : Method} {c : Code} {H : Heap} {locs : List Loc} {cells slots : Nat} {Q : State → Prop} {cc : ByteArray} {nL index pc : Nat} {own : String} {rest : List Value} {ls : Array Slot} {c0 : Cond} {D : va_G} {cs : Nat → ClassId} {ad : Nat → Nat} {u : Sg} {j : Jx} {A : Nat → Prop}
    (S : CallFix p m c cc nL s args (c0 :: TB) own) (h1 : Cond.methodLink own index y_ja_fill ∈ TB) (hR : 0 + 1 ≤ R.frames ∧ 8 + (5 + 11) + 0 ≤ R.locals)
    (hK : va_K D cx (xty cs) s) (hP : va_P D cx (xw ad cs u j) H) (hD : va_D A (xw ad cs u j)) (hsize : ls.size = nL) (hW : (rest.map fun v => v.category).sum ≤ 8) (hdg : decode cc pc = .ok (.invokestatic index, 3)) (hf : cells ≤ R.cells ∧ slots ≤ R.slots) (hS : va_S A s.heap H locs) (hA : ∀ q, s.heap.size ≤ q → A q)
    (kk : ∀ (H1 : Heap) (locs1 : List Loc), va_P D cx (xw ad cs (ss_he u (sp_z6 (sg_he u))) (j)) H1 → va_D A (xw ad cs (ss_he u (sp_z6 (sg_he u))) (j)) → va_S A s.heap H1 locs1 → W p l e R s m args below meth c H1 locs1 cells slots Q (F0 m (pc + 3) ls rest)) : W p l e R s m args below meth c H locs cells slots Q (F0 m pc ls (.long 0 :: .ref (ad 8) :: rest)) := by
  have hPc := hP.sub (ws' := fw (fun _ => ad 8) (fun _ => cs 5) u (sg_he u)) [8] rfl
  have hDc := hD.sub (ws' := fw (fun _ => ad 8) (fun _ => cs 5) u (sg_he u)) [8] (by decide) rfl
  have hKc := hK.sub (tys' := fty (fun _ => cs 5)) [5] rfl
  have hFc := va_free (wc := fw (fun _ => ad 8) (fun _ => cs 5) u (sg_he u)) hD hS hA [8] rfl
  refine va_callv (va_runS (As := [.ref (ad 8), .long 0]) (rest := rest) S (c_ja_fill l D (fun _ => cs 5) (fun _ => ad 8) H.size u (sg_he u)) (va_cwS 2 S.2.2.2.2 (gi_S h1 tb_135 tb_9 tb_136) rfl rfl rfl hd_ja_fill hR) ⟨fw_blind, fun U hU hW => ⟨rfl, by rw [hU], by rw [hU]; exact hPc, va_K.moved hW.alike hKc, hDc.weaken (fun _ _ _ _ => trivial), trivial⟩⟩ rfl rfl hsize rfl (lv_room hW) hdg hf) hS (fun q _ h => hFc q h) (fun q h => hFc q h) (fun j1 t H1 locs1 ht hvm hp hB hle hk1 hS1 => ?_)
  obtain ⟨hP1, -, hD1⟩ := hB
  rw [ht] at hP1
  subst hp
  obtain ⟨hP2, hD2⟩ := va_join (wr := [(ad 0, .inr (0, [.ref (ad 1), .ref (ad 2), .ref (ad 3), .ref (ad 4), .ref (ad 5), .ref (ad 6), .ref (ad 7), .int (jx_de j), .long (sg_ac u), .int (sg_fa u), .int (sg_la u), .int (sg_st u)])), (ad 1, .inl (cs 0, 8, .inr (.inl (sg_im u)))), (ad 2, .inl (cs 1, 8, .inl (sg_ap u))), (ad 3, .inl (cs 2, 8, .inr (.inl (sg_ag u)))), (ad 4, .inr (1, [.ref (ad 8), .ref (ad 9), .ref (ad 10), .int (sg_en u), .ref (ad 11)])), (ad 5, .inr (2, [.ref (ad 12), .ref (ad 13), .ref (ad 14)])), (ad 6, .inl (cs 3, 6, .inr (.inl (jx_ru j)))), (ad 7, .inl (cs 4, 6, .inl (jx_nd j))), (ad 9, .inl (cs 6, 32, .inl (sg_er u))), (ad 10, .inl (cs 7, 32, .inr (.inl (sg_ev u)))), (ad 11, .inl (cs 8, 6, .inr (.inl (jx_rp j)))), (ad 12, .inl (cs 9, 8, .inl (sg_ma u))), (ad 13, .inl (cs 10, 8, .inr (.inl (sg_po u)))), (ad 14, .inl (cs 11, 8, .inr (.inl (sg_se u))))]) hP hD [8] [0, 1, 2, 3, 4, 5, 6, 7, 9, 10, 11, 12, 13, 14] rfl rfl (by decide) (by decide) hk1 hFc hP1 hD1
  exact kk H1 locs1 (hP2.sub [0, 1, 2, 3, 4, 5, 6, 7, 14, 8, 9, 10, 11, 12, 13] rfl) (hD2.sub [0, 1, 2, 3, 4, 5, 6, 7, 14, 8, 9, 10, 11, 12, 13] (by decide) rfl) hS1
/-- Arrays.fill of the row at ad 11 with zeros -/
theorem xw_fl11 {p : Program} {l : Launch} {e : Env} {R : Room} {s : State} {m : MethodId} {args : Array Value} {below : List Frame} {meth : Method} {c : Code} {H : Heap} {locs : List Loc} {cells slots : Nat} {Q : State → Prop} {cc : ByteArray} {nL index pc : Nat} {own : String} {rest : List Value} {ls : Array Slot} {c0 : Cond} {D : va_G} {cs : Nat → ClassId} {ad : Nat → Nat} {u : Sg} {j : Jx} {A : Nat → Prop}
    (S : CallFix p m c cc nL s args (c0 :: TB) own) (h1 : Cond.methodLink own index y_ja_fill ∈ TB) (hR : 0 + 1 ≤ R.frames ∧ 8 + (5 + 11) + 0 ≤ R.locals)
    (hK : va_K D cx (xty cs) s) (hP : va_P D cx (xw ad cs u j) H) (hD : va_D A (xw ad cs u j)) (hsize : ls.size = nL) (hW : (rest.map fun v => v.category).sum ≤ 8) (hdg : decode cc pc = .ok (.invokestatic index, 3)) (hf : cells ≤ R.cells ∧ slots ≤ R.slots) (hS : va_S A s.heap H locs) (hA : ∀ q, s.heap.size ≤ q → A q)
    (kk : ∀ (H1 : Heap) (locs1 : List Loc), va_P D cx (xw ad cs (u) (sx_rp j (sp_z6 (jx_rp j)))) H1 → va_D A (xw ad cs (u) (sx_rp j (sp_z6 (jx_rp j)))) → va_S A s.heap H1 locs1 → W p l e R s m args below meth c H1 locs1 cells slots Q (F0 m (pc + 3) ls rest)) : W p l e R s m args below meth c H locs cells slots Q (F0 m pc ls (.long 0 :: .ref (ad 11) :: rest)) := by
  have hPc := hP.sub (ws' := fw (fun _ => ad 11) (fun _ => cs 8) u (jx_rp j)) [11] rfl
  have hDc := hD.sub (ws' := fw (fun _ => ad 11) (fun _ => cs 8) u (jx_rp j)) [11] (by decide) rfl
  have hKc := hK.sub (tys' := fty (fun _ => cs 8)) [8] rfl
  have hFc := va_free (wc := fw (fun _ => ad 11) (fun _ => cs 8) u (jx_rp j)) hD hS hA [11] rfl
  refine va_callv (va_runS (As := [.ref (ad 11), .long 0]) (rest := rest) S (c_ja_fill l D (fun _ => cs 8) (fun _ => ad 11) H.size u (jx_rp j)) (va_cwS 2 S.2.2.2.2 (gi_S h1 tb_135 tb_9 tb_136) rfl rfl rfl hd_ja_fill hR) ⟨fw_blind, fun U hU hW => ⟨rfl, by rw [hU], by rw [hU]; exact hPc, va_K.moved hW.alike hKc, hDc.weaken (fun _ _ _ _ => trivial), trivial⟩⟩ rfl rfl hsize rfl (lv_room hW) hdg hf) hS (fun q _ h => hFc q h) (fun q h => hFc q h) (fun j1 t H1 locs1 ht hvm hp hB hle hk1 hS1 => ?_)
  obtain ⟨hP1, -, hD1⟩ := hB
  rw [ht] at hP1
  subst hp
  obtain ⟨hP2, hD2⟩ := va_join (wr := [(ad 0, .inr (0, [.ref (ad 1), .ref (ad 2), .ref (ad 3), .ref (ad 4), .ref (ad 5), .ref (ad 6), .ref (ad 7), .int (jx_de j), .long (sg_ac u), .int (sg_fa u), .int (sg_la u), .int (sg_st u)])), (ad 1, .inl (cs 0, 8, .inr (.inl (sg_im u)))), (ad 2, .inl (cs 1, 8, .inl (sg_ap u))), (ad 3, .inl (cs 2, 8, .inr (.inl (sg_ag u)))), (ad 4, .inr (1, [.ref (ad 8), .ref (ad 9), .ref (ad 10), .int (sg_en u), .ref (ad 11)])), (ad 5, .inr (2, [.ref (ad 12), .ref (ad 13), .ref (ad 14)])), (ad 6, .inl (cs 3, 6, .inr (.inl (jx_ru j)))), (ad 7, .inl (cs 4, 6, .inl (jx_nd j))), (ad 8, .inl (cs 5, 6, .inr (.inl (sg_he u)))), (ad 9, .inl (cs 6, 32, .inl (sg_er u))), (ad 10, .inl (cs 7, 32, .inr (.inl (sg_ev u)))), (ad 12, .inl (cs 9, 8, .inl (sg_ma u))), (ad 13, .inl (cs 10, 8, .inr (.inl (sg_po u)))), (ad 14, .inl (cs 11, 8, .inr (.inl (sg_se u))))]) hP hD [11] [0, 1, 2, 3, 4, 5, 6, 7, 8, 9, 10, 12, 13, 14] rfl rfl (by decide) (by decide) hk1 hFc hP1 hD1
  exact kk H1 locs1 (hP2.sub [0, 1, 2, 3, 4, 5, 6, 7, 8, 9, 10, 14, 11, 12, 13] rfl) (hD2.sub [0, 1, 2, 3, 4, 5, 6, 7, 8, 9, 10, 14, 11, 12, 13] (by decide) rfl) hS1
theorem d_rg_clear_0 : decode b_rg_clear 0 = .ok (.aload_n 0, 1) := by decide +kernel
theorem d_rg_clear_1 : decode b_rg_clear 1 = .ok (.getfield 11, 3) := by decide +kernel
theorem d_rg_clear_4 : decode b_rg_clear 4 = .ok (.lconst 0, 1) := by decide +kernel
theorem d_rg_clear_5 : decode b_rg_clear 5 = .ok (.invokestatic 29, 3) := by decide +kernel
theorem d_rg_clear_8 : decode b_rg_clear 8 = .ok (.aload_n 0, 1) := by decide +kernel
theorem d_rg_clear_9 : decode b_rg_clear 9 = .ok (.iconst 0, 1) := by decide +kernel
theorem d_rg_clear_10 : decode b_rg_clear 10 = .ok (.putfield 25, 3) := by decide +kernel
theorem d_rg_clear_13 : decode b_rg_clear 13 = .ok (.return_, 1) := by decide +kernel
theorem d_ms_clearForBoot_0 : decode b_ms_clearForBoot 0 = .ok (.aload_n 0, 1) := by decide +kernel
theorem d_ms_clearForBoot_1 : decode b_ms_clearForBoot 1 = .ok (.getfield 23, 3) := by decide +kernel
theorem d_ms_clearForBoot_4 : decode b_ms_clearForBoot 4 = .ok (.invokevirtual 176, 3) := by decide +kernel
theorem d_ms_clearForBoot_7 : decode b_ms_clearForBoot 7 = .ok (.aload_n 0, 1) := by decide +kernel
theorem d_ms_clearForBoot_8 : decode b_ms_clearForBoot 8 = .ok (.lconst 0, 1) := by decide +kernel
theorem d_ms_clearForBoot_9 : decode b_ms_clearForBoot 9 = .ok (.putfield 81, 3) := by decide +kernel
theorem d_ms_clearForBoot_12 : decode b_ms_clearForBoot 12 = .ok (.aload_n 0, 1) := by decide +kernel
theorem d_ms_clearForBoot_13 : decode b_ms_clearForBoot 13 = .ok (.iconst 0, 1) := by decide +kernel
theorem d_ms_clearForBoot_14 : decode b_ms_clearForBoot 14 = .ok (.putfield 75, 3) := by decide +kernel
theorem d_ms_clearForBoot_17 : decode b_ms_clearForBoot 17 = .ok (.aload_n 0, 1) := by decide +kernel
theorem d_ms_clearForBoot_18 : decode b_ms_clearForBoot 18 = .ok (.iconst 0, 1) := by decide +kernel
theorem d_ms_clearForBoot_19 : decode b_ms_clearForBoot 19 = .ok (.putfield 78, 3) := by decide +kernel
theorem d_ms_clearForBoot_22 : decode b_ms_clearForBoot 22 = .ok (.return_, 1) := by decide +kernel
set_option maxHeartbeats 4000000 in
set_option maxRecDepth 100000 in
theorem c_rg_clear (l : Launch) (D : va_G) (cs : Nat → ClassId) (ad : Nat → Nat) (sz : Nat) (u : Sg) (j : Jx)   : Met l y_rg_clear (Cond.code y_rg_clear b_rg_clear 1 none :: TB) { frames := 1, cells := 0, slots := 0, locals := 24 } (va_Pc [.ref (ad 4)] (xw_Pre D cs ad u j sz)) (va_Qv (fun (j1 : Jx) => j1 = j) (fun (j1 : Jx) t => xw_B D cs ad (va_A (xw ad cs u j) sz) (ss_en (ss_he u (sp_z6 (sg_he u))) 0) j1 t) (va_A (xw ad cs u j) sz)) 0 0 (va_A (xw ad cs u j) sz) := by
  refine Met.ofW (cc := b_rg_clear) (maxL := 1) (ret := none) (by decide) rfl ?_
  intro p e s m args below meth c s₁ B hml hv
  obtain ⟨rfl, hsz, hP, hK, hD, hN⟩ := hv
  have hx := B.exec
  have hb := B.bytes
  have hret := B.returns
  have hts := atoms_spec (ws := Cond.code y_rg_clear b_rg_clear 1 none :: TB) B.pre
  have hT : ∀ w ∈ TB, w.before _ s = true := fun w h => hts w (List.mem_cons_of_mem _ h)
  have hown : s.vm.findClass "MeasuredStages$Registers" = some m.cls := findClass_of_methodNamed B.named
  have hlocks := B.notSynchronized
  subst hsz
  have hD := hD.self (sz := s.heap.size)
  generalize hAe : va_A (xw ad cs u j) s.heap.size = A at hD ⊢
  have hA : ∀ q : Nat, s.heap.size ≤ q → A q := fun q h => by rw [← hAe]; exact Or.inr h
  have hS : va_S A s.heap s.heap [] := va_S.rf
  have hl := lv_entry ([.ref (ad 4)]) (n := 1) (Nat.le_of_ble_eq_true rfl)
  rw [lg_entry_eq]
  generalize (lg_sl ([.ref (ad 4)]) ++ List.replicate (1 - (lg_sl ([.ref (ad 4)])).length) Slot.unset).toArray = ls at hl ⊢
  have hl : lv_has ls 1 [(0, .ref (ad 4))] := hl
  skip
  refine lv_aload_n hx hb d_rg_clear_0 rfl (lv_at hl 0 rfl) ?_
  refine va_get (D := D) (ci := 1) (v := .ref (ad 8)) (C := "MeasuredStages$Registers") (T := F_rg) (N := 5) hx hb hts (fun w h => List.mem_cons_of_mem _ (i_rg w h)) hown hK hP 4 rfl rfl 0 (by decide) (hT _ tb_27) (fun _ h9 => h9) rfl d_rg_clear_1 ?_
  refine lv_lconst (v := 0) hx hb d_rg_clear_4 (by decide) ?_
  refine xw_fl8 ⟨hx, hb, hml, hown, hts⟩ tb_134 ⟨Nat.le_of_ble_eq_true rfl, Nat.le_of_ble_eq_true rfl⟩ hK hP hD hl.1 (Nat.le_of_ble_eq_true rfl) d_rg_clear_5 ⟨Nat.zero_le _, Nat.zero_le _⟩ hS hA (fun H locs hP hD hS => ?_)
  have hP : va_P D cx (xv ad cs (sg_im u) (sg_ap u) (sg_ag u) (sp_z6 (sg_he u)) (sg_er u) (sg_ev u) (sg_en u) (sg_ma u) (sg_po u) (sg_se u) (sg_ac u) (sg_fa u) (sg_la u) (sg_st u) (jx_ru j) (jx_nd j) (jx_de j) (jx_rp j)) H := hP
  have hD : va_D A (xv ad cs (sg_im u) (sg_ap u) (sg_ag u) (sp_z6 (sg_he u)) (sg_er u) (sg_ev u) (sg_en u) (sg_ma u) (sg_po u) (sg_se u) (sg_ac u) (sg_fa u) (sg_la u) (sg_st u) (jx_ru j) (jx_nd j) (jx_de j) (jx_rp j)) := hD
  refine lv_aload_n hx hb d_rg_clear_8 rfl (lv_at hl 0 rfl) ?_
  refine lv_iconst (v := 0) hx hb d_rg_clear_9 (by decide) ?_
  refine va_put (D := D) (ci := 1) (v := .int (0)) (ty := .int) (C := "MeasuredStages$Registers") (T := F_rg) (N := 5) hx hb hts (fun w h => List.mem_cons_of_mem _ (i_rg w h)) t_rg o_rg n_rg hown hK hP hD hS 4 rfl rfl 3 (by decide) (hT _ tb_33) (fun _ h9 => h9) rfl (by decide +kernel) rfl rfl (Nat.le_of_ble_eq_true rfl) d_rg_clear_10 (fun H locs hP hD hS => ?_)
  have hP : va_P D cx (xv ad cs (sg_im u) (sg_ap u) (sg_ag u) (sp_z6 (sg_he u)) (sg_er u) (sg_ev u) (0) (sg_ma u) (sg_po u) (sg_se u) (sg_ac u) (sg_fa u) (sg_la u) (sg_st u) (jx_ru j) (jx_nd j) (jx_de j) (jx_rp j)) H := hP
  have hD : va_D A (xv ad cs (sg_im u) (sg_ap u) (sg_ag u) (sp_z6 (sg_he u)) (sg_er u) (sg_ev u) (0) (sg_ma u) (sg_po u) (sg_se u) (sg_ac u) (sg_fa u) (sg_la u) (sg_st u) (jx_ru j) (jx_nd j) (jx_de j) (jx_rp j)) := hD
  obtain ⟨v1, ev1⟩ : ∃ z : Sg, z = (sg_im u, sg_ap u, sg_ag u, sp_z6 (sg_he u), sg_er u, sg_ev u, 0, sg_ma u, sg_po u, sg_se u, sg_ac u, sg_fa u, sg_la u, sg_st u) := ⟨_, rfl⟩
  have hP : va_P D cx (xw ad cs v1 j) H := by rw [ev1, xw_u]; exact hP
  have hD : va_D A (xw ad cs v1 j) := by rw [ev1, xw_u]; exact hD
  subst ev1
  exact W.vret hx hb hret (fun t ht hW => ⟨⟨j, rfl, (by rfl), by rw [ht]; exact hP, va_K.moved hW.alike hK, hD⟩, hS.F ht⟩) hS.2.2 d_rg_clear_13
set_option maxHeartbeats 4000000 in
set_option maxRecDepth 100000 in
theorem c_ms_clearForBoot (l : Launch) (D : va_G) (cs : Nat → ClassId) (ad : Nat → Nat) (sz : Nat) (u : Sg) (j : Jx)   : Met l y_ms_clearForBoot (Cond.code y_ms_clearForBoot b_ms_clearForBoot 1 none :: TB) { frames := 2, cells := 0, slots := 0, locals := 44 } (va_Pc [.ref (ad 0)] (xw_Pre D cs ad u j sz)) (va_Qv (fun (j1 : Jx) => j1 = j) (fun (j1 : Jx) t => xw_B D cs ad (va_A (xw ad cs u j) sz) (ss_st (ss_la (ss_ac (ss_en (ss_he u (sp_z6 (sg_he u))) 0) 0) 0) 0) j1 t) (va_A (xw ad cs u j) sz)) 0 0 (va_A (xw ad cs u j) sz) := by
  refine Met.ofW (cc := b_ms_clearForBoot) (maxL := 1) (ret := none) (by decide) rfl ?_
  intro p e s m args below meth c s₁ B hml hv
  obtain ⟨rfl, hsz, hP, hK, hD, hN⟩ := hv
  have hx := B.exec
  have hb := B.bytes
  have hret := B.returns
  have hts := atoms_spec (ws := Cond.code y_ms_clearForBoot b_ms_clearForBoot 1 none :: TB) B.pre
  have hT : ∀ w ∈ TB, w.before _ s = true := fun w h => hts w (List.mem_cons_of_mem _ h)
  have hown : s.vm.findClass "MeasuredStages" = some m.cls := findClass_of_methodNamed B.named
  have hlocks := B.notSynchronized
  subst hsz
  have hD := hD.self (sz := s.heap.size)
  generalize hAe : va_A (xw ad cs u j) s.heap.size = A at hD ⊢
  have hA : ∀ q : Nat, s.heap.size ≤ q → A q := fun q h => by rw [← hAe]; exact Or.inr h
  have hS : va_S A s.heap s.heap [] := va_S.rf
  have hl := lv_entry ([.ref (ad 0)]) (n := 1) (Nat.le_of_ble_eq_true rfl)
  rw [lg_entry_eq]
  generalize (lg_sl ([.ref (ad 0)]) ++ List.replicate (1 - (lg_sl ([.ref (ad 0)])).length) Slot.unset).toArray = ls at hl ⊢
  have hl : lv_has ls 1 [(0, .ref (ad 0))] := hl
  skip
  refine lv_aload_n hx hb d_ms_clearForBoot_0 rfl (lv_at hl 0 rfl) ?_
  refine va_get (D := D) (ci := 0) (v := .ref (ad 4)) (C := "MeasuredStages") (T := F_ms) (N := 12) hx hb hts (fun w h => List.mem_cons_of_mem _ (i_ms w h)) hown hK hP 0 rfl rfl 3 (by decide) (hT _ tb_72) (fun _ h9 => h9) rfl d_ms_clearForBoot_1 ?_
  refine xw_wrv (u' := ss_en (ss_he u (sp_z6 (sg_he u))) 0) (As := []) (rest := []) ⟨hx, hb, hml, hown, hts⟩ (c_rg_clear l D cs ad _ u j ) tb_248 tb_249 tb_250 tb_2 tb_251 ⟨rfl, hd_rg_clear⟩ ⟨Nat.le_of_ble_eq_true rfl, Nat.le_of_ble_eq_true rfl⟩ rfl rfl hK hP hD hN 4 1 rfl rfl hl.1 rfl (Nat.le_of_ble_eq_true rfl) d_ms_clearForBoot_4 ⟨Nat.zero_le _, Nat.zero_le _⟩ hS hA (fun j1 H locs hj2 hP hD hS => ?_)
  obtain ⟨v3, ev3⟩ : ∃ z : Sg, z = ss_en (ss_he u (sp_z6 (sg_he u))) 0 := ⟨_, rfl⟩
  rw [← ev3] at hP hD
  rw [hj2] at hP hD
  refine lv_aload_n hx hb d_ms_clearForBoot_7 rfl (lv_at hl 0 rfl) ?_
  refine lv_lconst (v := 0) hx hb d_ms_clearForBoot_8 (by decide) ?_
  refine va_put (D := D) (ci := 0) (v := .long (0)) (ty := .long) (C := "MeasuredStages") (T := F_ms) (N := 12) hx hb hts (fun w h => List.mem_cons_of_mem _ (i_ms w h)) t_ms o_ms n_ms hown hK hP hD hS 0 rfl rfl 8 (by decide) (hT _ tb_77) (fun _ h9 => h9) rfl (by decide +kernel) rfl rfl (Nat.le_of_ble_eq_true rfl) d_ms_clearForBoot_9 (fun H locs hP hD hS => ?_)
  have hP : va_P D cx (xv ad cs (sg_im v3) (sg_ap v3) (sg_ag v3) (sg_he v3) (sg_er v3) (sg_ev v3) (sg_en v3) (sg_ma v3) (sg_po v3) (sg_se v3) (0) (sg_fa v3) (sg_la v3) (sg_st v3) (jx_ru j) (jx_nd j) (jx_de j) (jx_rp j)) H := hP
  have hD : va_D A (xv ad cs (sg_im v3) (sg_ap v3) (sg_ag v3) (sg_he v3) (sg_er v3) (sg_ev v3) (sg_en v3) (sg_ma v3) (sg_po v3) (sg_se v3) (0) (sg_fa v3) (sg_la v3) (sg_st v3) (jx_ru j) (jx_nd j) (jx_de j) (jx_rp j)) := hD
  refine lv_aload_n hx hb d_ms_clearForBoot_12 rfl (lv_at hl 0 rfl) ?_
  refine lv_iconst (v := 0) hx hb d_ms_clearForBoot_13 (by decide) ?_
  refine va_put (D := D) (ci := 0) (v := .int (0)) (ty := .int) (C := "MeasuredStages") (T := F_ms) (N := 12) hx hb hts (fun w h => List.mem_cons_of_mem _ (i_ms w h)) t_ms o_ms n_ms hown hK hP hD hS 0 rfl rfl 10 (by decide) (hT _ tb_79) (fun _ h9 => h9) rfl (by decide +kernel) rfl rfl (Nat.le_of_ble_eq_true rfl) d_ms_clearForBoot_14 (fun H locs hP hD hS => ?_)
  have hP : va_P D cx (xv ad cs (sg_im v3) (sg_ap v3) (sg_ag v3) (sg_he v3) (sg_er v3) (sg_ev v3) (sg_en v3) (sg_ma v3) (sg_po v3) (sg_se v3) (0) (sg_fa v3) (0) (sg_st v3) (jx_ru j) (jx_nd j) (jx_de j) (jx_rp j)) H := hP
  have hD : va_D A (xv ad cs (sg_im v3) (sg_ap v3) (sg_ag v3) (sg_he v3) (sg_er v3) (sg_ev v3) (sg_en v3) (sg_ma v3) (sg_po v3) (sg_se v3) (0) (sg_fa v3) (0) (sg_st v3) (jx_ru j) (jx_nd j) (jx_de j) (jx_rp j)) := hD
  refine lv_aload_n hx hb d_ms_clearForBoot_17 rfl (lv_at hl 0 rfl) ?_
  refine lv_iconst (v := 0) hx hb d_ms_clearForBoot_18 (by decide) ?_
  refine va_put (D := D) (ci := 0) (v := .int (0)) (ty := .int) (C := "MeasuredStages") (T := F_ms) (N := 12) hx hb hts (fun w h => List.mem_cons_of_mem _ (i_ms w h)) t_ms o_ms n_ms hown hK hP hD hS 0 rfl rfl 11 (by decide) (hT _ tb_80) (fun _ h9 => h9) rfl (by decide +kernel) rfl rfl (Nat.le_of_ble_eq_true rfl) d_ms_clearForBoot_19 (fun H locs hP hD hS => ?_)
  have hP : va_P D cx (xv ad cs (sg_im v3) (sg_ap v3) (sg_ag v3) (sg_he v3) (sg_er v3) (sg_ev v3) (sg_en v3) (sg_ma v3) (sg_po v3) (sg_se v3) (0) (sg_fa v3) (0) (0) (jx_ru j) (jx_nd j) (jx_de j) (jx_rp j)) H := hP
  have hD : va_D A (xv ad cs (sg_im v3) (sg_ap v3) (sg_ag v3) (sg_he v3) (sg_er v3) (sg_ev v3) (sg_en v3) (sg_ma v3) (sg_po v3) (sg_se v3) (0) (sg_fa v3) (0) (0) (jx_ru j) (jx_nd j) (jx_de j) (jx_rp j)) := hD
  obtain ⟨v4, ev4⟩ : ∃ z : Sg, z = (sg_im v3, sg_ap v3, sg_ag v3, sg_he v3, sg_er v3, sg_ev v3, sg_en v3, sg_ma v3, sg_po v3, sg_se v3, 0, sg_fa v3, 0, 0) := ⟨_, rfl⟩
  have hP : va_P D cx (xw ad cs v4 j) H := by rw [ev4, xw_u]; exact hP
  have hD : va_D A (xw ad cs v4 j) := by rw [ev4, xw_u]; exact hD
  subst ev4
  subst ev3
  exact W.vret hx hb hret (fun t ht hW => ⟨⟨j, rfl, (by rfl), by rw [ht]; exact hP, va_K.moved hW.alike hK, hD⟩, hS.F ht⟩) hS.2.2 d_ms_clearForBoot_22
