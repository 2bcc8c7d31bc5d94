theorem ou_0 (f : Nat → Int64) (v : Int64) : vp_updL f (Int32.toNatClampNeg 0) v 0 = v := by
  show vp_updL f 0 v 0 = v
  exact pk_uLs
theorem d_lw_image_0 : decode b_lw_image 0 = .ok (.aload_n 0, 1) := by decide +kernel
theorem d_lw_image_1 : decode b_lw_image 1 = .ok (.iload_n 1, 1) := by decide +kernel
theorem d_lw_image_2 : decode b_lw_image 2 = .ok (.lload_n 2, 1) := by decide +kernel
theorem d_lw_image_3 : decode b_lw_image 3 = .ok (.invokevirtual 7, 3) := by decide +kernel
theorem d_lw_image_6 : decode b_lw_image 6 = .ok (.goto 7, 3) := by decide +kernel
theorem d_lw_image_9 : decode b_lw_image 9 = .ok (.astore 4, 2) := by decide +kernel
theorem d_lw_image_11 : decode b_lw_image 11 = .ok (.iconst 1, 1) := by decide +kernel
theorem d_lw_image_12 : decode b_lw_image 12 = .ok (.ireturn, 1) := by decide +kernel
theorem d_lw_image_13 : decode b_lw_image 13 = .ok (.iconst 0, 1) := by decide +kernel
theorem d_lw_image_14 : decode b_lw_image 14 = .ok (.ireturn, 1) := by decide +kernel
theorem d_lw_approve_0 : decode b_lw_approve 0 = .ok (.aload_n 0, 1) := by decide +kernel
theorem d_lw_approve_1 : decode b_lw_approve 1 = .ok (.iload_n 1, 1) := by decide +kernel
theorem d_lw_approve_2 : decode b_lw_approve 2 = .ok (.invokevirtual 15, 3) := by decide +kernel
theorem d_lw_approve_5 : decode b_lw_approve 5 = .ok (.goto 6, 3) := by decide +kernel
theorem d_lw_approve_8 : decode b_lw_approve 8 = .ok (.astore_n 2, 1) := by decide +kernel
theorem d_lw_approve_9 : decode b_lw_approve 9 = .ok (.iconst 1, 1) := by decide +kernel
theorem d_lw_approve_10 : decode b_lw_approve 10 = .ok (.ireturn, 1) := by decide +kernel
theorem d_lw_approve_11 : decode b_lw_approve 11 = .ok (.iconst 0, 1) := by decide +kernel
theorem d_lw_approve_12 : decode b_lw_approve 12 = .ok (.ireturn, 1) := by decide +kernel
theorem d_lw_boot_0 : decode b_lw_boot 0 = .ok (.aload_n 2, 1) := by decide +kernel
theorem d_lw_boot_1 : decode b_lw_boot 1 = .ok (.iconst 0, 1) := by decide +kernel
theorem d_lw_boot_2 : decode b_lw_boot 2 = .ok (.aload_n 0, 1) := by decide +kernel
theorem d_lw_boot_3 : decode b_lw_boot 3 = .ok (.iload_n 1, 1) := by decide +kernel
theorem d_lw_boot_4 : decode b_lw_boot 4 = .ok (.invokevirtual 19, 3) := by decide +kernel
theorem d_lw_boot_7 : decode b_lw_boot 7 = .ok (.i2l, 1) := by decide +kernel
theorem d_lw_boot_8 : decode b_lw_boot 8 = .ok (.lastore, 1) := by decide +kernel
theorem d_lw_boot_9 : decode b_lw_boot 9 = .ok (.goto 9, 3) := by decide +kernel
theorem d_lw_boot_12 : decode b_lw_boot 12 = .ok (.astore_n 3, 1) := by decide +kernel
theorem d_lw_boot_13 : decode b_lw_boot 13 = .ok (.iconst 1, 1) := by decide +kernel
theorem d_lw_boot_14 : decode b_lw_boot 14 = .ok (.ireturn, 1) := by decide +kernel
theorem d_lw_boot_15 : decode b_lw_boot 15 = .ok (.astore_n 3, 1) := by decide +kernel
theorem d_lw_boot_16 : decode b_lw_boot 16 = .ok (.iconst 2, 1) := by decide +kernel
theorem d_lw_boot_17 : decode b_lw_boot 17 = .ok (.ireturn, 1) := by decide +kernel
theorem d_lw_boot_18 : decode b_lw_boot 18 = .ok (.iconst 0, 1) := by decide +kernel
theorem d_lw_boot_19 : decode b_lw_boot 19 = .ok (.ireturn, 1) := by decide +kernel
theorem d_lw_register_0 : decode b_lw_register 0 = .ok (.aload_n 2, 1) := by decide +kernel
theorem d_lw_register_1 : decode b_lw_register 1 = .ok (.iconst 0, 1) := by decide +kernel
theorem d_lw_register_2 : decode b_lw_register 2 = .ok (.aload_n 0, 1) := by decide +kernel
theorem d_lw_register_3 : decode b_lw_register 3 = .ok (.iload_n 1, 1) := by decide +kernel
theorem d_lw_register_4 : decode b_lw_register 4 = .ok (.invokevirtual 25, 3) := by decide +kernel
theorem d_lw_register_7 : decode b_lw_register 7 = .ok (.lastore, 1) := by decide +kernel
theorem d_lw_register_8 : decode b_lw_register 8 = .ok (.goto 6, 3) := by decide +kernel
theorem d_lw_register_11 : decode b_lw_register 11 = .ok (.astore_n 3, 1) := by decide +kernel
theorem d_lw_register_12 : decode b_lw_register 12 = .ok (.iconst 1, 1) := by decide +kernel
theorem d_lw_register_13 : decode b_lw_register 13 = .ok (.ireturn, 1) := by decide +kernel
theorem d_lw_register_14 : decode b_lw_register 14 = .ok (.iconst 0, 1) := by decide +kernel
theorem d_lw_register_15 : decode b_lw_register 15 = .ok (.ireturn, 1) := by decide +kernel
theorem d_lw_extend_0 : decode b_lw_extend 0 = .ok (.aload_n 0, 1) := by decide +kernel
theorem d_lw_extend_1 : decode b_lw_extend 1 = .ok (.iload_n 1, 1) := by decide +kernel
theorem d_lw_extend_2 : decode b_lw_extend 2 = .ok (.lload_n 2, 1) := by decide +kernel
theorem d_lw_extend_3 : decode b_lw_extend 3 = .ok (.invokevirtual 31, 3) := by decide +kernel
theorem d_lw_extend_6 : decode b_lw_extend 6 = .ok (.goto 11, 3) := by decide +kernel
theorem d_lw_extend_9 : decode b_lw_extend 9 = .ok (.astore 4, 2) := by decide +kernel
theorem d_lw_extend_11 : decode b_lw_extend 11 = .ok (.iconst 1, 1) := by decide +kernel
theorem d_lw_extend_12 : decode b_lw_extend 12 = .ok (.ireturn, 1) := by decide +kernel
theorem d_lw_extend_13 : decode b_lw_extend 13 = .ok (.astore 4, 2) := by decide +kernel
theorem d_lw_extend_15 : decode b_lw_extend 15 = .ok (.iconst 2, 1) := by decide +kernel
theorem d_lw_extend_16 : decode b_lw_extend 16 = .ok (.ireturn, 1) := by decide +kernel
theorem d_lw_extend_17 : decode b_lw_extend 17 = .ok (.iconst 0, 1) := by decide +kernel
theorem d_lw_extend_18 : decode b_lw_extend 18 = .ok (.ireturn, 1) := by decide +kernel
theorem d_lw_eventRegister_0 : decode b_lw_eventRegister 0 = .ok (.aload_n 2, 1) := by decide +kernel
theorem d_lw_eventRegister_1 : decode b_lw_eventRegister 1 = .ok (.iconst 0, 1) := by decide +kernel
theorem d_lw_eventRegister_2 : decode b_lw_eventRegister 2 = .ok (.aload_n 0, 1) := by decide +kernel
theorem d_lw_eventRegister_3 : decode b_lw_eventRegister 3 = .ok (.iload_n 1, 1) := by decide +kernel
theorem d_lw_eventRegister_4 : decode b_lw_eventRegister 4 = .ok (.invokevirtual 34, 3) := by decide +kernel
theorem d_lw_eventRegister_7 : decode b_lw_eventRegister 7 = .ok (.i2l, 1) := by decide +kernel
theorem d_lw_eventRegister_8 : decode b_lw_eventRegister 8 = .ok (.lastore, 1) := by decide +kernel
theorem d_lw_eventRegister_9 : decode b_lw_eventRegister 9 = .ok (.goto 6, 3) := by decide +kernel
theorem d_lw_eventRegister_12 : decode b_lw_eventRegister 12 = .ok (.astore_n 3, 1) := by decide +kernel
theorem d_lw_eventRegister_13 : decode b_lw_eventRegister 13 = .ok (.iconst 1, 1) := by decide +kernel
theorem d_lw_eventRegister_14 : decode b_lw_eventRegister 14 = .ok (.ireturn, 1) := by decide +kernel
theorem d_lw_eventRegister_15 : decode b_lw_eventRegister 15 = .ok (.iconst 0, 1) := by decide +kernel
theorem d_lw_eventRegister_16 : decode b_lw_eventRegister 16 = .ok (.ireturn, 1) := by decide +kernel
theorem d_lw_eventValue_0 : decode b_lw_eventValue 0 = .ok (.aload_n 2, 1) := by decide +kernel
theorem d_lw_eventValue_1 : decode b_lw_eventValue 1 = .ok (.iconst 0, 1) := by decide +kernel
theorem d_lw_eventValue_2 : decode b_lw_eventValue 2 = .ok (.aload_n 0, 1) := by decide +kernel
theorem d_lw_eventValue_3 : decode b_lw_eventValue 3 = .ok (.iload_n 1, 1) := by decide +kernel
theorem d_lw_eventValue_4 : decode b_lw_eventValue 4 = .ok (.invokevirtual 39, 3) := by decide +kernel
theorem d_lw_eventValue_7 : decode b_lw_eventValue 7 = .ok (.lastore, 1) := by decide +kernel
theorem d_lw_eventValue_8 : decode b_lw_eventValue 8 = .ok (.goto 6, 3) := by decide +kernel
theorem d_lw_eventValue_11 : decode b_lw_eventValue 11 = .ok (.astore_n 3, 1) := by decide +kernel
theorem d_lw_eventValue_12 : decode b_lw_eventValue 12 = .ok (.iconst 1, 1) := by decide +kernel
theorem d_lw_eventValue_13 : decode b_lw_eventValue 13 = .ok (.ireturn, 1) := by decide +kernel
theorem d_lw_eventValue_14 : decode b_lw_eventValue 14 = .ok (.iconst 0, 1) := by decide +kernel
theorem d_lw_eventValue_15 : decode b_lw_eventValue 15 = .ok (.ireturn, 1) := by decide +kernel
theorem d_lw_tamper_0 : decode b_lw_tamper 0 = .ok (.aload_n 0, 1) := by decide +kernel
theorem d_lw_tamper_1 : decode b_lw_tamper 1 = .ok (.iload_n 1, 1) := by decide +kernel
theorem d_lw_tamper_2 : decode b_lw_tamper 2 = .ok (.lload_n 2, 1) := by decide +kernel
theorem d_lw_tamper_3 : decode b_lw_tamper 3 = .ok (.invokevirtual 42, 3) := by decide +kernel
theorem d_lw_tamper_6 : decode b_lw_tamper 6 = .ok (.goto 7, 3) := by decide +kernel
theorem d_lw_tamper_9 : decode b_lw_tamper 9 = .ok (.astore 4, 2) := by decide +kernel
theorem d_lw_tamper_11 : decode b_lw_tamper 11 = .ok (.iconst 1, 1) := by decide +kernel
theorem d_lw_tamper_12 : decode b_lw_tamper 12 = .ok (.ireturn, 1) := by decide +kernel
theorem d_lw_tamper_13 : decode b_lw_tamper 13 = .ok (.iconst 0, 1) := by decide +kernel
theorem d_lw_tamper_14 : decode b_lw_tamper 14 = .ok (.ireturn, 1) := by decide +kernel
theorem d_lw_seal_0 : decode b_lw_seal 0 = .ok (.aload 4, 2) := by decide +kernel
theorem d_lw_seal_2 : decode b_lw_seal 2 = .ok (.iconst 0, 1) := by decide +kernel
theorem d_lw_seal_3 : decode b_lw_seal 3 = .ok (.aload_n 0, 1) := by decide +kernel
theorem d_lw_seal_4 : decode b_lw_seal 4 = .ok (.iload_n 1, 1) := by decide +kernel
theorem d_lw_seal_5 : decode b_lw_seal 5 = .ok (.lload_n 2, 1) := by decide +kernel
theorem d_lw_seal_6 : decode b_lw_seal 6 = .ok (.invokevirtual 45, 3) := by decide +kernel
theorem d_lw_seal_9 : decode b_lw_seal 9 = .ok (.i2l, 1) := by decide +kernel
theorem d_lw_seal_10 : decode b_lw_seal 10 = .ok (.lastore, 1) := by decide +kernel
theorem d_lw_seal_11 : decode b_lw_seal 11 = .ok (.goto 11, 3) := by decide +kernel
theorem d_lw_seal_14 : decode b_lw_seal 14 = .ok (.astore 5, 2) := by decide +kernel
theorem d_lw_seal_16 : decode b_lw_seal 16 = .ok (.iconst 1, 1) := by decide +kernel
theorem d_lw_seal_17 : decode b_lw_seal 17 = .ok (.ireturn, 1) := by decide +kernel
theorem d_lw_seal_18 : decode b_lw_seal 18 = .ok (.astore 5, 2) := by decide +kernel
theorem d_lw_seal_20 : decode b_lw_seal 20 = .ok (.iconst 2, 1) := by decide +kernel
theorem d_lw_seal_21 : decode b_lw_seal 21 = .ok (.ireturn, 1) := by decide +kernel
theorem d_lw_seal_22 : decode b_lw_seal 22 = .ok (.iconst 0, 1) := by decide +kernel
theorem d_lw_seal_23 : decode b_lw_seal 23 = .ok (.ireturn, 1) := by decide +kernel
theorem d_lw_unseal_0 : decode b_lw_unseal 0 = .ok (.aload_n 2, 1) := by decide +kernel
theorem d_lw_unseal_1 : decode b_lw_unseal 1 = .ok (.iconst 0, 1) := by decide +kernel
theorem d_lw_unseal_2 : decode b_lw_unseal 2 = .ok (.aload_n 0, 1) := by decide +kernel
theorem d_lw_unseal_3 : decode b_lw_unseal 3 = .ok (.iload_n 1, 1) := by decide +kernel
theorem d_lw_unseal_4 : decode b_lw_unseal 4 = .ok (.invokevirtual 49, 3) := by decide +kernel
theorem d_lw_unseal_7 : decode b_lw_unseal 7 = .ok (.lastore, 1) := by decide +kernel
theorem d_lw_unseal_8 : decode b_lw_unseal 8 = .ok (.goto 9, 3) := by decide +kernel
theorem d_lw_unseal_11 : decode b_lw_unseal 11 = .ok (.astore_n 3, 1) := by decide +kernel
theorem d_lw_unseal_12 : decode b_lw_unseal 12 = .ok (.iconst 1, 1) := by decide +kernel
theorem d_lw_unseal_13 : decode b_lw_unseal 13 = .ok (.ireturn, 1) := by decide +kernel
theorem d_lw_unseal_14 : decode b_lw_unseal 14 = .ok (.astore_n 3, 1) := by decide +kernel
theorem d_lw_unseal_15 : decode b_lw_unseal 15 = .ok (.iconst 2, 1) := by decide +kernel
theorem d_lw_unseal_16 : decode b_lw_unseal 16 = .ok (.ireturn, 1) := by decide +kernel
theorem d_lw_unseal_17 : decode b_lw_unseal 17 = .ok (.iconst 0, 1) := by decide +kernel
theorem d_lw_unseal_18 : decode b_lw_unseal 18 = .ok (.ireturn, 1) := by decide +kernel
theorem d_lw_discard_0 : decode b_lw_discard 0 = .ok (.aload_n 0, 1) := by decide +kernel
theorem d_lw_discard_1 : decode b_lw_discard 1 = .ok (.iload_n 1, 1) := by decide +kernel
theorem d_lw_discard_2 : decode b_lw_discard 2 = .ok (.invokevirtual 52, 3) := by decide +kernel
theorem d_lw_discard_5 : decode b_lw_discard 5 = .ok (.goto 6, 3) := by decide +kernel
theorem d_lw_discard_8 : decode b_lw_discard 8 = .ok (.astore_n 2, 1) := by decide +kernel
theorem d_lw_discard_9 : decode b_lw_discard 9 = .ok (.iconst 1, 1) := by decide +kernel
theorem d_lw_discard_10 : decode b_lw_discard 10 = .ok (.ireturn, 1) := by decide +kernel
theorem d_lw_discard_11 : decode b_lw_discard 11 = .ok (.iconst 0, 1) := by decide +kernel
theorem d_lw_discard_12 : decode b_lw_discard 12 = .ok (.ireturn, 1) := by decide +kernel
theorem d_lw_quote_0 : decode b_lw_quote 0 = .ok (.aload 6, 2) := by decide +kernel
theorem d_lw_quote_2 : decode b_lw_quote 2 = .ok (.iconst 0, 1) := by decide +kernel
theorem d_lw_quote_3 : decode b_lw_quote 3 = .ok (.aload_n 0, 1) := by decide +kernel
theorem d_lw_quote_4 : decode b_lw_quote 4 = .ok (.lload_n 1, 1) := by decide +kernel
theorem d_lw_quote_5 : decode b_lw_quote 5 = .ok (.lload_n 3, 1) := by decide +kernel
theorem d_lw_quote_6 : decode b_lw_quote 6 = .ok (.iload 5, 2) := by decide +kernel
theorem d_lw_quote_8 : decode b_lw_quote 8 = .ok (.invokevirtual 55, 3) := by decide +kernel
theorem d_lw_quote_11 : decode b_lw_quote 11 = .ok (.lastore, 1) := by decide +kernel
theorem d_lw_quote_12 : decode b_lw_quote 12 = .ok (.goto 7, 3) := by decide +kernel
theorem d_lw_quote_15 : decode b_lw_quote 15 = .ok (.astore 7, 2) := by decide +kernel
theorem d_lw_quote_17 : decode b_lw_quote 17 = .ok (.iconst 1, 1) := by decide +kernel
theorem d_lw_quote_18 : decode b_lw_quote 18 = .ok (.ireturn, 1) := by decide +kernel
theorem d_lw_quote_19 : decode b_lw_quote 19 = .ok (.iconst 0, 1) := by decide +kernel
theorem d_lw_quote_20 : decode b_lw_quote 20 = .ok (.ireturn, 1) := by decide +kernel
set_option maxHeartbeats 4000000 in
set_option maxRecDepth 100000 in
theorem k_lw_image (l : Launch) (D : va_G) (cs : Nat → ClassId) (ad : Nat → Nat) (sz : Nat) (u : Sg) (j : Jy) (n : Int32) (x : Int64) (hn : vp_in n 8) : Met l y_lw_image (Cond.codeWith y_lw_image b_lw_image 5 (some .int) [(0, 6, 9, 13)] :: TB) { frames := 9, cells := 0, slots := 0, locals := 300 } (va_Pc [.ref (ad 0), .int n, .long x] (yw_Pre D cs ad u j sz)) (va_Qi (fun (r : Int32) (j1 : Jy) => r = 0 ∧ True) (fun (j1 : Jy) t => yw_B D cs ad (va_A (yw ad cs u j) sz) (ss_im u (vp_updL (sg_im u) n.toNatClampNeg x)) j1 t) (va_A (yw ad cs u j) sz)) 0 0 (va_A (yw ad cs u j) sz) := by
  refine tk_ofWith (cc := b_lw_image) (maxL := 5) (ret := (some .int)) (by decide) rfl ?_
  intro p e s m args below meth c s₁ B hml htab hv
  obtain ⟨rfl, hsz, hP, hK, hD, hN, hZ, hC⟩ := hv
  have hx := B.exec
  have hb := B.bytes
  have hret := B.returns
  have hts := atoms_spec (ws := Cond.codeWith y_lw_image b_lw_image 5 (some .int) [(0, 6, 9, 13)] :: TB) B.pre
  have hT : ∀ w ∈ TB, w.before _ s = true := fun w h => hts w (List.mem_cons_of_mem _ h)
  have hown : s.vm.findClass "MeasuredStagesLaw" = some m.cls := findClass_of_methodNamed B.named
  have hlocks := B.notSynchronized
  subst hsz
  have hD := hD.self (sz := s.heap.size)
  generalize hAe : va_A (yw ad cs u j) s.heap.size = A at hD ⊢
  have hA : ∀ q : Nat, s.heap.size ≤ q → A q := fun q h => by rw [← hAe]; exact Or.inr h
  have hS : va_S A s.heap s.heap [] := va_S.rf
  have hl := lv_entry ([.ref (ad 0), .int n, .long x]) (n := 5) (Nat.le_of_ble_eq_true rfl)
  rw [lg_entry_eq]
  generalize (lg_sl ([.ref (ad 0), .int n, .long x]) ++ List.replicate (5 - (lg_sl ([.ref (ad 0), .int n, .long x])).length) Slot.unset).toArray = ls at hl ⊢
  have hl : lv_has ls 5 [(0, .ref (ad 0)), (1, .int n), (2, .long x)] := hl
  refine lv_aload_n hx hb d_lw_image_0 rfl (lv_at hl 0 rfl) ?_
  refine lv_iload_n hx hb d_lw_image_1 rfl (lv_at hl 1 rfl) ?_
  refine lv_lload_n hx hb d_lw_image_2 rfl (lv_at hl 2 rfl) ?_
  refine yx_wrv (u' := ss_im u (vp_updL (sg_im u) n.toNatClampNeg x)) (As := [.int n, .long x]) (rest := []) ⟨hx, hb, hml, hown, hts⟩ (k_ms_image l D cs ad _ u (jyx j) n x hn) tb_147 tb_148 tb_149 tb_1 tb_150 ⟨rfl, hd_ms_image⟩ ⟨Nat.le_of_ble_eq_true rfl, Nat.le_of_ble_eq_true rfl⟩ rfl rfl hK hP hD hN 0 0 rfl rfl hl.1 rfl (Nat.le_of_ble_eq_true rfl) d_lw_image_3 ⟨Nat.le_of_ble_eq_true rfl, Nat.le_of_ble_eq_true rfl⟩ hS hA (fun j1 H locs hp hP hD hS => ?_)
  obtain ⟨v9, ev9⟩ : ∃ z : Sg, z = ss_im u (vp_updL (sg_im u) n.toNatClampNeg x) := ⟨_, rfl⟩
  rw [← ev9] at hP hD
  obtain ⟨q9, eq9⟩ : ∃ z : Jy, z = jxy j1 (jy_ou j) := ⟨_, rfl⟩
  rw [← eq9] at hP hD
  refine lv_goto hx hb d_lw_image_6 (tgt := 13) (by decide) ?_
  refine lv_iconst (v := 0) hx hb d_lw_image_13 (by decide) ?_
  subst ev9
  exact W.iret hx hb hret (fun t ht hW => ⟨⟨_, q9, rfl, ⟨rfl, (by subst eq9; trivial)⟩, by rw [ht]; exact hP, va_K.moved hW.alike hK, hD⟩, hS.F ht⟩) hS.2.2 d_lw_image_14
set_option maxHeartbeats 4000000 in
set_option maxRecDepth 100000 in
theorem f_lw_image (l : Launch) (hl0 : l.stackTraces = false) (D : va_G) (cs : Nat → ClassId) (ad : Nat → Nat) (sz : Nat) (u : Sg) (j : Jy) (n : Int32) (x : Int64) (hn : ¬ vp_in n 8) : Met l y_lw_image (Cond.codeWith y_lw_image b_lw_image 5 (some .int) [(0, 6, 9, 13)] :: TB) { frames := 9, cells := 1, slots := 6, locals := 300 } (va_Pc [.ref (ad 0), .int n, .long x] (yw_Pre D cs ad u j sz)) (va_Qi (fun (r : Int32) (j1 : Jy) => r = 1 ∧ True) (fun (j1 : Jy) t => yw_B D cs ad (va_A (yw ad cs u j) sz) (u) j1 t) (va_A (yw ad cs u j) sz)) 1 6 (va_A (yw ad cs u j) sz) := by
  refine tk_ofWith (cc := b_lw_image) (maxL := 5) (ret := (some .int)) (by decide) rfl ?_
  intro p e s m args below meth c s₁ B hml htab hv
  obtain ⟨rfl, hsz, hP, hK, hD, hN, hZ, hC⟩ := hv
  have hx := B.exec
  have hb := B.bytes
  have hret := B.returns
  have hts := atoms_spec (ws := Cond.codeWith y_lw_image b_lw_image 5 (some .int) [(0, 6, 9, 13)] :: TB) B.pre
  have hT : ∀ w ∈ TB, w.before _ s = true := fun w h => hts w (List.mem_cons_of_mem _ h)
  have hown : s.vm.findClass "MeasuredStagesLaw" = some m.cls := findClass_of_methodNamed B.named
  have hlocks := B.notSynchronized
  subst hsz
  have hD := hD.self (sz := s.heap.size)
  generalize hAe : va_A (yw ad cs u j) s.heap.size = A at hD ⊢
  have hA : ∀ q : Nat, s.heap.size ≤ q → A q := fun q h => by rw [← hAe]; exact Or.inr h
  have hS : va_S A s.heap s.heap [] := va_S.rf
  have hl := lv_entry ([.ref (ad 0), .int n, .long x]) (n := 5) (Nat.le_of_ble_eq_true rfl)
  rw [lg_entry_eq]
  generalize (lg_sl ([.ref (ad 0), .int n, .long x]) ++ List.replicate (5 - (lg_sl ([.ref (ad 0), .int n, .long x])).length) Slot.unset).toArray = ls at hl ⊢
  have hl : lv_has ls 5 [(0, .ref (ad 0)), (1, .int n), (2, .long x)] := hl
  refine lv_aload_n hx hb d_lw_image_0 rfl (lv_at hl 0 rfl) ?_
  refine lv_iload_n hx hb d_lw_image_1 rfl (lv_at hl 1 rfl) ?_
  refine lv_lload_n hx hb d_lw_image_2 rfl (lv_at hl 2 rfl) ?_
  obtain ⟨x1, t1, ex1, a1, b1, c1, d1, ht1⟩ := tk_tab htab
  have a1 : x1.startPc = 0 := a1
  have b1 : x1.endPc = 6 := b1
  have c1 : x1.handlerPc = 9 := c1
  have d1 : x1.catchType = 13 := d1
  refine yx_tr (u' := u) (As := [.int n, .long x]) (rest := []) ⟨hx, hb, hml, hown, hts⟩ (f_ms_image l hl0 D cs ad _ u (jyx j) n x hn) tb_147 tb_148 tb_149 tb_1 tb_150 ⟨rfl, hd_ms_image⟩ ⟨Nat.le_of_ble_eq_true rfl, Nat.le_of_ble_eq_true rfl⟩ rfl rfl hK hP hD hN 0 0 rfl rfl hl.1 rfl (Nat.le_of_ble_eq_true rfl) d_lw_image_3 ⟨Nat.le_of_ble_eq_true rfl, Nat.le_of_ble_eq_true rfl⟩ hS hA hZ [] x1 t1 ex1 (fun z hz => absurd hz List.not_mem_nil) (by unfold covers; rw [a1, b1]; rfl) (by rw [d1]; decide) (by rw [d1]; exact hT _ tb_146) (fun x9 j1 H locs hP hD hS => ?_)
  rw [c1]
  obtain ⟨q9, eq9⟩ : ∃ z : Jy, z = jxy j1 (jy_ou j) := ⟨_, rfl⟩
  rw [← eq9] at hP hD
  refine lv_astore (nL := 5) (lv' := [(4, .ref x9), (0, .ref (ad 0)), (1, .int n), (2, .long x)]) hx hb d_lw_image_9 hl (by decide) rfl (fun ls hl => ?_)
  refine lv_iconst (v := 1) hx hb d_lw_image_11 (by decide) ?_
  exact W.iret hx hb hret (fun t ht hW => ⟨⟨_, q9, rfl, ⟨rfl, (by subst eq9; trivial)⟩, by rw [ht]; exact hP, va_K.moved hW.alike hK, hD⟩, hS.F ht⟩) hS.2.2 d_lw_image_12
set_option maxHeartbeats 4000000 in
set_option maxRecDepth 100000 in
theorem k_lw_approve (l : Launch) (D : va_G) (cs : Nat → ClassId) (ad : Nat → Nat) (sz : Nat) (u : Sg) (j : Jy) (n : Int32) (hn : vp_in n 8) : Met l y_lw_approve (Cond.codeWith y_lw_approve b_lw_approve 3 (some .int) [(0, 5, 8, 13)] :: TB) { frames := 9, cells := 0, slots := 0, locals := 300 } (va_Pc [.ref (ad 0), .int n] (yw_Pre D cs ad u j sz)) (va_Qi (fun (r : Int32) (j1 : Jy) => r = 0 ∧ True) (fun (j1 : Jy) t => yw_B D cs ad (va_A (yw ad cs u j) sz) (ss_ag (ss_ap u (upd (sg_ap u) n.toNatClampNeg 1)) (vp_updL (sg_ag u) n.toNatClampNeg (sp_di u n))) j1 t) (va_A (yw ad cs u j) sz)) 0 0 (va_A (yw ad cs u j) sz) := by
  refine tk_ofWith (cc := b_lw_approve) (maxL := 3) (ret := (some .int)) (by decide) rfl ?_
  intro p e s m args below meth c s₁ B hml htab hv
  obtain ⟨rfl, hsz, hP, hK, hD, hN, hZ, hC⟩ := hv
  have hx := B.exec
  have hb := B.bytes
  have hret := B.returns
  have hts := atoms_spec (ws := Cond.codeWith y_lw_approve b_lw_approve 3 (some .int) [(0, 5, 8, 13)] :: TB) B.pre
  have hT : ∀ w ∈ TB, w.before _ s = true := fun w h => hts w (List.mem_cons_of_mem _ h)
  have hown : s.vm.findClass "MeasuredStagesLaw" = some m.cls := findClass_of_methodNamed B.named
  have hlocks := B.notSynchronized
  subst hsz
  have hD := hD.self (sz := s.heap.size)
  generalize hAe : va_A (yw ad cs u j) s.heap.size = A at hD ⊢
  have hA : ∀ q : Nat, s.heap.size ≤ q → A q := fun q h => by rw [← hAe]; exact Or.inr h
  have hS : va_S A s.heap s.heap [] := va_S.rf
  have hl := lv_entry ([.ref (ad 0), .int n]) (n := 3) (Nat.le_of_ble_eq_true rfl)
  rw [lg_entry_eq]
  generalize (lg_sl ([.ref (ad 0), .int n]) ++ List.replicate (3 - (lg_sl ([.ref (ad 0), .int n])).length) Slot.unset).toArray = ls at hl ⊢
  have hl : lv_has ls 3 [(0, .ref (ad 0)), (1, .int n)] := hl
  refine lv_aload_n hx hb d_lw_approve_0 rfl (lv_at hl 0 rfl) ?_
  refine lv_iload_n hx hb d_lw_approve_1 rfl (lv_at hl 1 rfl) ?_
  refine yx_wrv (u' := ss_ag (ss_ap u (upd (sg_ap u) n.toNatClampNeg 1)) (vp_updL (sg_ag u) n.toNatClampNeg (sp_di u n))) (As := [.int n]) (rest := []) ⟨hx, hb, hml, hown, hts⟩ (k_ms_approve l D cs ad _ u (jyx j) n hn) tb_226 tb_227 tb_228 tb_1 tb_229 ⟨rfl, hd_ms_approve⟩ ⟨Nat.le_of_ble_eq_true rfl, Nat.le_of_ble_eq_true rfl⟩ rfl rfl hK hP hD hN 0 0 rfl rfl hl.1 rfl (Nat.le_of_ble_eq_true rfl) d_lw_approve_2 ⟨Nat.le_of_ble_eq_true rfl, Nat.le_of_ble_eq_true rfl⟩ hS hA (fun j1 H locs hp hP hD hS => ?_)
  obtain ⟨v9, ev9⟩ : ∃ z : Sg, z = ss_ag (ss_ap u (upd (sg_ap u) n.toNatClampNeg 1)) (vp_updL (sg_ag u) n.toNatClampNeg (sp_di u n)) := ⟨_, rfl⟩
  rw [← ev9] at hP hD
  obtain ⟨q9, eq9⟩ : ∃ z : Jy, z = jxy j1 (jy_ou j) := ⟨_, rfl⟩
  rw [← eq9] at hP hD
  refine lv_goto hx hb d_lw_approve_5 (tgt := 11) (by decide) ?_
  refine lv_iconst (v := 0) hx hb d_lw_approve_11 (by decide) ?_
  subst ev9
  exact W.iret hx hb hret (fun t ht hW => ⟨⟨_, q9, rfl, ⟨rfl, (by subst eq9; trivial)⟩, by rw [ht]; exact hP, va_K.moved hW.alike hK, hD⟩, hS.F ht⟩) hS.2.2 d_lw_approve_12
set_option maxHeartbeats 4000000 in
set_option maxRecDepth 100000 in
theorem f_lw_approve (l : Launch) (hl0 : l.stackTraces = false) (D : va_G) (cs : Nat → ClassId) (ad : Nat → Nat) (sz : Nat) (u : Sg) (j : Jy) (n : Int32) (hn : ¬ vp_in n 8) : Met l y_lw_approve (Cond.codeWith y_lw_approve b_lw_approve 3 (some .int) [(0, 5, 8, 13)] :: TB) { frames := 9, cells := 1, slots := 6, locals := 300 } (va_Pc [.ref (ad 0), .int n] (yw_Pre D cs ad u j sz)) (va_Qi (fun (r : Int32) (j1 : Jy) => r = 1 ∧ True) (fun (j1 : Jy) t => yw_B D cs ad (va_A (yw ad cs u j) sz) (u) j1 t) (va_A (yw ad cs u j) sz)) 1 6 (va_A (yw ad cs u j) sz) := by
  refine tk_ofWith (cc := b_lw_approve) (maxL := 3) (ret := (some .int)) (by decide) rfl ?_
  intro p e s m args below meth c s₁ B hml htab hv
  obtain ⟨rfl, hsz, hP, hK, hD, hN, hZ, hC⟩ := hv
  have hx := B.exec
  have hb := B.bytes
  have hret := B.returns
  have hts := atoms_spec (ws := Cond.codeWith y_lw_approve b_lw_approve 3 (some .int) [(0, 5, 8, 13)] :: TB) B.pre
  have hT : ∀ w ∈ TB, w.before _ s = true := fun w h => hts w (List.mem_cons_of_mem _ h)
  have hown : s.vm.findClass "MeasuredStagesLaw" = some m.cls := findClass_of_methodNamed B.named
  have hlocks := B.notSynchronized
  subst hsz
  have hD := hD.self (sz := s.heap.size)
  generalize hAe : va_A (yw ad cs u j) s.heap.size = A at hD ⊢
  have hA : ∀ q : Nat, s.heap.size ≤ q → A q := fun q h => by rw [← hAe]; exact Or.inr h
  have hS : va_S A s.heap s.heap [] := va_S.rf
  have hl := lv_entry ([.ref (ad 0), .int n]) (n := 3) (Nat.le_of_ble_eq_true rfl)
  rw [lg_entry_eq]
  generalize (lg_sl ([.ref (ad 0), .int n]) ++ List.replicate (3 - (lg_sl ([.ref (ad 0), .int n])).length) Slot.unset).toArray = ls at hl ⊢
  have hl : lv_has ls 3 [(0, .ref (ad 0)), (1, .int n)] := hl
  refine lv_aload_n hx hb d_lw_approve_0 rfl (lv_at hl 0 rfl) ?_
  refine lv_iload_n hx hb d_lw_approve_1 rfl (lv_at hl 1 rfl) ?_
  obtain ⟨x1, t1, ex1, a1, b1, c1, d1, ht1⟩ := tk_tab htab
  have a1 : x1.startPc = 0 := a1
  have b1 : x1.endPc = 5 := b1
  have c1 : x1.handlerPc = 8 := c1
  have d1 : x1.catchType = 13 := d1
  refine yx_tr (u' := u) (As := [.int n]) (rest := []) ⟨hx, hb, hml, hown, hts⟩ (f_ms_approve l hl0 D cs ad _ u (jyx j) n hn) tb_226 tb_227 tb_228 tb_1 tb_229 ⟨rfl, hd_ms_approve⟩ ⟨Nat.le_of_ble_eq_true rfl, Nat.le_of_ble_eq_true rfl⟩ rfl rfl hK hP hD hN 0 0 rfl rfl hl.1 rfl (Nat.le_of_ble_eq_true rfl) d_lw_approve_2 ⟨Nat.le_of_ble_eq_true rfl, Nat.le_of_ble_eq_true rfl⟩ hS hA hZ [] x1 t1 ex1 (fun z hz => absurd hz List.not_mem_nil) (by unfold covers; rw [a1, b1]; rfl) (by rw [d1]; decide) (by rw [d1]; exact hT _ tb_146) (fun x9 j1 H locs hP hD hS => ?_)
  rw [c1]
  obtain ⟨q9, eq9⟩ : ∃ z : Jy, z = jxy j1 (jy_ou j) := ⟨_, rfl⟩
  rw [← eq9] at hP hD
  refine lv_astore_n (nL := 3) (lv' := [(2, .ref x9), (0, .ref (ad 0)), (1, .int n)]) hx hb d_lw_approve_8 rfl hl (by decide) rfl (fun ls hl => ?_)
  refine lv_iconst (v := 1) hx hb d_lw_approve_9 (by decide) ?_
  exact W.iret hx hb hret (fun t ht hW => ⟨⟨_, q9, rfl, ⟨rfl, (by subst eq9; trivial)⟩, by rw [ht]; exact hP, va_K.moved hW.alike hK, hD⟩, hS.F ht⟩) hS.2.2 d_lw_approve_10
set_option maxHeartbeats 4000000 in
set_option maxRecDepth 100000 in
theorem k_lw_boot (l : Launch) (D : va_G) (cs : Nat → ClassId) (ad : Nat → Nat) (sz : Nat) (u : Sg) (j : Jy) (n : Int32) (hok : sp_ok u) (hn : vp_in n 8) (hf : sg_fa (sp_bo u n) = 0) : Met l y_lw_boot (Cond.codeWith y_lw_boot b_lw_boot 4 (some .int) [(0, 9, 12, 13), (0, 9, 15, 23)] :: TB) { frames := 9, cells := 0, slots := 0, locals := 300 } (va_Pc [.ref (ad 0), .int n, .ref (ad 15)] (yw_Pre D cs ad u j sz)) (va_Qi (fun (r : Int32) (j1 : Jy) => r = 0 ∧ jy_ou j1 0 = (sg_la (sp_bo u n)).toInt64) (fun (j1 : Jy) t => yw_B D cs ad (va_A (yw ad cs u j) sz) (sp_bo u n) j1 t) (va_A (yw ad cs u j) sz)) 0 0 (va_A (yw ad cs u j) sz) := by
  refine tk_ofWith (cc := b_lw_boot) (maxL := 4) (ret := (some .int)) (by decide) rfl ?_
  intro p e s m args below meth c s₁ B hml htab hv
  obtain ⟨rfl, hsz, hP, hK, hD, hN, hZ, hC⟩ := hv
  have hx := B.exec
  have hb := B.bytes
  have hret := B.returns
  have hts := atoms_spec (ws := Cond.codeWith y_lw_boot b_lw_boot 4 (some .int) [(0, 9, 12, 13), (0, 9, 15, 23)] :: TB) B.pre
  have hT : ∀ w ∈ TB, w.before _ s = true := fun w h => hts w (List.mem_cons_of_mem _ h)
  have hown : s.vm.findClass "MeasuredStagesLaw" = some m.cls := findClass_of_methodNamed B.named
  have hlocks := B.notSynchronized
  subst hsz
  have hD := hD.self (sz := s.heap.size)
  generalize hAe : va_A (yw ad cs u j) s.heap.size = A at hD ⊢
  have hA : ∀ q : Nat, s.heap.size ≤ q → A q := fun q h => by rw [← hAe]; exact Or.inr h
  have hS : va_S A s.heap s.heap [] := va_S.rf
  have hl := lv_entry ([.ref (ad 0), .int n, .ref (ad 15)]) (n := 4) (Nat.le_of_ble_eq_true rfl)
  rw [lg_entry_eq]
  generalize (lg_sl ([.ref (ad 0), .int n, .ref (ad 15)]) ++ List.replicate (4 - (lg_sl ([.ref (ad 0), .int n, .ref (ad 15)])).length) Slot.unset).toArray = ls at hl ⊢
  have hl : lv_has ls 4 [(0, .ref (ad 0)), (1, .int n), (2, .ref (ad 15))] := hl
  refine lv_aload_n hx hb d_lw_boot_0 rfl (lv_at hl 2 rfl) ?_
  refine lv_iconst (v := 0) hx hb d_lw_boot_1 (by decide) ?_
  refine lv_aload_n hx hb d_lw_boot_2 rfl (lv_at hl 0 rfl) ?_
  refine lv_iload_n hx hb d_lw_boot_3 rfl (lv_at hl 1 rfl) ?_
  refine yx_wri (v := sg_la (sp_bo u n)) (u' := sp_bo u n) (As := [.int n]) (rest := [.int (0), .ref (ad 15)]) ⟨hx, hb, hml, hown, hts⟩ (k_ms_boot l D cs ad _ u (jyx j) n hok hn hf) tb_240 tb_241 tb_242 tb_1 tb_243 ⟨rfl, hd_ms_boot⟩ ⟨Nat.le_of_ble_eq_true rfl, Nat.le_of_ble_eq_true rfl⟩ rfl rfl hK hP hD hN 0 0 rfl rfl hl.1 rfl (Nat.le_of_ble_eq_true rfl) d_lw_boot_4 ⟨Nat.le_of_ble_eq_true rfl, Nat.le_of_ble_eq_true rfl⟩ hS hA (fun j1 H locs hp hP hD hS => ?_)
  obtain ⟨v9, ev9⟩ : ∃ z : Sg, z = sp_bo u n := ⟨_, rfl⟩
  rw [← ev9] at hP hD
  obtain ⟨q9, eq9⟩ : ∃ z : Jy, z = jxy j1 (jy_ou j) := ⟨_, rfl⟩
  rw [← eq9] at hP hD
  refine lv_i2l hx hb d_lw_boot_7 rfl ?_
  refine va_last hx hb hK hP hD hS 0 0 rfl rfl (by unfold vp_in; decide) d_lw_boot_8 (fun H locs hP hD hS => ?_)
  have hP : va_P D cx (yv ad cs (sg_im v9) (sg_ap v9) (sg_ag v9) (sg_he v9) (sg_er v9) (sg_ev v9) (sg_en v9) (sg_ma v9) (sg_po v9) (sg_se v9) (sg_ac v9) (sg_fa v9) (sg_la v9) (sg_st v9) (jy_ru q9) (jy_nd q9) (jy_de q9) (jy_rp q9) (vp_updL (jy_ou q9) (0 : Int32).toNatClampNeg ((sg_la (sp_bo u n)).toInt64))) H := hP
  have hD : va_D A (yv ad cs (sg_im v9) (sg_ap v9) (sg_ag v9) (sg_he v9) (sg_er v9) (sg_ev v9) (sg_en v9) (sg_ma v9) (sg_po v9) (sg_se v9) (sg_ac v9) (sg_fa v9) (sg_la v9) (sg_st v9) (jy_ru q9) (jy_nd q9) (jy_de q9) (jy_rp q9) (vp_updL (jy_ou q9) (0 : Int32).toNatClampNeg ((sg_la (sp_bo u n)).toInt64))) := hD
  refine lv_goto hx hb d_lw_boot_9 (tgt := 18) (by decide) ?_
  refine lv_iconst (v := 0) hx hb d_lw_boot_18 (by decide) ?_
  obtain ⟨q1, eq1⟩ : ∃ z : Jy, z = (jy_ru q9, jy_nd q9, jy_de q9, jy_rp q9, vp_updL (jy_ou q9) (0 : Int32).toNatClampNeg ((sg_la (sp_bo u n)).toInt64)) := ⟨_, rfl⟩
  have hP : va_P D cx (yw ad cs v9 q1) H := by rw [eq1, yw_j]; exact hP
  have hD : va_D A (yw ad cs v9 q1) := by rw [eq1, yw_j]; exact hD
  subst ev9
  exact W.iret hx hb hret (fun t ht hW => ⟨⟨_, q1, rfl, ⟨rfl, (by subst eq1; subst eq9; exact ou_0 (jy_ou j) _)⟩, by rw [ht]; exact hP, va_K.moved hW.alike hK, hD⟩, hS.F ht⟩) hS.2.2 d_lw_boot_19
set_option maxHeartbeats 4000000 in
set_option maxRecDepth 100000 in
theorem f_lw_boot (l : Launch) (hl0 : l.stackTraces = false) (D : va_G) (cs : Nat → ClassId) (ad : Nat → Nat) (sz : Nat) (u : Sg) (j : Jy) (n : Int32) (hn : ¬ vp_in n 8) : Met l y_lw_boot (Cond.codeWith y_lw_boot b_lw_boot 4 (some .int) [(0, 9, 12, 13), (0, 9, 15, 23)] :: TB) { frames := 9, cells := 1, slots := 6, locals := 300 } (va_Pc [.ref (ad 0), .int n, .ref (ad 15)] (yw_Pre D cs ad u j sz)) (va_Qi (fun (r : Int32) (j1 : Jy) => r = 1 ∧ True) (fun (j1 : Jy) t => yw_B D cs ad (va_A (yw ad cs u j) sz) (u) j1 t) (va_A (yw ad cs u j) sz)) 1 6 (va_A (yw ad cs u j) sz) := by
  refine tk_ofWith (cc := b_lw_boot) (maxL := 4) (ret := (some .int)) (by decide) rfl ?_
  intro p e s m args below meth c s₁ B hml htab hv
  obtain ⟨rfl, hsz, hP, hK, hD, hN, hZ, hC⟩ := hv
  have hx := B.exec
  have hb := B.bytes
  have hret := B.returns
  have hts := atoms_spec (ws := Cond.codeWith y_lw_boot b_lw_boot 4 (some .int) [(0, 9, 12, 13), (0, 9, 15, 23)] :: TB) B.pre
  have hT : ∀ w ∈ TB, w.before _ s = true := fun w h => hts w (List.mem_cons_of_mem _ h)
  have hown : s.vm.findClass "MeasuredStagesLaw" = some m.cls := findClass_of_methodNamed B.named
  have hlocks := B.notSynchronized
  subst hsz
  have hD := hD.self (sz := s.heap.size)
  generalize hAe : va_A (yw ad cs u j) s.heap.size = A at hD ⊢
  have hA : ∀ q : Nat, s.heap.size ≤ q → A q := fun q h => by rw [← hAe]; exact Or.inr h
  have hS : va_S A s.heap s.heap [] := va_S.rf
  have hl := lv_entry ([.ref (ad 0), .int n, .ref (ad 15)]) (n := 4) (Nat.le_of_ble_eq_true rfl)
  rw [lg_entry_eq]
  generalize (lg_sl ([.ref (ad 0), .int n, .ref (ad 15)]) ++ List.replicate (4 - (lg_sl ([.ref (ad 0), .int n, .ref (ad 15)])).length) Slot.unset).toArray = ls at hl ⊢
  have hl : lv_has ls 4 [(0, .ref (ad 0)), (1, .int n), (2, .ref (ad 15))] := hl
  refine lv_aload_n hx hb d_lw_boot_0 rfl (lv_at hl 2 rfl) ?_
  refine lv_iconst (v := 0) hx hb d_lw_boot_1 (by decide) ?_
  refine lv_aload_n hx hb d_lw_boot_2 rfl (lv_at hl 0 rfl) ?_
  refine lv_iload_n hx hb d_lw_boot_3 rfl (lv_at hl 1 rfl) ?_
  obtain ⟨x1, t1, ex1, a1, b1, c1, d1, ht1⟩ := tk_tab htab
  have a1 : x1.startPc = 0 := a1
  have b1 : x1.endPc = 9 := b1
  have c1 : x1.handlerPc = 12 := c1
  have d1 : x1.catchType = 13 := d1
  refine yx_tr (u' := u) (As := [.int n]) (rest := [.int (0), .ref (ad 15)]) ⟨hx, hb, hml, hown, hts⟩ (f_ms_boot l hl0 D cs ad _ u (jyx j) n hn) tb_240 tb_241 tb_242 tb_1 tb_243 ⟨rfl, hd_ms_boot⟩ ⟨Nat.le_of_ble_eq_true rfl, Nat.le_of_ble_eq_true rfl⟩ rfl rfl hK hP hD hN 0 0 rfl rfl hl.1 rfl (Nat.le_of_ble_eq_true rfl) d_lw_boot_4 ⟨Nat.le_of_ble_eq_true rfl, Nat.le_of_ble_eq_true rfl⟩ hS hA hZ [] x1 t1 ex1 (fun z hz => absurd hz List.not_mem_nil) (by unfold covers; rw [a1, b1]; rfl) (by rw [d1]; decide) (by rw [d1]; exact hT _ tb_146) (fun x9 j1 H locs hP hD hS => ?_)
  rw [c1]
  obtain ⟨q9, eq9⟩ : ∃ z : Jy, z = jxy j1 (jy_ou j) := ⟨_, rfl⟩
  rw [← eq9] at hP hD
  refine lv_astore_n (nL := 4) (lv' := [(3, .ref x9), (0, .ref (ad 0)), (1, .int n), (2, .ref (ad 15))]) hx hb d_lw_boot_12 rfl hl (by decide) rfl (fun ls hl => ?_)
  refine lv_iconst (v := 1) hx hb d_lw_boot_13 (by decide) ?_
  exact W.iret hx hb hret (fun t ht hW => ⟨⟨_, q9, rfl, ⟨rfl, (by subst eq9; trivial)⟩, by rw [ht]; exact hP, va_K.moved hW.alike hK, hD⟩, hS.F ht⟩) hS.2.2 d_lw_boot_14
set_option maxHeartbeats 4000000 in
set_option maxRecDepth 100000 in
theorem g_lw_boot (l : Launch) (hl0 : l.stackTraces = false) (D : va_G) (cs : Nat → ClassId) (ad : Nat → Nat) (sz : Nat) (u : Sg) (j : Jy) (n : Int32) (hok : sp_ok u) (hn : vp_in n 8) (hf : ¬ sg_fa (sp_bo u n) = 0) : Met l y_lw_boot (Cond.codeWith y_lw_boot b_lw_boot 4 (some .int) [(0, 9, 12, 13), (0, 9, 15, 23)] :: TB) { frames := 9, cells := 1, slots := 6, locals := 300 } (va_Pc [.ref (ad 0), .int n, .ref (ad 15)] (yw_Pre D cs ad u j sz)) (va_Qi (fun (r : Int32) (j1 : Jy) => r = 2 ∧ True) (fun (j1 : Jy) t => yw_B D cs ad (va_A (yw ad cs u j) sz) (sp_bo u n) j1 t) (va_A (yw ad cs u j) sz)) 1 6 (va_A (yw ad cs u j) sz) := by
  refine tk_ofWith (cc := b_lw_boot) (maxL := 4) (ret := (some .int)) (by decide) rfl ?_
  intro p e s m args below meth c s₁ B hml htab hv
  obtain ⟨rfl, hsz, hP, hK, hD, hN, hZ, hC⟩ := hv
  have hx := B.exec
  have hb := B.bytes
  have hret := B.returns
  have hts := atoms_spec (ws := Cond.codeWith y_lw_boot b_lw_boot 4 (some .int) [(0, 9, 12, 13), (0, 9, 15, 23)] :: TB) B.pre
  have hT : ∀ w ∈ TB, w.before _ s = true := fun w h => hts w (List.mem_cons_of_mem _ h)
  have hown : s.vm.findClass "MeasuredStagesLaw" = some m.cls := findClass_of_methodNamed B.named
  have hlocks := B.notSynchronized
  subst hsz
  have hD := hD.self (sz := s.heap.size)
  generalize hAe : va_A (yw ad cs u j) s.heap.size = A at hD ⊢
  have hA : ∀ q : Nat, s.heap.size ≤ q → A q := fun q h => by rw [← hAe]; exact Or.inr h
  have hS : va_S A s.heap s.heap [] := va_S.rf
  have hl := lv_entry ([.ref (ad 0), .int n, .ref (ad 15)]) (n := 4) (Nat.le_of_ble_eq_true rfl)
  rw [lg_entry_eq]
  generalize (lg_sl ([.ref (ad 0), .int n, .ref (ad 15)]) ++ List.replicate (4 - (lg_sl ([.ref (ad 0), .int n, .ref (ad 15)])).length) Slot.unset).toArray = ls at hl ⊢
  have hl : lv_has ls 4 [(0, .ref (ad 0)), (1, .int n), (2, .ref (ad 15))] := hl
  refine lv_aload_n hx hb d_lw_boot_0 rfl (lv_at hl 2 rfl) ?_
  refine lv_iconst (v := 0) hx hb d_lw_boot_1 (by decide) ?_
  refine lv_aload_n hx hb d_lw_boot_2 rfl (lv_at hl 0 rfl) ?_
  refine lv_iload_n hx hb d_lw_boot_3 rfl (lv_at hl 1 rfl) ?_
  obtain ⟨x1, t1, ex1, a1, b1, c1, d1, ht1⟩ := tk_tab htab
  have a1 : x1.startPc = 0 := a1
  have b1 : x1.endPc = 9 := b1
  have c1 : x1.handlerPc = 12 := c1
  have d1 : x1.catchType = 13 := d1
  obtain ⟨x2, t2, ex2, a2, b2, c2, d2, ht2⟩ := tk_tab ht1
  have a2 : x2.startPc = 0 := a2
  have b2 : x2.endPc = 9 := b2
  have c2 : x2.handlerPc = 15 := c2
  have d2 : x2.catchType = 23 := d2
  refine yx_tr (u' := sp_bo u n) (As := [.int n]) (rest := [.int (0), .ref (ad 15)]) ⟨hx, hb, hml, hown, hts⟩ (g_ms_boot l hl0 D cs ad _ u (jyx j) n hok hn hf) tb_240 tb_241 tb_242 tb_1 tb_243 ⟨rfl, hd_ms_boot⟩ ⟨Nat.le_of_ble_eq_true rfl, Nat.le_of_ble_eq_true rfl⟩ rfl rfl hK hP hD hN 0 0 rfl rfl hl.1 rfl (Nat.le_of_ble_eq_true rfl) d_lw_boot_4 ⟨Nat.le_of_ble_eq_true rfl, Nat.le_of_ble_eq_true rfl⟩ hS hA hZ [x1] x2 t2 (by rw [ex1, ex2]; rfl) (fun z hz => by rw [List.mem_singleton.mp hz]; exact Or.inr ⟨by rw [d1]; decide, "java/lang/IllegalArgumentException", by rw [d1]; exact hT _ tb_146, hC.1⟩) (by unfold covers; rw [a2, b2]; rfl) (by rw [d2]; decide) (by rw [d2]; exact hT _ tb_239) (fun x9 j1 H locs hP hD hS => ?_)
  rw [c2]
  obtain ⟨v9, ev9⟩ : ∃ z : Sg, z = sp_bo u n := ⟨_, rfl⟩
  rw [← ev9] at hP hD
  obtain ⟨q9, eq9⟩ : ∃ z : Jy, z = jxy j1 (jy_ou j) := ⟨_, rfl⟩
  rw [← eq9] at hP hD
  refine lv_astore_n (nL := 4) (lv' := [(3, .ref x9), (0, .ref (ad 0)), (1, .int n), (2, .ref (ad 15))]) hx hb d_lw_boot_15 rfl hl (by decide) rfl (fun ls hl => ?_)
  refine lv_iconst (v := 2) hx hb d_lw_boot_16 (by decide) ?_
  subst ev9
  exact W.iret hx hb hret (fun t ht hW => ⟨⟨_, q9, rfl, ⟨rfl, (by subst eq9; trivial)⟩, by rw [ht]; exact hP, va_K.moved hW.alike hK, hD⟩, hS.F ht⟩) hS.2.2 d_lw_boot_17
set_option maxHeartbeats 4000000 in
set_option maxRecDepth 100000 in
theorem k_lw_register (l : Launch) (D : va_G) (cs : Nat → ClassId) (ad : Nat → Nat) (sz : Nat) (u : Sg) (j : Jy) (n : Int32) (hr : vp_in n 6) : Met l y_lw_register (Cond.codeWith y_lw_register b_lw_register 4 (some .int) [(0, 8, 11, 29)] :: TB) { frames := 9, cells := 0, slots := 0, locals := 300 } (va_Pc [.ref (ad 0), .int n, .ref (ad 15)] (yw_Pre D cs ad u j sz)) (va_Qi (fun (r : Int32) (j1 : Jy) => r = 0 ∧ jy_ou j1 0 = sg_he u n.toNatClampNeg) (fun (j1 : Jy) t => yw_B D cs ad (va_A (yw ad cs u j) sz) (u) j1 t) (va_A (yw ad cs u j) sz)) 0 0 (va_A (yw ad cs u j) sz) := by
  refine tk_ofWith (cc := b_lw_register) (maxL := 4) (ret := (some .int)) (by decide) rfl ?_
  intro p e s m args below meth c s₁ B hml htab hv
  obtain ⟨rfl, hsz, hP, hK, hD, hN, hZ, hC⟩ := hv
  have hx := B.exec
  have hb := B.bytes
  have hret := B.returns
  have hts := atoms_spec (ws := Cond.codeWith y_lw_register b_lw_register 4 (some .int) [(0, 8, 11, 29)] :: TB) B.pre
  have hT : ∀ w ∈ TB, w.before _ s = true := fun w h => hts w (List.mem_cons_of_mem _ h)
  have hown : s.vm.findClass "MeasuredStagesLaw" = some m.cls := findClass_of_methodNamed B.named
  have hlocks := B.notSynchronized
  subst hsz
  have hD := hD.self (sz := s.heap.size)
  generalize hAe : va_A (yw ad cs u j) s.heap.size = A at hD ⊢
  have hA : ∀ q : Nat, s.heap.size ≤ q → A q := fun q h => by rw [← hAe]; exact Or.inr h
  have hS : va_S A s.heap s.heap [] := va_S.rf
  have hl := lv_entry ([.ref (ad 0), .int n, .ref (ad 15)]) (n := 4) (Nat.le_of_ble_eq_true rfl)
  rw [lg_entry_eq]
  generalize (lg_sl ([.ref (ad 0), .int n, .ref (ad 15)]) ++ List.replicate (4 - (lg_sl ([.ref (ad 0), .int n, .ref (ad 15)])).length) Slot.unset).toArray = ls at hl ⊢
  have hl : lv_has ls 4 [(0, .ref (ad 0)), (1, .int n), (2, .ref (ad 15))] := hl
  refine lv_aload_n hx hb d_lw_register_0 rfl (lv_at hl 2 rfl) ?_
  refine lv_iconst (v := 0) hx hb d_lw_register_1 (by decide) ?_
  refine lv_aload_n hx hb d_lw_register_2 rfl (lv_at hl 0 rfl) ?_
  refine lv_iload_n hx hb d_lw_register_3 rfl (lv_at hl 1 rfl) ?_
  refine yx_rdl (v := sg_he u n.toNatClampNeg) (As := [.int n]) (rest := [.int (0), .ref (ad 15)]) ⟨hx, hb, hml, hown, hts⟩ (k_ms_register l D cs ad _ u (jyx j) n hr) tb_341 tb_342 tb_343 tb_1 tb_344 ⟨rfl, hd_ms_register⟩ ⟨Nat.le_of_ble_eq_true rfl, Nat.le_of_ble_eq_true rfl⟩ rfl rfl hK hP hD hN 0 0 rfl rfl hl.1 rfl (Nat.le_of_ble_eq_true rfl) d_lw_register_4 ⟨Nat.le_of_ble_eq_true rfl, Nat.le_of_ble_eq_true rfl⟩ hS hA ?_
  refine va_last hx hb hK hP hD hS 0 0 rfl rfl (by unfold vp_in; decide) d_lw_register_7 (fun H locs hP hD hS => ?_)
  have hP : va_P D cx (yv ad cs (sg_im u) (sg_ap u) (sg_ag u) (sg_he u) (sg_er u) (sg_ev u) (sg_en u) (sg_ma u) (sg_po u) (sg_se u) (sg_ac u) (sg_fa u) (sg_la u) (sg_st u) (jy_ru j) (jy_nd j) (jy_de j) (jy_rp j) (vp_updL (jy_ou j) (0 : Int32).toNatClampNeg (sg_he u n.toNatClampNeg))) H := hP
  have hD : va_D A (yv ad cs (sg_im u) (sg_ap u) (sg_ag u) (sg_he u) (sg_er u) (sg_ev u) (sg_en u) (sg_ma u) (sg_po u) (sg_se u) (sg_ac u) (sg_fa u) (sg_la u) (sg_st u) (jy_ru j) (jy_nd j) (jy_de j) (jy_rp j) (vp_updL (jy_ou j) (0 : Int32).toNatClampNeg (sg_he u n.toNatClampNeg))) := hD
  refine lv_goto hx hb d_lw_register_8 (tgt := 14) (by decide) ?_
  refine lv_iconst (v := 0) hx hb d_lw_register_14 (by decide) ?_
  obtain ⟨q1, eq1⟩ : ∃ z : Jy, z = (jy_ru j, jy_nd j, jy_de j, jy_rp j, vp_updL (jy_ou j) (0 : Int32).toNatClampNeg (sg_he u n.toNatClampNeg)) := ⟨_, rfl⟩
  have hP : va_P D cx (yw ad cs u q1) H := by rw [eq1, yw_j]; exact hP
  have hD : va_D A (yw ad cs u q1) := by rw [eq1, yw_j]; exact hD
  exact W.iret hx hb hret (fun t ht hW => ⟨⟨_, q1, rfl, ⟨rfl, (by subst eq1; exact ou_0 (jy_ou j) _)⟩, by rw [ht]; exact hP, va_K.moved hW.alike hK, hD⟩, hS.F ht⟩) hS.2.2 d_lw_register_15
set_option maxHeartbeats 4000000 in
set_option maxRecDepth 100000 in
theorem f_lw_register (l : Launch) (hl0 : l.stackTraces = false) (D : va_G) (cs : Nat → ClassId) (ad : Nat → Nat) (sz : Nat) (u : Sg) (j : Jy) (n : Int32) (hr : ¬ vp_in n 6) : Met l y_lw_register (Cond.codeWith y_lw_register b_lw_register 4 (some .int) [(0, 8, 11, 29)] :: TB) { frames := 9, cells := 1, slots := 6, locals := 300 } (va_Pc [.ref (ad 0), .int n, .ref (ad 15)] (yw_Pre D cs ad u j sz)) (va_Qi (fun (r : Int32) (j1 : Jy) => r = 1 ∧ True) (fun (j1 : Jy) t => yw_B D cs ad (va_A (yw ad cs u j) sz) (u) j1 t) (va_A (yw ad cs u j) sz)) 1 6 (va_A (yw ad cs u j) sz) := by
  refine tk_ofWith (cc := b_lw_register) (maxL := 4) (ret := (some .int)) (by decide) rfl ?_
  intro p e s m args below meth c s₁ B hml htab hv
  obtain ⟨rfl, hsz, hP, hK, hD, hN, hZ, hC⟩ := hv
  have hx := B.exec
  have hb := B.bytes
  have hret := B.returns
  have hts := atoms_spec (ws := Cond.codeWith y_lw_register b_lw_register 4 (some .int) [(0, 8, 11, 29)] :: TB) B.pre
  have hT : ∀ w ∈ TB, w.before _ s = true := fun w h => hts w (List.mem_cons_of_mem _ h)
  have hown : s.vm.findClass "MeasuredStagesLaw" = some m.cls := findClass_of_methodNamed B.named
  have hlocks := B.notSynchronized
  subst hsz
  have hD := hD.self (sz := s.heap.size)
  generalize hAe : va_A (yw ad cs u j) s.heap.size = A at hD ⊢
  have hA : ∀ q : Nat, s.heap.size ≤ q → A q := fun q h => by rw [← hAe]; exact Or.inr h
  have hS : va_S A s.heap s.heap [] := va_S.rf
  have hl := lv_entry ([.ref (ad 0), .int n, .ref (ad 15)]) (n := 4) (Nat.le_of_ble_eq_true rfl)
  rw [lg_entry_eq]
  generalize (lg_sl ([.ref (ad 0), .int n, .ref (ad 15)]) ++ List.replicate (4 - (lg_sl ([.ref (ad 0), .int n, .ref (ad 15)])).length) Slot.unset).toArray = ls at hl ⊢
  have hl : lv_has ls 4 [(0, .ref (ad 0)), (1, .int n), (2, .ref (ad 15))] := hl
  refine lv_aload_n hx hb d_lw_register_0 rfl (lv_at hl 2 rfl) ?_
  refine lv_iconst (v := 0) hx hb d_lw_register_1 (by decide) ?_
  refine lv_aload_n hx hb d_lw_register_2 rfl (lv_at hl 0 rfl) ?_
  refine lv_iload_n hx hb d_lw_register_3 rfl (lv_at hl 1 rfl) ?_
  obtain ⟨x1, t1, ex1, a1, b1, c1, d1, ht1⟩ := tk_tab htab
  have a1 : x1.startPc = 0 := a1
  have b1 : x1.endPc = 8 := b1
  have c1 : x1.handlerPc = 11 := c1
  have d1 : x1.catchType = 29 := d1
  refine yx_tr (u' := u) (As := [.int n]) (rest := [.int (0), .ref (ad 15)]) ⟨hx, hb, hml, hown, hts⟩ (f_ms_register l hl0 D cs ad _ u (jyx j) n hr) tb_341 tb_342 tb_343 tb_1 tb_344 ⟨rfl, hd_ms_register⟩ ⟨Nat.le_of_ble_eq_true rfl, Nat.le_of_ble_eq_true rfl⟩ rfl rfl hK hP hD hN 0 0 rfl rfl hl.1 rfl (Nat.le_of_ble_eq_true rfl) d_lw_register_4 ⟨Nat.le_of_ble_eq_true rfl, Nat.le_of_ble_eq_true rfl⟩ hS hA hZ [] x1 t1 ex1 (fun z hz => absurd hz List.not_mem_nil) (by unfold covers; rw [a1, b1]; rfl) (by rw [d1]; decide) (by rw [d1]; exact hT _ tb_340) (fun x9 j1 H locs hP hD hS => ?_)
  rw [c1]
  obtain ⟨q9, eq9⟩ : ∃ z : Jy, z = jxy j1 (jy_ou j) := ⟨_, rfl⟩
  rw [← eq9] at hP hD
  refine lv_astore_n (nL := 4) (lv' := [(3, .ref x9), (0, .ref (ad 0)), (1, .int n), (2, .ref (ad 15))]) hx hb d_lw_register_11 rfl hl (by decide) rfl (fun ls hl => ?_)
  refine lv_iconst (v := 1) hx hb d_lw_register_12 (by decide) ?_
  exact W.iret hx hb hret (fun t ht hW => ⟨⟨_, q9, rfl, ⟨rfl, (by subst eq9; trivial)⟩, by rw [ht]; exact hP, va_K.moved hW.alike hK, hD⟩, hS.F ht⟩) hS.2.2 d_lw_register_13
set_option maxHeartbeats 4000000 in
set_option maxRecDepth 100000 in
theorem k_lw_extend (l : Launch) (D : va_G) (cs : Nat → ClassId) (ad : Nat → Nat) (sz : Nat) (u : Sg) (j : Jy) (r : Int32) (v : Int64) (hr : vp_in r 6) (he : vp_in (sg_en u) 32) : Met l y_lw_extend (Cond.codeWith y_lw_extend b_lw_extend 5 (some .int) [(0, 6, 9, 29), (0, 6, 13, 23)] :: TB) { frames := 9, cells := 0, slots := 0, locals := 300 } (va_Pc [.ref (ad 0), .int r, .long v] (yw_Pre D cs ad u j sz)) (va_Qi (fun (r : Int32) (j1 : Jy) => r = 0 ∧ True) (fun (j1 : Jy) t => yw_B D cs ad (va_A (yw ad cs u j) sz) (sp_no u r v) j1 t) (va_A (yw ad cs u j) sz)) 0 0 (va_A (yw ad cs u j) sz) := by
  refine tk_ofWith (cc := b_lw_extend) (maxL := 5) (ret := (some .int)) (by decide) rfl ?_
  intro p e s m args below meth c s₁ B hml htab hv
  obtain ⟨rfl, hsz, hP, hK, hD, hN, hZ, hC⟩ := hv
  have hx := B.exec
  have hb := B.bytes
  have hret := B.returns
  have hts := atoms_spec (ws := Cond.codeWith y_lw_extend b_lw_extend 5 (some .int) [(0, 6, 9, 29), (0, 6, 13, 23)] :: TB) B.pre
  have hT : ∀ w ∈ TB, w.before _ s = true := fun w h => hts w (List.mem_cons_of_mem _ h)
  have hown : s.vm.findClass "MeasuredStagesLaw" = some m.cls := findClass_of_methodNamed B.named
  have hlocks := B.notSynchronized
  subst hsz
  have hD := hD.self (sz := s.heap.size)
  generalize hAe : va_A (yw ad cs u j) s.heap.size = A at hD ⊢
  have hA : ∀ q : Nat, s.heap.size ≤ q → A q := fun q h => by rw [← hAe]; exact Or.inr h
  have hS : va_S A s.heap s.heap [] := va_S.rf
  have hl := lv_entry ([.ref (ad 0), .int r, .long v]) (n := 5) (Nat.le_of_ble_eq_true rfl)
  rw [lg_entry_eq]
  generalize (lg_sl ([.ref (ad 0), .int r, .long v]) ++ List.replicate (5 - (lg_sl ([.ref (ad 0), .int r, .long v])).length) Slot.unset).toArray = ls at hl ⊢
  have hl : lv_has ls 5 [(0, .ref (ad 0)), (1, .int r), (2, .long v)] := hl
  refine lv_aload_n hx hb d_lw_extend_0 rfl (lv_at hl 0 rfl) ?_
  refine lv_iload_n hx hb d_lw_extend_1 rfl (lv_at hl 1 rfl) ?_
  refine lv_lload_n hx hb d_lw_extend_2 rfl (lv_at hl 2 rfl) ?_
  refine yx_wrv (u' := sp_no u r v) (As := [.int r, .long v]) (rest := []) ⟨hx, hb, hml, hown, hts⟩ (k_ms_extend l D cs ad _ u (jyx j) r v hr he) tb_367 tb_368 tb_369 tb_1 tb_370 ⟨rfl, hd_ms_extend⟩ ⟨Nat.le_of_ble_eq_true rfl, Nat.le_of_ble_eq_true rfl⟩ rfl rfl hK hP hD hN 0 0 rfl rfl hl.1 rfl (Nat.le_of_ble_eq_true rfl) d_lw_extend_3 ⟨Nat.le_of_ble_eq_true rfl, Nat.le_of_ble_eq_true rfl⟩ hS hA (fun j1 H locs hp hP hD hS => ?_)
  obtain ⟨v9, ev9⟩ : ∃ z : Sg, z = sp_no u r v := ⟨_, rfl⟩
  rw [← ev9] at hP hD
  obtain ⟨q9, eq9⟩ : ∃ z : Jy, z = jxy j1 (jy_ou j) := ⟨_, rfl⟩
  rw [← eq9] at hP hD
  refine lv_goto hx hb d_lw_extend_6 (tgt := 17) (by decide) ?_
  refine lv_iconst (v := 0) hx hb d_lw_extend_17 (by decide) ?_
  subst ev9
  exact W.iret hx hb hret (fun t ht hW => ⟨⟨_, q9, rfl, ⟨rfl, (by subst eq9; trivial)⟩, by rw [ht]; exact hP, va_K.moved hW.alike hK, hD⟩, hS.F ht⟩) hS.2.2 d_lw_extend_18
set_option maxHeartbeats 4000000 in
set_option maxRecDepth 100000 in
theorem f_lw_extend (l : Launch) (hl0 : l.stackTraces = false) (D : va_G) (cs : Nat → ClassId) (ad : Nat → Nat) (sz : Nat) (u : Sg) (j : Jy) (r : Int32) (v : Int64) (hr : ¬ vp_in r 6) : Met l y_lw_extend (Cond.codeWith y_lw_extend b_lw_extend 5 (some .int) [(0, 6, 9, 29), (0, 6, 13, 23)] :: TB) { frames := 9, cells := 1, slots := 6, locals := 300 } (va_Pc [.ref (ad 0), .int r, .long v] (yw_Pre D cs ad u j sz)) (va_Qi (fun (r : Int32) (j1 : Jy) => r = 1 ∧ True) (fun (j1 : Jy) t => yw_B D cs ad (va_A (yw ad cs u j) sz) (u) j1 t) (va_A (yw ad cs u j) sz)) 1 6 (va_A (yw ad cs u j) sz) := by
  refine tk_ofWith (cc := b_lw_extend) (maxL := 5) (ret := (some .int)) (by decide) rfl ?_
  intro p e s m args below meth c s₁ B hml htab hv
  obtain ⟨rfl, hsz, hP, hK, hD, hN, hZ, hC⟩ := hv
  have hx := B.exec
  have hb := B.bytes
  have hret := B.returns
  have hts := atoms_spec (ws := Cond.codeWith y_lw_extend b_lw_extend 5 (some .int) [(0, 6, 9, 29), (0, 6, 13, 23)] :: TB) B.pre
  have hT : ∀ w ∈ TB, w.before _ s = true := fun w h => hts w (List.mem_cons_of_mem _ h)
  have hown : s.vm.findClass "MeasuredStagesLaw" = some m.cls := findClass_of_methodNamed B.named
  have hlocks := B.notSynchronized
  subst hsz
  have hD := hD.self (sz := s.heap.size)
  generalize hAe : va_A (yw ad cs u j) s.heap.size = A at hD ⊢
  have hA : ∀ q : Nat, s.heap.size ≤ q → A q := fun q h => by rw [← hAe]; exact Or.inr h
  have hS : va_S A s.heap s.heap [] := va_S.rf
  have hl := lv_entry ([.ref (ad 0), .int r, .long v]) (n := 5) (Nat.le_of_ble_eq_true rfl)
  rw [lg_entry_eq]
  generalize (lg_sl ([.ref (ad 0), .int r, .long v]) ++ List.replicate (5 - (lg_sl ([.ref (ad 0), .int r, .long v])).length) Slot.unset).toArray = ls at hl ⊢
  have hl : lv_has ls 5 [(0, .ref (ad 0)), (1, .int r), (2, .long v)] := hl
  refine lv_aload_n hx hb d_lw_extend_0 rfl (lv_at hl 0 rfl) ?_
  refine lv_iload_n hx hb d_lw_extend_1 rfl (lv_at hl 1 rfl) ?_
  refine lv_lload_n hx hb d_lw_extend_2 rfl (lv_at hl 2 rfl) ?_
  obtain ⟨x1, t1, ex1, a1, b1, c1, d1, ht1⟩ := tk_tab htab
  have a1 : x1.startPc = 0 := a1
  have b1 : x1.endPc = 6 := b1
  have c1 : x1.handlerPc = 9 := c1
  have d1 : x1.catchType = 29 := d1
  refine yx_tr (u' := u) (As := [.int r, .long v]) (rest := []) ⟨hx, hb, hml, hown, hts⟩ (f_ms_extend l hl0 D cs ad _ u (jyx j) r v hr) tb_367 tb_368 tb_369 tb_1 tb_370 ⟨rfl, hd_ms_extend⟩ ⟨Nat.le_of_ble_eq_true rfl, Nat.le_of_ble_eq_true rfl⟩ rfl rfl hK hP hD hN 0 0 rfl rfl hl.1 rfl (Nat.le_of_ble_eq_true rfl) d_lw_extend_3 ⟨Nat.le_of_ble_eq_true rfl, Nat.le_of_ble_eq_true rfl⟩ hS hA hZ [] x1 t1 ex1 (fun z hz => absurd hz List.not_mem_nil) (by unfold covers; rw [a1, b1]; rfl) (by rw [d1]; decide) (by rw [d1]; exact hT _ tb_340) (fun x9 j1 H locs hP hD hS => ?_)
  rw [c1]
  obtain ⟨q9, eq9⟩ : ∃ z : Jy, z = jxy j1 (jy_ou j) := ⟨_, rfl⟩
  rw [← eq9] at hP hD
  refine lv_astore (nL := 5) (lv' := [(4, .ref x9), (0, .ref (ad 0)), (1, .int r), (2, .long v)]) hx hb d_lw_extend_9 hl (by decide) rfl (fun ls hl => ?_)
  refine lv_iconst (v := 1) hx hb d_lw_extend_11 (by decide) ?_
  exact W.iret hx hb hret (fun t ht hW => ⟨⟨_, q9, rfl, ⟨rfl, (by subst eq9; trivial)⟩, by rw [ht]; exact hP, va_K.moved hW.alike hK, hD⟩, hS.F ht⟩) hS.2.2 d_lw_extend_12
set_option maxHeartbeats 4000000 in
set_option maxRecDepth 100000 in
theorem g_lw_extend (l : Launch) (hl0 : l.stackTraces = false) (D : va_G) (cs : Nat → ClassId) (ad : Nat → Nat) (sz : Nat) (u : Sg) (j : Jy) (r : Int32) (v : Int64) (hr : vp_in r 6) (he : sg_en u = 32) : Met l y_lw_extend (Cond.codeWith y_lw_extend b_lw_extend 5 (some .int) [(0, 6, 9, 29), (0, 6, 13, 23)] :: TB) { frames := 9, cells := 1, slots := 6, locals := 300 } (va_Pc [.ref (ad 0), .int r, .long v] (yw_Pre D cs ad u j sz)) (va_Qi (fun (r : Int32) (j1 : Jy) => r = 2 ∧ True) (fun (j1 : Jy) t => yw_B D cs ad (va_A (yw ad cs u j) sz) (u) j1 t) (va_A (yw ad cs u j) sz)) 1 6 (va_A (yw ad cs u j) sz) := by
  refine tk_ofWith (cc := b_lw_extend) (maxL := 5) (ret := (some .int)) (by decide) rfl ?_
  intro p e s m args below meth c s₁ B hml htab hv
  obtain ⟨rfl, hsz, hP, hK, hD, hN, hZ, hC⟩ := hv
  have hx := B.exec
  have hb := B.bytes
  have hret := B.returns
  have hts := atoms_spec (ws := Cond.codeWith y_lw_extend b_lw_extend 5 (some .int) [(0, 6, 9, 29), (0, 6, 13, 23)] :: TB) B.pre
  have hT : ∀ w ∈ TB, w.before _ s = true := fun w h => hts w (List.mem_cons_of_mem _ h)
  have hown : s.vm.findClass "MeasuredStagesLaw" = some m.cls := findClass_of_methodNamed B.named
  have hlocks := B.notSynchronized
  subst hsz
  have hD := hD.self (sz := s.heap.size)
  generalize hAe : va_A (yw ad cs u j) s.heap.size = A at hD ⊢
  have hA : ∀ q : Nat, s.heap.size ≤ q → A q := fun q h => by rw [← hAe]; exact Or.inr h
  have hS : va_S A s.heap s.heap [] := va_S.rf
  have hl := lv_entry ([.ref (ad 0), .int r, .long v]) (n := 5) (Nat.le_of_ble_eq_true rfl)
  rw [lg_entry_eq]
  generalize (lg_sl ([.ref (ad 0), .int r, .long v]) ++ List.replicate (5 - (lg_sl ([.ref (ad 0), .int r, .long v])).length) Slot.unset).toArray = ls at hl ⊢
  have hl : lv_has ls 5 [(0, .ref (ad 0)), (1, .int r), (2, .long v)] := hl
  refine lv_aload_n hx hb d_lw_extend_0 rfl (lv_at hl 0 rfl) ?_
  refine lv_iload_n hx hb d_lw_extend_1 rfl (lv_at hl 1 rfl) ?_
  refine lv_lload_n hx hb d_lw_extend_2 rfl (lv_at hl 2 rfl) ?_
  obtain ⟨x1, t1, ex1, a1, b1, c1, d1, ht1⟩ := tk_tab htab
  have a1 : x1.startPc = 0 := a1
  have b1 : x1.endPc = 6 := b1
  have c1 : x1.handlerPc = 9 := c1
  have d1 : x1.catchType = 29 := d1
  obtain ⟨x2, t2, ex2, a2, b2, c2, d2, ht2⟩ := tk_tab ht1
  have a2 : x2.startPc = 0 := a2
  have b2 : x2.endPc = 6 := b2
  have c2 : x2.handlerPc = 13 := c2
  have d2 : x2.catchType = 23 := d2
  refine yx_tr (u' := u) (As := [.int r, .long v]) (rest := []) ⟨hx, hb, hml, hown, hts⟩ (g_ms_extend l hl0 D cs ad _ u (jyx j) r v hr he) tb_367 tb_368 tb_369 tb_1 tb_370 ⟨rfl, hd_ms_extend⟩ ⟨Nat.le_of_ble_eq_true rfl, Nat.le_of_ble_eq_true rfl⟩ rfl rfl hK hP hD hN 0 0 rfl rfl hl.1 rfl (Nat.le_of_ble_eq_true rfl) d_lw_extend_3 ⟨Nat.le_of_ble_eq_true rfl, Nat.le_of_ble_eq_true rfl⟩ hS hA hZ [x1] x2 t2 (by rw [ex1, ex2]; rfl) (fun z hz => by rw [List.mem_singleton.mp hz]; exact Or.inr ⟨by rw [d1]; decide, "java/lang/IndexOutOfBoundsException", by rw [d1]; exact hT _ tb_340, hC.2.1⟩) (by unfold covers; rw [a2, b2]; rfl) (by rw [d2]; decide) (by rw [d2]; exact hT _ tb_239) (fun x9 j1 H locs hP hD hS => ?_)
  rw [c2]
  obtain ⟨q9, eq9⟩ : ∃ z : Jy, z = jxy j1 (jy_ou j) := ⟨_, rfl⟩
  rw [← eq9] at hP hD
  refine lv_astore (nL := 5) (lv' := [(4, .ref x9), (0, .ref (ad 0)), (1, .int r), (2, .long v)]) hx hb d_lw_extend_13 hl (by decide) rfl (fun ls hl => ?_)
  refine lv_iconst (v := 2) hx hb d_lw_extend_15 (by decide) ?_
  exact W.iret hx hb hret (fun t ht hW => ⟨⟨_, q9, rfl, ⟨rfl, (by subst eq9; trivial)⟩, by rw [ht]; exact hP, va_K.moved hW.alike hK, hD⟩, hS.F ht⟩) hS.2.2 d_lw_extend_16
set_option maxHeartbeats 4000000 in
set_option maxRecDepth 100000 in
theorem k_lw_eventRegister (l : Launch) (D : va_G) (cs : Nat → ClassId) (ad : Nat → Nat) (sz : Nat) (u : Sg) (j : Jy) (k : Int32) (hok : sp_ok u) (hk : sp_rg k (sg_en u) = 1) : Met l y_lw_eventRegister (Cond.codeWith y_lw_eventRegister b_lw_eventRegister 4 (some .int) [(0, 9, 12, 37)] :: TB) { frames := 9, cells := 0, slots := 0, locals := 300 } (va_Pc [.ref (ad 0), .int k, .ref (ad 15)] (yw_Pre D cs ad u j sz)) (va_Qi (fun (r : Int32) (j1 : Jy) => r = 0 ∧ jy_ou j1 0 = (sg_er u k.toNatClampNeg).toInt64) (fun (j1 : Jy) t => yw_B D cs ad (va_A (yw ad cs u j) sz) (u) j1 t) (va_A (yw ad cs u j) sz)) 0 0 (va_A (yw ad cs u j) sz) := by
  refine tk_ofWith (cc := b_lw_eventRegister) (maxL := 4) (ret := (some .int)) (by decide) rfl ?_
  intro p e s m args below meth c s₁ B hml htab hv
  obtain ⟨rfl, hsz, hP, hK, hD, hN, hZ, hC⟩ := hv
  have hx := B.exec
  have hb := B.bytes
  have hret := B.returns
  have hts := atoms_spec (ws := Cond.codeWith y_lw_eventRegister b_lw_eventRegister 4 (some .int) [(0, 9, 12, 37)] :: TB) B.pre
  have hT : ∀ w ∈ TB, w.before _ s = true := fun w h => hts w (List.mem_cons_of_mem _ h)
  have hown : s.vm.findClass "MeasuredStagesLaw" = some m.cls := findClass_of_methodNamed B.named
  have hlocks := B.notSynchronized
  subst hsz
  have hD := hD.self (sz := s.heap.size)
  generalize hAe : va_A (yw ad cs u j) s.heap.size = A at hD ⊢
  have hA : ∀ q : Nat, s.heap.size ≤ q → A q := fun q h => by rw [← hAe]; exact Or.inr h
  have hS : va_S A s.heap s.heap [] := va_S.rf
  have hl := lv_entry ([.ref (ad 0), .int k, .ref (ad 15)]) (n := 4) (Nat.le_of_ble_eq_true rfl)
  rw [lg_entry_eq]
  generalize (lg_sl ([.ref (ad 0), .int k, .ref (ad 15)]) ++ List.replicate (4 - (lg_sl ([.ref (ad 0), .int k, .ref (ad 15)])).length) Slot.unset).toArray = ls at hl ⊢
  have hl : lv_has ls 4 [(0, .ref (ad 0)), (1, .int k), (2, .ref (ad 15))] := hl
  refine lv_aload_n hx hb d_lw_eventRegister_0 rfl (lv_at hl 2 rfl) ?_
  refine lv_iconst (v := 0) hx hb d_lw_eventRegister_1 (by decide) ?_
  refine lv_aload_n hx hb d_lw_eventRegister_2 rfl (lv_at hl 0 rfl) ?_
  refine lv_iload_n hx hb d_lw_eventRegister_3 rfl (lv_at hl 1 rfl) ?_
  refine yx_rdi (v := sg_er u k.toNatClampNeg) (As := [.int k]) (rest := [.int (0), .ref (ad 15)]) ⟨hx, hb, hml, hown, hts⟩ (k_ms_eventRegister l D cs ad _ u (jyx j) k hok hk) tb_376 tb_377 tb_378 tb_1 tb_379 ⟨rfl, hd_ms_eventRegister⟩ ⟨Nat.le_of_ble_eq_true rfl, Nat.le_of_ble_eq_true rfl⟩ rfl rfl hK hP hD hN 0 0 rfl rfl hl.1 rfl (Nat.le_of_ble_eq_true rfl) d_lw_eventRegister_4 ⟨Nat.le_of_ble_eq_true rfl, Nat.le_of_ble_eq_true rfl⟩ hS hA ?_
  refine lv_i2l hx hb d_lw_eventRegister_7 rfl ?_
  refine va_last hx hb hK hP hD hS 0 0 rfl rfl (by unfold vp_in; decide) d_lw_eventRegister_8 (fun H locs hP hD hS => ?_)
  have hP : va_P D cx (yv ad cs (sg_im u) (sg_ap u) (sg_ag u) (sg_he u) (sg_er u) (sg_ev u) (sg_en u) (sg_ma u) (sg_po u) (sg_se u) (sg_ac u) (sg_fa u) (sg_la u) (sg_st u) (jy_ru j) (jy_nd j) (jy_de j) (jy_rp j) (vp_updL (jy_ou j) (0 : Int32).toNatClampNeg ((sg_er u k.toNatClampNeg).toInt64))) H := hP
  have hD : va_D A (yv ad cs (sg_im u) (sg_ap u) (sg_ag u) (sg_he u) (sg_er u) (sg_ev u) (sg_en u) (sg_ma u) (sg_po u) (sg_se u) (sg_ac u) (sg_fa u) (sg_la u) (sg_st u) (jy_ru j) (jy_nd j) (jy_de j) (jy_rp j) (vp_updL (jy_ou j) (0 : Int32).toNatClampNeg ((sg_er u k.toNatClampNeg).toInt64))) := hD
  refine lv_goto hx hb d_lw_eventRegister_9 (tgt := 15) (by decide) ?_
  refine lv_iconst (v := 0) hx hb d_lw_eventRegister_15 (by decide) ?_
  obtain ⟨q1, eq1⟩ : ∃ z : Jy, z = (jy_ru j, jy_nd j, jy_de j, jy_rp j, vp_updL (jy_ou j) (0 : Int32).toNatClampNeg ((sg_er u k.toNatClampNeg).toInt64)) := ⟨_, rfl⟩
  have hP : va_P D cx (yw ad cs u q1) H := by rw [eq1, yw_j]; exact hP
  have hD : va_D A (yw ad cs u q1) := by rw [eq1, yw_j]; exact hD
  exact W.iret hx hb hret (fun t ht hW => ⟨⟨_, q1, rfl, ⟨rfl, (by subst eq1; exact ou_0 (jy_ou j) _)⟩, by rw [ht]; exact hP, va_K.moved hW.alike hK, hD⟩, hS.F ht⟩) hS.2.2 d_lw_eventRegister_16
set_option maxHeartbeats 4000000 in
set_option maxRecDepth 100000 in
theorem f_lw_eventRegister (l : Launch) (hl0 : l.stackTraces = false) (D : va_G) (cs : Nat → ClassId) (ad : Nat → Nat) (sz : Nat) (u : Sg) (j : Jy) (k : Int32) (hk : sp_rg k (sg_en u) = 0) : Met l y_lw_eventRegister (Cond.codeWith y_lw_eventRegister b_lw_eventRegister 4 (some .int) [(0, 9, 12, 37)] :: TB) { frames := 9, cells := 1, slots := 6, locals := 300 } (va_Pc [.ref (ad 0), .int k, .ref (ad 15)] (yw_Pre D cs ad u j sz)) (va_Qi (fun (r : Int32) (j1 : Jy) => r = 1 ∧ True) (fun (j1 : Jy) t => yw_B D cs ad (va_A (yw ad cs u j) sz) (u) j1 t) (va_A (yw ad cs u j) sz)) 1 6 (va_A (yw ad cs u j) sz) := by
  refine tk_ofWith (cc := b_lw_eventRegister) (maxL := 4) (ret := (some .int)) (by decide) rfl ?_
  intro p e s m args below meth c s₁ B hml htab hv
  obtain ⟨rfl, hsz, hP, hK, hD, hN, hZ, hC⟩ := hv
  have hx := B.exec
  have hb := B.bytes
  have hret := B.returns
  have hts := atoms_spec (ws := Cond.codeWith y_lw_eventRegister b_lw_eventRegister 4 (some .int) [(0, 9, 12, 37)] :: TB) B.pre
  have hT : ∀ w ∈ TB, w.before _ s = true := fun w h => hts w (List.mem_cons_of_mem _ h)
  have hown : s.vm.findClass "MeasuredStagesLaw" = some m.cls := findClass_of_methodNamed B.named
  have hlocks := B.notSynchronized
  subst hsz
  have hD := hD.self (sz := s.heap.size)
  generalize hAe : va_A (yw ad cs u j) s.heap.size = A at hD ⊢
  have hA : ∀ q : Nat, s.heap.size ≤ q → A q := fun q h => by rw [← hAe]; exact Or.inr h
  have hS : va_S A s.heap s.heap [] := va_S.rf
  have hl := lv_entry ([.ref (ad 0), .int k, .ref (ad 15)]) (n := 4) (Nat.le_of_ble_eq_true rfl)
  rw [lg_entry_eq]
  generalize (lg_sl ([.ref (ad 0), .int k, .ref (ad 15)]) ++ List.replicate (4 - (lg_sl ([.ref (ad 0), .int k, .ref (ad 15)])).length) Slot.unset).toArray = ls at hl ⊢
  have hl : lv_has ls 4 [(0, .ref (ad 0)), (1, .int k), (2, .ref (ad 15))] := hl
  refine lv_aload_n hx hb d_lw_eventRegister_0 rfl (lv_at hl 2 rfl) ?_
  refine lv_iconst (v := 0) hx hb d_lw_eventRegister_1 (by decide) ?_
  refine lv_aload_n hx hb d_lw_eventRegister_2 rfl (lv_at hl 0 rfl) ?_
  refine lv_iload_n hx hb d_lw_eventRegister_3 rfl (lv_at hl 1 rfl) ?_
  obtain ⟨x1, t1, ex1, a1, b1, c1, d1, ht1⟩ := tk_tab htab
  have a1 : x1.startPc = 0 := a1
  have b1 : x1.endPc = 9 := b1
  have c1 : x1.handlerPc = 12 := c1
  have d1 : x1.catchType = 37 := d1
  refine yx_tr (u' := u) (As := [.int k]) (rest := [.int (0), .ref (ad 15)]) ⟨hx, hb, hml, hown, hts⟩ (f_ms_eventRegister l hl0 D cs ad _ u (jyx j) k hk) tb_376 tb_377 tb_378 tb_1 tb_379 ⟨rfl, hd_ms_eventRegister⟩ ⟨Nat.le_of_ble_eq_true rfl, Nat.le_of_ble_eq_true rfl⟩ rfl rfl hK hP hD hN 0 0 rfl rfl hl.1 rfl (Nat.le_of_ble_eq_true rfl) d_lw_eventRegister_4 ⟨Nat.le_of_ble_eq_true rfl, Nat.le_of_ble_eq_true rfl⟩ hS hA hZ [] x1 t1 ex1 (fun z hz => absurd hz List.not_mem_nil) (by unfold covers; rw [a1, b1]; rfl) (by rw [d1]; decide) (by rw [d1]; exact hT _ tb_375) (fun x9 j1 H locs hP hD hS => ?_)
  rw [c1]
  obtain ⟨q9, eq9⟩ : ∃ z : Jy, z = jxy j1 (jy_ou j) := ⟨_, rfl⟩
  rw [← eq9] at hP hD
  refine lv_astore_n (nL := 4) (lv' := [(3, .ref x9), (0, .ref (ad 0)), (1, .int k), (2, .ref (ad 15))]) hx hb d_lw_eventRegister_12 rfl hl (by decide) rfl (fun ls hl => ?_)
  refine lv_iconst (v := 1) hx hb d_lw_eventRegister_13 (by decide) ?_
  exact W.iret hx hb hret (fun t ht hW => ⟨⟨_, q9, rfl, ⟨rfl, (by subst eq9; trivial)⟩, by rw [ht]; exact hP, va_K.moved hW.alike hK, hD⟩, hS.F ht⟩) hS.2.2 d_lw_eventRegister_14
set_option maxHeartbeats 4000000 in
set_option maxRecDepth 100000 in
theorem k_lw_eventValue (l : Launch) (D : va_G) (cs : Nat → ClassId) (ad : Nat → Nat) (sz : Nat) (u : Sg) (j : Jy) (k : Int32) (hok : sp_ok u) (hk : sp_rg k (sg_en u) = 1) : Met l y_lw_eventValue (Cond.codeWith y_lw_eventValue b_lw_eventValue 4 (some .int) [(0, 8, 11, 37)] :: TB) { frames := 9, cells := 0, slots := 0, locals := 300 } (va_Pc [.ref (ad 0), .int k, .ref (ad 15)] (yw_Pre D cs ad u j sz)) (va_Qi (fun (r : Int32) (j1 : Jy) => r = 0 ∧ jy_ou j1 0 = sg_ev u k.toNatClampNeg) (fun (j1 : Jy) t => yw_B D cs ad (va_A (yw ad cs u j) sz) (u) j1 t) (va_A (yw ad cs u j) sz)) 0 0 (va_A (yw ad cs u j) sz) := by
  refine tk_ofWith (cc := b_lw_eventValue) (maxL := 4) (ret := (some .int)) (by decide) rfl ?_
  intro p e s m args below meth c s₁ B hml htab hv
  obtain ⟨rfl, hsz, hP, hK, hD, hN, hZ, hC⟩ := hv
  have hx := B.exec
  have hb := B.bytes
  have hret := B.returns
  have hts := atoms_spec (ws := Cond.codeWith y_lw_eventValue b_lw_eventValue 4 (some .int) [(0, 8, 11, 37)] :: TB) B.pre
  have hT : ∀ w ∈ TB, w.before _ s = true := fun w h => hts w (List.mem_cons_of_mem _ h)
  have hown : s.vm.findClass "MeasuredStagesLaw" = some m.cls := findClass_of_methodNamed B.named
  have hlocks := B.notSynchronized
  subst hsz
  have hD := hD.self (sz := s.heap.size)
  generalize hAe : va_A (yw ad cs u j) s.heap.size = A at hD ⊢
  have hA : ∀ q : Nat, s.heap.size ≤ q → A q := fun q h => by rw [← hAe]; exact Or.inr h
  have hS : va_S A s.heap s.heap [] := va_S.rf
  have hl := lv_entry ([.ref (ad 0), .int k, .ref (ad 15)]) (n := 4) (Nat.le_of_ble_eq_true rfl)
  rw [lg_entry_eq]
  generalize (lg_sl ([.ref (ad 0), .int k, .ref (ad 15)]) ++ List.replicate (4 - (lg_sl ([.ref (ad 0), .int k, .ref (ad 15)])).length) Slot.unset).toArray = ls at hl ⊢
  have hl : lv_has ls 4 [(0, .ref (ad 0)), (1, .int k), (2, .ref (ad 15))] := hl
  refine lv_aload_n hx hb d_lw_eventValue_0 rfl (lv_at hl 2 rfl) ?_
  refine lv_iconst (v := 0) hx hb d_lw_eventValue_1 (by decide) ?_
  refine lv_aload_n hx hb d_lw_eventValue_2 rfl (lv_at hl 0 rfl) ?_
  refine lv_iload_n hx hb d_lw_eventValue_3 rfl (lv_at hl 1 rfl) ?_
  refine yx_rdl (v := sg_ev u k.toNatClampNeg) (As := [.int k]) (rest := [.int (0), .ref (ad 15)]) ⟨hx, hb, hml, hown, hts⟩ (k_ms_eventValue l D cs ad _ u (jyx j) k hok hk) tb_403 tb_404 tb_405 tb_1 tb_406 ⟨rfl, hd_ms_eventValue⟩ ⟨Nat.le_of_ble_eq_true rfl, Nat.le_of_ble_eq_true rfl⟩ rfl rfl hK hP hD hN 0 0 rfl rfl hl.1 rfl (Nat.le_of_ble_eq_true rfl) d_lw_eventValue_4 ⟨Nat.le_of_ble_eq_true rfl, Nat.le_of_ble_eq_true rfl⟩ hS hA ?_
  refine va_last hx hb hK hP hD hS 0 0 rfl rfl (by unfold vp_in; decide) d_lw_eventValue_7 (fun H locs hP hD hS => ?_)
  have hP : va_P D cx (yv ad cs (sg_im u) (sg_ap u) (sg_ag u) (sg_he u) (sg_er u) (sg_ev u) (sg_en u) (sg_ma u) (sg_po u) (sg_se u) (sg_ac u) (sg_fa u) (sg_la u) (sg_st u) (jy_ru j) (jy_nd j) (jy_de j) (jy_rp j) (vp_updL (jy_ou j) (0 : Int32).toNatClampNeg (sg_ev u k.toNatClampNeg))) H := hP
  have hD : va_D A (yv ad cs (sg_im u) (sg_ap u) (sg_ag u) (sg_he u) (sg_er u) (sg_ev u) (sg_en u) (sg_ma u) (sg_po u) (sg_se u) (sg_ac u) (sg_fa u) (sg_la u) (sg_st u) (jy_ru j) (jy_nd j) (jy_de j) (jy_rp j) (vp_updL (jy_ou j) (0 : Int32).toNatClampNeg (sg_ev u k.toNatClampNeg))) := hD
  refine lv_goto hx hb d_lw_eventValue_8 (tgt := 14) (by decide) ?_
  refine lv_iconst (v := 0) hx hb d_lw_eventValue_14 (by decide) ?_
  obtain ⟨q1, eq1⟩ : ∃ z : Jy, z = (jy_ru j, jy_nd j, jy_de j, jy_rp j, vp_updL (jy_ou j) (0 : Int32).toNatClampNeg (sg_ev u k.toNatClampNeg)) := ⟨_, rfl⟩
  have hP : va_P D cx (yw ad cs u q1) H := by rw [eq1, yw_j]; exact hP
  have hD : va_D A (yw ad cs u q1) := by rw [eq1, yw_j]; exact hD
  exact W.iret hx hb hret (fun t ht hW => ⟨⟨_, q1, rfl, ⟨rfl, (by subst eq1; exact ou_0 (jy_ou j) _)⟩, by rw [ht]; exact hP, va_K.moved hW.alike hK, hD⟩, hS.F ht⟩) hS.2.2 d_lw_eventValue_15
set_option maxHeartbeats 4000000 in
set_option maxRecDepth 100000 in
theorem f_lw_eventValue (l : Launch) (hl0 : l.stackTraces = false) (D : va_G) (cs : Nat → ClassId) (ad : Nat → Nat) (sz : Nat) (u : Sg) (j : Jy) (k : Int32) (hk : sp_rg k (sg_en u) = 0) : Met l y_lw_eventValue (Cond.codeWith y_lw_eventValue b_lw_eventValue 4 (some .int) [(0, 8, 11, 37)] :: TB) { frames := 9, cells := 1, slots := 6, locals := 300 } (va_Pc [.ref (ad 0), .int k, .ref (ad 15)] (yw_Pre D cs ad u j sz)) (va_Qi (fun (r : Int32) (j1 : Jy) => r = 1 ∧ True) (fun (j1 : Jy) t => yw_B D cs ad (va_A (yw ad cs u j) sz) (u) j1 t) (va_A (yw ad cs u j) sz)) 1 6 (va_A (yw ad cs u j) sz) := by
  refine tk_ofWith (cc := b_lw_eventValue) (maxL := 4) (ret := (some .int)) (by decide) rfl ?_
  intro p e s m args below meth c s₁ B hml htab hv
  obtain ⟨rfl, hsz, hP, hK, hD, hN, hZ, hC⟩ := hv
  have hx := B.exec
  have hb := B.bytes
  have hret := B.returns
  have hts := atoms_spec (ws := Cond.codeWith y_lw_eventValue b_lw_eventValue 4 (some .int) [(0, 8, 11, 37)] :: TB) B.pre
  have hT : ∀ w ∈ TB, w.before _ s = true := fun w h => hts w (List.mem_cons_of_mem _ h)
  have hown : s.vm.findClass "MeasuredStagesLaw" = some m.cls := findClass_of_methodNamed B.named
  have hlocks := B.notSynchronized
  subst hsz
  have hD := hD.self (sz := s.heap.size)
  generalize hAe : va_A (yw ad cs u j) s.heap.size = A at hD ⊢
  have hA : ∀ q : Nat, s.heap.size ≤ q → A q := fun q h => by rw [← hAe]; exact Or.inr h
  have hS : va_S A s.heap s.heap [] := va_S.rf
  have hl := lv_entry ([.ref (ad 0), .int k, .ref (ad 15)]) (n := 4) (Nat.le_of_ble_eq_true rfl)
  rw [lg_entry_eq]
  generalize (lg_sl ([.ref (ad 0), .int k, .ref (ad 15)]) ++ List.replicate (4 - (lg_sl ([.ref (ad 0), .int k, .ref (ad 15)])).length) Slot.unset).toArray = ls at hl ⊢
  have hl : lv_has ls 4 [(0, .ref (ad 0)), (1, .int k), (2, .ref (ad 15))] := hl
  refine lv_aload_n hx hb d_lw_eventValue_0 rfl (lv_at hl 2 rfl) ?_
  refine lv_iconst (v := 0) hx hb d_lw_eventValue_1 (by decide) ?_
  refine lv_aload_n hx hb d_lw_eventValue_2 rfl (lv_at hl 0 rfl) ?_
  refine lv_iload_n hx hb d_lw_eventValue_3 rfl (lv_at hl 1 rfl) ?_
  obtain ⟨x1, t1, ex1, a1, b1, c1, d1, ht1⟩ := tk_tab htab
  have a1 : x1.startPc = 0 := a1
  have b1 : x1.endPc = 8 := b1
  have c1 : x1.handlerPc = 11 := c1
  have d1 : x1.catchType = 37 := d1
  refine yx_tr (u' := u) (As := [.int k]) (rest := [.int (0), .ref (ad 15)]) ⟨hx, hb, hml, hown, hts⟩ (f_ms_eventValue l hl0 D cs ad _ u (jyx j) k hk) tb_403 tb_404 tb_405 tb_1 tb_406 ⟨rfl, hd_ms_eventValue⟩ ⟨Nat.le_of_ble_eq_true rfl, Nat.le_of_ble_eq_true rfl⟩ rfl rfl hK hP hD hN 0 0 rfl rfl hl.1 rfl (Nat.le_of_ble_eq_true rfl) d_lw_eventValue_4 ⟨Nat.le_of_ble_eq_true rfl, Nat.le_of_ble_eq_true rfl⟩ hS hA hZ [] x1 t1 ex1 (fun z hz => absurd hz List.not_mem_nil) (by unfold covers; rw [a1, b1]; rfl) (by rw [d1]; decide) (by rw [d1]; exact hT _ tb_375) (fun x9 j1 H locs hP hD hS => ?_)
  rw [c1]
  obtain ⟨q9, eq9⟩ : ∃ z : Jy, z = jxy j1 (jy_ou j) := ⟨_, rfl⟩
  rw [← eq9] at hP hD
  refine lv_astore_n (nL := 4) (lv' := [(3, .ref x9), (0, .ref (ad 0)), (1, .int k), (2, .ref (ad 15))]) hx hb d_lw_eventValue_11 rfl hl (by decide) rfl (fun ls hl => ?_)
  refine lv_iconst (v := 1) hx hb d_lw_eventValue_12 (by decide) ?_
  exact W.iret hx hb hret (fun t ht hW => ⟨⟨_, q9, rfl, ⟨rfl, (by subst eq9; trivial)⟩, by rw [ht]; exact hP, va_K.moved hW.alike hK, hD⟩, hS.F ht⟩) hS.2.2 d_lw_eventValue_13
set_option maxHeartbeats 4000000 in
set_option maxRecDepth 100000 in
theorem k_lw_tamper (l : Launch) (D : va_G) (cs : Nat → ClassId) (ad : Nat → Nat) (sz : Nat) (u : Sg) (j : Jy) (k : Int32) (x : Int64) (hok : sp_ok u) (hk : sp_rg k (sg_en u) = 1) : Met l y_lw_tamper (Cond.codeWith y_lw_tamper b_lw_tamper 5 (some .int) [(0, 6, 9, 37)] :: TB) { frames := 9, cells := 0, slots := 0, locals := 300 } (va_Pc [.ref (ad 0), .int k, .long x] (yw_Pre D cs ad u j sz)) (va_Qi (fun (r : Int32) (j1 : Jy) => r = 0 ∧ True) (fun (j1 : Jy) t => yw_B D cs ad (va_A (yw ad cs u j) sz) (ss_ev u (vp_updL (sg_ev u) k.toNatClampNeg (sg_ev u k.toNatClampNeg ^^^ x))) j1 t) (va_A (yw ad cs u j) sz)) 0 0 (va_A (yw ad cs u j) sz) := by
  refine tk_ofWith (cc := b_lw_tamper) (maxL := 5) (ret := (some .int)) (by decide) rfl ?_
  intro p e s m args below meth c s₁ B hml htab hv
  obtain ⟨rfl, hsz, hP, hK, hD, hN, hZ, hC⟩ := hv
  have hx := B.exec
  have hb := B.bytes
  have hret := B.returns
  have hts := atoms_spec (ws := Cond.codeWith y_lw_tamper b_lw_tamper 5 (some .int) [(0, 6, 9, 37)] :: TB) B.pre
  have hT : ∀ w ∈ TB, w.before _ s = true := fun w h => hts w (List.mem_cons_of_mem _ h)
  have hown : s.vm.findClass "MeasuredStagesLaw" = some m.cls := findClass_of_methodNamed B.named
  have hlocks := B.notSynchronized
  subst hsz
  have hD := hD.self (sz := s.heap.size)
  generalize hAe : va_A (yw ad cs u j) s.heap.size = A at hD ⊢
  have hA : ∀ q : Nat, s.heap.size ≤ q → A q := fun q h => by rw [← hAe]; exact Or.inr h
  have hS : va_S A s.heap s.heap [] := va_S.rf
  have hl := lv_entry ([.ref (ad 0), .int k, .long x]) (n := 5) (Nat.le_of_ble_eq_true rfl)
  rw [lg_entry_eq]
  generalize (lg_sl ([.ref (ad 0), .int k, .long x]) ++ List.replicate (5 - (lg_sl ([.ref (ad 0), .int k, .long x])).length) Slot.unset).toArray = ls at hl ⊢
  have hl : lv_has ls 5 [(0, .ref (ad 0)), (1, .int k), (2, .long x)] := hl
  refine lv_aload_n hx hb d_lw_tamper_0 rfl (lv_at hl 0 rfl) ?_
  refine lv_iload_n hx hb d_lw_tamper_1 rfl (lv_at hl 1 rfl) ?_
  refine lv_lload_n hx hb d_lw_tamper_2 rfl (lv_at hl 2 rfl) ?_
  refine yx_wrv (u' := ss_ev u (vp_updL (sg_ev u) k.toNatClampNeg (sg_ev u k.toNatClampNeg ^^^ x))) (As := [.int k, .long x]) (rest := []) ⟨hx, hb, hml, hown, hts⟩ (k_ms_tamper l D cs ad _ u (jyx j) k x hok hk) tb_410 tb_411 tb_412 tb_1 tb_413 ⟨rfl, hd_ms_tamper⟩ ⟨Nat.le_of_ble_eq_true rfl, Nat.le_of_ble_eq_true rfl⟩ rfl rfl hK hP hD hN 0 0 rfl rfl hl.1 rfl (Nat.le_of_ble_eq_true rfl) d_lw_tamper_3 ⟨Nat.le_of_ble_eq_true rfl, Nat.le_of_ble_eq_true rfl⟩ hS hA (fun j1 H locs hp hP hD hS => ?_)
  obtain ⟨v9, ev9⟩ : ∃ z : Sg, z = ss_ev u (vp_updL (sg_ev u) k.toNatClampNeg (sg_ev u k.toNatClampNeg ^^^ x)) := ⟨_, rfl⟩
  rw [← ev9] at hP hD
  obtain ⟨q9, eq9⟩ : ∃ z : Jy, z = jxy j1 (jy_ou j) := ⟨_, rfl⟩
  rw [← eq9] at hP hD
  refine lv_goto hx hb d_lw_tamper_6 (tgt := 13) (by decide) ?_
  refine lv_iconst (v := 0) hx hb d_lw_tamper_13 (by decide) ?_
  subst ev9
  exact W.iret hx hb hret (fun t ht hW => ⟨⟨_, q9, rfl, ⟨rfl, (by subst eq9; trivial)⟩, by rw [ht]; exact hP, va_K.moved hW.alike hK, hD⟩, hS.F ht⟩) hS.2.2 d_lw_tamper_14
set_option maxHeartbeats 4000000 in
set_option maxRecDepth 100000 in
theorem f_lw_tamper (l : Launch) (hl0 : l.stackTraces = false) (D : va_G) (cs : Nat → ClassId) (ad : Nat → Nat) (sz : Nat) (u : Sg) (j : Jy) (k : Int32) (x : Int64) (hk : sp_rg k (sg_en u) = 0) : Met l y_lw_tamper (Cond.codeWith y_lw_tamper b_lw_tamper 5 (some .int) [(0, 6, 9, 37)] :: TB) { frames := 9, cells := 1, slots := 6, locals := 300 } (va_Pc [.ref (ad 0), .int k, .long x] (yw_Pre D cs ad u j sz)) (va_Qi (fun (r : Int32) (j1 : Jy) => r = 1 ∧ True) (fun (j1 : Jy) t => yw_B D cs ad (va_A (yw ad cs u j) sz) (u) j1 t) (va_A (yw ad cs u j) sz)) 1 6 (va_A (yw ad cs u j) sz) := by
  refine tk_ofWith (cc := b_lw_tamper) (maxL := 5) (ret := (some .int)) (by decide) rfl ?_
  intro p e s m args below meth c s₁ B hml htab hv
  obtain ⟨rfl, hsz, hP, hK, hD, hN, hZ, hC⟩ := hv
  have hx := B.exec
  have hb := B.bytes
  have hret := B.returns
  have hts := atoms_spec (ws := Cond.codeWith y_lw_tamper b_lw_tamper 5 (some .int) [(0, 6, 9, 37)] :: TB) B.pre
  have hT : ∀ w ∈ TB, w.before _ s = true := fun w h => hts w (List.mem_cons_of_mem _ h)
  have hown : s.vm.findClass "MeasuredStagesLaw" = some m.cls := findClass_of_methodNamed B.named
  have hlocks := B.notSynchronized
  subst hsz
  have hD := hD.self (sz := s.heap.size)
  generalize hAe : va_A (yw ad cs u j) s.heap.size = A at hD ⊢
  have hA : ∀ q : Nat, s.heap.size ≤ q → A q := fun q h => by rw [← hAe]; exact Or.inr h
  have hS : va_S A s.heap s.heap [] := va_S.rf
  have hl := lv_entry ([.ref (ad 0), .int k, .long x]) (n := 5) (Nat.le_of_ble_eq_true rfl)
  rw [lg_entry_eq]
  generalize (lg_sl ([.ref (ad 0), .int k, .long x]) ++ List.replicate (5 - (lg_sl ([.ref (ad 0), .int k, .long x])).length) Slot.unset).toArray = ls at hl ⊢
  have hl : lv_has ls 5 [(0, .ref (ad 0)), (1, .int k), (2, .long x)] := hl
  refine lv_aload_n hx hb d_lw_tamper_0 rfl (lv_at hl 0 rfl) ?_
  refine lv_iload_n hx hb d_lw_tamper_1 rfl (lv_at hl 1 rfl) ?_
  refine lv_lload_n hx hb d_lw_tamper_2 rfl (lv_at hl 2 rfl) ?_
  obtain ⟨x1, t1, ex1, a1, b1, c1, d1, ht1⟩ := tk_tab htab
  have a1 : x1.startPc = 0 := a1
  have b1 : x1.endPc = 6 := b1
  have c1 : x1.handlerPc = 9 := c1
  have d1 : x1.catchType = 37 := d1
  refine yx_tr (u' := u) (As := [.int k, .long x]) (rest := []) ⟨hx, hb, hml, hown, hts⟩ (f_ms_tamper l hl0 D cs ad _ u (jyx j) k x hk) tb_410 tb_411 tb_412 tb_1 tb_413 ⟨rfl, hd_ms_tamper⟩ ⟨Nat.le_of_ble_eq_true rfl, Nat.le_of_ble_eq_true rfl⟩ rfl rfl hK hP hD hN 0 0 rfl rfl hl.1 rfl (Nat.le_of_ble_eq_true rfl) d_lw_tamper_3 ⟨Nat.le_of_ble_eq_true rfl, Nat.le_of_ble_eq_true rfl⟩ hS hA hZ [] x1 t1 ex1 (fun z hz => absurd hz List.not_mem_nil) (by unfold covers; rw [a1, b1]; rfl) (by rw [d1]; decide) (by rw [d1]; exact hT _ tb_375) (fun x9 j1 H locs hP hD hS => ?_)
  rw [c1]
  obtain ⟨q9, eq9⟩ : ∃ z : Jy, z = jxy j1 (jy_ou j) := ⟨_, rfl⟩
  rw [← eq9] at hP hD
  refine lv_astore (nL := 5) (lv' := [(4, .ref x9), (0, .ref (ad 0)), (1, .int k), (2, .long x)]) hx hb d_lw_tamper_9 hl (by decide) rfl (fun ls hl => ?_)
  refine lv_iconst (v := 1) hx hb d_lw_tamper_11 (by decide) ?_
  exact W.iret hx hb hret (fun t ht hW => ⟨⟨_, q9, rfl, ⟨rfl, (by subst eq9; trivial)⟩, by rw [ht]; exact hP, va_K.moved hW.alike hK, hD⟩, hS.F ht⟩) hS.2.2 d_lw_tamper_12
set_option maxHeartbeats 4000000 in
set_option maxRecDepth 100000 in
theorem k_lw_seal (l : Launch) (D : va_G) (cs : Nat → ClassId) (ad : Nat → Nat) (sz : Nat) (u : Sg) (j : Jy) (mask : Int32) (x : Int64) (hm : sp_mk mask = 1) (hk : vp_in (sp_lf (sg_ma u)) 8) : Met l y_lw_seal (Cond.codeWith y_lw_seal b_lw_seal 6 (some .int) [(0, 11, 14, 13), (0, 11, 18, 23)] :: TB) { frames := 9, cells := 0, slots := 0, locals := 300 } (va_Pc [.ref (ad 0), .int mask, .long x, .ref (ad 15)] (yw_Pre D cs ad u j sz)) (va_Qi (fun (r : Int32) (j1 : Jy) => r = 0 ∧ jy_ou j1 0 = (sp_lf (sg_ma u)).toInt64) (fun (j1 : Jy) t => yw_B D cs ad (va_A (yw ad cs u j) sz) (sp_fi u (sp_lf (sg_ma u)) mask x) j1 t) (va_A (yw ad cs u j) sz)) 0 0 (va_A (yw ad cs u j) sz) := by
  refine tk_ofWith (cc := b_lw_seal) (maxL := 6) (ret := (some .int)) (by decide) rfl ?_
  intro p e s m args below meth c s₁ B hml htab hv
  obtain ⟨rfl, hsz, hP, hK, hD, hN, hZ, hC⟩ := hv
  have hx := B.exec
  have hb := B.bytes
  have hret := B.returns
  have hts := atoms_spec (ws := Cond.codeWith y_lw_seal b_lw_seal 6 (some .int) [(0, 11, 14, 13), (0, 11, 18, 23)] :: TB) B.pre
  have hT : ∀ w ∈ TB, w.before _ s = true := fun w h => hts w (List.mem_cons_of_mem _ h)
  have hown : s.vm.findClass "MeasuredStagesLaw" = some m.cls := findClass_of_methodNamed B.named
  have hlocks := B.notSynchronized
  subst hsz
  have hD := hD.self (sz := s.heap.size)
  generalize hAe : va_A (yw ad cs u j) s.heap.size = A at hD ⊢
  have hA : ∀ q : Nat, s.heap.size ≤ q → A q := fun q h => by rw [← hAe]; exact Or.inr h
  have hS : va_S A s.heap s.heap [] := va_S.rf
  have hl := lv_entry ([.ref (ad 0), .int mask, .long x, .ref (ad 15)]) (n := 6) (Nat.le_of_ble_eq_true rfl)
  rw [lg_entry_eq]
  generalize (lg_sl ([.ref (ad 0), .int mask, .long x, .ref (ad 15)]) ++ List.replicate (6 - (lg_sl ([.ref (ad 0), .int mask, .long x, .ref (ad 15)])).length) Slot.unset).toArray = ls at hl ⊢
  have hl : lv_has ls 6 [(0, .ref (ad 0)), (1, .int mask), (2, .long x), (4, .ref (ad 15))] := hl
  refine lv_aload hx hb d_lw_seal_0 (lv_at hl 3 rfl) ?_
  refine lv_iconst (v := 0) hx hb d_lw_seal_2 (by decide) ?_
  refine lv_aload_n hx hb d_lw_seal_3 rfl (lv_at hl 0 rfl) ?_
  refine lv_iload_n hx hb d_lw_seal_4 rfl (lv_at hl 1 rfl) ?_
  refine lv_lload_n hx hb d_lw_seal_5 rfl (lv_at hl 2 rfl) ?_
  refine yx_wri (v := sp_lf (sg_ma u)) (u' := sp_fi u (sp_lf (sg_ma u)) mask x) (As := [.int mask, .long x]) (rest := [.int (0), .ref (ad 15)]) ⟨hx, hb, hml, hown, hts⟩ (k_ms_seal l D cs ad _ u (jyx j) mask x hm hk) tb_417 tb_418 tb_419 tb_1 tb_420 ⟨rfl, hd_ms_seal⟩ ⟨Nat.le_of_ble_eq_true rfl, Nat.le_of_ble_eq_true rfl⟩ rfl rfl hK hP hD hN 0 0 rfl rfl hl.1 rfl (Nat.le_of_ble_eq_true rfl) d_lw_seal_6 ⟨Nat.le_of_ble_eq_true rfl, Nat.le_of_ble_eq_true rfl⟩ hS hA (fun j1 H locs hp hP hD hS => ?_)
  obtain ⟨v9, ev9⟩ : ∃ z : Sg, z = sp_fi u (sp_lf (sg_ma u)) mask x := ⟨_, rfl⟩
  rw [← ev9] at hP hD
  obtain ⟨q9, eq9⟩ : ∃ z : Jy, z = jxy j1 (jy_ou j) := ⟨_, rfl⟩
  rw [← eq9] at hP hD
  refine lv_i2l hx hb d_lw_seal_9 rfl ?_
  refine va_last hx hb hK hP hD hS 0 0 rfl rfl (by unfold vp_in; decide) d_lw_seal_10 (fun H locs hP hD hS => ?_)
  have hP : va_P D cx (yv ad cs (sg_im v9) (sg_ap v9) (sg_ag v9) (sg_he v9) (sg_er v9) (sg_ev v9) (sg_en v9) (sg_ma v9) (sg_po v9) (sg_se v9) (sg_ac v9) (sg_fa v9) (sg_la v9) (sg_st v9) (jy_ru q9) (jy_nd q9) (jy_de q9) (jy_rp q9) (vp_updL (jy_ou q9) (0 : Int32).toNatClampNeg ((sp_lf (sg_ma u)).toInt64))) H := hP
  have hD : va_D A (yv ad cs (sg_im v9) (sg_ap v9) (sg_ag v9) (sg_he v9) (sg_er v9) (sg_ev v9) (sg_en v9) (sg_ma v9) (sg_po v9) (sg_se v9) (sg_ac v9) (sg_fa v9) (sg_la v9) (sg_st v9) (jy_ru q9) (jy_nd q9) (jy_de q9) (jy_rp q9) (vp_updL (jy_ou q9) (0 : Int32).toNatClampNeg ((sp_lf (sg_ma u)).toInt64))) := hD
  refine lv_goto hx hb d_lw_seal_11 (tgt := 22) (by decide) ?_
  refine lv_iconst (v := 0) hx hb d_lw_seal_22 (by decide) ?_
  obtain ⟨q1, eq1⟩ : ∃ z : Jy, z = (jy_ru q9, jy_nd q9, jy_de q9, jy_rp q9, vp_updL (jy_ou q9) (0 : Int32).toNatClampNeg ((sp_lf (sg_ma u)).toInt64)) := ⟨_, rfl⟩
  have hP : va_P D cx (yw ad cs v9 q1) H := by rw [eq1, yw_j]; exact hP
  have hD : va_D A (yw ad cs v9 q1) := by rw [eq1, yw_j]; exact hD
  subst ev9
  exact W.iret hx hb hret (fun t ht hW => ⟨⟨_, q1, rfl, ⟨rfl, (by subst eq1; subst eq9; exact ou_0 (jy_ou j) _)⟩, by rw [ht]; exact hP, va_K.moved hW.alike hK, hD⟩, hS.F ht⟩) hS.2.2 d_lw_seal_23
set_option maxHeartbeats 4000000 in
set_option maxRecDepth 100000 in
theorem f_lw_seal (l : Launch) (hl0 : l.stackTraces = false) (D : va_G) (cs : Nat → ClassId) (ad : Nat → Nat) (sz : Nat) (u : Sg) (j : Jy) (mask : Int32) (x : Int64) (hm : sp_mk mask = 0) : Met l y_lw_seal (Cond.codeWith y_lw_seal b_lw_seal 6 (some .int) [(0, 11, 14, 13), (0, 11, 18, 23)] :: TB) { frames := 9, cells := 1, slots := 6, locals := 300 } (va_Pc [.ref (ad 0), .int mask, .long x, .ref (ad 15)] (yw_Pre D cs ad u j sz)) (va_Qi (fun (r : Int32) (j1 : Jy) => r = 1 ∧ True) (fun (j1 : Jy) t => yw_B D cs ad (va_A (yw ad cs u j) sz) (u) j1 t) (va_A (yw ad cs u j) sz)) 1 6 (va_A (yw ad cs u j) sz) := by
  refine tk_ofWith (cc := b_lw_seal) (maxL := 6) (ret := (some .int)) (by decide) rfl ?_
  intro p e s m args below meth c s₁ B hml htab hv
  obtain ⟨rfl, hsz, hP, hK, hD, hN, hZ, hC⟩ := hv
  have hx := B.exec
  have hb := B.bytes
  have hret := B.returns
  have hts := atoms_spec (ws := Cond.codeWith y_lw_seal b_lw_seal 6 (some .int) [(0, 11, 14, 13), (0, 11, 18, 23)] :: TB) B.pre
  have hT : ∀ w ∈ TB, w.before _ s = true := fun w h => hts w (List.mem_cons_of_mem _ h)
  have hown : s.vm.findClass "MeasuredStagesLaw" = some m.cls := findClass_of_methodNamed B.named
  have hlocks := B.notSynchronized
  subst hsz
  have hD := hD.self (sz := s.heap.size)
  generalize hAe : va_A (yw ad cs u j) s.heap.size = A at hD ⊢
  have hA : ∀ q : Nat, s.heap.size ≤ q → A q := fun q h => by rw [← hAe]; exact Or.inr h
  have hS : va_S A s.heap s.heap [] := va_S.rf
  have hl := lv_entry ([.ref (ad 0), .int mask, .long x, .ref (ad 15)]) (n := 6) (Nat.le_of_ble_eq_true rfl)
  rw [lg_entry_eq]
  generalize (lg_sl ([.ref (ad 0), .int mask, .long x, .ref (ad 15)]) ++ List.replicate (6 - (lg_sl ([.ref (ad 0), .int mask, .long x, .ref (ad 15)])).length) Slot.unset).toArray = ls at hl ⊢
  have hl : lv_has ls 6 [(0, .ref (ad 0)), (1, .int mask), (2, .long x), (4, .ref (ad 15))] := hl
  refine lv_aload hx hb d_lw_seal_0 (lv_at hl 3 rfl) ?_
  refine lv_iconst (v := 0) hx hb d_lw_seal_2 (by decide) ?_
  refine lv_aload_n hx hb d_lw_seal_3 rfl (lv_at hl 0 rfl) ?_
  refine lv_iload_n hx hb d_lw_seal_4 rfl (lv_at hl 1 rfl) ?_
  refine lv_lload_n hx hb d_lw_seal_5 rfl (lv_at hl 2 rfl) ?_
  obtain ⟨x1, t1, ex1, a1, b1, c1, d1, ht1⟩ := tk_tab htab
  have a1 : x1.startPc = 0 := a1
  have b1 : x1.endPc = 11 := b1
  have c1 : x1.handlerPc = 14 := c1
  have d1 : x1.catchType = 13 := d1
  refine yx_tr (u' := u) (As := [.int mask, .long x]) (rest := [.int (0), .ref (ad 15)]) ⟨hx, hb, hml, hown, hts⟩ (f_ms_seal l hl0 D cs ad _ u (jyx j) mask x hm) tb_417 tb_418 tb_419 tb_1 tb_420 ⟨rfl, hd_ms_seal⟩ ⟨Nat.le_of_ble_eq_true rfl, Nat.le_of_ble_eq_true rfl⟩ rfl rfl hK hP hD hN 0 0 rfl rfl hl.1 rfl (Nat.le_of_ble_eq_true rfl) d_lw_seal_6 ⟨Nat.le_of_ble_eq_true rfl, Nat.le_of_ble_eq_true rfl⟩ hS hA hZ [] x1 t1 ex1 (fun z hz => absurd hz List.not_mem_nil) (by unfold covers; rw [a1, b1]; rfl) (by rw [d1]; decide) (by rw [d1]; exact hT _ tb_146) (fun x9 j1 H locs hP hD hS => ?_)
  rw [c1]
  obtain ⟨q9, eq9⟩ : ∃ z : Jy, z = jxy j1 (jy_ou j) := ⟨_, rfl⟩
  rw [← eq9] at hP hD
  refine lv_astore (nL := 6) (lv' := [(5, .ref x9), (0, .ref (ad 0)), (1, .int mask), (2, .long x), (4, .ref (ad 15))]) hx hb d_lw_seal_14 hl (by decide) rfl (fun ls hl => ?_)
  refine lv_iconst (v := 1) hx hb d_lw_seal_16 (by decide) ?_
  exact W.iret hx hb hret (fun t ht hW => ⟨⟨_, q9, rfl, ⟨rfl, (by subst eq9; trivial)⟩, by rw [ht]; exact hP, va_K.moved hW.alike hK, hD⟩, hS.F ht⟩) hS.2.2 d_lw_seal_17
set_option maxHeartbeats 4000000 in
set_option maxRecDepth 100000 in
theorem g_lw_seal (l : Launch) (hl0 : l.stackTraces = false) (D : va_G) (cs : Nat → ClassId) (ad : Nat → Nat) (sz : Nat) (u : Sg) (j : Jy) (mask : Int32) (x : Int64) (hm : sp_mk mask = 1) (hk : sp_lf (sg_ma u) = -1) : Met l y_lw_seal (Cond.codeWith y_lw_seal b_lw_seal 6 (some .int) [(0, 11, 14, 13), (0, 11, 18, 23)] :: TB) { frames := 9, cells := 1, slots := 6, locals := 300 } (va_Pc [.ref (ad 0), .int mask, .long x, .ref (ad 15)] (yw_Pre D cs ad u j sz)) (va_Qi (fun (r : Int32) (j1 : Jy) => r = 2 ∧ True) (fun (j1 : Jy) t => yw_B D cs ad (va_A (yw ad cs u j) sz) (u) j1 t) (va_A (yw ad cs u j) sz)) 1 6 (va_A (yw ad cs u j) sz) := by
  refine tk_ofWith (cc := b_lw_seal) (maxL := 6) (ret := (some .int)) (by decide) rfl ?_
  intro p e s m args below meth c s₁ B hml htab hv
  obtain ⟨rfl, hsz, hP, hK, hD, hN, hZ, hC⟩ := hv
  have hx := B.exec
  have hb := B.bytes
  have hret := B.returns
  have hts := atoms_spec (ws := Cond.codeWith y_lw_seal b_lw_seal 6 (some .int) [(0, 11, 14, 13), (0, 11, 18, 23)] :: TB) B.pre
  have hT : ∀ w ∈ TB, w.before _ s = true := fun w h => hts w (List.mem_cons_of_mem _ h)
  have hown : s.vm.findClass "MeasuredStagesLaw" = some m.cls := findClass_of_methodNamed B.named
  have hlocks := B.notSynchronized
  subst hsz
  have hD := hD.self (sz := s.heap.size)
  generalize hAe : va_A (yw ad cs u j) s.heap.size = A at hD ⊢
  have hA : ∀ q : Nat, s.heap.size ≤ q → A q := fun q h => by rw [← hAe]; exact Or.inr h
  have hS : va_S A s.heap s.heap [] := va_S.rf
  have hl := lv_entry ([.ref (ad 0), .int mask, .long x, .ref (ad 15)]) (n := 6) (Nat.le_of_ble_eq_true rfl)
  rw [lg_entry_eq]
  generalize (lg_sl ([.ref (ad 0), .int mask, .long x, .ref (ad 15)]) ++ List.replicate (6 - (lg_sl ([.ref (ad 0), .int mask, .long x, .ref (ad 15)])).length) Slot.unset).toArray = ls at hl ⊢
  have hl : lv_has ls 6 [(0, .ref (ad 0)), (1, .int mask), (2, .long x), (4, .ref (ad 15))] := hl
  refine lv_aload hx hb d_lw_seal_0 (lv_at hl 3 rfl) ?_
  refine lv_iconst (v := 0) hx hb d_lw_seal_2 (by decide) ?_
  refine lv_aload_n hx hb d_lw_seal_3 rfl (lv_at hl 0 rfl) ?_
  refine lv_iload_n hx hb d_lw_seal_4 rfl (lv_at hl 1 rfl) ?_
  refine lv_lload_n hx hb d_lw_seal_5 rfl (lv_at hl 2 rfl) ?_
  obtain ⟨x1, t1, ex1, a1, b1, c1, d1, ht1⟩ := tk_tab htab
  have a1 : x1.startPc = 0 := a1
  have b1 : x1.endPc = 11 := b1
  have c1 : x1.handlerPc = 14 := c1
  have d1 : x1.catchType = 13 := d1
  obtain ⟨x2, t2, ex2, a2, b2, c2, d2, ht2⟩ := tk_tab ht1
  have a2 : x2.startPc = 0 := a2
  have b2 : x2.endPc = 11 := b2
  have c2 : x2.handlerPc = 18 := c2
  have d2 : x2.catchType = 23 := d2
  refine yx_tr (u' := u) (As := [.int mask, .long x]) (rest := [.int (0), .ref (ad 15)]) ⟨hx, hb, hml, hown, hts⟩ (g_ms_seal l hl0 D cs ad _ u (jyx j) mask x hm hk) tb_417 tb_418 tb_419 tb_1 tb_420 ⟨rfl, hd_ms_seal⟩ ⟨Nat.le_of_ble_eq_true rfl, Nat.le_of_ble_eq_true rfl⟩ rfl rfl hK hP hD hN 0 0 rfl rfl hl.1 rfl (Nat.le_of_ble_eq_true rfl) d_lw_seal_6 ⟨Nat.le_of_ble_eq_true rfl, Nat.le_of_ble_eq_true rfl⟩ hS hA hZ [x1] x2 t2 (by rw [ex1, ex2]; rfl) (fun z hz => by rw [List.mem_singleton.mp hz]; exact Or.inr ⟨by rw [d1]; decide, "java/lang/IllegalArgumentException", by rw [d1]; exact hT _ tb_146, hC.1⟩) (by unfold covers; rw [a2, b2]; rfl) (by rw [d2]; decide) (by rw [d2]; exact hT _ tb_239) (fun x9 j1 H locs hP hD hS => ?_)
  rw [c2]
  obtain ⟨q9, eq9⟩ : ∃ z : Jy, z = jxy j1 (jy_ou j) := ⟨_, rfl⟩
  rw [← eq9] at hP hD
  refine lv_astore (nL := 6) (lv' := [(5, .ref x9), (0, .ref (ad 0)), (1, .int mask), (2, .long x), (4, .ref (ad 15))]) hx hb d_lw_seal_18 hl (by decide) rfl (fun ls hl => ?_)
  refine lv_iconst (v := 2) hx hb d_lw_seal_20 (by decide) ?_
  exact W.iret hx hb hret (fun t ht hW => ⟨⟨_, q9, rfl, ⟨rfl, (by subst eq9; trivial)⟩, by rw [ht]; exact hP, va_K.moved hW.alike hK, hD⟩, hS.F ht⟩) hS.2.2 d_lw_seal_21
set_option maxHeartbeats 4000000 in
set_option maxRecDepth 100000 in
theorem k_lw_unseal (l : Launch) (D : va_G) (cs : Nat → ClassId) (ad : Nat → Nat) (sz : Nat) (u : Sg) (j : Jy) (k : Int32) (h0 : sp_tk (sg_ma u) k = 1) (h1 : sp_on u k = 1) : Met l y_lw_unseal (Cond.codeWith y_lw_unseal b_lw_unseal 4 (some .int) [(0, 8, 11, 37), (0, 8, 14, 23)] :: TB) { frames := 9, cells := 0, slots := 0, locals := 300 } (va_Pc [.ref (ad 0), .int k, .ref (ad 15)] (yw_Pre D cs ad u j sz)) (va_Qi (fun (r : Int32) (j1 : Jy) => r = 0 ∧ jy_ou j1 0 = sg_se u k.toNatClampNeg) (fun (j1 : Jy) t => yw_B D cs ad (va_A (yw ad cs u j) sz) (u) j1 t) (va_A (yw ad cs u j) sz)) 0 0 (va_A (yw ad cs u j) sz) := by
  refine tk_ofWith (cc := b_lw_unseal) (maxL := 4) (ret := (some .int)) (by decide) rfl ?_
  intro p e s m args below meth c s₁ B hml htab hv
  obtain ⟨rfl, hsz, hP, hK, hD, hN, hZ, hC⟩ := hv
  have hx := B.exec
  have hb := B.bytes
  have hret := B.returns
  have hts := atoms_spec (ws := Cond.codeWith y_lw_unseal b_lw_unseal 4 (some .int) [(0, 8, 11, 37), (0, 8, 14, 23)] :: TB) B.pre
  have hT : ∀ w ∈ TB, w.before _ s = true := fun w h => hts w (List.mem_cons_of_mem _ h)
  have hown : s.vm.findClass "MeasuredStagesLaw" = some m.cls := findClass_of_methodNamed B.named
  have hlocks := B.notSynchronized
  subst hsz
  have hD := hD.self (sz := s.heap.size)
  generalize hAe : va_A (yw ad cs u j) s.heap.size = A at hD ⊢
  have hA : ∀ q : Nat, s.heap.size ≤ q → A q := fun q h => by rw [← hAe]; exact Or.inr h
  have hS : va_S A s.heap s.heap [] := va_S.rf
  have hl := lv_entry ([.ref (ad 0), .int k, .ref (ad 15)]) (n := 4) (Nat.le_of_ble_eq_true rfl)
  rw [lg_entry_eq]
  generalize (lg_sl ([.ref (ad 0), .int k, .ref (ad 15)]) ++ List.replicate (4 - (lg_sl ([.ref (ad 0), .int k, .ref (ad 15)])).length) Slot.unset).toArray = ls at hl ⊢
  have hl : lv_has ls 4 [(0, .ref (ad 0)), (1, .int k), (2, .ref (ad 15))] := hl
  refine lv_aload_n hx hb d_lw_unseal_0 rfl (lv_at hl 2 rfl) ?_
  refine lv_iconst (v := 0) hx hb d_lw_unseal_1 (by decide) ?_
  refine lv_aload_n hx hb d_lw_unseal_2 rfl (lv_at hl 0 rfl) ?_
  refine lv_iload_n hx hb d_lw_unseal_3 rfl (lv_at hl 1 rfl) ?_
  refine yx_rdl (v := sg_se u k.toNatClampNeg) (As := [.int k]) (rest := [.int (0), .ref (ad 15)]) ⟨hx, hb, hml, hown, hts⟩ (k_ms_unseal l D cs ad _ u (jyx j) k h0 h1) tb_429 tb_430 tb_431 tb_1 tb_432 ⟨rfl, hd_ms_unseal⟩ ⟨Nat.le_of_ble_eq_true rfl, Nat.le_of_ble_eq_true rfl⟩ rfl rfl hK hP hD hN 0 0 rfl rfl hl.1 rfl (Nat.le_of_ble_eq_true rfl) d_lw_unseal_4 ⟨Nat.le_of_ble_eq_true rfl, Nat.le_of_ble_eq_true rfl⟩ hS hA ?_
  refine va_last hx hb hK hP hD hS 0 0 rfl rfl (by unfold vp_in; decide) d_lw_unseal_7 (fun H locs hP hD hS => ?_)
  have hP : va_P D cx (yv ad cs (sg_im u) (sg_ap u) (sg_ag u) (sg_he u) (sg_er u) (sg_ev u) (sg_en u) (sg_ma u) (sg_po u) (sg_se u) (sg_ac u) (sg_fa u) (sg_la u) (sg_st u) (jy_ru j) (jy_nd j) (jy_de j) (jy_rp j) (vp_updL (jy_ou j) (0 : Int32).toNatClampNeg (sg_se u k.toNatClampNeg))) H := hP
  have hD : va_D A (yv ad cs (sg_im u) (sg_ap u) (sg_ag u) (sg_he u) (sg_er u) (sg_ev u) (sg_en u) (sg_ma u) (sg_po u) (sg_se u) (sg_ac u) (sg_fa u) (sg_la u) (sg_st u) (jy_ru j) (jy_nd j) (jy_de j) (jy_rp j) (vp_updL (jy_ou j) (0 : Int32).toNatClampNeg (sg_se u k.toNatClampNeg))) := hD
  refine lv_goto hx hb d_lw_unseal_8 (tgt := 17) (by decide) ?_
  refine lv_iconst (v := 0) hx hb d_lw_unseal_17 (by decide) ?_
  obtain ⟨q1, eq1⟩ : ∃ z : Jy, z = (jy_ru j, jy_nd j, jy_de j, jy_rp j, vp_updL (jy_ou j) (0 : Int32).toNatClampNeg (sg_se u k.toNatClampNeg)) := ⟨_, rfl⟩
  have hP : va_P D cx (yw ad cs u q1) H := by rw [eq1, yw_j]; exact hP
  have hD : va_D A (yw ad cs u q1) := by rw [eq1, yw_j]; exact hD
  exact W.iret hx hb hret (fun t ht hW => ⟨⟨_, q1, rfl, ⟨rfl, (by subst eq1; exact ou_0 (jy_ou j) _)⟩, by rw [ht]; exact hP, va_K.moved hW.alike hK, hD⟩, hS.F ht⟩) hS.2.2 d_lw_unseal_18
set_option maxHeartbeats 4000000 in
set_option maxRecDepth 100000 in
theorem f_lw_unseal (l : Launch) (hl0 : l.stackTraces = false) (D : va_G) (cs : Nat → ClassId) (ad : Nat → Nat) (sz : Nat) (u : Sg) (j : Jy) (k : Int32) (h0 : sp_tk (sg_ma u) k = 0) : Met l y_lw_unseal (Cond.codeWith y_lw_unseal b_lw_unseal 4 (some .int) [(0, 8, 11, 37), (0, 8, 14, 23)] :: TB) { frames := 9, cells := 1, slots := 6, locals := 300 } (va_Pc [.ref (ad 0), .int k, .ref (ad 15)] (yw_Pre D cs ad u j sz)) (va_Qi (fun (r : Int32) (j1 : Jy) => r = 1 ∧ True) (fun (j1 : Jy) t => yw_B D cs ad (va_A (yw ad cs u j) sz) (u) j1 t) (va_A (yw ad cs u j) sz)) 1 6 (va_A (yw ad cs u j) sz) := by
  refine tk_ofWith (cc := b_lw_unseal) (maxL := 4) (ret := (some .int)) (by decide) rfl ?_
  intro p e s m args below meth c s₁ B hml htab hv
  obtain ⟨rfl, hsz, hP, hK, hD, hN, hZ, hC⟩ := hv
  have hx := B.exec
  have hb := B.bytes
  have hret := B.returns
  have hts := atoms_spec (ws := Cond.codeWith y_lw_unseal b_lw_unseal 4 (some .int) [(0, 8, 11, 37), (0, 8, 14, 23)] :: TB) B.pre
  have hT : ∀ w ∈ TB, w.before _ s = true := fun w h => hts w (List.mem_cons_of_mem _ h)
  have hown : s.vm.findClass "MeasuredStagesLaw" = some m.cls := findClass_of_methodNamed B.named
  have hlocks := B.notSynchronized
  subst hsz
  have hD := hD.self (sz := s.heap.size)
  generalize hAe : va_A (yw ad cs u j) s.heap.size = A at hD ⊢
  have hA : ∀ q : Nat, s.heap.size ≤ q → A q := fun q h => by rw [← hAe]; exact Or.inr h
  have hS : va_S A s.heap s.heap [] := va_S.rf
  have hl := lv_entry ([.ref (ad 0), .int k, .ref (ad 15)]) (n := 4) (Nat.le_of_ble_eq_true rfl)
  rw [lg_entry_eq]
  generalize (lg_sl ([.ref (ad 0), .int k, .ref (ad 15)]) ++ List.replicate (4 - (lg_sl ([.ref (ad 0), .int k, .ref (ad 15)])).length) Slot.unset).toArray = ls at hl ⊢
  have hl : lv_has ls 4 [(0, .ref (ad 0)), (1, .int k), (2, .ref (ad 15))] := hl
  refine lv_aload_n hx hb d_lw_unseal_0 rfl (lv_at hl 2 rfl) ?_
  refine lv_iconst (v := 0) hx hb d_lw_unseal_1 (by decide) ?_
  refine lv_aload_n hx hb d_lw_unseal_2 rfl (lv_at hl 0 rfl) ?_
  refine lv_iload_n hx hb d_lw_unseal_3 rfl (lv_at hl 1 rfl) ?_
  obtain ⟨x1, t1, ex1, a1, b1, c1, d1, ht1⟩ := tk_tab htab
  have a1 : x1.startPc = 0 := a1
  have b1 : x1.endPc = 8 := b1
  have c1 : x1.handlerPc = 11 := c1
  have d1 : x1.catchType = 37 := d1
  refine yx_tr (u' := u) (As := [.int k]) (rest := [.int (0), .ref (ad 15)]) ⟨hx, hb, hml, hown, hts⟩ (f_ms_unseal l hl0 D cs ad _ u (jyx j) k h0) tb_429 tb_430 tb_431 tb_1 tb_432 ⟨rfl, hd_ms_unseal⟩ ⟨Nat.le_of_ble_eq_true rfl, Nat.le_of_ble_eq_true rfl⟩ rfl rfl hK hP hD hN 0 0 rfl rfl hl.1 rfl (Nat.le_of_ble_eq_true rfl) d_lw_unseal_4 ⟨Nat.le_of_ble_eq_true rfl, Nat.le_of_ble_eq_true rfl⟩ hS hA hZ [] x1 t1 ex1 (fun z hz => absurd hz List.not_mem_nil) (by unfold covers; rw [a1, b1]; rfl) (by rw [d1]; decide) (by rw [d1]; exact hT _ tb_375) (fun x9 j1 H locs hP hD hS => ?_)
  rw [c1]
  obtain ⟨q9, eq9⟩ : ∃ z : Jy, z = jxy j1 (jy_ou j) := ⟨_, rfl⟩
  rw [← eq9] at hP hD
  refine lv_astore_n (nL := 4) (lv' := [(3, .ref x9), (0, .ref (ad 0)), (1, .int k), (2, .ref (ad 15))]) hx hb d_lw_unseal_11 rfl hl (by decide) rfl (fun ls hl => ?_)
  refine lv_iconst (v := 1) hx hb d_lw_unseal_12 (by decide) ?_
  exact W.iret hx hb hret (fun t ht hW => ⟨⟨_, q9, rfl, ⟨rfl, (by subst eq9; trivial)⟩, by rw [ht]; exact hP, va_K.moved hW.alike hK, hD⟩, hS.F ht⟩) hS.2.2 d_lw_unseal_13
set_option maxHeartbeats 4000000 in
set_option maxRecDepth 100000 in
theorem g_lw_unseal (l : Launch) (hl0 : l.stackTraces = false) (D : va_G) (cs : Nat → ClassId) (ad : Nat → Nat) (sz : Nat) (u : Sg) (j : Jy) (k : Int32) (h0 : sp_tk (sg_ma u) k = 1) (h1 : sp_on u k = 0) : Met l y_lw_unseal (Cond.codeWith y_lw_unseal b_lw_unseal 4 (some .int) [(0, 8, 11, 37), (0, 8, 14, 23)] :: TB) { frames := 9, cells := 1, slots := 6, locals := 300 } (va_Pc [.ref (ad 0), .int k, .ref (ad 15)] (yw_Pre D cs ad u j sz)) (va_Qi (fun (r : Int32) (j1 : Jy) => r = 2 ∧ True) (fun (j1 : Jy) t => yw_B D cs ad (va_A (yw ad cs u j) sz) (u) j1 t) (va_A (yw ad cs u j) sz)) 1 6 (va_A (yw ad cs u j) sz) := by
  refine tk_ofWith (cc := b_lw_unseal) (maxL := 4) (ret := (some .int)) (by decide) rfl ?_
  intro p e s m args below meth c s₁ B hml htab hv
  obtain ⟨rfl, hsz, hP, hK, hD, hN, hZ, hC⟩ := hv
  have hx := B.exec
  have hb := B.bytes
  have hret := B.returns
  have hts := atoms_spec (ws := Cond.codeWith y_lw_unseal b_lw_unseal 4 (some .int) [(0, 8, 11, 37), (0, 8, 14, 23)] :: TB) B.pre
  have hT : ∀ w ∈ TB, w.before _ s = true := fun w h => hts w (List.mem_cons_of_mem _ h)
  have hown : s.vm.findClass "MeasuredStagesLaw" = some m.cls := findClass_of_methodNamed B.named
  have hlocks := B.notSynchronized
  subst hsz
  have hD := hD.self (sz := s.heap.size)
  generalize hAe : va_A (yw ad cs u j) s.heap.size = A at hD ⊢
  have hA : ∀ q : Nat, s.heap.size ≤ q → A q := fun q h => by rw [← hAe]; exact Or.inr h
  have hS : va_S A s.heap s.heap [] := va_S.rf
  have hl := lv_entry ([.ref (ad 0), .int k, .ref (ad 15)]) (n := 4) (Nat.le_of_ble_eq_true rfl)
  rw [lg_entry_eq]
  generalize (lg_sl ([.ref (ad 0), .int k, .ref (ad 15)]) ++ List.replicate (4 - (lg_sl ([.ref (ad 0), .int k, .ref (ad 15)])).length) Slot.unset).toArray = ls at hl ⊢
  have hl : lv_has ls 4 [(0, .ref (ad 0)), (1, .int k), (2, .ref (ad 15))] := hl
  refine lv_aload_n hx hb d_lw_unseal_0 rfl (lv_at hl 2 rfl) ?_
  refine lv_iconst (v := 0) hx hb d_lw_unseal_1 (by decide) ?_
  refine lv_aload_n hx hb d_lw_unseal_2 rfl (lv_at hl 0 rfl) ?_
  refine lv_iload_n hx hb d_lw_unseal_3 rfl (lv_at hl 1 rfl) ?_
  obtain ⟨x1, t1, ex1, a1, b1, c1, d1, ht1⟩ := tk_tab htab
  have a1 : x1.startPc = 0 := a1
  have b1 : x1.endPc = 8 := b1
  have c1 : x1.handlerPc = 11 := c1
  have d1 : x1.catchType = 37 := d1
  obtain ⟨x2, t2, ex2, a2, b2, c2, d2, ht2⟩ := tk_tab ht1
  have a2 : x2.startPc = 0 := a2
  have b2 : x2.endPc = 8 := b2
  have c2 : x2.handlerPc = 14 := c2
  have d2 : x2.catchType = 23 := d2
  refine yx_tr (u' := u) (As := [.int k]) (rest := [.int (0), .ref (ad 15)]) ⟨hx, hb, hml, hown, hts⟩ (g_ms_unseal l hl0 D cs ad _ u (jyx j) k h0 h1) tb_429 tb_430 tb_431 tb_1 tb_432 ⟨rfl, hd_ms_unseal⟩ ⟨Nat.le_of_ble_eq_true rfl, Nat.le_of_ble_eq_true rfl⟩ rfl rfl hK hP hD hN 0 0 rfl rfl hl.1 rfl (Nat.le_of_ble_eq_true rfl) d_lw_unseal_4 ⟨Nat.le_of_ble_eq_true rfl, Nat.le_of_ble_eq_true rfl⟩ hS hA hZ [x1] x2 t2 (by rw [ex1, ex2]; rfl) (fun z hz => by rw [List.mem_singleton.mp hz]; exact Or.inr ⟨by rw [d1]; decide, "java/util/NoSuchElementException", by rw [d1]; exact hT _ tb_375, hC.2.2⟩) (by unfold covers; rw [a2, b2]; rfl) (by rw [d2]; decide) (by rw [d2]; exact hT _ tb_239) (fun x9 j1 H locs hP hD hS => ?_)
  rw [c2]
  obtain ⟨q9, eq9⟩ : ∃ z : Jy, z = jxy j1 (jy_ou j) := ⟨_, rfl⟩
  rw [← eq9] at hP hD
  refine lv_astore_n (nL := 4) (lv' := [(3, .ref x9), (0, .ref (ad 0)), (1, .int k), (2, .ref (ad 15))]) hx hb d_lw_unseal_14 rfl hl (by decide) rfl (fun ls hl => ?_)
  refine lv_iconst (v := 2) hx hb d_lw_unseal_15 (by decide) ?_
  exact W.iret hx hb hret (fun t ht hW => ⟨⟨_, q9, rfl, ⟨rfl, (by subst eq9; trivial)⟩, by rw [ht]; exact hP, va_K.moved hW.alike hK, hD⟩, hS.F ht⟩) hS.2.2 d_lw_unseal_16
set_option maxHeartbeats 4000000 in
set_option maxRecDepth 100000 in
theorem k_lw_discard (l : Launch) (D : va_G) (cs : Nat → ClassId) (ad : Nat → Nat) (sz : Nat) (u : Sg) (j : Jy) (k : Int32) (h0 : sp_tk (sg_ma u) k = 1) : Met l y_lw_discard (Cond.codeWith y_lw_discard b_lw_discard 3 (some .int) [(0, 5, 8, 37)] :: TB) { frames := 9, cells := 0, slots := 0, locals := 300 } (va_Pc [.ref (ad 0), .int k] (yw_Pre D cs ad u j sz)) (va_Qi (fun (r : Int32) (j1 : Jy) => r = 0 ∧ True) (fun (j1 : Jy) t => yw_B D cs ad (va_A (yw ad cs u j) sz) (ss_ma u (upd (sg_ma u) k.toNatClampNeg 0)) j1 t) (va_A (yw ad cs u j) sz)) 0 0 (va_A (yw ad cs u j) sz) := by
  refine tk_ofWith (cc := b_lw_discard) (maxL := 3) (ret := (some .int)) (by decide) rfl ?_
  intro p e s m args below meth c s₁ B hml htab hv
  obtain ⟨rfl, hsz, hP, hK, hD, hN, hZ, hC⟩ := hv
  have hx := B.exec
  have hb := B.bytes
  have hret := B.returns
  have hts := atoms_spec (ws := Cond.codeWith y_lw_discard b_lw_discard 3 (some .int) [(0, 5, 8, 37)] :: TB) B.pre
  have hT : ∀ w ∈ TB, w.before _ s = true := fun w h => hts w (List.mem_cons_of_mem _ h)
  have hown : s.vm.findClass "MeasuredStagesLaw" = some m.cls := findClass_of_methodNamed B.named
  have hlocks := B.notSynchronized
  subst hsz
  have hD := hD.self (sz := s.heap.size)
  generalize hAe : va_A (yw ad cs u j) s.heap.size = A at hD ⊢
  have hA : ∀ q : Nat, s.heap.size ≤ q → A q := fun q h => by rw [← hAe]; exact Or.inr h
  have hS : va_S A s.heap s.heap [] := va_S.rf
  have hl := lv_entry ([.ref (ad 0), .int k]) (n := 3) (Nat.le_of_ble_eq_true rfl)
  rw [lg_entry_eq]
  generalize (lg_sl ([.ref (ad 0), .int k]) ++ List.replicate (3 - (lg_sl ([.ref (ad 0), .int k])).length) Slot.unset).toArray = ls at hl ⊢
  have hl : lv_has ls 3 [(0, .ref (ad 0)), (1, .int k)] := hl
  refine lv_aload_n hx hb d_lw_discard_0 rfl (lv_at hl 0 rfl) ?_
  refine lv_iload_n hx hb d_lw_discard_1 rfl (lv_at hl 1 rfl) ?_
  refine yx_wrv (u' := ss_ma u (upd (sg_ma u) k.toNatClampNeg 0)) (As := [.int k]) (rest := []) ⟨hx, hb, hml, hown, hts⟩ (k_ms_discard l D cs ad _ u (jyx j) k h0) tb_438 tb_439 tb_440 tb_1 tb_441 ⟨rfl, hd_ms_discard⟩ ⟨Nat.le_of_ble_eq_true rfl, Nat.le_of_ble_eq_true rfl⟩ rfl rfl hK hP hD hN 0 0 rfl rfl hl.1 rfl (Nat.le_of_ble_eq_true rfl) d_lw_discard_2 ⟨Nat.le_of_ble_eq_true rfl, Nat.le_of_ble_eq_true rfl⟩ hS hA (fun j1 H locs hp hP hD hS => ?_)
  obtain ⟨v9, ev9⟩ : ∃ z : Sg, z = ss_ma u (upd (sg_ma u) k.toNatClampNeg 0) := ⟨_, rfl⟩
  rw [← ev9] at hP hD
  obtain ⟨q9, eq9⟩ : ∃ z : Jy, z = jxy j1 (jy_ou j) := ⟨_, rfl⟩
  rw [← eq9] at hP hD
  refine lv_goto hx hb d_lw_discard_5 (tgt := 11) (by decide) ?_
  refine lv_iconst (v := 0) hx hb d_lw_discard_11 (by decide) ?_
  subst ev9
  exact W.iret hx hb hret (fun t ht hW => ⟨⟨_, q9, rfl, ⟨rfl, (by subst eq9; trivial)⟩, by rw [ht]; exact hP, va_K.moved hW.alike hK, hD⟩, hS.F ht⟩) hS.2.2 d_lw_discard_12
set_option maxHeartbeats 4000000 in
set_option maxRecDepth 100000 in
theorem f_lw_discard (l : Launch) (hl0 : l.stackTraces = false) (D : va_G) (cs : Nat → ClassId) (ad : Nat → Nat) (sz : Nat) (u : Sg) (j : Jy) (k : Int32) (h0 : sp_tk (sg_ma u) k = 0) : Met l y_lw_discard (Cond.codeWith y_lw_discard b_lw_discard 3 (some .int) [(0, 5, 8, 37)] :: TB) { frames := 9, cells := 1, slots := 6, locals := 300 } (va_Pc [.ref (ad 0), .int k] (yw_Pre D cs ad u j sz)) (va_Qi (fun (r : Int32) (j1 : Jy) => r = 1 ∧ True) (fun (j1 : Jy) t => yw_B D cs ad (va_A (yw ad cs u j) sz) (u) j1 t) (va_A (yw ad cs u j) sz)) 1 6 (va_A (yw ad cs u j) sz) := by
  refine tk_ofWith (cc := b_lw_discard) (maxL := 3) (ret := (some .int)) (by decide) rfl ?_
  intro p e s m args below meth c s₁ B hml htab hv
  obtain ⟨rfl, hsz, hP, hK, hD, hN, hZ, hC⟩ := hv
  have hx := B.exec
  have hb := B.bytes
  have hret := B.returns
  have hts := atoms_spec (ws := Cond.codeWith y_lw_discard b_lw_discard 3 (some .int) [(0, 5, 8, 37)] :: TB) B.pre
  have hT : ∀ w ∈ TB, w.before _ s = true := fun w h => hts w (List.mem_cons_of_mem _ h)
  have hown : s.vm.findClass "MeasuredStagesLaw" = some m.cls := findClass_of_methodNamed B.named
  have hlocks := B.notSynchronized
  subst hsz
  have hD := hD.self (sz := s.heap.size)
  generalize hAe : va_A (yw ad cs u j) s.heap.size = A at hD ⊢
  have hA : ∀ q : Nat, s.heap.size ≤ q → A q := fun q h => by rw [← hAe]; exact Or.inr h
  have hS : va_S A s.heap s.heap [] := va_S.rf
  have hl := lv_entry ([.ref (ad 0), .int k]) (n := 3) (Nat.le_of_ble_eq_true rfl)
  rw [lg_entry_eq]
  generalize (lg_sl ([.ref (ad 0), .int k]) ++ List.replicate (3 - (lg_sl ([.ref (ad 0), .int k])).length) Slot.unset).toArray = ls at hl ⊢
  have hl : lv_has ls 3 [(0, .ref (ad 0)), (1, .int k)] := hl
  refine lv_aload_n hx hb d_lw_discard_0 rfl (lv_at hl 0 rfl) ?_
  refine lv_iload_n hx hb d_lw_discard_1 rfl (lv_at hl 1 rfl) ?_
  obtain ⟨x1, t1, ex1, a1, b1, c1, d1, ht1⟩ := tk_tab htab
  have a1 : x1.startPc = 0 := a1
  have b1 : x1.endPc = 5 := b1
  have c1 : x1.handlerPc = 8 := c1
  have d1 : x1.catchType = 37 := d1
  refine yx_tr (u' := u) (As := [.int k]) (rest := []) ⟨hx, hb, hml, hown, hts⟩ (f_ms_discard l hl0 D cs ad _ u (jyx j) k h0) tb_438 tb_439 tb_440 tb_1 tb_441 ⟨rfl, hd_ms_discard⟩ ⟨Nat.le_of_ble_eq_true rfl, Nat.le_of_ble_eq_true rfl⟩ rfl rfl hK hP hD hN 0 0 rfl rfl hl.1 rfl (Nat.le_of_ble_eq_true rfl) d_lw_discard_2 ⟨Nat.le_of_ble_eq_true rfl, Nat.le_of_ble_eq_true rfl⟩ hS hA hZ [] x1 t1 ex1 (fun z hz => absurd hz List.not_mem_nil) (by unfold covers; rw [a1, b1]; rfl) (by rw [d1]; decide) (by rw [d1]; exact hT _ tb_375) (fun x9 j1 H locs hP hD hS => ?_)
  rw [c1]
  obtain ⟨q9, eq9⟩ : ∃ z : Jy, z = jxy j1 (jy_ou j) := ⟨_, rfl⟩
  rw [← eq9] at hP hD
  refine lv_astore_n (nL := 3) (lv' := [(2, .ref x9), (0, .ref (ad 0)), (1, .int k)]) hx hb d_lw_discard_8 rfl hl (by decide) rfl (fun ls hl => ?_)
  refine lv_iconst (v := 1) hx hb d_lw_discard_9 (by decide) ?_
  exact W.iret hx hb hret (fun t ht hW => ⟨⟨_, q9, rfl, ⟨rfl, (by subst eq9; trivial)⟩, by rw [ht]; exact hP, va_K.moved hW.alike hK, hD⟩, hS.F ht⟩) hS.2.2 d_lw_discard_10
set_option maxHeartbeats 4000000 in
set_option maxRecDepth 100000 in
theorem k_lw_quote (l : Launch) (D : va_G) (cs : Nat → ClassId) (ad : Nat → Nat) (sz : Nat) (u : Sg) (j : Jy) (a b : Int64) (mask : Int32) (hm : sp_mk mask = 1) : Met l y_lw_quote (Cond.codeWith y_lw_quote b_lw_quote 8 (some .int) [(0, 12, 15, 13)] :: TB) { frames := 9, cells := 0, slots := 0, locals := 300 } (va_Pc [.ref (ad 0), .long a, .long b, .int mask, .ref (ad 15)] (yw_Pre D cs ad u j sz)) (va_Qi (fun (r : Int32) (j1 : Jy) => r = 0 ∧ jy_ou j1 0 = sp_h (sp_h a b) (sp_po u mask)) (fun (j1 : Jy) t => yw_B D cs ad (va_A (yw ad cs u j) sz) (u) j1 t) (va_A (yw ad cs u j) sz)) 0 0 (va_A (yw ad cs u j) sz) := by
  refine tk_ofWith (cc := b_lw_quote) (maxL := 8) (ret := (some .int)) (by decide) rfl ?_
  intro p e s m args below meth c s₁ B hml htab hv
  obtain ⟨rfl, hsz, hP, hK, hD, hN, hZ, hC⟩ := hv
  have hx := B.exec
  have hb := B.bytes
  have hret := B.returns
  have hts := atoms_spec (ws := Cond.codeWith y_lw_quote b_lw_quote 8 (some .int) [(0, 12, 15, 13)] :: TB) B.pre
  have hT : ∀ w ∈ TB, w.before _ s = true := fun w h => hts w (List.mem_cons_of_mem _ h)
  have hown : s.vm.findClass "MeasuredStagesLaw" = some m.cls := findClass_of_methodNamed B.named
  have hlocks := B.notSynchronized
  subst hsz
  have hD := hD.self (sz := s.heap.size)
  generalize hAe : va_A (yw ad cs u j) s.heap.size = A at hD ⊢
  have hA : ∀ q : Nat, s.heap.size ≤ q → A q := fun q h => by rw [← hAe]; exact Or.inr h
  have hS : va_S A s.heap s.heap [] := va_S.rf
  have hl := lv_entry ([.ref (ad 0), .long a, .long b, .int mask, .ref (ad 15)]) (n := 8) (Nat.le_of_ble_eq_true rfl)
  rw [lg_entry_eq]
  generalize (lg_sl ([.ref (ad 0), .long a, .long b, .int mask, .ref (ad 15)]) ++ List.replicate (8 - (lg_sl ([.ref (ad 0), .long a, .long b, .int mask, .ref (ad 15)])).length) Slot.unset).toArray = ls at hl ⊢
  have hl : lv_has ls 8 [(0, .ref (ad 0)), (1, .long a), (3, .long b), (5, .int mask), (6, .ref (ad 15))] := hl
  refine lv_aload hx hb d_lw_quote_0 (lv_at hl 4 rfl) ?_
  refine lv_iconst (v := 0) hx hb d_lw_quote_2 (by decide) ?_
  refine lv_aload_n hx hb d_lw_quote_3 rfl (lv_at hl 0 rfl) ?_
  refine lv_lload_n hx hb d_lw_quote_4 rfl (lv_at hl 1 rfl) ?_
  refine lv_lload_n hx hb d_lw_quote_5 rfl (lv_at hl 2 rfl) ?_
  refine lv_iload hx hb d_lw_quote_6 (lv_at hl 3 rfl) ?_
  refine yx_rdl (v := sp_h (sp_h a b) (sp_po u mask)) (As := [.long a, .long b, .int mask]) (rest := [.int (0), .ref (ad 15)]) ⟨hx, hb, hml, hown, hts⟩ (k_ms_quote l D cs ad _ u (jyx j) a b mask hm) tb_449 tb_450 tb_451 tb_1 tb_452 ⟨rfl, hd_ms_quote⟩ ⟨Nat.le_of_ble_eq_true rfl, Nat.le_of_ble_eq_true rfl⟩ rfl rfl hK hP hD hN 0 0 rfl rfl hl.1 rfl (Nat.le_of_ble_eq_true rfl) d_lw_quote_8 ⟨Nat.le_of_ble_eq_true rfl, Nat.le_of_ble_eq_true rfl⟩ hS hA ?_
  refine va_last hx hb hK hP hD hS 0 0 rfl rfl (by unfold vp_in; decide) d_lw_quote_11 (fun H locs hP hD hS => ?_)
  have hP : va_P D cx (yv ad cs (sg_im u) (sg_ap u) (sg_ag u) (sg_he u) (sg_er u) (sg_ev u) (sg_en u) (sg_ma u) (sg_po u) (sg_se u) (sg_ac u) (sg_fa u) (sg_la u) (sg_st u) (jy_ru j) (jy_nd j) (jy_de j) (jy_rp j) (vp_updL (jy_ou j) (0 : Int32).toNatClampNeg (sp_h (sp_h a b) (sp_po u mask)))) H := hP
  have hD : va_D A (yv ad cs (sg_im u) (sg_ap u) (sg_ag u) (sg_he u) (sg_er u) (sg_ev u) (sg_en u) (sg_ma u) (sg_po u) (sg_se u) (sg_ac u) (sg_fa u) (sg_la u) (sg_st u) (jy_ru j) (jy_nd j) (jy_de j) (jy_rp j) (vp_updL (jy_ou j) (0 : Int32).toNatClampNeg (sp_h (sp_h a b) (sp_po u mask)))) := hD
  refine lv_goto hx hb d_lw_quote_12 (tgt := 19) (by decide) ?_
  refine lv_iconst (v := 0) hx hb d_lw_quote_19 (by decide) ?_
  obtain ⟨q1, eq1⟩ : ∃ z : Jy, z = (jy_ru j, jy_nd j, jy_de j, jy_rp j, vp_updL (jy_ou j) (0 : Int32).toNatClampNeg (sp_h (sp_h a b) (sp_po u mask))) := ⟨_, rfl⟩
  have hP : va_P D cx (yw ad cs u q1) H := by rw [eq1, yw_j]; exact hP
  have hD : va_D A (yw ad cs u q1) := by rw [eq1, yw_j]; exact hD
  exact W.iret hx hb hret (fun t ht hW => ⟨⟨_, q1, rfl, ⟨rfl, (by subst eq1; exact ou_0 (jy_ou j) _)⟩, by rw [ht]; exact hP, va_K.moved hW.alike hK, hD⟩, hS.F ht⟩) hS.2.2 d_lw_quote_20
set_option maxHeartbeats 4000000 in
set_option maxRecDepth 100000 in
theorem f_lw_quote (l : Launch) (hl0 : l.stackTraces = false) (D : va_G) (cs : Nat → ClassId) (ad : Nat → Nat) (sz : Nat) (u : Sg) (j : Jy) (a b : Int64) (mask : Int32) (hm : sp_mk mask = 0) : Met l y_lw_quote (Cond.codeWith y_lw_quote b_lw_quote 8 (some .int) [(0, 12, 15, 13)] :: TB) { frames := 9, cells := 1, slots := 6, locals := 300 } (va_Pc [.ref (ad 0), .long a, .long b, .int mask, .ref (ad 15)] (yw_Pre D cs ad u j sz)) (va_Qi (fun (r : Int32) (j1 : Jy) => r = 1 ∧ True) (fun (j1 : Jy) t => yw_B D cs ad (va_A (yw ad cs u j) sz) (u) j1 t) (va_A (yw ad cs u j) sz)) 1 6 (va_A (yw ad cs u j) sz) := by
  refine tk_ofWith (cc := b_lw_quote) (maxL := 8) (ret := (some .int)) (by decide) rfl ?_
  intro p e s m args below meth c s₁ B hml htab hv
  obtain ⟨rfl, hsz, hP, hK, hD, hN, hZ, hC⟩ := hv
  have hx := B.exec
  have hb := B.bytes
  have hret := B.returns
  have hts := atoms_spec (ws := Cond.codeWith y_lw_quote b_lw_quote 8 (some .int) [(0, 12, 15, 13)] :: TB) B.pre
  have hT : ∀ w ∈ TB, w.before _ s = true := fun w h => hts w (List.mem_cons_of_mem _ h)
  have hown : s.vm.findClass "MeasuredStagesLaw" = some m.cls := findClass_of_methodNamed B.named
  have hlocks := B.notSynchronized
  subst hsz
  have hD := hD.self (sz := s.heap.size)
  generalize hAe : va_A (yw ad cs u j) s.heap.size = A at hD ⊢
  have hA : ∀ q : Nat, s.heap.size ≤ q → A q := fun q h => by rw [← hAe]; exact Or.inr h
  have hS : va_S A s.heap s.heap [] := va_S.rf
  have hl := lv_entry ([.ref (ad 0), .long a, .long b, .int mask, .ref (ad 15)]) (n := 8) (Nat.le_of_ble_eq_true rfl)
  rw [lg_entry_eq]
  generalize (lg_sl ([.ref (ad 0), .long a, .long b, .int mask, .ref (ad 15)]) ++ List.replicate (8 - (lg_sl ([.ref (ad 0), .long a, .long b, .int mask, .ref (ad 15)])).length) Slot.unset).toArray = ls at hl ⊢
  have hl : lv_has ls 8 [(0, .ref (ad 0)), (1, .long a), (3, .long b), (5, .int mask), (6, .ref (ad 15))] := hl
  refine lv_aload hx hb d_lw_quote_0 (lv_at hl 4 rfl) ?_
  refine lv_iconst (v := 0) hx hb d_lw_quote_2 (by decide) ?_
  refine lv_aload_n hx hb d_lw_quote_3 rfl (lv_at hl 0 rfl) ?_
  refine lv_lload_n hx hb d_lw_quote_4 rfl (lv_at hl 1 rfl) ?_
  refine lv_lload_n hx hb d_lw_quote_5 rfl (lv_at hl 2 rfl) ?_
  refine lv_iload hx hb d_lw_quote_6 (lv_at hl 3 rfl) ?_
  obtain ⟨x1, t1, ex1, a1, b1, c1, d1, ht1⟩ := tk_tab htab
  have a1 : x1.startPc = 0 := a1
  have b1 : x1.endPc = 12 := b1
  have c1 : x1.handlerPc = 15 := c1
  have d1 : x1.catchType = 13 := d1
  refine yx_tr (u' := u) (As := [.long a, .long b, .int mask]) (rest := [.int (0), .ref (ad 15)]) ⟨hx, hb, hml, hown, hts⟩ (f_ms_quote l hl0 D cs ad _ u (jyx j) a b mask hm) tb_449 tb_450 tb_451 tb_1 tb_452 ⟨rfl, hd_ms_quote⟩ ⟨Nat.le_of_ble_eq_true rfl, Nat.le_of_ble_eq_true rfl⟩ rfl rfl hK hP hD hN 0 0 rfl rfl hl.1 rfl (Nat.le_of_ble_eq_true rfl) d_lw_quote_8 ⟨Nat.le_of_ble_eq_true rfl, Nat.le_of_ble_eq_true rfl⟩ hS hA hZ [] x1 t1 ex1 (fun z hz => absurd hz List.not_mem_nil) (by unfold covers; rw [a1, b1]; rfl) (by rw [d1]; decide) (by rw [d1]; exact hT _ tb_146) (fun x9 j1 H locs hP hD hS => ?_)
  rw [c1]
  obtain ⟨q9, eq9⟩ : ∃ z : Jy, z = jxy j1 (jy_ou j) := ⟨_, rfl⟩
  rw [← eq9] at hP hD
  refine lv_astore (nL := 8) (lv' := [(7, .ref x9), (0, .ref (ad 0)), (1, .long a), (3, .long b), (5, .int mask), (6, .ref (ad 15))]) hx hb d_lw_quote_15 hl (by decide) rfl (fun ls hl => ?_)
  refine lv_iconst (v := 1) hx hb d_lw_quote_17 (by decide) ?_
  exact W.iret hx hb hret (fun t ht hW => ⟨⟨_, q9, rfl, ⟨rfl, (by subst eq9; trivial)⟩, by rw [ht]; exact hP, va_K.moved hW.alike hK, hD⟩, hS.F ht⟩) hS.2.2 d_lw_quote_18
