theorem d_bl_fill_0 : decode b_bl_fill 0 = .ok (.aload_n 0, 1) := by decide +kernel
theorem d_bl_fill_1 : decode b_bl_fill 1 = .ok (.getfield 9, 3) := by decide +kernel
theorem d_bl_fill_4 : decode b_bl_fill 4 = .ok (.iload_n 1, 1) := by decide +kernel
theorem d_bl_fill_5 : decode b_bl_fill 5 = .ok (.iload_n 2, 1) := by decide +kernel
theorem d_bl_fill_6 : decode b_bl_fill 6 = .ok (.iastore, 1) := by decide +kernel
theorem d_bl_fill_7 : decode b_bl_fill 7 = .ok (.aload_n 0, 1) := by decide +kernel
theorem d_bl_fill_8 : decode b_bl_fill 8 = .ok (.getfield 13, 3) := by decide +kernel
theorem d_bl_fill_11 : decode b_bl_fill 11 = .ok (.iload_n 1, 1) := by decide +kernel
theorem d_bl_fill_12 : decode b_bl_fill 12 = .ok (.lload_n 3, 1) := by decide +kernel
theorem d_bl_fill_13 : decode b_bl_fill 13 = .ok (.lastore, 1) := by decide +kernel
theorem d_bl_fill_14 : decode b_bl_fill 14 = .ok (.aload_n 0, 1) := by decide +kernel
theorem d_bl_fill_15 : decode b_bl_fill 15 = .ok (.getfield 17, 3) := by decide +kernel
theorem d_bl_fill_18 : decode b_bl_fill 18 = .ok (.iload_n 1, 1) := by decide +kernel
theorem d_bl_fill_19 : decode b_bl_fill 19 = .ok (.lload 5, 2) := by decide +kernel
theorem d_bl_fill_21 : decode b_bl_fill 21 = .ok (.lastore, 1) := by decide +kernel
theorem d_bl_fill_22 : decode b_bl_fill 22 = .ok (.return_, 1) := by decide +kernel
theorem d_bl_free_0 : decode b_bl_free 0 = .ok (.aload_n 0, 1) := by decide +kernel
theorem d_bl_free_1 : decode b_bl_free 1 = .ok (.getfield 9, 3) := by decide +kernel
theorem d_bl_free_4 : decode b_bl_free 4 = .ok (.iload_n 1, 1) := by decide +kernel
theorem d_bl_free_5 : decode b_bl_free 5 = .ok (.iconst 0, 1) := by decide +kernel
theorem d_bl_free_6 : decode b_bl_free 6 = .ok (.iastore, 1) := by decide +kernel
theorem d_bl_free_7 : decode b_bl_free 7 = .ok (.return_, 1) := by decide +kernel
theorem d_rg_measure_0 : decode b_rg_measure 0 = .ok (.aload_n 0, 1) := by decide +kernel
theorem d_rg_measure_1 : decode b_rg_measure 1 = .ok (.getfield 25, 3) := by decide +kernel
theorem d_rg_measure_4 : decode b_rg_measure 4 = .ok (.bipush 32, 2) := by decide +kernel
theorem d_rg_measure_6 : decode b_rg_measure 6 = .ok (.if_icmp .lt 5, 3) := by decide +kernel
theorem d_rg_measure_9 : decode b_rg_measure 9 = .ok (.iconst 0, 1) := by decide +kernel
theorem d_rg_measure_10 : decode b_rg_measure 10 = .ok (.ireturn, 1) := by decide +kernel
theorem d_rg_measure_11 : decode b_rg_measure 11 = .ok (.aload_n 0, 1) := by decide +kernel
theorem d_rg_measure_12 : decode b_rg_measure 12 = .ok (.getfield 11, 3) := by decide +kernel
theorem d_rg_measure_15 : decode b_rg_measure 15 = .ok (.iload_n 1, 1) := by decide +kernel
theorem d_rg_measure_16 : decode b_rg_measure 16 = .ok (.aload_n 0, 1) := by decide +kernel
theorem d_rg_measure_17 : decode b_rg_measure 17 = .ok (.getfield 11, 3) := by decide +kernel
theorem d_rg_measure_20 : decode b_rg_measure 20 = .ok (.iload_n 1, 1) := by decide +kernel
theorem d_rg_measure_21 : decode b_rg_measure 21 = .ok (.laload, 1) := by decide +kernel
theorem d_rg_measure_22 : decode b_rg_measure 22 = .ok (.lload_n 2, 1) := by decide +kernel
theorem d_rg_measure_23 : decode b_rg_measure 23 = .ok (.invokestatic 35, 3) := by decide +kernel
theorem d_rg_measure_26 : decode b_rg_measure 26 = .ok (.lastore, 1) := by decide +kernel
theorem d_rg_measure_27 : decode b_rg_measure 27 = .ok (.aload_n 0, 1) := by decide +kernel
theorem d_rg_measure_28 : decode b_rg_measure 28 = .ok (.getfield 15, 3) := by decide +kernel
theorem d_rg_measure_31 : decode b_rg_measure 31 = .ok (.aload_n 0, 1) := by decide +kernel
theorem d_rg_measure_32 : decode b_rg_measure 32 = .ok (.getfield 25, 3) := by decide +kernel
theorem d_rg_measure_35 : decode b_rg_measure 35 = .ok (.iload_n 1, 1) := by decide +kernel
theorem d_rg_measure_36 : decode b_rg_measure 36 = .ok (.iastore, 1) := by decide +kernel
theorem d_rg_measure_37 : decode b_rg_measure 37 = .ok (.aload_n 0, 1) := by decide +kernel
theorem d_rg_measure_38 : decode b_rg_measure 38 = .ok (.getfield 19, 3) := by decide +kernel
theorem d_rg_measure_41 : decode b_rg_measure 41 = .ok (.aload_n 0, 1) := by decide +kernel
theorem d_rg_measure_42 : decode b_rg_measure 42 = .ok (.getfield 25, 3) := by decide +kernel
theorem d_rg_measure_45 : decode b_rg_measure 45 = .ok (.lload_n 2, 1) := by decide +kernel
theorem d_rg_measure_46 : decode b_rg_measure 46 = .ok (.lastore, 1) := by decide +kernel
theorem d_rg_measure_47 : decode b_rg_measure 47 = .ok (.aload_n 0, 1) := by decide +kernel
theorem d_rg_measure_48 : decode b_rg_measure 48 = .ok (.dup, 1) := by decide +kernel
theorem d_rg_measure_49 : decode b_rg_measure 49 = .ok (.getfield 25, 3) := by decide +kernel
theorem d_rg_measure_52 : decode b_rg_measure 52 = .ok (.iconst 1, 1) := by decide +kernel
theorem d_rg_measure_53 : decode b_rg_measure 53 = .ok (.iadd, 1) := by decide +kernel
theorem d_rg_measure_54 : decode b_rg_measure 54 = .ok (.putfield 25, 3) := by decide +kernel
theorem d_rg_measure_57 : decode b_rg_measure 57 = .ok (.iconst 1, 1) := by decide +kernel
theorem d_rg_measure_58 : decode b_rg_measure 58 = .ok (.ireturn, 1) := by decide +kernel
theorem d_ms_extendOrFault_0 : decode b_ms_extendOrFault 0 = .ok (.aload_n 0, 1) := by decide +kernel
theorem d_ms_extendOrFault_1 : decode b_ms_extendOrFault 1 = .ok (.getfield 23, 3) := by decide +kernel
theorem d_ms_extendOrFault_4 : decode b_ms_extendOrFault 4 = .ok (.iload_n 1, 1) := by decide +kernel
theorem d_ms_extendOrFault_5 : decode b_ms_extendOrFault 5 = .ok (.lload_n 2, 1) := by decide +kernel
theorem d_ms_extendOrFault_6 : decode b_ms_extendOrFault 6 = .ok (.invokevirtual 96, 3) := by decide +kernel
theorem d_ms_extendOrFault_9 : decode b_ms_extendOrFault 9 = .ok (.ifCond .eq 7, 3) := by decide +kernel
theorem d_ms_extendOrFault_12 : decode b_ms_extendOrFault 12 = .ok (.iconst 0, 1) := by decide +kernel
theorem d_ms_extendOrFault_13 : decode b_ms_extendOrFault 13 = .ok (.goto 4, 3) := by decide +kernel
theorem d_ms_extendOrFault_16 : decode b_ms_extendOrFault 16 = .ok (.iconst 4, 1) := by decide +kernel
theorem d_ms_extendOrFault_17 : decode b_ms_extendOrFault 17 = .ok (.ireturn, 1) := by decide +kernel
theorem d_ms_takeDigit_0 : decode b_ms_takeDigit 0 = .ok (.aload_n 0, 1) := by decide +kernel
theorem d_ms_takeDigit_1 : decode b_ms_takeDigit 1 = .ok (.getfield 37, 3) := by decide +kernel
theorem d_ms_takeDigit_4 : decode b_ms_takeDigit 4 = .ok (.aload_n 0, 1) := by decide +kernel
theorem d_ms_takeDigit_5 : decode b_ms_takeDigit 5 = .ok (.getfield 179, 3) := by decide +kernel
theorem d_ms_takeDigit_8 : decode b_ms_takeDigit 8 = .ok (.iaload, 1) := by decide +kernel
theorem d_ms_takeDigit_9 : decode b_ms_takeDigit 9 = .ok (.istore_n 1, 1) := by decide +kernel
theorem d_ms_takeDigit_10 : decode b_ms_takeDigit 10 = .ok (.aload_n 0, 1) := by decide +kernel
theorem d_ms_takeDigit_11 : decode b_ms_takeDigit 11 = .ok (.getfield 37, 3) := by decide +kernel
theorem d_ms_takeDigit_14 : decode b_ms_takeDigit 14 = .ok (.aload_n 0, 1) := by decide +kernel
theorem d_ms_takeDigit_15 : decode b_ms_takeDigit 15 = .ok (.getfield 179, 3) := by decide +kernel
theorem d_ms_takeDigit_18 : decode b_ms_takeDigit 18 = .ok (.iload_n 1, 1) := by decide +kernel
theorem d_ms_takeDigit_19 : decode b_ms_takeDigit 19 = .ok (.iconst 1, 1) := by decide +kernel
theorem d_ms_takeDigit_20 : decode b_ms_takeDigit 20 = .ok (.iadd, 1) := by decide +kernel
theorem d_ms_takeDigit_21 : decode b_ms_takeDigit 21 = .ok (.iastore, 1) := by decide +kernel
theorem d_ms_takeDigit_22 : decode b_ms_takeDigit 22 = .ok (.iload_n 1, 1) := by decide +kernel
theorem d_ms_takeDigit_23 : decode b_ms_takeDigit 23 = .ok (.bipush 16, 2) := by decide +kernel
theorem d_ms_takeDigit_25 : decode b_ms_takeDigit 25 = .ok (.if_icmp .ge 23, 3) := by decide +kernel
theorem d_ms_takeDigit_28 : decode b_ms_takeDigit 28 = .ok (.aload_n 0, 1) := by decide +kernel
theorem d_ms_takeDigit_29 : decode b_ms_takeDigit 29 = .ok (.getfield 34, 3) := by decide +kernel
theorem d_ms_takeDigit_32 : decode b_ms_takeDigit 32 = .ok (.aload_n 0, 1) := by decide +kernel
theorem d_ms_takeDigit_33 : decode b_ms_takeDigit 33 = .ok (.getfield 179, 3) := by decide +kernel
theorem d_ms_takeDigit_36 : decode b_ms_takeDigit 36 = .ok (.laload, 1) := by decide +kernel
theorem d_ms_takeDigit_37 : decode b_ms_takeDigit 37 = .ok (.iconst 4, 1) := by decide +kernel
theorem d_ms_takeDigit_38 : decode b_ms_takeDigit 38 = .ok (.iload_n 1, 1) := by decide +kernel
theorem d_ms_takeDigit_39 : decode b_ms_takeDigit 39 = .ok (.imul, 1) := by decide +kernel
theorem d_ms_takeDigit_40 : decode b_ms_takeDigit 40 = .ok (.lushr, 1) := by decide +kernel
theorem d_ms_takeDigit_41 : decode b_ms_takeDigit 41 = .ok (.l2i, 1) := by decide +kernel
theorem d_ms_takeDigit_42 : decode b_ms_takeDigit 42 = .ok (.bipush 15, 2) := by decide +kernel
theorem d_ms_takeDigit_44 : decode b_ms_takeDigit 44 = .ok (.iand, 1) := by decide +kernel
theorem d_ms_takeDigit_45 : decode b_ms_takeDigit 45 = .ok (.goto 4, 3) := by decide +kernel
theorem d_ms_takeDigit_48 : decode b_ms_takeDigit 48 = .ok (.iconst 0, 1) := by decide +kernel
theorem d_ms_takeDigit_49 : decode b_ms_takeDigit 49 = .ok (.ireturn, 1) := by decide +kernel
theorem d_ms_takeImage_0 : decode b_ms_takeImage 0 = .ok (.aload_n 0, 1) := by decide +kernel
theorem d_ms_takeImage_1 : decode b_ms_takeImage 1 = .ok (.invokevirtual 185, 3) := by decide +kernel
theorem d_ms_takeImage_4 : decode b_ms_takeImage 4 = .ok (.bipush 8, 2) := by decide +kernel
theorem d_ms_takeImage_6 : decode b_ms_takeImage 6 = .ok (.irem, 1) := by decide +kernel
theorem d_ms_takeImage_7 : decode b_ms_takeImage 7 = .ok (.ireturn, 1) := by decide +kernel
theorem d_ms_takeRegister_0 : decode b_ms_takeRegister 0 = .ok (.aload_n 0, 1) := by decide +kernel
theorem d_ms_takeRegister_1 : decode b_ms_takeRegister 1 = .ok (.invokevirtual 185, 3) := by decide +kernel
theorem d_ms_takeRegister_4 : decode b_ms_takeRegister 4 = .ok (.bipush 6, 2) := by decide +kernel
theorem d_ms_takeRegister_6 : decode b_ms_takeRegister 6 = .ok (.irem, 1) := by decide +kernel
theorem d_ms_takeRegister_7 : decode b_ms_takeRegister 7 = .ok (.ireturn, 1) := by decide +kernel
theorem d_ms_launchAt_0 : decode b_ms_launchAt 0 = .ok (.iload_n 1, 1) := by decide +kernel
theorem d_ms_launchAt_1 : decode b_ms_launchAt 1 = .ok (.bipush 6, 2) := by decide +kernel
theorem d_ms_launchAt_3 : decode b_ms_launchAt 3 = .ok (.if_icmp .lt 5, 3) := by decide +kernel
theorem d_ms_launchAt_6 : decode b_ms_launchAt 6 = .ok (.iconst 2, 1) := by decide +kernel
theorem d_ms_launchAt_7 : decode b_ms_launchAt 7 = .ok (.ireturn, 1) := by decide +kernel
theorem d_ms_launchAt_8 : decode b_ms_launchAt 8 = .ok (.aload_n 0, 1) := by decide +kernel
theorem d_ms_launchAt_9 : decode b_ms_launchAt 9 = .ok (.iload_n 1, 1) := by decide +kernel
theorem d_ms_launchAt_10 : decode b_ms_launchAt 10 = .ok (.aload_n 0, 1) := by decide +kernel
theorem d_ms_launchAt_11 : decode b_ms_launchAt 11 = .ok (.iload_n 2, 1) := by decide +kernel
theorem d_ms_launchAt_12 : decode b_ms_launchAt 12 = .ok (.invokevirtual 52, 3) := by decide +kernel
theorem d_ms_launchAt_15 : decode b_ms_launchAt 15 = .ok (.invokevirtual 194, 3) := by decide +kernel
theorem d_ms_launchAt_18 : decode b_ms_launchAt 18 = .ok (.istore_n 3, 1) := by decide +kernel
theorem d_ms_launchAt_19 : decode b_ms_launchAt 19 = .ok (.iload_n 3, 1) := by decide +kernel
theorem d_ms_launchAt_20 : decode b_ms_launchAt 20 = .ok (.ifCond .eq 5, 3) := by decide +kernel
theorem d_ms_launchAt_23 : decode b_ms_launchAt 23 = .ok (.iload_n 3, 1) := by decide +kernel
theorem d_ms_launchAt_24 : decode b_ms_launchAt 24 = .ok (.ireturn, 1) := by decide +kernel
theorem d_ms_launchAt_25 : decode b_ms_launchAt 25 = .ok (.aload_n 0, 1) := by decide +kernel
theorem d_ms_launchAt_26 : decode b_ms_launchAt 26 = .ok (.dup, 1) := by decide +kernel
theorem d_ms_launchAt_27 : decode b_ms_launchAt 27 = .ok (.getfield 75, 3) := by decide +kernel
theorem d_ms_launchAt_30 : decode b_ms_launchAt 30 = .ok (.iconst 1, 1) := by decide +kernel
theorem d_ms_launchAt_31 : decode b_ms_launchAt 31 = .ok (.iadd, 1) := by decide +kernel
theorem d_ms_launchAt_32 : decode b_ms_launchAt 32 = .ok (.putfield 75, 3) := by decide +kernel
theorem d_ms_launchAt_35 : decode b_ms_launchAt 35 = .ok (.aload_n 0, 1) := by decide +kernel
theorem d_ms_launchAt_36 : decode b_ms_launchAt 36 = .ok (.getfield 34, 3) := by decide +kernel
theorem d_ms_launchAt_39 : decode b_ms_launchAt 39 = .ok (.iload_n 1, 1) := by decide +kernel
theorem d_ms_launchAt_40 : decode b_ms_launchAt 40 = .ok (.aload_n 0, 1) := by decide +kernel
theorem d_ms_launchAt_41 : decode b_ms_launchAt 41 = .ok (.getfield 9, 3) := by decide +kernel
theorem d_ms_launchAt_44 : decode b_ms_launchAt 44 = .ok (.iload_n 2, 1) := by decide +kernel
theorem d_ms_launchAt_45 : decode b_ms_launchAt 45 = .ok (.laload, 1) := by decide +kernel
theorem d_ms_launchAt_46 : decode b_ms_launchAt 46 = .ok (.lastore, 1) := by decide +kernel
theorem d_ms_launchAt_47 : decode b_ms_launchAt 47 = .ok (.aload_n 0, 1) := by decide +kernel
theorem d_ms_launchAt_48 : decode b_ms_launchAt 48 = .ok (.getfield 37, 3) := by decide +kernel
theorem d_ms_launchAt_51 : decode b_ms_launchAt 51 = .ok (.iload_n 1, 1) := by decide +kernel
theorem d_ms_launchAt_52 : decode b_ms_launchAt 52 = .ok (.iconst 0, 1) := by decide +kernel
theorem d_ms_launchAt_53 : decode b_ms_launchAt 53 = .ok (.iastore, 1) := by decide +kernel
theorem d_ms_launchAt_54 : decode b_ms_launchAt 54 = .ok (.aload_n 0, 1) := by decide +kernel
theorem d_ms_launchAt_55 : decode b_ms_launchAt 55 = .ok (.iload_n 1, 1) := by decide +kernel
theorem d_ms_launchAt_56 : decode b_ms_launchAt 56 = .ok (.putfield 179, 3) := by decide +kernel
theorem d_ms_launchAt_59 : decode b_ms_launchAt 59 = .ok (.iconst 0, 1) := by decide +kernel
theorem d_ms_launchAt_60 : decode b_ms_launchAt 60 = .ok (.ireturn, 1) := by decide +kernel
set_option maxHeartbeats 4000000 in
set_option maxRecDepth 100000 in
theorem c_bl_fill (l : Launch) (D : va_G) (cs : Nat → ClassId) (ad : Nat → Nat) (sz : Nat) (u : Sg) (j : Jx) (k mask : Int32) (po se : Int64) (hk : vp_in k 8) : Met l y_bl_fill (Cond.code y_bl_fill b_bl_fill 7 none :: TB) { frames := 0, cells := 0, slots := 0, locals := 0 } (va_Pc [.ref (ad 5), .int k, .int mask, .long po, .long se] (xw_Pre D cs ad u j sz)) (va_Qv (fun (j1 : Jx) => j1 = j) (fun (j1 : Jx) t => xw_B D cs ad (va_A (xw ad cs u j) sz) (ss_se (ss_po (ss_ma u (upd (sg_ma u) k.toNatClampNeg mask)) (vp_updL (sg_po u) k.toNatClampNeg po)) (vp_updL (sg_se u) k.toNatClampNeg se)) j1 t) (va_A (xw ad cs u j) sz)) 0 0 (va_A (xw ad cs u j) sz) := by
  refine Met.ofW (cc := b_bl_fill) (maxL := 7) (ret := none) (by decide) rfl ?_
  intro p e s m args below meth c s₁ B hml hv
  obtain ⟨rfl, hsz, hP, hK, hD, hN⟩ := hv
  have hx := B.exec
  have hb := B.bytes
  have hret := B.returns
  have hts := atoms_spec (ws := Cond.code y_bl_fill b_bl_fill 7 none :: TB) B.pre
  have hT : ∀ w ∈ TB, w.before _ s = true := fun w h => hts w (List.mem_cons_of_mem _ h)
  have hown : s.vm.findClass "MeasuredStages$Blobs" = some m.cls := findClass_of_methodNamed B.named
  have hlocks := B.notSynchronized
  subst hsz
  have hD := hD.self (sz := s.heap.size)
  generalize hAe : va_A (xw ad cs u j) s.heap.size = A at hD ⊢
  have hA : ∀ q : Nat, s.heap.size ≤ q → A q := fun q h => by rw [← hAe]; exact Or.inr h
  have hS : va_S A s.heap s.heap [] := va_S.rf
  have hl := lv_entry ([.ref (ad 5), .int k, .int mask, .long po, .long se]) (n := 7) (Nat.le_of_ble_eq_true rfl)
  rw [lg_entry_eq]
  generalize (lg_sl ([.ref (ad 5), .int k, .int mask, .long po, .long se]) ++ List.replicate (7 - (lg_sl ([.ref (ad 5), .int k, .int mask, .long po, .long se])).length) Slot.unset).toArray = ls at hl ⊢
  have hl : lv_has ls 7 [(0, .ref (ad 5)), (1, .int k), (2, .int mask), (3, .long po), (5, .long se)] := hl
  skip
  refine lv_aload_n hx hb d_bl_fill_0 rfl (lv_at hl 0 rfl) ?_
  refine va_get (D := D) (ci := 2) (v := .ref (ad 12)) (C := "MeasuredStages$Blobs") (T := F_bl) (N := 3) hx hb hts (fun w h => List.mem_cons_of_mem _ (i_bl w h)) hown hK hP 5 rfl rfl 0 (by decide) (hT _ tb_56) (fun _ h9 => h9) rfl d_bl_fill_1 ?_
  refine lv_iload_n hx hb d_bl_fill_4 rfl (lv_at hl 1 rfl) ?_
  refine lv_iload_n hx hb d_bl_fill_5 rfl (lv_at hl 2 rfl) ?_
  refine va_iast hx hb hK hP hD hS 12 9 rfl rfl hk d_bl_fill_6 (fun H locs hP hD hS => ?_)
  have hP : va_P D cx (xv ad cs (sg_im u) (sg_ap u) (sg_ag u) (sg_he u) (sg_er u) (sg_ev u) (sg_en u) (upd (sg_ma u) k.toNatClampNeg mask) (sg_po u) (sg_se u) (sg_ac u) (sg_fa u) (sg_la u) (sg_st u) (jx_ru j) (jx_nd j) (jx_de j) (jx_rp j)) H := hP
  have hD : va_D A (xv ad cs (sg_im u) (sg_ap u) (sg_ag u) (sg_he u) (sg_er u) (sg_ev u) (sg_en u) (upd (sg_ma u) k.toNatClampNeg mask) (sg_po u) (sg_se u) (sg_ac u) (sg_fa u) (sg_la u) (sg_st u) (jx_ru j) (jx_nd j) (jx_de j) (jx_rp j)) := hD
  refine lv_aload_n hx hb d_bl_fill_7 rfl (lv_at hl 0 rfl) ?_
  refine va_get (D := D) (ci := 2) (v := .ref (ad 13)) (C := "MeasuredStages$Blobs") (T := F_bl) (N := 3) hx hb hts (fun w h => List.mem_cons_of_mem _ (i_bl w h)) hown hK hP 5 rfl rfl 1 (by decide) (hT _ tb_58) (fun _ h9 => h9) rfl d_bl_fill_8 ?_
  refine lv_iload_n hx hb d_bl_fill_11 rfl (lv_at hl 1 rfl) ?_
  refine lv_lload_n hx hb d_bl_fill_12 rfl (lv_at hl 3 rfl) ?_
  refine va_last hx hb hK hP hD hS 13 10 rfl rfl hk d_bl_fill_13 (fun H locs hP hD hS => ?_)
  have hP : va_P D cx (xv ad cs (sg_im u) (sg_ap u) (sg_ag u) (sg_he u) (sg_er u) (sg_ev u) (sg_en u) (upd (sg_ma u) k.toNatClampNeg mask) (vp_updL (sg_po u) k.toNatClampNeg po) (sg_se u) (sg_ac u) (sg_fa u) (sg_la u) (sg_st u) (jx_ru j) (jx_nd j) (jx_de j) (jx_rp j)) H := hP
  have hD : va_D A (xv ad cs (sg_im u) (sg_ap u) (sg_ag u) (sg_he u) (sg_er u) (sg_ev u) (sg_en u) (upd (sg_ma u) k.toNatClampNeg mask) (vp_updL (sg_po u) k.toNatClampNeg po) (sg_se u) (sg_ac u) (sg_fa u) (sg_la u) (sg_st u) (jx_ru j) (jx_nd j) (jx_de j) (jx_rp j)) := hD
  refine lv_aload_n hx hb d_bl_fill_14 rfl (lv_at hl 0 rfl) ?_
  refine va_get (D := D) (ci := 2) (v := .ref (ad 14)) (C := "MeasuredStages$Blobs") (T := F_bl) (N := 3) hx hb hts (fun w h => List.mem_cons_of_mem _ (i_bl w h)) hown hK hP 5 rfl rfl 2 (by decide) (hT _ tb_60) (fun _ h9 => h9) rfl d_bl_fill_15 ?_
  refine lv_iload_n hx hb d_bl_fill_18 rfl (lv_at hl 1 rfl) ?_
  refine lv_lload hx hb d_bl_fill_19 (lv_at hl 4 rfl) ?_
  refine va_last hx hb hK hP hD hS 14 11 rfl rfl hk d_bl_fill_21 (fun H locs hP hD hS => ?_)
  have hP : va_P D cx (xv ad cs (sg_im u) (sg_ap u) (sg_ag u) (sg_he u) (sg_er u) (sg_ev u) (sg_en u) (upd (sg_ma u) k.toNatClampNeg mask) (vp_updL (sg_po u) k.toNatClampNeg po) (vp_updL (sg_se u) k.toNatClampNeg se) (sg_ac u) (sg_fa u) (sg_la u) (sg_st u) (jx_ru j) (jx_nd j) (jx_de j) (jx_rp j)) H := hP
  have hD : va_D A (xv ad cs (sg_im u) (sg_ap u) (sg_ag u) (sg_he u) (sg_er u) (sg_ev u) (sg_en u) (upd (sg_ma u) k.toNatClampNeg mask) (vp_updL (sg_po u) k.toNatClampNeg po) (vp_updL (sg_se u) k.toNatClampNeg se) (sg_ac u) (sg_fa u) (sg_la u) (sg_st u) (jx_ru j) (jx_nd j) (jx_de j) (jx_rp j)) := hD
  obtain ⟨v1, ev1⟩ : ∃ z : Sg, z = (sg_im u, sg_ap u, sg_ag u, sg_he u, sg_er u, sg_ev u, sg_en u, upd (sg_ma u) k.toNatClampNeg mask, vp_updL (sg_po u) k.toNatClampNeg po, vp_updL (sg_se u) k.toNatClampNeg se, sg_ac u, sg_fa u, sg_la u, sg_st u) := ⟨_, rfl⟩
  have hP : va_P D cx (xw ad cs v1 j) H := by rw [ev1, xw_u]; exact hP
  have hD : va_D A (xw ad cs v1 j) := by rw [ev1, xw_u]; exact hD
  subst ev1
  exact W.vret hx hb hret (fun t ht hW => ⟨⟨j, rfl, (by rfl), by rw [ht]; exact hP, va_K.moved hW.alike hK, hD⟩, hS.F ht⟩) hS.2.2 d_bl_fill_22
set_option maxHeartbeats 4000000 in
set_option maxRecDepth 100000 in
theorem c_bl_free (l : Launch) (D : va_G) (cs : Nat → ClassId) (ad : Nat → Nat) (sz : Nat) (u : Sg) (j : Jx) (k : Int32) (hk : vp_in k 8) : Met l y_bl_free (Cond.code y_bl_free b_bl_free 2 none :: TB) { frames := 0, cells := 0, slots := 0, locals := 0 } (va_Pc [.ref (ad 5), .int k] (xw_Pre D cs ad u j sz)) (va_Qv (fun (j1 : Jx) => j1 = j) (fun (j1 : Jx) t => xw_B D cs ad (va_A (xw ad cs u j) sz) (ss_ma u (upd (sg_ma u) k.toNatClampNeg 0)) j1 t) (va_A (xw ad cs u j) sz)) 0 0 (va_A (xw ad cs u j) sz) := by
  refine Met.ofW (cc := b_bl_free) (maxL := 2) (ret := none) (by decide) rfl ?_
  intro p e s m args below meth c s₁ B hml hv
  obtain ⟨rfl, hsz, hP, hK, hD, hN⟩ := hv
  have hx := B.exec
  have hb := B.bytes
  have hret := B.returns
  have hts := atoms_spec (ws := Cond.code y_bl_free b_bl_free 2 none :: TB) B.pre
  have hT : ∀ w ∈ TB, w.before _ s = true := fun w h => hts w (List.mem_cons_of_mem _ h)
  have hown : s.vm.findClass "MeasuredStages$Blobs" = some m.cls := findClass_of_methodNamed B.named
  have hlocks := B.notSynchronized
  subst hsz
  have hD := hD.self (sz := s.heap.size)
  generalize hAe : va_A (xw ad cs u j) s.heap.size = A at hD ⊢
  have hA : ∀ q : Nat, s.heap.size ≤ q → A q := fun q h => by rw [← hAe]; exact Or.inr h
  have hS : va_S A s.heap s.heap [] := va_S.rf
  have hl := lv_entry ([.ref (ad 5), .int k]) (n := 2) (Nat.le_of_ble_eq_true rfl)
  rw [lg_entry_eq]
  generalize (lg_sl ([.ref (ad 5), .int k]) ++ List.replicate (2 - (lg_sl ([.ref (ad 5), .int k])).length) Slot.unset).toArray = ls at hl ⊢
  have hl : lv_has ls 2 [(0, .ref (ad 5)), (1, .int k)] := hl
  skip
  refine lv_aload_n hx hb d_bl_free_0 rfl (lv_at hl 0 rfl) ?_
  refine va_get (D := D) (ci := 2) (v := .ref (ad 12)) (C := "MeasuredStages$Blobs") (T := F_bl) (N := 3) hx hb hts (fun w h => List.mem_cons_of_mem _ (i_bl w h)) hown hK hP 5 rfl rfl 0 (by decide) (hT _ tb_56) (fun _ h9 => h9) rfl d_bl_free_1 ?_
  refine lv_iload_n hx hb d_bl_free_4 rfl (lv_at hl 1 rfl) ?_
  refine lv_iconst (v := 0) hx hb d_bl_free_5 (by decide) ?_
  refine va_iast hx hb hK hP hD hS 12 9 rfl rfl hk d_bl_free_6 (fun H locs hP hD hS => ?_)
  have hP : va_P D cx (xv ad cs (sg_im u) (sg_ap u) (sg_ag u) (sg_he u) (sg_er u) (sg_ev u) (sg_en u) (upd (sg_ma u) k.toNatClampNeg (0)) (sg_po u) (sg_se u) (sg_ac u) (sg_fa u) (sg_la u) (sg_st u) (jx_ru j) (jx_nd j) (jx_de j) (jx_rp j)) H := hP
  have hD : va_D A (xv ad cs (sg_im u) (sg_ap u) (sg_ag u) (sg_he u) (sg_er u) (sg_ev u) (sg_en u) (upd (sg_ma u) k.toNatClampNeg (0)) (sg_po u) (sg_se u) (sg_ac u) (sg_fa u) (sg_la u) (sg_st u) (jx_ru j) (jx_nd j) (jx_de j) (jx_rp j)) := hD
  obtain ⟨v1, ev1⟩ : ∃ z : Sg, z = (sg_im u, sg_ap u, sg_ag u, sg_he u, sg_er u, sg_ev u, sg_en u, upd (sg_ma u) k.toNatClampNeg (0), sg_po u, sg_se u, sg_ac u, sg_fa u, sg_la u, sg_st u) := ⟨_, rfl⟩
  have hP : va_P D cx (xw ad cs v1 j) H := by rw [ev1, xw_u]; exact hP
  have hD : va_D A (xw ad cs v1 j) := by rw [ev1, xw_u]; exact hD
  subst ev1
  exact W.vret hx hb hret (fun t ht hW => ⟨⟨j, rfl, (by rfl), by rw [ht]; exact hP, va_K.moved hW.alike hK, hD⟩, hS.F ht⟩) hS.2.2 d_bl_free_7
set_option maxHeartbeats 4000000 in
set_option maxRecDepth 100000 in
theorem c_rg_measure (l : Launch) (D : va_G) (cs : Nat → ClassId) (ad : Nat → Nat) (sz : Nat) (u : Sg) (j : Jx) (r : Int32) (v : Int64) (hr : vp_in r 6) (he : vp_in (sg_en u) 32) : Met l y_rg_measure (Cond.code y_rg_measure b_rg_measure 4 (some .boolean) :: TB) { frames := 1, cells := 0, slots := 0, locals := 25 } (va_Pc [.ref (ad 4), .int r, .long v] (xw_Pre D cs ad u j sz)) (va_Qi (fun (r : Int32) (j1 : Jx) => r = 1 ∧ j1 = j) (fun (j1 : Jx) t => xw_B D cs ad (va_A (xw ad cs u j) sz) (sp_no u r v) j1 t) (va_A (xw ad cs u j) sz)) 0 0 (va_A (xw ad cs u j) sz) := by
  refine Met.ofW (cc := b_rg_measure) (maxL := 4) (ret := (some .boolean)) (by decide) rfl ?_
  intro p e s m args below meth c s₁ B hml hv
  obtain ⟨rfl, hsz, hP, hK, hD, hN⟩ := hv
  have hx := B.exec
  have hb := B.bytes
  have hret := B.returns
  have hts := atoms_spec (ws := Cond.code y_rg_measure b_rg_measure 4 (some .boolean) :: TB) B.pre
  have hT : ∀ w ∈ TB, w.before _ s = true := fun w h => hts w (List.mem_cons_of_mem _ h)
  have hown : s.vm.findClass "MeasuredStages$Registers" = some m.cls := findClass_of_methodNamed B.named
  have hlocks := B.notSynchronized
  subst hsz
  have hD := hD.self (sz := s.heap.size)
  generalize hAe : va_A (xw ad cs u j) s.heap.size = A at hD ⊢
  have hA : ∀ q : Nat, s.heap.size ≤ q → A q := fun q h => by rw [← hAe]; exact Or.inr h
  have hS : va_S A s.heap s.heap [] := va_S.rf
  have hl := lv_entry ([.ref (ad 4), .int r, .long v]) (n := 4) (Nat.le_of_ble_eq_true rfl)
  rw [lg_entry_eq]
  generalize (lg_sl ([.ref (ad 4), .int r, .long v]) ++ List.replicate (4 - (lg_sl ([.ref (ad 4), .int r, .long v])).length) Slot.unset).toArray = ls at hl ⊢
  have hl : lv_has ls 4 [(0, .ref (ad 4)), (1, .int r), (2, .long v)] := hl
  skip
  refine lv_aload_n hx hb d_rg_measure_0 rfl (lv_at hl 0 rfl) ?_
  refine va_get (D := D) (ci := 1) (v := .int (sg_en u)) (C := "MeasuredStages$Registers") (T := F_rg) (N := 5) hx hb hts (fun w h => List.mem_cons_of_mem _ (i_rg w h)) hown hK hP 4 rfl rfl 3 (by decide) (hT _ tb_33) (fun _ h9 => h9) rfl d_rg_measure_1 ?_
  refine lv_bipush (v := 32) hx hb d_rg_measure_4 (by decide) ?_
  refine lv_icmp_lt hx hb d_rg_measure_6 (tgt := 11) (by decide) (fun _ => ?_) (fun z => absurd (xn_lt (by decide) he) z)
  refine lv_aload_n hx hb d_rg_measure_11 rfl (lv_at hl 0 rfl) ?_
  refine va_get (D := D) (ci := 1) (v := .ref (ad 8)) (C := "MeasuredStages$Registers") (T := F_rg) (N := 5) hx hb hts (fun w h => List.mem_cons_of_mem _ (i_rg w h)) hown hK hP 4 rfl rfl 0 (by decide) (hT _ tb_27) (fun _ h9 => h9) rfl d_rg_measure_12 ?_
  refine lv_iload_n hx hb d_rg_measure_15 rfl (lv_at hl 1 rfl) ?_
  refine lv_aload_n hx hb d_rg_measure_16 rfl (lv_at hl 0 rfl) ?_
  refine va_get (D := D) (ci := 1) (v := .ref (ad 8)) (C := "MeasuredStages$Registers") (T := F_rg) (N := 5) hx hb hts (fun w h => List.mem_cons_of_mem _ (i_rg w h)) hown hK hP 4 rfl rfl 0 (by decide) (hT _ tb_27) (fun _ h9 => h9) rfl d_rg_measure_17 ?_
  refine lv_iload_n hx hb d_rg_measure_20 rfl (lv_at hl 1 rfl) ?_
  refine va_lald hx hb hK hP 8 5 rfl rfl hr d_rg_measure_21 ?_
  refine lv_lload_n hx hb d_rg_measure_22 rfl (lv_at hl 2 rfl) ?_
  refine sn_l (v := sp_h (sg_he u r.toNatClampNeg) v) (As := [.long (sg_he u r.toNatClampNeg), .long v]) (rest := [.int r, .ref (ad 8)]) ⟨hx, hb, hml, hown, hts⟩ (c_ms_hash l (sg_he u r.toNatClampNeg) v) hN tb_138 tb_1 tb_139 hd_ms_hash ⟨Nat.le_of_ble_eq_true rfl, Nat.le_of_ble_eq_true rfl⟩ rfl rfl hl.1 rfl (Nat.le_of_ble_eq_true rfl) d_rg_measure_23 ⟨Nat.zero_le _, Nat.zero_le _⟩ ?_
  refine va_last hx hb hK hP hD hS 8 5 rfl rfl hr d_rg_measure_26 (fun H locs hP hD hS => ?_)
  have hP : va_P D cx (xv ad cs (sg_im u) (sg_ap u) (sg_ag u) (vp_updL (sg_he u) r.toNatClampNeg (sp_h (sg_he u r.toNatClampNeg) v)) (sg_er u) (sg_ev u) (sg_en u) (sg_ma u) (sg_po u) (sg_se u) (sg_ac u) (sg_fa u) (sg_la u) (sg_st u) (jx_ru j) (jx_nd j) (jx_de j) (jx_rp j)) H := hP
  have hD : va_D A (xv ad cs (sg_im u) (sg_ap u) (sg_ag u) (vp_updL (sg_he u) r.toNatClampNeg (sp_h (sg_he u r.toNatClampNeg) v)) (sg_er u) (sg_ev u) (sg_en u) (sg_ma u) (sg_po u) (sg_se u) (sg_ac u) (sg_fa u) (sg_la u) (sg_st u) (jx_ru j) (jx_nd j) (jx_de j) (jx_rp j)) := hD
  refine lv_aload_n hx hb d_rg_measure_27 rfl (lv_at hl 0 rfl) ?_
  refine va_get (D := D) (ci := 1) (v := .ref (ad 9)) (C := "MeasuredStages$Registers") (T := F_rg) (N := 5) hx hb hts (fun w h => List.mem_cons_of_mem _ (i_rg w h)) hown hK hP 4 rfl rfl 1 (by decide) (hT _ tb_29) (fun _ h9 => h9) rfl d_rg_measure_28 ?_
  refine lv_aload_n hx hb d_rg_measure_31 rfl (lv_at hl 0 rfl) ?_
  refine va_get (D := D) (ci := 1) (v := .int (sg_en u)) (C := "MeasuredStages$Registers") (T := F_rg) (N := 5) hx hb hts (fun w h => List.mem_cons_of_mem _ (i_rg w h)) hown hK hP 4 rfl rfl 3 (by decide) (hT _ tb_33) (fun _ h9 => h9) rfl d_rg_measure_32 ?_
  refine lv_iload_n hx hb d_rg_measure_35 rfl (lv_at hl 1 rfl) ?_
  refine va_iast hx hb hK hP hD hS 9 6 rfl rfl he d_rg_measure_36 (fun H locs hP hD hS => ?_)
  have hP : va_P D cx (xv ad cs (sg_im u) (sg_ap u) (sg_ag u) (vp_updL (sg_he u) r.toNatClampNeg (sp_h (sg_he u r.toNatClampNeg) v)) (upd (sg_er u) (sg_en u).toNatClampNeg r) (sg_ev u) (sg_en u) (sg_ma u) (sg_po u) (sg_se u) (sg_ac u) (sg_fa u) (sg_la u) (sg_st u) (jx_ru j) (jx_nd j) (jx_de j) (jx_rp j)) H := hP
  have hD : va_D A (xv ad cs (sg_im u) (sg_ap u) (sg_ag u) (vp_updL (sg_he u) r.toNatClampNeg (sp_h (sg_he u r.toNatClampNeg) v)) (upd (sg_er u) (sg_en u).toNatClampNeg r) (sg_ev u) (sg_en u) (sg_ma u) (sg_po u) (sg_se u) (sg_ac u) (sg_fa u) (sg_la u) (sg_st u) (jx_ru j) (jx_nd j) (jx_de j) (jx_rp j)) := hD
  refine lv_aload_n hx hb d_rg_measure_37 rfl (lv_at hl 0 rfl) ?_
  refine va_get (D := D) (ci := 1) (v := .ref (ad 10)) (C := "MeasuredStages$Registers") (T := F_rg) (N := 5) hx hb hts (fun w h => List.mem_cons_of_mem _ (i_rg w h)) hown hK hP 4 rfl rfl 2 (by decide) (hT _ tb_31) (fun _ h9 => h9) rfl d_rg_measure_38 ?_
  refine lv_aload_n hx hb d_rg_measure_41 rfl (lv_at hl 0 rfl) ?_
  refine va_get (D := D) (ci := 1) (v := .int (sg_en u)) (C := "MeasuredStages$Registers") (T := F_rg) (N := 5) hx hb hts (fun w h => List.mem_cons_of_mem _ (i_rg w h)) hown hK hP 4 rfl rfl 3 (by decide) (hT _ tb_33) (fun _ h9 => h9) rfl d_rg_measure_42 ?_
  refine lv_lload_n hx hb d_rg_measure_45 rfl (lv_at hl 2 rfl) ?_
  refine va_last hx hb hK hP hD hS 10 7 rfl rfl he d_rg_measure_46 (fun H locs hP hD hS => ?_)
  have hP : va_P D cx (xv ad cs (sg_im u) (sg_ap u) (sg_ag u) (vp_updL (sg_he u) r.toNatClampNeg (sp_h (sg_he u r.toNatClampNeg) v)) (upd (sg_er u) (sg_en u).toNatClampNeg r) (vp_updL (sg_ev u) (sg_en u).toNatClampNeg v) (sg_en u) (sg_ma u) (sg_po u) (sg_se u) (sg_ac u) (sg_fa u) (sg_la u) (sg_st u) (jx_ru j) (jx_nd j) (jx_de j) (jx_rp j)) H := hP
  have hD : va_D A (xv ad cs (sg_im u) (sg_ap u) (sg_ag u) (vp_updL (sg_he u) r.toNatClampNeg (sp_h (sg_he u r.toNatClampNeg) v)) (upd (sg_er u) (sg_en u).toNatClampNeg r) (vp_updL (sg_ev u) (sg_en u).toNatClampNeg v) (sg_en u) (sg_ma u) (sg_po u) (sg_se u) (sg_ac u) (sg_fa u) (sg_la u) (sg_st u) (jx_ru j) (jx_nd j) (jx_de j) (jx_rp j)) := hD
  refine lv_aload_n hx hb d_rg_measure_47 rfl (lv_at hl 0 rfl) ?_
  refine lv_dup hx hb d_rg_measure_48 rfl ?_
  refine va_get (D := D) (ci := 1) (v := .int (sg_en u)) (C := "MeasuredStages$Registers") (T := F_rg) (N := 5) hx hb hts (fun w h => List.mem_cons_of_mem _ (i_rg w h)) hown hK hP 4 rfl rfl 3 (by decide) (hT _ tb_33) (fun _ h9 => h9) rfl d_rg_measure_49 ?_
  refine lv_iconst (v := 1) hx hb d_rg_measure_52 (by decide) ?_
  refine lv_iadd hx hb d_rg_measure_53 ?_
  refine va_put (D := D) (ci := 1) (v := .int ((sg_en u) + (1))) (ty := .int) (C := "MeasuredStages$Registers") (T := F_rg) (N := 5) hx hb hts (fun w h => List.mem_cons_of_mem _ (i_rg w h)) t_rg o_rg n_rg hown hK hP hD hS 4 rfl rfl 3 (by decide) (hT _ tb_33) (fun _ h9 => h9) rfl (by decide +kernel) rfl rfl (Nat.le_of_ble_eq_true rfl) d_rg_measure_54 (fun H locs hP hD hS => ?_)
  have hP : va_P D cx (xv ad cs (sg_im u) (sg_ap u) (sg_ag u) (vp_updL (sg_he u) r.toNatClampNeg (sp_h (sg_he u r.toNatClampNeg) v)) (upd (sg_er u) (sg_en u).toNatClampNeg r) (vp_updL (sg_ev u) (sg_en u).toNatClampNeg v) ((sg_en u) + (1)) (sg_ma u) (sg_po u) (sg_se u) (sg_ac u) (sg_fa u) (sg_la u) (sg_st u) (jx_ru j) (jx_nd j) (jx_de j) (jx_rp j)) H := hP
  have hD : va_D A (xv ad cs (sg_im u) (sg_ap u) (sg_ag u) (vp_updL (sg_he u) r.toNatClampNeg (sp_h (sg_he u r.toNatClampNeg) v)) (upd (sg_er u) (sg_en u).toNatClampNeg r) (vp_updL (sg_ev u) (sg_en u).toNatClampNeg v) ((sg_en u) + (1)) (sg_ma u) (sg_po u) (sg_se u) (sg_ac u) (sg_fa u) (sg_la u) (sg_st u) (jx_ru j) (jx_nd j) (jx_de j) (jx_rp j)) := hD
  refine lv_iconst (v := 1) hx hb d_rg_measure_57 (by decide) ?_
  obtain ⟨v1, ev1⟩ : ∃ z : Sg, z = (sg_im u, sg_ap u, sg_ag u, vp_updL (sg_he u) r.toNatClampNeg (sp_h (sg_he u r.toNatClampNeg) v), upd (sg_er u) (sg_en u).toNatClampNeg r, vp_updL (sg_ev u) (sg_en u).toNatClampNeg v, (sg_en u) + (1), sg_ma u, sg_po u, sg_se u, sg_ac u, sg_fa u, sg_la u, sg_st u) := ⟨_, rfl⟩
  have hP : va_P D cx (xw ad cs v1 j) H := by rw [ev1, xw_u]; exact hP
  have hD : va_D A (xw ad cs v1 j) := by rw [ev1, xw_u]; exact hD
  subst ev1
  exact W.zret hx hb hret rfl (fun t ht hW => ⟨⟨_, j, rfl, ⟨rfl, (by rfl)⟩, by rw [ht]; exact hP, va_K.moved hW.alike hK, hD⟩, hS.F ht⟩) hS.2.2 d_rg_measure_58
set_option maxHeartbeats 4000000 in
set_option maxRecDepth 100000 in
theorem c_rg_measure_f (l : Launch) (D : va_G) (cs : Nat → ClassId) (ad : Nat → Nat) (sz : Nat) (u : Sg) (j : Jx) (r : Int32) (v : Int64) (he : sg_en u = 32) : Met l y_rg_measure (Cond.code y_rg_measure b_rg_measure 4 (some .boolean) :: TB) { frames := 1, cells := 0, slots := 0, locals := 25 } (va_Pc [.ref (ad 4), .int r, .long v] (xw_Pre D cs ad u j sz)) (vp_Si (fun r => r = 0)) 0 0 (fun _ => False) := by
  refine Met.ofW (cc := b_rg_measure) (maxL := 4) (ret := (some .boolean)) (by decide) rfl ?_
  intro p e s m args below meth c s₁ B hml hv
  obtain ⟨rfl, hsz, hP, hK, hD, hN⟩ := hv
  have hx := B.exec
  have hb := B.bytes
  have hret := B.returns
  have hts := atoms_spec (ws := Cond.code y_rg_measure b_rg_measure 4 (some .boolean) :: TB) B.pre
  have hT : ∀ w ∈ TB, w.before _ s = true := fun w h => hts w (List.mem_cons_of_mem _ h)
  have hown : s.vm.findClass "MeasuredStages$Registers" = some m.cls := findClass_of_methodNamed B.named
  have hlocks := B.notSynchronized
  subst hsz
  have hl := lv_entry ([.ref (ad 4), .int r, .long v]) (n := 4) (Nat.le_of_ble_eq_true rfl)
  rw [lg_entry_eq]
  generalize (lg_sl ([.ref (ad 4), .int r, .long v]) ++ List.replicate (4 - (lg_sl ([.ref (ad 4), .int r, .long v])).length) Slot.unset).toArray = ls at hl ⊢
  have hl : lv_has ls 4 [(0, .ref (ad 4)), (1, .int r), (2, .long v)] := hl
  refine lv_aload_n hx hb d_rg_measure_0 rfl (lv_at hl 0 rfl) ?_
  refine va_get (D := D) (ci := 1) (v := .int (sg_en u)) (C := "MeasuredStages$Registers") (T := F_rg) (N := 5) hx hb hts (fun w h => List.mem_cons_of_mem _ (i_rg w h)) hown hK hP 4 rfl rfl 3 (by decide) (hT _ tb_33) (fun _ h9 => h9) rfl d_rg_measure_1 ?_
  refine lv_bipush (v := 32) hx hb d_rg_measure_4 (by decide) ?_
  refine lv_icmp_lt hx hb d_rg_measure_6 (tgt := 11) (by decide) (fun z => absurd z (by rw [he]; decide)) (fun _ => ?_)
  refine lv_iconst (v := 0) hx hb d_rg_measure_9 (by decide) ?_
  exact W.zret (v := 0) hx hb hret rfl (fun t ht hW => ⟨_, rfl, rfl, ht⟩) (fun q h => by cases h) d_rg_measure_10
set_option maxHeartbeats 4000000 in
set_option maxRecDepth 100000 in
theorem c_ms_extendOrFault (l : Launch) (D : va_G) (cs : Nat → ClassId) (ad : Nat → Nat) (sz : Nat) (u : Sg) (j : Jx) (r : Int32) (v : Int64) (hr : vp_in r 6) (he : vp_in (sg_en u) 32) : Met l y_ms_extendOrFault (Cond.code y_ms_extendOrFault b_ms_extendOrFault 4 (some .int) :: TB) { frames := 2, cells := 0, slots := 0, locals := 48 } (va_Pc [.ref (ad 0), .int r, .long v] (xw_Pre D cs ad u j sz)) (va_Qi (fun (r : Int32) (j1 : Jx) => r = 0 ∧ j1 = j) (fun (j1 : Jx) t => xw_B D cs ad (va_A (xw ad cs u j) sz) (sp_no u r v) j1 t) (va_A (xw ad cs u j) sz)) 0 0 (va_A (xw ad cs u j) sz) := by
  refine Met.ofW (cc := b_ms_extendOrFault) (maxL := 4) (ret := (some .int)) (by decide) rfl ?_
  intro p e s m args below meth c s₁ B hml hv
  obtain ⟨rfl, hsz, hP, hK, hD, hN⟩ := hv
  have hx := B.exec
  have hb := B.bytes
  have hret := B.returns
  have hts := atoms_spec (ws := Cond.code y_ms_extendOrFault b_ms_extendOrFault 4 (some .int) :: TB) B.pre
  have hT : ∀ w ∈ TB, w.before _ s = true := fun w h => hts w (List.mem_cons_of_mem _ h)
  have hown : s.vm.findClass "MeasuredStages" = some m.cls := findClass_of_methodNamed B.named
  have hlocks := B.notSynchronized
  subst hsz
  have hD := hD.self (sz := s.heap.size)
  generalize hAe : va_A (xw ad cs u j) s.heap.size = A at hD ⊢
  have hA : ∀ q : Nat, s.heap.size ≤ q → A q := fun q h => by rw [← hAe]; exact Or.inr h
  have hS : va_S A s.heap s.heap [] := va_S.rf
  have hl := lv_entry ([.ref (ad 0), .int r, .long v]) (n := 4) (Nat.le_of_ble_eq_true rfl)
  rw [lg_entry_eq]
  generalize (lg_sl ([.ref (ad 0), .int r, .long v]) ++ List.replicate (4 - (lg_sl ([.ref (ad 0), .int r, .long v])).length) Slot.unset).toArray = ls at hl ⊢
  have hl : lv_has ls 4 [(0, .ref (ad 0)), (1, .int r), (2, .long v)] := hl
  skip
  refine lv_aload_n hx hb d_ms_extendOrFault_0 rfl (lv_at hl 0 rfl) ?_
  refine va_get (D := D) (ci := 0) (v := .ref (ad 4)) (C := "MeasuredStages") (T := F_ms) (N := 12) hx hb hts (fun w h => List.mem_cons_of_mem _ (i_ms w h)) hown hK hP 0 rfl rfl 3 (by decide) (hT _ tb_72) (fun _ h9 => h9) rfl d_ms_extendOrFault_1 ?_
  refine lv_iload_n hx hb d_ms_extendOrFault_4 rfl (lv_at hl 1 rfl) ?_
  refine lv_lload_n hx hb d_ms_extendOrFault_5 rfl (lv_at hl 2 rfl) ?_
  refine xw_wri (v := 1) (u' := sp_no u r v) (As := [.int r, .long v]) (rest := []) ⟨hx, hb, hml, hown, hts⟩ (c_rg_measure l D cs ad _ u j r v hr he) tb_260 tb_261 tb_262 tb_2 tb_263 ⟨rfl, hd_rg_measure⟩ ⟨Nat.le_of_ble_eq_true rfl, Nat.le_of_ble_eq_true rfl⟩ rfl rfl hK hP hD hN 4 1 rfl rfl hl.1 rfl (Nat.le_of_ble_eq_true rfl) d_ms_extendOrFault_6 ⟨Nat.zero_le _, Nat.zero_le _⟩ hS hA (fun j1 H locs hj2 hP hD hS => ?_)
  obtain ⟨v3, ev3⟩ : ∃ z : Sg, z = sp_no u r v := ⟨_, rfl⟩
  rw [← ev3] at hP hD
  rw [hj2] at hP hD
  refine lv_if_eq hx hb d_ms_extendOrFault_9 (tgt := 16) (by decide) (fun z => absurd z (by decide)) (fun _ => ?_)
  refine lv_iconst (v := 0) hx hb d_ms_extendOrFault_12 (by decide) ?_
  refine lv_goto hx hb d_ms_extendOrFault_13 (tgt := 17) (by decide) ?_
  subst ev3
  exact W.iret hx hb hret (fun t ht hW => ⟨⟨_, j, rfl, ⟨rfl, (by rfl)⟩, by rw [ht]; exact hP, va_K.moved hW.alike hK, hD⟩, hS.F ht⟩) hS.2.2 d_ms_extendOrFault_17
set_option maxHeartbeats 4000000 in
set_option maxRecDepth 100000 in
theorem c_ms_extendOrFault_f (l : Launch) (D : va_G) (cs : Nat → ClassId) (ad : Nat → Nat) (sz : Nat) (u : Sg) (j : Jx) (r : Int32) (v : Int64) (he : sg_en u = 32) : Met l y_ms_extendOrFault (Cond.code y_ms_extendOrFault b_ms_extendOrFault 4 (some .int) :: TB) { frames := 2, cells := 0, slots := 0, locals := 48 } (va_Pc [.ref (ad 0), .int r, .long v] (xw_Pre D cs ad u j sz)) (vp_Si (fun r => r = 4)) 0 0 (fun _ => False) := by
  refine Met.ofW (cc := b_ms_extendOrFault) (maxL := 4) (ret := (some .int)) (by decide) rfl ?_
  intro p e s m args below meth c s₁ B hml hv
  obtain ⟨rfl, hsz, hP, hK, hD, hN⟩ := hv
  have hx := B.exec
  have hb := B.bytes
  have hret := B.returns
  have hts := atoms_spec (ws := Cond.code y_ms_extendOrFault b_ms_extendOrFault 4 (some .int) :: TB) B.pre
  have hT : ∀ w ∈ TB, w.before _ s = true := fun w h => hts w (List.mem_cons_of_mem _ h)
  have hown : s.vm.findClass "MeasuredStages" = some m.cls := findClass_of_methodNamed B.named
  have hlocks := B.notSynchronized
  subst hsz
  have hl := lv_entry ([.ref (ad 0), .int r, .long v]) (n := 4) (Nat.le_of_ble_eq_true rfl)
  rw [lg_entry_eq]
  generalize (lg_sl ([.ref (ad 0), .int r, .long v]) ++ List.replicate (4 - (lg_sl ([.ref (ad 0), .int r, .long v])).length) Slot.unset).toArray = ls at hl ⊢
  have hl : lv_has ls 4 [(0, .ref (ad 0)), (1, .int r), (2, .long v)] := hl
  refine lv_aload_n hx hb d_ms_extendOrFault_0 rfl (lv_at hl 0 rfl) ?_
  refine va_get (D := D) (ci := 0) (v := .ref (ad 4)) (C := "MeasuredStages") (T := F_ms) (N := 12) hx hb hts (fun w h => List.mem_cons_of_mem _ (i_ms w h)) hown hK hP 0 rfl rfl 3 (by decide) (hT _ tb_72) (fun _ h9 => h9) rfl d_ms_extendOrFault_1 ?_
  refine lv_iload_n hx hb d_ms_extendOrFault_4 rfl (lv_at hl 1 rfl) ?_
  refine lv_lload_n hx hb d_ms_extendOrFault_5 rfl (lv_at hl 2 rfl) ?_
  refine xw_rdi (v := 0) (As := [.int r, .long v]) (rest := []) ⟨hx, hb, hml, hown, hts⟩ (c_rg_measure_f l D cs ad _ u j r v he) tb_260 tb_261 tb_262 tb_2 tb_263 ⟨rfl, hd_rg_measure⟩ ⟨Nat.le_of_ble_eq_true rfl, Nat.le_of_ble_eq_true rfl⟩ rfl rfl hK hP hD hN 4 1 rfl rfl hl.1 rfl (Nat.le_of_ble_eq_true rfl) d_ms_extendOrFault_6 ⟨Nat.zero_le _, Nat.zero_le _⟩ ?_
  refine lv_if_eq hx hb d_ms_extendOrFault_9 (tgt := 16) (by decide) (fun _ => ?_) (fun z => absurd (by decide) z)
  refine lv_iconst (v := 4) hx hb d_ms_extendOrFault_16 (by decide) ?_
  exact W.iret (v := 4) hx hb hret (fun t ht hW => ⟨_, rfl, rfl, ht⟩) (fun q h => by cases h) d_ms_extendOrFault_17
set_option maxHeartbeats 4000000 in
set_option maxRecDepth 100000 in
theorem c_ms_takeDigit (l : Launch) (D : va_G) (cs : Nat → ClassId) (ad : Nat → Nat) (sz : Nat) (u : Sg) (j : Jx)  (hd : vp_in (jx_de j) 6) : Met l y_ms_takeDigit (Cond.code y_ms_takeDigit b_ms_takeDigit 2 (some .int) :: TB) { frames := 0, cells := 0, slots := 0, locals := 0 } (va_Pc [.ref (ad 0)] (xw_Pre D cs ad u j sz)) (va_Qi (fun (r : Int32) (j1 : Jx) => r = sp_dg (jx_ru j (jx_de j).toNatClampNeg) (jx_nd j (jx_de j).toNatClampNeg) ∧ j1 = sx_nd j (upd (jx_nd j) (jx_de j).toNatClampNeg (jx_nd j (jx_de j).toNatClampNeg + 1))) (fun (j1 : Jx) t => xw_B D cs ad (va_A (xw ad cs u j) sz) u j1 t) (va_A (xw ad cs u j) sz)) 0 0 (va_A (xw ad cs u j) sz) := by
  refine Met.ofW (cc := b_ms_takeDigit) (maxL := 2) (ret := (some .int)) (by decide) rfl ?_
  intro p e s m args below meth c s₁ B hml hv
  obtain ⟨rfl, hsz, hP, hK, hD, hN⟩ := hv
  have hx := B.exec
  have hb := B.bytes
  have hret := B.returns
  have hts := atoms_spec (ws := Cond.code y_ms_takeDigit b_ms_takeDigit 2 (some .int) :: TB) B.pre
  have hT : ∀ w ∈ TB, w.before _ s = true := fun w h => hts w (List.mem_cons_of_mem _ h)
  have hown : s.vm.findClass "MeasuredStages" = some m.cls := findClass_of_methodNamed B.named
  have hlocks := B.notSynchronized
  subst hsz
  have hD := hD.self (sz := s.heap.size)
  generalize hAe : va_A (xw ad cs u j) s.heap.size = A at hD ⊢
  have hA : ∀ q : Nat, s.heap.size ≤ q → A q := fun q h => by rw [← hAe]; exact Or.inr h
  have hS : va_S A s.heap s.heap [] := va_S.rf
  have hl := lv_entry ([.ref (ad 0)]) (n := 2) (Nat.le_of_ble_eq_true rfl)
  rw [lg_entry_eq]
  generalize (lg_sl ([.ref (ad 0)]) ++ List.replicate (2 - (lg_sl ([.ref (ad 0)])).length) Slot.unset).toArray = ls at hl ⊢
  have hl : lv_has ls 2 [(0, .ref (ad 0))] := hl
  skip
  refine lv_aload_n hx hb d_ms_takeDigit_0 rfl (lv_at hl 0 rfl) ?_
  refine va_get (D := D) (ci := 0) (v := .ref (ad 7)) (C := "MeasuredStages") (T := F_ms) (N := 12) hx hb hts (fun w h => List.mem_cons_of_mem _ (i_ms w h)) hown hK hP 0 rfl rfl 6 (by decide) (hT _ tb_75) (fun _ h9 => h9) rfl d_ms_takeDigit_1 ?_
  refine lv_aload_n hx hb d_ms_takeDigit_4 rfl (lv_at hl 0 rfl) ?_
  refine va_get (D := D) (ci := 0) (v := .int (jx_de j)) (C := "MeasuredStages") (T := F_ms) (N := 12) hx hb hts (fun w h => List.mem_cons_of_mem _ (i_ms w h)) hown hK hP 0 rfl rfl 7 (by decide) (hT _ tb_76) (fun _ h9 => h9) rfl d_ms_takeDigit_5 ?_
  refine va_iald hx hb hK hP 7 4 rfl rfl hd d_ms_takeDigit_8 ?_
  refine lv_istore_n (nL := 2) (lv' := [(1, .int (jx_nd j (jx_de j).toNatClampNeg)), (0, .ref (ad 0))]) hx hb d_ms_takeDigit_9 rfl hl (by decide) rfl (fun ls hl => ?_)
  refine lv_aload_n hx hb d_ms_takeDigit_10 rfl (lv_at hl 1 rfl) ?_
  refine va_get (D := D) (ci := 0) (v := .ref (ad 7)) (C := "MeasuredStages") (T := F_ms) (N := 12) hx hb hts (fun w h => List.mem_cons_of_mem _ (i_ms w h)) hown hK hP 0 rfl rfl 6 (by decide) (hT _ tb_75) (fun _ h9 => h9) rfl d_ms_takeDigit_11 ?_
  refine lv_aload_n hx hb d_ms_takeDigit_14 rfl (lv_at hl 1 rfl) ?_
  refine va_get (D := D) (ci := 0) (v := .int (jx_de j)) (C := "MeasuredStages") (T := F_ms) (N := 12) hx hb hts (fun w h => List.mem_cons_of_mem _ (i_ms w h)) hown hK hP 0 rfl rfl 7 (by decide) (hT _ tb_76) (fun _ h9 => h9) rfl d_ms_takeDigit_15 ?_
  refine lv_iload_n hx hb d_ms_takeDigit_18 rfl (lv_at hl 0 rfl) ?_
  refine lv_iconst (v := 1) hx hb d_ms_takeDigit_19 (by decide) ?_
  refine lv_iadd hx hb d_ms_takeDigit_20 ?_
  refine va_iast hx hb hK hP hD hS 7 4 rfl rfl hd d_ms_takeDigit_21 (fun H locs hP hD hS => ?_)
  have hP : va_P D cx (xv ad cs (sg_im u) (sg_ap u) (sg_ag u) (sg_he u) (sg_er u) (sg_ev u) (sg_en u) (sg_ma u) (sg_po u) (sg_se u) (sg_ac u) (sg_fa u) (sg_la u) (sg_st u) (jx_ru j) (upd (jx_nd j) (jx_de j).toNatClampNeg ((jx_nd j (jx_de j).toNatClampNeg) + (1))) (jx_de j) (jx_rp j)) H := hP
  have hD : va_D A (xv ad cs (sg_im u) (sg_ap u) (sg_ag u) (sg_he u) (sg_er u) (sg_ev u) (sg_en u) (sg_ma u) (sg_po u) (sg_se u) (sg_ac u) (sg_fa u) (sg_la u) (sg_st u) (jx_ru j) (upd (jx_nd j) (jx_de j).toNatClampNeg ((jx_nd j (jx_de j).toNatClampNeg) + (1))) (jx_de j) (jx_rp j)) := hD
  refine lv_iload_n hx hb d_ms_takeDigit_22 rfl (lv_at hl 0 rfl) ?_
  refine lv_bipush (v := 16) hx hb d_ms_takeDigit_23 (by decide) ?_
  refine lv_icmp_ge hx hb d_ms_takeDigit_25 (tgt := 48) (by decide) (fun h1 => ?_) (fun h1 => ?_)
  · skip
    refine lv_iconst (v := 0) hx hb d_ms_takeDigit_48 (by decide) ?_
    obtain ⟨q2, eq2⟩ : ∃ z : Jx, z = (jx_ru j, upd (jx_nd j) (jx_de j).toNatClampNeg ((jx_nd j (jx_de j).toNatClampNeg) + (1)), jx_de j, jx_rp j) := ⟨_, rfl⟩
    have hP : va_P D cx (xw ad cs u q2) H := by rw [eq2, xw_j]; exact hP
    have hD : va_D A (xw ad cs u q2) := by rw [eq2, xw_j]; exact hD
    exact W.iret hx hb hret (fun t ht hW => ⟨⟨_, q2, rfl, ⟨by show _ = sp_dg _ _; unfold sp_dg; rw [if_neg (Int32.not_lt.mpr h1)], (by subst eq2; rfl)⟩, by rw [ht]; exact hP, va_K.moved hW.alike hK, hD⟩, hS.F ht⟩) hS.2.2 d_ms_takeDigit_49
  · skip
    refine lv_aload_n hx hb d_ms_takeDigit_28 rfl (lv_at hl 1 rfl) ?_
    refine va_get (D := D) (ci := 0) (v := .ref (ad 6)) (C := "MeasuredStages") (T := F_ms) (N := 12) hx hb hts (fun w h => List.mem_cons_of_mem _ (i_ms w h)) hown hK hP 0 rfl rfl 5 (by decide) (hT _ tb_74) (fun _ h9 => h9) rfl d_ms_takeDigit_29 ?_
    refine lv_aload_n hx hb d_ms_takeDigit_32 rfl (lv_at hl 1 rfl) ?_
    refine va_get (D := D) (ci := 0) (v := .int (jx_de j)) (C := "MeasuredStages") (T := F_ms) (N := 12) hx hb hts (fun w h => List.mem_cons_of_mem _ (i_ms w h)) hown hK hP 0 rfl rfl 7 (by decide) (hT _ tb_76) (fun _ h9 => h9) rfl d_ms_takeDigit_33 ?_
    refine va_lald hx hb hK hP 6 3 rfl rfl hd d_ms_takeDigit_36 ?_
    refine lv_iconst (v := 4) hx hb d_ms_takeDigit_37 (by decide) ?_
    refine lv_iload_n hx hb d_ms_takeDigit_38 rfl (lv_at hl 0 rfl) ?_
    refine lv_imul hx hb d_ms_takeDigit_39 ?_
    refine lv_lushr (v := sp_sh (jx_ru j (jx_de j).toNatClampNeg) ((4) * (jx_nd j (jx_de j).toNatClampNeg))) hx hb d_ms_takeDigit_40 rfl ?_
    refine lv_l2i hx hb d_ms_takeDigit_41 rfl ?_
    refine lv_bipush (v := 15) hx hb d_ms_takeDigit_42 (by decide) ?_
    refine lv_iand hx hb d_ms_takeDigit_44 ?_
    refine lv_goto hx hb d_ms_takeDigit_45 (tgt := 49) (by decide) ?_
    obtain ⟨q3, eq3⟩ : ∃ z : Jx, z = (jx_ru j, upd (jx_nd j) (jx_de j).toNatClampNeg ((jx_nd j (jx_de j).toNatClampNeg) + (1)), jx_de j, jx_rp j) := ⟨_, rfl⟩
    have hP : va_P D cx (xw ad cs u q3) H := by rw [eq3, xw_j]; exact hP
    have hD : va_D A (xw ad cs u q3) := by rw [eq3, xw_j]; exact hD
    exact W.iret hx hb hret (fun t ht hW => ⟨⟨_, q3, rfl, ⟨by show _ = sp_dg _ _; unfold sp_dg; rw [if_pos (Int32.not_le.mp h1)], (by subst eq3; rfl)⟩, by rw [ht]; exact hP, va_K.moved hW.alike hK, hD⟩, hS.F ht⟩) hS.2.2 d_ms_takeDigit_49
set_option maxHeartbeats 4000000 in
set_option maxRecDepth 100000 in
theorem c_ms_takeImage (l : Launch) (D : va_G) (cs : Nat → ClassId) (ad : Nat → Nat) (sz : Nat) (u : Sg) (j : Jx)  (hd : vp_in (jx_de j) 6) : Met l y_ms_takeImage (Cond.code y_ms_takeImage b_ms_takeImage 1 (some .int) :: TB) { frames := 1, cells := 0, slots := 0, locals := 21 } (va_Pc [.ref (ad 0)] (xw_Pre D cs ad u j sz)) (va_Qi (fun (r : Int32) (j1 : Jx) => r = sp_rm (sp_dg (jx_ru j (jx_de j).toNatClampNeg) (jx_nd j (jx_de j).toNatClampNeg)) 8 ∧ j1 = sx_nd j (upd (jx_nd j) (jx_de j).toNatClampNeg (jx_nd j (jx_de j).toNatClampNeg + 1))) (fun (j1 : Jx) t => xw_B D cs ad (va_A (xw ad cs u j) sz) u j1 t) (va_A (xw ad cs u j) sz)) 0 0 (va_A (xw ad cs u j) sz) := by
  refine Met.ofW (cc := b_ms_takeImage) (maxL := 1) (ret := (some .int)) (by decide) rfl ?_
  intro p e s m args below meth c s₁ B hml hv
  obtain ⟨rfl, hsz, hP, hK, hD, hN⟩ := hv
  have hx := B.exec
  have hb := B.bytes
  have hret := B.returns
  have hts := atoms_spec (ws := Cond.code y_ms_takeImage b_ms_takeImage 1 (some .int) :: TB) B.pre
  have hT : ∀ w ∈ TB, w.before _ s = true := fun w h => hts w (List.mem_cons_of_mem _ h)
  have hown : s.vm.findClass "MeasuredStages" = some m.cls := findClass_of_methodNamed B.named
  have hlocks := B.notSynchronized
  subst hsz
  have hD := hD.self (sz := s.heap.size)
  generalize hAe : va_A (xw ad cs u j) s.heap.size = A at hD ⊢
  have hA : ∀ q : Nat, s.heap.size ≤ q → A q := fun q h => by rw [← hAe]; exact Or.inr h
  have hS : va_S A s.heap s.heap [] := va_S.rf
  have hl := lv_entry ([.ref (ad 0)]) (n := 1) (Nat.le_of_ble_eq_true rfl)
  rw [lg_entry_eq]
  generalize (lg_sl ([.ref (ad 0)]) ++ List.replicate (1 - (lg_sl ([.ref (ad 0)])).length) Slot.unset).toArray = ls at hl ⊢
  have hl : lv_has ls 1 [(0, .ref (ad 0))] := hl
  skip
  refine lv_aload_n hx hb d_ms_takeImage_0 rfl (lv_at hl 0 rfl) ?_
  refine xw_wri (v := sp_dg (jx_ru j (jx_de j).toNatClampNeg) (jx_nd j (jx_de j).toNatClampNeg)) (u' := u) (As := []) (rest := []) ⟨hx, hb, hml, hown, hts⟩ (c_ms_takeDigit l D cs ad _ u j  hd) tb_272 tb_274 sl_7 tb_1 tb_275 ⟨rfl, hd_ms_takeDigit⟩ ⟨Nat.le_of_ble_eq_true rfl, Nat.le_of_ble_eq_true rfl⟩ rfl rfl hK hP hD hN 0 0 rfl rfl hl.1 rfl (Nat.le_of_ble_eq_true rfl) d_ms_takeImage_1 ⟨Nat.zero_le _, Nat.zero_le _⟩ hS hA (fun j1 H locs hj2 hP hD hS => ?_)
  refine lv_bipush (v := 8) hx hb d_ms_takeImage_4 (by decide) ?_
  refine lv_irem hx hb d_ms_takeImage_6 (by decide) ?_
  exact W.iret hx hb hret (fun t ht hW => ⟨⟨_, j1, rfl, ⟨rfl, (by subst hj2; rfl)⟩, by rw [ht]; exact hP, va_K.moved hW.alike hK, hD⟩, hS.F ht⟩) hS.2.2 d_ms_takeImage_7
set_option maxHeartbeats 4000000 in
set_option maxRecDepth 100000 in
theorem c_ms_takeRegister (l : Launch) (D : va_G) (cs : Nat → ClassId) (ad : Nat → Nat) (sz : Nat) (u : Sg) (j : Jx)  (hd : vp_in (jx_de j) 6) : Met l y_ms_takeRegister (Cond.code y_ms_takeRegister b_ms_takeRegister 1 (some .int) :: TB) { frames := 1, cells := 0, slots := 0, locals := 21 } (va_Pc [.ref (ad 0)] (xw_Pre D cs ad u j sz)) (va_Qi (fun (r : Int32) (j1 : Jx) => r = sp_rm (sp_dg (jx_ru j (jx_de j).toNatClampNeg) (jx_nd j (jx_de j).toNatClampNeg)) 6 ∧ j1 = sx_nd j (upd (jx_nd j) (jx_de j).toNatClampNeg (jx_nd j (jx_de j).toNatClampNeg + 1))) (fun (j1 : Jx) t => xw_B D cs ad (va_A (xw ad cs u j) sz) u j1 t) (va_A (xw ad cs u j) sz)) 0 0 (va_A (xw ad cs u j) sz) := by
  refine Met.ofW (cc := b_ms_takeRegister) (maxL := 1) (ret := (some .int)) (by decide) rfl ?_
  intro p e s m args below meth c s₁ B hml hv
  obtain ⟨rfl, hsz, hP, hK, hD, hN⟩ := hv
  have hx := B.exec
  have hb := B.bytes
  have hret := B.returns
  have hts := atoms_spec (ws := Cond.code y_ms_takeRegister b_ms_takeRegister 1 (some .int) :: TB) B.pre
  have hT : ∀ w ∈ TB, w.before _ s = true := fun w h => hts w (List.mem_cons_of_mem _ h)
  have hown : s.vm.findClass "MeasuredStages" = some m.cls := findClass_of_methodNamed B.named
  have hlocks := B.notSynchronized
  subst hsz
  have hD := hD.self (sz := s.heap.size)
  generalize hAe : va_A (xw ad cs u j) s.heap.size = A at hD ⊢
  have hA : ∀ q : Nat, s.heap.size ≤ q → A q := fun q h => by rw [← hAe]; exact Or.inr h
  have hS : va_S A s.heap s.heap [] := va_S.rf
  have hl := lv_entry ([.ref (ad 0)]) (n := 1) (Nat.le_of_ble_eq_true rfl)
  rw [lg_entry_eq]
  generalize (lg_sl ([.ref (ad 0)]) ++ List.replicate (1 - (lg_sl ([.ref (ad 0)])).length) Slot.unset).toArray = ls at hl ⊢
  have hl : lv_has ls 1 [(0, .ref (ad 0))] := hl
  skip
  refine lv_aload_n hx hb d_ms_takeRegister_0 rfl (lv_at hl 0 rfl) ?_
  refine xw_wri (v := sp_dg (jx_ru j (jx_de j).toNatClampNeg) (jx_nd j (jx_de j).toNatClampNeg)) (u' := u) (As := []) (rest := []) ⟨hx, hb, hml, hown, hts⟩ (c_ms_takeDigit l D cs ad _ u j  hd) tb_272 tb_274 sl_7 tb_1 tb_275 ⟨rfl, hd_ms_takeDigit⟩ ⟨Nat.le_of_ble_eq_true rfl, Nat.le_of_ble_eq_true rfl⟩ rfl rfl hK hP hD hN 0 0 rfl rfl hl.1 rfl (Nat.le_of_ble_eq_true rfl) d_ms_takeRegister_1 ⟨Nat.zero_le _, Nat.zero_le _⟩ hS hA (fun j1 H locs hj2 hP hD hS => ?_)
  refine lv_bipush (v := 6) hx hb d_ms_takeRegister_4 (by decide) ?_
  refine lv_irem hx hb d_ms_takeRegister_6 (by decide) ?_
  exact W.iret hx hb hret (fun t ht hW => ⟨⟨_, j1, rfl, ⟨rfl, (by subst hj2; rfl)⟩, by rw [ht]; exact hP, va_K.moved hW.alike hK, hD⟩, hS.F ht⟩) hS.2.2 d_ms_takeRegister_7
set_option maxHeartbeats 4000000 in
set_option maxRecDepth 100000 in
theorem c_ms_launchAt_d (l : Launch) (D : va_G) (cs : Nat → ClassId) (ad : Nat → Nat) (sz : Nat) (u : Sg) (j : Jx) (d n : Int32) (hd : 6 ≤ d) : Met l y_ms_launchAt (Cond.code y_ms_launchAt b_ms_launchAt 4 (some .int) :: TB) { frames := 3, cells := 0, slots := 0, locals := 71 } (va_Pc [.ref (ad 0), .int d, .int n] (xw_Pre D cs ad u j sz)) (vp_Si (fun r => r = 2)) 0 0 (fun _ => False) := by
  refine Met.ofW (cc := b_ms_launchAt) (maxL := 4) (ret := (some .int)) (by decide) rfl ?_
  intro p e s m args below meth c s₁ B hml hv
  obtain ⟨rfl, hsz, hP, hK, hD, hN⟩ := hv
  have hx := B.exec
  have hb := B.bytes
  have hret := B.returns
  have hts := atoms_spec (ws := Cond.code y_ms_launchAt b_ms_launchAt 4 (some .int) :: TB) B.pre
  have hT : ∀ w ∈ TB, w.before _ s = true := fun w h => hts w (List.mem_cons_of_mem _ h)
  have hown : s.vm.findClass "MeasuredStages" = some m.cls := findClass_of_methodNamed B.named
  have hlocks := B.notSynchronized
  subst hsz
  have hl := lv_entry ([.ref (ad 0), .int d, .int n]) (n := 4) (Nat.le_of_ble_eq_true rfl)
  rw [lg_entry_eq]
  generalize (lg_sl ([.ref (ad 0), .int d, .int n]) ++ List.replicate (4 - (lg_sl ([.ref (ad 0), .int d, .int n])).length) Slot.unset).toArray = ls at hl ⊢
  have hl : lv_has ls 4 [(0, .ref (ad 0)), (1, .int d), (2, .int n)] := hl
  refine lv_iload_n hx hb d_ms_launchAt_0 rfl (lv_at hl 1 rfl) ?_
  refine lv_bipush (v := 6) hx hb d_ms_launchAt_1 (by decide) ?_
  refine lv_icmp_lt hx hb d_ms_launchAt_3 (tgt := 8) (by decide) (fun z => absurd z (Int32.not_lt.mpr hd)) (fun _ => ?_)
  refine lv_iconst (v := 2) hx hb d_ms_launchAt_6 (by decide) ?_
  exact W.iret (v := 2) hx hb hret (fun t ht hW => ⟨_, rfl, rfl, ht⟩) (fun q h => by cases h) d_ms_launchAt_7
set_option maxHeartbeats 4000000 in
set_option maxRecDepth 100000 in
theorem c_ms_launchAt_f (l : Launch) (D : va_G) (cs : Nat → ClassId) (ad : Nat → Nat) (sz : Nat) (u : Sg) (j : Jx) (d n : Int32) (hd : vp_in d 6) (hn : vp_in n 8) (he : sg_en u = 32) : Met l y_ms_launchAt (Cond.code y_ms_launchAt b_ms_launchAt 4 (some .int) :: TB) { frames := 3, cells := 0, slots := 0, locals := 71 } (va_Pc [.ref (ad 0), .int d, .int n] (xw_Pre D cs ad u j sz)) (vp_Si (fun r => r = 4)) 0 0 (fun _ => False) := by
  refine Met.ofW (cc := b_ms_launchAt) (maxL := 4) (ret := (some .int)) (by decide) rfl ?_
  intro p e s m args below meth c s₁ B hml hv
  obtain ⟨rfl, hsz, hP, hK, hD, hN⟩ := hv
  have hx := B.exec
  have hb := B.bytes
  have hret := B.returns
  have hts := atoms_spec (ws := Cond.code y_ms_launchAt b_ms_launchAt 4 (some .int) :: TB) B.pre
  have hT : ∀ w ∈ TB, w.before _ s = true := fun w h => hts w (List.mem_cons_of_mem _ h)
  have hown : s.vm.findClass "MeasuredStages" = some m.cls := findClass_of_methodNamed B.named
  have hlocks := B.notSynchronized
  subst hsz
  have hl := lv_entry ([.ref (ad 0), .int d, .int n]) (n := 4) (Nat.le_of_ble_eq_true rfl)
  rw [lg_entry_eq]
  generalize (lg_sl ([.ref (ad 0), .int d, .int n]) ++ List.replicate (4 - (lg_sl ([.ref (ad 0), .int d, .int n])).length) Slot.unset).toArray = ls at hl ⊢
  have hl : lv_has ls 4 [(0, .ref (ad 0)), (1, .int d), (2, .int n)] := hl
  refine lv_iload_n hx hb d_ms_launchAt_0 rfl (lv_at hl 1 rfl) ?_
  refine lv_bipush (v := 6) hx hb d_ms_launchAt_1 (by decide) ?_
  refine lv_icmp_lt hx hb d_ms_launchAt_3 (tgt := 8) (by decide) (fun _ => ?_) (fun z => absurd (xn_lt (by decide) hd) z)
  refine lv_aload_n hx hb d_ms_launchAt_8 rfl (lv_at hl 0 rfl) ?_
  refine lv_iload_n hx hb d_ms_launchAt_9 rfl (lv_at hl 1 rfl) ?_
  refine lv_aload_n hx hb d_ms_launchAt_10 rfl (lv_at hl 0 rfl) ?_
  refine lv_iload_n hx hb d_ms_launchAt_11 rfl (lv_at hl 2 rfl) ?_
  refine xw_rdl (v := sp_di u n) (As := [.int n]) (rest := [.int d, .ref (ad 0)]) ⟨hx, hb, hml, hown, hts⟩ (c_ms_digestOf l D cs ad _ u j n hn) tb_230 tb_232 sl_1 tb_1 tb_233 ⟨rfl, hd_ms_digestOf⟩ ⟨Nat.le_of_ble_eq_true rfl, Nat.le_of_ble_eq_true rfl⟩ rfl rfl hK hP hD hN 0 0 rfl rfl hl.1 rfl (Nat.le_of_ble_eq_true rfl) d_ms_launchAt_12 ⟨Nat.zero_le _, Nat.zero_le _⟩ ?_
  refine xw_rdi (v := 4) (As := [.int d, .long (sp_di u n)]) (rest := []) ⟨hx, hb, hml, hown, hts⟩ (c_ms_extendOrFault_f l D cs ad _ u j d (sp_di u n) he) tb_256 tb_258 sl_4 tb_1 tb_259 ⟨rfl, hd_ms_extendOrFault⟩ ⟨Nat.le_of_ble_eq_true rfl, Nat.le_of_ble_eq_true rfl⟩ rfl rfl hK hP hD hN 0 0 rfl rfl hl.1 rfl (Nat.le_of_ble_eq_true rfl) d_ms_launchAt_15 ⟨Nat.zero_le _, Nat.zero_le _⟩ ?_
  refine lv_istore_n (nL := 4) (lv' := [(3, .int (4)), (0, .ref (ad 0)), (1, .int d), (2, .int n)]) hx hb d_ms_launchAt_18 rfl hl (by decide) rfl (fun ls hl => ?_)
  refine lv_iload_n hx hb d_ms_launchAt_19 rfl (lv_at hl 0 rfl) ?_
  refine lv_if_eq hx hb d_ms_launchAt_20 (tgt := 25) (by decide) (fun z => absurd z (by decide)) (fun _ => ?_)
  refine lv_iload_n hx hb d_ms_launchAt_23 rfl (lv_at hl 0 rfl) ?_
  exact W.iret (v := 4) hx hb hret (fun t ht hW => ⟨_, rfl, rfl, ht⟩) (fun q h => by cases h) d_ms_launchAt_24
set_option maxHeartbeats 4000000 in
set_option maxRecDepth 100000 in
theorem c_ms_launchAt (l : Launch) (D : va_G) (cs : Nat → ClassId) (ad : Nat → Nat) (sz : Nat) (u : Sg) (j : Jx) (d n : Int32) (hd : vp_in d 6) (hn : vp_in n 8) (he : vp_in (sg_en u) 32) : Met l y_ms_launchAt (Cond.code y_ms_launchAt b_ms_launchAt 4 (some .int) :: TB) { frames := 3, cells := 0, slots := 0, locals := 71 } (va_Pc [.ref (ad 0), .int d, .int n] (xw_Pre D cs ad u j sz)) (va_Qi (fun (r : Int32) (j1 : Jx) => r = 0 ∧ j1 = sx_de (sx_nd (sx_ru j (vp_updL (jx_ru j) d.toNatClampNeg (sg_im u n.toNatClampNeg))) (upd (jx_nd j) d.toNatClampNeg 0)) d) (fun (j1 : Jx) t => xw_B D cs ad (va_A (xw ad cs u j) sz) ((fun v : Sg => ss_la v (sg_la v + 1)) (sp_no u d (sp_di u n))) j1 t) (va_A (xw ad cs u j) sz)) 0 0 (va_A (xw ad cs u j) sz) := by
  refine Met.ofW (cc := b_ms_launchAt) (maxL := 4) (ret := (some .int)) (by decide) rfl ?_
  intro p e s m args below meth c s₁ B hml hv
  obtain ⟨rfl, hsz, hP, hK, hD, hN⟩ := hv
  have hx := B.exec
  have hb := B.bytes
  have hret := B.returns
  have hts := atoms_spec (ws := Cond.code y_ms_launchAt b_ms_launchAt 4 (some .int) :: TB) B.pre
  have hT : ∀ w ∈ TB, w.before _ s = true := fun w h => hts w (List.mem_cons_of_mem _ h)
  have hown : s.vm.findClass "MeasuredStages" = some m.cls := findClass_of_methodNamed B.named
  have hlocks := B.notSynchronized
  subst hsz
  have hD := hD.self (sz := s.heap.size)
  generalize hAe : va_A (xw ad cs u j) s.heap.size = A at hD ⊢
  have hA : ∀ q : Nat, s.heap.size ≤ q → A q := fun q h => by rw [← hAe]; exact Or.inr h
  have hS : va_S A s.heap s.heap [] := va_S.rf
  have hl := lv_entry ([.ref (ad 0), .int d, .int n]) (n := 4) (Nat.le_of_ble_eq_true rfl)
  rw [lg_entry_eq]
  generalize (lg_sl ([.ref (ad 0), .int d, .int n]) ++ List.replicate (4 - (lg_sl ([.ref (ad 0), .int d, .int n])).length) Slot.unset).toArray = ls at hl ⊢
  have hl : lv_has ls 4 [(0, .ref (ad 0)), (1, .int d), (2, .int n)] := hl
  skip
  refine lv_iload_n hx hb d_ms_launchAt_0 rfl (lv_at hl 1 rfl) ?_
  refine lv_bipush (v := 6) hx hb d_ms_launchAt_1 (by decide) ?_
  refine lv_icmp_lt hx hb d_ms_launchAt_3 (tgt := 8) (by decide) (fun _ => ?_) (fun z => absurd (xn_lt (by decide) hd) z)
  refine lv_aload_n hx hb d_ms_launchAt_8 rfl (lv_at hl 0 rfl) ?_
  refine lv_iload_n hx hb d_ms_launchAt_9 rfl (lv_at hl 1 rfl) ?_
  refine lv_aload_n hx hb d_ms_launchAt_10 rfl (lv_at hl 0 rfl) ?_
  refine lv_iload_n hx hb d_ms_launchAt_11 rfl (lv_at hl 2 rfl) ?_
  refine xw_rdl (v := sp_di u n) (As := [.int n]) (rest := [.int d, .ref (ad 0)]) ⟨hx, hb, hml, hown, hts⟩ (c_ms_digestOf l D cs ad _ u j n hn) tb_230 tb_232 sl_1 tb_1 tb_233 ⟨rfl, hd_ms_digestOf⟩ ⟨Nat.le_of_ble_eq_true rfl, Nat.le_of_ble_eq_true rfl⟩ rfl rfl hK hP hD hN 0 0 rfl rfl hl.1 rfl (Nat.le_of_ble_eq_true rfl) d_ms_launchAt_12 ⟨Nat.zero_le _, Nat.zero_le _⟩ ?_
  refine xw_wri (v := 0) (u' := sp_no u d (sp_di u n)) (As := [.int d, .long (sp_di u n)]) (rest := []) ⟨hx, hb, hml, hown, hts⟩ (c_ms_extendOrFault l D cs ad _ u j d (sp_di u n) hd he) tb_256 tb_258 sl_4 tb_1 tb_259 ⟨rfl, hd_ms_extendOrFault⟩ ⟨Nat.le_of_ble_eq_true rfl, Nat.le_of_ble_eq_true rfl⟩ rfl rfl hK hP hD hN 0 0 rfl rfl hl.1 rfl (Nat.le_of_ble_eq_true rfl) d_ms_launchAt_15 ⟨Nat.zero_le _, Nat.zero_le _⟩ hS hA (fun j1 H locs hj2 hP hD hS => ?_)
  obtain ⟨v3, ev3⟩ : ∃ z : Sg, z = sp_no u d (sp_di u n) := ⟨_, rfl⟩
  rw [← ev3] at hP hD
  rw [hj2] at hP hD
  refine lv_istore_n (nL := 4) (lv' := [(3, .int (0)), (0, .ref (ad 0)), (1, .int d), (2, .int n)]) hx hb d_ms_launchAt_18 rfl hl (by decide) rfl (fun ls hl => ?_)
  refine lv_iload_n hx hb d_ms_launchAt_19 rfl (lv_at hl 0 rfl) ?_
  refine lv_if_eq hx hb d_ms_launchAt_20 (tgt := 25) (by decide) (fun _ => ?_) (fun z => absurd rfl z)
  refine lv_aload_n hx hb d_ms_launchAt_25 rfl (lv_at hl 1 rfl) ?_
  refine lv_dup hx hb d_ms_launchAt_26 rfl ?_
  refine va_get (D := D) (ci := 0) (v := .int (sg_la v3)) (C := "MeasuredStages") (T := F_ms) (N := 12) hx hb hts (fun w h => List.mem_cons_of_mem _ (i_ms w h)) hown hK hP 0 rfl rfl 10 (by decide) (hT _ tb_79) (fun _ h9 => h9) rfl d_ms_launchAt_27 ?_
  refine lv_iconst (v := 1) hx hb d_ms_launchAt_30 (by decide) ?_
  refine lv_iadd hx hb d_ms_launchAt_31 ?_
  refine va_put (D := D) (ci := 0) (v := .int ((sg_la v3) + (1))) (ty := .int) (C := "MeasuredStages") (T := F_ms) (N := 12) hx hb hts (fun w h => List.mem_cons_of_mem _ (i_ms w h)) t_ms o_ms n_ms hown hK hP hD hS 0 rfl rfl 10 (by decide) (hT _ tb_79) (fun _ h9 => h9) rfl (by decide +kernel) rfl rfl (Nat.le_of_ble_eq_true rfl) d_ms_launchAt_32 (fun H locs hP hD hS => ?_)
  have hP : va_P D cx (xv ad cs (sg_im v3) (sg_ap v3) (sg_ag v3) (sg_he v3) (sg_er v3) (sg_ev v3) (sg_en v3) (sg_ma v3) (sg_po v3) (sg_se v3) (sg_ac v3) (sg_fa v3) ((sg_la v3) + (1)) (sg_st v3) (jx_ru j) (jx_nd j) (jx_de j) (jx_rp j)) H := hP
  have hD : va_D A (xv ad cs (sg_im v3) (sg_ap v3) (sg_ag v3) (sg_he v3) (sg_er v3) (sg_ev v3) (sg_en v3) (sg_ma v3) (sg_po v3) (sg_se v3) (sg_ac v3) (sg_fa v3) ((sg_la v3) + (1)) (sg_st v3) (jx_ru j) (jx_nd j) (jx_de j) (jx_rp j)) := hD
  refine lv_aload_n hx hb d_ms_launchAt_35 rfl (lv_at hl 1 rfl) ?_
  refine va_get (D := D) (ci := 0) (v := .ref (ad 6)) (C := "MeasuredStages") (T := F_ms) (N := 12) hx hb hts (fun w h => List.mem_cons_of_mem _ (i_ms w h)) hown hK hP 0 rfl rfl 5 (by decide) (hT _ tb_74) (fun _ h9 => h9) rfl d_ms_launchAt_36 ?_
  refine lv_iload_n hx hb d_ms_launchAt_39 rfl (lv_at hl 2 rfl) ?_
  refine lv_aload_n hx hb d_ms_launchAt_40 rfl (lv_at hl 1 rfl) ?_
  refine va_get (D := D) (ci := 0) (v := .ref (ad 1)) (C := "MeasuredStages") (T := F_ms) (N := 12) hx hb hts (fun w h => List.mem_cons_of_mem _ (i_ms w h)) hown hK hP 0 rfl rfl 0 (by decide) (hT _ tb_69) (fun _ h9 => h9) rfl d_ms_launchAt_41 ?_
  refine lv_iload_n hx hb d_ms_launchAt_44 rfl (lv_at hl 3 rfl) ?_
  refine va_lald hx hb hK hP 1 0 rfl rfl hn d_ms_launchAt_45 ?_
  refine va_last hx hb hK hP hD hS 6 3 rfl rfl hd d_ms_launchAt_46 (fun H locs hP hD hS => ?_)
  have hP : va_P D cx (xv ad cs (sg_im v3) (sg_ap v3) (sg_ag v3) (sg_he v3) (sg_er v3) (sg_ev v3) (sg_en v3) (sg_ma v3) (sg_po v3) (sg_se v3) (sg_ac v3) (sg_fa v3) ((sg_la v3) + (1)) (sg_st v3) (vp_updL (jx_ru j) d.toNatClampNeg (sg_im v3 n.toNatClampNeg)) (jx_nd j) (jx_de j) (jx_rp j)) H := hP
  have hD : va_D A (xv ad cs (sg_im v3) (sg_ap v3) (sg_ag v3) (sg_he v3) (sg_er v3) (sg_ev v3) (sg_en v3) (sg_ma v3) (sg_po v3) (sg_se v3) (sg_ac v3) (sg_fa v3) ((sg_la v3) + (1)) (sg_st v3) (vp_updL (jx_ru j) d.toNatClampNeg (sg_im v3 n.toNatClampNeg)) (jx_nd j) (jx_de j) (jx_rp j)) := hD
  refine lv_aload_n hx hb d_ms_launchAt_47 rfl (lv_at hl 1 rfl) ?_
  refine va_get (D := D) (ci := 0) (v := .ref (ad 7)) (C := "MeasuredStages") (T := F_ms) (N := 12) hx hb hts (fun w h => List.mem_cons_of_mem _ (i_ms w h)) hown hK hP 0 rfl rfl 6 (by decide) (hT _ tb_75) (fun _ h9 => h9) rfl d_ms_launchAt_48 ?_
  refine lv_iload_n hx hb d_ms_launchAt_51 rfl (lv_at hl 2 rfl) ?_
  refine lv_iconst (v := 0) hx hb d_ms_launchAt_52 (by decide) ?_
  refine va_iast hx hb hK hP hD hS 7 4 rfl rfl hd d_ms_launchAt_53 (fun H locs hP hD hS => ?_)
  have hP : va_P D cx (xv ad cs (sg_im v3) (sg_ap v3) (sg_ag v3) (sg_he v3) (sg_er v3) (sg_ev v3) (sg_en v3) (sg_ma v3) (sg_po v3) (sg_se v3) (sg_ac v3) (sg_fa v3) ((sg_la v3) + (1)) (sg_st v3) (vp_updL (jx_ru j) d.toNatClampNeg (sg_im v3 n.toNatClampNeg)) (upd (jx_nd j) d.toNatClampNeg (0)) (jx_de j) (jx_rp j)) H := hP
  have hD : va_D A (xv ad cs (sg_im v3) (sg_ap v3) (sg_ag v3) (sg_he v3) (sg_er v3) (sg_ev v3) (sg_en v3) (sg_ma v3) (sg_po v3) (sg_se v3) (sg_ac v3) (sg_fa v3) ((sg_la v3) + (1)) (sg_st v3) (vp_updL (jx_ru j) d.toNatClampNeg (sg_im v3 n.toNatClampNeg)) (upd (jx_nd j) d.toNatClampNeg (0)) (jx_de j) (jx_rp j)) := hD
  refine lv_aload_n hx hb d_ms_launchAt_54 rfl (lv_at hl 1 rfl) ?_
  refine lv_iload_n hx hb d_ms_launchAt_55 rfl (lv_at hl 2 rfl) ?_
  refine va_put (D := D) (ci := 0) (v := .int d) (ty := .int) (C := "MeasuredStages") (T := F_ms) (N := 12) hx hb hts (fun w h => List.mem_cons_of_mem _ (i_ms w h)) t_ms o_ms n_ms hown hK hP hD hS 0 rfl rfl 7 (by decide) (hT _ tb_76) (fun _ h9 => h9) rfl (by decide +kernel) rfl rfl (Nat.le_of_ble_eq_true rfl) d_ms_launchAt_56 (fun H locs hP hD hS => ?_)
  have hP : va_P D cx (xv ad cs (sg_im v3) (sg_ap v3) (sg_ag v3) (sg_he v3) (sg_er v3) (sg_ev v3) (sg_en v3) (sg_ma v3) (sg_po v3) (sg_se v3) (sg_ac v3) (sg_fa v3) ((sg_la v3) + (1)) (sg_st v3) (vp_updL (jx_ru j) d.toNatClampNeg (sg_im v3 n.toNatClampNeg)) (upd (jx_nd j) d.toNatClampNeg (0)) d (jx_rp j)) H := hP
  have hD : va_D A (xv ad cs (sg_im v3) (sg_ap v3) (sg_ag v3) (sg_he v3) (sg_er v3) (sg_ev v3) (sg_en v3) (sg_ma v3) (sg_po v3) (sg_se v3) (sg_ac v3) (sg_fa v3) ((sg_la v3) + (1)) (sg_st v3) (vp_updL (jx_ru j) d.toNatClampNeg (sg_im v3 n.toNatClampNeg)) (upd (jx_nd j) d.toNatClampNeg (0)) d (jx_rp j)) := hD
  refine lv_iconst (v := 0) hx hb d_ms_launchAt_59 (by decide) ?_
  obtain ⟨v4, ev4⟩ : ∃ z : Sg, z = (sg_im v3, sg_ap v3, sg_ag v3, sg_he v3, sg_er v3, sg_ev v3, sg_en v3, sg_ma v3, sg_po v3, sg_se v3, sg_ac v3, sg_fa v3, (sg_la v3) + (1), sg_st v3) := ⟨_, rfl⟩
  obtain ⟨q5, eq5⟩ : ∃ z : Jx, z = (vp_updL (jx_ru j) d.toNatClampNeg (sg_im v3 n.toNatClampNeg), upd (jx_nd j) d.toNatClampNeg (0), d, jx_rp j) := ⟨_, rfl⟩
  have hP : va_P D cx (xw ad cs v4 q5) H := by rw [ev4, eq5, xw_uj]; exact hP
  have hD : va_D A (xw ad cs v4 q5) := by rw [ev4, eq5, xw_uj]; exact hD
  subst ev4
  subst ev3
  exact W.iret hx hb hret (fun t ht hW => ⟨⟨_, q5, rfl, ⟨rfl, (by subst eq5; rfl)⟩, by rw [ht]; exact hP, va_K.moved hW.alike hK, hD⟩, hS.F ht⟩) hS.2.2 d_ms_launchAt_60
