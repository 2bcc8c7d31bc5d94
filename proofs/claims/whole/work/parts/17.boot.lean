theorem d_ms_boot_0 : decode b_ms_boot 0 = .ok (.iload_n 1, 1) := by decide +kernel
theorem d_ms_boot_1 : decode b_ms_boot 1 = .ok (.invokestatic 41, 3) := by decide +kernel
theorem d_ms_boot_4 : decode b_ms_boot 4 = .ok (.ifCond .ne 13, 3) := by decide +kernel
theorem d_ms_boot_7 : decode b_ms_boot 7 = .ok (.new 45, 3) := by decide +kernel
theorem d_ms_boot_10 : decode b_ms_boot 10 = .ok (.dup, 1) := by decide +kernel
theorem d_ms_boot_11 : decode b_ms_boot 11 = .ok (.ldc 47, 2) := by decide +kernel
theorem d_ms_boot_13 : decode b_ms_boot 13 = .ok (.invokespecial 49, 3) := by decide +kernel
theorem d_ms_boot_16 : decode b_ms_boot 16 = .ok (.athrow, 1) := by decide +kernel
theorem d_ms_boot_17 : decode b_ms_boot 17 = .ok (.aload_n 0, 1) := by decide +kernel
theorem d_ms_boot_18 : decode b_ms_boot 18 = .ok (.invokevirtual 56, 3) := by decide +kernel
theorem d_ms_boot_21 : decode b_ms_boot 21 = .ok (.aload_n 0, 1) := by decide +kernel
theorem d_ms_boot_22 : decode b_ms_boot 22 = .ok (.aload_n 0, 1) := by decide +kernel
theorem d_ms_boot_23 : decode b_ms_boot 23 = .ok (.iconst 0, 1) := by decide +kernel
theorem d_ms_boot_24 : decode b_ms_boot 24 = .ok (.iload_n 1, 1) := by decide +kernel
theorem d_ms_boot_25 : decode b_ms_boot 25 = .ok (.invokevirtual 59, 3) := by decide +kernel
theorem d_ms_boot_28 : decode b_ms_boot 28 = .ok (.putfield 63, 3) := by decide +kernel
theorem d_ms_boot_31 : decode b_ms_boot 31 = .ok (.aload_n 0, 1) := by decide +kernel
theorem d_ms_boot_32 : decode b_ms_boot 32 = .ok (.invokevirtual 67, 3) := by decide +kernel
theorem d_ms_boot_35 : decode b_ms_boot 35 = .ok (.aload_n 0, 1) := by decide +kernel
theorem d_ms_boot_36 : decode b_ms_boot 36 = .ok (.getfield 63, 3) := by decide +kernel
theorem d_ms_boot_39 : decode b_ms_boot 39 = .ok (.ifCond .eq 13, 3) := by decide +kernel
theorem d_ms_boot_42 : decode b_ms_boot 42 = .ok (.new 70, 3) := by decide +kernel
theorem d_ms_boot_45 : decode b_ms_boot 45 = .ok (.dup, 1) := by decide +kernel
theorem d_ms_boot_46 : decode b_ms_boot 46 = .ok (.ldc 72, 2) := by decide +kernel
theorem d_ms_boot_48 : decode b_ms_boot 48 = .ok (.invokespecial 74, 3) := by decide +kernel
theorem d_ms_boot_51 : decode b_ms_boot 51 = .ok (.athrow, 1) := by decide +kernel
theorem d_ms_boot_52 : decode b_ms_boot 52 = .ok (.aload_n 0, 1) := by decide +kernel
theorem d_ms_boot_53 : decode b_ms_boot 53 = .ok (.getfield 75, 3) := by decide +kernel
theorem d_ms_boot_56 : decode b_ms_boot 56 = .ok (.ireturn, 1) := by decide +kernel
set_option maxHeartbeats 4000000 in
set_option maxRecDepth 100000 in
theorem k_ms_boot (l : Launch) (D : va_G) (cs : Nat → ClassId) (ad : Nat → Nat) (sz : Nat) (u : Sg) (j : Jx) (n : Int32) (hok : sp_ok u) (hn : vp_in n 8) (hf : sg_fa (sp_bo u n) = 0) : Met l y_ms_boot (Cond.code y_ms_boot b_ms_boot 2 (some .int) :: TB) { frames := 8, cells := 0, slots := 0, locals := 220 } (va_Pc [.ref (ad 0), .int n] (xw_Pre D cs ad u j sz)) (va_Qi (fun (r : Int32) (j1 : Jx) => r = sg_la (sp_bo u n) ∧ True) (fun (j1 : Jx) t => xw_B D cs ad (va_A (xw ad cs u j) sz) (sp_bo u n) j1 t) (va_A (xw ad cs u j) sz)) 0 0 (va_A (xw ad cs u j) sz) := by
  refine Met.ofW (cc := b_ms_boot) (maxL := 2) (ret := (some .int)) (by decide) rfl ?_
  intro p e s m args below meth c s₁ B hml hv
  obtain ⟨rfl, hsz, hP, hK, hD, hN⟩ := hv
  have hx := B.exec
  have hb := B.bytes
  have hret := B.returns
  have hts := atoms_spec (ws := Cond.code y_ms_boot b_ms_boot 2 (some .int) :: TB) B.pre
  have hT : ∀ w ∈ TB, w.before _ s = true := fun w h => hts w (List.mem_cons_of_mem _ h)
  have hown : s.vm.findClass "MeasuredStages" = some m.cls := findClass_of_methodNamed B.named
  have hlocks := B.notSynchronized
  subst hsz
  have hD := hD.self (sz := s.heap.size)
  generalize hAe : va_A (xw ad cs u j) s.heap.size = A at hD ⊢
  have hA : ∀ q : Nat, s.heap.size ≤ q → A q := fun q h => by rw [← hAe]; exact Or.inr h
  have hS : va_S A s.heap s.heap [] := va_S.rf
  have hl := lv_entry ([.ref (ad 0), .int n]) (n := 2) (Nat.le_of_ble_eq_true rfl)
  rw [lg_entry_eq]
  generalize (lg_sl ([.ref (ad 0), .int n]) ++ List.replicate (2 - (lg_sl ([.ref (ad 0), .int n])).length) Slot.unset).toArray = ls at hl ⊢
  have hl : lv_has ls 2 [(0, .ref (ad 0)), (1, .int n)] := hl
  skip
  refine lv_iload_n hx hb d_ms_boot_0 rfl (lv_at hl 1 rfl) ?_
  refine st_i (v := sp_rg n 8) (As := [.int n]) (rest := []) ⟨hx, hb, hml, hown, hts⟩ (c_ms_isImage l n) tb_151 tb_152 tb_1 tb_153 hd_ms_isImage ⟨Nat.le_of_ble_eq_true rfl, Nat.le_of_ble_eq_true rfl⟩ rfl rfl hl.1 rfl (Nat.le_of_ble_eq_true rfl) d_ms_boot_1 ⟨Nat.zero_le _, Nat.zero_le _⟩ ?_
  refine lv_if_ne hx hb d_ms_boot_4 (tgt := 17) (by decide) (fun _ => ?_) (fun z => absurd z (rg8 hn))
  refine lv_aload_n hx hb d_ms_boot_17 rfl (lv_at hl 0 rfl) ?_
  refine xw_wrv (u' := ss_st (ss_la (ss_ac (ss_en (ss_he u (sp_z6 (sg_he u))) 0) 0) 0) 0) (As := []) (rest := []) ⟨hx, hb, hml, hown, hts⟩ (c_ms_clearForBoot l D cs ad _ u j ) tb_244 tb_246 sl_2 tb_1 tb_247 ⟨rfl, hd_ms_clearForBoot⟩ ⟨Nat.le_of_ble_eq_true rfl, Nat.le_of_ble_eq_true rfl⟩ rfl rfl hK hP hD hN 0 0 rfl rfl hl.1 rfl (Nat.le_of_ble_eq_true rfl) d_ms_boot_18 ⟨Nat.zero_le _, Nat.zero_le _⟩ hS hA (fun j1 H locs hj2 hP hD hS => ?_)
  obtain ⟨v3, ev3⟩ : ∃ z : Sg, z = ss_st (ss_la (ss_ac (ss_en (ss_he u (sp_z6 (sg_he u))) 0) 0) 0) 0 := ⟨_, rfl⟩
  rw [← ev3] at hP hD
  rw [hj2] at hP hD
  refine lv_aload_n hx hb d_ms_boot_21 rfl (lv_at hl 0 rfl) ?_
  refine lv_aload_n hx hb d_ms_boot_22 rfl (lv_at hl 0 rfl) ?_
  refine lv_iconst (v := 0) hx hb d_ms_boot_23 (by decide) ?_
  refine lv_iload_n hx hb d_ms_boot_24 rfl (lv_at hl 1 rfl) ?_
  refine xw_wri (v := 0) (u' := (fun v : Sg => ss_la v (sg_la v + 1)) (sp_no v3 (0) (sp_di v3 n))) (As := [.int (0), .int n]) (rest := [.ref (ad 0)]) ⟨hx, hb, hml, hown, hts⟩ (c_ms_launchAt l D cs ad _ v3 j 0 n z_in6 hn (by subst ev3; exact z_in32)) tb_252 tb_254 sl_3 tb_1 tb_255 ⟨rfl, hd_ms_launchAt⟩ ⟨Nat.le_of_ble_eq_true rfl, Nat.le_of_ble_eq_true rfl⟩ rfl rfl hK hP hD hN 0 0 rfl rfl hl.1 rfl (Nat.le_of_ble_eq_true rfl) d_ms_boot_25 ⟨Nat.zero_le _, Nat.zero_le _⟩ hS hA (fun j4 H locs hj5 hP hD hS => ?_)
  obtain ⟨v6, ev6⟩ : ∃ z : Sg, z = (fun v : Sg => ss_la v (sg_la v + 1)) (sp_no v3 (0) (sp_di v3 n)) := ⟨_, rfl⟩
  rw [← ev6] at hP hD
  refine va_put (D := D) (ci := 0) (v := .int (0)) (ty := .int) (C := "MeasuredStages") (T := F_ms) (N := 12) hx hb hts (fun w h => List.mem_cons_of_mem _ (i_ms w h)) t_ms o_ms n_ms hown hK hP hD hS 0 rfl rfl 9 (by decide) (hT _ tb_78) (fun _ h9 => h9) rfl (by decide +kernel) rfl rfl (Nat.le_of_ble_eq_true rfl) d_ms_boot_28 (fun H locs hP hD hS => ?_)
  have hP : va_P D cx (xv ad cs (sg_im v6) (sg_ap v6) (sg_ag v6) (sg_he v6) (sg_er v6) (sg_ev v6) (sg_en v6) (sg_ma v6) (sg_po v6) (sg_se v6) (sg_ac v6) (0) (sg_la v6) (sg_st v6) (jx_ru j4) (jx_nd j4) (jx_de j4) (jx_rp j4)) H := hP
  have hD : va_D A (xv ad cs (sg_im v6) (sg_ap v6) (sg_ag v6) (sg_he v6) (sg_er v6) (sg_ev v6) (sg_en v6) (sg_ma v6) (sg_po v6) (sg_se v6) (sg_ac v6) (0) (sg_la v6) (sg_st v6) (jx_ru j4) (jx_nd j4) (jx_de j4) (jx_rp j4)) := hD
  refine lv_aload_n hx hb d_ms_boot_31 rfl (lv_at hl 0 rfl) ?_
  obtain ⟨v7, ev7⟩ : ∃ z : Sg, z = (sg_im v6, sg_ap v6, sg_ag v6, sg_he v6, sg_er v6, sg_ev v6, sg_en v6, sg_ma v6, sg_po v6, sg_se v6, sg_ac v6, 0, sg_la v6, sg_st v6) := ⟨_, rfl⟩
  have hP : va_P D cx (xw ad cs v7 j4) H := by rw [ev7, xw_u]; exact hP
  have hD : va_D A (xw ad cs v7 j4) := by rw [ev7, xw_u]; exact hD
  refine xw_wrv (u' := (sp_rn 101 (sp_la (sp_cl u, 0, fun _ => 0, jx_nd j) n 0)).1) (As := []) (rest := []) ⟨hx, hb, hml, hown, hts⟩ (c_ms_runToTheEnd l D cs ad _ v7 j4  (sp_la (sp_cl u, 0, fun _ => 0, jx_nd j) n 0) (by rw [ev7, cl_run _ _ _ ev6, ev3, cl_fa, cl_la]) (by subst ev7; subst hj5; subst ev6; subst ev3; exact xj_0 u j n) (ok_la0 hok rfl) (fa_la0 _ _ _ _ _) (st_la0 _ _ _ _ _) (Or.inl z_in6)) tb_264 tb_266 sl_5 tb_1 tb_267 ⟨rfl, hd_ms_runToTheEnd⟩ ⟨Nat.le_of_ble_eq_true rfl, Nat.le_of_ble_eq_true rfl⟩ rfl rfl hK hP hD hN 0 0 rfl rfl hl.1 rfl (Nat.le_of_ble_eq_true rfl) d_ms_boot_32 ⟨Nat.zero_le _, Nat.zero_le _⟩ hS hA (fun j8 H locs hj9 hP hD hS => ?_)
  obtain ⟨v10, ev10⟩ : ∃ z : Sg, z = (sp_rn 101 (sp_la (sp_cl u, 0, fun _ => 0, jx_nd j) n 0)).1 := ⟨_, rfl⟩
  rw [← ev10] at hP hD
  have bov10 : v10 = sp_bo u n := ev10.trans (bo_eq hok)
  refine lv_aload_n hx hb d_ms_boot_35 rfl (lv_at hl 0 rfl) ?_
  refine va_get (D := D) (ci := 0) (v := .int (sg_fa v10)) (C := "MeasuredStages") (T := F_ms) (N := 12) hx hb hts (fun w h => List.mem_cons_of_mem _ (i_ms w h)) hown hK hP 0 rfl rfl 9 (by decide) (hT _ tb_78) (fun _ h9 => h9) rfl d_ms_boot_36 ?_
  have z9 : sg_fa v10 = 0 := by rw [bov10]; exact hf
  refine lv_if_eq hx hb d_ms_boot_39 (tgt := 52) (by decide) (fun _ => ?_) (fun z => absurd z9 z)
  refine lv_aload_n hx hb d_ms_boot_52 rfl (lv_at hl 0 rfl) ?_
  refine va_get (D := D) (ci := 0) (v := .int (sg_la v10)) (C := "MeasuredStages") (T := F_ms) (N := 12) hx hb hts (fun w h => List.mem_cons_of_mem _ (i_ms w h)) hown hK hP 0 rfl rfl 10 (by decide) (hT _ tb_79) (fun _ h9 => h9) rfl d_ms_boot_53 ?_
  rw [bov10] at hP hD ⊢
  exact W.iret hx hb hret (fun t ht hW => ⟨⟨_, j8, rfl, ⟨rfl, trivial⟩, by rw [ht]; exact hP, va_K.moved hW.alike hK, hD⟩, hS.F ht⟩) hS.2.2 d_ms_boot_56
