def cN (U : State) : Prop := va_Nw (.methodLinkNest "MeasuredStages" 22 y_rg_init "MeasuredStages") U ∧ va_Nw (.methodLinkNest "MeasuredStages" 29 y_bl_init "MeasuredStages") U
theorem d_bl_init_0 : decode b_bl_init 0 = .ok (.aload_n 0, 1) := by decide +kernel
theorem d_bl_init_1 : decode b_bl_init 1 = .ok (.invokespecial 1, 3) := by decide +kernel
theorem d_bl_init_4 : decode b_bl_init 4 = .ok (.aload_n 0, 1) := by decide +kernel
theorem d_bl_init_5 : decode b_bl_init 5 = .ok (.bipush 8, 2) := by decide +kernel
theorem d_bl_init_7 : decode b_bl_init 7 = .ok (.newarray .int, 2) := by decide +kernel
theorem d_bl_init_9 : decode b_bl_init 9 = .ok (.putfield 9, 3) := by decide +kernel
theorem d_bl_init_12 : decode b_bl_init 12 = .ok (.aload_n 0, 1) := by decide +kernel
theorem d_bl_init_13 : decode b_bl_init 13 = .ok (.bipush 8, 2) := by decide +kernel
theorem d_bl_init_15 : decode b_bl_init 15 = .ok (.newarray .long, 2) := by decide +kernel
theorem d_bl_init_17 : decode b_bl_init 17 = .ok (.putfield 13, 3) := by decide +kernel
theorem d_bl_init_20 : decode b_bl_init 20 = .ok (.aload_n 0, 1) := by decide +kernel
theorem d_bl_init_21 : decode b_bl_init 21 = .ok (.bipush 8, 2) := by decide +kernel
theorem d_bl_init_23 : decode b_bl_init 23 = .ok (.newarray .long, 2) := by decide +kernel
theorem d_bl_init_25 : decode b_bl_init 25 = .ok (.putfield 17, 3) := by decide +kernel
theorem d_bl_init_28 : decode b_bl_init 28 = .ok (.return_, 1) := by decide +kernel
theorem d_rg_init_0 : decode b_rg_init 0 = .ok (.aload_n 0, 1) := by decide +kernel
theorem d_rg_init_1 : decode b_rg_init 1 = .ok (.invokespecial 3, 3) := by decide +kernel
theorem d_rg_init_4 : decode b_rg_init 4 = .ok (.aload_n 0, 1) := by decide +kernel
theorem d_rg_init_5 : decode b_rg_init 5 = .ok (.bipush 6, 2) := by decide +kernel
theorem d_rg_init_7 : decode b_rg_init 7 = .ok (.newarray .long, 2) := by decide +kernel
theorem d_rg_init_9 : decode b_rg_init 9 = .ok (.putfield 11, 3) := by decide +kernel
theorem d_rg_init_12 : decode b_rg_init 12 = .ok (.aload_n 0, 1) := by decide +kernel
theorem d_rg_init_13 : decode b_rg_init 13 = .ok (.bipush 32, 2) := by decide +kernel
theorem d_rg_init_15 : decode b_rg_init 15 = .ok (.newarray .int, 2) := by decide +kernel
theorem d_rg_init_17 : decode b_rg_init 17 = .ok (.putfield 15, 3) := by decide +kernel
theorem d_rg_init_20 : decode b_rg_init 20 = .ok (.aload_n 0, 1) := by decide +kernel
theorem d_rg_init_21 : decode b_rg_init 21 = .ok (.bipush 32, 2) := by decide +kernel
theorem d_rg_init_23 : decode b_rg_init 23 = .ok (.newarray .long, 2) := by decide +kernel
theorem d_rg_init_25 : decode b_rg_init 25 = .ok (.putfield 19, 3) := by decide +kernel
theorem d_rg_init_28 : decode b_rg_init 28 = .ok (.aload_n 0, 1) := by decide +kernel
theorem d_rg_init_29 : decode b_rg_init 29 = .ok (.bipush 6, 2) := by decide +kernel
theorem d_rg_init_31 : decode b_rg_init 31 = .ok (.newarray .long, 2) := by decide +kernel
theorem d_rg_init_33 : decode b_rg_init 33 = .ok (.putfield 22, 3) := by decide +kernel
theorem d_rg_init_36 : decode b_rg_init 36 = .ok (.return_, 1) := by decide +kernel
theorem d_md_init_0 : decode b_md_init 0 = .ok (.aload_n 0, 1) := by decide +kernel
theorem d_md_init_1 : decode b_md_init 1 = .ok (.invokespecial 1, 3) := by decide +kernel
theorem d_md_init_4 : decode b_md_init 4 = .ok (.aload_n 0, 1) := by decide +kernel
theorem d_md_init_5 : decode b_md_init 5 = .ok (.bipush 6, 2) := by decide +kernel
theorem d_md_init_7 : decode b_md_init 7 = .ok (.newarray .long, 2) := by decide +kernel
theorem d_md_init_9 : decode b_md_init 9 = .ok (.putfield 7, 3) := by decide +kernel
theorem d_md_init_12 : decode b_md_init 12 = .ok (.aload_n 0, 1) := by decide +kernel
theorem d_md_init_13 : decode b_md_init 13 = .ok (.bipush 8, 2) := by decide +kernel
theorem d_md_init_15 : decode b_md_init 15 = .ok (.newarray .long, 2) := by decide +kernel
theorem d_md_init_17 : decode b_md_init 17 = .ok (.putfield 13, 3) := by decide +kernel
theorem d_md_init_20 : decode b_md_init 20 = .ok (.aload_n 0, 1) := by decide +kernel
theorem d_md_init_21 : decode b_md_init 21 = .ok (.bipush 8, 2) := by decide +kernel
theorem d_md_init_23 : decode b_md_init 23 = .ok (.newarray .boolean, 2) := by decide +kernel
theorem d_md_init_25 : decode b_md_init 25 = .ok (.putfield 16, 3) := by decide +kernel
theorem d_md_init_28 : decode b_md_init 28 = .ok (.aload_n 0, 1) := by decide +kernel
theorem d_md_init_29 : decode b_md_init 29 = .ok (.bipush 8, 2) := by decide +kernel
theorem d_md_init_31 : decode b_md_init 31 = .ok (.newarray .long, 2) := by decide +kernel
theorem d_md_init_33 : decode b_md_init 33 = .ok (.putfield 20, 3) := by decide +kernel
theorem d_md_init_36 : decode b_md_init 36 = .ok (.aload_n 0, 1) := by decide +kernel
theorem d_md_init_37 : decode b_md_init 37 = .ok (.bipush 8, 2) := by decide +kernel
theorem d_md_init_39 : decode b_md_init 39 = .ok (.newarray .int, 2) := by decide +kernel
theorem d_md_init_41 : decode b_md_init 41 = .ok (.putfield 23, 3) := by decide +kernel
theorem d_md_init_44 : decode b_md_init 44 = .ok (.aload_n 0, 1) := by decide +kernel
theorem d_md_init_45 : decode b_md_init 45 = .ok (.bipush 8, 2) := by decide +kernel
theorem d_md_init_47 : decode b_md_init 47 = .ok (.newarray .long, 2) := by decide +kernel
theorem d_md_init_49 : decode b_md_init 49 = .ok (.putfield 27, 3) := by decide +kernel
theorem d_md_init_52 : decode b_md_init 52 = .ok (.aload_n 0, 1) := by decide +kernel
theorem d_md_init_53 : decode b_md_init 53 = .ok (.bipush 8, 2) := by decide +kernel
theorem d_md_init_55 : decode b_md_init 55 = .ok (.newarray .long, 2) := by decide +kernel
theorem d_md_init_57 : decode b_md_init 57 = .ok (.putfield 30, 3) := by decide +kernel
theorem d_md_init_60 : decode b_md_init 60 = .ok (.aload_n 0, 1) := by decide +kernel
theorem d_md_init_61 : decode b_md_init 61 = .ok (.bipush 32, 2) := by decide +kernel
theorem d_md_init_63 : decode b_md_init 63 = .ok (.newarray .int, 2) := by decide +kernel
theorem d_md_init_65 : decode b_md_init 65 = .ok (.putfield 33, 3) := by decide +kernel
theorem d_md_init_68 : decode b_md_init 68 = .ok (.aload_n 0, 1) := by decide +kernel
theorem d_md_init_69 : decode b_md_init 69 = .ok (.bipush 32, 2) := by decide +kernel
theorem d_md_init_71 : decode b_md_init 71 = .ok (.newarray .long, 2) := by decide +kernel
theorem d_md_init_73 : decode b_md_init 73 = .ok (.putfield 36, 3) := by decide +kernel
theorem d_md_init_76 : decode b_md_init 76 = .ok (.aload_n 0, 1) := by decide +kernel
theorem d_md_init_77 : decode b_md_init 77 = .ok (.bipush 6, 2) := by decide +kernel
theorem d_md_init_79 : decode b_md_init 79 = .ok (.newarray .long, 2) := by decide +kernel
theorem d_md_init_81 : decode b_md_init 81 = .ok (.putfield 39, 3) := by decide +kernel
theorem d_md_init_84 : decode b_md_init 84 = .ok (.aload_n 0, 1) := by decide +kernel
theorem d_md_init_85 : decode b_md_init 85 = .ok (.bipush 6, 2) := by decide +kernel
theorem d_md_init_87 : decode b_md_init 87 = .ok (.newarray .int, 2) := by decide +kernel
theorem d_md_init_89 : decode b_md_init 89 = .ok (.putfield 42, 3) := by decide +kernel
theorem d_md_init_92 : decode b_md_init 92 = .ok (.aload_n 0, 1) := by decide +kernel
theorem d_md_init_93 : decode b_md_init 93 = .ok (.bipush 6, 2) := by decide +kernel
theorem d_md_init_95 : decode b_md_init 95 = .ok (.newarray .int, 2) := by decide +kernel
theorem d_md_init_97 : decode b_md_init 97 = .ok (.putfield 45, 3) := by decide +kernel
theorem d_md_init_100 : decode b_md_init 100 = .ok (.return_, 1) := by decide +kernel
theorem d_ms_init_0 : decode b_ms_init 0 = .ok (.aload_n 0, 1) := by decide +kernel
theorem d_ms_init_1 : decode b_ms_init 1 = .ok (.invokespecial 1, 3) := by decide +kernel
theorem d_ms_init_4 : decode b_ms_init 4 = .ok (.aload_n 0, 1) := by decide +kernel
theorem d_ms_init_5 : decode b_ms_init 5 = .ok (.bipush 8, 2) := by decide +kernel
theorem d_ms_init_7 : decode b_ms_init 7 = .ok (.newarray .long, 2) := by decide +kernel
theorem d_ms_init_9 : decode b_ms_init 9 = .ok (.putfield 9, 3) := by decide +kernel
theorem d_ms_init_12 : decode b_ms_init 12 = .ok (.aload_n 0, 1) := by decide +kernel
theorem d_ms_init_13 : decode b_ms_init 13 = .ok (.bipush 8, 2) := by decide +kernel
theorem d_ms_init_15 : decode b_ms_init 15 = .ok (.newarray .boolean, 2) := by decide +kernel
theorem d_ms_init_17 : decode b_ms_init 17 = .ok (.putfield 13, 3) := by decide +kernel
theorem d_ms_init_20 : decode b_ms_init 20 = .ok (.aload_n 0, 1) := by decide +kernel
theorem d_ms_init_21 : decode b_ms_init 21 = .ok (.bipush 8, 2) := by decide +kernel
theorem d_ms_init_23 : decode b_ms_init 23 = .ok (.newarray .long, 2) := by decide +kernel
theorem d_ms_init_25 : decode b_ms_init 25 = .ok (.putfield 17, 3) := by decide +kernel
theorem d_ms_init_28 : decode b_ms_init 28 = .ok (.aload_n 0, 1) := by decide +kernel
theorem d_ms_init_29 : decode b_ms_init 29 = .ok (.new 20, 3) := by decide +kernel
theorem d_ms_init_32 : decode b_ms_init 32 = .ok (.dup, 1) := by decide +kernel
theorem d_ms_init_33 : decode b_ms_init 33 = .ok (.invokespecial 22, 3) := by decide +kernel
theorem d_ms_init_36 : decode b_ms_init 36 = .ok (.putfield 23, 3) := by decide +kernel
theorem d_ms_init_39 : decode b_ms_init 39 = .ok (.aload_n 0, 1) := by decide +kernel
theorem d_ms_init_40 : decode b_ms_init 40 = .ok (.new 27, 3) := by decide +kernel
theorem d_ms_init_43 : decode b_ms_init 43 = .ok (.dup, 1) := by decide +kernel
theorem d_ms_init_44 : decode b_ms_init 44 = .ok (.invokespecial 29, 3) := by decide +kernel
theorem d_ms_init_47 : decode b_ms_init 47 = .ok (.putfield 30, 3) := by decide +kernel
theorem d_ms_init_50 : decode b_ms_init 50 = .ok (.aload_n 0, 1) := by decide +kernel
theorem d_ms_init_51 : decode b_ms_init 51 = .ok (.bipush 6, 2) := by decide +kernel
theorem d_ms_init_53 : decode b_ms_init 53 = .ok (.newarray .long, 2) := by decide +kernel
theorem d_ms_init_55 : decode b_ms_init 55 = .ok (.putfield 34, 3) := by decide +kernel
theorem d_ms_init_58 : decode b_ms_init 58 = .ok (.aload_n 0, 1) := by decide +kernel
theorem d_ms_init_59 : decode b_ms_init 59 = .ok (.bipush 6, 2) := by decide +kernel
theorem d_ms_init_61 : decode b_ms_init 61 = .ok (.newarray .int, 2) := by decide +kernel
theorem d_ms_init_63 : decode b_ms_init 63 = .ok (.putfield 37, 3) := by decide +kernel
theorem d_ms_init_66 : decode b_ms_init 66 = .ok (.return_, 1) := by decide +kernel
set_option maxHeartbeats 4000000 in
set_option maxRecDepth 100000 in
theorem c_bl_init (l : Launch) (D : va_G) (h0 sz : Nat) : Met l y_bl_init (Cond.code y_bl_init b_bl_init 1 none :: TB) { frames := 1, cells := 3, slots := 24, locals := 40 } (va_Pc [.ref h0] (fun U => U.heap.size = sz ∧ va_P D cx [(h0, .inr (2, [.null, .null, .null]))] U.heap ∧ va_K D cx [] U ∧ va_D (fun _ => True) [(h0, .inr (2, [.null, .null, .null]))])) (va_Qv (fun (_ : Unit) => True) (fun (_ : Unit) t => ∃ (q7 : Nat) (c7 : ClassId) (q15 : Nat) (c15 : ClassId) (q23 : Nat) (c23 : ClassId), va_P D cx [(h0, .inr (2, [.ref q7, .ref q15, .ref q23])), (q7, .inl (c7, 8, .inl (fun _ => 0))), (q15, .inl (c15, 8, .inr (.inl (fun _ => 0)))), (q23, .inl (c23, 8, .inr (.inl (fun _ => 0))))] t.heap ∧ va_K D cx [(c7, .int), (c15, .long), (c23, .long)] t ∧ va_D (va_A [(h0, .inr (2, [.null, .null, .null]))] sz) [(h0, .inr (2, [.ref q7, .ref q15, .ref q23])), (q7, .inl (c7, 8, .inl (fun _ => 0))), (q15, .inl (c15, 8, .inr (.inl (fun _ => 0)))), (q23, .inl (c23, 8, .inr (.inl (fun _ => 0))))]) (va_A [(h0, .inr (2, [.null, .null, .null]))] sz)) 3 24 (va_A [(h0, .inr (2, [.null, .null, .null]))] sz) := by
  refine Met.ofW (cc := b_bl_init) (maxL := 1) (ret := none) (by decide) rfl ?_
  intro p e s m args below meth c s₁ B hml hv
  obtain ⟨rfl, hsz, hP, hK, hD⟩ := hv
  have hx := B.exec
  have hb := B.bytes
  have hret := B.returns
  have hts := atoms_spec (ws := Cond.code y_bl_init b_bl_init 1 none :: TB) B.pre
  have hT : ∀ w ∈ TB, w.before _ s = true := fun w h => hts w (List.mem_cons_of_mem _ h)
  have hown : s.vm.findClass "MeasuredStages$Blobs" = some m.cls := findClass_of_methodNamed B.named
  have hlocks := B.notSynchronized
  have hin : meth.name = "<init>" := (name_of_methodNamed B.named B.method).1
  subst hsz
  have hD := hD.self (sz := s.heap.size)
  generalize hAe : va_A [(h0, .inr (2, [.null, .null, .null]))] s.heap.size = A at hD ⊢
  have hA : ∀ q : Nat, s.heap.size ≤ q → A q := fun q h => by rw [← hAe]; exact Or.inr h
  have hS : va_S A s.heap s.heap [] := va_S.rf
  have hl := lv_entry ([.ref h0]) (n := 1) (Nat.le_of_ble_eq_true rfl)
  rw [lg_entry_eq]
  generalize (lg_sl ([.ref h0]) ++ List.replicate (1 - (lg_sl ([.ref h0])).length) Slot.unset).toArray = ls at hl ⊢
  have hl : lv_has ls 1 [(0, .ref h0)] := hl
  refine lv_aload_n hx hb d_bl_init_0 rfl (lv_at hl 0 rfl) ?_
  refine W.objInit hx hb hown (hT _ tb_55) (hT _ tb_19) (hT _ tb_20) rfl (by rw [hml]; exact hl.1) rfl d_bl_init_1 (Nat.le_of_ble_eq_true rfl) (Nat.le_of_ble_eq_true rfl) ?_
  refine W.eq (g2 := F0 m 4 ls []) rfl ?_
  refine lv_aload_n hx hb d_bl_init_4 rfl (lv_at hl 0 rfl) ?_
  refine lv_bipush (v := 8) hx hb d_bl_init_5 (by decide) ?_
  refine va_newa (atype := .int) (ty := .int) (n := 8) (N' := 8) (a0 := (8, .inl (fun _ => 0))) hx hb (hT _ tb_49) rfl hK hP hD hS hA (fun _ => rfl) (by decide) (by decide) (by decide) (Nat.le_of_ble_eq_true rfl) (Nat.le_of_ble_eq_true rfl) d_bl_init_7 (fun q7 c7 H hK hP hD hS => ?_)
  have hP : va_P D cx [(h0, .inr (2, [.null, .null, .null])), (q7, .inl (c7, 8, .inl (fun _ => 0)))] H := hP
  have hD : va_D A [(h0, .inr (2, [.null, .null, .null])), (q7, .inl (c7, 8, .inl (fun _ => 0)))] := hD
  have hK : va_K D cx [(c7, .int)] s := hK
  refine W.widen (k := 1) (n := 8) (by omega) (by omega) ?_
  refine va_putF (D := D) (ci := 2) (v := .ref q7) (ty := .array .int) (C := "MeasuredStages$Blobs") (T := F_bl) (N := 3) hx hb hts (fun w h => List.mem_cons_of_mem _ (i_bl w h)) t_bl o_bl n_bl hown hK hP hD hS 0 rfl rfl 0 (by decide) (hT _ tb_56) (fun _ h9 => h9) rfl hin rfl (by decide +kernel) rfl rfl (Nat.le_of_ble_eq_true rfl) d_bl_init_9 (fun H locs hP hD hS => ?_)
  have hP : va_P D cx [(h0, .inr (2, [.ref q7, .null, .null])), (q7, .inl (c7, 8, .inl (fun _ => 0)))] H := hP
  have hD : va_D A [(h0, .inr (2, [.ref q7, .null, .null])), (q7, .inl (c7, 8, .inl (fun _ => 0)))] := hD
  refine lv_aload_n hx hb d_bl_init_12 rfl (lv_at hl 0 rfl) ?_
  refine lv_bipush (v := 8) hx hb d_bl_init_13 (by decide) ?_
  refine va_newa (atype := .long) (ty := .long) (n := 8) (N' := 8) (a0 := (8, .inr (.inl (fun _ => 0)))) hx hb (hT _ tb_47) rfl hK hP hD hS hA (fun _ => rfl) (by decide) (by decide) (by decide) (Nat.le_of_ble_eq_true rfl) (Nat.le_of_ble_eq_true rfl) d_bl_init_15 (fun q15 c15 H hK hP hD hS => ?_)
  have hP : va_P D cx [(h0, .inr (2, [.ref q7, .null, .null])), (q7, .inl (c7, 8, .inl (fun _ => 0))), (q15, .inl (c15, 8, .inr (.inl (fun _ => 0))))] H := hP
  have hD : va_D A [(h0, .inr (2, [.ref q7, .null, .null])), (q7, .inl (c7, 8, .inl (fun _ => 0))), (q15, .inl (c15, 8, .inr (.inl (fun _ => 0))))] := hD
  have hK : va_K D cx [(c7, .int), (c15, .long)] s := hK
  refine W.widen (k := 2) (n := 16) (by omega) (by omega) ?_
  refine va_putF (D := D) (ci := 2) (v := .ref q15) (ty := .array .long) (C := "MeasuredStages$Blobs") (T := F_bl) (N := 3) hx hb hts (fun w h => List.mem_cons_of_mem _ (i_bl w h)) t_bl o_bl n_bl hown hK hP hD hS 0 rfl rfl 1 (by decide) (hT _ tb_58) (fun _ h9 => h9) rfl hin rfl (by decide +kernel) rfl rfl (Nat.le_of_ble_eq_true rfl) d_bl_init_17 (fun H locs hP hD hS => ?_)
  have hP : va_P D cx [(h0, .inr (2, [.ref q7, .ref q15, .null])), (q7, .inl (c7, 8, .inl (fun _ => 0))), (q15, .inl (c15, 8, .inr (.inl (fun _ => 0))))] H := hP
  have hD : va_D A [(h0, .inr (2, [.ref q7, .ref q15, .null])), (q7, .inl (c7, 8, .inl (fun _ => 0))), (q15, .inl (c15, 8, .inr (.inl (fun _ => 0))))] := hD
  refine lv_aload_n hx hb d_bl_init_20 rfl (lv_at hl 0 rfl) ?_
  refine lv_bipush (v := 8) hx hb d_bl_init_21 (by decide) ?_
  refine va_newa (atype := .long) (ty := .long) (n := 8) (N' := 8) (a0 := (8, .inr (.inl (fun _ => 0)))) hx hb (hT _ tb_47) rfl hK hP hD hS hA (fun _ => rfl) (by decide) (by decide) (by decide) (Nat.le_of_ble_eq_true rfl) (Nat.le_of_ble_eq_true rfl) d_bl_init_23 (fun q23 c23 H hK hP hD hS => ?_)
  have hP : va_P D cx [(h0, .inr (2, [.ref q7, .ref q15, .null])), (q7, .inl (c7, 8, .inl (fun _ => 0))), (q15, .inl (c15, 8, .inr (.inl (fun _ => 0)))), (q23, .inl (c23, 8, .inr (.inl (fun _ => 0))))] H := hP
  have hD : va_D A [(h0, .inr (2, [.ref q7, .ref q15, .null])), (q7, .inl (c7, 8, .inl (fun _ => 0))), (q15, .inl (c15, 8, .inr (.inl (fun _ => 0)))), (q23, .inl (c23, 8, .inr (.inl (fun _ => 0))))] := hD
  have hK : va_K D cx [(c7, .int), (c15, .long), (c23, .long)] s := hK
  refine W.widen (k := 3) (n := 24) (by omega) (by omega) ?_
  refine va_putF (D := D) (ci := 2) (v := .ref q23) (ty := .array .long) (C := "MeasuredStages$Blobs") (T := F_bl) (N := 3) hx hb hts (fun w h => List.mem_cons_of_mem _ (i_bl w h)) t_bl o_bl n_bl hown hK hP hD hS 0 rfl rfl 2 (by decide) (hT _ tb_60) (fun _ h9 => h9) rfl hin rfl (by decide +kernel) rfl rfl (Nat.le_of_ble_eq_true rfl) d_bl_init_25 (fun H locs hP hD hS => ?_)
  have hP : va_P D cx [(h0, .inr (2, [.ref q7, .ref q15, .ref q23])), (q7, .inl (c7, 8, .inl (fun _ => 0))), (q15, .inl (c15, 8, .inr (.inl (fun _ => 0)))), (q23, .inl (c23, 8, .inr (.inl (fun _ => 0))))] H := hP
  have hD : va_D A [(h0, .inr (2, [.ref q7, .ref q15, .ref q23])), (q7, .inl (c7, 8, .inl (fun _ => 0))), (q15, .inl (c15, 8, .inr (.inl (fun _ => 0)))), (q23, .inl (c23, 8, .inr (.inl (fun _ => 0))))] := hD
  exact W.vret hx hb hret (fun t ht hW => ⟨⟨(), rfl, trivial, q7, c7, q15, c15, q23, c23, by rw [ht]; exact hP, va_K.moved hW.alike hK, hD⟩, hS.F ht⟩) hS.2.2 d_bl_init_28
set_option maxHeartbeats 4000000 in
set_option maxRecDepth 100000 in
theorem c_rg_init (l : Launch) (D : va_G) (h0 sz : Nat) : Met l y_rg_init (Cond.code y_rg_init b_rg_init 1 none :: TB) { frames := 1, cells := 4, slots := 76, locals := 40 } (va_Pc [.ref h0] (fun U => U.heap.size = sz ∧ va_P D cx [(h0, .inr (1, [.null, .null, .null, .int 0, .null]))] U.heap ∧ va_K D cx [] U ∧ va_D (fun _ => True) [(h0, .inr (1, [.null, .null, .null, .int 0, .null]))])) (va_Qv (fun (_ : Unit) => True) (fun (_ : Unit) t => ∃ (q7 : Nat) (c7 : ClassId) (q15 : Nat) (c15 : ClassId) (q23 : Nat) (c23 : ClassId) (q31 : Nat) (c31 : ClassId), va_P D cx [(h0, .inr (1, [.ref q7, .ref q15, .ref q23, .int 0, .ref q31])), (q7, .inl (c7, 6, .inr (.inl (fun _ => 0)))), (q15, .inl (c15, 32, .inl (fun _ => 0))), (q23, .inl (c23, 32, .inr (.inl (fun _ => 0)))), (q31, .inl (c31, 6, .inr (.inl (fun _ => 0))))] t.heap ∧ va_K D cx [(c7, .long), (c15, .int), (c23, .long), (c31, .long)] t ∧ va_D (va_A [(h0, .inr (1, [.null, .null, .null, .int 0, .null]))] sz) [(h0, .inr (1, [.ref q7, .ref q15, .ref q23, .int 0, .ref q31])), (q7, .inl (c7, 6, .inr (.inl (fun _ => 0)))), (q15, .inl (c15, 32, .inl (fun _ => 0))), (q23, .inl (c23, 32, .inr (.inl (fun _ => 0)))), (q31, .inl (c31, 6, .inr (.inl (fun _ => 0))))]) (va_A [(h0, .inr (1, [.null, .null, .null, .int 0, .null]))] sz)) 4 76 (va_A [(h0, .inr (1, [.null, .null, .null, .int 0, .null]))] sz) := by
  refine Met.ofW (cc := b_rg_init) (maxL := 1) (ret := none) (by decide) rfl ?_
  intro p e s m args below meth c s₁ B hml hv
  obtain ⟨rfl, hsz, hP, hK, hD⟩ := hv
  have hx := B.exec
  have hb := B.bytes
  have hret := B.returns
  have hts := atoms_spec (ws := Cond.code y_rg_init b_rg_init 1 none :: TB) B.pre
  have hT : ∀ w ∈ TB, w.before _ s = true := fun w h => hts w (List.mem_cons_of_mem _ h)
  have hown : s.vm.findClass "MeasuredStages$Registers" = some m.cls := findClass_of_methodNamed B.named
  have hlocks := B.notSynchronized
  have hin : meth.name = "<init>" := (name_of_methodNamed B.named B.method).1
  subst hsz
  have hD := hD.self (sz := s.heap.size)
  generalize hAe : va_A [(h0, .inr (1, [.null, .null, .null, .int 0, .null]))] s.heap.size = A at hD ⊢
  have hA : ∀ q : Nat, s.heap.size ≤ q → A q := fun q h => by rw [← hAe]; exact Or.inr h
  have hS : va_S A s.heap s.heap [] := va_S.rf
  have hl := lv_entry ([.ref h0]) (n := 1) (Nat.le_of_ble_eq_true rfl)
  rw [lg_entry_eq]
  generalize (lg_sl ([.ref h0]) ++ List.replicate (1 - (lg_sl ([.ref h0])).length) Slot.unset).toArray = ls at hl ⊢
  have hl : lv_has ls 1 [(0, .ref h0)] := hl
  refine lv_aload_n hx hb d_rg_init_0 rfl (lv_at hl 0 rfl) ?_
  refine W.objInit hx hb hown (hT _ tb_26) (hT _ tb_19) (hT _ tb_20) rfl (by rw [hml]; exact hl.1) rfl d_rg_init_1 (Nat.le_of_ble_eq_true rfl) (Nat.le_of_ble_eq_true rfl) ?_
  refine W.eq (g2 := F0 m 4 ls []) rfl ?_
  refine lv_aload_n hx hb d_rg_init_4 rfl (lv_at hl 0 rfl) ?_
  refine lv_bipush (v := 6) hx hb d_rg_init_5 (by decide) ?_
  refine va_newa (atype := .long) (ty := .long) (n := 6) (N' := 6) (a0 := (6, .inr (.inl (fun _ => 0)))) hx hb (hT _ tb_47) rfl hK hP hD hS hA (fun _ => rfl) (by decide) (by decide) (by decide) (Nat.le_of_ble_eq_true rfl) (Nat.le_of_ble_eq_true rfl) d_rg_init_7 (fun q7 c7 H hK hP hD hS => ?_)
  have hP : va_P D cx [(h0, .inr (1, [.null, .null, .null, .int 0, .null])), (q7, .inl (c7, 6, .inr (.inl (fun _ => 0))))] H := hP
  have hD : va_D A [(h0, .inr (1, [.null, .null, .null, .int 0, .null])), (q7, .inl (c7, 6, .inr (.inl (fun _ => 0))))] := hD
  have hK : va_K D cx [(c7, .long)] s := hK
  refine W.widen (k := 1) (n := 6) (by omega) (by omega) ?_
  refine va_putF (D := D) (ci := 1) (v := .ref q7) (ty := .array .long) (C := "MeasuredStages$Registers") (T := F_rg) (N := 5) hx hb hts (fun w h => List.mem_cons_of_mem _ (i_rg w h)) t_rg o_rg n_rg hown hK hP hD hS 0 rfl rfl 0 (by decide) (hT _ tb_27) (fun _ h9 => h9) rfl hin rfl (by decide +kernel) rfl rfl (Nat.le_of_ble_eq_true rfl) d_rg_init_9 (fun H locs hP hD hS => ?_)
  have hP : va_P D cx [(h0, .inr (1, [.ref q7, .null, .null, .int 0, .null])), (q7, .inl (c7, 6, .inr (.inl (fun _ => 0))))] H := hP
  have hD : va_D A [(h0, .inr (1, [.ref q7, .null, .null, .int 0, .null])), (q7, .inl (c7, 6, .inr (.inl (fun _ => 0))))] := hD
  refine lv_aload_n hx hb d_rg_init_12 rfl (lv_at hl 0 rfl) ?_
  refine lv_bipush (v := 32) hx hb d_rg_init_13 (by decide) ?_
  refine va_newa (atype := .int) (ty := .int) (n := 32) (N' := 32) (a0 := (32, .inl (fun _ => 0))) hx hb (hT _ tb_49) rfl hK hP hD hS hA (fun _ => rfl) (by decide) (by decide) (by decide) (Nat.le_of_ble_eq_true rfl) (Nat.le_of_ble_eq_true rfl) d_rg_init_15 (fun q15 c15 H hK hP hD hS => ?_)
  have hP : va_P D cx [(h0, .inr (1, [.ref q7, .null, .null, .int 0, .null])), (q7, .inl (c7, 6, .inr (.inl (fun _ => 0)))), (q15, .inl (c15, 32, .inl (fun _ => 0)))] H := hP
  have hD : va_D A [(h0, .inr (1, [.ref q7, .null, .null, .int 0, .null])), (q7, .inl (c7, 6, .inr (.inl (fun _ => 0)))), (q15, .inl (c15, 32, .inl (fun _ => 0)))] := hD
  have hK : va_K D cx [(c7, .long), (c15, .int)] s := hK
  refine W.widen (k := 2) (n := 38) (by omega) (by omega) ?_
  refine va_putF (D := D) (ci := 1) (v := .ref q15) (ty := .array .int) (C := "MeasuredStages$Registers") (T := F_rg) (N := 5) hx hb hts (fun w h => List.mem_cons_of_mem _ (i_rg w h)) t_rg o_rg n_rg hown hK hP hD hS 0 rfl rfl 1 (by decide) (hT _ tb_29) (fun _ h9 => h9) rfl hin rfl (by decide +kernel) rfl rfl (Nat.le_of_ble_eq_true rfl) d_rg_init_17 (fun H locs hP hD hS => ?_)
  have hP : va_P D cx [(h0, .inr (1, [.ref q7, .ref q15, .null, .int 0, .null])), (q7, .inl (c7, 6, .inr (.inl (fun _ => 0)))), (q15, .inl (c15, 32, .inl (fun _ => 0)))] H := hP
  have hD : va_D A [(h0, .inr (1, [.ref q7, .ref q15, .null, .int 0, .null])), (q7, .inl (c7, 6, .inr (.inl (fun _ => 0)))), (q15, .inl (c15, 32, .inl (fun _ => 0)))] := hD
  refine lv_aload_n hx hb d_rg_init_20 rfl (lv_at hl 0 rfl) ?_
  refine lv_bipush (v := 32) hx hb d_rg_init_21 (by decide) ?_
  refine va_newa (atype := .long) (ty := .long) (n := 32) (N' := 32) (a0 := (32, .inr (.inl (fun _ => 0)))) hx hb (hT _ tb_47) rfl hK hP hD hS hA (fun _ => rfl) (by decide) (by decide) (by decide) (Nat.le_of_ble_eq_true rfl) (Nat.le_of_ble_eq_true rfl) d_rg_init_23 (fun q23 c23 H hK hP hD hS => ?_)
  have hP : va_P D cx [(h0, .inr (1, [.ref q7, .ref q15, .null, .int 0, .null])), (q7, .inl (c7, 6, .inr (.inl (fun _ => 0)))), (q15, .inl (c15, 32, .inl (fun _ => 0))), (q23, .inl (c23, 32, .inr (.inl (fun _ => 0))))] H := hP
  have hD : va_D A [(h0, .inr (1, [.ref q7, .ref q15, .null, .int 0, .null])), (q7, .inl (c7, 6, .inr (.inl (fun _ => 0)))), (q15, .inl (c15, 32, .inl (fun _ => 0))), (q23, .inl (c23, 32, .inr (.inl (fun _ => 0))))] := hD
  have hK : va_K D cx [(c7, .long), (c15, .int), (c23, .long)] s := hK
  refine W.widen (k := 3) (n := 70) (by omega) (by omega) ?_
  refine va_putF (D := D) (ci := 1) (v := .ref q23) (ty := .array .long) (C := "MeasuredStages$Registers") (T := F_rg) (N := 5) hx hb hts (fun w h => List.mem_cons_of_mem _ (i_rg w h)) t_rg o_rg n_rg hown hK hP hD hS 0 rfl rfl 2 (by decide) (hT _ tb_31) (fun _ h9 => h9) rfl hin rfl (by decide +kernel) rfl rfl (Nat.le_of_ble_eq_true rfl) d_rg_init_25 (fun H locs hP hD hS => ?_)
  have hP : va_P D cx [(h0, .inr (1, [.ref q7, .ref q15, .ref q23, .int 0, .null])), (q7, .inl (c7, 6, .inr (.inl (fun _ => 0)))), (q15, .inl (c15, 32, .inl (fun _ => 0))), (q23, .inl (c23, 32, .inr (.inl (fun _ => 0))))] H := hP
  have hD : va_D A [(h0, .inr (1, [.ref q7, .ref q15, .ref q23, .int 0, .null])), (q7, .inl (c7, 6, .inr (.inl (fun _ => 0)))), (q15, .inl (c15, 32, .inl (fun _ => 0))), (q23, .inl (c23, 32, .inr (.inl (fun _ => 0))))] := hD
  refine lv_aload_n hx hb d_rg_init_28 rfl (lv_at hl 0 rfl) ?_
  refine lv_bipush (v := 6) hx hb d_rg_init_29 (by decide) ?_
  refine va_newa (atype := .long) (ty := .long) (n := 6) (N' := 6) (a0 := (6, .inr (.inl (fun _ => 0)))) hx hb (hT _ tb_47) rfl hK hP hD hS hA (fun _ => rfl) (by decide) (by decide) (by decide) (Nat.le_of_ble_eq_true rfl) (Nat.le_of_ble_eq_true rfl) d_rg_init_31 (fun q31 c31 H hK hP hD hS => ?_)
  have hP : va_P D cx [(h0, .inr (1, [.ref q7, .ref q15, .ref q23, .int 0, .null])), (q7, .inl (c7, 6, .inr (.inl (fun _ => 0)))), (q15, .inl (c15, 32, .inl (fun _ => 0))), (q23, .inl (c23, 32, .inr (.inl (fun _ => 0)))), (q31, .inl (c31, 6, .inr (.inl (fun _ => 0))))] H := hP
  have hD : va_D A [(h0, .inr (1, [.ref q7, .ref q15, .ref q23, .int 0, .null])), (q7, .inl (c7, 6, .inr (.inl (fun _ => 0)))), (q15, .inl (c15, 32, .inl (fun _ => 0))), (q23, .inl (c23, 32, .inr (.inl (fun _ => 0)))), (q31, .inl (c31, 6, .inr (.inl (fun _ => 0))))] := hD
  have hK : va_K D cx [(c7, .long), (c15, .int), (c23, .long), (c31, .long)] s := hK
  refine W.widen (k := 4) (n := 76) (by omega) (by omega) ?_
  refine va_putF (D := D) (ci := 1) (v := .ref q31) (ty := .array .long) (C := "MeasuredStages$Registers") (T := F_rg) (N := 5) hx hb hts (fun w h => List.mem_cons_of_mem _ (i_rg w h)) t_rg o_rg n_rg hown hK hP hD hS 0 rfl rfl 4 (by decide) (hT _ tb_35) (fun _ h9 => h9) rfl hin rfl (by decide +kernel) rfl rfl (Nat.le_of_ble_eq_true rfl) d_rg_init_33 (fun H locs hP hD hS => ?_)
  have hP : va_P D cx [(h0, .inr (1, [.ref q7, .ref q15, .ref q23, .int 0, .ref q31])), (q7, .inl (c7, 6, .inr (.inl (fun _ => 0)))), (q15, .inl (c15, 32, .inl (fun _ => 0))), (q23, .inl (c23, 32, .inr (.inl (fun _ => 0)))), (q31, .inl (c31, 6, .inr (.inl (fun _ => 0))))] H := hP
  have hD : va_D A [(h0, .inr (1, [.ref q7, .ref q15, .ref q23, .int 0, .ref q31])), (q7, .inl (c7, 6, .inr (.inl (fun _ => 0)))), (q15, .inl (c15, 32, .inl (fun _ => 0))), (q23, .inl (c23, 32, .inr (.inl (fun _ => 0)))), (q31, .inl (c31, 6, .inr (.inl (fun _ => 0))))] := hD
  exact W.vret hx hb hret (fun t ht hW => ⟨⟨(), rfl, trivial, q7, c7, q15, c15, q23, c23, q31, c31, by rw [ht]; exact hP, va_K.moved hW.alike hK, hD⟩, hS.F ht⟩) hS.2.2 d_rg_init_36
set_option maxHeartbeats 4000000 in
set_option maxRecDepth 100000 in
theorem c_md_init (l : Launch) (D : va_G) (h0 sz : Nat) : Met l y_md_init (Cond.code y_md_init b_md_init 1 none :: TB) { frames := 1, cells := 12, slots := 136, locals := 40 } (va_Pc [.ref h0] (fun U => U.heap.size = sz ∧ va_P D cx [(h0, .inr (3, [.null, .null, .null, .null, .null, .null, .null, .int 0, .null, .null, .null, .long 0, .int 0, .int 0, .int 0, .int 0, .null, .null, .int 0]))] U.heap ∧ va_K D cx [] U ∧ va_D (fun _ => True) [(h0, .inr (3, [.null, .null, .null, .null, .null, .null, .null, .int 0, .null, .null, .null, .long 0, .int 0, .int 0, .int 0, .int 0, .null, .null, .int 0]))])) (va_Qv (fun (_ : Unit) => True) (fun (_ : Unit) t => ∃ (q7 : Nat) (c7 : ClassId) (q15 : Nat) (c15 : ClassId) (q23 : Nat) (c23 : ClassId) (q31 : Nat) (c31 : ClassId) (q39 : Nat) (c39 : ClassId) (q47 : Nat) (c47 : ClassId) (q55 : Nat) (c55 : ClassId) (q63 : Nat) (c63 : ClassId) (q71 : Nat) (c71 : ClassId) (q79 : Nat) (c79 : ClassId) (q87 : Nat) (c87 : ClassId) (q95 : Nat) (c95 : ClassId), va_P D cx [(h0, .inr (3, [.ref q7, .ref q15, .ref q23, .ref q31, .ref q39, .ref q47, .ref q55, .int 0, .ref q63, .ref q71, .ref q79, .long 0, .int 0, .int 0, .int 0, .int 0, .ref q87, .ref q95, .int 0])), (q7, .inl (c7, 6, .inr (.inl (fun _ => 0)))), (q15, .inl (c15, 8, .inr (.inl (fun _ => 0)))), (q23, .inl (c23, 8, .inl (fun _ => 0))), (q31, .inl (c31, 8, .inr (.inl (fun _ => 0)))), (q39, .inl (c39, 8, .inl (fun _ => 0))), (q47, .inl (c47, 8, .inr (.inl (fun _ => 0)))), (q55, .inl (c55, 8, .inr (.inl (fun _ => 0)))), (q63, .inl (c63, 32, .inl (fun _ => 0))), (q71, .inl (c71, 32, .inr (.inl (fun _ => 0)))), (q79, .inl (c79, 6, .inr (.inl (fun _ => 0)))), (q87, .inl (c87, 6, .inl (fun _ => 0))), (q95, .inl (c95, 6, .inl (fun _ => 0)))] t.heap ∧ va_K D cx [(c7, .long), (c15, .long), (c23, .boolean), (c31, .long), (c39, .int), (c47, .long), (c55, .long), (c63, .int), (c71, .long), (c79, .long), (c87, .int), (c95, .int)] t ∧ va_D (va_A [(h0, .inr (3, [.null, .null, .null, .null, .null, .null, .null, .int 0, .null, .null, .null, .long 0, .int 0, .int 0, .int 0, .int 0, .null, .null, .int 0]))] sz) [(h0, .inr (3, [.ref q7, .ref q15, .ref q23, .ref q31, .ref q39, .ref q47, .ref q55, .int 0, .ref q63, .ref q71, .ref q79, .long 0, .int 0, .int 0, .int 0, .int 0, .ref q87, .ref q95, .int 0])), (q7, .inl (c7, 6, .inr (.inl (fun _ => 0)))), (q15, .inl (c15, 8, .inr (.inl (fun _ => 0)))), (q23, .inl (c23, 8, .inl (fun _ => 0))), (q31, .inl (c31, 8, .inr (.inl (fun _ => 0)))), (q39, .inl (c39, 8, .inl (fun _ => 0))), (q47, .inl (c47, 8, .inr (.inl (fun _ => 0)))), (q55, .inl (c55, 8, .inr (.inl (fun _ => 0)))), (q63, .inl (c63, 32, .inl (fun _ => 0))), (q71, .inl (c71, 32, .inr (.inl (fun _ => 0)))), (q79, .inl (c79, 6, .inr (.inl (fun _ => 0)))), (q87, .inl (c87, 6, .inl (fun _ => 0))), (q95, .inl (c95, 6, .inl (fun _ => 0)))]) (va_A [(h0, .inr (3, [.null, .null, .null, .null, .null, .null, .null, .int 0, .null, .null, .null, .long 0, .int 0, .int 0, .int 0, .int 0, .null, .null, .int 0]))] sz)) 12 136 (va_A [(h0, .inr (3, [.null, .null, .null, .null, .null, .null, .null, .int 0, .null, .null, .null, .long 0, .int 0, .int 0, .int 0, .int 0, .null, .null, .int 0]))] sz) := by
  refine Met.ofW (cc := b_md_init) (maxL := 1) (ret := none) (by decide) rfl ?_
  intro p e s m args below meth c s₁ B hml hv
  obtain ⟨rfl, hsz, hP, hK, hD⟩ := hv
  have hx := B.exec
  have hb := B.bytes
  have hret := B.returns
  have hts := atoms_spec (ws := Cond.code y_md_init b_md_init 1 none :: TB) B.pre
  have hT : ∀ w ∈ TB, w.before _ s = true := fun w h => hts w (List.mem_cons_of_mem _ h)
  have hown : s.vm.findClass "MeasuredStagesModel" = some m.cls := findClass_of_methodNamed B.named
  have hlocks := B.notSynchronized
  have hin : meth.name = "<init>" := (name_of_methodNamed B.named B.method).1
  subst hsz
  have hD := hD.self (sz := s.heap.size)
  generalize hAe : va_A [(h0, .inr (3, [.null, .null, .null, .null, .null, .null, .null, .int 0, .null, .null, .null, .long 0, .int 0, .int 0, .int 0, .int 0, .null, .null, .int 0]))] s.heap.size = A at hD ⊢
  have hA : ∀ q : Nat, s.heap.size ≤ q → A q := fun q h => by rw [← hAe]; exact Or.inr h
  have hS : va_S A s.heap s.heap [] := va_S.rf
  have hl := lv_entry ([.ref h0]) (n := 1) (Nat.le_of_ble_eq_true rfl)
  rw [lg_entry_eq]
  generalize (lg_sl ([.ref h0]) ++ List.replicate (1 - (lg_sl ([.ref h0])).length) Slot.unset).toArray = ls at hl ⊢
  have hl : lv_has ls 1 [(0, .ref h0)] := hl
  refine lv_aload_n hx hb d_md_init_0 rfl (lv_at hl 0 rfl) ?_
  refine W.objInit hx hb hown (hT _ tb_458) (hT _ tb_19) (hT _ tb_20) rfl (by rw [hml]; exact hl.1) rfl d_md_init_1 (Nat.le_of_ble_eq_true rfl) (Nat.le_of_ble_eq_true rfl) ?_
  refine W.eq (g2 := F0 m 4 ls []) rfl ?_
  refine lv_aload_n hx hb d_md_init_4 rfl (lv_at hl 0 rfl) ?_
  refine lv_bipush (v := 6) hx hb d_md_init_5 (by decide) ?_
  refine va_newa (atype := .long) (ty := .long) (n := 6) (N' := 6) (a0 := (6, .inr (.inl (fun _ => 0)))) hx hb (hT _ tb_47) rfl hK hP hD hS hA (fun _ => rfl) (by decide) (by decide) (by decide) (Nat.le_of_ble_eq_true rfl) (Nat.le_of_ble_eq_true rfl) d_md_init_7 (fun q7 c7 H hK hP hD hS => ?_)
  have hP : va_P D cx [(h0, .inr (3, [.null, .null, .null, .null, .null, .null, .null, .int 0, .null, .null, .null, .long 0, .int 0, .int 0, .int 0, .int 0, .null, .null, .int 0])), (q7, .inl (c7, 6, .inr (.inl (fun _ => 0))))] H := hP
  have hD : va_D A [(h0, .inr (3, [.null, .null, .null, .null, .null, .null, .null, .int 0, .null, .null, .null, .long 0, .int 0, .int 0, .int 0, .int 0, .null, .null, .int 0])), (q7, .inl (c7, 6, .inr (.inl (fun _ => 0))))] := hD
  have hK : va_K D cx [(c7, .long)] s := hK
  refine W.widen (k := 1) (n := 6) (by omega) (by omega) ?_
  refine va_putF (D := D) (ci := 3) (v := .ref q7) (ty := .array .long) (C := "MeasuredStagesModel") (T := F_md) (N := 19) hx hb hts (fun w h => List.mem_cons_of_mem _ (i_md w h)) t_md o_md n_md hown hK hP hD hS 0 rfl rfl 0 (by decide) (hT _ tb_459) (fun _ h9 => h9) rfl hin rfl (by decide +kernel) rfl rfl (Nat.le_of_ble_eq_true rfl) d_md_init_9 (fun H locs hP hD hS => ?_)
  have hP : va_P D cx [(h0, .inr (3, [.ref q7, .null, .null, .null, .null, .null, .null, .int 0, .null, .null, .null, .long 0, .int 0, .int 0, .int 0, .int 0, .null, .null, .int 0])), (q7, .inl (c7, 6, .inr (.inl (fun _ => 0))))] H := hP
  have hD : va_D A [(h0, .inr (3, [.ref q7, .null, .null, .null, .null, .null, .null, .int 0, .null, .null, .null, .long 0, .int 0, .int 0, .int 0, .int 0, .null, .null, .int 0])), (q7, .inl (c7, 6, .inr (.inl (fun _ => 0))))] := hD
  refine lv_aload_n hx hb d_md_init_12 rfl (lv_at hl 0 rfl) ?_
  refine lv_bipush (v := 8) hx hb d_md_init_13 (by decide) ?_
  refine va_newa (atype := .long) (ty := .long) (n := 8) (N' := 8) (a0 := (8, .inr (.inl (fun _ => 0)))) hx hb (hT _ tb_47) rfl hK hP hD hS hA (fun _ => rfl) (by decide) (by decide) (by decide) (Nat.le_of_ble_eq_true rfl) (Nat.le_of_ble_eq_true rfl) d_md_init_15 (fun q15 c15 H hK hP hD hS => ?_)
  have hP : va_P D cx [(h0, .inr (3, [.ref q7, .null, .null, .null, .null, .null, .null, .int 0, .null, .null, .null, .long 0, .int 0, .int 0, .int 0, .int 0, .null, .null, .int 0])), (q7, .inl (c7, 6, .inr (.inl (fun _ => 0)))), (q15, .inl (c15, 8, .inr (.inl (fun _ => 0))))] H := hP
  have hD : va_D A [(h0, .inr (3, [.ref q7, .null, .null, .null, .null, .null, .null, .int 0, .null, .null, .null, .long 0, .int 0, .int 0, .int 0, .int 0, .null, .null, .int 0])), (q7, .inl (c7, 6, .inr (.inl (fun _ => 0)))), (q15, .inl (c15, 8, .inr (.inl (fun _ => 0))))] := hD
  have hK : va_K D cx [(c7, .long), (c15, .long)] s := hK
  refine W.widen (k := 2) (n := 14) (by omega) (by omega) ?_
  refine va_putF (D := D) (ci := 3) (v := .ref q15) (ty := .array .long) (C := "MeasuredStagesModel") (T := F_md) (N := 19) hx hb hts (fun w h => List.mem_cons_of_mem _ (i_md w h)) t_md o_md n_md hown hK hP hD hS 0 rfl rfl 1 (by decide) (hT _ tb_460) (fun _ h9 => h9) rfl hin rfl (by decide +kernel) rfl rfl (Nat.le_of_ble_eq_true rfl) d_md_init_17 (fun H locs hP hD hS => ?_)
  have hP : va_P D cx [(h0, .inr (3, [.ref q7, .ref q15, .null, .null, .null, .null, .null, .int 0, .null, .null, .null, .long 0, .int 0, .int 0, .int 0, .int 0, .null, .null, .int 0])), (q7, .inl (c7, 6, .inr (.inl (fun _ => 0)))), (q15, .inl (c15, 8, .inr (.inl (fun _ => 0))))] H := hP
  have hD : va_D A [(h0, .inr (3, [.ref q7, .ref q15, .null, .null, .null, .null, .null, .int 0, .null, .null, .null, .long 0, .int 0, .int 0, .int 0, .int 0, .null, .null, .int 0])), (q7, .inl (c7, 6, .inr (.inl (fun _ => 0)))), (q15, .inl (c15, 8, .inr (.inl (fun _ => 0))))] := hD
  refine lv_aload_n hx hb d_md_init_20 rfl (lv_at hl 0 rfl) ?_
  refine lv_bipush (v := 8) hx hb d_md_init_21 (by decide) ?_
  refine va_newa (atype := .boolean) (ty := .boolean) (n := 8) (N' := 8) (a0 := (8, .inl (fun _ => 0))) hx hb (hT _ tb_48) rfl hK hP hD hS hA (fun _ => rfl) (by decide) (by decide) (by decide) (Nat.le_of_ble_eq_true rfl) (Nat.le_of_ble_eq_true rfl) d_md_init_23 (fun q23 c23 H hK hP hD hS => ?_)
  have hP : va_P D cx [(h0, .inr (3, [.ref q7, .ref q15, .null, .null, .null, .null, .null, .int 0, .null, .null, .null, .long 0, .int 0, .int 0, .int 0, .int 0, .null, .null, .int 0])), (q7, .inl (c7, 6, .inr (.inl (fun _ => 0)))), (q15, .inl (c15, 8, .inr (.inl (fun _ => 0)))), (q23, .inl (c23, 8, .inl (fun _ => 0)))] H := hP
  have hD : va_D A [(h0, .inr (3, [.ref q7, .ref q15, .null, .null, .null, .null, .null, .int 0, .null, .null, .null, .long 0, .int 0, .int 0, .int 0, .int 0, .null, .null, .int 0])), (q7, .inl (c7, 6, .inr (.inl (fun _ => 0)))), (q15, .inl (c15, 8, .inr (.inl (fun _ => 0)))), (q23, .inl (c23, 8, .inl (fun _ => 0)))] := hD
  have hK : va_K D cx [(c7, .long), (c15, .long), (c23, .boolean)] s := hK
  refine W.widen (k := 3) (n := 22) (by omega) (by omega) ?_
  refine va_putF (D := D) (ci := 3) (v := .ref q23) (ty := .array .boolean) (C := "MeasuredStagesModel") (T := F_md) (N := 19) hx hb hts (fun w h => List.mem_cons_of_mem _ (i_md w h)) t_md o_md n_md hown hK hP hD hS 0 rfl rfl 2 (by decide) (hT _ tb_461) (fun _ h9 => h9) rfl hin rfl (by decide +kernel) rfl rfl (Nat.le_of_ble_eq_true rfl) d_md_init_25 (fun H locs hP hD hS => ?_)
  have hP : va_P D cx [(h0, .inr (3, [.ref q7, .ref q15, .ref q23, .null, .null, .null, .null, .int 0, .null, .null, .null, .long 0, .int 0, .int 0, .int 0, .int 0, .null, .null, .int 0])), (q7, .inl (c7, 6, .inr (.inl (fun _ => 0)))), (q15, .inl (c15, 8, .inr (.inl (fun _ => 0)))), (q23, .inl (c23, 8, .inl (fun _ => 0)))] H := hP
  have hD : va_D A [(h0, .inr (3, [.ref q7, .ref q15, .ref q23, .null, .null, .null, .null, .int 0, .null, .null, .null, .long 0, .int 0, .int 0, .int 0, .int 0, .null, .null, .int 0])), (q7, .inl (c7, 6, .inr (.inl (fun _ => 0)))), (q15, .inl (c15, 8, .inr (.inl (fun _ => 0)))), (q23, .inl (c23, 8, .inl (fun _ => 0)))] := hD
  refine lv_aload_n hx hb d_md_init_28 rfl (lv_at hl 0 rfl) ?_
  refine lv_bipush (v := 8) hx hb d_md_init_29 (by decide) ?_
  refine va_newa (atype := .long) (ty := .long) (n := 8) (N' := 8) (a0 := (8, .inr (.inl (fun _ => 0)))) hx hb (hT _ tb_47) rfl hK hP hD hS hA (fun _ => rfl) (by decide) (by decide) (by decide) (Nat.le_of_ble_eq_true rfl) (Nat.le_of_ble_eq_true rfl) d_md_init_31 (fun q31 c31 H hK hP hD hS => ?_)
  have hP : va_P D cx [(h0, .inr (3, [.ref q7, .ref q15, .ref q23, .null, .null, .null, .null, .int 0, .null, .null, .null, .long 0, .int 0, .int 0, .int 0, .int 0, .null, .null, .int 0])), (q7, .inl (c7, 6, .inr (.inl (fun _ => 0)))), (q15, .inl (c15, 8, .inr (.inl (fun _ => 0)))), (q23, .inl (c23, 8, .inl (fun _ => 0))), (q31, .inl (c31, 8, .inr (.inl (fun _ => 0))))] H := hP
  have hD : va_D A [(h0, .inr (3, [.ref q7, .ref q15, .ref q23, .null, .null, .null, .null, .int 0, .null, .null, .null, .long 0, .int 0, .int 0, .int 0, .int 0, .null, .null, .int 0])), (q7, .inl (c7, 6, .inr (.inl (fun _ => 0)))), (q15, .inl (c15, 8, .inr (.inl (fun _ => 0)))), (q23, .inl (c23, 8, .inl (fun _ => 0))), (q31, .inl (c31, 8, .inr (.inl (fun _ => 0))))] := hD
  have hK : va_K D cx [(c7, .long), (c15, .long), (c23, .boolean), (c31, .long)] s := hK
  refine W.widen (k := 4) (n := 30) (by omega) (by omega) ?_
  refine va_putF (D := D) (ci := 3) (v := .ref q31) (ty := .array .long) (C := "MeasuredStagesModel") (T := F_md) (N := 19) hx hb hts (fun w h => List.mem_cons_of_mem _ (i_md w h)) t_md o_md n_md hown hK hP hD hS 0 rfl rfl 3 (by decide) (hT _ tb_462) (fun _ h9 => h9) rfl hin rfl (by decide +kernel) rfl rfl (Nat.le_of_ble_eq_true rfl) d_md_init_33 (fun H locs hP hD hS => ?_)
  have hP : va_P D cx [(h0, .inr (3, [.ref q7, .ref q15, .ref q23, .ref q31, .null, .null, .null, .int 0, .null, .null, .null, .long 0, .int 0, .int 0, .int 0, .int 0, .null, .null, .int 0])), (q7, .inl (c7, 6, .inr (.inl (fun _ => 0)))), (q15, .inl (c15, 8, .inr (.inl (fun _ => 0)))), (q23, .inl (c23, 8, .inl (fun _ => 0))), (q31, .inl (c31, 8, .inr (.inl (fun _ => 0))))] H := hP
  have hD : va_D A [(h0, .inr (3, [.ref q7, .ref q15, .ref q23, .ref q31, .null, .null, .null, .int 0, .null, .null, .null, .long 0, .int 0, .int 0, .int 0, .int 0, .null, .null, .int 0])), (q7, .inl (c7, 6, .inr (.inl (fun _ => 0)))), (q15, .inl (c15, 8, .inr (.inl (fun _ => 0)))), (q23, .inl (c23, 8, .inl (fun _ => 0))), (q31, .inl (c31, 8, .inr (.inl (fun _ => 0))))] := hD
  refine lv_aload_n hx hb d_md_init_36 rfl (lv_at hl 0 rfl) ?_
  refine lv_bipush (v := 8) hx hb d_md_init_37 (by decide) ?_
  refine va_newa (atype := .int) (ty := .int) (n := 8) (N' := 8) (a0 := (8, .inl (fun _ => 0))) hx hb (hT _ tb_49) rfl hK hP hD hS hA (fun _ => rfl) (by decide) (by decide) (by decide) (Nat.le_of_ble_eq_true rfl) (Nat.le_of_ble_eq_true rfl) d_md_init_39 (fun q39 c39 H hK hP hD hS => ?_)
  have hP : va_P D cx [(h0, .inr (3, [.ref q7, .ref q15, .ref q23, .ref q31, .null, .null, .null, .int 0, .null, .null, .null, .long 0, .int 0, .int 0, .int 0, .int 0, .null, .null, .int 0])), (q7, .inl (c7, 6, .inr (.inl (fun _ => 0)))), (q15, .inl (c15, 8, .inr (.inl (fun _ => 0)))), (q23, .inl (c23, 8, .inl (fun _ => 0))), (q31, .inl (c31, 8, .inr (.inl (fun _ => 0)))), (q39, .inl (c39, 8, .inl (fun _ => 0)))] H := hP
  have hD : va_D A [(h0, .inr (3, [.ref q7, .ref q15, .ref q23, .ref q31, .null, .null, .null, .int 0, .null, .null, .null, .long 0, .int 0, .int 0, .int 0, .int 0, .null, .null, .int 0])), (q7, .inl (c7, 6, .inr (.inl (fun _ => 0)))), (q15, .inl (c15, 8, .inr (.inl (fun _ => 0)))), (q23, .inl (c23, 8, .inl (fun _ => 0))), (q31, .inl (c31, 8, .inr (.inl (fun _ => 0)))), (q39, .inl (c39, 8, .inl (fun _ => 0)))] := hD
  have hK : va_K D cx [(c7, .long), (c15, .long), (c23, .boolean), (c31, .long), (c39, .int)] s := hK
  refine W.widen (k := 5) (n := 38) (by omega) (by omega) ?_
  refine va_putF (D := D) (ci := 3) (v := .ref q39) (ty := .array .int) (C := "MeasuredStagesModel") (T := F_md) (N := 19) hx hb hts (fun w h => List.mem_cons_of_mem _ (i_md w h)) t_md o_md n_md hown hK hP hD hS 0 rfl rfl 4 (by decide) (hT _ tb_463) (fun _ h9 => h9) rfl hin rfl (by decide +kernel) rfl rfl (Nat.le_of_ble_eq_true rfl) d_md_init_41 (fun H locs hP hD hS => ?_)
  have hP : va_P D cx [(h0, .inr (3, [.ref q7, .ref q15, .ref q23, .ref q31, .ref q39, .null, .null, .int 0, .null, .null, .null, .long 0, .int 0, .int 0, .int 0, .int 0, .null, .null, .int 0])), (q7, .inl (c7, 6, .inr (.inl (fun _ => 0)))), (q15, .inl (c15, 8, .inr (.inl (fun _ => 0)))), (q23, .inl (c23, 8, .inl (fun _ => 0))), (q31, .inl (c31, 8, .inr (.inl (fun _ => 0)))), (q39, .inl (c39, 8, .inl (fun _ => 0)))] H := hP
  have hD : va_D A [(h0, .inr (3, [.ref q7, .ref q15, .ref q23, .ref q31, .ref q39, .null, .null, .int 0, .null, .null, .null, .long 0, .int 0, .int 0, .int 0, .int 0, .null, .null, .int 0])), (q7, .inl (c7, 6, .inr (.inl (fun _ => 0)))), (q15, .inl (c15, 8, .inr (.inl (fun _ => 0)))), (q23, .inl (c23, 8, .inl (fun _ => 0))), (q31, .inl (c31, 8, .inr (.inl (fun _ => 0)))), (q39, .inl (c39, 8, .inl (fun _ => 0)))] := hD
  refine lv_aload_n hx hb d_md_init_44 rfl (lv_at hl 0 rfl) ?_
  refine lv_bipush (v := 8) hx hb d_md_init_45 (by decide) ?_
  refine va_newa (atype := .long) (ty := .long) (n := 8) (N' := 8) (a0 := (8, .inr (.inl (fun _ => 0)))) hx hb (hT _ tb_47) rfl hK hP hD hS hA (fun _ => rfl) (by decide) (by decide) (by decide) (Nat.le_of_ble_eq_true rfl) (Nat.le_of_ble_eq_true rfl) d_md_init_47 (fun q47 c47 H hK hP hD hS => ?_)
  have hP : va_P D cx [(h0, .inr (3, [.ref q7, .ref q15, .ref q23, .ref q31, .ref q39, .null, .null, .int 0, .null, .null, .null, .long 0, .int 0, .int 0, .int 0, .int 0, .null, .null, .int 0])), (q7, .inl (c7, 6, .inr (.inl (fun _ => 0)))), (q15, .inl (c15, 8, .inr (.inl (fun _ => 0)))), (q23, .inl (c23, 8, .inl (fun _ => 0))), (q31, .inl (c31, 8, .inr (.inl (fun _ => 0)))), (q39, .inl (c39, 8, .inl (fun _ => 0))), (q47, .inl (c47, 8, .inr (.inl (fun _ => 0))))] H := hP
  have hD : va_D A [(h0, .inr (3, [.ref q7, .ref q15, .ref q23, .ref q31, .ref q39, .null, .null, .int 0, .null, .null, .null, .long 0, .int 0, .int 0, .int 0, .int 0, .null, .null, .int 0])), (q7, .inl (c7, 6, .inr (.inl (fun _ => 0)))), (q15, .inl (c15, 8, .inr (.inl (fun _ => 0)))), (q23, .inl (c23, 8, .inl (fun _ => 0))), (q31, .inl (c31, 8, .inr (.inl (fun _ => 0)))), (q39, .inl (c39, 8, .inl (fun _ => 0))), (q47, .inl (c47, 8, .inr (.inl (fun _ => 0))))] := hD
  have hK : va_K D cx [(c7, .long), (c15, .long), (c23, .boolean), (c31, .long), (c39, .int), (c47, .long)] s := hK
  refine W.widen (k := 6) (n := 46) (by omega) (by omega) ?_
  refine va_putF (D := D) (ci := 3) (v := .ref q47) (ty := .array .long) (C := "MeasuredStagesModel") (T := F_md) (N := 19) hx hb hts (fun w h => List.mem_cons_of_mem _ (i_md w h)) t_md o_md n_md hown hK hP hD hS 0 rfl rfl 5 (by decide) (hT _ tb_464) (fun _ h9 => h9) rfl hin rfl (by decide +kernel) rfl rfl (Nat.le_of_ble_eq_true rfl) d_md_init_49 (fun H locs hP hD hS => ?_)
  have hP : va_P D cx [(h0, .inr (3, [.ref q7, .ref q15, .ref q23, .ref q31, .ref q39, .ref q47, .null, .int 0, .null, .null, .null, .long 0, .int 0, .int 0, .int 0, .int 0, .null, .null, .int 0])), (q7, .inl (c7, 6, .inr (.inl (fun _ => 0)))), (q15, .inl (c15, 8, .inr (.inl (fun _ => 0)))), (q23, .inl (c23, 8, .inl (fun _ => 0))), (q31, .inl (c31, 8, .inr (.inl (fun _ => 0)))), (q39, .inl (c39, 8, .inl (fun _ => 0))), (q47, .inl (c47, 8, .inr (.inl (fun _ => 0))))] H := hP
  have hD : va_D A [(h0, .inr (3, [.ref q7, .ref q15, .ref q23, .ref q31, .ref q39, .ref q47, .null, .int 0, .null, .null, .null, .long 0, .int 0, .int 0, .int 0, .int 0, .null, .null, .int 0])), (q7, .inl (c7, 6, .inr (.inl (fun _ => 0)))), (q15, .inl (c15, 8, .inr (.inl (fun _ => 0)))), (q23, .inl (c23, 8, .inl (fun _ => 0))), (q31, .inl (c31, 8, .inr (.inl (fun _ => 0)))), (q39, .inl (c39, 8, .inl (fun _ => 0))), (q47, .inl (c47, 8, .inr (.inl (fun _ => 0))))] := hD
  refine lv_aload_n hx hb d_md_init_52 rfl (lv_at hl 0 rfl) ?_
  refine lv_bipush (v := 8) hx hb d_md_init_53 (by decide) ?_
  refine va_newa (atype := .long) (ty := .long) (n := 8) (N' := 8) (a0 := (8, .inr (.inl (fun _ => 0)))) hx hb (hT _ tb_47) rfl hK hP hD hS hA (fun _ => rfl) (by decide) (by decide) (by decide) (Nat.le_of_ble_eq_true rfl) (Nat.le_of_ble_eq_true rfl) d_md_init_55 (fun q55 c55 H hK hP hD hS => ?_)
  have hP : va_P D cx [(h0, .inr (3, [.ref q7, .ref q15, .ref q23, .ref q31, .ref q39, .ref q47, .null, .int 0, .null, .null, .null, .long 0, .int 0, .int 0, .int 0, .int 0, .null, .null, .int 0])), (q7, .inl (c7, 6, .inr (.inl (fun _ => 0)))), (q15, .inl (c15, 8, .inr (.inl (fun _ => 0)))), (q23, .inl (c23, 8, .inl (fun _ => 0))), (q31, .inl (c31, 8, .inr (.inl (fun _ => 0)))), (q39, .inl (c39, 8, .inl (fun _ => 0))), (q47, .inl (c47, 8, .inr (.inl (fun _ => 0)))), (q55, .inl (c55, 8, .inr (.inl (fun _ => 0))))] H := hP
  have hD : va_D A [(h0, .inr (3, [.ref q7, .ref q15, .ref q23, .ref q31, .ref q39, .ref q47, .null, .int 0, .null, .null, .null, .long 0, .int 0, .int 0, .int 0, .int 0, .null, .null, .int 0])), (q7, .inl (c7, 6, .inr (.inl (fun _ => 0)))), (q15, .inl (c15, 8, .inr (.inl (fun _ => 0)))), (q23, .inl (c23, 8, .inl (fun _ => 0))), (q31, .inl (c31, 8, .inr (.inl (fun _ => 0)))), (q39, .inl (c39, 8, .inl (fun _ => 0))), (q47, .inl (c47, 8, .inr (.inl (fun _ => 0)))), (q55, .inl (c55, 8, .inr (.inl (fun _ => 0))))] := hD
  have hK : va_K D cx [(c7, .long), (c15, .long), (c23, .boolean), (c31, .long), (c39, .int), (c47, .long), (c55, .long)] s := hK
  refine W.widen (k := 7) (n := 54) (by omega) (by omega) ?_
  refine va_putF (D := D) (ci := 3) (v := .ref q55) (ty := .array .long) (C := "MeasuredStagesModel") (T := F_md) (N := 19) hx hb hts (fun w h => List.mem_cons_of_mem _ (i_md w h)) t_md o_md n_md hown hK hP hD hS 0 rfl rfl 6 (by decide) (hT _ tb_465) (fun _ h9 => h9) rfl hin rfl (by decide +kernel) rfl rfl (Nat.le_of_ble_eq_true rfl) d_md_init_57 (fun H locs hP hD hS => ?_)
  have hP : va_P D cx [(h0, .inr (3, [.ref q7, .ref q15, .ref q23, .ref q31, .ref q39, .ref q47, .ref q55, .int 0, .null, .null, .null, .long 0, .int 0, .int 0, .int 0, .int 0, .null, .null, .int 0])), (q7, .inl (c7, 6, .inr (.inl (fun _ => 0)))), (q15, .inl (c15, 8, .inr (.inl (fun _ => 0)))), (q23, .inl (c23, 8, .inl (fun _ => 0))), (q31, .inl (c31, 8, .inr (.inl (fun _ => 0)))), (q39, .inl (c39, 8, .inl (fun _ => 0))), (q47, .inl (c47, 8, .inr (.inl (fun _ => 0)))), (q55, .inl (c55, 8, .inr (.inl (fun _ => 0))))] H := hP
  have hD : va_D A [(h0, .inr (3, [.ref q7, .ref q15, .ref q23, .ref q31, .ref q39, .ref q47, .ref q55, .int 0, .null, .null, .null, .long 0, .int 0, .int 0, .int 0, .int 0, .null, .null, .int 0])), (q7, .inl (c7, 6, .inr (.inl (fun _ => 0)))), (q15, .inl (c15, 8, .inr (.inl (fun _ => 0)))), (q23, .inl (c23, 8, .inl (fun _ => 0))), (q31, .inl (c31, 8, .inr (.inl (fun _ => 0)))), (q39, .inl (c39, 8, .inl (fun _ => 0))), (q47, .inl (c47, 8, .inr (.inl (fun _ => 0)))), (q55, .inl (c55, 8, .inr (.inl (fun _ => 0))))] := hD
  refine lv_aload_n hx hb d_md_init_60 rfl (lv_at hl 0 rfl) ?_
  refine lv_bipush (v := 32) hx hb d_md_init_61 (by decide) ?_
  refine va_newa (atype := .int) (ty := .int) (n := 32) (N' := 32) (a0 := (32, .inl (fun _ => 0))) hx hb (hT _ tb_49) rfl hK hP hD hS hA (fun _ => rfl) (by decide) (by decide) (by decide) (Nat.le_of_ble_eq_true rfl) (Nat.le_of_ble_eq_true rfl) d_md_init_63 (fun q63 c63 H hK hP hD hS => ?_)
  have hP : va_P D cx [(h0, .inr (3, [.ref q7, .ref q15, .ref q23, .ref q31, .ref q39, .ref q47, .ref q55, .int 0, .null, .null, .null, .long 0, .int 0, .int 0, .int 0, .int 0, .null, .null, .int 0])), (q7, .inl (c7, 6, .inr (.inl (fun _ => 0)))), (q15, .inl (c15, 8, .inr (.inl (fun _ => 0)))), (q23, .inl (c23, 8, .inl (fun _ => 0))), (q31, .inl (c31, 8, .inr (.inl (fun _ => 0)))), (q39, .inl (c39, 8, .inl (fun _ => 0))), (q47, .inl (c47, 8, .inr (.inl (fun _ => 0)))), (q55, .inl (c55, 8, .inr (.inl (fun _ => 0)))), (q63, .inl (c63, 32, .inl (fun _ => 0)))] H := hP
  have hD : va_D A [(h0, .inr (3, [.ref q7, .ref q15, .ref q23, .ref q31, .ref q39, .ref q47, .ref q55, .int 0, .null, .null, .null, .long 0, .int 0, .int 0, .int 0, .int 0, .null, .null, .int 0])), (q7, .inl (c7, 6, .inr (.inl (fun _ => 0)))), (q15, .inl (c15, 8, .inr (.inl (fun _ => 0)))), (q23, .inl (c23, 8, .inl (fun _ => 0))), (q31, .inl (c31, 8, .inr (.inl (fun _ => 0)))), (q39, .inl (c39, 8, .inl (fun _ => 0))), (q47, .inl (c47, 8, .inr (.inl (fun _ => 0)))), (q55, .inl (c55, 8, .inr (.inl (fun _ => 0)))), (q63, .inl (c63, 32, .inl (fun _ => 0)))] := hD
  have hK : va_K D cx [(c7, .long), (c15, .long), (c23, .boolean), (c31, .long), (c39, .int), (c47, .long), (c55, .long), (c63, .int)] s := hK
  refine W.widen (k := 8) (n := 86) (by omega) (by omega) ?_
  refine va_putF (D := D) (ci := 3) (v := .ref q63) (ty := .array .int) (C := "MeasuredStagesModel") (T := F_md) (N := 19) hx hb hts (fun w h => List.mem_cons_of_mem _ (i_md w h)) t_md o_md n_md hown hK hP hD hS 0 rfl rfl 8 (by decide) (hT _ tb_467) (fun _ h9 => h9) rfl hin rfl (by decide +kernel) rfl rfl (Nat.le_of_ble_eq_true rfl) d_md_init_65 (fun H locs hP hD hS => ?_)
  have hP : va_P D cx [(h0, .inr (3, [.ref q7, .ref q15, .ref q23, .ref q31, .ref q39, .ref q47, .ref q55, .int 0, .ref q63, .null, .null, .long 0, .int 0, .int 0, .int 0, .int 0, .null, .null, .int 0])), (q7, .inl (c7, 6, .inr (.inl (fun _ => 0)))), (q15, .inl (c15, 8, .inr (.inl (fun _ => 0)))), (q23, .inl (c23, 8, .inl (fun _ => 0))), (q31, .inl (c31, 8, .inr (.inl (fun _ => 0)))), (q39, .inl (c39, 8, .inl (fun _ => 0))), (q47, .inl (c47, 8, .inr (.inl (fun _ => 0)))), (q55, .inl (c55, 8, .inr (.inl (fun _ => 0)))), (q63, .inl (c63, 32, .inl (fun _ => 0)))] H := hP
  have hD : va_D A [(h0, .inr (3, [.ref q7, .ref q15, .ref q23, .ref q31, .ref q39, .ref q47, .ref q55, .int 0, .ref q63, .null, .null, .long 0, .int 0, .int 0, .int 0, .int 0, .null, .null, .int 0])), (q7, .inl (c7, 6, .inr (.inl (fun _ => 0)))), (q15, .inl (c15, 8, .inr (.inl (fun _ => 0)))), (q23, .inl (c23, 8, .inl (fun _ => 0))), (q31, .inl (c31, 8, .inr (.inl (fun _ => 0)))), (q39, .inl (c39, 8, .inl (fun _ => 0))), (q47, .inl (c47, 8, .inr (.inl (fun _ => 0)))), (q55, .inl (c55, 8, .inr (.inl (fun _ => 0)))), (q63, .inl (c63, 32, .inl (fun _ => 0)))] := hD
  refine lv_aload_n hx hb d_md_init_68 rfl (lv_at hl 0 rfl) ?_
  refine lv_bipush (v := 32) hx hb d_md_init_69 (by decide) ?_
  refine va_newa (atype := .long) (ty := .long) (n := 32) (N' := 32) (a0 := (32, .inr (.inl (fun _ => 0)))) hx hb (hT _ tb_47) rfl hK hP hD hS hA (fun _ => rfl) (by decide) (by decide) (by decide) (Nat.le_of_ble_eq_true rfl) (Nat.le_of_ble_eq_true rfl) d_md_init_71 (fun q71 c71 H hK hP hD hS => ?_)
  have hP : va_P D cx [(h0, .inr (3, [.ref q7, .ref q15, .ref q23, .ref q31, .ref q39, .ref q47, .ref q55, .int 0, .ref q63, .null, .null, .long 0, .int 0, .int 0, .int 0, .int 0, .null, .null, .int 0])), (q7, .inl (c7, 6, .inr (.inl (fun _ => 0)))), (q15, .inl (c15, 8, .inr (.inl (fun _ => 0)))), (q23, .inl (c23, 8, .inl (fun _ => 0))), (q31, .inl (c31, 8, .inr (.inl (fun _ => 0)))), (q39, .inl (c39, 8, .inl (fun _ => 0))), (q47, .inl (c47, 8, .inr (.inl (fun _ => 0)))), (q55, .inl (c55, 8, .inr (.inl (fun _ => 0)))), (q63, .inl (c63, 32, .inl (fun _ => 0))), (q71, .inl (c71, 32, .inr (.inl (fun _ => 0))))] H := hP
  have hD : va_D A [(h0, .inr (3, [.ref q7, .ref q15, .ref q23, .ref q31, .ref q39, .ref q47, .ref q55, .int 0, .ref q63, .null, .null, .long 0, .int 0, .int 0, .int 0, .int 0, .null, .null, .int 0])), (q7, .inl (c7, 6, .inr (.inl (fun _ => 0)))), (q15, .inl (c15, 8, .inr (.inl (fun _ => 0)))), (q23, .inl (c23, 8, .inl (fun _ => 0))), (q31, .inl (c31, 8, .inr (.inl (fun _ => 0)))), (q39, .inl (c39, 8, .inl (fun _ => 0))), (q47, .inl (c47, 8, .inr (.inl (fun _ => 0)))), (q55, .inl (c55, 8, .inr (.inl (fun _ => 0)))), (q63, .inl (c63, 32, .inl (fun _ => 0))), (q71, .inl (c71, 32, .inr (.inl (fun _ => 0))))] := hD
  have hK : va_K D cx [(c7, .long), (c15, .long), (c23, .boolean), (c31, .long), (c39, .int), (c47, .long), (c55, .long), (c63, .int), (c71, .long)] s := hK
  refine W.widen (k := 9) (n := 118) (by omega) (by omega) ?_
  refine va_putF (D := D) (ci := 3) (v := .ref q71) (ty := .array .long) (C := "MeasuredStagesModel") (T := F_md) (N := 19) hx hb hts (fun w h => List.mem_cons_of_mem _ (i_md w h)) t_md o_md n_md hown hK hP hD hS 0 rfl rfl 9 (by decide) (hT _ tb_468) (fun _ h9 => h9) rfl hin rfl (by decide +kernel) rfl rfl (Nat.le_of_ble_eq_true rfl) d_md_init_73 (fun H locs hP hD hS => ?_)
  have hP : va_P D cx [(h0, .inr (3, [.ref q7, .ref q15, .ref q23, .ref q31, .ref q39, .ref q47, .ref q55, .int 0, .ref q63, .ref q71, .null, .long 0, .int 0, .int 0, .int 0, .int 0, .null, .null, .int 0])), (q7, .inl (c7, 6, .inr (.inl (fun _ => 0)))), (q15, .inl (c15, 8, .inr (.inl (fun _ => 0)))), (q23, .inl (c23, 8, .inl (fun _ => 0))), (q31, .inl (c31, 8, .inr (.inl (fun _ => 0)))), (q39, .inl (c39, 8, .inl (fun _ => 0))), (q47, .inl (c47, 8, .inr (.inl (fun _ => 0)))), (q55, .inl (c55, 8, .inr (.inl (fun _ => 0)))), (q63, .inl (c63, 32, .inl (fun _ => 0))), (q71, .inl (c71, 32, .inr (.inl (fun _ => 0))))] H := hP
  have hD : va_D A [(h0, .inr (3, [.ref q7, .ref q15, .ref q23, .ref q31, .ref q39, .ref q47, .ref q55, .int 0, .ref q63, .ref q71, .null, .long 0, .int 0, .int 0, .int 0, .int 0, .null, .null, .int 0])), (q7, .inl (c7, 6, .inr (.inl (fun _ => 0)))), (q15, .inl (c15, 8, .inr (.inl (fun _ => 0)))), (q23, .inl (c23, 8, .inl (fun _ => 0))), (q31, .inl (c31, 8, .inr (.inl (fun _ => 0)))), (q39, .inl (c39, 8, .inl (fun _ => 0))), (q47, .inl (c47, 8, .inr (.inl (fun _ => 0)))), (q55, .inl (c55, 8, .inr (.inl (fun _ => 0)))), (q63, .inl (c63, 32, .inl (fun _ => 0))), (q71, .inl (c71, 32, .inr (.inl (fun _ => 0))))] := hD
  refine lv_aload_n hx hb d_md_init_76 rfl (lv_at hl 0 rfl) ?_
  refine lv_bipush (v := 6) hx hb d_md_init_77 (by decide) ?_
  refine va_newa (atype := .long) (ty := .long) (n := 6) (N' := 6) (a0 := (6, .inr (.inl (fun _ => 0)))) hx hb (hT _ tb_47) rfl hK hP hD hS hA (fun _ => rfl) (by decide) (by decide) (by decide) (Nat.le_of_ble_eq_true rfl) (Nat.le_of_ble_eq_true rfl) d_md_init_79 (fun q79 c79 H hK hP hD hS => ?_)
  have hP : va_P D cx [(h0, .inr (3, [.ref q7, .ref q15, .ref q23, .ref q31, .ref q39, .ref q47, .ref q55, .int 0, .ref q63, .ref q71, .null, .long 0, .int 0, .int 0, .int 0, .int 0, .null, .null, .int 0])), (q7, .inl (c7, 6, .inr (.inl (fun _ => 0)))), (q15, .inl (c15, 8, .inr (.inl (fun _ => 0)))), (q23, .inl (c23, 8, .inl (fun _ => 0))), (q31, .inl (c31, 8, .inr (.inl (fun _ => 0)))), (q39, .inl (c39, 8, .inl (fun _ => 0))), (q47, .inl (c47, 8, .inr (.inl (fun _ => 0)))), (q55, .inl (c55, 8, .inr (.inl (fun _ => 0)))), (q63, .inl (c63, 32, .inl (fun _ => 0))), (q71, .inl (c71, 32, .inr (.inl (fun _ => 0)))), (q79, .inl (c79, 6, .inr (.inl (fun _ => 0))))] H := hP
  have hD : va_D A [(h0, .inr (3, [.ref q7, .ref q15, .ref q23, .ref q31, .ref q39, .ref q47, .ref q55, .int 0, .ref q63, .ref q71, .null, .long 0, .int 0, .int 0, .int 0, .int 0, .null, .null, .int 0])), (q7, .inl (c7, 6, .inr (.inl (fun _ => 0)))), (q15, .inl (c15, 8, .inr (.inl (fun _ => 0)))), (q23, .inl (c23, 8, .inl (fun _ => 0))), (q31, .inl (c31, 8, .inr (.inl (fun _ => 0)))), (q39, .inl (c39, 8, .inl (fun _ => 0))), (q47, .inl (c47, 8, .inr (.inl (fun _ => 0)))), (q55, .inl (c55, 8, .inr (.inl (fun _ => 0)))), (q63, .inl (c63, 32, .inl (fun _ => 0))), (q71, .inl (c71, 32, .inr (.inl (fun _ => 0)))), (q79, .inl (c79, 6, .inr (.inl (fun _ => 0))))] := hD
  have hK : va_K D cx [(c7, .long), (c15, .long), (c23, .boolean), (c31, .long), (c39, .int), (c47, .long), (c55, .long), (c63, .int), (c71, .long), (c79, .long)] s := hK
  refine W.widen (k := 10) (n := 124) (by omega) (by omega) ?_
  refine va_putF (D := D) (ci := 3) (v := .ref q79) (ty := .array .long) (C := "MeasuredStagesModel") (T := F_md) (N := 19) hx hb hts (fun w h => List.mem_cons_of_mem _ (i_md w h)) t_md o_md n_md hown hK hP hD hS 0 rfl rfl 10 (by decide) (hT _ tb_469) (fun _ h9 => h9) rfl hin rfl (by decide +kernel) rfl rfl (Nat.le_of_ble_eq_true rfl) d_md_init_81 (fun H locs hP hD hS => ?_)
  have hP : va_P D cx [(h0, .inr (3, [.ref q7, .ref q15, .ref q23, .ref q31, .ref q39, .ref q47, .ref q55, .int 0, .ref q63, .ref q71, .ref q79, .long 0, .int 0, .int 0, .int 0, .int 0, .null, .null, .int 0])), (q7, .inl (c7, 6, .inr (.inl (fun _ => 0)))), (q15, .inl (c15, 8, .inr (.inl (fun _ => 0)))), (q23, .inl (c23, 8, .inl (fun _ => 0))), (q31, .inl (c31, 8, .inr (.inl (fun _ => 0)))), (q39, .inl (c39, 8, .inl (fun _ => 0))), (q47, .inl (c47, 8, .inr (.inl (fun _ => 0)))), (q55, .inl (c55, 8, .inr (.inl (fun _ => 0)))), (q63, .inl (c63, 32, .inl (fun _ => 0))), (q71, .inl (c71, 32, .inr (.inl (fun _ => 0)))), (q79, .inl (c79, 6, .inr (.inl (fun _ => 0))))] H := hP
  have hD : va_D A [(h0, .inr (3, [.ref q7, .ref q15, .ref q23, .ref q31, .ref q39, .ref q47, .ref q55, .int 0, .ref q63, .ref q71, .ref q79, .long 0, .int 0, .int 0, .int 0, .int 0, .null, .null, .int 0])), (q7, .inl (c7, 6, .inr (.inl (fun _ => 0)))), (q15, .inl (c15, 8, .inr (.inl (fun _ => 0)))), (q23, .inl (c23, 8, .inl (fun _ => 0))), (q31, .inl (c31, 8, .inr (.inl (fun _ => 0)))), (q39, .inl (c39, 8, .inl (fun _ => 0))), (q47, .inl (c47, 8, .inr (.inl (fun _ => 0)))), (q55, .inl (c55, 8, .inr (.inl (fun _ => 0)))), (q63, .inl (c63, 32, .inl (fun _ => 0))), (q71, .inl (c71, 32, .inr (.inl (fun _ => 0)))), (q79, .inl (c79, 6, .inr (.inl (fun _ => 0))))] := hD
  refine lv_aload_n hx hb d_md_init_84 rfl (lv_at hl 0 rfl) ?_
  refine lv_bipush (v := 6) hx hb d_md_init_85 (by decide) ?_
  refine va_newa (atype := .int) (ty := .int) (n := 6) (N' := 6) (a0 := (6, .inl (fun _ => 0))) hx hb (hT _ tb_49) rfl hK hP hD hS hA (fun _ => rfl) (by decide) (by decide) (by decide) (Nat.le_of_ble_eq_true rfl) (Nat.le_of_ble_eq_true rfl) d_md_init_87 (fun q87 c87 H hK hP hD hS => ?_)
  have hP : va_P D cx [(h0, .inr (3, [.ref q7, .ref q15, .ref q23, .ref q31, .ref q39, .ref q47, .ref q55, .int 0, .ref q63, .ref q71, .ref q79, .long 0, .int 0, .int 0, .int 0, .int 0, .null, .null, .int 0])), (q7, .inl (c7, 6, .inr (.inl (fun _ => 0)))), (q15, .inl (c15, 8, .inr (.inl (fun _ => 0)))), (q23, .inl (c23, 8, .inl (fun _ => 0))), (q31, .inl (c31, 8, .inr (.inl (fun _ => 0)))), (q39, .inl (c39, 8, .inl (fun _ => 0))), (q47, .inl (c47, 8, .inr (.inl (fun _ => 0)))), (q55, .inl (c55, 8, .inr (.inl (fun _ => 0)))), (q63, .inl (c63, 32, .inl (fun _ => 0))), (q71, .inl (c71, 32, .inr (.inl (fun _ => 0)))), (q79, .inl (c79, 6, .inr (.inl (fun _ => 0)))), (q87, .inl (c87, 6, .inl (fun _ => 0)))] H := hP
  have hD : va_D A [(h0, .inr (3, [.ref q7, .ref q15, .ref q23, .ref q31, .ref q39, .ref q47, .ref q55, .int 0, .ref q63, .ref q71, .ref q79, .long 0, .int 0, .int 0, .int 0, .int 0, .null, .null, .int 0])), (q7, .inl (c7, 6, .inr (.inl (fun _ => 0)))), (q15, .inl (c15, 8, .inr (.inl (fun _ => 0)))), (q23, .inl (c23, 8, .inl (fun _ => 0))), (q31, .inl (c31, 8, .inr (.inl (fun _ => 0)))), (q39, .inl (c39, 8, .inl (fun _ => 0))), (q47, .inl (c47, 8, .inr (.inl (fun _ => 0)))), (q55, .inl (c55, 8, .inr (.inl (fun _ => 0)))), (q63, .inl (c63, 32, .inl (fun _ => 0))), (q71, .inl (c71, 32, .inr (.inl (fun _ => 0)))), (q79, .inl (c79, 6, .inr (.inl (fun _ => 0)))), (q87, .inl (c87, 6, .inl (fun _ => 0)))] := hD
  have hK : va_K D cx [(c7, .long), (c15, .long), (c23, .boolean), (c31, .long), (c39, .int), (c47, .long), (c55, .long), (c63, .int), (c71, .long), (c79, .long), (c87, .int)] s := hK
  refine W.widen (k := 11) (n := 130) (by omega) (by omega) ?_
  refine va_putF (D := D) (ci := 3) (v := .ref q87) (ty := .array .int) (C := "MeasuredStagesModel") (T := F_md) (N := 19) hx hb hts (fun w h => List.mem_cons_of_mem _ (i_md w h)) t_md o_md n_md hown hK hP hD hS 0 rfl rfl 16 (by decide) (hT _ tb_475) (fun _ h9 => h9) rfl hin rfl (by decide +kernel) rfl rfl (Nat.le_of_ble_eq_true rfl) d_md_init_89 (fun H locs hP hD hS => ?_)
  have hP : va_P D cx [(h0, .inr (3, [.ref q7, .ref q15, .ref q23, .ref q31, .ref q39, .ref q47, .ref q55, .int 0, .ref q63, .ref q71, .ref q79, .long 0, .int 0, .int 0, .int 0, .int 0, .ref q87, .null, .int 0])), (q7, .inl (c7, 6, .inr (.inl (fun _ => 0)))), (q15, .inl (c15, 8, .inr (.inl (fun _ => 0)))), (q23, .inl (c23, 8, .inl (fun _ => 0))), (q31, .inl (c31, 8, .inr (.inl (fun _ => 0)))), (q39, .inl (c39, 8, .inl (fun _ => 0))), (q47, .inl (c47, 8, .inr (.inl (fun _ => 0)))), (q55, .inl (c55, 8, .inr (.inl (fun _ => 0)))), (q63, .inl (c63, 32, .inl (fun _ => 0))), (q71, .inl (c71, 32, .inr (.inl (fun _ => 0)))), (q79, .inl (c79, 6, .inr (.inl (fun _ => 0)))), (q87, .inl (c87, 6, .inl (fun _ => 0)))] H := hP
  have hD : va_D A [(h0, .inr (3, [.ref q7, .ref q15, .ref q23, .ref q31, .ref q39, .ref q47, .ref q55, .int 0, .ref q63, .ref q71, .ref q79, .long 0, .int 0, .int 0, .int 0, .int 0, .ref q87, .null, .int 0])), (q7, .inl (c7, 6, .inr (.inl (fun _ => 0)))), (q15, .inl (c15, 8, .inr (.inl (fun _ => 0)))), (q23, .inl (c23, 8, .inl (fun _ => 0))), (q31, .inl (c31, 8, .inr (.inl (fun _ => 0)))), (q39, .inl (c39, 8, .inl (fun _ => 0))), (q47, .inl (c47, 8, .inr (.inl (fun _ => 0)))), (q55, .inl (c55, 8, .inr (.inl (fun _ => 0)))), (q63, .inl (c63, 32, .inl (fun _ => 0))), (q71, .inl (c71, 32, .inr (.inl (fun _ => 0)))), (q79, .inl (c79, 6, .inr (.inl (fun _ => 0)))), (q87, .inl (c87, 6, .inl (fun _ => 0)))] := hD
  refine lv_aload_n hx hb d_md_init_92 rfl (lv_at hl 0 rfl) ?_
  refine lv_bipush (v := 6) hx hb d_md_init_93 (by decide) ?_
  refine va_newa (atype := .int) (ty := .int) (n := 6) (N' := 6) (a0 := (6, .inl (fun _ => 0))) hx hb (hT _ tb_49) rfl hK hP hD hS hA (fun _ => rfl) (by decide) (by decide) (by decide) (Nat.le_of_ble_eq_true rfl) (Nat.le_of_ble_eq_true rfl) d_md_init_95 (fun q95 c95 H hK hP hD hS => ?_)
  have hP : va_P D cx [(h0, .inr (3, [.ref q7, .ref q15, .ref q23, .ref q31, .ref q39, .ref q47, .ref q55, .int 0, .ref q63, .ref q71, .ref q79, .long 0, .int 0, .int 0, .int 0, .int 0, .ref q87, .null, .int 0])), (q7, .inl (c7, 6, .inr (.inl (fun _ => 0)))), (q15, .inl (c15, 8, .inr (.inl (fun _ => 0)))), (q23, .inl (c23, 8, .inl (fun _ => 0))), (q31, .inl (c31, 8, .inr (.inl (fun _ => 0)))), (q39, .inl (c39, 8, .inl (fun _ => 0))), (q47, .inl (c47, 8, .inr (.inl (fun _ => 0)))), (q55, .inl (c55, 8, .inr (.inl (fun _ => 0)))), (q63, .inl (c63, 32, .inl (fun _ => 0))), (q71, .inl (c71, 32, .inr (.inl (fun _ => 0)))), (q79, .inl (c79, 6, .inr (.inl (fun _ => 0)))), (q87, .inl (c87, 6, .inl (fun _ => 0))), (q95, .inl (c95, 6, .inl (fun _ => 0)))] H := hP
  have hD : va_D A [(h0, .inr (3, [.ref q7, .ref q15, .ref q23, .ref q31, .ref q39, .ref q47, .ref q55, .int 0, .ref q63, .ref q71, .ref q79, .long 0, .int 0, .int 0, .int 0, .int 0, .ref q87, .null, .int 0])), (q7, .inl (c7, 6, .inr (.inl (fun _ => 0)))), (q15, .inl (c15, 8, .inr (.inl (fun _ => 0)))), (q23, .inl (c23, 8, .inl (fun _ => 0))), (q31, .inl (c31, 8, .inr (.inl (fun _ => 0)))), (q39, .inl (c39, 8, .inl (fun _ => 0))), (q47, .inl (c47, 8, .inr (.inl (fun _ => 0)))), (q55, .inl (c55, 8, .inr (.inl (fun _ => 0)))), (q63, .inl (c63, 32, .inl (fun _ => 0))), (q71, .inl (c71, 32, .inr (.inl (fun _ => 0)))), (q79, .inl (c79, 6, .inr (.inl (fun _ => 0)))), (q87, .inl (c87, 6, .inl (fun _ => 0))), (q95, .inl (c95, 6, .inl (fun _ => 0)))] := hD
  have hK : va_K D cx [(c7, .long), (c15, .long), (c23, .boolean), (c31, .long), (c39, .int), (c47, .long), (c55, .long), (c63, .int), (c71, .long), (c79, .long), (c87, .int), (c95, .int)] s := hK
  refine W.widen (k := 12) (n := 136) (by omega) (by omega) ?_
  refine va_putF (D := D) (ci := 3) (v := .ref q95) (ty := .array .int) (C := "MeasuredStagesModel") (T := F_md) (N := 19) hx hb hts (fun w h => List.mem_cons_of_mem _ (i_md w h)) t_md o_md n_md hown hK hP hD hS 0 rfl rfl 17 (by decide) (hT _ tb_476) (fun _ h9 => h9) rfl hin rfl (by decide +kernel) rfl rfl (Nat.le_of_ble_eq_true rfl) d_md_init_97 (fun H locs hP hD hS => ?_)
  have hP : va_P D cx [(h0, .inr (3, [.ref q7, .ref q15, .ref q23, .ref q31, .ref q39, .ref q47, .ref q55, .int 0, .ref q63, .ref q71, .ref q79, .long 0, .int 0, .int 0, .int 0, .int 0, .ref q87, .ref q95, .int 0])), (q7, .inl (c7, 6, .inr (.inl (fun _ => 0)))), (q15, .inl (c15, 8, .inr (.inl (fun _ => 0)))), (q23, .inl (c23, 8, .inl (fun _ => 0))), (q31, .inl (c31, 8, .inr (.inl (fun _ => 0)))), (q39, .inl (c39, 8, .inl (fun _ => 0))), (q47, .inl (c47, 8, .inr (.inl (fun _ => 0)))), (q55, .inl (c55, 8, .inr (.inl (fun _ => 0)))), (q63, .inl (c63, 32, .inl (fun _ => 0))), (q71, .inl (c71, 32, .inr (.inl (fun _ => 0)))), (q79, .inl (c79, 6, .inr (.inl (fun _ => 0)))), (q87, .inl (c87, 6, .inl (fun _ => 0))), (q95, .inl (c95, 6, .inl (fun _ => 0)))] H := hP
  have hD : va_D A [(h0, .inr (3, [.ref q7, .ref q15, .ref q23, .ref q31, .ref q39, .ref q47, .ref q55, .int 0, .ref q63, .ref q71, .ref q79, .long 0, .int 0, .int 0, .int 0, .int 0, .ref q87, .ref q95, .int 0])), (q7, .inl (c7, 6, .inr (.inl (fun _ => 0)))), (q15, .inl (c15, 8, .inr (.inl (fun _ => 0)))), (q23, .inl (c23, 8, .inl (fun _ => 0))), (q31, .inl (c31, 8, .inr (.inl (fun _ => 0)))), (q39, .inl (c39, 8, .inl (fun _ => 0))), (q47, .inl (c47, 8, .inr (.inl (fun _ => 0)))), (q55, .inl (c55, 8, .inr (.inl (fun _ => 0)))), (q63, .inl (c63, 32, .inl (fun _ => 0))), (q71, .inl (c71, 32, .inr (.inl (fun _ => 0)))), (q79, .inl (c79, 6, .inr (.inl (fun _ => 0)))), (q87, .inl (c87, 6, .inl (fun _ => 0))), (q95, .inl (c95, 6, .inl (fun _ => 0)))] := hD
  exact W.vret hx hb hret (fun t ht hW => ⟨⟨(), rfl, trivial, q7, c7, q15, c15, q23, c23, q31, c31, q39, c39, q47, c47, q55, c55, q63, c63, q71, c71, q79, c79, q87, c87, q95, c95, by rw [ht]; exact hP, va_K.moved hW.alike hK, hD⟩, hS.F ht⟩) hS.2.2 d_md_init_100
set_option maxHeartbeats 4000000 in
set_option maxRecDepth 100000 in
theorem c_ms_init (l : Launch) (D : va_G) (h0 sz : Nat) : Met l y_ms_init (Cond.code y_ms_init b_ms_init 1 none :: TB) { frames := 2, cells := 14, slots := 144, locals := 60 } (va_Pc [.ref h0] (fun U => U.heap.size = sz ∧ va_P D cx [(h0, .inr (0, [.null, .null, .null, .null, .null, .null, .null, .int 0, .long 0, .int 0, .int 0, .int 0]))] U.heap ∧ va_K D cx [] U ∧ va_D (fun _ => True) [(h0, .inr (0, [.null, .null, .null, .null, .null, .null, .null, .int 0, .long 0, .int 0, .int 0, .int 0]))] ∧ cN U)) (va_Qv (fun (_ : Unit) => True) (fun (_ : Unit) t => ∃ (q7 : Nat) (c7 : ClassId) (q15 : Nat) (c15 : ClassId) (q23 : Nat) (c23 : ClassId) (q29 : Nat) (q7rg : Nat) (c7rg : ClassId) (q15rg : Nat) (c15rg : ClassId) (q23rg : Nat) (c23rg : ClassId) (q31rg : Nat) (c31rg : ClassId) (q40 : Nat) (q7bl : Nat) (c7bl : ClassId) (q15bl : Nat) (c15bl : ClassId) (q23bl : Nat) (c23bl : ClassId) (q53 : Nat) (c53 : ClassId) (q61 : Nat) (c61 : ClassId), va_P D cx [(h0, .inr (0, [.ref q7, .ref q15, .ref q23, .ref q29, .ref q40, .ref q53, .ref q61, .int 0, .long 0, .int 0, .int 0, .int 0])), (q7, .inl (c7, 8, .inr (.inl (fun _ => 0)))), (q15, .inl (c15, 8, .inl (fun _ => 0))), (q23, .inl (c23, 8, .inr (.inl (fun _ => 0)))), (q29, .inr (1, [.ref q7rg, .ref q15rg, .ref q23rg, .int 0, .ref q31rg])), (q7rg, .inl (c7rg, 6, .inr (.inl (fun _ => 0)))), (q15rg, .inl (c15rg, 32, .inl (fun _ => 0))), (q23rg, .inl (c23rg, 32, .inr (.inl (fun _ => 0)))), (q31rg, .inl (c31rg, 6, .inr (.inl (fun _ => 0)))), (q40, .inr (2, [.ref q7bl, .ref q15bl, .ref q23bl])), (q7bl, .inl (c7bl, 8, .inl (fun _ => 0))), (q15bl, .inl (c15bl, 8, .inr (.inl (fun _ => 0)))), (q23bl, .inl (c23bl, 8, .inr (.inl (fun _ => 0)))), (q53, .inl (c53, 6, .inr (.inl (fun _ => 0)))), (q61, .inl (c61, 6, .inl (fun _ => 0)))] t.heap ∧ va_K D cx [(c7, .long), (c15, .boolean), (c23, .long), (c7rg, .long), (c15rg, .int), (c23rg, .long), (c31rg, .long), (c7bl, .int), (c15bl, .long), (c23bl, .long), (c53, .long), (c61, .int)] t ∧ va_D (va_A [(h0, .inr (0, [.null, .null, .null, .null, .null, .null, .null, .int 0, .long 0, .int 0, .int 0, .int 0]))] sz) [(h0, .inr (0, [.ref q7, .ref q15, .ref q23, .ref q29, .ref q40, .ref q53, .ref q61, .int 0, .long 0, .int 0, .int 0, .int 0])), (q7, .inl (c7, 8, .inr (.inl (fun _ => 0)))), (q15, .inl (c15, 8, .inl (fun _ => 0))), (q23, .inl (c23, 8, .inr (.inl (fun _ => 0)))), (q29, .inr (1, [.ref q7rg, .ref q15rg, .ref q23rg, .int 0, .ref q31rg])), (q7rg, .inl (c7rg, 6, .inr (.inl (fun _ => 0)))), (q15rg, .inl (c15rg, 32, .inl (fun _ => 0))), (q23rg, .inl (c23rg, 32, .inr (.inl (fun _ => 0)))), (q31rg, .inl (c31rg, 6, .inr (.inl (fun _ => 0)))), (q40, .inr (2, [.ref q7bl, .ref q15bl, .ref q23bl])), (q7bl, .inl (c7bl, 8, .inl (fun _ => 0))), (q15bl, .inl (c15bl, 8, .inr (.inl (fun _ => 0)))), (q23bl, .inl (c23bl, 8, .inr (.inl (fun _ => 0)))), (q53, .inl (c53, 6, .inr (.inl (fun _ => 0)))), (q61, .inl (c61, 6, .inl (fun _ => 0)))]) (va_A [(h0, .inr (0, [.null, .null, .null, .null, .null, .null, .null, .int 0, .long 0, .int 0, .int 0, .int 0]))] sz)) 14 144 (va_A [(h0, .inr (0, [.null, .null, .null, .null, .null, .null, .null, .int 0, .long 0, .int 0, .int 0, .int 0]))] sz) := by
  refine Met.ofW (cc := b_ms_init) (maxL := 1) (ret := none) (by decide) rfl ?_
  intro p e s m args below meth c s₁ B hml hv
  obtain ⟨rfl, hsz, hP, hK, hD, hN⟩ := hv
  have hx := B.exec
  have hb := B.bytes
  have hret := B.returns
  have hts := atoms_spec (ws := Cond.code y_ms_init b_ms_init 1 none :: TB) B.pre
  have hT : ∀ w ∈ TB, w.before _ s = true := fun w h => hts w (List.mem_cons_of_mem _ h)
  have hown : s.vm.findClass "MeasuredStages" = some m.cls := findClass_of_methodNamed B.named
  have hlocks := B.notSynchronized
  have hin : meth.name = "<init>" := (name_of_methodNamed B.named B.method).1
  subst hsz
  have hD := hD.self (sz := s.heap.size)
  generalize hAe : va_A [(h0, .inr (0, [.null, .null, .null, .null, .null, .null, .null, .int 0, .long 0, .int 0, .int 0, .int 0]))] s.heap.size = A at hD ⊢
  have hA : ∀ q : Nat, s.heap.size ≤ q → A q := fun q h => by rw [← hAe]; exact Or.inr h
  have hS : va_S A s.heap s.heap [] := va_S.rf
  have hl := lv_entry ([.ref h0]) (n := 1) (Nat.le_of_ble_eq_true rfl)
  rw [lg_entry_eq]
  generalize (lg_sl ([.ref h0]) ++ List.replicate (1 - (lg_sl ([.ref h0])).length) Slot.unset).toArray = ls at hl ⊢
  have hl : lv_has ls 1 [(0, .ref h0)] := hl
  refine lv_aload_n hx hb d_ms_init_0 rfl (lv_at hl 0 rfl) ?_
  refine W.objInit hx hb hown (hT _ tb_18) (hT _ tb_19) (hT _ tb_20) rfl (by rw [hml]; exact hl.1) rfl d_ms_init_1 (Nat.le_of_ble_eq_true rfl) (Nat.le_of_ble_eq_true rfl) ?_
  refine W.eq (g2 := F0 m 4 ls []) rfl ?_
  refine lv_aload_n hx hb d_ms_init_4 rfl (lv_at hl 0 rfl) ?_
  refine lv_bipush (v := 8) hx hb d_ms_init_5 (by decide) ?_
  refine va_newa (atype := .long) (ty := .long) (n := 8) (N' := 8) (a0 := (8, .inr (.inl (fun _ => 0)))) hx hb (hT _ tb_47) rfl hK hP hD hS hA (fun _ => rfl) (by decide) (by decide) (by decide) (Nat.le_of_ble_eq_true rfl) (Nat.le_of_ble_eq_true rfl) d_ms_init_7 (fun q7 c7 H hK hP hD hS => ?_)
  have hP : va_P D cx [(h0, .inr (0, [.null, .null, .null, .null, .null, .null, .null, .int 0, .long 0, .int 0, .int 0, .int 0])), (q7, .inl (c7, 8, .inr (.inl (fun _ => 0))))] H := hP
  have hD : va_D A [(h0, .inr (0, [.null, .null, .null, .null, .null, .null, .null, .int 0, .long 0, .int 0, .int 0, .int 0])), (q7, .inl (c7, 8, .inr (.inl (fun _ => 0))))] := hD
  have hK : va_K D cx [(c7, .long)] s := hK
  refine W.widen (k := 1) (n := 8) (by omega) (by omega) ?_
  refine va_putF (D := D) (ci := 0) (v := .ref q7) (ty := .array .long) (C := "MeasuredStages") (T := F_ms) (N := 12) hx hb hts (fun w h => List.mem_cons_of_mem _ (i_ms w h)) t_ms o_ms n_ms hown hK hP hD hS 0 rfl rfl 0 (by decide) (hT _ tb_69) (fun _ h9 => h9) rfl hin rfl (by decide +kernel) rfl rfl (Nat.le_of_ble_eq_true rfl) d_ms_init_9 (fun H locs hP hD hS => ?_)
  have hP : va_P D cx [(h0, .inr (0, [.ref q7, .null, .null, .null, .null, .null, .null, .int 0, .long 0, .int 0, .int 0, .int 0])), (q7, .inl (c7, 8, .inr (.inl (fun _ => 0))))] H := hP
  have hD : va_D A [(h0, .inr (0, [.ref q7, .null, .null, .null, .null, .null, .null, .int 0, .long 0, .int 0, .int 0, .int 0])), (q7, .inl (c7, 8, .inr (.inl (fun _ => 0))))] := hD
  refine lv_aload_n hx hb d_ms_init_12 rfl (lv_at hl 0 rfl) ?_
  refine lv_bipush (v := 8) hx hb d_ms_init_13 (by decide) ?_
  refine va_newa (atype := .boolean) (ty := .boolean) (n := 8) (N' := 8) (a0 := (8, .inl (fun _ => 0))) hx hb (hT _ tb_48) rfl hK hP hD hS hA (fun _ => rfl) (by decide) (by decide) (by decide) (Nat.le_of_ble_eq_true rfl) (Nat.le_of_ble_eq_true rfl) d_ms_init_15 (fun q15 c15 H hK hP hD hS => ?_)
  have hP : va_P D cx [(h0, .inr (0, [.ref q7, .null, .null, .null, .null, .null, .null, .int 0, .long 0, .int 0, .int 0, .int 0])), (q7, .inl (c7, 8, .inr (.inl (fun _ => 0)))), (q15, .inl (c15, 8, .inl (fun _ => 0)))] H := hP
  have hD : va_D A [(h0, .inr (0, [.ref q7, .null, .null, .null, .null, .null, .null, .int 0, .long 0, .int 0, .int 0, .int 0])), (q7, .inl (c7, 8, .inr (.inl (fun _ => 0)))), (q15, .inl (c15, 8, .inl (fun _ => 0)))] := hD
  have hK : va_K D cx [(c7, .long), (c15, .boolean)] s := hK
  refine W.widen (k := 2) (n := 16) (by omega) (by omega) ?_
  refine va_putF (D := D) (ci := 0) (v := .ref q15) (ty := .array .boolean) (C := "MeasuredStages") (T := F_ms) (N := 12) hx hb hts (fun w h => List.mem_cons_of_mem _ (i_ms w h)) t_ms o_ms n_ms hown hK hP hD hS 0 rfl rfl 1 (by decide) (hT _ tb_70) (fun _ h9 => h9) rfl hin rfl (by decide +kernel) rfl rfl (Nat.le_of_ble_eq_true rfl) d_ms_init_17 (fun H locs hP hD hS => ?_)
  have hP : va_P D cx [(h0, .inr (0, [.ref q7, .ref q15, .null, .null, .null, .null, .null, .int 0, .long 0, .int 0, .int 0, .int 0])), (q7, .inl (c7, 8, .inr (.inl (fun _ => 0)))), (q15, .inl (c15, 8, .inl (fun _ => 0)))] H := hP
  have hD : va_D A [(h0, .inr (0, [.ref q7, .ref q15, .null, .null, .null, .null, .null, .int 0, .long 0, .int 0, .int 0, .int 0])), (q7, .inl (c7, 8, .inr (.inl (fun _ => 0)))), (q15, .inl (c15, 8, .inl (fun _ => 0)))] := hD
  refine lv_aload_n hx hb d_ms_init_20 rfl (lv_at hl 0 rfl) ?_
  refine lv_bipush (v := 8) hx hb d_ms_init_21 (by decide) ?_
  refine va_newa (atype := .long) (ty := .long) (n := 8) (N' := 8) (a0 := (8, .inr (.inl (fun _ => 0)))) hx hb (hT _ tb_47) rfl hK hP hD hS hA (fun _ => rfl) (by decide) (by decide) (by decide) (Nat.le_of_ble_eq_true rfl) (Nat.le_of_ble_eq_true rfl) d_ms_init_23 (fun q23 c23 H hK hP hD hS => ?_)
  have hP : va_P D cx [(h0, .inr (0, [.ref q7, .ref q15, .null, .null, .null, .null, .null, .int 0, .long 0, .int 0, .int 0, .int 0])), (q7, .inl (c7, 8, .inr (.inl (fun _ => 0)))), (q15, .inl (c15, 8, .inl (fun _ => 0))), (q23, .inl (c23, 8, .inr (.inl (fun _ => 0))))] H := hP
  have hD : va_D A [(h0, .inr (0, [.ref q7, .ref q15, .null, .null, .null, .null, .null, .int 0, .long 0, .int 0, .int 0, .int 0])), (q7, .inl (c7, 8, .inr (.inl (fun _ => 0)))), (q15, .inl (c15, 8, .inl (fun _ => 0))), (q23, .inl (c23, 8, .inr (.inl (fun _ => 0))))] := hD
  have hK : va_K D cx [(c7, .long), (c15, .boolean), (c23, .long)] s := hK
  refine W.widen (k := 3) (n := 24) (by omega) (by omega) ?_
  refine va_putF (D := D) (ci := 0) (v := .ref q23) (ty := .array .long) (C := "MeasuredStages") (T := F_ms) (N := 12) hx hb hts (fun w h => List.mem_cons_of_mem _ (i_ms w h)) t_ms o_ms n_ms hown hK hP hD hS 0 rfl rfl 2 (by decide) (hT _ tb_71) (fun _ h9 => h9) rfl hin rfl (by decide +kernel) rfl rfl (Nat.le_of_ble_eq_true rfl) d_ms_init_25 (fun H locs hP hD hS => ?_)
  have hP : va_P D cx [(h0, .inr (0, [.ref q7, .ref q15, .ref q23, .null, .null, .null, .null, .int 0, .long 0, .int 0, .int 0, .int 0])), (q7, .inl (c7, 8, .inr (.inl (fun _ => 0)))), (q15, .inl (c15, 8, .inl (fun _ => 0))), (q23, .inl (c23, 8, .inr (.inl (fun _ => 0))))] H := hP
  have hD : va_D A [(h0, .inr (0, [.ref q7, .ref q15, .ref q23, .null, .null, .null, .null, .int 0, .long 0, .int 0, .int 0, .int 0])), (q7, .inl (c7, 8, .inr (.inl (fun _ => 0)))), (q15, .inl (c15, 8, .inl (fun _ => 0))), (q23, .inl (c23, 8, .inr (.inl (fun _ => 0))))] := hD
  refine lv_aload_n hx hb d_ms_init_28 rfl (lv_at hl 0 rfl) ?_
  refine va_new (ci := 1) (fs := [.null, .null, .null, .int 0, .null]) (C := "MeasuredStages$Registers") (T := F_rg) (N := 5) hx hb hts (fun w h => List.mem_cons_of_mem _ (i_rg w h)) t_rg o_rg hown (hT _ tb_21) (hT _ tb_22) (hT _ tb_2) hK hP hD hS hA rfl (fun j hj => by rcases (show j = 0 ∨ j = 1 ∨ j = 2 ∨ j = 3 ∨ j = 4 by omega) with rfl | rfl | rfl | rfl | rfl <;> rfl) (Nat.le_of_ble_eq_true rfl) (Nat.le_of_ble_eq_true rfl) d_ms_init_29 (fun q29 H hP hD hS => ?_)
  have hP : va_P D cx [(h0, .inr (0, [.ref q7, .ref q15, .ref q23, .null, .null, .null, .null, .int 0, .long 0, .int 0, .int 0, .int 0])), (q7, .inl (c7, 8, .inr (.inl (fun _ => 0)))), (q15, .inl (c15, 8, .inl (fun _ => 0))), (q23, .inl (c23, 8, .inr (.inl (fun _ => 0)))), (q29, .inr (1, [.null, .null, .null, .int 0, .null]))] H := hP
  have hD : va_D A [(h0, .inr (0, [.ref q7, .ref q15, .ref q23, .null, .null, .null, .null, .int 0, .long 0, .int 0, .int 0, .int 0])), (q7, .inl (c7, 8, .inr (.inl (fun _ => 0)))), (q15, .inl (c15, 8, .inl (fun _ => 0))), (q23, .inl (c23, 8, .inr (.inl (fun _ => 0)))), (q29, .inr (1, [.null, .null, .null, .int 0, .null]))] := hD
  refine W.widen (k := 4) (n := 29) (by omega) (by omega) ?_
  refine lv_dup hx hb d_ms_init_32 rfl ?_
  have hPc := hP.sub (ws' := [(q29, .inr (1, [.null, .null, .null, .int 0, .null]))]) [4] rfl
  have hDc := hD.sub (ws' := [(q29, .inr (1, [.null, .null, .null, .int 0, .null]))]) [4] (by decide) rfl
  have hKc := hK.sub (tys' := []) [] rfl
  have hFc := va_free (wc := [(q29, .inr (1, [.null, .null, .null, .int 0, .null]))]) hD hS hA [4] rfl
  refine va_callv (va_runIN (As := []) (rest := [.ref q29, .ref h0]) ⟨hx, hb, hml, hown, hts⟩ (c_rg_init l D q29 H.size) ⟨va_cnB 0 hts (gi_C tb_25) rfl rfl rfl hN.1 (hT _ tb_2) hd_rg_init ⟨Nat.le_of_ble_eq_true rfl, Nat.le_of_ble_eq_true rfl⟩, rfl, hT _ tb_24⟩ ⟨fun a U g mk q => by obtain ⟨q0, q1, qP, qK, qD⟩ := q; exact ⟨q0, q1, qP, va_K.moved (u := U) (U := U.calling g mk a) (Vm.Alike.refl U.vm) qK, qD⟩, fun U hU hW => ⟨rfl, by rw [hU], by rw [hU]; exact hPc, va_K.moved hW.alike hKc, hDc.weaken (fun _ _ _ _ => trivial)⟩⟩ rfl rfl hl.1 rfl (lv_room (Nat.le_of_ble_eq_true rfl)) d_ms_init_33 ⟨Nat.le_of_ble_eq_true rfl, Nat.le_of_ble_eq_true rfl⟩) hS (fun q _ h => hFc q h) hFc (fun u9 t H1 locs ht hvm h9 hB hz1 hk1 hS => ?_)
  obtain ⟨q7rg, c7rg, q15rg, c15rg, q23rg, c23rg, q31rg, c31rg, hP1, hK1, hD1⟩ := hB
  rw [ht] at hP1
  have hK1 := va_K.moved hvm.symm hK1
  obtain ⟨hP, hD⟩ := va_join (wr := [(h0, .inr (0, [.ref q7, .ref q15, .ref q23, .null, .null, .null, .null, .int 0, .long 0, .int 0, .int 0, .int 0])), (q7, .inl (c7, 8, .inr (.inl (fun _ => 0)))), (q15, .inl (c15, 8, .inl (fun _ => 0))), (q23, .inl (c23, 8, .inr (.inl (fun _ => 0))))]) (w1 := [(q29, .inr (1, [.ref q7rg, .ref q15rg, .ref q23rg, .int 0, .ref q31rg])), (q7rg, .inl (c7rg, 6, .inr (.inl (fun _ => 0)))), (q15rg, .inl (c15rg, 32, .inl (fun _ => 0))), (q23rg, .inl (c23rg, 32, .inr (.inl (fun _ => 0)))), (q31rg, .inl (c31rg, 6, .inr (.inl (fun _ => 0))))]) hP hD [4] [0, 1, 2, 3] rfl rfl (by decide) (by decide) hk1 hFc hP1 hD1
  have hK := hK.app hK1
  generalize H1 = H at hP hS ⊢
  have hP : va_P D cx [(h0, .inr (0, [.ref q7, .ref q15, .ref q23, .null, .null, .null, .null, .int 0, .long 0, .int 0, .int 0, .int 0])), (q7, .inl (c7, 8, .inr (.inl (fun _ => 0)))), (q15, .inl (c15, 8, .inl (fun _ => 0))), (q23, .inl (c23, 8, .inr (.inl (fun _ => 0)))), (q29, .inr (1, [.ref q7rg, .ref q15rg, .ref q23rg, .int 0, .ref q31rg])), (q7rg, .inl (c7rg, 6, .inr (.inl (fun _ => 0)))), (q15rg, .inl (c15rg, 32, .inl (fun _ => 0))), (q23rg, .inl (c23rg, 32, .inr (.inl (fun _ => 0)))), (q31rg, .inl (c31rg, 6, .inr (.inl (fun _ => 0))))] H := hP
  have hD : va_D A [(h0, .inr (0, [.ref q7, .ref q15, .ref q23, .null, .null, .null, .null, .int 0, .long 0, .int 0, .int 0, .int 0])), (q7, .inl (c7, 8, .inr (.inl (fun _ => 0)))), (q15, .inl (c15, 8, .inl (fun _ => 0))), (q23, .inl (c23, 8, .inr (.inl (fun _ => 0)))), (q29, .inr (1, [.ref q7rg, .ref q15rg, .ref q23rg, .int 0, .ref q31rg])), (q7rg, .inl (c7rg, 6, .inr (.inl (fun _ => 0)))), (q15rg, .inl (c15rg, 32, .inl (fun _ => 0))), (q23rg, .inl (c23rg, 32, .inr (.inl (fun _ => 0)))), (q31rg, .inl (c31rg, 6, .inr (.inl (fun _ => 0))))] := hD
  have hK : va_K D cx [(c7, .long), (c15, .boolean), (c23, .long), (c7rg, .long), (c15rg, .int), (c23rg, .long), (c31rg, .long)] s := hK
  refine W.widen (k := 8) (n := 105) (by omega) (by omega) ?_
  refine va_putF (D := D) (ci := 0) (v := .ref q29) (ty := .object "MeasuredStages$Registers") (C := "MeasuredStages") (T := F_ms) (N := 12) hx hb hts (fun w h => List.mem_cons_of_mem _ (i_ms w h)) t_ms o_ms n_ms hown hK hP hD hS 0 rfl rfl 3 (by decide) (hT _ tb_72) (fun _ h9 => h9) rfl hin rfl (by decide +kernel) rfl rfl (Nat.le_of_ble_eq_true rfl) d_ms_init_36 (fun H locs hP hD hS => ?_)
  have hP : va_P D cx [(h0, .inr (0, [.ref q7, .ref q15, .ref q23, .ref q29, .null, .null, .null, .int 0, .long 0, .int 0, .int 0, .int 0])), (q7, .inl (c7, 8, .inr (.inl (fun _ => 0)))), (q15, .inl (c15, 8, .inl (fun _ => 0))), (q23, .inl (c23, 8, .inr (.inl (fun _ => 0)))), (q29, .inr (1, [.ref q7rg, .ref q15rg, .ref q23rg, .int 0, .ref q31rg])), (q7rg, .inl (c7rg, 6, .inr (.inl (fun _ => 0)))), (q15rg, .inl (c15rg, 32, .inl (fun _ => 0))), (q23rg, .inl (c23rg, 32, .inr (.inl (fun _ => 0)))), (q31rg, .inl (c31rg, 6, .inr (.inl (fun _ => 0))))] H := hP
  have hD : va_D A [(h0, .inr (0, [.ref q7, .ref q15, .ref q23, .ref q29, .null, .null, .null, .int 0, .long 0, .int 0, .int 0, .int 0])), (q7, .inl (c7, 8, .inr (.inl (fun _ => 0)))), (q15, .inl (c15, 8, .inl (fun _ => 0))), (q23, .inl (c23, 8, .inr (.inl (fun _ => 0)))), (q29, .inr (1, [.ref q7rg, .ref q15rg, .ref q23rg, .int 0, .ref q31rg])), (q7rg, .inl (c7rg, 6, .inr (.inl (fun _ => 0)))), (q15rg, .inl (c15rg, 32, .inl (fun _ => 0))), (q23rg, .inl (c23rg, 32, .inr (.inl (fun _ => 0)))), (q31rg, .inl (c31rg, 6, .inr (.inl (fun _ => 0))))] := hD
  refine lv_aload_n hx hb d_ms_init_39 rfl (lv_at hl 0 rfl) ?_
  refine va_new (ci := 2) (fs := [.null, .null, .null]) (C := "MeasuredStages$Blobs") (T := F_bl) (N := 3) hx hb hts (fun w h => List.mem_cons_of_mem _ (i_bl w h)) t_bl o_bl hown (hT _ tb_50) (hT _ tb_51) (hT _ tb_3) hK hP hD hS hA rfl (fun j hj => by rcases (show j = 0 ∨ j = 1 ∨ j = 2 by omega) with rfl | rfl | rfl <;> rfl) (Nat.le_of_ble_eq_true rfl) (Nat.le_of_ble_eq_true rfl) d_ms_init_40 (fun q40 H hP hD hS => ?_)
  have hP : va_P D cx [(h0, .inr (0, [.ref q7, .ref q15, .ref q23, .ref q29, .null, .null, .null, .int 0, .long 0, .int 0, .int 0, .int 0])), (q7, .inl (c7, 8, .inr (.inl (fun _ => 0)))), (q15, .inl (c15, 8, .inl (fun _ => 0))), (q23, .inl (c23, 8, .inr (.inl (fun _ => 0)))), (q29, .inr (1, [.ref q7rg, .ref q15rg, .ref q23rg, .int 0, .ref q31rg])), (q7rg, .inl (c7rg, 6, .inr (.inl (fun _ => 0)))), (q15rg, .inl (c15rg, 32, .inl (fun _ => 0))), (q23rg, .inl (c23rg, 32, .inr (.inl (fun _ => 0)))), (q31rg, .inl (c31rg, 6, .inr (.inl (fun _ => 0)))), (q40, .inr (2, [.null, .null, .null]))] H := hP
  have hD : va_D A [(h0, .inr (0, [.ref q7, .ref q15, .ref q23, .ref q29, .null, .null, .null, .int 0, .long 0, .int 0, .int 0, .int 0])), (q7, .inl (c7, 8, .inr (.inl (fun _ => 0)))), (q15, .inl (c15, 8, .inl (fun _ => 0))), (q23, .inl (c23, 8, .inr (.inl (fun _ => 0)))), (q29, .inr (1, [.ref q7rg, .ref q15rg, .ref q23rg, .int 0, .ref q31rg])), (q7rg, .inl (c7rg, 6, .inr (.inl (fun _ => 0)))), (q15rg, .inl (c15rg, 32, .inl (fun _ => 0))), (q23rg, .inl (c23rg, 32, .inr (.inl (fun _ => 0)))), (q31rg, .inl (c31rg, 6, .inr (.inl (fun _ => 0)))), (q40, .inr (2, [.null, .null, .null]))] := hD
  refine W.widen (k := 9) (n := 108) (by omega) (by omega) ?_
  refine lv_dup hx hb d_ms_init_43 rfl ?_
  have hPc := hP.sub (ws' := [(q40, .inr (2, [.null, .null, .null]))]) [9] rfl
  have hDc := hD.sub (ws' := [(q40, .inr (2, [.null, .null, .null]))]) [9] (by decide) rfl
  have hKc := hK.sub (tys' := []) [] rfl
  have hFc := va_free (wc := [(q40, .inr (2, [.null, .null, .null]))]) hD hS hA [9] rfl
  refine va_callv (va_runIN (As := []) (rest := [.ref q40, .ref h0]) ⟨hx, hb, hml, hown, hts⟩ (c_bl_init l D q40 H.size) ⟨va_cnB 0 hts (gi_C tb_54) rfl rfl rfl hN.2 (hT _ tb_3) hd_bl_init ⟨Nat.le_of_ble_eq_true rfl, Nat.le_of_ble_eq_true rfl⟩, rfl, hT _ tb_53⟩ ⟨fun a U g mk q => by obtain ⟨q0, q1, qP, qK, qD⟩ := q; exact ⟨q0, q1, qP, va_K.moved (u := U) (U := U.calling g mk a) (Vm.Alike.refl U.vm) qK, qD⟩, fun U hU hW => ⟨rfl, by rw [hU], by rw [hU]; exact hPc, va_K.moved hW.alike hKc, hDc.weaken (fun _ _ _ _ => trivial)⟩⟩ rfl rfl hl.1 rfl (lv_room (Nat.le_of_ble_eq_true rfl)) d_ms_init_44 ⟨Nat.le_of_ble_eq_true rfl, Nat.le_of_ble_eq_true rfl⟩) hS (fun q _ h => hFc q h) hFc (fun u9 t H1 locs ht hvm h9 hB hz1 hk1 hS => ?_)
  obtain ⟨q7bl, c7bl, q15bl, c15bl, q23bl, c23bl, hP1, hK1, hD1⟩ := hB
  rw [ht] at hP1
  have hK1 := va_K.moved hvm.symm hK1
  obtain ⟨hP, hD⟩ := va_join (wr := [(h0, .inr (0, [.ref q7, .ref q15, .ref q23, .ref q29, .null, .null, .null, .int 0, .long 0, .int 0, .int 0, .int 0])), (q7, .inl (c7, 8, .inr (.inl (fun _ => 0)))), (q15, .inl (c15, 8, .inl (fun _ => 0))), (q23, .inl (c23, 8, .inr (.inl (fun _ => 0)))), (q29, .inr (1, [.ref q7rg, .ref q15rg, .ref q23rg, .int 0, .ref q31rg])), (q7rg, .inl (c7rg, 6, .inr (.inl (fun _ => 0)))), (q15rg, .inl (c15rg, 32, .inl (fun _ => 0))), (q23rg, .inl (c23rg, 32, .inr (.inl (fun _ => 0)))), (q31rg, .inl (c31rg, 6, .inr (.inl (fun _ => 0))))]) (w1 := [(q40, .inr (2, [.ref q7bl, .ref q15bl, .ref q23bl])), (q7bl, .inl (c7bl, 8, .inl (fun _ => 0))), (q15bl, .inl (c15bl, 8, .inr (.inl (fun _ => 0)))), (q23bl, .inl (c23bl, 8, .inr (.inl (fun _ => 0))))]) hP hD [9] [0, 1, 2, 3, 4, 5, 6, 7, 8] rfl rfl (by decide) (by decide) hk1 hFc hP1 hD1
  have hK := hK.app hK1
  generalize H1 = H at hP hS ⊢
  have hP : va_P D cx [(h0, .inr (0, [.ref q7, .ref q15, .ref q23, .ref q29, .null, .null, .null, .int 0, .long 0, .int 0, .int 0, .int 0])), (q7, .inl (c7, 8, .inr (.inl (fun _ => 0)))), (q15, .inl (c15, 8, .inl (fun _ => 0))), (q23, .inl (c23, 8, .inr (.inl (fun _ => 0)))), (q29, .inr (1, [.ref q7rg, .ref q15rg, .ref q23rg, .int 0, .ref q31rg])), (q7rg, .inl (c7rg, 6, .inr (.inl (fun _ => 0)))), (q15rg, .inl (c15rg, 32, .inl (fun _ => 0))), (q23rg, .inl (c23rg, 32, .inr (.inl (fun _ => 0)))), (q31rg, .inl (c31rg, 6, .inr (.inl (fun _ => 0)))), (q40, .inr (2, [.ref q7bl, .ref q15bl, .ref q23bl])), (q7bl, .inl (c7bl, 8, .inl (fun _ => 0))), (q15bl, .inl (c15bl, 8, .inr (.inl (fun _ => 0)))), (q23bl, .inl (c23bl, 8, .inr (.inl (fun _ => 0))))] H := hP
  have hD : va_D A [(h0, .inr (0, [.ref q7, .ref q15, .ref q23, .ref q29, .null, .null, .null, .int 0, .long 0, .int 0, .int 0, .int 0])), (q7, .inl (c7, 8, .inr (.inl (fun _ => 0)))), (q15, .inl (c15, 8, .inl (fun _ => 0))), (q23, .inl (c23, 8, .inr (.inl (fun _ => 0)))), (q29, .inr (1, [.ref q7rg, .ref q15rg, .ref q23rg, .int 0, .ref q31rg])), (q7rg, .inl (c7rg, 6, .inr (.inl (fun _ => 0)))), (q15rg, .inl (c15rg, 32, .inl (fun _ => 0))), (q23rg, .inl (c23rg, 32, .inr (.inl (fun _ => 0)))), (q31rg, .inl (c31rg, 6, .inr (.inl (fun _ => 0)))), (q40, .inr (2, [.ref q7bl, .ref q15bl, .ref q23bl])), (q7bl, .inl (c7bl, 8, .inl (fun _ => 0))), (q15bl, .inl (c15bl, 8, .inr (.inl (fun _ => 0)))), (q23bl, .inl (c23bl, 8, .inr (.inl (fun _ => 0))))] := hD
  have hK : va_K D cx [(c7, .long), (c15, .boolean), (c23, .long), (c7rg, .long), (c15rg, .int), (c23rg, .long), (c31rg, .long), (c7bl, .int), (c15bl, .long), (c23bl, .long)] s := hK
  refine W.widen (k := 12) (n := 132) (by omega) (by omega) ?_
  refine va_putF (D := D) (ci := 0) (v := .ref q40) (ty := .object "MeasuredStages$Blobs") (C := "MeasuredStages") (T := F_ms) (N := 12) hx hb hts (fun w h => List.mem_cons_of_mem _ (i_ms w h)) t_ms o_ms n_ms hown hK hP hD hS 0 rfl rfl 4 (by decide) (hT _ tb_73) (fun _ h9 => h9) rfl hin rfl (by decide +kernel) rfl rfl (Nat.le_of_ble_eq_true rfl) d_ms_init_47 (fun H locs hP hD hS => ?_)
  have hP : va_P D cx [(h0, .inr (0, [.ref q7, .ref q15, .ref q23, .ref q29, .ref q40, .null, .null, .int 0, .long 0, .int 0, .int 0, .int 0])), (q7, .inl (c7, 8, .inr (.inl (fun _ => 0)))), (q15, .inl (c15, 8, .inl (fun _ => 0))), (q23, .inl (c23, 8, .inr (.inl (fun _ => 0)))), (q29, .inr (1, [.ref q7rg, .ref q15rg, .ref q23rg, .int 0, .ref q31rg])), (q7rg, .inl (c7rg, 6, .inr (.inl (fun _ => 0)))), (q15rg, .inl (c15rg, 32, .inl (fun _ => 0))), (q23rg, .inl (c23rg, 32, .inr (.inl (fun _ => 0)))), (q31rg, .inl (c31rg, 6, .inr (.inl (fun _ => 0)))), (q40, .inr (2, [.ref q7bl, .ref q15bl, .ref q23bl])), (q7bl, .inl (c7bl, 8, .inl (fun _ => 0))), (q15bl, .inl (c15bl, 8, .inr (.inl (fun _ => 0)))), (q23bl, .inl (c23bl, 8, .inr (.inl (fun _ => 0))))] H := hP
  have hD : va_D A [(h0, .inr (0, [.ref q7, .ref q15, .ref q23, .ref q29, .ref q40, .null, .null, .int 0, .long 0, .int 0, .int 0, .int 0])), (q7, .inl (c7, 8, .inr (.inl (fun _ => 0)))), (q15, .inl (c15, 8, .inl (fun _ => 0))), (q23, .inl (c23, 8, .inr (.inl (fun _ => 0)))), (q29, .inr (1, [.ref q7rg, .ref q15rg, .ref q23rg, .int 0, .ref q31rg])), (q7rg, .inl (c7rg, 6, .inr (.inl (fun _ => 0)))), (q15rg, .inl (c15rg, 32, .inl (fun _ => 0))), (q23rg, .inl (c23rg, 32, .inr (.inl (fun _ => 0)))), (q31rg, .inl (c31rg, 6, .inr (.inl (fun _ => 0)))), (q40, .inr (2, [.ref q7bl, .ref q15bl, .ref q23bl])), (q7bl, .inl (c7bl, 8, .inl (fun _ => 0))), (q15bl, .inl (c15bl, 8, .inr (.inl (fun _ => 0)))), (q23bl, .inl (c23bl, 8, .inr (.inl (fun _ => 0))))] := hD
  refine lv_aload_n hx hb d_ms_init_50 rfl (lv_at hl 0 rfl) ?_
  refine lv_bipush (v := 6) hx hb d_ms_init_51 (by decide) ?_
  refine va_newa (atype := .long) (ty := .long) (n := 6) (N' := 6) (a0 := (6, .inr (.inl (fun _ => 0)))) hx hb (hT _ tb_47) rfl hK hP hD hS hA (fun _ => rfl) (by decide) (by decide) (by decide) (Nat.le_of_ble_eq_true rfl) (Nat.le_of_ble_eq_true rfl) d_ms_init_53 (fun q53 c53 H hK hP hD hS => ?_)
  have hP : va_P D cx [(h0, .inr (0, [.ref q7, .ref q15, .ref q23, .ref q29, .ref q40, .null, .null, .int 0, .long 0, .int 0, .int 0, .int 0])), (q7, .inl (c7, 8, .inr (.inl (fun _ => 0)))), (q15, .inl (c15, 8, .inl (fun _ => 0))), (q23, .inl (c23, 8, .inr (.inl (fun _ => 0)))), (q29, .inr (1, [.ref q7rg, .ref q15rg, .ref q23rg, .int 0, .ref q31rg])), (q7rg, .inl (c7rg, 6, .inr (.inl (fun _ => 0)))), (q15rg, .inl (c15rg, 32, .inl (fun _ => 0))), (q23rg, .inl (c23rg, 32, .inr (.inl (fun _ => 0)))), (q31rg, .inl (c31rg, 6, .inr (.inl (fun _ => 0)))), (q40, .inr (2, [.ref q7bl, .ref q15bl, .ref q23bl])), (q7bl, .inl (c7bl, 8, .inl (fun _ => 0))), (q15bl, .inl (c15bl, 8, .inr (.inl (fun _ => 0)))), (q23bl, .inl (c23bl, 8, .inr (.inl (fun _ => 0)))), (q53, .inl (c53, 6, .inr (.inl (fun _ => 0))))] H := hP
  have hD : va_D A [(h0, .inr (0, [.ref q7, .ref q15, .ref q23, .ref q29, .ref q40, .null, .null, .int 0, .long 0, .int 0, .int 0, .int 0])), (q7, .inl (c7, 8, .inr (.inl (fun _ => 0)))), (q15, .inl (c15, 8, .inl (fun _ => 0))), (q23, .inl (c23, 8, .inr (.inl (fun _ => 0)))), (q29, .inr (1, [.ref q7rg, .ref q15rg, .ref q23rg, .int 0, .ref q31rg])), (q7rg, .inl (c7rg, 6, .inr (.inl (fun _ => 0)))), (q15rg, .inl (c15rg, 32, .inl (fun _ => 0))), (q23rg, .inl (c23rg, 32, .inr (.inl (fun _ => 0)))), (q31rg, .inl (c31rg, 6, .inr (.inl (fun _ => 0)))), (q40, .inr (2, [.ref q7bl, .ref q15bl, .ref q23bl])), (q7bl, .inl (c7bl, 8, .inl (fun _ => 0))), (q15bl, .inl (c15bl, 8, .inr (.inl (fun _ => 0)))), (q23bl, .inl (c23bl, 8, .inr (.inl (fun _ => 0)))), (q53, .inl (c53, 6, .inr (.inl (fun _ => 0))))] := hD
  have hK : va_K D cx [(c7, .long), (c15, .boolean), (c23, .long), (c7rg, .long), (c15rg, .int), (c23rg, .long), (c31rg, .long), (c7bl, .int), (c15bl, .long), (c23bl, .long), (c53, .long)] s := hK
  refine W.widen (k := 13) (n := 138) (by omega) (by omega) ?_
  refine va_putF (D := D) (ci := 0) (v := .ref q53) (ty := .array .long) (C := "MeasuredStages") (T := F_ms) (N := 12) hx hb hts (fun w h => List.mem_cons_of_mem _ (i_ms w h)) t_ms o_ms n_ms hown hK hP hD hS 0 rfl rfl 5 (by decide) (hT _ tb_74) (fun _ h9 => h9) rfl hin rfl (by decide +kernel) rfl rfl (Nat.le_of_ble_eq_true rfl) d_ms_init_55 (fun H locs hP hD hS => ?_)
  have hP : va_P D cx [(h0, .inr (0, [.ref q7, .ref q15, .ref q23, .ref q29, .ref q40, .ref q53, .null, .int 0, .long 0, .int 0, .int 0, .int 0])), (q7, .inl (c7, 8, .inr (.inl (fun _ => 0)))), (q15, .inl (c15, 8, .inl (fun _ => 0))), (q23, .inl (c23, 8, .inr (.inl (fun _ => 0)))), (q29, .inr (1, [.ref q7rg, .ref q15rg, .ref q23rg, .int 0, .ref q31rg])), (q7rg, .inl (c7rg, 6, .inr (.inl (fun _ => 0)))), (q15rg, .inl (c15rg, 32, .inl (fun _ => 0))), (q23rg, .inl (c23rg, 32, .inr (.inl (fun _ => 0)))), (q31rg, .inl (c31rg, 6, .inr (.inl (fun _ => 0)))), (q40, .inr (2, [.ref q7bl, .ref q15bl, .ref q23bl])), (q7bl, .inl (c7bl, 8, .inl (fun _ => 0))), (q15bl, .inl (c15bl, 8, .inr (.inl (fun _ => 0)))), (q23bl, .inl (c23bl, 8, .inr (.inl (fun _ => 0)))), (q53, .inl (c53, 6, .inr (.inl (fun _ => 0))))] H := hP
  have hD : va_D A [(h0, .inr (0, [.ref q7, .ref q15, .ref q23, .ref q29, .ref q40, .ref q53, .null, .int 0, .long 0, .int 0, .int 0, .int 0])), (q7, .inl (c7, 8, .inr (.inl (fun _ => 0)))), (q15, .inl (c15, 8, .inl (fun _ => 0))), (q23, .inl (c23, 8, .inr (.inl (fun _ => 0)))), (q29, .inr (1, [.ref q7rg, .ref q15rg, .ref q23rg, .int 0, .ref q31rg])), (q7rg, .inl (c7rg, 6, .inr (.inl (fun _ => 0)))), (q15rg, .inl (c15rg, 32, .inl (fun _ => 0))), (q23rg, .inl (c23rg, 32, .inr (.inl (fun _ => 0)))), (q31rg, .inl (c31rg, 6, .inr (.inl (fun _ => 0)))), (q40, .inr (2, [.ref q7bl, .ref q15bl, .ref q23bl])), (q7bl, .inl (c7bl, 8, .inl (fun _ => 0))), (q15bl, .inl (c15bl, 8, .inr (.inl (fun _ => 0)))), (q23bl, .inl (c23bl, 8, .inr (.inl (fun _ => 0)))), (q53, .inl (c53, 6, .inr (.inl (fun _ => 0))))] := hD
  refine lv_aload_n hx hb d_ms_init_58 rfl (lv_at hl 0 rfl) ?_
  refine lv_bipush (v := 6) hx hb d_ms_init_59 (by decide) ?_
  refine va_newa (atype := .int) (ty := .int) (n := 6) (N' := 6) (a0 := (6, .inl (fun _ => 0))) hx hb (hT _ tb_49) rfl hK hP hD hS hA (fun _ => rfl) (by decide) (by decide) (by decide) (Nat.le_of_ble_eq_true rfl) (Nat.le_of_ble_eq_true rfl) d_ms_init_61 (fun q61 c61 H hK hP hD hS => ?_)
  have hP : va_P D cx [(h0, .inr (0, [.ref q7, .ref q15, .ref q23, .ref q29, .ref q40, .ref q53, .null, .int 0, .long 0, .int 0, .int 0, .int 0])), (q7, .inl (c7, 8, .inr (.inl (fun _ => 0)))), (q15, .inl (c15, 8, .inl (fun _ => 0))), (q23, .inl (c23, 8, .inr (.inl (fun _ => 0)))), (q29, .inr (1, [.ref q7rg, .ref q15rg, .ref q23rg, .int 0, .ref q31rg])), (q7rg, .inl (c7rg, 6, .inr (.inl (fun _ => 0)))), (q15rg, .inl (c15rg, 32, .inl (fun _ => 0))), (q23rg, .inl (c23rg, 32, .inr (.inl (fun _ => 0)))), (q31rg, .inl (c31rg, 6, .inr (.inl (fun _ => 0)))), (q40, .inr (2, [.ref q7bl, .ref q15bl, .ref q23bl])), (q7bl, .inl (c7bl, 8, .inl (fun _ => 0))), (q15bl, .inl (c15bl, 8, .inr (.inl (fun _ => 0)))), (q23bl, .inl (c23bl, 8, .inr (.inl (fun _ => 0)))), (q53, .inl (c53, 6, .inr (.inl (fun _ => 0)))), (q61, .inl (c61, 6, .inl (fun _ => 0)))] H := hP
  have hD : va_D A [(h0, .inr (0, [.ref q7, .ref q15, .ref q23, .ref q29, .ref q40, .ref q53, .null, .int 0, .long 0, .int 0, .int 0, .int 0])), (q7, .inl (c7, 8, .inr (.inl (fun _ => 0)))), (q15, .inl (c15, 8, .inl (fun _ => 0))), (q23, .inl (c23, 8, .inr (.inl (fun _ => 0)))), (q29, .inr (1, [.ref q7rg, .ref q15rg, .ref q23rg, .int 0, .ref q31rg])), (q7rg, .inl (c7rg, 6, .inr (.inl (fun _ => 0)))), (q15rg, .inl (c15rg, 32, .inl (fun _ => 0))), (q23rg, .inl (c23rg, 32, .inr (.inl (fun _ => 0)))), (q31rg, .inl (c31rg, 6, .inr (.inl (fun _ => 0)))), (q40, .inr (2, [.ref q7bl, .ref q15bl, .ref q23bl])), (q7bl, .inl (c7bl, 8, .inl (fun _ => 0))), (q15bl, .inl (c15bl, 8, .inr (.inl (fun _ => 0)))), (q23bl, .inl (c23bl, 8, .inr (.inl (fun _ => 0)))), (q53, .inl (c53, 6, .inr (.inl (fun _ => 0)))), (q61, .inl (c61, 6, .inl (fun _ => 0)))] := hD
  have hK : va_K D cx [(c7, .long), (c15, .boolean), (c23, .long), (c7rg, .long), (c15rg, .int), (c23rg, .long), (c31rg, .long), (c7bl, .int), (c15bl, .long), (c23bl, .long), (c53, .long), (c61, .int)] s := hK
  refine W.widen (k := 14) (n := 144) (by omega) (by omega) ?_
  refine va_putF (D := D) (ci := 0) (v := .ref q61) (ty := .array .int) (C := "MeasuredStages") (T := F_ms) (N := 12) hx hb hts (fun w h => List.mem_cons_of_mem _ (i_ms w h)) t_ms o_ms n_ms hown hK hP hD hS 0 rfl rfl 6 (by decide) (hT _ tb_75) (fun _ h9 => h9) rfl hin rfl (by decide +kernel) rfl rfl (Nat.le_of_ble_eq_true rfl) d_ms_init_63 (fun H locs hP hD hS => ?_)
  have hP : va_P D cx [(h0, .inr (0, [.ref q7, .ref q15, .ref q23, .ref q29, .ref q40, .ref q53, .ref q61, .int 0, .long 0, .int 0, .int 0, .int 0])), (q7, .inl (c7, 8, .inr (.inl (fun _ => 0)))), (q15, .inl (c15, 8, .inl (fun _ => 0))), (q23, .inl (c23, 8, .inr (.inl (fun _ => 0)))), (q29, .inr (1, [.ref q7rg, .ref q15rg, .ref q23rg, .int 0, .ref q31rg])), (q7rg, .inl (c7rg, 6, .inr (.inl (fun _ => 0)))), (q15rg, .inl (c15rg, 32, .inl (fun _ => 0))), (q23rg, .inl (c23rg, 32, .inr (.inl (fun _ => 0)))), (q31rg, .inl (c31rg, 6, .inr (.inl (fun _ => 0)))), (q40, .inr (2, [.ref q7bl, .ref q15bl, .ref q23bl])), (q7bl, .inl (c7bl, 8, .inl (fun _ => 0))), (q15bl, .inl (c15bl, 8, .inr (.inl (fun _ => 0)))), (q23bl, .inl (c23bl, 8, .inr (.inl (fun _ => 0)))), (q53, .inl (c53, 6, .inr (.inl (fun _ => 0)))), (q61, .inl (c61, 6, .inl (fun _ => 0)))] H := hP
  have hD : va_D A [(h0, .inr (0, [.ref q7, .ref q15, .ref q23, .ref q29, .ref q40, .ref q53, .ref q61, .int 0, .long 0, .int 0, .int 0, .int 0])), (q7, .inl (c7, 8, .inr (.inl (fun _ => 0)))), (q15, .inl (c15, 8, .inl (fun _ => 0))), (q23, .inl (c23, 8, .inr (.inl (fun _ => 0)))), (q29, .inr (1, [.ref q7rg, .ref q15rg, .ref q23rg, .int 0, .ref q31rg])), (q7rg, .inl (c7rg, 6, .inr (.inl (fun _ => 0)))), (q15rg, .inl (c15rg, 32, .inl (fun _ => 0))), (q23rg, .inl (c23rg, 32, .inr (.inl (fun _ => 0)))), (q31rg, .inl (c31rg, 6, .inr (.inl (fun _ => 0)))), (q40, .inr (2, [.ref q7bl, .ref q15bl, .ref q23bl])), (q7bl, .inl (c7bl, 8, .inl (fun _ => 0))), (q15bl, .inl (c15bl, 8, .inr (.inl (fun _ => 0)))), (q23bl, .inl (c23bl, 8, .inr (.inl (fun _ => 0)))), (q53, .inl (c53, 6, .inr (.inl (fun _ => 0)))), (q61, .inl (c61, 6, .inl (fun _ => 0)))] := hD
  exact W.vret hx hb hret (fun t ht hW => ⟨⟨(), rfl, trivial, q7, c7, q15, c15, q23, c23, q29, q7rg, c7rg, q15rg, c15rg, q23rg, c23rg, q31rg, c31rg, q40, q7bl, c7bl, q15bl, c15bl, q23bl, c23bl, q53, c53, q61, c61, by rw [ht]; exact hP, va_K.moved hW.alike hK, hD⟩, hS.F ht⟩) hS.2.2 d_ms_init_66
