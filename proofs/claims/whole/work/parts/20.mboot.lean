theorem cm_run (u : Sg) : ((sg_im u, sg_ap u, sg_ag u, sp_z6 (sg_he u), sg_er u, sg_ev u, (0 : Int32), sg_ma u, sg_po u, sg_se u, (0 : Int64), (0 : Int32), (0 : Int32), (0 : Int32)) : Sg) = sp_cl u := rfl
theorem mb_la (u : Sg) (j j1 : Jm) (n : Int32) (e : j1 = sm_nx (sm_ru (sm_de j 0) (upd (jm_ru j) (0 : Int32).toNatClampNeg n)) (upd (jm_nx j) (0 : Int32).toNatClampNeg 0)) : mb ((fun v : Sg => ss_la v (sg_la v + 1)) (sp_no u 0 (sp_di u n))) j1 = sp_la (u, jm_de j, jm_ru j, jm_nx j) n 0 := by
  subst e
  rfl
theorem de_la (u : Sg) (j : Jm) (n : Int32) (j1 : Jm) (e : j1 = sm_nx (sm_ru (sm_de j 0) (upd (jm_ru j) (0 : Int32).toNatClampNeg n)) (upd (jm_nx j) (0 : Int32).toNatClampNeg 0)) (hn : vp_in n 8) : vp_in (jm_de j1) 6 ∧ ∀ k : Nat, k ≤ (jm_de j1).toNatClampNeg → vp_in (jm_ru j1 k) 8 := by
  subst e
  refine ⟨z_in6, fun k hk => ?_⟩
  have hk : k ≤ 0 := hk
  have hk : k = 0 := by omega
  subst hk
  exact hn
theorem lt200 {r : Nat} (h : r ≤ 101) : ¬ 200 ≤ nI r := by
  intro z
  exact absurd (nI_lt (a := r) (b := 200) (by omega) (by decide)) (Int32.not_lt.mpr z)
theorem mb_st (u : Sg) (j : Jm) (x : Int32) : mb (ss_st u x) j = (ss_st (mb u j).1 x, (mb u j).2) := rfl
theorem d_md_boot_0 : decode b_md_boot 0 = .ok (.aload_n 0, 1) := by decide +kernel
theorem d_md_boot_1 : decode b_md_boot 1 = .ok (.iload_n 1, 1) := by decide +kernel
theorem d_md_boot_2 : decode b_md_boot 2 = .ok (.ifCond .lt 9, 3) := by decide +kernel
theorem d_md_boot_5 : decode b_md_boot 5 = .ok (.iload_n 1, 1) := by decide +kernel
theorem d_md_boot_6 : decode b_md_boot 6 = .ok (.bipush 7, 2) := by decide +kernel
theorem d_md_boot_8 : decode b_md_boot 8 = .ok (.if_icmp .le 7, 3) := by decide +kernel
theorem d_md_boot_11 : decode b_md_boot 11 = .ok (.iconst 1, 1) := by decide +kernel
theorem d_md_boot_12 : decode b_md_boot 12 = .ok (.goto 4, 3) := by decide +kernel
theorem d_md_boot_15 : decode b_md_boot 15 = .ok (.iconst 0, 1) := by decide +kernel
theorem d_md_boot_16 : decode b_md_boot 16 = .ok (.putfield 48, 3) := by decide +kernel
theorem d_md_boot_19 : decode b_md_boot 19 = .ok (.aload_n 0, 1) := by decide +kernel
theorem d_md_boot_20 : decode b_md_boot 20 = .ok (.getfield 48, 3) := by decide +kernel
theorem d_md_boot_23 : decode b_md_boot 23 = .ok (.ifCond .eq 5, 3) := by decide +kernel
theorem d_md_boot_26 : decode b_md_boot 26 = .ok (.iconst 0, 1) := by decide +kernel
theorem d_md_boot_27 : decode b_md_boot 27 = .ok (.ireturn, 1) := by decide +kernel
theorem d_md_boot_28 : decode b_md_boot 28 = .ok (.iconst 0, 1) := by decide +kernel
theorem d_md_boot_29 : decode b_md_boot 29 = .ok (.istore_n 2, 1) := by decide +kernel
theorem d_md_boot_30 : decode b_md_boot 30 = .ok (.iload_n 2, 1) := by decide +kernel
theorem d_md_boot_31 : decode b_md_boot 31 = .ok (.bipush 6, 2) := by decide +kernel
theorem d_md_boot_33 : decode b_md_boot 33 = .ok (.if_icmp .ge 16, 3) := by decide +kernel
theorem d_md_boot_36 : decode b_md_boot 36 = .ok (.aload_n 0, 1) := by decide +kernel
theorem d_md_boot_37 : decode b_md_boot 37 = .ok (.getfield 7, 3) := by decide +kernel
theorem d_md_boot_40 : decode b_md_boot 40 = .ok (.iload_n 2, 1) := by decide +kernel
theorem d_md_boot_41 : decode b_md_boot 41 = .ok (.lconst 0, 1) := by decide +kernel
theorem d_md_boot_42 : decode b_md_boot 42 = .ok (.lastore, 1) := by decide +kernel
theorem d_md_boot_43 : decode b_md_boot 43 = .ok (.iinc 2 1, 3) := by decide +kernel
theorem d_md_boot_46 : decode b_md_boot 46 = .ok (.goto (-16), 3) := by decide +kernel
theorem d_md_boot_49 : decode b_md_boot 49 = .ok (.aload_n 0, 1) := by decide +kernel
theorem d_md_boot_50 : decode b_md_boot 50 = .ok (.lconst 0, 1) := by decide +kernel
theorem d_md_boot_51 : decode b_md_boot 51 = .ok (.putfield 88, 3) := by decide +kernel
theorem d_md_boot_54 : decode b_md_boot 54 = .ok (.aload_n 0, 1) := by decide +kernel
theorem d_md_boot_55 : decode b_md_boot 55 = .ok (.iconst 0, 1) := by decide +kernel
theorem d_md_boot_56 : decode b_md_boot 56 = .ok (.putfield 82, 3) := by decide +kernel
theorem d_md_boot_59 : decode b_md_boot 59 = .ok (.aload_n 0, 1) := by decide +kernel
theorem d_md_boot_60 : decode b_md_boot 60 = .ok (.iconst 0, 1) := by decide +kernel
theorem d_md_boot_61 : decode b_md_boot 61 = .ok (.putfield 92, 3) := by decide +kernel
theorem d_md_boot_64 : decode b_md_boot 64 = .ok (.aload_n 0, 1) := by decide +kernel
theorem d_md_boot_65 : decode b_md_boot 65 = .ok (.iconst 0, 1) := by decide +kernel
theorem d_md_boot_66 : decode b_md_boot 66 = .ok (.putfield 68, 3) := by decide +kernel
theorem d_md_boot_69 : decode b_md_boot 69 = .ok (.aload_n 0, 1) := by decide +kernel
theorem d_md_boot_70 : decode b_md_boot 70 = .ok (.iconst 0, 1) := by decide +kernel
theorem d_md_boot_71 : decode b_md_boot 71 = .ok (.putfield 95, 3) := by decide +kernel
theorem d_md_boot_74 : decode b_md_boot 74 = .ok (.aload_n 0, 1) := by decide +kernel
theorem d_md_boot_75 : decode b_md_boot 75 = .ok (.iload_n 1, 1) := by decide +kernel
theorem d_md_boot_76 : decode b_md_boot 76 = .ok (.iconst 0, 1) := by decide +kernel
theorem d_md_boot_77 : decode b_md_boot 77 = .ok (.invokevirtual 98, 3) := by decide +kernel
theorem d_md_boot_80 : decode b_md_boot 80 = .ok (.istore_n 2, 1) := by decide +kernel
theorem d_md_boot_81 : decode b_md_boot 81 = .ok (.iconst 0, 1) := by decide +kernel
theorem d_md_boot_82 : decode b_md_boot 82 = .ok (.istore_n 3, 1) := by decide +kernel
theorem d_md_boot_83 : decode b_md_boot 83 = .ok (.iload_n 3, 1) := by decide +kernel
theorem d_md_boot_84 : decode b_md_boot 84 = .ok (.sipush 200, 3) := by decide +kernel
theorem d_md_boot_87 : decode b_md_boot 87 = .ok (.if_icmp .ge 72, 3) := by decide +kernel
theorem d_md_boot_90 : decode b_md_boot 90 = .ok (.aload_n 0, 1) := by decide +kernel
theorem d_md_boot_91 : decode b_md_boot 91 = .ok (.getfield 85, 3) := by decide +kernel
theorem d_md_boot_94 : decode b_md_boot 94 = .ok (.ifCond .lt 65, 3) := by decide +kernel
theorem d_md_boot_97 : decode b_md_boot 97 = .ok (.aload_n 0, 1) := by decide +kernel
theorem d_md_boot_98 : decode b_md_boot 98 = .ok (.getfield 95, 3) := by decide +kernel
theorem d_md_boot_101 : decode b_md_boot 101 = .ok (.ifCond .ne 58, 3) := by decide +kernel
theorem d_md_boot_104 : decode b_md_boot 104 = .ok (.iload_n 2, 1) := by decide +kernel
theorem d_md_boot_105 : decode b_md_boot 105 = .ok (.ifCond .eq 54, 3) := by decide +kernel
theorem d_md_boot_108 : decode b_md_boot 108 = .ok (.aload_n 0, 1) := by decide +kernel
theorem d_md_boot_109 : decode b_md_boot 109 = .ok (.aload_n 0, 1) := by decide +kernel
theorem d_md_boot_110 : decode b_md_boot 110 = .ok (.getfield 92, 3) := by decide +kernel
theorem d_md_boot_113 : decode b_md_boot 113 = .ok (.bipush 100, 2) := by decide +kernel
theorem d_md_boot_115 : decode b_md_boot 115 = .ok (.if_icmp .ne 7, 3) := by decide +kernel
theorem d_md_boot_118 : decode b_md_boot 118 = .ok (.iconst 3, 1) := by decide +kernel
theorem d_md_boot_119 : decode b_md_boot 119 = .ok (.goto 7, 3) := by decide +kernel
theorem d_md_boot_122 : decode b_md_boot 122 = .ok (.aload_n 0, 1) := by decide +kernel
theorem d_md_boot_123 : decode b_md_boot 123 = .ok (.invokevirtual 102, 3) := by decide +kernel
theorem d_md_boot_126 : decode b_md_boot 126 = .ok (.putfield 95, 3) := by decide +kernel
theorem d_md_boot_129 : decode b_md_boot 129 = .ok (.aload_n 0, 1) := by decide +kernel
theorem d_md_boot_130 : decode b_md_boot 130 = .ok (.aload_n 0, 1) := by decide +kernel
theorem d_md_boot_131 : decode b_md_boot 131 = .ok (.getfield 95, 3) := by decide +kernel
theorem d_md_boot_134 : decode b_md_boot 134 = .ok (.ifCond .ne 12, 3) := by decide +kernel
theorem d_md_boot_137 : decode b_md_boot 137 = .ok (.aload_n 0, 1) := by decide +kernel
theorem d_md_boot_138 : decode b_md_boot 138 = .ok (.getfield 92, 3) := by decide +kernel
theorem d_md_boot_141 : decode b_md_boot 141 = .ok (.iconst 1, 1) := by decide +kernel
theorem d_md_boot_142 : decode b_md_boot 142 = .ok (.iadd, 1) := by decide +kernel
theorem d_md_boot_143 : decode b_md_boot 143 = .ok (.goto 7, 3) := by decide +kernel
theorem d_md_boot_146 : decode b_md_boot 146 = .ok (.aload_n 0, 1) := by decide +kernel
theorem d_md_boot_147 : decode b_md_boot 147 = .ok (.getfield 92, 3) := by decide +kernel
theorem d_md_boot_150 : decode b_md_boot 150 = .ok (.putfield 92, 3) := by decide +kernel
theorem d_md_boot_153 : decode b_md_boot 153 = .ok (.iinc 3 1, 3) := by decide +kernel
theorem d_md_boot_156 : decode b_md_boot 156 = .ok (.goto (-73), 3) := by decide +kernel
theorem d_md_boot_159 : decode b_md_boot 159 = .ok (.aload_n 0, 1) := by decide +kernel
theorem d_md_boot_160 : decode b_md_boot 160 = .ok (.aload_n 0, 1) := by decide +kernel
theorem d_md_boot_161 : decode b_md_boot 161 = .ok (.getfield 95, 3) := by decide +kernel
theorem d_md_boot_164 : decode b_md_boot 164 = .ok (.ifCond .eq 7, 3) := by decide +kernel
theorem d_md_boot_167 : decode b_md_boot 167 = .ok (.iconst 2, 1) := by decide +kernel
theorem d_md_boot_168 : decode b_md_boot 168 = .ok (.goto 4, 3) := by decide +kernel
theorem d_md_boot_171 : decode b_md_boot 171 = .ok (.iconst 0, 1) := by decide +kernel
theorem d_md_boot_172 : decode b_md_boot 172 = .ok (.putfield 48, 3) := by decide +kernel
theorem d_md_boot_175 : decode b_md_boot 175 = .ok (.aload_n 0, 1) := by decide +kernel
theorem d_md_boot_176 : decode b_md_boot 176 = .ok (.getfield 95, 3) := by decide +kernel
theorem d_md_boot_179 : decode b_md_boot 179 = .ok (.ifCond .eq 7, 3) := by decide +kernel
theorem d_md_boot_182 : decode b_md_boot 182 = .ok (.iconst 0, 1) := by decide +kernel
theorem d_md_boot_183 : decode b_md_boot 183 = .ok (.goto 7, 3) := by decide +kernel
theorem d_md_boot_186 : decode b_md_boot 186 = .ok (.aload_n 0, 1) := by decide +kernel
theorem d_md_boot_187 : decode b_md_boot 187 = .ok (.getfield 82, 3) := by decide +kernel
theorem d_md_boot_190 : decode b_md_boot 190 = .ok (.ireturn, 1) := by decide +kernel
set_option maxHeartbeats 4000000 in
set_option maxRecDepth 100000 in
theorem k_md_boot (l : Launch) (D : va_G) (cs : Nat → ClassId) (ad : Nat → Nat) (sz : Nat) (u : Sg) (j : Jm) (n : Int32) (hok : sp_ok u) (hn : vp_in n 8) (hf : sg_fa (sp_bo u n) = 0) : Met l y_md_boot (Cond.code y_md_boot b_md_boot 4 (some .int) :: TB) { frames := 6, cells := 0, slots := 0, locals := 170 } (va_Pc [.ref (ad 0), .int n] (mw_Pre D cs ad u j sz)) (va_Qi (fun (r : Int32) (j1 : Jm) => r = sg_la (sp_bo u n) ∧ jm_th j1 = 0) (fun (j1 : Jm) t => mw_B D cs ad (va_A (mw ad cs u j) sz) (sp_bo u n) j1 t) (va_A (mw ad cs u j) sz)) 0 0 (va_A (mw ad cs u j) sz) := by
  refine Met.ofW (cc := b_md_boot) (maxL := 4) (ret := (some .int)) (by decide) rfl ?_
  intro p e s m args below meth c s₁ B hml hv
  obtain ⟨rfl, hsz, hP, hK, hD, hN⟩ := hv
  have hx := B.exec
  have hb := B.bytes
  have hret := B.returns
  have hts := atoms_spec (ws := Cond.code y_md_boot b_md_boot 4 (some .int) :: TB) B.pre
  have hT : ∀ w ∈ TB, w.before _ s = true := fun w h => hts w (List.mem_cons_of_mem _ h)
  have hown : s.vm.findClass "MeasuredStagesModel" = some m.cls := findClass_of_methodNamed B.named
  have hlocks := B.notSynchronized
  subst hsz
  have hD := hD.self (sz := s.heap.size)
  generalize hAe : va_A (mw ad cs u j) s.heap.size = A at hD ⊢
  have hA : ∀ q : Nat, s.heap.size ≤ q → A q := fun q h => by rw [← hAe]; exact Or.inr h
  have hS : va_S A s.heap s.heap [] := va_S.rf
  have hl := lv_entry ([.ref (ad 0), .int n]) (n := 4) (Nat.le_of_ble_eq_true rfl)
  rw [lg_entry_eq]
  generalize (lg_sl ([.ref (ad 0), .int n]) ++ List.replicate (4 - (lg_sl ([.ref (ad 0), .int n])).length) Slot.unset).toArray = ls at hl ⊢
  have hl : lv_has ls 4 [(0, .ref (ad 0)), (1, .int n)] := hl
  skip
  refine lv_aload_n hx hb d_md_boot_0 rfl (lv_at hl 0 rfl) ?_
  refine lv_iload_n hx hb d_md_boot_1 rfl (lv_at hl 1 rfl) ?_
  refine lv_if_lt hx hb d_md_boot_2 (tgt := 11) (by decide) (fun z => absurd z (xn_ge hn)) (fun _ => ?_)
  refine lv_iload_n hx hb d_md_boot_5 rfl (lv_at hl 1 rfl) ?_
  refine lv_bipush (v := 7) hx hb d_md_boot_6 (by decide) ?_
  refine lv_icmp_le hx hb d_md_boot_8 (tgt := 15) (by decide) (fun _ => ?_) (fun z => absurd (le7 hn) z)
  refine lv_iconst (v := 0) hx hb d_md_boot_15 (by decide) ?_
  refine va_put (D := D) (ci := 3) (v := .int (0)) (ty := .int) (C := "MeasuredStagesModel") (T := F_md) (N := 19) hx hb hts (fun w h => List.mem_cons_of_mem _ (i_md w h)) t_md o_md n_md hown hK hP hD hS 0 rfl rfl 18 (by decide) (hT _ tb_477) (fun _ h9 => h9) rfl (by decide +kernel) rfl rfl (Nat.le_of_ble_eq_true rfl) d_md_boot_16 (fun H locs hP hD hS => ?_)
  have hP : va_P D cx (mv ad cs (sg_im u) (sg_ap u) (sg_ag u) (sg_he u) (sg_er u) (sg_ev u) (sg_en u) (sg_ma u) (sg_po u) (sg_se u) (sg_ac u) (sg_fa u) (sg_la u) (sg_st u) (jm_ag j) (jm_de j) (jm_ru j) (jm_nx j) (0)) H := hP
  have hD : va_D A (mv ad cs (sg_im u) (sg_ap u) (sg_ag u) (sg_he u) (sg_er u) (sg_ev u) (sg_en u) (sg_ma u) (sg_po u) (sg_se u) (sg_ac u) (sg_fa u) (sg_la u) (sg_st u) (jm_ag j) (jm_de j) (jm_ru j) (jm_nx j) (0)) := hD
  refine lv_aload_n hx hb d_md_boot_19 rfl (lv_at hl 0 rfl) ?_
  refine va_get (D := D) (ci := 3) (v := .int (0)) (C := "MeasuredStagesModel") (T := F_md) (N := 19) hx hb hts (fun w h => List.mem_cons_of_mem _ (i_md w h)) hown hK hP 0 rfl rfl 18 (by decide) (hT _ tb_477) (fun _ h9 => h9) rfl d_md_boot_20 ?_
  refine lv_if_eq hx hb d_md_boot_23 (tgt := 28) (by decide) (fun _ => ?_) (fun z => absurd (by decide) z)
  refine lv_iconst (v := 0) hx hb d_md_boot_28 (by decide) ?_
  refine lv_istore_n (nL := 4) (lv' := [(2, .int (0)), (0, .ref (ad 0)), (1, .int n)]) hx hb d_md_boot_29 rfl hl (by decide) rfl (fun ls hl => ?_)
  refine lv_iload_n hx hb d_md_boot_30 rfl (lv_at hl 0 rfl) ?_
  refine lv_bipush (v := 6) hx hb d_md_boot_31 (by decide) ?_
  refine lv_icmp_ge hx hb d_md_boot_33 (tgt := 49) (by decide) (fun z => absurd z (by decide)) (fun _ => ?_)
  refine lv_aload_n hx hb d_md_boot_36 rfl (lv_at hl 1 rfl) ?_
  refine va_get (D := D) (ci := 3) (v := .ref (ad 1)) (C := "MeasuredStagesModel") (T := F_md) (N := 19) hx hb hts (fun w h => List.mem_cons_of_mem _ (i_md w h)) hown hK hP 0 rfl rfl 0 (by decide) (hT _ tb_459) (fun _ h9 => h9) rfl d_md_boot_37 ?_
  refine lv_iload_n hx hb d_md_boot_40 rfl (lv_at hl 0 rfl) ?_
  refine lv_lconst (v := 0) hx hb d_md_boot_41 (by decide) ?_
  refine va_last hx hb hK hP hD hS 1 0 rfl rfl (by unfold vp_in; decide) d_md_boot_42 (fun H locs hP hD hS => ?_)
  have hP : va_P D cx (mv ad cs (sg_im u) (sg_ap u) (sg_ag u) (vp_updL (sg_he u) (0 : Int32).toNatClampNeg (0)) (sg_er u) (sg_ev u) (sg_en u) (sg_ma u) (sg_po u) (sg_se u) (sg_ac u) (sg_fa u) (sg_la u) (sg_st u) (jm_ag j) (jm_de j) (jm_ru j) (jm_nx j) (0)) H := hP
  have hD : va_D A (mv ad cs (sg_im u) (sg_ap u) (sg_ag u) (vp_updL (sg_he u) (0 : Int32).toNatClampNeg (0)) (sg_er u) (sg_ev u) (sg_en u) (sg_ma u) (sg_po u) (sg_se u) (sg_ac u) (sg_fa u) (sg_la u) (sg_st u) (jm_ag j) (jm_de j) (jm_ru j) (jm_nx j) (0)) := hD
  refine lv_iinc (nL := 4) (k := 0) (v := 1) (lv' := [(2, .int (1)), (0, .ref (ad 0)), (1, .int n)]) hx hb d_md_boot_43 hl rfl (by decide) (by decide) rfl (fun ls hl => ?_)
  refine lv_goto hx hb d_md_boot_46 (tgt := 30) (by decide) ?_
  refine lv_iload_n hx hb d_md_boot_30 rfl (lv_at hl 0 rfl) ?_
  refine lv_bipush (v := 6) hx hb d_md_boot_31 (by decide) ?_
  refine lv_icmp_ge hx hb d_md_boot_33 (tgt := 49) (by decide) (fun z => absurd z (by decide)) (fun _ => ?_)
  refine lv_aload_n hx hb d_md_boot_36 rfl (lv_at hl 1 rfl) ?_
  refine va_get (D := D) (ci := 3) (v := .ref (ad 1)) (C := "MeasuredStagesModel") (T := F_md) (N := 19) hx hb hts (fun w h => List.mem_cons_of_mem _ (i_md w h)) hown hK hP 0 rfl rfl 0 (by decide) (hT _ tb_459) (fun _ h9 => h9) rfl d_md_boot_37 ?_
  refine lv_iload_n hx hb d_md_boot_40 rfl (lv_at hl 0 rfl) ?_
  refine lv_lconst (v := 0) hx hb d_md_boot_41 (by decide) ?_
  refine va_last hx hb hK hP hD hS 1 0 rfl rfl (by unfold vp_in; decide) d_md_boot_42 (fun H locs hP hD hS => ?_)
  have hP : va_P D cx (mv ad cs (sg_im u) (sg_ap u) (sg_ag u) (vp_updL (vp_updL (sg_he u) (0 : Int32).toNatClampNeg (0)) (1 : Int32).toNatClampNeg (0)) (sg_er u) (sg_ev u) (sg_en u) (sg_ma u) (sg_po u) (sg_se u) (sg_ac u) (sg_fa u) (sg_la u) (sg_st u) (jm_ag j) (jm_de j) (jm_ru j) (jm_nx j) (0)) H := hP
  have hD : va_D A (mv ad cs (sg_im u) (sg_ap u) (sg_ag u) (vp_updL (vp_updL (sg_he u) (0 : Int32).toNatClampNeg (0)) (1 : Int32).toNatClampNeg (0)) (sg_er u) (sg_ev u) (sg_en u) (sg_ma u) (sg_po u) (sg_se u) (sg_ac u) (sg_fa u) (sg_la u) (sg_st u) (jm_ag j) (jm_de j) (jm_ru j) (jm_nx j) (0)) := hD
  refine lv_iinc (nL := 4) (k := 0) (v := 2) (lv' := [(2, .int (2)), (0, .ref (ad 0)), (1, .int n)]) hx hb d_md_boot_43 hl rfl (by decide) (by decide) rfl (fun ls hl => ?_)
  refine lv_goto hx hb d_md_boot_46 (tgt := 30) (by decide) ?_
  refine lv_iload_n hx hb d_md_boot_30 rfl (lv_at hl 0 rfl) ?_
  refine lv_bipush (v := 6) hx hb d_md_boot_31 (by decide) ?_
  refine lv_icmp_ge hx hb d_md_boot_33 (tgt := 49) (by decide) (fun z => absurd z (by decide)) (fun _ => ?_)
  refine lv_aload_n hx hb d_md_boot_36 rfl (lv_at hl 1 rfl) ?_
  refine va_get (D := D) (ci := 3) (v := .ref (ad 1)) (C := "MeasuredStagesModel") (T := F_md) (N := 19) hx hb hts (fun w h => List.mem_cons_of_mem _ (i_md w h)) hown hK hP 0 rfl rfl 0 (by decide) (hT _ tb_459) (fun _ h9 => h9) rfl d_md_boot_37 ?_
  refine lv_iload_n hx hb d_md_boot_40 rfl (lv_at hl 0 rfl) ?_
  refine lv_lconst (v := 0) hx hb d_md_boot_41 (by decide) ?_
  refine va_last hx hb hK hP hD hS 1 0 rfl rfl (by unfold vp_in; decide) d_md_boot_42 (fun H locs hP hD hS => ?_)
  have hP : va_P D cx (mv ad cs (sg_im u) (sg_ap u) (sg_ag u) (vp_updL (vp_updL (vp_updL (sg_he u) (0 : Int32).toNatClampNeg (0)) (1 : Int32).toNatClampNeg (0)) (2 : Int32).toNatClampNeg (0)) (sg_er u) (sg_ev u) (sg_en u) (sg_ma u) (sg_po u) (sg_se u) (sg_ac u) (sg_fa u) (sg_la u) (sg_st u) (jm_ag j) (jm_de j) (jm_ru j) (jm_nx j) (0)) H := hP
  have hD : va_D A (mv ad cs (sg_im u) (sg_ap u) (sg_ag u) (vp_updL (vp_updL (vp_updL (sg_he u) (0 : Int32).toNatClampNeg (0)) (1 : Int32).toNatClampNeg (0)) (2 : Int32).toNatClampNeg (0)) (sg_er u) (sg_ev u) (sg_en u) (sg_ma u) (sg_po u) (sg_se u) (sg_ac u) (sg_fa u) (sg_la u) (sg_st u) (jm_ag j) (jm_de j) (jm_ru j) (jm_nx j) (0)) := hD
  refine lv_iinc (nL := 4) (k := 0) (v := 3) (lv' := [(2, .int (3)), (0, .ref (ad 0)), (1, .int n)]) hx hb d_md_boot_43 hl rfl (by decide) (by decide) rfl (fun ls hl => ?_)
  refine lv_goto hx hb d_md_boot_46 (tgt := 30) (by decide) ?_
  refine lv_iload_n hx hb d_md_boot_30 rfl (lv_at hl 0 rfl) ?_
  refine lv_bipush (v := 6) hx hb d_md_boot_31 (by decide) ?_
  refine lv_icmp_ge hx hb d_md_boot_33 (tgt := 49) (by decide) (fun z => absurd z (by decide)) (fun _ => ?_)
  refine lv_aload_n hx hb d_md_boot_36 rfl (lv_at hl 1 rfl) ?_
  refine va_get (D := D) (ci := 3) (v := .ref (ad 1)) (C := "MeasuredStagesModel") (T := F_md) (N := 19) hx hb hts (fun w h => List.mem_cons_of_mem _ (i_md w h)) hown hK hP 0 rfl rfl 0 (by decide) (hT _ tb_459) (fun _ h9 => h9) rfl d_md_boot_37 ?_
  refine lv_iload_n hx hb d_md_boot_40 rfl (lv_at hl 0 rfl) ?_
  refine lv_lconst (v := 0) hx hb d_md_boot_41 (by decide) ?_
  refine va_last hx hb hK hP hD hS 1 0 rfl rfl (by unfold vp_in; decide) d_md_boot_42 (fun H locs hP hD hS => ?_)
  have hP : va_P D cx (mv ad cs (sg_im u) (sg_ap u) (sg_ag u) (vp_updL (vp_updL (vp_updL (vp_updL (sg_he u) (0 : Int32).toNatClampNeg (0)) (1 : Int32).toNatClampNeg (0)) (2 : Int32).toNatClampNeg (0)) (3 : Int32).toNatClampNeg (0)) (sg_er u) (sg_ev u) (sg_en u) (sg_ma u) (sg_po u) (sg_se u) (sg_ac u) (sg_fa u) (sg_la u) (sg_st u) (jm_ag j) (jm_de j) (jm_ru j) (jm_nx j) (0)) H := hP
  have hD : va_D A (mv ad cs (sg_im u) (sg_ap u) (sg_ag u) (vp_updL (vp_updL (vp_updL (vp_updL (sg_he u) (0 : Int32).toNatClampNeg (0)) (1 : Int32).toNatClampNeg (0)) (2 : Int32).toNatClampNeg (0)) (3 : Int32).toNatClampNeg (0)) (sg_er u) (sg_ev u) (sg_en u) (sg_ma u) (sg_po u) (sg_se u) (sg_ac u) (sg_fa u) (sg_la u) (sg_st u) (jm_ag j) (jm_de j) (jm_ru j) (jm_nx j) (0)) := hD
  refine lv_iinc (nL := 4) (k := 0) (v := 4) (lv' := [(2, .int (4)), (0, .ref (ad 0)), (1, .int n)]) hx hb d_md_boot_43 hl rfl (by decide) (by decide) rfl (fun ls hl => ?_)
  refine lv_goto hx hb d_md_boot_46 (tgt := 30) (by decide) ?_
  refine lv_iload_n hx hb d_md_boot_30 rfl (lv_at hl 0 rfl) ?_
  refine lv_bipush (v := 6) hx hb d_md_boot_31 (by decide) ?_
  refine lv_icmp_ge hx hb d_md_boot_33 (tgt := 49) (by decide) (fun z => absurd z (by decide)) (fun _ => ?_)
  refine lv_aload_n hx hb d_md_boot_36 rfl (lv_at hl 1 rfl) ?_
  refine va_get (D := D) (ci := 3) (v := .ref (ad 1)) (C := "MeasuredStagesModel") (T := F_md) (N := 19) hx hb hts (fun w h => List.mem_cons_of_mem _ (i_md w h)) hown hK hP 0 rfl rfl 0 (by decide) (hT _ tb_459) (fun _ h9 => h9) rfl d_md_boot_37 ?_
  refine lv_iload_n hx hb d_md_boot_40 rfl (lv_at hl 0 rfl) ?_
  refine lv_lconst (v := 0) hx hb d_md_boot_41 (by decide) ?_
  refine va_last hx hb hK hP hD hS 1 0 rfl rfl (by unfold vp_in; decide) d_md_boot_42 (fun H locs hP hD hS => ?_)
  have hP : va_P D cx (mv ad cs (sg_im u) (sg_ap u) (sg_ag u) (vp_updL (vp_updL (vp_updL (vp_updL (vp_updL (sg_he u) (0 : Int32).toNatClampNeg (0)) (1 : Int32).toNatClampNeg (0)) (2 : Int32).toNatClampNeg (0)) (3 : Int32).toNatClampNeg (0)) (4 : Int32).toNatClampNeg (0)) (sg_er u) (sg_ev u) (sg_en u) (sg_ma u) (sg_po u) (sg_se u) (sg_ac u) (sg_fa u) (sg_la u) (sg_st u) (jm_ag j) (jm_de j) (jm_ru j) (jm_nx j) (0)) H := hP
  have hD : va_D A (mv ad cs (sg_im u) (sg_ap u) (sg_ag u) (vp_updL (vp_updL (vp_updL (vp_updL (vp_updL (sg_he u) (0 : Int32).toNatClampNeg (0)) (1 : Int32).toNatClampNeg (0)) (2 : Int32).toNatClampNeg (0)) (3 : Int32).toNatClampNeg (0)) (4 : Int32).toNatClampNeg (0)) (sg_er u) (sg_ev u) (sg_en u) (sg_ma u) (sg_po u) (sg_se u) (sg_ac u) (sg_fa u) (sg_la u) (sg_st u) (jm_ag j) (jm_de j) (jm_ru j) (jm_nx j) (0)) := hD
  refine lv_iinc (nL := 4) (k := 0) (v := 5) (lv' := [(2, .int (5)), (0, .ref (ad 0)), (1, .int n)]) hx hb d_md_boot_43 hl rfl (by decide) (by decide) rfl (fun ls hl => ?_)
  refine lv_goto hx hb d_md_boot_46 (tgt := 30) (by decide) ?_
  refine lv_iload_n hx hb d_md_boot_30 rfl (lv_at hl 0 rfl) ?_
  refine lv_bipush (v := 6) hx hb d_md_boot_31 (by decide) ?_
  refine lv_icmp_ge hx hb d_md_boot_33 (tgt := 49) (by decide) (fun z => absurd z (by decide)) (fun _ => ?_)
  refine lv_aload_n hx hb d_md_boot_36 rfl (lv_at hl 1 rfl) ?_
  refine va_get (D := D) (ci := 3) (v := .ref (ad 1)) (C := "MeasuredStagesModel") (T := F_md) (N := 19) hx hb hts (fun w h => List.mem_cons_of_mem _ (i_md w h)) hown hK hP 0 rfl rfl 0 (by decide) (hT _ tb_459) (fun _ h9 => h9) rfl d_md_boot_37 ?_
  refine lv_iload_n hx hb d_md_boot_40 rfl (lv_at hl 0 rfl) ?_
  refine lv_lconst (v := 0) hx hb d_md_boot_41 (by decide) ?_
  refine va_last hx hb hK hP hD hS 1 0 rfl rfl (by unfold vp_in; decide) d_md_boot_42 (fun H locs hP hD hS => ?_)
  have hP : va_P D cx (mv ad cs (sg_im u) (sg_ap u) (sg_ag u) (vp_updL (vp_updL (vp_updL (vp_updL (vp_updL (vp_updL (sg_he u) (0 : Int32).toNatClampNeg (0)) (1 : Int32).toNatClampNeg (0)) (2 : Int32).toNatClampNeg (0)) (3 : Int32).toNatClampNeg (0)) (4 : Int32).toNatClampNeg (0)) (5 : Int32).toNatClampNeg (0)) (sg_er u) (sg_ev u) (sg_en u) (sg_ma u) (sg_po u) (sg_se u) (sg_ac u) (sg_fa u) (sg_la u) (sg_st u) (jm_ag j) (jm_de j) (jm_ru j) (jm_nx j) (0)) H := hP
  have hD : va_D A (mv ad cs (sg_im u) (sg_ap u) (sg_ag u) (vp_updL (vp_updL (vp_updL (vp_updL (vp_updL (vp_updL (sg_he u) (0 : Int32).toNatClampNeg (0)) (1 : Int32).toNatClampNeg (0)) (2 : Int32).toNatClampNeg (0)) (3 : Int32).toNatClampNeg (0)) (4 : Int32).toNatClampNeg (0)) (5 : Int32).toNatClampNeg (0)) (sg_er u) (sg_ev u) (sg_en u) (sg_ma u) (sg_po u) (sg_se u) (sg_ac u) (sg_fa u) (sg_la u) (sg_st u) (jm_ag j) (jm_de j) (jm_ru j) (jm_nx j) (0)) := hD
  refine lv_iinc (nL := 4) (k := 0) (v := 6) (lv' := [(2, .int (6)), (0, .ref (ad 0)), (1, .int n)]) hx hb d_md_boot_43 hl rfl (by decide) (by decide) rfl (fun ls hl => ?_)
  refine lv_goto hx hb d_md_boot_46 (tgt := 30) (by decide) ?_
  refine lv_iload_n hx hb d_md_boot_30 rfl (lv_at hl 0 rfl) ?_
  refine lv_bipush (v := 6) hx hb d_md_boot_31 (by decide) ?_
  refine lv_icmp_ge hx hb d_md_boot_33 (tgt := 49) (by decide) (fun _ => ?_) (fun z => absurd (by decide) z)
  refine lv_aload_n hx hb d_md_boot_49 rfl (lv_at hl 1 rfl) ?_
  refine lv_lconst (v := 0) hx hb d_md_boot_50 (by decide) ?_
  refine va_put (D := D) (ci := 3) (v := .long (0)) (ty := .long) (C := "MeasuredStagesModel") (T := F_md) (N := 19) hx hb hts (fun w h => List.mem_cons_of_mem _ (i_md w h)) t_md o_md n_md hown hK hP hD hS 0 rfl rfl 11 (by decide) (hT _ tb_470) (fun _ h9 => h9) rfl (by decide +kernel) rfl rfl (Nat.le_of_ble_eq_true rfl) d_md_boot_51 (fun H locs hP hD hS => ?_)
  have hP : va_P D cx (mv ad cs (sg_im u) (sg_ap u) (sg_ag u) (vp_updL (vp_updL (vp_updL (vp_updL (vp_updL (vp_updL (sg_he u) (0 : Int32).toNatClampNeg (0)) (1 : Int32).toNatClampNeg (0)) (2 : Int32).toNatClampNeg (0)) (3 : Int32).toNatClampNeg (0)) (4 : Int32).toNatClampNeg (0)) (5 : Int32).toNatClampNeg (0)) (sg_er u) (sg_ev u) (sg_en u) (sg_ma u) (sg_po u) (sg_se u) (0) (sg_fa u) (sg_la u) (sg_st u) (jm_ag j) (jm_de j) (jm_ru j) (jm_nx j) (0)) H := hP
  have hD : va_D A (mv ad cs (sg_im u) (sg_ap u) (sg_ag u) (vp_updL (vp_updL (vp_updL (vp_updL (vp_updL (vp_updL (sg_he u) (0 : Int32).toNatClampNeg (0)) (1 : Int32).toNatClampNeg (0)) (2 : Int32).toNatClampNeg (0)) (3 : Int32).toNatClampNeg (0)) (4 : Int32).toNatClampNeg (0)) (5 : Int32).toNatClampNeg (0)) (sg_er u) (sg_ev u) (sg_en u) (sg_ma u) (sg_po u) (sg_se u) (0) (sg_fa u) (sg_la u) (sg_st u) (jm_ag j) (jm_de j) (jm_ru j) (jm_nx j) (0)) := hD
  refine lv_aload_n hx hb d_md_boot_54 rfl (lv_at hl 1 rfl) ?_
  refine lv_iconst (v := 0) hx hb d_md_boot_55 (by decide) ?_
  refine va_put (D := D) (ci := 3) (v := .int (0)) (ty := .int) (C := "MeasuredStagesModel") (T := F_md) (N := 19) hx hb hts (fun w h => List.mem_cons_of_mem _ (i_md w h)) t_md o_md n_md hown hK hP hD hS 0 rfl rfl 12 (by decide) (hT _ tb_471) (fun _ h9 => h9) rfl (by decide +kernel) rfl rfl (Nat.le_of_ble_eq_true rfl) d_md_boot_56 (fun H locs hP hD hS => ?_)
  have hP : va_P D cx (mv ad cs (sg_im u) (sg_ap u) (sg_ag u) (vp_updL (vp_updL (vp_updL (vp_updL (vp_updL (vp_updL (sg_he u) (0 : Int32).toNatClampNeg (0)) (1 : Int32).toNatClampNeg (0)) (2 : Int32).toNatClampNeg (0)) (3 : Int32).toNatClampNeg (0)) (4 : Int32).toNatClampNeg (0)) (5 : Int32).toNatClampNeg (0)) (sg_er u) (sg_ev u) (sg_en u) (sg_ma u) (sg_po u) (sg_se u) (0) (sg_fa u) (0) (sg_st u) (jm_ag j) (jm_de j) (jm_ru j) (jm_nx j) (0)) H := hP
  have hD : va_D A (mv ad cs (sg_im u) (sg_ap u) (sg_ag u) (vp_updL (vp_updL (vp_updL (vp_updL (vp_updL (vp_updL (sg_he u) (0 : Int32).toNatClampNeg (0)) (1 : Int32).toNatClampNeg (0)) (2 : Int32).toNatClampNeg (0)) (3 : Int32).toNatClampNeg (0)) (4 : Int32).toNatClampNeg (0)) (5 : Int32).toNatClampNeg (0)) (sg_er u) (sg_ev u) (sg_en u) (sg_ma u) (sg_po u) (sg_se u) (0) (sg_fa u) (0) (sg_st u) (jm_ag j) (jm_de j) (jm_ru j) (jm_nx j) (0)) := hD
  refine lv_aload_n hx hb d_md_boot_59 rfl (lv_at hl 1 rfl) ?_
  refine lv_iconst (v := 0) hx hb d_md_boot_60 (by decide) ?_
  refine va_put (D := D) (ci := 3) (v := .int (0)) (ty := .int) (C := "MeasuredStagesModel") (T := F_md) (N := 19) hx hb hts (fun w h => List.mem_cons_of_mem _ (i_md w h)) t_md o_md n_md hown hK hP hD hS 0 rfl rfl 13 (by decide) (hT _ tb_472) (fun _ h9 => h9) rfl (by decide +kernel) rfl rfl (Nat.le_of_ble_eq_true rfl) d_md_boot_61 (fun H locs hP hD hS => ?_)
  have hP : va_P D cx (mv ad cs (sg_im u) (sg_ap u) (sg_ag u) (vp_updL (vp_updL (vp_updL (vp_updL (vp_updL (vp_updL (sg_he u) (0 : Int32).toNatClampNeg (0)) (1 : Int32).toNatClampNeg (0)) (2 : Int32).toNatClampNeg (0)) (3 : Int32).toNatClampNeg (0)) (4 : Int32).toNatClampNeg (0)) (5 : Int32).toNatClampNeg (0)) (sg_er u) (sg_ev u) (sg_en u) (sg_ma u) (sg_po u) (sg_se u) (0) (sg_fa u) (0) (0) (jm_ag j) (jm_de j) (jm_ru j) (jm_nx j) (0)) H := hP
  have hD : va_D A (mv ad cs (sg_im u) (sg_ap u) (sg_ag u) (vp_updL (vp_updL (vp_updL (vp_updL (vp_updL (vp_updL (sg_he u) (0 : Int32).toNatClampNeg (0)) (1 : Int32).toNatClampNeg (0)) (2 : Int32).toNatClampNeg (0)) (3 : Int32).toNatClampNeg (0)) (4 : Int32).toNatClampNeg (0)) (5 : Int32).toNatClampNeg (0)) (sg_er u) (sg_ev u) (sg_en u) (sg_ma u) (sg_po u) (sg_se u) (0) (sg_fa u) (0) (0) (jm_ag j) (jm_de j) (jm_ru j) (jm_nx j) (0)) := hD
  refine lv_aload_n hx hb d_md_boot_64 rfl (lv_at hl 1 rfl) ?_
  refine lv_iconst (v := 0) hx hb d_md_boot_65 (by decide) ?_
  refine va_put (D := D) (ci := 3) (v := .int (0)) (ty := .int) (C := "MeasuredStagesModel") (T := F_md) (N := 19) hx hb hts (fun w h => List.mem_cons_of_mem _ (i_md w h)) t_md o_md n_md hown hK hP hD hS 0 rfl rfl 7 (by decide) (hT _ tb_466) (fun _ h9 => h9) rfl (by decide +kernel) rfl rfl (Nat.le_of_ble_eq_true rfl) d_md_boot_66 (fun H locs hP hD hS => ?_)
  have hP : va_P D cx (mv ad cs (sg_im u) (sg_ap u) (sg_ag u) (vp_updL (vp_updL (vp_updL (vp_updL (vp_updL (vp_updL (sg_he u) (0 : Int32).toNatClampNeg (0)) (1 : Int32).toNatClampNeg (0)) (2 : Int32).toNatClampNeg (0)) (3 : Int32).toNatClampNeg (0)) (4 : Int32).toNatClampNeg (0)) (5 : Int32).toNatClampNeg (0)) (sg_er u) (sg_ev u) (0) (sg_ma u) (sg_po u) (sg_se u) (0) (sg_fa u) (0) (0) (jm_ag j) (jm_de j) (jm_ru j) (jm_nx j) (0)) H := hP
  have hD : va_D A (mv ad cs (sg_im u) (sg_ap u) (sg_ag u) (vp_updL (vp_updL (vp_updL (vp_updL (vp_updL (vp_updL (sg_he u) (0 : Int32).toNatClampNeg (0)) (1 : Int32).toNatClampNeg (0)) (2 : Int32).toNatClampNeg (0)) (3 : Int32).toNatClampNeg (0)) (4 : Int32).toNatClampNeg (0)) (5 : Int32).toNatClampNeg (0)) (sg_er u) (sg_ev u) (0) (sg_ma u) (sg_po u) (sg_se u) (0) (sg_fa u) (0) (0) (jm_ag j) (jm_de j) (jm_ru j) (jm_nx j) (0)) := hD
  refine lv_aload_n hx hb d_md_boot_69 rfl (lv_at hl 1 rfl) ?_
  refine lv_iconst (v := 0) hx hb d_md_boot_70 (by decide) ?_
  refine va_put (D := D) (ci := 3) (v := .int (0)) (ty := .int) (C := "MeasuredStagesModel") (T := F_md) (N := 19) hx hb hts (fun w h => List.mem_cons_of_mem _ (i_md w h)) t_md o_md n_md hown hK hP hD hS 0 rfl rfl 14 (by decide) (hT _ tb_473) (fun _ h9 => h9) rfl (by decide +kernel) rfl rfl (Nat.le_of_ble_eq_true rfl) d_md_boot_71 (fun H locs hP hD hS => ?_)
  have hP : va_P D cx (mv ad cs (sg_im u) (sg_ap u) (sg_ag u) (vp_updL (vp_updL (vp_updL (vp_updL (vp_updL (vp_updL (sg_he u) (0 : Int32).toNatClampNeg (0)) (1 : Int32).toNatClampNeg (0)) (2 : Int32).toNatClampNeg (0)) (3 : Int32).toNatClampNeg (0)) (4 : Int32).toNatClampNeg (0)) (5 : Int32).toNatClampNeg (0)) (sg_er u) (sg_ev u) (0) (sg_ma u) (sg_po u) (sg_se u) (0) (0) (0) (0) (jm_ag j) (jm_de j) (jm_ru j) (jm_nx j) (0)) H := hP
  have hD : va_D A (mv ad cs (sg_im u) (sg_ap u) (sg_ag u) (vp_updL (vp_updL (vp_updL (vp_updL (vp_updL (vp_updL (sg_he u) (0 : Int32).toNatClampNeg (0)) (1 : Int32).toNatClampNeg (0)) (2 : Int32).toNatClampNeg (0)) (3 : Int32).toNatClampNeg (0)) (4 : Int32).toNatClampNeg (0)) (5 : Int32).toNatClampNeg (0)) (sg_er u) (sg_ev u) (0) (sg_ma u) (sg_po u) (sg_se u) (0) (0) (0) (0) (jm_ag j) (jm_de j) (jm_ru j) (jm_nx j) (0)) := hD
  obtain ⟨v1, ev1⟩ : ∃ z : Sg, z = (sg_im u, sg_ap u, sg_ag u, vp_updL (vp_updL (vp_updL (vp_updL (vp_updL (vp_updL (sg_he u) (0 : Int32).toNatClampNeg (0)) (1 : Int32).toNatClampNeg (0)) (2 : Int32).toNatClampNeg (0)) (3 : Int32).toNatClampNeg (0)) (4 : Int32).toNatClampNeg (0)) (5 : Int32).toNatClampNeg (0), sg_er u, sg_ev u, 0, sg_ma u, sg_po u, sg_se u, 0, 0, 0, 0) := ⟨_, rfl⟩
  obtain ⟨q2, eq2⟩ : ∃ z : Jm, z = (jm_ag j, jm_de j, jm_ru j, jm_nx j, 0) := ⟨_, rfl⟩
  have hP : va_P D cx (mw ad cs v1 q2) H := by rw [ev1, eq2, mw_uj]; exact hP
  have hD : va_D A (mw ad cs v1 q2) := by rw [ev1, eq2, mw_uj]; exact hD
  have ecv1 : v1 = sp_cl u := ev1.trans (cm_run u)
  refine lv_aload_n hx hb d_md_boot_74 rfl (lv_at hl 1 rfl) ?_
  refine lv_iload_n hx hb d_md_boot_75 rfl (lv_at hl 2 rfl) ?_
  refine lv_iconst (v := 0) hx hb d_md_boot_76 (by decide) ?_
  refine mw_wri (v := 1) (u' := (fun v : Sg => ss_la v (sg_la v + 1)) (sp_no v1 (0) (sp_di v1 n))) (As := [.int n, .int (0)]) (rest := []) ⟨hx, hb, hml, hown, hts⟩ (c_md_launch l D cs ad _ v1 q2 n 0 hn z_in6 (by rw [ecv1]; exact z_in32)) tb_544 tb_546 sl_16 tb_4 tb_547 ⟨rfl, hd_md_launch⟩ ⟨Nat.le_of_ble_eq_true rfl, Nat.le_of_ble_eq_true rfl⟩ rfl rfl hK hP hD hN 0 3 rfl rfl hl.1 rfl (Nat.le_of_ble_eq_true rfl) d_md_boot_77 ⟨Nat.zero_le _, Nat.zero_le _⟩ hS hA (fun j3 H locs hj4 hP hD hS => ?_)
  obtain ⟨v5, ev5⟩ : ∃ z : Sg, z = (fun v : Sg => ss_la v (sg_la v + 1)) (sp_no v1 (0) (sp_di v1 n)) := ⟨_, rfl⟩
  rw [← ev5] at hP hD
  refine lv_istore_n (nL := 4) (lv' := [(2, .int (1)), (0, .ref (ad 0)), (1, .int n)]) hx hb d_md_boot_80 rfl hl (by decide) rfl (fun ls hl => ?_)
  refine lv_iconst (v := 0) hx hb d_md_boot_81 (by decide) ?_
  refine lv_istore_n (nL := 4) (lv' := [(3, .int (0)), (2, .int (1)), (0, .ref (ad 0)), (1, .int n)]) hx hb d_md_boot_82 rfl hl (by decide) rfl (fun ls hl => ?_)
  have hde := de_la v1 _ n _ hj4 hn
  have hU : (sp_rn 101 (mb v5 j3)).1 = sp_bo u n := by rw [ev5, mb_la _ _ _ _ hj4, ecv1]; exact bo_eq hok
  have hok1 : sp_ok v5 := by rw [ev5, ecv1]; exact ok_la0 (b := (sp_cl u, 0, fun _ => 0, fun _ => 0)) hok rfl
  have hst : sg_st v5 = nI 0 := by rw [ev5, ecv1]; exact st_la0 u n 0 (fun _ => 0) (fun _ => 0)
  have hfa : sg_fa v5 = 0 := by rw [ev5, ecv1]; exact fa_la0 u n 0 (fun _ => 0) (fun _ => 0)
  refine wl_up (α := Sg × Jm) 100 (fun r H1 L1 ls a => lv_has ls 4 [(3, .int (nI r)), (2, .int (1)), (0, .ref (ad 0)), (1, .int n)] ∧ va_P D cx (mw ad cs a.1 a.2) H1 ∧ va_D A (mw ad cs a.1 a.2) ∧ va_S A s.heap H1 L1 ∧ sp_ok a.1 ∧ sg_fa a.1 = 0 ∧ sg_st a.1 = nI r ∧ (vp_in (jm_de a.2) 6 ∨ jm_de a.2 = -1) ∧ (∀ k : Nat, k ≤ (jm_de a.2).toNatClampNeg → vp_in (jm_ru a.2 k) 8) ∧ (sp_rn (101 - r) (mb a.1 a.2)).1 = sp_bo u n) 83 ?_ ?_ 0 _ _ ls (v5, j3) (Nat.zero_le _) ⟨lv_sub hl [0, 1, 2, 3] rfl, hP, hD, hS, hok1, hfa, hst, Or.inl hde.1, hde.2, hU⟩
  · intro H L ls a hI
    clear hde hU hok1 hst hfa
    obtain ⟨v1, j1⟩ := a
    obtain ⟨hl, hP, hD, hS, hok1, hfa, hst, hde, hro, hU⟩ := hI
    have hl : lv_has ls 4 [(3, .int (nI 100)), (2, .int (1)), (0, .ref (ad 0)), (1, .int n)] := hl
    have hP : va_P D cx (mw ad cs v1 j1) H := hP
    have hD : va_D A (mw ad cs v1 j1) := hD
    have hok1 : sp_ok v1 := hok1
    have hfa : sg_fa v1 = 0 := hfa
    have hst : sg_st v1 = nI 100 := hst
    have hde : vp_in (jm_de j1) 6 ∨ jm_de j1 = -1 := hde
    have hro : ∀ k : Nat, k ≤ (jm_de j1).toNatClampNeg → vp_in (jm_ru j1 k) 8 := hro
    have hU : (sp_rn (101 - 100) (mb v1 j1)).1 = sp_bo u n := hU
    rcases hde with hde | hde
    · skip
      refine lv_iload_n hx hb d_md_boot_83 rfl (lv_at hl 0 rfl) ?_
      refine lv_sipush (v := 200) hx hb d_md_boot_84 (by decide) ?_
      refine lv_icmp_ge hx hb d_md_boot_87 (tgt := 159) (by decide) (fun z => absurd z (lt200 (by omega))) (fun _ => ?_)
      refine lv_aload_n hx hb d_md_boot_90 rfl (lv_at hl 2 rfl) ?_
      refine va_get (D := D) (ci := 3) (v := .int (jm_de j1)) (C := "MeasuredStagesModel") (T := F_md) (N := 19) hx hb hts (fun w h => List.mem_cons_of_mem _ (i_md w h)) hown hK hP 0 rfl rfl 15 (by decide) (hT _ tb_474) (fun _ h9 => h9) rfl d_md_boot_91 ?_
      refine lv_if_lt hx hb d_md_boot_94 (tgt := 159) (by decide) (fun z => absurd z (xn_ge hde)) (fun _ => ?_)
      refine lv_aload_n hx hb d_md_boot_97 rfl (lv_at hl 2 rfl) ?_
      refine va_get (D := D) (ci := 3) (v := .int (sg_fa v1)) (C := "MeasuredStagesModel") (T := F_md) (N := 19) hx hb hts (fun w h => List.mem_cons_of_mem _ (i_md w h)) hown hK hP 0 rfl rfl 14 (by decide) (hT _ tb_473) (fun _ h9 => h9) rfl d_md_boot_98 ?_
      refine lv_if_ne hx hb d_md_boot_101 (tgt := 159) (by decide) (fun z => absurd hfa z) (fun _ => ?_)
      refine lv_iload_n hx hb d_md_boot_104 rfl (lv_at hl 1 rfl) ?_
      refine lv_if_eq hx hb d_md_boot_105 (tgt := 159) (by decide) (fun z => absurd z (by decide)) (fun _ => ?_)
      refine lv_aload_n hx hb d_md_boot_108 rfl (lv_at hl 2 rfl) ?_
      refine lv_aload_n hx hb d_md_boot_109 rfl (lv_at hl 2 rfl) ?_
      refine va_get (D := D) (ci := 3) (v := .int (sg_st v1)) (C := "MeasuredStagesModel") (T := F_md) (N := 19) hx hb hts (fun w h => List.mem_cons_of_mem _ (i_md w h)) hown hK hP 0 rfl rfl 13 (by decide) (hT _ tb_472) (fun _ h9 => h9) rfl d_md_boot_110 ?_
      refine lv_bipush (v := 100) hx hb d_md_boot_113 (by decide) ?_
      refine lv_icmp_ne hx hb d_md_boot_115 (tgt := 122) (by decide) (fun z => absurd hst z) (fun _ => ?_)
      refine lv_iconst (v := 3) hx hb d_md_boot_118 (by decide) ?_
      refine lv_goto hx hb d_md_boot_119 (tgt := 126) (by decide) ?_
      refine va_put (D := D) (ci := 3) (v := .int (3)) (ty := .int) (C := "MeasuredStagesModel") (T := F_md) (N := 19) hx hb hts (fun w h => List.mem_cons_of_mem _ (i_md w h)) t_md o_md n_md hown hK hP hD hS 0 rfl rfl 14 (by decide) (hT _ tb_473) (fun _ h9 => h9) rfl (by decide +kernel) rfl rfl (Nat.le_of_ble_eq_true rfl) d_md_boot_126 (fun H locs hP hD hS => ?_)
      have hP : va_P D cx (mv ad cs (sg_im v1) (sg_ap v1) (sg_ag v1) (sg_he v1) (sg_er v1) (sg_ev v1) (sg_en v1) (sg_ma v1) (sg_po v1) (sg_se v1) (sg_ac v1) (3) (sg_la v1) (sg_st v1) (jm_ag j1) (jm_de j1) (jm_ru j1) (jm_nx j1) (jm_th j1)) H := hP
      have hD : va_D A (mv ad cs (sg_im v1) (sg_ap v1) (sg_ag v1) (sg_he v1) (sg_er v1) (sg_ev v1) (sg_en v1) (sg_ma v1) (sg_po v1) (sg_se v1) (sg_ac v1) (3) (sg_la v1) (sg_st v1) (jm_ag j1) (jm_de j1) (jm_ru j1) (jm_nx j1) (jm_th j1)) := hD
      refine lv_aload_n hx hb d_md_boot_129 rfl (lv_at hl 2 rfl) ?_
      refine lv_aload_n hx hb d_md_boot_130 rfl (lv_at hl 2 rfl) ?_
      refine va_get (D := D) (ci := 3) (v := .int (3)) (C := "MeasuredStagesModel") (T := F_md) (N := 19) hx hb hts (fun w h => List.mem_cons_of_mem _ (i_md w h)) hown hK hP 0 rfl rfl 14 (by decide) (hT _ tb_473) (fun _ h9 => h9) rfl d_md_boot_131 ?_
      refine lv_if_ne hx hb d_md_boot_134 (tgt := 146) (by decide) (fun _ => ?_) (fun z => absurd z (by decide))
      refine lv_aload_n hx hb d_md_boot_146 rfl (lv_at hl 2 rfl) ?_
      refine va_get (D := D) (ci := 3) (v := .int (sg_st v1)) (C := "MeasuredStagesModel") (T := F_md) (N := 19) hx hb hts (fun w h => List.mem_cons_of_mem _ (i_md w h)) hown hK hP 0 rfl rfl 13 (by decide) (hT _ tb_472) (fun _ h9 => h9) rfl d_md_boot_147 ?_
      refine va_put (D := D) (ci := 3) (v := .int (sg_st v1)) (ty := .int) (C := "MeasuredStagesModel") (T := F_md) (N := 19) hx hb hts (fun w h => List.mem_cons_of_mem _ (i_md w h)) t_md o_md n_md hown hK hP hD hS 0 rfl rfl 13 (by decide) (hT _ tb_472) (fun _ h9 => h9) rfl (by decide +kernel) rfl rfl (Nat.le_of_ble_eq_true rfl) d_md_boot_150 (fun H locs hP hD hS => ?_)
      have hP : va_P D cx (mv ad cs (sg_im v1) (sg_ap v1) (sg_ag v1) (sg_he v1) (sg_er v1) (sg_ev v1) (sg_en v1) (sg_ma v1) (sg_po v1) (sg_se v1) (sg_ac v1) (3) (sg_la v1) (sg_st v1) (jm_ag j1) (jm_de j1) (jm_ru j1) (jm_nx j1) (jm_th j1)) H := hP
      have hD : va_D A (mv ad cs (sg_im v1) (sg_ap v1) (sg_ag v1) (sg_he v1) (sg_er v1) (sg_ev v1) (sg_en v1) (sg_ma v1) (sg_po v1) (sg_se v1) (sg_ac v1) (3) (sg_la v1) (sg_st v1) (jm_ag j1) (jm_de j1) (jm_ru j1) (jm_nx j1) (jm_th j1)) := hD
      refine lv_iinc (nL := 4) (k := 0) (v := nI 101) (lv' := [(3, .int (nI 101)), (2, .int (1)), (0, .ref (ad 0)), (1, .int n)]) hx hb d_md_boot_153 hl rfl (by decide) (by decide) rfl (fun ls hl => ?_)
      refine lv_goto hx hb d_md_boot_156 (tgt := 83) (by decide) ?_
      refine lv_iload_n hx hb d_md_boot_83 rfl (lv_at hl 0 rfl) ?_
      refine lv_sipush (v := 200) hx hb d_md_boot_84 (by decide) ?_
      refine lv_icmp_ge hx hb d_md_boot_87 (tgt := 159) (by decide) (fun z => absurd z (lt200 (by omega))) (fun _ => ?_)
      refine lv_aload_n hx hb d_md_boot_90 rfl (lv_at hl 2 rfl) ?_
      refine va_get (D := D) (ci := 3) (v := .int (jm_de j1)) (C := "MeasuredStagesModel") (T := F_md) (N := 19) hx hb hts (fun w h => List.mem_cons_of_mem _ (i_md w h)) hown hK hP 0 rfl rfl 15 (by decide) (hT _ tb_474) (fun _ h9 => h9) rfl d_md_boot_91 ?_
      refine lv_if_lt hx hb d_md_boot_94 (tgt := 159) (by decide) (fun z => absurd z (xn_ge hde)) (fun _ => ?_)
      refine lv_aload_n hx hb d_md_boot_97 rfl (lv_at hl 2 rfl) ?_
      refine va_get (D := D) (ci := 3) (v := .int (3)) (C := "MeasuredStagesModel") (T := F_md) (N := 19) hx hb hts (fun w h => List.mem_cons_of_mem _ (i_md w h)) hown hK hP 0 rfl rfl 14 (by decide) (hT _ tb_473) (fun _ h9 => h9) rfl d_md_boot_98 ?_
      refine lv_if_ne hx hb d_md_boot_101 (tgt := 159) (by decide) (fun _ => ?_) (fun z => absurd z (by decide))
      obtain ⟨v6, ev6⟩ : ∃ z : Sg, z = (sg_im v1, sg_ap v1, sg_ag v1, sg_he v1, sg_er v1, sg_ev v1, sg_en v1, sg_ma v1, sg_po v1, sg_se v1, sg_ac v1, 3, sg_la v1, sg_st v1) := ⟨_, rfl⟩
      have hP : va_P D cx (mw ad cs v6 j1) H := by rw [ev6, mw_u]; exact hP
      have hD : va_D A (mw ad cs v6 j1) := by rw [ev6, mw_u]; exact hD
      have eU : ss_fa v1 3 = sp_bo u n := by rw [← hU]; exact (congrArg Prod.fst (rn_tired 0 (mb v1 j1) hde hst)).symm
      have eU : v6 = sp_bo u n := (show v6 = ss_fa v1 3 from ev6).trans eU
      rw [eU] at hP hD
      refine lv_aload_n hx hb d_md_boot_159 rfl (lv_at hl 2 rfl) ?_
      refine lv_aload_n hx hb d_md_boot_160 rfl (lv_at hl 2 rfl) ?_
      refine va_get (D := D) (ci := 3) (v := .int (sg_fa (sp_bo u n))) (C := "MeasuredStagesModel") (T := F_md) (N := 19) hx hb hts (fun w h => List.mem_cons_of_mem _ (i_md w h)) hown hK hP 0 rfl rfl 14 (by decide) (hT _ tb_473) (fun _ h9 => h9) rfl d_md_boot_161 ?_
      refine lv_if_eq hx hb d_md_boot_164 (tgt := 171) (by decide) (fun _ => ?_) (fun z => absurd hf z)
      refine lv_iconst (v := 0) hx hb d_md_boot_171 (by decide) ?_
      refine va_put (D := D) (ci := 3) (v := .int (0)) (ty := .int) (C := "MeasuredStagesModel") (T := F_md) (N := 19) hx hb hts (fun w h => List.mem_cons_of_mem _ (i_md w h)) t_md o_md n_md hown hK hP hD hS 0 rfl rfl 18 (by decide) (hT _ tb_477) (fun _ h9 => h9) rfl (by decide +kernel) rfl rfl (Nat.le_of_ble_eq_true rfl) d_md_boot_172 (fun H locs hP hD hS => ?_)
      have hP : va_P D cx (mv ad cs (sg_im (sp_bo u n)) (sg_ap (sp_bo u n)) (sg_ag (sp_bo u n)) (sg_he (sp_bo u n)) (sg_er (sp_bo u n)) (sg_ev (sp_bo u n)) (sg_en (sp_bo u n)) (sg_ma (sp_bo u n)) (sg_po (sp_bo u n)) (sg_se (sp_bo u n)) (sg_ac (sp_bo u n)) (sg_fa (sp_bo u n)) (sg_la (sp_bo u n)) (sg_st (sp_bo u n)) (jm_ag j1) (jm_de j1) (jm_ru j1) (jm_nx j1) (0)) H := hP
      have hD : va_D A (mv ad cs (sg_im (sp_bo u n)) (sg_ap (sp_bo u n)) (sg_ag (sp_bo u n)) (sg_he (sp_bo u n)) (sg_er (sp_bo u n)) (sg_ev (sp_bo u n)) (sg_en (sp_bo u n)) (sg_ma (sp_bo u n)) (sg_po (sp_bo u n)) (sg_se (sp_bo u n)) (sg_ac (sp_bo u n)) (sg_fa (sp_bo u n)) (sg_la (sp_bo u n)) (sg_st (sp_bo u n)) (jm_ag j1) (jm_de j1) (jm_ru j1) (jm_nx j1) (0)) := hD
      refine lv_aload_n hx hb d_md_boot_175 rfl (lv_at hl 2 rfl) ?_
      refine va_get (D := D) (ci := 3) (v := .int (sg_fa (sp_bo u n))) (C := "MeasuredStagesModel") (T := F_md) (N := 19) hx hb hts (fun w h => List.mem_cons_of_mem _ (i_md w h)) hown hK hP 0 rfl rfl 14 (by decide) (hT _ tb_473) (fun _ h9 => h9) rfl d_md_boot_176 ?_
      refine lv_if_eq hx hb d_md_boot_179 (tgt := 186) (by decide) (fun _ => ?_) (fun z => absurd hf z)
      refine lv_aload_n hx hb d_md_boot_186 rfl (lv_at hl 2 rfl) ?_
      refine va_get (D := D) (ci := 3) (v := .int (sg_la (sp_bo u n))) (C := "MeasuredStagesModel") (T := F_md) (N := 19) hx hb hts (fun w h => List.mem_cons_of_mem _ (i_md w h)) hown hK hP 0 rfl rfl 12 (by decide) (hT _ tb_471) (fun _ h9 => h9) rfl d_md_boot_187 ?_
      obtain ⟨q7, eq7⟩ : ∃ z : Jm, z = (jm_ag j1, jm_de j1, jm_ru j1, jm_nx j1, 0) := ⟨_, rfl⟩
      have hP : va_P D cx (mw ad cs (sp_bo u n) q7) H := by rw [eq7, mw_j]; exact hP
      have hD : va_D A (mw ad cs (sp_bo u n) q7) := by rw [eq7, mw_j]; exact hD
      exact W.iret hx hb hret (fun t ht hW => ⟨⟨_, q7, rfl, ⟨rfl, (by subst eq7; rfl)⟩, by rw [ht]; exact hP, va_K.moved hW.alike hK, hD⟩, hS.F ht⟩) hS.2.2 d_md_boot_190
    · skip
      refine lv_iload_n hx hb d_md_boot_83 rfl (lv_at hl 0 rfl) ?_
      refine lv_sipush (v := 200) hx hb d_md_boot_84 (by decide) ?_
      refine lv_icmp_ge hx hb d_md_boot_87 (tgt := 159) (by decide) (fun z => absurd z (lt200 (by omega))) (fun _ => ?_)
      refine lv_aload_n hx hb d_md_boot_90 rfl (lv_at hl 2 rfl) ?_
      refine va_get (D := D) (ci := 3) (v := .int (jm_de j1)) (C := "MeasuredStagesModel") (T := F_md) (N := 19) hx hb hts (fun w h => List.mem_cons_of_mem _ (i_md w h)) hown hK hP 0 rfl rfl 15 (by decide) (hT _ tb_474) (fun _ h9 => h9) rfl d_md_boot_91 ?_
      refine lv_if_lt hx hb d_md_boot_94 (tgt := 159) (by decide) (fun _ => ?_) (fun z => absurd (by rw [hde]; decide) z)
      have eU : v1 = sp_bo u n := by rw [← hU]; exact (congrArg Prod.fst (rn_end 0 (mb v1 j1) hde)).symm
      rw [eU] at hP hD
      refine lv_aload_n hx hb d_md_boot_159 rfl (lv_at hl 2 rfl) ?_
      refine lv_aload_n hx hb d_md_boot_160 rfl (lv_at hl 2 rfl) ?_
      refine va_get (D := D) (ci := 3) (v := .int (sg_fa (sp_bo u n))) (C := "MeasuredStagesModel") (T := F_md) (N := 19) hx hb hts (fun w h => List.mem_cons_of_mem _ (i_md w h)) hown hK hP 0 rfl rfl 14 (by decide) (hT _ tb_473) (fun _ h9 => h9) rfl d_md_boot_161 ?_
      refine lv_if_eq hx hb d_md_boot_164 (tgt := 171) (by decide) (fun _ => ?_) (fun z => absurd hf z)
      refine lv_iconst (v := 0) hx hb d_md_boot_171 (by decide) ?_
      refine va_put (D := D) (ci := 3) (v := .int (0)) (ty := .int) (C := "MeasuredStagesModel") (T := F_md) (N := 19) hx hb hts (fun w h => List.mem_cons_of_mem _ (i_md w h)) t_md o_md n_md hown hK hP hD hS 0 rfl rfl 18 (by decide) (hT _ tb_477) (fun _ h9 => h9) rfl (by decide +kernel) rfl rfl (Nat.le_of_ble_eq_true rfl) d_md_boot_172 (fun H locs hP hD hS => ?_)
      have hP : va_P D cx (mv ad cs (sg_im (sp_bo u n)) (sg_ap (sp_bo u n)) (sg_ag (sp_bo u n)) (sg_he (sp_bo u n)) (sg_er (sp_bo u n)) (sg_ev (sp_bo u n)) (sg_en (sp_bo u n)) (sg_ma (sp_bo u n)) (sg_po (sp_bo u n)) (sg_se (sp_bo u n)) (sg_ac (sp_bo u n)) (sg_fa (sp_bo u n)) (sg_la (sp_bo u n)) (sg_st (sp_bo u n)) (jm_ag j1) (jm_de j1) (jm_ru j1) (jm_nx j1) (0)) H := hP
      have hD : va_D A (mv ad cs (sg_im (sp_bo u n)) (sg_ap (sp_bo u n)) (sg_ag (sp_bo u n)) (sg_he (sp_bo u n)) (sg_er (sp_bo u n)) (sg_ev (sp_bo u n)) (sg_en (sp_bo u n)) (sg_ma (sp_bo u n)) (sg_po (sp_bo u n)) (sg_se (sp_bo u n)) (sg_ac (sp_bo u n)) (sg_fa (sp_bo u n)) (sg_la (sp_bo u n)) (sg_st (sp_bo u n)) (jm_ag j1) (jm_de j1) (jm_ru j1) (jm_nx j1) (0)) := hD
      refine lv_aload_n hx hb d_md_boot_175 rfl (lv_at hl 2 rfl) ?_
      refine va_get (D := D) (ci := 3) (v := .int (sg_fa (sp_bo u n))) (C := "MeasuredStagesModel") (T := F_md) (N := 19) hx hb hts (fun w h => List.mem_cons_of_mem _ (i_md w h)) hown hK hP 0 rfl rfl 14 (by decide) (hT _ tb_473) (fun _ h9 => h9) rfl d_md_boot_176 ?_
      refine lv_if_eq hx hb d_md_boot_179 (tgt := 186) (by decide) (fun _ => ?_) (fun z => absurd hf z)
      refine lv_aload_n hx hb d_md_boot_186 rfl (lv_at hl 2 rfl) ?_
      refine va_get (D := D) (ci := 3) (v := .int (sg_la (sp_bo u n))) (C := "MeasuredStagesModel") (T := F_md) (N := 19) hx hb hts (fun w h => List.mem_cons_of_mem _ (i_md w h)) hown hK hP 0 rfl rfl 12 (by decide) (hT _ tb_471) (fun _ h9 => h9) rfl d_md_boot_187 ?_
      obtain ⟨q8, eq8⟩ : ∃ z : Jm, z = (jm_ag j1, jm_de j1, jm_ru j1, jm_nx j1, 0) := ⟨_, rfl⟩
      have hP : va_P D cx (mw ad cs (sp_bo u n) q8) H := by rw [eq8, mw_j]; exact hP
      have hD : va_D A (mw ad cs (sp_bo u n) q8) := by rw [eq8, mw_j]; exact hD
      exact W.iret hx hb hret (fun t ht hW => ⟨⟨_, q8, rfl, ⟨rfl, (by subst eq8; rfl)⟩, by rw [ht]; exact hP, va_K.moved hW.alike hK, hD⟩, hS.F ht⟩) hS.2.2 d_md_boot_190
  · intro r H L ls a hr hI ih
    clear hde hU hok1 hst hfa
    obtain ⟨v1, j1⟩ := a
    obtain ⟨hl, hP, hD, hS, hok1, hfa, hst, hde, hro, hU⟩ := hI
    have hl : lv_has ls 4 [(3, .int (nI r)), (2, .int (1)), (0, .ref (ad 0)), (1, .int n)] := hl
    have hP : va_P D cx (mw ad cs v1 j1) H := hP
    have hD : va_D A (mw ad cs v1 j1) := hD
    have hok1 : sp_ok v1 := hok1
    have hfa : sg_fa v1 = 0 := hfa
    have hst : sg_st v1 = nI r := hst
    have hde : vp_in (jm_de j1) 6 ∨ jm_de j1 = -1 := hde
    have hro : ∀ k : Nat, k ≤ (jm_de j1).toNatClampNeg → vp_in (jm_ru j1 k) 8 := hro
    have hU : (sp_rn (101 - r) (mb v1 j1)).1 = sp_bo u n := hU
    rw [show 101 - r = (100 - r) + 1 by omega] at hU
    rcases hde with hde | hde
    · skip
      have hs1 : ¬ sg_st v1 = 100 := by rw [hst]; exact n100 hr
      by_cases hi : sp_if (mb v1 j1) = 0
      · skip
        refine lv_iload_n hx hb d_md_boot_83 rfl (lv_at hl 0 rfl) ?_
        refine lv_sipush (v := 200) hx hb d_md_boot_84 (by decide) ?_
        refine lv_icmp_ge hx hb d_md_boot_87 (tgt := 159) (by decide) (fun z => absurd z (lt200 (by omega))) (fun _ => ?_)
        refine lv_aload_n hx hb d_md_boot_90 rfl (lv_at hl 2 rfl) ?_
        refine va_get (D := D) (ci := 3) (v := .int (jm_de j1)) (C := "MeasuredStagesModel") (T := F_md) (N := 19) hx hb hts (fun w h => List.mem_cons_of_mem _ (i_md w h)) hown hK hP 0 rfl rfl 15 (by decide) (hT _ tb_474) (fun _ h9 => h9) rfl d_md_boot_91 ?_
        refine lv_if_lt hx hb d_md_boot_94 (tgt := 159) (by decide) (fun z => absurd z (xn_ge hde)) (fun _ => ?_)
        refine lv_aload_n hx hb d_md_boot_97 rfl (lv_at hl 2 rfl) ?_
        refine va_get (D := D) (ci := 3) (v := .int (sg_fa v1)) (C := "MeasuredStagesModel") (T := F_md) (N := 19) hx hb hts (fun w h => List.mem_cons_of_mem _ (i_md w h)) hown hK hP 0 rfl rfl 14 (by decide) (hT _ tb_473) (fun _ h9 => h9) rfl d_md_boot_98 ?_
        refine lv_if_ne hx hb d_md_boot_101 (tgt := 159) (by decide) (fun z => absurd hfa z) (fun _ => ?_)
        refine lv_iload_n hx hb d_md_boot_104 rfl (lv_at hl 1 rfl) ?_
        refine lv_if_eq hx hb d_md_boot_105 (tgt := 159) (by decide) (fun z => absurd z (by decide)) (fun _ => ?_)
        refine lv_aload_n hx hb d_md_boot_108 rfl (lv_at hl 2 rfl) ?_
        refine lv_aload_n hx hb d_md_boot_109 rfl (lv_at hl 2 rfl) ?_
        refine va_get (D := D) (ci := 3) (v := .int (sg_st v1)) (C := "MeasuredStagesModel") (T := F_md) (N := 19) hx hb hts (fun w h => List.mem_cons_of_mem _ (i_md w h)) hown hK hP 0 rfl rfl 13 (by decide) (hT _ tb_472) (fun _ h9 => h9) rfl d_md_boot_110 ?_
        refine lv_bipush (v := 100) hx hb d_md_boot_113 (by decide) ?_
        refine lv_icmp_ne hx hb d_md_boot_115 (tgt := 122) (by decide) (fun _ => ?_) (fun z => absurd z hs1)
        refine lv_aload_n hx hb d_md_boot_122 rfl (lv_at hl 2 rfl) ?_
        refine mw_wri (v := 0) (u' := (sp_in (mb v1 j1)).1) (As := []) (rest := [.ref (ad 0)]) ⟨hx, hb, hml, hown, hts⟩ (c_md_instruction l D cs ad _ v1 j1 hde hok1 (hro _ (Nat.le_refl _)) hi) tb_552 tb_554 sl_18 tb_4 tb_555 ⟨rfl, hd_md_instruction⟩ ⟨Nat.le_of_ble_eq_true rfl, Nat.le_of_ble_eq_true rfl⟩ rfl rfl hK hP hD hN 0 3 rfl rfl hl.1 rfl (Nat.le_of_ble_eq_true rfl) d_md_boot_123 ⟨Nat.zero_le _, Nat.zero_le _⟩ hS hA (fun j9 H locs hj10 hP hD hS => ?_)
        obtain ⟨v11, ev11⟩ : ∃ z : Sg, z = (sp_in (mb v1 j1)).1 := ⟨_, rfl⟩
        rw [← ev11] at hP hD
        refine va_put (D := D) (ci := 3) (v := .int (0)) (ty := .int) (C := "MeasuredStagesModel") (T := F_md) (N := 19) hx hb hts (fun w h => List.mem_cons_of_mem _ (i_md w h)) t_md o_md n_md hown hK hP hD hS 0 rfl rfl 14 (by decide) (hT _ tb_473) (fun _ h9 => h9) rfl (by decide +kernel) rfl rfl (Nat.le_of_ble_eq_true rfl) d_md_boot_126 (fun H locs hP hD hS => ?_)
        have hP : va_P D cx (mv ad cs (sg_im v11) (sg_ap v11) (sg_ag v11) (sg_he v11) (sg_er v11) (sg_ev v11) (sg_en v11) (sg_ma v11) (sg_po v11) (sg_se v11) (sg_ac v11) (0) (sg_la v11) (sg_st v11) (jm_ag j9) (jm_de j9) (jm_ru j9) (jm_nx j9) (jm_th j9)) H := hP
        have hD : va_D A (mv ad cs (sg_im v11) (sg_ap v11) (sg_ag v11) (sg_he v11) (sg_er v11) (sg_ev v11) (sg_en v11) (sg_ma v11) (sg_po v11) (sg_se v11) (sg_ac v11) (0) (sg_la v11) (sg_st v11) (jm_ag j9) (jm_de j9) (jm_ru j9) (jm_nx j9) (jm_th j9)) := hD
        have hin := in_keep (b := mb v1 j1) hde hok1 hi
        rw [← ev11] at hin
        have hfv : sg_fa v11 = 0 := hin.2.1.trans hfa
        have hP : va_P D cx (mw ad cs v11 j9) H := by
          show va_P D cx (mv ad cs (sg_im v11) (sg_ap v11) (sg_ag v11) (sg_he v11) (sg_er v11) (sg_ev v11) (sg_en v11) (sg_ma v11) (sg_po v11) (sg_se v11) (sg_ac v11) (sg_fa v11) (sg_la v11) (sg_st v11) (jm_ag j9) (jm_de j9) (jm_ru j9) (jm_nx j9) (jm_th j9)) H
          rw [hfv]; exact hP
        have hD : va_D A (mw ad cs v11 j9) := by
          show va_D A (mv ad cs (sg_im v11) (sg_ap v11) (sg_ag v11) (sg_he v11) (sg_er v11) (sg_ev v11) (sg_en v11) (sg_ma v11) (sg_po v11) (sg_se v11) (sg_ac v11) (sg_fa v11) (sg_la v11) (sg_st v11) (jm_ag j9) (jm_de j9) (jm_ru j9) (jm_nx j9) (jm_th j9))
          rw [hfv]; exact hD
        refine lv_aload_n hx hb d_md_boot_129 rfl (lv_at hl 2 rfl) ?_
        refine lv_aload_n hx hb d_md_boot_130 rfl (lv_at hl 2 rfl) ?_
        refine va_get (D := D) (ci := 3) (v := .int (sg_fa v11)) (C := "MeasuredStagesModel") (T := F_md) (N := 19) hx hb hts (fun w h => List.mem_cons_of_mem _ (i_md w h)) hown hK hP 0 rfl rfl 14 (by decide) (hT _ tb_473) (fun _ h9 => h9) rfl d_md_boot_131 ?_
        refine lv_if_ne hx hb d_md_boot_134 (tgt := 146) (by decide) (fun z => absurd hfv z) (fun _ => ?_)
        refine lv_aload_n hx hb d_md_boot_137 rfl (lv_at hl 2 rfl) ?_
        refine va_get (D := D) (ci := 3) (v := .int (sg_st v11)) (C := "MeasuredStagesModel") (T := F_md) (N := 19) hx hb hts (fun w h => List.mem_cons_of_mem _ (i_md w h)) hown hK hP 0 rfl rfl 13 (by decide) (hT _ tb_472) (fun _ h9 => h9) rfl d_md_boot_138 ?_
        refine lv_iconst (v := 1) hx hb d_md_boot_141 (by decide) ?_
        refine lv_iadd hx hb d_md_boot_142 ?_
        refine lv_goto hx hb d_md_boot_143 (tgt := 150) (by decide) ?_
        refine va_put (D := D) (ci := 3) (v := .int ((sg_st v11) + (1))) (ty := .int) (C := "MeasuredStagesModel") (T := F_md) (N := 19) hx hb hts (fun w h => List.mem_cons_of_mem _ (i_md w h)) t_md o_md n_md hown hK hP hD hS 0 rfl rfl 13 (by decide) (hT _ tb_472) (fun _ h9 => h9) rfl (by decide +kernel) rfl rfl (Nat.le_of_ble_eq_true rfl) d_md_boot_150 (fun H locs hP hD hS => ?_)
        have hP : va_P D cx (mv ad cs (sg_im v11) (sg_ap v11) (sg_ag v11) (sg_he v11) (sg_er v11) (sg_ev v11) (sg_en v11) (sg_ma v11) (sg_po v11) (sg_se v11) (sg_ac v11) (sg_fa v11) (sg_la v11) ((sg_st v11) + (1)) (jm_ag j9) (jm_de j9) (jm_ru j9) (jm_nx j9) (jm_th j9)) H := hP
        have hD : va_D A (mv ad cs (sg_im v11) (sg_ap v11) (sg_ag v11) (sg_he v11) (sg_er v11) (sg_ev v11) (sg_en v11) (sg_ma v11) (sg_po v11) (sg_se v11) (sg_ac v11) (sg_fa v11) (sg_la v11) ((sg_st v11) + (1)) (jm_ag j9) (jm_de j9) (jm_ru j9) (jm_nx j9) (jm_th j9)) := hD
        refine lv_iinc (nL := 4) (k := 0) (v := nI (r + 1)) (lv' := [(3, .int (nI (r + 1))), (2, .int (1)), (0, .ref (ad 0)), (1, .int n)]) hx hb d_md_boot_153 hl rfl ((nI_succ r).symm) (by decide) rfl (fun ls hl => ?_)
        refine lv_goto hx hb d_md_boot_156 (tgt := 83) (by decide) ?_
        obtain ⟨v12, ev12⟩ : ∃ z : Sg, z = (sg_im v11, sg_ap v11, sg_ag v11, sg_he v11, sg_er v11, sg_ev v11, sg_en v11, sg_ma v11, sg_po v11, sg_se v11, sg_ac v11, sg_fa v11, sg_la v11, (sg_st v11) + (1)) := ⟨_, rfl⟩
        have hP : va_P D cx (mw ad cs v12 j9) H := by rw [ev12, mw_u]; exact hP
        have hD : va_D A (mw ad cs v12 j9) := by rw [ev12, mw_u]; exact hD
        have eb : mb v11 j9 = sp_in (mb v1 j1) := by rw [ev11]; exact hj10
        have e1 : jm_de j9 = (sp_in (mb v1 j1)).2.1 := congrArg (fun b : Bt => b.2.1) eb
        have e2 : jm_ru j9 = (sp_in (mb v1 j1)).2.2.1 := congrArg (fun b : Bt => b.2.2.1) eb
        have eS : v12 = ss_st v11 (sg_st v11 + 1) := ev12
        refine ih _ _ ls (v12, j9) ⟨lv_sub hl [0, 1, 2, 3] rfl, hP, hD, hS, ?_, ?_, ?_, ?_, ?_, ?_⟩
        · show sp_ok v12
          rw [eS]; exact ok_st hin.1
        · show sg_fa v12 = 0
          rw [eS]; exact hfv
        · show sg_st v12 = nI (r + 1)
          rw [eS, st_st]; exact (congrArg (· + 1) (hin.2.2.1.trans hst)).trans (nI_succ r).symm
        · show vp_in (jm_de j9) 6 ∨ jm_de j9 = -1
          rw [e1]; exact hin.2.2.2.1
        · show ∀ k : Nat, k ≤ (jm_de j9).toNatClampNeg → vp_in (jm_ru j9 k) 8
          rw [e1, e2]; exact in_rows (b := mb v1 j1) hde hi hro
        · show (sp_rn (101 - (r + 1)) (mb v12 j9)).1 = sp_bo u n
          rw [← hU, rn_ok _ (mb v1 j1) hde hs1 hi, show 101 - (r + 1) = 100 - r by omega, eS, mb_st, eb, ev11]
      · skip
        refine lv_iload_n hx hb d_md_boot_83 rfl (lv_at hl 0 rfl) ?_
        refine lv_sipush (v := 200) hx hb d_md_boot_84 (by decide) ?_
        refine lv_icmp_ge hx hb d_md_boot_87 (tgt := 159) (by decide) (fun z => absurd z (lt200 (by omega))) (fun _ => ?_)
        refine lv_aload_n hx hb d_md_boot_90 rfl (lv_at hl 2 rfl) ?_
        refine va_get (D := D) (ci := 3) (v := .int (jm_de j1)) (C := "MeasuredStagesModel") (T := F_md) (N := 19) hx hb hts (fun w h => List.mem_cons_of_mem _ (i_md w h)) hown hK hP 0 rfl rfl 15 (by decide) (hT _ tb_474) (fun _ h9 => h9) rfl d_md_boot_91 ?_
        refine lv_if_lt hx hb d_md_boot_94 (tgt := 159) (by decide) (fun z => absurd z (xn_ge hde)) (fun _ => ?_)
        refine lv_aload_n hx hb d_md_boot_97 rfl (lv_at hl 2 rfl) ?_
        refine va_get (D := D) (ci := 3) (v := .int (sg_fa v1)) (C := "MeasuredStagesModel") (T := F_md) (N := 19) hx hb hts (fun w h => List.mem_cons_of_mem _ (i_md w h)) hown hK hP 0 rfl rfl 14 (by decide) (hT _ tb_473) (fun _ h9 => h9) rfl d_md_boot_98 ?_
        refine lv_if_ne hx hb d_md_boot_101 (tgt := 159) (by decide) (fun z => absurd hfa z) (fun _ => ?_)
        refine lv_iload_n hx hb d_md_boot_104 rfl (lv_at hl 1 rfl) ?_
        refine lv_if_eq hx hb d_md_boot_105 (tgt := 159) (by decide) (fun z => absurd z (by decide)) (fun _ => ?_)
        refine lv_aload_n hx hb d_md_boot_108 rfl (lv_at hl 2 rfl) ?_
        refine lv_aload_n hx hb d_md_boot_109 rfl (lv_at hl 2 rfl) ?_
        refine va_get (D := D) (ci := 3) (v := .int (sg_st v1)) (C := "MeasuredStagesModel") (T := F_md) (N := 19) hx hb hts (fun w h => List.mem_cons_of_mem _ (i_md w h)) hown hK hP 0 rfl rfl 13 (by decide) (hT _ tb_472) (fun _ h9 => h9) rfl d_md_boot_110 ?_
        refine lv_bipush (v := 100) hx hb d_md_boot_113 (by decide) ?_
        refine lv_icmp_ne hx hb d_md_boot_115 (tgt := 122) (by decide) (fun _ => ?_) (fun z => absurd z hs1)
        refine lv_aload_n hx hb d_md_boot_122 rfl (lv_at hl 2 rfl) ?_
        refine mw_rdi (v := sp_if (mb v1 j1)) (As := []) (rest := [.ref (ad 0)]) ⟨hx, hb, hml, hown, hts⟩ (c_md_instruction_f l D cs ad _ v1 j1 hde hok1 (hro _ (Nat.le_refl _)) hi) tb_552 tb_554 sl_18 tb_4 tb_555 ⟨rfl, hd_md_instruction⟩ ⟨Nat.le_of_ble_eq_true rfl, Nat.le_of_ble_eq_true rfl⟩ rfl rfl hK hP hD hN 0 3 rfl rfl hl.1 rfl (Nat.le_of_ble_eq_true rfl) d_md_boot_123 ⟨Nat.zero_le _, Nat.zero_le _⟩ ?_
        refine va_put (D := D) (ci := 3) (v := .int (sp_if (mb v1 j1))) (ty := .int) (C := "MeasuredStagesModel") (T := F_md) (N := 19) hx hb hts (fun w h => List.mem_cons_of_mem _ (i_md w h)) t_md o_md n_md hown hK hP hD hS 0 rfl rfl 14 (by decide) (hT _ tb_473) (fun _ h9 => h9) rfl (by decide +kernel) rfl rfl (Nat.le_of_ble_eq_true rfl) d_md_boot_126 (fun H locs hP hD hS => ?_)
        have hP : va_P D cx (mv ad cs (sg_im v1) (sg_ap v1) (sg_ag v1) (sg_he v1) (sg_er v1) (sg_ev v1) (sg_en v1) (sg_ma v1) (sg_po v1) (sg_se v1) (sg_ac v1) (sp_if (mb v1 j1)) (sg_la v1) (sg_st v1) (jm_ag j1) (jm_de j1) (jm_ru j1) (jm_nx j1) (jm_th j1)) H := hP
        have hD : va_D A (mv ad cs (sg_im v1) (sg_ap v1) (sg_ag v1) (sg_he v1) (sg_er v1) (sg_ev v1) (sg_en v1) (sg_ma v1) (sg_po v1) (sg_se v1) (sg_ac v1) (sp_if (mb v1 j1)) (sg_la v1) (sg_st v1) (jm_ag j1) (jm_de j1) (jm_ru j1) (jm_nx j1) (jm_th j1)) := hD
        refine lv_aload_n hx hb d_md_boot_129 rfl (lv_at hl 2 rfl) ?_
        refine lv_aload_n hx hb d_md_boot_130 rfl (lv_at hl 2 rfl) ?_
        refine va_get (D := D) (ci := 3) (v := .int (sp_if (mb v1 j1))) (C := "MeasuredStagesModel") (T := F_md) (N := 19) hx hb hts (fun w h => List.mem_cons_of_mem _ (i_md w h)) hown hK hP 0 rfl rfl 14 (by decide) (hT _ tb_473) (fun _ h9 => h9) rfl d_md_boot_131 ?_
        refine lv_if_ne hx hb d_md_boot_134 (tgt := 146) (by decide) (fun _ => ?_) (fun z => absurd z hi)
        refine lv_aload_n hx hb d_md_boot_146 rfl (lv_at hl 2 rfl) ?_
        refine va_get (D := D) (ci := 3) (v := .int (sg_st v1)) (C := "MeasuredStagesModel") (T := F_md) (N := 19) hx hb hts (fun w h => List.mem_cons_of_mem _ (i_md w h)) hown hK hP 0 rfl rfl 13 (by decide) (hT _ tb_472) (fun _ h9 => h9) rfl d_md_boot_147 ?_
        refine va_put (D := D) (ci := 3) (v := .int (sg_st v1)) (ty := .int) (C := "MeasuredStagesModel") (T := F_md) (N := 19) hx hb hts (fun w h => List.mem_cons_of_mem _ (i_md w h)) t_md o_md n_md hown hK hP hD hS 0 rfl rfl 13 (by decide) (hT _ tb_472) (fun _ h9 => h9) rfl (by decide +kernel) rfl rfl (Nat.le_of_ble_eq_true rfl) d_md_boot_150 (fun H locs hP hD hS => ?_)
        have hP : va_P D cx (mv ad cs (sg_im v1) (sg_ap v1) (sg_ag v1) (sg_he v1) (sg_er v1) (sg_ev v1) (sg_en v1) (sg_ma v1) (sg_po v1) (sg_se v1) (sg_ac v1) (sp_if (mb v1 j1)) (sg_la v1) (sg_st v1) (jm_ag j1) (jm_de j1) (jm_ru j1) (jm_nx j1) (jm_th j1)) H := hP
        have hD : va_D A (mv ad cs (sg_im v1) (sg_ap v1) (sg_ag v1) (sg_he v1) (sg_er v1) (sg_ev v1) (sg_en v1) (sg_ma v1) (sg_po v1) (sg_se v1) (sg_ac v1) (sp_if (mb v1 j1)) (sg_la v1) (sg_st v1) (jm_ag j1) (jm_de j1) (jm_ru j1) (jm_nx j1) (jm_th j1)) := hD
        refine lv_iinc (nL := 4) (k := 0) (v := nI (r + 1)) (lv' := [(3, .int (nI (r + 1))), (2, .int (1)), (0, .ref (ad 0)), (1, .int n)]) hx hb d_md_boot_153 hl rfl ((nI_succ r).symm) (by decide) rfl (fun ls hl => ?_)
        refine lv_goto hx hb d_md_boot_156 (tgt := 83) (by decide) ?_
        refine lv_iload_n hx hb d_md_boot_83 rfl (lv_at hl 0 rfl) ?_
        refine lv_sipush (v := 200) hx hb d_md_boot_84 (by decide) ?_
        refine lv_icmp_ge hx hb d_md_boot_87 (tgt := 159) (by decide) (fun z => absurd z (lt200 (by omega))) (fun _ => ?_)
        refine lv_aload_n hx hb d_md_boot_90 rfl (lv_at hl 2 rfl) ?_
        refine va_get (D := D) (ci := 3) (v := .int (jm_de j1)) (C := "MeasuredStagesModel") (T := F_md) (N := 19) hx hb hts (fun w h => List.mem_cons_of_mem _ (i_md w h)) hown hK hP 0 rfl rfl 15 (by decide) (hT _ tb_474) (fun _ h9 => h9) rfl d_md_boot_91 ?_
        refine lv_if_lt hx hb d_md_boot_94 (tgt := 159) (by decide) (fun z => absurd z (xn_ge hde)) (fun _ => ?_)
        refine lv_aload_n hx hb d_md_boot_97 rfl (lv_at hl 2 rfl) ?_
        refine va_get (D := D) (ci := 3) (v := .int (sp_if (mb v1 j1))) (C := "MeasuredStagesModel") (T := F_md) (N := 19) hx hb hts (fun w h => List.mem_cons_of_mem _ (i_md w h)) hown hK hP 0 rfl rfl 14 (by decide) (hT _ tb_473) (fun _ h9 => h9) rfl d_md_boot_98 ?_
        refine lv_if_ne hx hb d_md_boot_101 (tgt := 159) (by decide) (fun _ => ?_) (fun z => absurd z hi)
        obtain ⟨v13, ev13⟩ : ∃ z : Sg, z = (sg_im v1, sg_ap v1, sg_ag v1, sg_he v1, sg_er v1, sg_ev v1, sg_en v1, sg_ma v1, sg_po v1, sg_se v1, sg_ac v1, sp_if (mb v1 j1), sg_la v1, sg_st v1) := ⟨_, rfl⟩
        have hP : va_P D cx (mw ad cs v13 j1) H := by rw [ev13, mw_u]; exact hP
        have hD : va_D A (mw ad cs v13 j1) := by rw [ev13, mw_u]; exact hD
        have eU : ss_fa v1 (sp_if (mb v1 j1)) = sp_bo u n := by rw [← hU]; exact (congrArg Prod.fst (rn_ft _ (mb v1 j1) hde hs1 hi)).symm
        have eU : v13 = sp_bo u n := (show v13 = ss_fa v1 (sp_if (mb v1 j1)) from ev13).trans eU
        rw [eU] at hP hD
        refine lv_aload_n hx hb d_md_boot_159 rfl (lv_at hl 2 rfl) ?_
        refine lv_aload_n hx hb d_md_boot_160 rfl (lv_at hl 2 rfl) ?_
        refine va_get (D := D) (ci := 3) (v := .int (sg_fa (sp_bo u n))) (C := "MeasuredStagesModel") (T := F_md) (N := 19) hx hb hts (fun w h => List.mem_cons_of_mem _ (i_md w h)) hown hK hP 0 rfl rfl 14 (by decide) (hT _ tb_473) (fun _ h9 => h9) rfl d_md_boot_161 ?_
        refine lv_if_eq hx hb d_md_boot_164 (tgt := 171) (by decide) (fun _ => ?_) (fun z => absurd hf z)
        refine lv_iconst (v := 0) hx hb d_md_boot_171 (by decide) ?_
        refine va_put (D := D) (ci := 3) (v := .int (0)) (ty := .int) (C := "MeasuredStagesModel") (T := F_md) (N := 19) hx hb hts (fun w h => List.mem_cons_of_mem _ (i_md w h)) t_md o_md n_md hown hK hP hD hS 0 rfl rfl 18 (by decide) (hT _ tb_477) (fun _ h9 => h9) rfl (by decide +kernel) rfl rfl (Nat.le_of_ble_eq_true rfl) d_md_boot_172 (fun H locs hP hD hS => ?_)
        have hP : va_P D cx (mv ad cs (sg_im (sp_bo u n)) (sg_ap (sp_bo u n)) (sg_ag (sp_bo u n)) (sg_he (sp_bo u n)) (sg_er (sp_bo u n)) (sg_ev (sp_bo u n)) (sg_en (sp_bo u n)) (sg_ma (sp_bo u n)) (sg_po (sp_bo u n)) (sg_se (sp_bo u n)) (sg_ac (sp_bo u n)) (sg_fa (sp_bo u n)) (sg_la (sp_bo u n)) (sg_st (sp_bo u n)) (jm_ag j1) (jm_de j1) (jm_ru j1) (jm_nx j1) (0)) H := hP
        have hD : va_D A (mv ad cs (sg_im (sp_bo u n)) (sg_ap (sp_bo u n)) (sg_ag (sp_bo u n)) (sg_he (sp_bo u n)) (sg_er (sp_bo u n)) (sg_ev (sp_bo u n)) (sg_en (sp_bo u n)) (sg_ma (sp_bo u n)) (sg_po (sp_bo u n)) (sg_se (sp_bo u n)) (sg_ac (sp_bo u n)) (sg_fa (sp_bo u n)) (sg_la (sp_bo u n)) (sg_st (sp_bo u n)) (jm_ag j1) (jm_de j1) (jm_ru j1) (jm_nx j1) (0)) := hD
        refine lv_aload_n hx hb d_md_boot_175 rfl (lv_at hl 2 rfl) ?_
        refine va_get (D := D) (ci := 3) (v := .int (sg_fa (sp_bo u n))) (C := "MeasuredStagesModel") (T := F_md) (N := 19) hx hb hts (fun w h => List.mem_cons_of_mem _ (i_md w h)) hown hK hP 0 rfl rfl 14 (by decide) (hT _ tb_473) (fun _ h9 => h9) rfl d_md_boot_176 ?_
        refine lv_if_eq hx hb d_md_boot_179 (tgt := 186) (by decide) (fun _ => ?_) (fun z => absurd hf z)
        refine lv_aload_n hx hb d_md_boot_186 rfl (lv_at hl 2 rfl) ?_
        refine va_get (D := D) (ci := 3) (v := .int (sg_la (sp_bo u n))) (C := "MeasuredStagesModel") (T := F_md) (N := 19) hx hb hts (fun w h => List.mem_cons_of_mem _ (i_md w h)) hown hK hP 0 rfl rfl 12 (by decide) (hT _ tb_471) (fun _ h9 => h9) rfl d_md_boot_187 ?_
        obtain ⟨q14, eq14⟩ : ∃ z : Jm, z = (jm_ag j1, jm_de j1, jm_ru j1, jm_nx j1, 0) := ⟨_, rfl⟩
        have hP : va_P D cx (mw ad cs (sp_bo u n) q14) H := by rw [eq14, mw_j]; exact hP
        have hD : va_D A (mw ad cs (sp_bo u n) q14) := by rw [eq14, mw_j]; exact hD
        exact W.iret hx hb hret (fun t ht hW => ⟨⟨_, q14, rfl, ⟨rfl, (by subst eq14; rfl)⟩, by rw [ht]; exact hP, va_K.moved hW.alike hK, hD⟩, hS.F ht⟩) hS.2.2 d_md_boot_190
    · skip
      refine lv_iload_n hx hb d_md_boot_83 rfl (lv_at hl 0 rfl) ?_
      refine lv_sipush (v := 200) hx hb d_md_boot_84 (by decide) ?_
      refine lv_icmp_ge hx hb d_md_boot_87 (tgt := 159) (by decide) (fun z => absurd z (lt200 (by omega))) (fun _ => ?_)
      refine lv_aload_n hx hb d_md_boot_90 rfl (lv_at hl 2 rfl) ?_
      refine va_get (D := D) (ci := 3) (v := .int (jm_de j1)) (C := "MeasuredStagesModel") (T := F_md) (N := 19) hx hb hts (fun w h => List.mem_cons_of_mem _ (i_md w h)) hown hK hP 0 rfl rfl 15 (by decide) (hT _ tb_474) (fun _ h9 => h9) rfl d_md_boot_91 ?_
      refine lv_if_lt hx hb d_md_boot_94 (tgt := 159) (by decide) (fun _ => ?_) (fun z => absurd (by rw [hde]; decide) z)
      have eU : v1 = sp_bo u n := by rw [← hU]; exact (congrArg Prod.fst (rn_end _ (mb v1 j1) hde)).symm
      rw [eU] at hP hD
      refine lv_aload_n hx hb d_md_boot_159 rfl (lv_at hl 2 rfl) ?_
      refine lv_aload_n hx hb d_md_boot_160 rfl (lv_at hl 2 rfl) ?_
      refine va_get (D := D) (ci := 3) (v := .int (sg_fa (sp_bo u n))) (C := "MeasuredStagesModel") (T := F_md) (N := 19) hx hb hts (fun w h => List.mem_cons_of_mem _ (i_md w h)) hown hK hP 0 rfl rfl 14 (by decide) (hT _ tb_473) (fun _ h9 => h9) rfl d_md_boot_161 ?_
      refine lv_if_eq hx hb d_md_boot_164 (tgt := 171) (by decide) (fun _ => ?_) (fun z => absurd hf z)
      refine lv_iconst (v := 0) hx hb d_md_boot_171 (by decide) ?_
      refine va_put (D := D) (ci := 3) (v := .int (0)) (ty := .int) (C := "MeasuredStagesModel") (T := F_md) (N := 19) hx hb hts (fun w h => List.mem_cons_of_mem _ (i_md w h)) t_md o_md n_md hown hK hP hD hS 0 rfl rfl 18 (by decide) (hT _ tb_477) (fun _ h9 => h9) rfl (by decide +kernel) rfl rfl (Nat.le_of_ble_eq_true rfl) d_md_boot_172 (fun H locs hP hD hS => ?_)
      have hP : va_P D cx (mv ad cs (sg_im (sp_bo u n)) (sg_ap (sp_bo u n)) (sg_ag (sp_bo u n)) (sg_he (sp_bo u n)) (sg_er (sp_bo u n)) (sg_ev (sp_bo u n)) (sg_en (sp_bo u n)) (sg_ma (sp_bo u n)) (sg_po (sp_bo u n)) (sg_se (sp_bo u n)) (sg_ac (sp_bo u n)) (sg_fa (sp_bo u n)) (sg_la (sp_bo u n)) (sg_st (sp_bo u n)) (jm_ag j1) (jm_de j1) (jm_ru j1) (jm_nx j1) (0)) H := hP
      have hD : va_D A (mv ad cs (sg_im (sp_bo u n)) (sg_ap (sp_bo u n)) (sg_ag (sp_bo u n)) (sg_he (sp_bo u n)) (sg_er (sp_bo u n)) (sg_ev (sp_bo u n)) (sg_en (sp_bo u n)) (sg_ma (sp_bo u n)) (sg_po (sp_bo u n)) (sg_se (sp_bo u n)) (sg_ac (sp_bo u n)) (sg_fa (sp_bo u n)) (sg_la (sp_bo u n)) (sg_st (sp_bo u n)) (jm_ag j1) (jm_de j1) (jm_ru j1) (jm_nx j1) (0)) := hD
      refine lv_aload_n hx hb d_md_boot_175 rfl (lv_at hl 2 rfl) ?_
      refine va_get (D := D) (ci := 3) (v := .int (sg_fa (sp_bo u n))) (C := "MeasuredStagesModel") (T := F_md) (N := 19) hx hb hts (fun w h => List.mem_cons_of_mem _ (i_md w h)) hown hK hP 0 rfl rfl 14 (by decide) (hT _ tb_473) (fun _ h9 => h9) rfl d_md_boot_176 ?_
      refine lv_if_eq hx hb d_md_boot_179 (tgt := 186) (by decide) (fun _ => ?_) (fun z => absurd hf z)
      refine lv_aload_n hx hb d_md_boot_186 rfl (lv_at hl 2 rfl) ?_
      refine va_get (D := D) (ci := 3) (v := .int (sg_la (sp_bo u n))) (C := "MeasuredStagesModel") (T := F_md) (N := 19) hx hb hts (fun w h => List.mem_cons_of_mem _ (i_md w h)) hown hK hP 0 rfl rfl 12 (by decide) (hT _ tb_471) (fun _ h9 => h9) rfl d_md_boot_187 ?_
      obtain ⟨q15, eq15⟩ : ∃ z : Jm, z = (jm_ag j1, jm_de j1, jm_ru j1, jm_nx j1, 0) := ⟨_, rfl⟩
      have hP : va_P D cx (mw ad cs (sp_bo u n) q15) H := by rw [eq15, mw_j]; exact hP
      have hD : va_D A (mw ad cs (sp_bo u n) q15) := by rw [eq15, mw_j]; exact hD
      exact W.iret hx hb hret (fun t ht hW => ⟨⟨_, q15, rfl, ⟨rfl, (by subst eq15; rfl)⟩, by rw [ht]; exact hP, va_K.moved hW.alike hK, hD⟩, hS.F ht⟩) hS.2.2 d_md_boot_190
set_option maxHeartbeats 4000000 in
set_option maxRecDepth 100000 in
theorem g_md_boot (l : Launch) (D : va_G) (cs : Nat → ClassId) (ad : Nat → Nat) (sz : Nat) (u : Sg) (j : Jm) (n : Int32) (hok : sp_ok u) (hn : vp_in n 8) (hf : ¬ sg_fa (sp_bo u n) = 0) : Met l y_md_boot (Cond.code y_md_boot b_md_boot 4 (some .int) :: TB) { frames := 6, cells := 0, slots := 0, locals := 170 } (va_Pc [.ref (ad 0), .int n] (mw_Pre D cs ad u j sz)) (va_Qi (fun (r : Int32) (j1 : Jm) => r = 0 ∧ jm_th j1 = 2) (fun (j1 : Jm) t => mw_B D cs ad (va_A (mw ad cs u j) sz) (sp_bo u n) j1 t) (va_A (mw ad cs u j) sz)) 0 0 (va_A (mw ad cs u j) sz) := by
  refine Met.ofW (cc := b_md_boot) (maxL := 4) (ret := (some .int)) (by decide) rfl ?_
  intro p e s m args below meth c s₁ B hml hv
  obtain ⟨rfl, hsz, hP, hK, hD, hN⟩ := hv
  have hx := B.exec
  have hb := B.bytes
  have hret := B.returns
  have hts := atoms_spec (ws := Cond.code y_md_boot b_md_boot 4 (some .int) :: TB) B.pre
  have hT : ∀ w ∈ TB, w.before _ s = true := fun w h => hts w (List.mem_cons_of_mem _ h)
  have hown : s.vm.findClass "MeasuredStagesModel" = some m.cls := findClass_of_methodNamed B.named
  have hlocks := B.notSynchronized
  subst hsz
  have hD := hD.self (sz := s.heap.size)
  generalize hAe : va_A (mw ad cs u j) s.heap.size = A at hD ⊢
  have hA : ∀ q : Nat, s.heap.size ≤ q → A q := fun q h => by rw [← hAe]; exact Or.inr h
  have hS : va_S A s.heap s.heap [] := va_S.rf
  have hl := lv_entry ([.ref (ad 0), .int n]) (n := 4) (Nat.le_of_ble_eq_true rfl)
  rw [lg_entry_eq]
  generalize (lg_sl ([.ref (ad 0), .int n]) ++ List.replicate (4 - (lg_sl ([.ref (ad 0), .int n])).length) Slot.unset).toArray = ls at hl ⊢
  have hl : lv_has ls 4 [(0, .ref (ad 0)), (1, .int n)] := hl
  skip
  refine lv_aload_n hx hb d_md_boot_0 rfl (lv_at hl 0 rfl) ?_
  refine lv_iload_n hx hb d_md_boot_1 rfl (lv_at hl 1 rfl) ?_
  refine lv_if_lt hx hb d_md_boot_2 (tgt := 11) (by decide) (fun z => absurd z (xn_ge hn)) (fun _ => ?_)
  refine lv_iload_n hx hb d_md_boot_5 rfl (lv_at hl 1 rfl) ?_
  refine lv_bipush (v := 7) hx hb d_md_boot_6 (by decide) ?_
  refine lv_icmp_le hx hb d_md_boot_8 (tgt := 15) (by decide) (fun _ => ?_) (fun z => absurd (le7 hn) z)
  refine lv_iconst (v := 0) hx hb d_md_boot_15 (by decide) ?_
  refine va_put (D := D) (ci := 3) (v := .int (0)) (ty := .int) (C := "MeasuredStagesModel") (T := F_md) (N := 19) hx hb hts (fun w h => List.mem_cons_of_mem _ (i_md w h)) t_md o_md n_md hown hK hP hD hS 0 rfl rfl 18 (by decide) (hT _ tb_477) (fun _ h9 => h9) rfl (by decide +kernel) rfl rfl (Nat.le_of_ble_eq_true rfl) d_md_boot_16 (fun H locs hP hD hS => ?_)
  have hP : va_P D cx (mv ad cs (sg_im u) (sg_ap u) (sg_ag u) (sg_he u) (sg_er u) (sg_ev u) (sg_en u) (sg_ma u) (sg_po u) (sg_se u) (sg_ac u) (sg_fa u) (sg_la u) (sg_st u) (jm_ag j) (jm_de j) (jm_ru j) (jm_nx j) (0)) H := hP
  have hD : va_D A (mv ad cs (sg_im u) (sg_ap u) (sg_ag u) (sg_he u) (sg_er u) (sg_ev u) (sg_en u) (sg_ma u) (sg_po u) (sg_se u) (sg_ac u) (sg_fa u) (sg_la u) (sg_st u) (jm_ag j) (jm_de j) (jm_ru j) (jm_nx j) (0)) := hD
  refine lv_aload_n hx hb d_md_boot_19 rfl (lv_at hl 0 rfl) ?_
  refine va_get (D := D) (ci := 3) (v := .int (0)) (C := "MeasuredStagesModel") (T := F_md) (N := 19) hx hb hts (fun w h => List.mem_cons_of_mem _ (i_md w h)) hown hK hP 0 rfl rfl 18 (by decide) (hT _ tb_477) (fun _ h9 => h9) rfl d_md_boot_20 ?_
  refine lv_if_eq hx hb d_md_boot_23 (tgt := 28) (by decide) (fun _ => ?_) (fun z => absurd (by decide) z)
  refine lv_iconst (v := 0) hx hb d_md_boot_28 (by decide) ?_
  refine lv_istore_n (nL := 4) (lv' := [(2, .int (0)), (0, .ref (ad 0)), (1, .int n)]) hx hb d_md_boot_29 rfl hl (by decide) rfl (fun ls hl => ?_)
  refine lv_iload_n hx hb d_md_boot_30 rfl (lv_at hl 0 rfl) ?_
  refine lv_bipush (v := 6) hx hb d_md_boot_31 (by decide) ?_
  refine lv_icmp_ge hx hb d_md_boot_33 (tgt := 49) (by decide) (fun z => absurd z (by decide)) (fun _ => ?_)
  refine lv_aload_n hx hb d_md_boot_36 rfl (lv_at hl 1 rfl) ?_
  refine va_get (D := D) (ci := 3) (v := .ref (ad 1)) (C := "MeasuredStagesModel") (T := F_md) (N := 19) hx hb hts (fun w h => List.mem_cons_of_mem _ (i_md w h)) hown hK hP 0 rfl rfl 0 (by decide) (hT _ tb_459) (fun _ h9 => h9) rfl d_md_boot_37 ?_
  refine lv_iload_n hx hb d_md_boot_40 rfl (lv_at hl 0 rfl) ?_
  refine lv_lconst (v := 0) hx hb d_md_boot_41 (by decide) ?_
  refine va_last hx hb hK hP hD hS 1 0 rfl rfl (by unfold vp_in; decide) d_md_boot_42 (fun H locs hP hD hS => ?_)
  have hP : va_P D cx (mv ad cs (sg_im u) (sg_ap u) (sg_ag u) (vp_updL (sg_he u) (0 : Int32).toNatClampNeg (0)) (sg_er u) (sg_ev u) (sg_en u) (sg_ma u) (sg_po u) (sg_se u) (sg_ac u) (sg_fa u) (sg_la u) (sg_st u) (jm_ag j) (jm_de j) (jm_ru j) (jm_nx j) (0)) H := hP
  have hD : va_D A (mv ad cs (sg_im u) (sg_ap u) (sg_ag u) (vp_updL (sg_he u) (0 : Int32).toNatClampNeg (0)) (sg_er u) (sg_ev u) (sg_en u) (sg_ma u) (sg_po u) (sg_se u) (sg_ac u) (sg_fa u) (sg_la u) (sg_st u) (jm_ag j) (jm_de j) (jm_ru j) (jm_nx j) (0)) := hD
  refine lv_iinc (nL := 4) (k := 0) (v := 1) (lv' := [(2, .int (1)), (0, .ref (ad 0)), (1, .int n)]) hx hb d_md_boot_43 hl rfl (by decide) (by decide) rfl (fun ls hl => ?_)
  refine lv_goto hx hb d_md_boot_46 (tgt := 30) (by decide) ?_
  refine lv_iload_n hx hb d_md_boot_30 rfl (lv_at hl 0 rfl) ?_
  refine lv_bipush (v := 6) hx hb d_md_boot_31 (by decide) ?_
  refine lv_icmp_ge hx hb d_md_boot_33 (tgt := 49) (by decide) (fun z => absurd z (by decide)) (fun _ => ?_)
  refine lv_aload_n hx hb d_md_boot_36 rfl (lv_at hl 1 rfl) ?_
  refine va_get (D := D) (ci := 3) (v := .ref (ad 1)) (C := "MeasuredStagesModel") (T := F_md) (N := 19) hx hb hts (fun w h => List.mem_cons_of_mem _ (i_md w h)) hown hK hP 0 rfl rfl 0 (by decide) (hT _ tb_459) (fun _ h9 => h9) rfl d_md_boot_37 ?_
  refine lv_iload_n hx hb d_md_boot_40 rfl (lv_at hl 0 rfl) ?_
  refine lv_lconst (v := 0) hx hb d_md_boot_41 (by decide) ?_
  refine va_last hx hb hK hP hD hS 1 0 rfl rfl (by unfold vp_in; decide) d_md_boot_42 (fun H locs hP hD hS => ?_)
  have hP : va_P D cx (mv ad cs (sg_im u) (sg_ap u) (sg_ag u) (vp_updL (vp_updL (sg_he u) (0 : Int32).toNatClampNeg (0)) (1 : Int32).toNatClampNeg (0)) (sg_er u) (sg_ev u) (sg_en u) (sg_ma u) (sg_po u) (sg_se u) (sg_ac u) (sg_fa u) (sg_la u) (sg_st u) (jm_ag j) (jm_de j) (jm_ru j) (jm_nx j) (0)) H := hP
  have hD : va_D A (mv ad cs (sg_im u) (sg_ap u) (sg_ag u) (vp_updL (vp_updL (sg_he u) (0 : Int32).toNatClampNeg (0)) (1 : Int32).toNatClampNeg (0)) (sg_er u) (sg_ev u) (sg_en u) (sg_ma u) (sg_po u) (sg_se u) (sg_ac u) (sg_fa u) (sg_la u) (sg_st u) (jm_ag j) (jm_de j) (jm_ru j) (jm_nx j) (0)) := hD
  refine lv_iinc (nL := 4) (k := 0) (v := 2) (lv' := [(2, .int (2)), (0, .ref (ad 0)), (1, .int n)]) hx hb d_md_boot_43 hl rfl (by decide) (by decide) rfl (fun ls hl => ?_)
  refine lv_goto hx hb d_md_boot_46 (tgt := 30) (by decide) ?_
  refine lv_iload_n hx hb d_md_boot_30 rfl (lv_at hl 0 rfl) ?_
  refine lv_bipush (v := 6) hx hb d_md_boot_31 (by decide) ?_
  refine lv_icmp_ge hx hb d_md_boot_33 (tgt := 49) (by decide) (fun z => absurd z (by decide)) (fun _ => ?_)
  refine lv_aload_n hx hb d_md_boot_36 rfl (lv_at hl 1 rfl) ?_
  refine va_get (D := D) (ci := 3) (v := .ref (ad 1)) (C := "MeasuredStagesModel") (T := F_md) (N := 19) hx hb hts (fun w h => List.mem_cons_of_mem _ (i_md w h)) hown hK hP 0 rfl rfl 0 (by decide) (hT _ tb_459) (fun _ h9 => h9) rfl d_md_boot_37 ?_
  refine lv_iload_n hx hb d_md_boot_40 rfl (lv_at hl 0 rfl) ?_
  refine lv_lconst (v := 0) hx hb d_md_boot_41 (by decide) ?_
  refine va_last hx hb hK hP hD hS 1 0 rfl rfl (by unfold vp_in; decide) d_md_boot_42 (fun H locs hP hD hS => ?_)
  have hP : va_P D cx (mv ad cs (sg_im u) (sg_ap u) (sg_ag u) (vp_updL (vp_updL (vp_updL (sg_he u) (0 : Int32).toNatClampNeg (0)) (1 : Int32).toNatClampNeg (0)) (2 : Int32).toNatClampNeg (0)) (sg_er u) (sg_ev u) (sg_en u) (sg_ma u) (sg_po u) (sg_se u) (sg_ac u) (sg_fa u) (sg_la u) (sg_st u) (jm_ag j) (jm_de j) (jm_ru j) (jm_nx j) (0)) H := hP
  have hD : va_D A (mv ad cs (sg_im u) (sg_ap u) (sg_ag u) (vp_updL (vp_updL (vp_updL (sg_he u) (0 : Int32).toNatClampNeg (0)) (1 : Int32).toNatClampNeg (0)) (2 : Int32).toNatClampNeg (0)) (sg_er u) (sg_ev u) (sg_en u) (sg_ma u) (sg_po u) (sg_se u) (sg_ac u) (sg_fa u) (sg_la u) (sg_st u) (jm_ag j) (jm_de j) (jm_ru j) (jm_nx j) (0)) := hD
  refine lv_iinc (nL := 4) (k := 0) (v := 3) (lv' := [(2, .int (3)), (0, .ref (ad 0)), (1, .int n)]) hx hb d_md_boot_43 hl rfl (by decide) (by decide) rfl (fun ls hl => ?_)
  refine lv_goto hx hb d_md_boot_46 (tgt := 30) (by decide) ?_
  refine lv_iload_n hx hb d_md_boot_30 rfl (lv_at hl 0 rfl) ?_
  refine lv_bipush (v := 6) hx hb d_md_boot_31 (by decide) ?_
  refine lv_icmp_ge hx hb d_md_boot_33 (tgt := 49) (by decide) (fun z => absurd z (by decide)) (fun _ => ?_)
  refine lv_aload_n hx hb d_md_boot_36 rfl (lv_at hl 1 rfl) ?_
  refine va_get (D := D) (ci := 3) (v := .ref (ad 1)) (C := "MeasuredStagesModel") (T := F_md) (N := 19) hx hb hts (fun w h => List.mem_cons_of_mem _ (i_md w h)) hown hK hP 0 rfl rfl 0 (by decide) (hT _ tb_459) (fun _ h9 => h9) rfl d_md_boot_37 ?_
  refine lv_iload_n hx hb d_md_boot_40 rfl (lv_at hl 0 rfl) ?_
  refine lv_lconst (v := 0) hx hb d_md_boot_41 (by decide) ?_
  refine va_last hx hb hK hP hD hS 1 0 rfl rfl (by unfold vp_in; decide) d_md_boot_42 (fun H locs hP hD hS => ?_)
  have hP : va_P D cx (mv ad cs (sg_im u) (sg_ap u) (sg_ag u) (vp_updL (vp_updL (vp_updL (vp_updL (sg_he u) (0 : Int32).toNatClampNeg (0)) (1 : Int32).toNatClampNeg (0)) (2 : Int32).toNatClampNeg (0)) (3 : Int32).toNatClampNeg (0)) (sg_er u) (sg_ev u) (sg_en u) (sg_ma u) (sg_po u) (sg_se u) (sg_ac u) (sg_fa u) (sg_la u) (sg_st u) (jm_ag j) (jm_de j) (jm_ru j) (jm_nx j) (0)) H := hP
  have hD : va_D A (mv ad cs (sg_im u) (sg_ap u) (sg_ag u) (vp_updL (vp_updL (vp_updL (vp_updL (sg_he u) (0 : Int32).toNatClampNeg (0)) (1 : Int32).toNatClampNeg (0)) (2 : Int32).toNatClampNeg (0)) (3 : Int32).toNatClampNeg (0)) (sg_er u) (sg_ev u) (sg_en u) (sg_ma u) (sg_po u) (sg_se u) (sg_ac u) (sg_fa u) (sg_la u) (sg_st u) (jm_ag j) (jm_de j) (jm_ru j) (jm_nx j) (0)) := hD
  refine lv_iinc (nL := 4) (k := 0) (v := 4) (lv' := [(2, .int (4)), (0, .ref (ad 0)), (1, .int n)]) hx hb d_md_boot_43 hl rfl (by decide) (by decide) rfl (fun ls hl => ?_)
  refine lv_goto hx hb d_md_boot_46 (tgt := 30) (by decide) ?_
  refine lv_iload_n hx hb d_md_boot_30 rfl (lv_at hl 0 rfl) ?_
  refine lv_bipush (v := 6) hx hb d_md_boot_31 (by decide) ?_
  refine lv_icmp_ge hx hb d_md_boot_33 (tgt := 49) (by decide) (fun z => absurd z (by decide)) (fun _ => ?_)
  refine lv_aload_n hx hb d_md_boot_36 rfl (lv_at hl 1 rfl) ?_
  refine va_get (D := D) (ci := 3) (v := .ref (ad 1)) (C := "MeasuredStagesModel") (T := F_md) (N := 19) hx hb hts (fun w h => List.mem_cons_of_mem _ (i_md w h)) hown hK hP 0 rfl rfl 0 (by decide) (hT _ tb_459) (fun _ h9 => h9) rfl d_md_boot_37 ?_
  refine lv_iload_n hx hb d_md_boot_40 rfl (lv_at hl 0 rfl) ?_
  refine lv_lconst (v := 0) hx hb d_md_boot_41 (by decide) ?_
  refine va_last hx hb hK hP hD hS 1 0 rfl rfl (by unfold vp_in; decide) d_md_boot_42 (fun H locs hP hD hS => ?_)
  have hP : va_P D cx (mv ad cs (sg_im u) (sg_ap u) (sg_ag u) (vp_updL (vp_updL (vp_updL (vp_updL (vp_updL (sg_he u) (0 : Int32).toNatClampNeg (0)) (1 : Int32).toNatClampNeg (0)) (2 : Int32).toNatClampNeg (0)) (3 : Int32).toNatClampNeg (0)) (4 : Int32).toNatClampNeg (0)) (sg_er u) (sg_ev u) (sg_en u) (sg_ma u) (sg_po u) (sg_se u) (sg_ac u) (sg_fa u) (sg_la u) (sg_st u) (jm_ag j) (jm_de j) (jm_ru j) (jm_nx j) (0)) H := hP
  have hD : va_D A (mv ad cs (sg_im u) (sg_ap u) (sg_ag u) (vp_updL (vp_updL (vp_updL (vp_updL (vp_updL (sg_he u) (0 : Int32).toNatClampNeg (0)) (1 : Int32).toNatClampNeg (0)) (2 : Int32).toNatClampNeg (0)) (3 : Int32).toNatClampNeg (0)) (4 : Int32).toNatClampNeg (0)) (sg_er u) (sg_ev u) (sg_en u) (sg_ma u) (sg_po u) (sg_se u) (sg_ac u) (sg_fa u) (sg_la u) (sg_st u) (jm_ag j) (jm_de j) (jm_ru j) (jm_nx j) (0)) := hD
  refine lv_iinc (nL := 4) (k := 0) (v := 5) (lv' := [(2, .int (5)), (0, .ref (ad 0)), (1, .int n)]) hx hb d_md_boot_43 hl rfl (by decide) (by decide) rfl (fun ls hl => ?_)
  refine lv_goto hx hb d_md_boot_46 (tgt := 30) (by decide) ?_
  refine lv_iload_n hx hb d_md_boot_30 rfl (lv_at hl 0 rfl) ?_
  refine lv_bipush (v := 6) hx hb d_md_boot_31 (by decide) ?_
  refine lv_icmp_ge hx hb d_md_boot_33 (tgt := 49) (by decide) (fun z => absurd z (by decide)) (fun _ => ?_)
  refine lv_aload_n hx hb d_md_boot_36 rfl (lv_at hl 1 rfl) ?_
  refine va_get (D := D) (ci := 3) (v := .ref (ad 1)) (C := "MeasuredStagesModel") (T := F_md) (N := 19) hx hb hts (fun w h => List.mem_cons_of_mem _ (i_md w h)) hown hK hP 0 rfl rfl 0 (by decide) (hT _ tb_459) (fun _ h9 => h9) rfl d_md_boot_37 ?_
  refine lv_iload_n hx hb d_md_boot_40 rfl (lv_at hl 0 rfl) ?_
  refine lv_lconst (v := 0) hx hb d_md_boot_41 (by decide) ?_
  refine va_last hx hb hK hP hD hS 1 0 rfl rfl (by unfold vp_in; decide) d_md_boot_42 (fun H locs hP hD hS => ?_)
  have hP : va_P D cx (mv ad cs (sg_im u) (sg_ap u) (sg_ag u) (vp_updL (vp_updL (vp_updL (vp_updL (vp_updL (vp_updL (sg_he u) (0 : Int32).toNatClampNeg (0)) (1 : Int32).toNatClampNeg (0)) (2 : Int32).toNatClampNeg (0)) (3 : Int32).toNatClampNeg (0)) (4 : Int32).toNatClampNeg (0)) (5 : Int32).toNatClampNeg (0)) (sg_er u) (sg_ev u) (sg_en u) (sg_ma u) (sg_po u) (sg_se u) (sg_ac u) (sg_fa u) (sg_la u) (sg_st u) (jm_ag j) (jm_de j) (jm_ru j) (jm_nx j) (0)) H := hP
  have hD : va_D A (mv ad cs (sg_im u) (sg_ap u) (sg_ag u) (vp_updL (vp_updL (vp_updL (vp_updL (vp_updL (vp_updL (sg_he u) (0 : Int32).toNatClampNeg (0)) (1 : Int32).toNatClampNeg (0)) (2 : Int32).toNatClampNeg (0)) (3 : Int32).toNatClampNeg (0)) (4 : Int32).toNatClampNeg (0)) (5 : Int32).toNatClampNeg (0)) (sg_er u) (sg_ev u) (sg_en u) (sg_ma u) (sg_po u) (sg_se u) (sg_ac u) (sg_fa u) (sg_la u) (sg_st u) (jm_ag j) (jm_de j) (jm_ru j) (jm_nx j) (0)) := hD
  refine lv_iinc (nL := 4) (k := 0) (v := 6) (lv' := [(2, .int (6)), (0, .ref (ad 0)), (1, .int n)]) hx hb d_md_boot_43 hl rfl (by decide) (by decide) rfl (fun ls hl => ?_)
  refine lv_goto hx hb d_md_boot_46 (tgt := 30) (by decide) ?_
  refine lv_iload_n hx hb d_md_boot_30 rfl (lv_at hl 0 rfl) ?_
  refine lv_bipush (v := 6) hx hb d_md_boot_31 (by decide) ?_
  refine lv_icmp_ge hx hb d_md_boot_33 (tgt := 49) (by decide) (fun _ => ?_) (fun z => absurd (by decide) z)
  refine lv_aload_n hx hb d_md_boot_49 rfl (lv_at hl 1 rfl) ?_
  refine lv_lconst (v := 0) hx hb d_md_boot_50 (by decide) ?_
  refine va_put (D := D) (ci := 3) (v := .long (0)) (ty := .long) (C := "MeasuredStagesModel") (T := F_md) (N := 19) hx hb hts (fun w h => List.mem_cons_of_mem _ (i_md w h)) t_md o_md n_md hown hK hP hD hS 0 rfl rfl 11 (by decide) (hT _ tb_470) (fun _ h9 => h9) rfl (by decide +kernel) rfl rfl (Nat.le_of_ble_eq_true rfl) d_md_boot_51 (fun H locs hP hD hS => ?_)
  have hP : va_P D cx (mv ad cs (sg_im u) (sg_ap u) (sg_ag u) (vp_updL (vp_updL (vp_updL (vp_updL (vp_updL (vp_updL (sg_he u) (0 : Int32).toNatClampNeg (0)) (1 : Int32).toNatClampNeg (0)) (2 : Int32).toNatClampNeg (0)) (3 : Int32).toNatClampNeg (0)) (4 : Int32).toNatClampNeg (0)) (5 : Int32).toNatClampNeg (0)) (sg_er u) (sg_ev u) (sg_en u) (sg_ma u) (sg_po u) (sg_se u) (0) (sg_fa u) (sg_la u) (sg_st u) (jm_ag j) (jm_de j) (jm_ru j) (jm_nx j) (0)) H := hP
  have hD : va_D A (mv ad cs (sg_im u) (sg_ap u) (sg_ag u) (vp_updL (vp_updL (vp_updL (vp_updL (vp_updL (vp_updL (sg_he u) (0 : Int32).toNatClampNeg (0)) (1 : Int32).toNatClampNeg (0)) (2 : Int32).toNatClampNeg (0)) (3 : Int32).toNatClampNeg (0)) (4 : Int32).toNatClampNeg (0)) (5 : Int32).toNatClampNeg (0)) (sg_er u) (sg_ev u) (sg_en u) (sg_ma u) (sg_po u) (sg_se u) (0) (sg_fa u) (sg_la u) (sg_st u) (jm_ag j) (jm_de j) (jm_ru j) (jm_nx j) (0)) := hD
  refine lv_aload_n hx hb d_md_boot_54 rfl (lv_at hl 1 rfl) ?_
  refine lv_iconst (v := 0) hx hb d_md_boot_55 (by decide) ?_
  refine va_put (D := D) (ci := 3) (v := .int (0)) (ty := .int) (C := "MeasuredStagesModel") (T := F_md) (N := 19) hx hb hts (fun w h => List.mem_cons_of_mem _ (i_md w h)) t_md o_md n_md hown hK hP hD hS 0 rfl rfl 12 (by decide) (hT _ tb_471) (fun _ h9 => h9) rfl (by decide +kernel) rfl rfl (Nat.le_of_ble_eq_true rfl) d_md_boot_56 (fun H locs hP hD hS => ?_)
  have hP : va_P D cx (mv ad cs (sg_im u) (sg_ap u) (sg_ag u) (vp_updL (vp_updL (vp_updL (vp_updL (vp_updL (vp_updL (sg_he u) (0 : Int32).toNatClampNeg (0)) (1 : Int32).toNatClampNeg (0)) (2 : Int32).toNatClampNeg (0)) (3 : Int32).toNatClampNeg (0)) (4 : Int32).toNatClampNeg (0)) (5 : Int32).toNatClampNeg (0)) (sg_er u) (sg_ev u) (sg_en u) (sg_ma u) (sg_po u) (sg_se u) (0) (sg_fa u) (0) (sg_st u) (jm_ag j) (jm_de j) (jm_ru j) (jm_nx j) (0)) H := hP
  have hD : va_D A (mv ad cs (sg_im u) (sg_ap u) (sg_ag u) (vp_updL (vp_updL (vp_updL (vp_updL (vp_updL (vp_updL (sg_he u) (0 : Int32).toNatClampNeg (0)) (1 : Int32).toNatClampNeg (0)) (2 : Int32).toNatClampNeg (0)) (3 : Int32).toNatClampNeg (0)) (4 : Int32).toNatClampNeg (0)) (5 : Int32).toNatClampNeg (0)) (sg_er u) (sg_ev u) (sg_en u) (sg_ma u) (sg_po u) (sg_se u) (0) (sg_fa u) (0) (sg_st u) (jm_ag j) (jm_de j) (jm_ru j) (jm_nx j) (0)) := hD
  refine lv_aload_n hx hb d_md_boot_59 rfl (lv_at hl 1 rfl) ?_
  refine lv_iconst (v := 0) hx hb d_md_boot_60 (by decide) ?_
  refine va_put (D := D) (ci := 3) (v := .int (0)) (ty := .int) (C := "MeasuredStagesModel") (T := F_md) (N := 19) hx hb hts (fun w h => List.mem_cons_of_mem _ (i_md w h)) t_md o_md n_md hown hK hP hD hS 0 rfl rfl 13 (by decide) (hT _ tb_472) (fun _ h9 => h9) rfl (by decide +kernel) rfl rfl (Nat.le_of_ble_eq_true rfl) d_md_boot_61 (fun H locs hP hD hS => ?_)
  have hP : va_P D cx (mv ad cs (sg_im u) (sg_ap u) (sg_ag u) (vp_updL (vp_updL (vp_updL (vp_updL (vp_updL (vp_updL (sg_he u) (0 : Int32).toNatClampNeg (0)) (1 : Int32).toNatClampNeg (0)) (2 : Int32).toNatClampNeg (0)) (3 : Int32).toNatClampNeg (0)) (4 : Int32).toNatClampNeg (0)) (5 : Int32).toNatClampNeg (0)) (sg_er u) (sg_ev u) (sg_en u) (sg_ma u) (sg_po u) (sg_se u) (0) (sg_fa u) (0) (0) (jm_ag j) (jm_de j) (jm_ru j) (jm_nx j) (0)) H := hP
  have hD : va_D A (mv ad cs (sg_im u) (sg_ap u) (sg_ag u) (vp_updL (vp_updL (vp_updL (vp_updL (vp_updL (vp_updL (sg_he u) (0 : Int32).toNatClampNeg (0)) (1 : Int32).toNatClampNeg (0)) (2 : Int32).toNatClampNeg (0)) (3 : Int32).toNatClampNeg (0)) (4 : Int32).toNatClampNeg (0)) (5 : Int32).toNatClampNeg (0)) (sg_er u) (sg_ev u) (sg_en u) (sg_ma u) (sg_po u) (sg_se u) (0) (sg_fa u) (0) (0) (jm_ag j) (jm_de j) (jm_ru j) (jm_nx j) (0)) := hD
  refine lv_aload_n hx hb d_md_boot_64 rfl (lv_at hl 1 rfl) ?_
  refine lv_iconst (v := 0) hx hb d_md_boot_65 (by decide) ?_
  refine va_put (D := D) (ci := 3) (v := .int (0)) (ty := .int) (C := "MeasuredStagesModel") (T := F_md) (N := 19) hx hb hts (fun w h => List.mem_cons_of_mem _ (i_md w h)) t_md o_md n_md hown hK hP hD hS 0 rfl rfl 7 (by decide) (hT _ tb_466) (fun _ h9 => h9) rfl (by decide +kernel) rfl rfl (Nat.le_of_ble_eq_true rfl) d_md_boot_66 (fun H locs hP hD hS => ?_)
  have hP : va_P D cx (mv ad cs (sg_im u) (sg_ap u) (sg_ag u) (vp_updL (vp_updL (vp_updL (vp_updL (vp_updL (vp_updL (sg_he u) (0 : Int32).toNatClampNeg (0)) (1 : Int32).toNatClampNeg (0)) (2 : Int32).toNatClampNeg (0)) (3 : Int32).toNatClampNeg (0)) (4 : Int32).toNatClampNeg (0)) (5 : Int32).toNatClampNeg (0)) (sg_er u) (sg_ev u) (0) (sg_ma u) (sg_po u) (sg_se u) (0) (sg_fa u) (0) (0) (jm_ag j) (jm_de j) (jm_ru j) (jm_nx j) (0)) H := hP
  have hD : va_D A (mv ad cs (sg_im u) (sg_ap u) (sg_ag u) (vp_updL (vp_updL (vp_updL (vp_updL (vp_updL (vp_updL (sg_he u) (0 : Int32).toNatClampNeg (0)) (1 : Int32).toNatClampNeg (0)) (2 : Int32).toNatClampNeg (0)) (3 : Int32).toNatClampNeg (0)) (4 : Int32).toNatClampNeg (0)) (5 : Int32).toNatClampNeg (0)) (sg_er u) (sg_ev u) (0) (sg_ma u) (sg_po u) (sg_se u) (0) (sg_fa u) (0) (0) (jm_ag j) (jm_de j) (jm_ru j) (jm_nx j) (0)) := hD
  refine lv_aload_n hx hb d_md_boot_69 rfl (lv_at hl 1 rfl) ?_
  refine lv_iconst (v := 0) hx hb d_md_boot_70 (by decide) ?_
  refine va_put (D := D) (ci := 3) (v := .int (0)) (ty := .int) (C := "MeasuredStagesModel") (T := F_md) (N := 19) hx hb hts (fun w h => List.mem_cons_of_mem _ (i_md w h)) t_md o_md n_md hown hK hP hD hS 0 rfl rfl 14 (by decide) (hT _ tb_473) (fun _ h9 => h9) rfl (by decide +kernel) rfl rfl (Nat.le_of_ble_eq_true rfl) d_md_boot_71 (fun H locs hP hD hS => ?_)
  have hP : va_P D cx (mv ad cs (sg_im u) (sg_ap u) (sg_ag u) (vp_updL (vp_updL (vp_updL (vp_updL (vp_updL (vp_updL (sg_he u) (0 : Int32).toNatClampNeg (0)) (1 : Int32).toNatClampNeg (0)) (2 : Int32).toNatClampNeg (0)) (3 : Int32).toNatClampNeg (0)) (4 : Int32).toNatClampNeg (0)) (5 : Int32).toNatClampNeg (0)) (sg_er u) (sg_ev u) (0) (sg_ma u) (sg_po u) (sg_se u) (0) (0) (0) (0) (jm_ag j) (jm_de j) (jm_ru j) (jm_nx j) (0)) H := hP
  have hD : va_D A (mv ad cs (sg_im u) (sg_ap u) (sg_ag u) (vp_updL (vp_updL (vp_updL (vp_updL (vp_updL (vp_updL (sg_he u) (0 : Int32).toNatClampNeg (0)) (1 : Int32).toNatClampNeg (0)) (2 : Int32).toNatClampNeg (0)) (3 : Int32).toNatClampNeg (0)) (4 : Int32).toNatClampNeg (0)) (5 : Int32).toNatClampNeg (0)) (sg_er u) (sg_ev u) (0) (sg_ma u) (sg_po u) (sg_se u) (0) (0) (0) (0) (jm_ag j) (jm_de j) (jm_ru j) (jm_nx j) (0)) := hD
  obtain ⟨v1, ev1⟩ : ∃ z : Sg, z = (sg_im u, sg_ap u, sg_ag u, vp_updL (vp_updL (vp_updL (vp_updL (vp_updL (vp_updL (sg_he u) (0 : Int32).toNatClampNeg (0)) (1 : Int32).toNatClampNeg (0)) (2 : Int32).toNatClampNeg (0)) (3 : Int32).toNatClampNeg (0)) (4 : Int32).toNatClampNeg (0)) (5 : Int32).toNatClampNeg (0), sg_er u, sg_ev u, 0, sg_ma u, sg_po u, sg_se u, 0, 0, 0, 0) := ⟨_, rfl⟩
  obtain ⟨q2, eq2⟩ : ∃ z : Jm, z = (jm_ag j, jm_de j, jm_ru j, jm_nx j, 0) := ⟨_, rfl⟩
  have hP : va_P D cx (mw ad cs v1 q2) H := by rw [ev1, eq2, mw_uj]; exact hP
  have hD : va_D A (mw ad cs v1 q2) := by rw [ev1, eq2, mw_uj]; exact hD
  have ecv1 : v1 = sp_cl u := ev1.trans (cm_run u)
  refine lv_aload_n hx hb d_md_boot_74 rfl (lv_at hl 1 rfl) ?_
  refine lv_iload_n hx hb d_md_boot_75 rfl (lv_at hl 2 rfl) ?_
  refine lv_iconst (v := 0) hx hb d_md_boot_76 (by decide) ?_
  refine mw_wri (v := 1) (u' := (fun v : Sg => ss_la v (sg_la v + 1)) (sp_no v1 (0) (sp_di v1 n))) (As := [.int n, .int (0)]) (rest := []) ⟨hx, hb, hml, hown, hts⟩ (c_md_launch l D cs ad _ v1 q2 n 0 hn z_in6 (by rw [ecv1]; exact z_in32)) tb_544 tb_546 sl_16 tb_4 tb_547 ⟨rfl, hd_md_launch⟩ ⟨Nat.le_of_ble_eq_true rfl, Nat.le_of_ble_eq_true rfl⟩ rfl rfl hK hP hD hN 0 3 rfl rfl hl.1 rfl (Nat.le_of_ble_eq_true rfl) d_md_boot_77 ⟨Nat.zero_le _, Nat.zero_le _⟩ hS hA (fun j3 H locs hj4 hP hD hS => ?_)
  obtain ⟨v5, ev5⟩ : ∃ z : Sg, z = (fun v : Sg => ss_la v (sg_la v + 1)) (sp_no v1 (0) (sp_di v1 n)) := ⟨_, rfl⟩
  rw [← ev5] at hP hD
  refine lv_istore_n (nL := 4) (lv' := [(2, .int (1)), (0, .ref (ad 0)), (1, .int n)]) hx hb d_md_boot_80 rfl hl (by decide) rfl (fun ls hl => ?_)
  refine lv_iconst (v := 0) hx hb d_md_boot_81 (by decide) ?_
  refine lv_istore_n (nL := 4) (lv' := [(3, .int (0)), (2, .int (1)), (0, .ref (ad 0)), (1, .int n)]) hx hb d_md_boot_82 rfl hl (by decide) rfl (fun ls hl => ?_)
  have hde := de_la v1 _ n _ hj4 hn
  have hU : (sp_rn 101 (mb v5 j3)).1 = sp_bo u n := by rw [ev5, mb_la _ _ _ _ hj4, ecv1]; exact bo_eq hok
  have hok1 : sp_ok v5 := by rw [ev5, ecv1]; exact ok_la0 (b := (sp_cl u, 0, fun _ => 0, fun _ => 0)) hok rfl
  have hst : sg_st v5 = nI 0 := by rw [ev5, ecv1]; exact st_la0 u n 0 (fun _ => 0) (fun _ => 0)
  have hfa : sg_fa v5 = 0 := by rw [ev5, ecv1]; exact fa_la0 u n 0 (fun _ => 0) (fun _ => 0)
  refine wl_up (α := Sg × Jm) 100 (fun r H1 L1 ls a => lv_has ls 4 [(3, .int (nI r)), (2, .int (1)), (0, .ref (ad 0)), (1, .int n)] ∧ va_P D cx (mw ad cs a.1 a.2) H1 ∧ va_D A (mw ad cs a.1 a.2) ∧ va_S A s.heap H1 L1 ∧ sp_ok a.1 ∧ sg_fa a.1 = 0 ∧ sg_st a.1 = nI r ∧ (vp_in (jm_de a.2) 6 ∨ jm_de a.2 = -1) ∧ (∀ k : Nat, k ≤ (jm_de a.2).toNatClampNeg → vp_in (jm_ru a.2 k) 8) ∧ (sp_rn (101 - r) (mb a.1 a.2)).1 = sp_bo u n) 83 ?_ ?_ 0 _ _ ls (v5, j3) (Nat.zero_le _) ⟨lv_sub hl [0, 1, 2, 3] rfl, hP, hD, hS, hok1, hfa, hst, Or.inl hde.1, hde.2, hU⟩
  · intro H L ls a hI
    clear hde hU hok1 hst hfa
    obtain ⟨v1, j1⟩ := a
    obtain ⟨hl, hP, hD, hS, hok1, hfa, hst, hde, hro, hU⟩ := hI
    have hl : lv_has ls 4 [(3, .int (nI 100)), (2, .int (1)), (0, .ref (ad 0)), (1, .int n)] := hl
    have hP : va_P D cx (mw ad cs v1 j1) H := hP
    have hD : va_D A (mw ad cs v1 j1) := hD
    have hok1 : sp_ok v1 := hok1
    have hfa : sg_fa v1 = 0 := hfa
    have hst : sg_st v1 = nI 100 := hst
    have hde : vp_in (jm_de j1) 6 ∨ jm_de j1 = -1 := hde
    have hro : ∀ k : Nat, k ≤ (jm_de j1).toNatClampNeg → vp_in (jm_ru j1 k) 8 := hro
    have hU : (sp_rn (101 - 100) (mb v1 j1)).1 = sp_bo u n := hU
    rcases hde with hde | hde
    · skip
      refine lv_iload_n hx hb d_md_boot_83 rfl (lv_at hl 0 rfl) ?_
      refine lv_sipush (v := 200) hx hb d_md_boot_84 (by decide) ?_
      refine lv_icmp_ge hx hb d_md_boot_87 (tgt := 159) (by decide) (fun z => absurd z (lt200 (by omega))) (fun _ => ?_)
      refine lv_aload_n hx hb d_md_boot_90 rfl (lv_at hl 2 rfl) ?_
      refine va_get (D := D) (ci := 3) (v := .int (jm_de j1)) (C := "MeasuredStagesModel") (T := F_md) (N := 19) hx hb hts (fun w h => List.mem_cons_of_mem _ (i_md w h)) hown hK hP 0 rfl rfl 15 (by decide) (hT _ tb_474) (fun _ h9 => h9) rfl d_md_boot_91 ?_
      refine lv_if_lt hx hb d_md_boot_94 (tgt := 159) (by decide) (fun z => absurd z (xn_ge hde)) (fun _ => ?_)
      refine lv_aload_n hx hb d_md_boot_97 rfl (lv_at hl 2 rfl) ?_
      refine va_get (D := D) (ci := 3) (v := .int (sg_fa v1)) (C := "MeasuredStagesModel") (T := F_md) (N := 19) hx hb hts (fun w h => List.mem_cons_of_mem _ (i_md w h)) hown hK hP 0 rfl rfl 14 (by decide) (hT _ tb_473) (fun _ h9 => h9) rfl d_md_boot_98 ?_
      refine lv_if_ne hx hb d_md_boot_101 (tgt := 159) (by decide) (fun z => absurd hfa z) (fun _ => ?_)
      refine lv_iload_n hx hb d_md_boot_104 rfl (lv_at hl 1 rfl) ?_
      refine lv_if_eq hx hb d_md_boot_105 (tgt := 159) (by decide) (fun z => absurd z (by decide)) (fun _ => ?_)
      refine lv_aload_n hx hb d_md_boot_108 rfl (lv_at hl 2 rfl) ?_
      refine lv_aload_n hx hb d_md_boot_109 rfl (lv_at hl 2 rfl) ?_
      refine va_get (D := D) (ci := 3) (v := .int (sg_st v1)) (C := "MeasuredStagesModel") (T := F_md) (N := 19) hx hb hts (fun w h => List.mem_cons_of_mem _ (i_md w h)) hown hK hP 0 rfl rfl 13 (by decide) (hT _ tb_472) (fun _ h9 => h9) rfl d_md_boot_110 ?_
      refine lv_bipush (v := 100) hx hb d_md_boot_113 (by decide) ?_
      refine lv_icmp_ne hx hb d_md_boot_115 (tgt := 122) (by decide) (fun z => absurd hst z) (fun _ => ?_)
      refine lv_iconst (v := 3) hx hb d_md_boot_118 (by decide) ?_
      refine lv_goto hx hb d_md_boot_119 (tgt := 126) (by decide) ?_
      refine va_put (D := D) (ci := 3) (v := .int (3)) (ty := .int) (C := "MeasuredStagesModel") (T := F_md) (N := 19) hx hb hts (fun w h => List.mem_cons_of_mem _ (i_md w h)) t_md o_md n_md hown hK hP hD hS 0 rfl rfl 14 (by decide) (hT _ tb_473) (fun _ h9 => h9) rfl (by decide +kernel) rfl rfl (Nat.le_of_ble_eq_true rfl) d_md_boot_126 (fun H locs hP hD hS => ?_)
      have hP : va_P D cx (mv ad cs (sg_im v1) (sg_ap v1) (sg_ag v1) (sg_he v1) (sg_er v1) (sg_ev v1) (sg_en v1) (sg_ma v1) (sg_po v1) (sg_se v1) (sg_ac v1) (3) (sg_la v1) (sg_st v1) (jm_ag j1) (jm_de j1) (jm_ru j1) (jm_nx j1) (jm_th j1)) H := hP
      have hD : va_D A (mv ad cs (sg_im v1) (sg_ap v1) (sg_ag v1) (sg_he v1) (sg_er v1) (sg_ev v1) (sg_en v1) (sg_ma v1) (sg_po v1) (sg_se v1) (sg_ac v1) (3) (sg_la v1) (sg_st v1) (jm_ag j1) (jm_de j1) (jm_ru j1) (jm_nx j1) (jm_th j1)) := hD
      refine lv_aload_n hx hb d_md_boot_129 rfl (lv_at hl 2 rfl) ?_
      refine lv_aload_n hx hb d_md_boot_130 rfl (lv_at hl 2 rfl) ?_
      refine va_get (D := D) (ci := 3) (v := .int (3)) (C := "MeasuredStagesModel") (T := F_md) (N := 19) hx hb hts (fun w h => List.mem_cons_of_mem _ (i_md w h)) hown hK hP 0 rfl rfl 14 (by decide) (hT _ tb_473) (fun _ h9 => h9) rfl d_md_boot_131 ?_
      refine lv_if_ne hx hb d_md_boot_134 (tgt := 146) (by decide) (fun _ => ?_) (fun z => absurd z (by decide))
      refine lv_aload_n hx hb d_md_boot_146 rfl (lv_at hl 2 rfl) ?_
      refine va_get (D := D) (ci := 3) (v := .int (sg_st v1)) (C := "MeasuredStagesModel") (T := F_md) (N := 19) hx hb hts (fun w h => List.mem_cons_of_mem _ (i_md w h)) hown hK hP 0 rfl rfl 13 (by decide) (hT _ tb_472) (fun _ h9 => h9) rfl d_md_boot_147 ?_
      refine va_put (D := D) (ci := 3) (v := .int (sg_st v1)) (ty := .int) (C := "MeasuredStagesModel") (T := F_md) (N := 19) hx hb hts (fun w h => List.mem_cons_of_mem _ (i_md w h)) t_md o_md n_md hown hK hP hD hS 0 rfl rfl 13 (by decide) (hT _ tb_472) (fun _ h9 => h9) rfl (by decide +kernel) rfl rfl (Nat.le_of_ble_eq_true rfl) d_md_boot_150 (fun H locs hP hD hS => ?_)
      have hP : va_P D cx (mv ad cs (sg_im v1) (sg_ap v1) (sg_ag v1) (sg_he v1) (sg_er v1) (sg_ev v1) (sg_en v1) (sg_ma v1) (sg_po v1) (sg_se v1) (sg_ac v1) (3) (sg_la v1) (sg_st v1) (jm_ag j1) (jm_de j1) (jm_ru j1) (jm_nx j1) (jm_th j1)) H := hP
      have hD : va_D A (mv ad cs (sg_im v1) (sg_ap v1) (sg_ag v1) (sg_he v1) (sg_er v1) (sg_ev v1) (sg_en v1) (sg_ma v1) (sg_po v1) (sg_se v1) (sg_ac v1) (3) (sg_la v1) (sg_st v1) (jm_ag j1) (jm_de j1) (jm_ru j1) (jm_nx j1) (jm_th j1)) := hD
      refine lv_iinc (nL := 4) (k := 0) (v := nI 101) (lv' := [(3, .int (nI 101)), (2, .int (1)), (0, .ref (ad 0)), (1, .int n)]) hx hb d_md_boot_153 hl rfl (by decide) (by decide) rfl (fun ls hl => ?_)
      refine lv_goto hx hb d_md_boot_156 (tgt := 83) (by decide) ?_
      refine lv_iload_n hx hb d_md_boot_83 rfl (lv_at hl 0 rfl) ?_
      refine lv_sipush (v := 200) hx hb d_md_boot_84 (by decide) ?_
      refine lv_icmp_ge hx hb d_md_boot_87 (tgt := 159) (by decide) (fun z => absurd z (lt200 (by omega))) (fun _ => ?_)
      refine lv_aload_n hx hb d_md_boot_90 rfl (lv_at hl 2 rfl) ?_
      refine va_get (D := D) (ci := 3) (v := .int (jm_de j1)) (C := "MeasuredStagesModel") (T := F_md) (N := 19) hx hb hts (fun w h => List.mem_cons_of_mem _ (i_md w h)) hown hK hP 0 rfl rfl 15 (by decide) (hT _ tb_474) (fun _ h9 => h9) rfl d_md_boot_91 ?_
      refine lv_if_lt hx hb d_md_boot_94 (tgt := 159) (by decide) (fun z => absurd z (xn_ge hde)) (fun _ => ?_)
      refine lv_aload_n hx hb d_md_boot_97 rfl (lv_at hl 2 rfl) ?_
      refine va_get (D := D) (ci := 3) (v := .int (3)) (C := "MeasuredStagesModel") (T := F_md) (N := 19) hx hb hts (fun w h => List.mem_cons_of_mem _ (i_md w h)) hown hK hP 0 rfl rfl 14 (by decide) (hT _ tb_473) (fun _ h9 => h9) rfl d_md_boot_98 ?_
      refine lv_if_ne hx hb d_md_boot_101 (tgt := 159) (by decide) (fun _ => ?_) (fun z => absurd z (by decide))
      obtain ⟨v6, ev6⟩ : ∃ z : Sg, z = (sg_im v1, sg_ap v1, sg_ag v1, sg_he v1, sg_er v1, sg_ev v1, sg_en v1, sg_ma v1, sg_po v1, sg_se v1, sg_ac v1, 3, sg_la v1, sg_st v1) := ⟨_, rfl⟩
      have hP : va_P D cx (mw ad cs v6 j1) H := by rw [ev6, mw_u]; exact hP
      have hD : va_D A (mw ad cs v6 j1) := by rw [ev6, mw_u]; exact hD
      have eU : ss_fa v1 3 = sp_bo u n := by rw [← hU]; exact (congrArg Prod.fst (rn_tired 0 (mb v1 j1) hde hst)).symm
      have eU : v6 = sp_bo u n := (show v6 = ss_fa v1 3 from ev6).trans eU
      rw [eU] at hP hD
      refine lv_aload_n hx hb d_md_boot_159 rfl (lv_at hl 2 rfl) ?_
      refine lv_aload_n hx hb d_md_boot_160 rfl (lv_at hl 2 rfl) ?_
      refine va_get (D := D) (ci := 3) (v := .int (sg_fa (sp_bo u n))) (C := "MeasuredStagesModel") (T := F_md) (N := 19) hx hb hts (fun w h => List.mem_cons_of_mem _ (i_md w h)) hown hK hP 0 rfl rfl 14 (by decide) (hT _ tb_473) (fun _ h9 => h9) rfl d_md_boot_161 ?_
      refine lv_if_eq hx hb d_md_boot_164 (tgt := 171) (by decide) (fun z => absurd z hf) (fun _ => ?_)
      refine lv_iconst (v := 2) hx hb d_md_boot_167 (by decide) ?_
      refine lv_goto hx hb d_md_boot_168 (tgt := 172) (by decide) ?_
      refine va_put (D := D) (ci := 3) (v := .int (2)) (ty := .int) (C := "MeasuredStagesModel") (T := F_md) (N := 19) hx hb hts (fun w h => List.mem_cons_of_mem _ (i_md w h)) t_md o_md n_md hown hK hP hD hS 0 rfl rfl 18 (by decide) (hT _ tb_477) (fun _ h9 => h9) rfl (by decide +kernel) rfl rfl (Nat.le_of_ble_eq_true rfl) d_md_boot_172 (fun H locs hP hD hS => ?_)
      have hP : va_P D cx (mv ad cs (sg_im (sp_bo u n)) (sg_ap (sp_bo u n)) (sg_ag (sp_bo u n)) (sg_he (sp_bo u n)) (sg_er (sp_bo u n)) (sg_ev (sp_bo u n)) (sg_en (sp_bo u n)) (sg_ma (sp_bo u n)) (sg_po (sp_bo u n)) (sg_se (sp_bo u n)) (sg_ac (sp_bo u n)) (sg_fa (sp_bo u n)) (sg_la (sp_bo u n)) (sg_st (sp_bo u n)) (jm_ag j1) (jm_de j1) (jm_ru j1) (jm_nx j1) (2)) H := hP
      have hD : va_D A (mv ad cs (sg_im (sp_bo u n)) (sg_ap (sp_bo u n)) (sg_ag (sp_bo u n)) (sg_he (sp_bo u n)) (sg_er (sp_bo u n)) (sg_ev (sp_bo u n)) (sg_en (sp_bo u n)) (sg_ma (sp_bo u n)) (sg_po (sp_bo u n)) (sg_se (sp_bo u n)) (sg_ac (sp_bo u n)) (sg_fa (sp_bo u n)) (sg_la (sp_bo u n)) (sg_st (sp_bo u n)) (jm_ag j1) (jm_de j1) (jm_ru j1) (jm_nx j1) (2)) := hD
      refine lv_aload_n hx hb d_md_boot_175 rfl (lv_at hl 2 rfl) ?_
      refine va_get (D := D) (ci := 3) (v := .int (sg_fa (sp_bo u n))) (C := "MeasuredStagesModel") (T := F_md) (N := 19) hx hb hts (fun w h => List.mem_cons_of_mem _ (i_md w h)) hown hK hP 0 rfl rfl 14 (by decide) (hT _ tb_473) (fun _ h9 => h9) rfl d_md_boot_176 ?_
      refine lv_if_eq hx hb d_md_boot_179 (tgt := 186) (by decide) (fun z => absurd z hf) (fun _ => ?_)
      refine lv_iconst (v := 0) hx hb d_md_boot_182 (by decide) ?_
      refine lv_goto hx hb d_md_boot_183 (tgt := 190) (by decide) ?_
      obtain ⟨q7, eq7⟩ : ∃ z : Jm, z = (jm_ag j1, jm_de j1, jm_ru j1, jm_nx j1, 2) := ⟨_, rfl⟩
      have hP : va_P D cx (mw ad cs (sp_bo u n) q7) H := by rw [eq7, mw_j]; exact hP
      have hD : va_D A (mw ad cs (sp_bo u n) q7) := by rw [eq7, mw_j]; exact hD
      exact W.iret hx hb hret (fun t ht hW => ⟨⟨_, q7, rfl, ⟨rfl, (by subst eq7; rfl)⟩, by rw [ht]; exact hP, va_K.moved hW.alike hK, hD⟩, hS.F ht⟩) hS.2.2 d_md_boot_190
    · skip
      refine lv_iload_n hx hb d_md_boot_83 rfl (lv_at hl 0 rfl) ?_
      refine lv_sipush (v := 200) hx hb d_md_boot_84 (by decide) ?_
      refine lv_icmp_ge hx hb d_md_boot_87 (tgt := 159) (by decide) (fun z => absurd z (lt200 (by omega))) (fun _ => ?_)
      refine lv_aload_n hx hb d_md_boot_90 rfl (lv_at hl 2 rfl) ?_
      refine va_get (D := D) (ci := 3) (v := .int (jm_de j1)) (C := "MeasuredStagesModel") (T := F_md) (N := 19) hx hb hts (fun w h => List.mem_cons_of_mem _ (i_md w h)) hown hK hP 0 rfl rfl 15 (by decide) (hT _ tb_474) (fun _ h9 => h9) rfl d_md_boot_91 ?_
      refine lv_if_lt hx hb d_md_boot_94 (tgt := 159) (by decide) (fun _ => ?_) (fun z => absurd (by rw [hde]; decide) z)
      have eU : v1 = sp_bo u n := by rw [← hU]; exact (congrArg Prod.fst (rn_end 0 (mb v1 j1) hde)).symm
      rw [eU] at hP hD
      refine lv_aload_n hx hb d_md_boot_159 rfl (lv_at hl 2 rfl) ?_
      refine lv_aload_n hx hb d_md_boot_160 rfl (lv_at hl 2 rfl) ?_
      refine va_get (D := D) (ci := 3) (v := .int (sg_fa (sp_bo u n))) (C := "MeasuredStagesModel") (T := F_md) (N := 19) hx hb hts (fun w h => List.mem_cons_of_mem _ (i_md w h)) hown hK hP 0 rfl rfl 14 (by decide) (hT _ tb_473) (fun _ h9 => h9) rfl d_md_boot_161 ?_
      refine lv_if_eq hx hb d_md_boot_164 (tgt := 171) (by decide) (fun z => absurd z hf) (fun _ => ?_)
      refine lv_iconst (v := 2) hx hb d_md_boot_167 (by decide) ?_
      refine lv_goto hx hb d_md_boot_168 (tgt := 172) (by decide) ?_
      refine va_put (D := D) (ci := 3) (v := .int (2)) (ty := .int) (C := "MeasuredStagesModel") (T := F_md) (N := 19) hx hb hts (fun w h => List.mem_cons_of_mem _ (i_md w h)) t_md o_md n_md hown hK hP hD hS 0 rfl rfl 18 (by decide) (hT _ tb_477) (fun _ h9 => h9) rfl (by decide +kernel) rfl rfl (Nat.le_of_ble_eq_true rfl) d_md_boot_172 (fun H locs hP hD hS => ?_)
      have hP : va_P D cx (mv ad cs (sg_im (sp_bo u n)) (sg_ap (sp_bo u n)) (sg_ag (sp_bo u n)) (sg_he (sp_bo u n)) (sg_er (sp_bo u n)) (sg_ev (sp_bo u n)) (sg_en (sp_bo u n)) (sg_ma (sp_bo u n)) (sg_po (sp_bo u n)) (sg_se (sp_bo u n)) (sg_ac (sp_bo u n)) (sg_fa (sp_bo u n)) (sg_la (sp_bo u n)) (sg_st (sp_bo u n)) (jm_ag j1) (jm_de j1) (jm_ru j1) (jm_nx j1) (2)) H := hP
      have hD : va_D A (mv ad cs (sg_im (sp_bo u n)) (sg_ap (sp_bo u n)) (sg_ag (sp_bo u n)) (sg_he (sp_bo u n)) (sg_er (sp_bo u n)) (sg_ev (sp_bo u n)) (sg_en (sp_bo u n)) (sg_ma (sp_bo u n)) (sg_po (sp_bo u n)) (sg_se (sp_bo u n)) (sg_ac (sp_bo u n)) (sg_fa (sp_bo u n)) (sg_la (sp_bo u n)) (sg_st (sp_bo u n)) (jm_ag j1) (jm_de j1) (jm_ru j1) (jm_nx j1) (2)) := hD
      refine lv_aload_n hx hb d_md_boot_175 rfl (lv_at hl 2 rfl) ?_
      refine va_get (D := D) (ci := 3) (v := .int (sg_fa (sp_bo u n))) (C := "MeasuredStagesModel") (T := F_md) (N := 19) hx hb hts (fun w h => List.mem_cons_of_mem _ (i_md w h)) hown hK hP 0 rfl rfl 14 (by decide) (hT _ tb_473) (fun _ h9 => h9) rfl d_md_boot_176 ?_
      refine lv_if_eq hx hb d_md_boot_179 (tgt := 186) (by decide) (fun z => absurd z hf) (fun _ => ?_)
      refine lv_iconst (v := 0) hx hb d_md_boot_182 (by decide) ?_
      refine lv_goto hx hb d_md_boot_183 (tgt := 190) (by decide) ?_
      obtain ⟨q8, eq8⟩ : ∃ z : Jm, z = (jm_ag j1, jm_de j1, jm_ru j1, jm_nx j1, 2) := ⟨_, rfl⟩
      have hP : va_P D cx (mw ad cs (sp_bo u n) q8) H := by rw [eq8, mw_j]; exact hP
      have hD : va_D A (mw ad cs (sp_bo u n) q8) := by rw [eq8, mw_j]; exact hD
      exact W.iret hx hb hret (fun t ht hW => ⟨⟨_, q8, rfl, ⟨rfl, (by subst eq8; rfl)⟩, by rw [ht]; exact hP, va_K.moved hW.alike hK, hD⟩, hS.F ht⟩) hS.2.2 d_md_boot_190
  · intro r H L ls a hr hI ih
    clear hde hU hok1 hst hfa
    obtain ⟨v1, j1⟩ := a
    obtain ⟨hl, hP, hD, hS, hok1, hfa, hst, hde, hro, hU⟩ := hI
    have hl : lv_has ls 4 [(3, .int (nI r)), (2, .int (1)), (0, .ref (ad 0)), (1, .int n)] := hl
    have hP : va_P D cx (mw ad cs v1 j1) H := hP
    have hD : va_D A (mw ad cs v1 j1) := hD
    have hok1 : sp_ok v1 := hok1
    have hfa : sg_fa v1 = 0 := hfa
    have hst : sg_st v1 = nI r := hst
    have hde : vp_in (jm_de j1) 6 ∨ jm_de j1 = -1 := hde
    have hro : ∀ k : Nat, k ≤ (jm_de j1).toNatClampNeg → vp_in (jm_ru j1 k) 8 := hro
    have hU : (sp_rn (101 - r) (mb v1 j1)).1 = sp_bo u n := hU
    rw [show 101 - r = (100 - r) + 1 by omega] at hU
    rcases hde with hde | hde
    · skip
      have hs1 : ¬ sg_st v1 = 100 := by rw [hst]; exact n100 hr
      by_cases hi : sp_if (mb v1 j1) = 0
      · skip
        refine lv_iload_n hx hb d_md_boot_83 rfl (lv_at hl 0 rfl) ?_
        refine lv_sipush (v := 200) hx hb d_md_boot_84 (by decide) ?_
        refine lv_icmp_ge hx hb d_md_boot_87 (tgt := 159) (by decide) (fun z => absurd z (lt200 (by omega))) (fun _ => ?_)
        refine lv_aload_n hx hb d_md_boot_90 rfl (lv_at hl 2 rfl) ?_
        refine va_get (D := D) (ci := 3) (v := .int (jm_de j1)) (C := "MeasuredStagesModel") (T := F_md) (N := 19) hx hb hts (fun w h => List.mem_cons_of_mem _ (i_md w h)) hown hK hP 0 rfl rfl 15 (by decide) (hT _ tb_474) (fun _ h9 => h9) rfl d_md_boot_91 ?_
        refine lv_if_lt hx hb d_md_boot_94 (tgt := 159) (by decide) (fun z => absurd z (xn_ge hde)) (fun _ => ?_)
        refine lv_aload_n hx hb d_md_boot_97 rfl (lv_at hl 2 rfl) ?_
        refine va_get (D := D) (ci := 3) (v := .int (sg_fa v1)) (C := "MeasuredStagesModel") (T := F_md) (N := 19) hx hb hts (fun w h => List.mem_cons_of_mem _ (i_md w h)) hown hK hP 0 rfl rfl 14 (by decide) (hT _ tb_473) (fun _ h9 => h9) rfl d_md_boot_98 ?_
        refine lv_if_ne hx hb d_md_boot_101 (tgt := 159) (by decide) (fun z => absurd hfa z) (fun _ => ?_)
        refine lv_iload_n hx hb d_md_boot_104 rfl (lv_at hl 1 rfl) ?_
        refine lv_if_eq hx hb d_md_boot_105 (tgt := 159) (by decide) (fun z => absurd z (by decide)) (fun _ => ?_)
        refine lv_aload_n hx hb d_md_boot_108 rfl (lv_at hl 2 rfl) ?_
        refine lv_aload_n hx hb d_md_boot_109 rfl (lv_at hl 2 rfl) ?_
        refine va_get (D := D) (ci := 3) (v := .int (sg_st v1)) (C := "MeasuredStagesModel") (T := F_md) (N := 19) hx hb hts (fun w h => List.mem_cons_of_mem _ (i_md w h)) hown hK hP 0 rfl rfl 13 (by decide) (hT _ tb_472) (fun _ h9 => h9) rfl d_md_boot_110 ?_
        refine lv_bipush (v := 100) hx hb d_md_boot_113 (by decide) ?_
        refine lv_icmp_ne hx hb d_md_boot_115 (tgt := 122) (by decide) (fun _ => ?_) (fun z => absurd z hs1)
        refine lv_aload_n hx hb d_md_boot_122 rfl (lv_at hl 2 rfl) ?_
        refine mw_wri (v := 0) (u' := (sp_in (mb v1 j1)).1) (As := []) (rest := [.ref (ad 0)]) ⟨hx, hb, hml, hown, hts⟩ (c_md_instruction l D cs ad _ v1 j1 hde hok1 (hro _ (Nat.le_refl _)) hi) tb_552 tb_554 sl_18 tb_4 tb_555 ⟨rfl, hd_md_instruction⟩ ⟨Nat.le_of_ble_eq_true rfl, Nat.le_of_ble_eq_true rfl⟩ rfl rfl hK hP hD hN 0 3 rfl rfl hl.1 rfl (Nat.le_of_ble_eq_true rfl) d_md_boot_123 ⟨Nat.zero_le _, Nat.zero_le _⟩ hS hA (fun j9 H locs hj10 hP hD hS => ?_)
        obtain ⟨v11, ev11⟩ : ∃ z : Sg, z = (sp_in (mb v1 j1)).1 := ⟨_, rfl⟩
        rw [← ev11] at hP hD
        refine va_put (D := D) (ci := 3) (v := .int (0)) (ty := .int) (C := "MeasuredStagesModel") (T := F_md) (N := 19) hx hb hts (fun w h => List.mem_cons_of_mem _ (i_md w h)) t_md o_md n_md hown hK hP hD hS 0 rfl rfl 14 (by decide) (hT _ tb_473) (fun _ h9 => h9) rfl (by decide +kernel) rfl rfl (Nat.le_of_ble_eq_true rfl) d_md_boot_126 (fun H locs hP hD hS => ?_)
        have hP : va_P D cx (mv ad cs (sg_im v11) (sg_ap v11) (sg_ag v11) (sg_he v11) (sg_er v11) (sg_ev v11) (sg_en v11) (sg_ma v11) (sg_po v11) (sg_se v11) (sg_ac v11) (0) (sg_la v11) (sg_st v11) (jm_ag j9) (jm_de j9) (jm_ru j9) (jm_nx j9) (jm_th j9)) H := hP
        have hD : va_D A (mv ad cs (sg_im v11) (sg_ap v11) (sg_ag v11) (sg_he v11) (sg_er v11) (sg_ev v11) (sg_en v11) (sg_ma v11) (sg_po v11) (sg_se v11) (sg_ac v11) (0) (sg_la v11) (sg_st v11) (jm_ag j9) (jm_de j9) (jm_ru j9) (jm_nx j9) (jm_th j9)) := hD
        have hin := in_keep (b := mb v1 j1) hde hok1 hi
        rw [← ev11] at hin
        have hfv : sg_fa v11 = 0 := hin.2.1.trans hfa
        have hP : va_P D cx (mw ad cs v11 j9) H := by
          show va_P D cx (mv ad cs (sg_im v11) (sg_ap v11) (sg_ag v11) (sg_he v11) (sg_er v11) (sg_ev v11) (sg_en v11) (sg_ma v11) (sg_po v11) (sg_se v11) (sg_ac v11) (sg_fa v11) (sg_la v11) (sg_st v11) (jm_ag j9) (jm_de j9) (jm_ru j9) (jm_nx j9) (jm_th j9)) H
          rw [hfv]; exact hP
        have hD : va_D A (mw ad cs v11 j9) := by
          show va_D A (mv ad cs (sg_im v11) (sg_ap v11) (sg_ag v11) (sg_he v11) (sg_er v11) (sg_ev v11) (sg_en v11) (sg_ma v11) (sg_po v11) (sg_se v11) (sg_ac v11) (sg_fa v11) (sg_la v11) (sg_st v11) (jm_ag j9) (jm_de j9) (jm_ru j9) (jm_nx j9) (jm_th j9))
          rw [hfv]; exact hD
        refine lv_aload_n hx hb d_md_boot_129 rfl (lv_at hl 2 rfl) ?_
        refine lv_aload_n hx hb d_md_boot_130 rfl (lv_at hl 2 rfl) ?_
        refine va_get (D := D) (ci := 3) (v := .int (sg_fa v11)) (C := "MeasuredStagesModel") (T := F_md) (N := 19) hx hb hts (fun w h => List.mem_cons_of_mem _ (i_md w h)) hown hK hP 0 rfl rfl 14 (by decide) (hT _ tb_473) (fun _ h9 => h9) rfl d_md_boot_131 ?_
        refine lv_if_ne hx hb d_md_boot_134 (tgt := 146) (by decide) (fun z => absurd hfv z) (fun _ => ?_)
        refine lv_aload_n hx hb d_md_boot_137 rfl (lv_at hl 2 rfl) ?_
        refine va_get (D := D) (ci := 3) (v := .int (sg_st v11)) (C := "MeasuredStagesModel") (T := F_md) (N := 19) hx hb hts (fun w h => List.mem_cons_of_mem _ (i_md w h)) hown hK hP 0 rfl rfl 13 (by decide) (hT _ tb_472) (fun _ h9 => h9) rfl d_md_boot_138 ?_
        refine lv_iconst (v := 1) hx hb d_md_boot_141 (by decide) ?_
        refine lv_iadd hx hb d_md_boot_142 ?_
        refine lv_goto hx hb d_md_boot_143 (tgt := 150) (by decide) ?_
        refine va_put (D := D) (ci := 3) (v := .int ((sg_st v11) + (1))) (ty := .int) (C := "MeasuredStagesModel") (T := F_md) (N := 19) hx hb hts (fun w h => List.mem_cons_of_mem _ (i_md w h)) t_md o_md n_md hown hK hP hD hS 0 rfl rfl 13 (by decide) (hT _ tb_472) (fun _ h9 => h9) rfl (by decide +kernel) rfl rfl (Nat.le_of_ble_eq_true rfl) d_md_boot_150 (fun H locs hP hD hS => ?_)
        have hP : va_P D cx (mv ad cs (sg_im v11) (sg_ap v11) (sg_ag v11) (sg_he v11) (sg_er v11) (sg_ev v11) (sg_en v11) (sg_ma v11) (sg_po v11) (sg_se v11) (sg_ac v11) (sg_fa v11) (sg_la v11) ((sg_st v11) + (1)) (jm_ag j9) (jm_de j9) (jm_ru j9) (jm_nx j9) (jm_th j9)) H := hP
        have hD : va_D A (mv ad cs (sg_im v11) (sg_ap v11) (sg_ag v11) (sg_he v11) (sg_er v11) (sg_ev v11) (sg_en v11) (sg_ma v11) (sg_po v11) (sg_se v11) (sg_ac v11) (sg_fa v11) (sg_la v11) ((sg_st v11) + (1)) (jm_ag j9) (jm_de j9) (jm_ru j9) (jm_nx j9) (jm_th j9)) := hD
        refine lv_iinc (nL := 4) (k := 0) (v := nI (r + 1)) (lv' := [(3, .int (nI (r + 1))), (2, .int (1)), (0, .ref (ad 0)), (1, .int n)]) hx hb d_md_boot_153 hl rfl ((nI_succ r).symm) (by decide) rfl (fun ls hl => ?_)
        refine lv_goto hx hb d_md_boot_156 (tgt := 83) (by decide) ?_
        obtain ⟨v12, ev12⟩ : ∃ z : Sg, z = (sg_im v11, sg_ap v11, sg_ag v11, sg_he v11, sg_er v11, sg_ev v11, sg_en v11, sg_ma v11, sg_po v11, sg_se v11, sg_ac v11, sg_fa v11, sg_la v11, (sg_st v11) + (1)) := ⟨_, rfl⟩
        have hP : va_P D cx (mw ad cs v12 j9) H := by rw [ev12, mw_u]; exact hP
        have hD : va_D A (mw ad cs v12 j9) := by rw [ev12, mw_u]; exact hD
        have eb : mb v11 j9 = sp_in (mb v1 j1) := by rw [ev11]; exact hj10
        have e1 : jm_de j9 = (sp_in (mb v1 j1)).2.1 := congrArg (fun b : Bt => b.2.1) eb
        have e2 : jm_ru j9 = (sp_in (mb v1 j1)).2.2.1 := congrArg (fun b : Bt => b.2.2.1) eb
        have eS : v12 = ss_st v11 (sg_st v11 + 1) := ev12
        refine ih _ _ ls (v12, j9) ⟨lv_sub hl [0, 1, 2, 3] rfl, hP, hD, hS, ?_, ?_, ?_, ?_, ?_, ?_⟩
        · show sp_ok v12
          rw [eS]; exact ok_st hin.1
        · show sg_fa v12 = 0
          rw [eS]; exact hfv
        · show sg_st v12 = nI (r + 1)
          rw [eS, st_st]; exact (congrArg (· + 1) (hin.2.2.1.trans hst)).trans (nI_succ r).symm
        · show vp_in (jm_de j9) 6 ∨ jm_de j9 = -1
          rw [e1]; exact hin.2.2.2.1
        · show ∀ k : Nat, k ≤ (jm_de j9).toNatClampNeg → vp_in (jm_ru j9 k) 8
          rw [e1, e2]; exact in_rows (b := mb v1 j1) hde hi hro
        · show (sp_rn (101 - (r + 1)) (mb v12 j9)).1 = sp_bo u n
          rw [← hU, rn_ok _ (mb v1 j1) hde hs1 hi, show 101 - (r + 1) = 100 - r by omega, eS, mb_st, eb, ev11]
      · skip
        refine lv_iload_n hx hb d_md_boot_83 rfl (lv_at hl 0 rfl) ?_
        refine lv_sipush (v := 200) hx hb d_md_boot_84 (by decide) ?_
        refine lv_icmp_ge hx hb d_md_boot_87 (tgt := 159) (by decide) (fun z => absurd z (lt200 (by omega))) (fun _ => ?_)
        refine lv_aload_n hx hb d_md_boot_90 rfl (lv_at hl 2 rfl) ?_
        refine va_get (D := D) (ci := 3) (v := .int (jm_de j1)) (C := "MeasuredStagesModel") (T := F_md) (N := 19) hx hb hts (fun w h => List.mem_cons_of_mem _ (i_md w h)) hown hK hP 0 rfl rfl 15 (by decide) (hT _ tb_474) (fun _ h9 => h9) rfl d_md_boot_91 ?_
        refine lv_if_lt hx hb d_md_boot_94 (tgt := 159) (by decide) (fun z => absurd z (xn_ge hde)) (fun _ => ?_)
        refine lv_aload_n hx hb d_md_boot_97 rfl (lv_at hl 2 rfl) ?_
        refine va_get (D := D) (ci := 3) (v := .int (sg_fa v1)) (C := "MeasuredStagesModel") (T := F_md) (N := 19) hx hb hts (fun w h => List.mem_cons_of_mem _ (i_md w h)) hown hK hP 0 rfl rfl 14 (by decide) (hT _ tb_473) (fun _ h9 => h9) rfl d_md_boot_98 ?_
        refine lv_if_ne hx hb d_md_boot_101 (tgt := 159) (by decide) (fun z => absurd hfa z) (fun _ => ?_)
        refine lv_iload_n hx hb d_md_boot_104 rfl (lv_at hl 1 rfl) ?_
        refine lv_if_eq hx hb d_md_boot_105 (tgt := 159) (by decide) (fun z => absurd z (by decide)) (fun _ => ?_)
        refine lv_aload_n hx hb d_md_boot_108 rfl (lv_at hl 2 rfl) ?_
        refine lv_aload_n hx hb d_md_boot_109 rfl (lv_at hl 2 rfl) ?_
        refine va_get (D := D) (ci := 3) (v := .int (sg_st v1)) (C := "MeasuredStagesModel") (T := F_md) (N := 19) hx hb hts (fun w h => List.mem_cons_of_mem _ (i_md w h)) hown hK hP 0 rfl rfl 13 (by decide) (hT _ tb_472) (fun _ h9 => h9) rfl d_md_boot_110 ?_
        refine lv_bipush (v := 100) hx hb d_md_boot_113 (by decide) ?_
        refine lv_icmp_ne hx hb d_md_boot_115 (tgt := 122) (by decide) (fun _ => ?_) (fun z => absurd z hs1)
        refine lv_aload_n hx hb d_md_boot_122 rfl (lv_at hl 2 rfl) ?_
        refine mw_rdi (v := sp_if (mb v1 j1)) (As := []) (rest := [.ref (ad 0)]) ⟨hx, hb, hml, hown, hts⟩ (c_md_instruction_f l D cs ad _ v1 j1 hde hok1 (hro _ (Nat.le_refl _)) hi) tb_552 tb_554 sl_18 tb_4 tb_555 ⟨rfl, hd_md_instruction⟩ ⟨Nat.le_of_ble_eq_true rfl, Nat.le_of_ble_eq_true rfl⟩ rfl rfl hK hP hD hN 0 3 rfl rfl hl.1 rfl (Nat.le_of_ble_eq_true rfl) d_md_boot_123 ⟨Nat.zero_le _, Nat.zero_le _⟩ ?_
        refine va_put (D := D) (ci := 3) (v := .int (sp_if (mb v1 j1))) (ty := .int) (C := "MeasuredStagesModel") (T := F_md) (N := 19) hx hb hts (fun w h => List.mem_cons_of_mem _ (i_md w h)) t_md o_md n_md hown hK hP hD hS 0 rfl rfl 14 (by decide) (hT _ tb_473) (fun _ h9 => h9) rfl (by decide +kernel) rfl rfl (Nat.le_of_ble_eq_true rfl) d_md_boot_126 (fun H locs hP hD hS => ?_)
        have hP : va_P D cx (mv ad cs (sg_im v1) (sg_ap v1) (sg_ag v1) (sg_he v1) (sg_er v1) (sg_ev v1) (sg_en v1) (sg_ma v1) (sg_po v1) (sg_se v1) (sg_ac v1) (sp_if (mb v1 j1)) (sg_la v1) (sg_st v1) (jm_ag j1) (jm_de j1) (jm_ru j1) (jm_nx j1) (jm_th j1)) H := hP
        have hD : va_D A (mv ad cs (sg_im v1) (sg_ap v1) (sg_ag v1) (sg_he v1) (sg_er v1) (sg_ev v1) (sg_en v1) (sg_ma v1) (sg_po v1) (sg_se v1) (sg_ac v1) (sp_if (mb v1 j1)) (sg_la v1) (sg_st v1) (jm_ag j1) (jm_de j1) (jm_ru j1) (jm_nx j1) (jm_th j1)) := hD
        refine lv_aload_n hx hb d_md_boot_129 rfl (lv_at hl 2 rfl) ?_
        refine lv_aload_n hx hb d_md_boot_130 rfl (lv_at hl 2 rfl) ?_
        refine va_get (D := D) (ci := 3) (v := .int (sp_if (mb v1 j1))) (C := "MeasuredStagesModel") (T := F_md) (N := 19) hx hb hts (fun w h => List.mem_cons_of_mem _ (i_md w h)) hown hK hP 0 rfl rfl 14 (by decide) (hT _ tb_473) (fun _ h9 => h9) rfl d_md_boot_131 ?_
        refine lv_if_ne hx hb d_md_boot_134 (tgt := 146) (by decide) (fun _ => ?_) (fun z => absurd z hi)
        refine lv_aload_n hx hb d_md_boot_146 rfl (lv_at hl 2 rfl) ?_
        refine va_get (D := D) (ci := 3) (v := .int (sg_st v1)) (C := "MeasuredStagesModel") (T := F_md) (N := 19) hx hb hts (fun w h => List.mem_cons_of_mem _ (i_md w h)) hown hK hP 0 rfl rfl 13 (by decide) (hT _ tb_472) (fun _ h9 => h9) rfl d_md_boot_147 ?_
        refine va_put (D := D) (ci := 3) (v := .int (sg_st v1)) (ty := .int) (C := "MeasuredStagesModel") (T := F_md) (N := 19) hx hb hts (fun w h => List.mem_cons_of_mem _ (i_md w h)) t_md o_md n_md hown hK hP hD hS 0 rfl rfl 13 (by decide) (hT _ tb_472) (fun _ h9 => h9) rfl (by decide +kernel) rfl rfl (Nat.le_of_ble_eq_true rfl) d_md_boot_150 (fun H locs hP hD hS => ?_)
        have hP : va_P D cx (mv ad cs (sg_im v1) (sg_ap v1) (sg_ag v1) (sg_he v1) (sg_er v1) (sg_ev v1) (sg_en v1) (sg_ma v1) (sg_po v1) (sg_se v1) (sg_ac v1) (sp_if (mb v1 j1)) (sg_la v1) (sg_st v1) (jm_ag j1) (jm_de j1) (jm_ru j1) (jm_nx j1) (jm_th j1)) H := hP
        have hD : va_D A (mv ad cs (sg_im v1) (sg_ap v1) (sg_ag v1) (sg_he v1) (sg_er v1) (sg_ev v1) (sg_en v1) (sg_ma v1) (sg_po v1) (sg_se v1) (sg_ac v1) (sp_if (mb v1 j1)) (sg_la v1) (sg_st v1) (jm_ag j1) (jm_de j1) (jm_ru j1) (jm_nx j1) (jm_th j1)) := hD
        refine lv_iinc (nL := 4) (k := 0) (v := nI (r + 1)) (lv' := [(3, .int (nI (r + 1))), (2, .int (1)), (0, .ref (ad 0)), (1, .int n)]) hx hb d_md_boot_153 hl rfl ((nI_succ r).symm) (by decide) rfl (fun ls hl => ?_)
        refine lv_goto hx hb d_md_boot_156 (tgt := 83) (by decide) ?_
        refine lv_iload_n hx hb d_md_boot_83 rfl (lv_at hl 0 rfl) ?_
        refine lv_sipush (v := 200) hx hb d_md_boot_84 (by decide) ?_
        refine lv_icmp_ge hx hb d_md_boot_87 (tgt := 159) (by decide) (fun z => absurd z (lt200 (by omega))) (fun _ => ?_)
        refine lv_aload_n hx hb d_md_boot_90 rfl (lv_at hl 2 rfl) ?_
        refine va_get (D := D) (ci := 3) (v := .int (jm_de j1)) (C := "MeasuredStagesModel") (T := F_md) (N := 19) hx hb hts (fun w h => List.mem_cons_of_mem _ (i_md w h)) hown hK hP 0 rfl rfl 15 (by decide) (hT _ tb_474) (fun _ h9 => h9) rfl d_md_boot_91 ?_
        refine lv_if_lt hx hb d_md_boot_94 (tgt := 159) (by decide) (fun z => absurd z (xn_ge hde)) (fun _ => ?_)
        refine lv_aload_n hx hb d_md_boot_97 rfl (lv_at hl 2 rfl) ?_
        refine va_get (D := D) (ci := 3) (v := .int (sp_if (mb v1 j1))) (C := "MeasuredStagesModel") (T := F_md) (N := 19) hx hb hts (fun w h => List.mem_cons_of_mem _ (i_md w h)) hown hK hP 0 rfl rfl 14 (by decide) (hT _ tb_473) (fun _ h9 => h9) rfl d_md_boot_98 ?_
        refine lv_if_ne hx hb d_md_boot_101 (tgt := 159) (by decide) (fun _ => ?_) (fun z => absurd z hi)
        obtain ⟨v13, ev13⟩ : ∃ z : Sg, z = (sg_im v1, sg_ap v1, sg_ag v1, sg_he v1, sg_er v1, sg_ev v1, sg_en v1, sg_ma v1, sg_po v1, sg_se v1, sg_ac v1, sp_if (mb v1 j1), sg_la v1, sg_st v1) := ⟨_, rfl⟩
        have hP : va_P D cx (mw ad cs v13 j1) H := by rw [ev13, mw_u]; exact hP
        have hD : va_D A (mw ad cs v13 j1) := by rw [ev13, mw_u]; exact hD
        have eU : ss_fa v1 (sp_if (mb v1 j1)) = sp_bo u n := by rw [← hU]; exact (congrArg Prod.fst (rn_ft _ (mb v1 j1) hde hs1 hi)).symm
        have eU : v13 = sp_bo u n := (show v13 = ss_fa v1 (sp_if (mb v1 j1)) from ev13).trans eU
        rw [eU] at hP hD
        refine lv_aload_n hx hb d_md_boot_159 rfl (lv_at hl 2 rfl) ?_
        refine lv_aload_n hx hb d_md_boot_160 rfl (lv_at hl 2 rfl) ?_
        refine va_get (D := D) (ci := 3) (v := .int (sg_fa (sp_bo u n))) (C := "MeasuredStagesModel") (T := F_md) (N := 19) hx hb hts (fun w h => List.mem_cons_of_mem _ (i_md w h)) hown hK hP 0 rfl rfl 14 (by decide) (hT _ tb_473) (fun _ h9 => h9) rfl d_md_boot_161 ?_
        refine lv_if_eq hx hb d_md_boot_164 (tgt := 171) (by decide) (fun z => absurd z hf) (fun _ => ?_)
        refine lv_iconst (v := 2) hx hb d_md_boot_167 (by decide) ?_
        refine lv_goto hx hb d_md_boot_168 (tgt := 172) (by decide) ?_
        refine va_put (D := D) (ci := 3) (v := .int (2)) (ty := .int) (C := "MeasuredStagesModel") (T := F_md) (N := 19) hx hb hts (fun w h => List.mem_cons_of_mem _ (i_md w h)) t_md o_md n_md hown hK hP hD hS 0 rfl rfl 18 (by decide) (hT _ tb_477) (fun _ h9 => h9) rfl (by decide +kernel) rfl rfl (Nat.le_of_ble_eq_true rfl) d_md_boot_172 (fun H locs hP hD hS => ?_)
        have hP : va_P D cx (mv ad cs (sg_im (sp_bo u n)) (sg_ap (sp_bo u n)) (sg_ag (sp_bo u n)) (sg_he (sp_bo u n)) (sg_er (sp_bo u n)) (sg_ev (sp_bo u n)) (sg_en (sp_bo u n)) (sg_ma (sp_bo u n)) (sg_po (sp_bo u n)) (sg_se (sp_bo u n)) (sg_ac (sp_bo u n)) (sg_fa (sp_bo u n)) (sg_la (sp_bo u n)) (sg_st (sp_bo u n)) (jm_ag j1) (jm_de j1) (jm_ru j1) (jm_nx j1) (2)) H := hP
        have hD : va_D A (mv ad cs (sg_im (sp_bo u n)) (sg_ap (sp_bo u n)) (sg_ag (sp_bo u n)) (sg_he (sp_bo u n)) (sg_er (sp_bo u n)) (sg_ev (sp_bo u n)) (sg_en (sp_bo u n)) (sg_ma (sp_bo u n)) (sg_po (sp_bo u n)) (sg_se (sp_bo u n)) (sg_ac (sp_bo u n)) (sg_fa (sp_bo u n)) (sg_la (sp_bo u n)) (sg_st (sp_bo u n)) (jm_ag j1) (jm_de j1) (jm_ru j1) (jm_nx j1) (2)) := hD
        refine lv_aload_n hx hb d_md_boot_175 rfl (lv_at hl 2 rfl) ?_
        refine va_get (D := D) (ci := 3) (v := .int (sg_fa (sp_bo u n))) (C := "MeasuredStagesModel") (T := F_md) (N := 19) hx hb hts (fun w h => List.mem_cons_of_mem _ (i_md w h)) hown hK hP 0 rfl rfl 14 (by decide) (hT _ tb_473) (fun _ h9 => h9) rfl d_md_boot_176 ?_
        refine lv_if_eq hx hb d_md_boot_179 (tgt := 186) (by decide) (fun z => absurd z hf) (fun _ => ?_)
        refine lv_iconst (v := 0) hx hb d_md_boot_182 (by decide) ?_
        refine lv_goto hx hb d_md_boot_183 (tgt := 190) (by decide) ?_
        obtain ⟨q14, eq14⟩ : ∃ z : Jm, z = (jm_ag j1, jm_de j1, jm_ru j1, jm_nx j1, 2) := ⟨_, rfl⟩
        have hP : va_P D cx (mw ad cs (sp_bo u n) q14) H := by rw [eq14, mw_j]; exact hP
        have hD : va_D A (mw ad cs (sp_bo u n) q14) := by rw [eq14, mw_j]; exact hD
        exact W.iret hx hb hret (fun t ht hW => ⟨⟨_, q14, rfl, ⟨rfl, (by subst eq14; rfl)⟩, by rw [ht]; exact hP, va_K.moved hW.alike hK, hD⟩, hS.F ht⟩) hS.2.2 d_md_boot_190
    · skip
      refine lv_iload_n hx hb d_md_boot_83 rfl (lv_at hl 0 rfl) ?_
      refine lv_sipush (v := 200) hx hb d_md_boot_84 (by decide) ?_
      refine lv_icmp_ge hx hb d_md_boot_87 (tgt := 159) (by decide) (fun z => absurd z (lt200 (by omega))) (fun _ => ?_)
      refine lv_aload_n hx hb d_md_boot_90 rfl (lv_at hl 2 rfl) ?_
      refine va_get (D := D) (ci := 3) (v := .int (jm_de j1)) (C := "MeasuredStagesModel") (T := F_md) (N := 19) hx hb hts (fun w h => List.mem_cons_of_mem _ (i_md w h)) hown hK hP 0 rfl rfl 15 (by decide) (hT _ tb_474) (fun _ h9 => h9) rfl d_md_boot_91 ?_
      refine lv_if_lt hx hb d_md_boot_94 (tgt := 159) (by decide) (fun _ => ?_) (fun z => absurd (by rw [hde]; decide) z)
      have eU : v1 = sp_bo u n := by rw [← hU]; exact (congrArg Prod.fst (rn_end _ (mb v1 j1) hde)).symm
      rw [eU] at hP hD
      refine lv_aload_n hx hb d_md_boot_159 rfl (lv_at hl 2 rfl) ?_
      refine lv_aload_n hx hb d_md_boot_160 rfl (lv_at hl 2 rfl) ?_
      refine va_get (D := D) (ci := 3) (v := .int (sg_fa (sp_bo u n))) (C := "MeasuredStagesModel") (T := F_md) (N := 19) hx hb hts (fun w h => List.mem_cons_of_mem _ (i_md w h)) hown hK hP 0 rfl rfl 14 (by decide) (hT _ tb_473) (fun _ h9 => h9) rfl d_md_boot_161 ?_
      refine lv_if_eq hx hb d_md_boot_164 (tgt := 171) (by decide) (fun z => absurd z hf) (fun _ => ?_)
      refine lv_iconst (v := 2) hx hb d_md_boot_167 (by decide) ?_
      refine lv_goto hx hb d_md_boot_168 (tgt := 172) (by decide) ?_
      refine va_put (D := D) (ci := 3) (v := .int (2)) (ty := .int) (C := "MeasuredStagesModel") (T := F_md) (N := 19) hx hb hts (fun w h => List.mem_cons_of_mem _ (i_md w h)) t_md o_md n_md hown hK hP hD hS 0 rfl rfl 18 (by decide) (hT _ tb_477) (fun _ h9 => h9) rfl (by decide +kernel) rfl rfl (Nat.le_of_ble_eq_true rfl) d_md_boot_172 (fun H locs hP hD hS => ?_)
      have hP : va_P D cx (mv ad cs (sg_im (sp_bo u n)) (sg_ap (sp_bo u n)) (sg_ag (sp_bo u n)) (sg_he (sp_bo u n)) (sg_er (sp_bo u n)) (sg_ev (sp_bo u n)) (sg_en (sp_bo u n)) (sg_ma (sp_bo u n)) (sg_po (sp_bo u n)) (sg_se (sp_bo u n)) (sg_ac (sp_bo u n)) (sg_fa (sp_bo u n)) (sg_la (sp_bo u n)) (sg_st (sp_bo u n)) (jm_ag j1) (jm_de j1) (jm_ru j1) (jm_nx j1) (2)) H := hP
      have hD : va_D A (mv ad cs (sg_im (sp_bo u n)) (sg_ap (sp_bo u n)) (sg_ag (sp_bo u n)) (sg_he (sp_bo u n)) (sg_er (sp_bo u n)) (sg_ev (sp_bo u n)) (sg_en (sp_bo u n)) (sg_ma (sp_bo u n)) (sg_po (sp_bo u n)) (sg_se (sp_bo u n)) (sg_ac (sp_bo u n)) (sg_fa (sp_bo u n)) (sg_la (sp_bo u n)) (sg_st (sp_bo u n)) (jm_ag j1) (jm_de j1) (jm_ru j1) (jm_nx j1) (2)) := hD
      refine lv_aload_n hx hb d_md_boot_175 rfl (lv_at hl 2 rfl) ?_
      refine va_get (D := D) (ci := 3) (v := .int (sg_fa (sp_bo u n))) (C := "MeasuredStagesModel") (T := F_md) (N := 19) hx hb hts (fun w h => List.mem_cons_of_mem _ (i_md w h)) hown hK hP 0 rfl rfl 14 (by decide) (hT _ tb_473) (fun _ h9 => h9) rfl d_md_boot_176 ?_
      refine lv_if_eq hx hb d_md_boot_179 (tgt := 186) (by decide) (fun z => absurd z hf) (fun _ => ?_)
      refine lv_iconst (v := 0) hx hb d_md_boot_182 (by decide) ?_
      refine lv_goto hx hb d_md_boot_183 (tgt := 190) (by decide) ?_
      obtain ⟨q15, eq15⟩ : ∃ z : Jm, z = (jm_ag j1, jm_de j1, jm_ru j1, jm_nx j1, 2) := ⟨_, rfl⟩
      have hP : va_P D cx (mw ad cs (sp_bo u n) q15) H := by rw [eq15, mw_j]; exact hP
      have hD : va_D A (mw ad cs (sp_bo u n) q15) := by rw [eq15, mw_j]; exact hD
      exact W.iret hx hb hret (fun t ht hW => ⟨⟨_, q15, rfl, ⟨rfl, (by subst eq15; rfl)⟩, by rw [ht]; exact hP, va_K.moved hW.alike hK, hD⟩, hS.F ht⟩) hS.2.2 d_md_boot_190
