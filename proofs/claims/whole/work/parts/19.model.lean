/-- what an instruction does in the model -/
theorem c_md_act (l : Launch) (D : va_G) (cs : Nat → ClassId) (ad : Nat → Nat) (sz : Nat) (u : Sg) (j : Jm) (code x y d : Int32) (hd : vp_in d 6) (hok : sp_ok u) (h8 : vp_in (sp_rm x 8) 8) (h6 : vp_in (sp_rm x 6) 6) (hk : ∃ k : Nat, k < 16 ∧ code = nI k) (hf : sp_fo u code x d = 0) : Met l y_md_act (Cond.code y_md_act b_md_act 6 none :: TB) { frames := 4, cells := 0, slots := 0, locals := 110 } (va_Pc [.ref (ad 0), .int code, .int x, .int y, .int d] (mw_Pre D cs ad u j sz)) (va_Qv (fun (j1 : Jm) => mb (sp_ac (mb u j) code x y d).1 j1 = sp_ac (mb u j) code x y d) (fun (j1 : Jm) t => mw_B D cs ad (va_A (mw ad cs u j) sz) (sp_ac (mb u j) code x y d).1 j1 t) (va_A (mw ad cs u j) sz)) 0 0 (va_A (mw ad cs u j) sz) := by
  obtain ⟨k, hk, ek⟩ := hk
  rcases (show k = 0 ∨ k = 1 ∨ k = 2 ∨ k = 3 ∨ k = 4 ∨ k = 5 ∨ k = 6 ∨ k = 7 ∨ k = 8 ∨ 8 < k by omega) with h | h | h | h | h | h | h | h | h | h
  · subst h
    have hc : code = 0 := ek
    subst hc
    rw [ac_0]
    refine mt_mono (c_act_0 l D cs ad sz u j 0 x y d rfl ) ?_
    intro a st o t hq
    obtain ⟨⟨j1, q1, ⟨q3, q4, q5⟩, hB⟩, hF⟩ := hq
    exact ⟨⟨j1, q1, mb_eq (b := (u, d - 1, jm_ru j, jm_nx j)) q3 q4 q5, hB⟩, hF⟩
  · subst h
    have hc : code = 1 := ek
    subst hc
    rw [fo_1] at hf
    have h5 : ¬ d = 5 := fun z => by rw [if_pos z] at hf; exact absurd hf (by decide)
    rw [if_neg h5] at hf
    have he : ¬ sg_en u = 32 := fun z => by rw [if_pos z] at hf; exact absurd hf (by decide)
    rw [ac_1]
    refine mt_mono (c_act_1 l D cs ad sz u j 1 x y d rfl h8 (de_up hd h5) (en_in hok he)) ?_
    intro a st o t hq
    obtain ⟨⟨j1, q1, ⟨q3, q4, q5⟩, hB⟩, hF⟩ := hq
    exact ⟨⟨j1, q1, mb_eq (b := sp_la (mb u j) (sp_rm x 8) (d + 1)) q3 q4 q5, hB⟩, hF⟩
  · subst h
    have hc : code = 2 := ek
    subst hc
    rw [fo_2] at hf
    have he : ¬ sg_en u = 32 := fun z => by rw [if_pos z] at hf; exact absurd hf (by decide)
    rw [ac_2]
    refine mt_mono (c_act_2 l D cs ad sz u j 2 x y d rfl h6 (en_in hok he)) ?_
    intro a st o t hq
    obtain ⟨⟨j1, q1, ⟨q3, q4, q5⟩, hB⟩, hF⟩ := hq
    exact ⟨⟨j1, q1, mb_eq (b := (sp_no u (sp_rm x 6) y.toInt64, (mb u j).2)) q3 q4 q5, hB⟩, hF⟩
  · subst h
    have hc : code = 3 := ek
    subst hc
    rw [ac_3]
    refine mt_mono (c_act_3 l D cs ad sz u j 3 x y d rfl ) ?_
    intro a st o t hq
    obtain ⟨⟨j1, q1, ⟨q3, q4, q5⟩, hB⟩, hF⟩ := hq
    exact ⟨⟨j1, q1, mb_eq (b := mb u j) q3 q4 q5, hB⟩, hF⟩
  · subst h
    have hc : code = 4 := ek
    subst hc
    rw [ac_4]
    refine mt_mono (c_act_4 l D cs ad sz u j 4 x y d rfl h8) ?_
    intro a st o t hq
    obtain ⟨⟨j1, q1, ⟨q3, q4, q5⟩, hB⟩, hF⟩ := hq
    exact ⟨⟨j1, q1, mb_eq (b := (ss_ac u (sg_se u (sp_rm x 8).toNatClampNeg), (mb u j).2)) q3 q4 q5, hB⟩, hF⟩
  · subst h
    have hc : code = 5 := ek
    subst hc
    rw [ac_5]
    refine mt_mono (c_act_5 l D cs ad sz u j 5 x y d rfl ) ?_
    intro a st o t hq
    obtain ⟨⟨j1, q1, ⟨q3, q4, q5⟩, hB⟩, hF⟩ := hq
    exact ⟨⟨j1, q1, mb_eq (b := (ss_ac u (sp_h (sg_ac u) x.toInt64), (mb u j).2)) q3 q4 q5, hB⟩, hF⟩
  · subst h
    have hc : code = 6 := ek
    subst hc
    rw [fo_6] at hf
    have he : ¬ sg_en u = 32 := fun z => by rw [if_pos z] at hf; exact absurd hf (by decide)
    rw [ac_6]
    refine mt_mono (c_act_6 l D cs ad sz u j 6 x y d rfl h6 (en_in hok he)) ?_
    intro a st o t hq
    obtain ⟨⟨j1, q1, ⟨q3, q4, q5⟩, hB⟩, hF⟩ := hq
    exact ⟨⟨j1, q1, mb_eq (b := (sp_no u (sp_rm x 6) (sg_ac u), (mb u j).2)) q3 q4 q5, hB⟩, hF⟩
  · subst h
    have hc : code = 7 := ek
    subst hc
    rw [ac_7]
    refine mt_mono (c_act_7 l D cs ad sz u j 7 x y d rfl hd) ?_
    intro a st o t hq
    obtain ⟨⟨j1, q1, ⟨q3, q4, q5⟩, hB⟩, hF⟩ := hq
    exact ⟨⟨j1, q1, mb_eq (b := (u, jm_de j, jm_ru j, if sg_ac u = 0 then upd (jm_nx j) d.toNatClampNeg (jm_nx j d.toNatClampNeg + x) else jm_nx j)) q3 q4 q5, hB⟩, hF⟩
  · subst h
    have hc : code = 8 := ek
    subst hc
    rw [fo_8] at hf
    have h1 : ¬ sp_lf (sg_ma u) < 0 := fun z => by rw [if_pos z] at hf; exact absurd hf (by decide)
    rw [ac_8]
    refine mt_mono (c_act_8 l D cs ad sz u j 8 x y d rfl (lf_in h1)) ?_
    intro a st o t hq
    obtain ⟨⟨j1, q1, ⟨q3, q4, q5⟩, hB⟩, hF⟩ := hq
    exact ⟨⟨j1, q1, mb_eq (b := (sp_fi u (sp_lf (sg_ma u)) (x + 1) (sg_ac u), (mb u j).2)) q3 q4 q5, hB⟩, hF⟩
  · rw [fo_9 _ _ _ _ (by rw [ek]; exact nI_lt (a := 8) h (by omega))] at hf
    exact absurd hf (by decide)
theorem d_md_instruction_0 : decode b_md_instruction 0 = .ok (.aload_n 0, 1) := by decide +kernel
theorem d_md_instruction_1 : decode b_md_instruction 1 = .ok (.getfield 85, 3) := by decide +kernel
theorem d_md_instruction_4 : decode b_md_instruction 4 = .ok (.istore_n 1, 1) := by decide +kernel
theorem d_md_instruction_5 : decode b_md_instruction 5 = .ok (.aload_n 0, 1) := by decide +kernel
theorem d_md_instruction_6 : decode b_md_instruction 6 = .ok (.getfield 42, 3) := by decide +kernel
theorem d_md_instruction_9 : decode b_md_instruction 9 = .ok (.iload_n 1, 1) := by decide +kernel
theorem d_md_instruction_10 : decode b_md_instruction 10 = .ok (.iaload, 1) := by decide +kernel
theorem d_md_instruction_11 : decode b_md_instruction 11 = .ok (.istore_n 2, 1) := by decide +kernel
theorem d_md_instruction_12 : decode b_md_instruction 12 = .ok (.aload_n 0, 1) := by decide +kernel
theorem d_md_instruction_13 : decode b_md_instruction 13 = .ok (.getfield 45, 3) := by decide +kernel
theorem d_md_instruction_16 : decode b_md_instruction 16 = .ok (.iload_n 1, 1) := by decide +kernel
theorem d_md_instruction_17 : decode b_md_instruction 17 = .ok (.iaload, 1) := by decide +kernel
theorem d_md_instruction_18 : decode b_md_instruction 18 = .ok (.istore_n 3, 1) := by decide +kernel
theorem d_md_instruction_19 : decode b_md_instruction 19 = .ok (.aload_n 0, 1) := by decide +kernel
theorem d_md_instruction_20 : decode b_md_instruction 20 = .ok (.iload_n 2, 1) := by decide +kernel
theorem d_md_instruction_21 : decode b_md_instruction 21 = .ok (.iload_n 3, 1) := by decide +kernel
theorem d_md_instruction_22 : decode b_md_instruction 22 = .ok (.invokevirtual 106, 3) := by decide +kernel
theorem d_md_instruction_25 : decode b_md_instruction 25 = .ok (.istore 4, 2) := by decide +kernel
theorem d_md_instruction_27 : decode b_md_instruction 27 = .ok (.aload_n 0, 1) := by decide +kernel
theorem d_md_instruction_28 : decode b_md_instruction 28 = .ok (.iload_n 2, 1) := by decide +kernel
theorem d_md_instruction_29 : decode b_md_instruction 29 = .ok (.iload_n 3, 1) := by decide +kernel
theorem d_md_instruction_30 : decode b_md_instruction 30 = .ok (.iconst 1, 1) := by decide +kernel
theorem d_md_instruction_31 : decode b_md_instruction 31 = .ok (.iadd, 1) := by decide +kernel
theorem d_md_instruction_32 : decode b_md_instruction 32 = .ok (.invokevirtual 106, 3) := by decide +kernel
theorem d_md_instruction_35 : decode b_md_instruction 35 = .ok (.istore 5, 2) := by decide +kernel
theorem d_md_instruction_37 : decode b_md_instruction 37 = .ok (.aload_n 0, 1) := by decide +kernel
theorem d_md_instruction_38 : decode b_md_instruction 38 = .ok (.iload_n 2, 1) := by decide +kernel
theorem d_md_instruction_39 : decode b_md_instruction 39 = .ok (.iload_n 3, 1) := by decide +kernel
theorem d_md_instruction_40 : decode b_md_instruction 40 = .ok (.iconst 2, 1) := by decide +kernel
theorem d_md_instruction_41 : decode b_md_instruction 41 = .ok (.iadd, 1) := by decide +kernel
theorem d_md_instruction_42 : decode b_md_instruction 42 = .ok (.invokevirtual 106, 3) := by decide +kernel
theorem d_md_instruction_45 : decode b_md_instruction 45 = .ok (.istore 6, 2) := by decide +kernel
theorem d_md_instruction_47 : decode b_md_instruction 47 = .ok (.aload_n 0, 1) := by decide +kernel
theorem d_md_instruction_48 : decode b_md_instruction 48 = .ok (.iload 4, 2) := by decide +kernel
theorem d_md_instruction_50 : decode b_md_instruction 50 = .ok (.iload 5, 2) := by decide +kernel
theorem d_md_instruction_52 : decode b_md_instruction 52 = .ok (.iload_n 1, 1) := by decide +kernel
theorem d_md_instruction_53 : decode b_md_instruction 53 = .ok (.invokevirtual 110, 3) := by decide +kernel
theorem d_md_instruction_56 : decode b_md_instruction 56 = .ok (.istore 7, 2) := by decide +kernel
theorem d_md_instruction_58 : decode b_md_instruction 58 = .ok (.iload 7, 2) := by decide +kernel
theorem d_md_instruction_60 : decode b_md_instruction 60 = .ok (.ifCond .eq 6, 3) := by decide +kernel
theorem d_md_instruction_63 : decode b_md_instruction 63 = .ok (.iload 7, 2) := by decide +kernel
theorem d_md_instruction_65 : decode b_md_instruction 65 = .ok (.ireturn, 1) := by decide +kernel
theorem d_md_instruction_66 : decode b_md_instruction 66 = .ok (.aload_n 0, 1) := by decide +kernel
theorem d_md_instruction_67 : decode b_md_instruction 67 = .ok (.getfield 45, 3) := by decide +kernel
theorem d_md_instruction_70 : decode b_md_instruction 70 = .ok (.iload_n 1, 1) := by decide +kernel
theorem d_md_instruction_71 : decode b_md_instruction 71 = .ok (.iload_n 3, 1) := by decide +kernel
theorem d_md_instruction_72 : decode b_md_instruction 72 = .ok (.iconst 1, 1) := by decide +kernel
theorem d_md_instruction_73 : decode b_md_instruction 73 = .ok (.iadd, 1) := by decide +kernel
theorem d_md_instruction_74 : decode b_md_instruction 74 = .ok (.iload 4, 2) := by decide +kernel
theorem d_md_instruction_76 : decode b_md_instruction 76 = .ok (.invokestatic 114, 3) := by decide +kernel
theorem d_md_instruction_79 : decode b_md_instruction 79 = .ok (.iadd, 1) := by decide +kernel
theorem d_md_instruction_80 : decode b_md_instruction 80 = .ok (.iastore, 1) := by decide +kernel
theorem d_md_instruction_81 : decode b_md_instruction 81 = .ok (.aload_n 0, 1) := by decide +kernel
theorem d_md_instruction_82 : decode b_md_instruction 82 = .ok (.iload 4, 2) := by decide +kernel
theorem d_md_instruction_84 : decode b_md_instruction 84 = .ok (.iload 5, 2) := by decide +kernel
theorem d_md_instruction_86 : decode b_md_instruction 86 = .ok (.iload 6, 2) := by decide +kernel
theorem d_md_instruction_88 : decode b_md_instruction 88 = .ok (.iload_n 1, 1) := by decide +kernel
theorem d_md_instruction_89 : decode b_md_instruction 89 = .ok (.invokevirtual 118, 3) := by decide +kernel
theorem d_md_instruction_92 : decode b_md_instruction 92 = .ok (.iconst 0, 1) := by decide +kernel
theorem d_md_instruction_93 : decode b_md_instruction 93 = .ok (.ireturn, 1) := by decide +kernel
set_option maxHeartbeats 4000000 in
set_option maxRecDepth 100000 in
theorem c_md_instruction_f (l : Launch) (D : va_G) (cs : Nat → ClassId) (ad : Nat → Nat) (sz : Nat) (u : Sg) (j : Jm)  (hd : vp_in (jm_de j) 6) (hok : sp_ok u) (hru : vp_in (jm_ru j (jm_de j).toNatClampNeg) 8) (hf : ¬ sp_if (mb u j) = 0) : Met l y_md_instruction (Cond.code y_md_instruction b_md_instruction 8 (some .int) :: TB) { frames := 5, cells := 0, slots := 0, locals := 140 } (va_Pc [.ref (ad 0)] (mw_Pre D cs ad u j sz)) (vp_Si (fun r => r = sp_if (mb u j))) 0 0 (fun _ => False) := by
  refine Met.ofW (cc := b_md_instruction) (maxL := 8) (ret := (some .int)) (by decide) rfl ?_
  intro p e s m args below meth c s₁ B hml hv
  obtain ⟨rfl, hsz, hP, hK, hD, hN⟩ := hv
  have hx := B.exec
  have hb := B.bytes
  have hret := B.returns
  have hts := atoms_spec (ws := Cond.code y_md_instruction b_md_instruction 8 (some .int) :: TB) B.pre
  have hT : ∀ w ∈ TB, w.before _ s = true := fun w h => hts w (List.mem_cons_of_mem _ h)
  have hown : s.vm.findClass "MeasuredStagesModel" = some m.cls := findClass_of_methodNamed B.named
  have hlocks := B.notSynchronized
  subst hsz
  have hl := lv_entry ([.ref (ad 0)]) (n := 8) (Nat.le_of_ble_eq_true rfl)
  rw [lg_entry_eq]
  generalize (lg_sl ([.ref (ad 0)]) ++ List.replicate (8 - (lg_sl ([.ref (ad 0)])).length) Slot.unset).toArray = ls at hl ⊢
  have hl : lv_has ls 8 [(0, .ref (ad 0))] := hl
  refine lv_aload_n hx hb d_md_instruction_0 rfl (lv_at hl 0 rfl) ?_
  refine va_get (D := D) (ci := 3) (v := .int (jm_de j)) (C := "MeasuredStagesModel") (T := F_md) (N := 19) hx hb hts (fun w h => List.mem_cons_of_mem _ (i_md w h)) hown hK hP 0 rfl rfl 15 (by decide) (hT _ tb_474) (fun _ h9 => h9) rfl d_md_instruction_1 ?_
  refine lv_istore_n (nL := 8) (lv' := [(1, .int (jm_de j)), (0, .ref (ad 0))]) hx hb d_md_instruction_4 rfl hl (by decide) rfl (fun ls hl => ?_)
  refine lv_aload_n hx hb d_md_instruction_5 rfl (lv_at hl 1 rfl) ?_
  refine va_get (D := D) (ci := 3) (v := .ref (ad 11)) (C := "MeasuredStagesModel") (T := F_md) (N := 19) hx hb hts (fun w h => List.mem_cons_of_mem _ (i_md w h)) hown hK hP 0 rfl rfl 16 (by decide) (hT _ tb_475) (fun _ h9 => h9) rfl d_md_instruction_6 ?_
  refine lv_iload_n hx hb d_md_instruction_9 rfl (lv_at hl 0 rfl) ?_
  refine va_iald hx hb hK hP 11 10 rfl rfl hd d_md_instruction_10 ?_
  refine lv_istore_n (nL := 8) (lv' := [(2, .int (jm_ru j (jm_de j).toNatClampNeg)), (1, .int (jm_de j)), (0, .ref (ad 0))]) hx hb d_md_instruction_11 rfl hl (by decide) rfl (fun ls hl => ?_)
  refine lv_aload_n hx hb d_md_instruction_12 rfl (lv_at hl 2 rfl) ?_
  refine va_get (D := D) (ci := 3) (v := .ref (ad 12)) (C := "MeasuredStagesModel") (T := F_md) (N := 19) hx hb hts (fun w h => List.mem_cons_of_mem _ (i_md w h)) hown hK hP 0 rfl rfl 17 (by decide) (hT _ tb_476) (fun _ h9 => h9) rfl d_md_instruction_13 ?_
  refine lv_iload_n hx hb d_md_instruction_16 rfl (lv_at hl 1 rfl) ?_
  refine va_iald hx hb hK hP 12 11 rfl rfl hd d_md_instruction_17 ?_
  refine lv_istore_n (nL := 8) (lv' := [(3, .int (jm_nx j (jm_de j).toNatClampNeg)), (2, .int (jm_ru j (jm_de j).toNatClampNeg)), (1, .int (jm_de j)), (0, .ref (ad 0))]) hx hb d_md_instruction_18 rfl hl (by decide) rfl (fun ls hl => ?_)
  refine lv_aload_n hx hb d_md_instruction_19 rfl (lv_at hl 3 rfl) ?_
  refine lv_iload_n hx hb d_md_instruction_20 rfl (lv_at hl 1 rfl) ?_
  refine lv_iload_n hx hb d_md_instruction_21 rfl (lv_at hl 0 rfl) ?_
  refine mw_rdi (v := sp_dg (sg_im u (jm_ru j (jm_de j).toNatClampNeg).toNatClampNeg) (jm_nx j (jm_de j).toNatClampNeg)) (As := [.int (jm_ru j (jm_de j).toNatClampNeg), .int (jm_nx j (jm_de j).toNatClampNeg)]) (rest := []) ⟨hx, hb, hml, hown, hts⟩ (c_md_digit l D cs ad _ u j (jm_ru j (jm_de j).toNatClampNeg) (jm_nx j (jm_de j).toNatClampNeg) hru) tb_556 tb_558 sl_19 tb_4 tb_559 ⟨rfl, hd_md_digit⟩ ⟨Nat.le_of_ble_eq_true rfl, Nat.le_of_ble_eq_true rfl⟩ rfl rfl hK hP hD hN 0 3 rfl rfl hl.1 rfl (Nat.le_of_ble_eq_true rfl) d_md_instruction_22 ⟨Nat.zero_le _, Nat.zero_le _⟩ ?_
  refine lv_istore (nL := 8) (lv' := [(4, .int (sp_dg (sg_im u (jm_ru j (jm_de j).toNatClampNeg).toNatClampNeg) (jm_nx j (jm_de j).toNatClampNeg))), (3, .int (jm_nx j (jm_de j).toNatClampNeg)), (2, .int (jm_ru j (jm_de j).toNatClampNeg)), (1, .int (jm_de j)), (0, .ref (ad 0))]) hx hb d_md_instruction_25 hl (by decide) rfl (fun ls hl => ?_)
  refine lv_aload_n hx hb d_md_instruction_27 rfl (lv_at hl 4 rfl) ?_
  refine lv_iload_n hx hb d_md_instruction_28 rfl (lv_at hl 2 rfl) ?_
  refine lv_iload_n hx hb d_md_instruction_29 rfl (lv_at hl 1 rfl) ?_
  refine lv_iconst (v := 1) hx hb d_md_instruction_30 (by decide) ?_
  refine lv_iadd hx hb d_md_instruction_31 ?_
  refine mw_rdi (v := sp_dg (sg_im u (jm_ru j (jm_de j).toNatClampNeg).toNatClampNeg) ((jm_nx j (jm_de j).toNatClampNeg) + (1))) (As := [.int (jm_ru j (jm_de j).toNatClampNeg), .int ((jm_nx j (jm_de j).toNatClampNeg) + (1))]) (rest := []) ⟨hx, hb, hml, hown, hts⟩ (c_md_digit l D cs ad _ u j (jm_ru j (jm_de j).toNatClampNeg) ((jm_nx j (jm_de j).toNatClampNeg) + (1)) hru) tb_556 tb_558 sl_19 tb_4 tb_559 ⟨rfl, hd_md_digit⟩ ⟨Nat.le_of_ble_eq_true rfl, Nat.le_of_ble_eq_true rfl⟩ rfl rfl hK hP hD hN 0 3 rfl rfl hl.1 rfl (Nat.le_of_ble_eq_true rfl) d_md_instruction_32 ⟨Nat.zero_le _, Nat.zero_le _⟩ ?_
  refine lv_istore (nL := 8) (lv' := [(5, .int (sp_dg (sg_im u (jm_ru j (jm_de j).toNatClampNeg).toNatClampNeg) ((jm_nx j (jm_de j).toNatClampNeg) + (1)))), (4, .int (sp_dg (sg_im u (jm_ru j (jm_de j).toNatClampNeg).toNatClampNeg) (jm_nx j (jm_de j).toNatClampNeg))), (3, .int (jm_nx j (jm_de j).toNatClampNeg)), (2, .int (jm_ru j (jm_de j).toNatClampNeg)), (1, .int (jm_de j)), (0, .ref (ad 0))]) hx hb d_md_instruction_35 hl (by decide) rfl (fun ls hl => ?_)
  refine lv_aload_n hx hb d_md_instruction_37 rfl (lv_at hl 5 rfl) ?_
  refine lv_iload_n hx hb d_md_instruction_38 rfl (lv_at hl 3 rfl) ?_
  refine lv_iload_n hx hb d_md_instruction_39 rfl (lv_at hl 2 rfl) ?_
  refine lv_iconst (v := 2) hx hb d_md_instruction_40 (by decide) ?_
  refine lv_iadd hx hb d_md_instruction_41 ?_
  refine mw_rdi (v := sp_dg (sg_im u (jm_ru j (jm_de j).toNatClampNeg).toNatClampNeg) ((jm_nx j (jm_de j).toNatClampNeg) + (2))) (As := [.int (jm_ru j (jm_de j).toNatClampNeg), .int ((jm_nx j (jm_de j).toNatClampNeg) + (2))]) (rest := []) ⟨hx, hb, hml, hown, hts⟩ (c_md_digit l D cs ad _ u j (jm_ru j (jm_de j).toNatClampNeg) ((jm_nx j (jm_de j).toNatClampNeg) + (2)) hru) tb_556 tb_558 sl_19 tb_4 tb_559 ⟨rfl, hd_md_digit⟩ ⟨Nat.le_of_ble_eq_true rfl, Nat.le_of_ble_eq_true rfl⟩ rfl rfl hK hP hD hN 0 3 rfl rfl hl.1 rfl (Nat.le_of_ble_eq_true rfl) d_md_instruction_42 ⟨Nat.zero_le _, Nat.zero_le _⟩ ?_
  refine lv_istore (nL := 8) (lv' := [(6, .int (sp_dg (sg_im u (jm_ru j (jm_de j).toNatClampNeg).toNatClampNeg) ((jm_nx j (jm_de j).toNatClampNeg) + (2)))), (5, .int (sp_dg (sg_im u (jm_ru j (jm_de j).toNatClampNeg).toNatClampNeg) ((jm_nx j (jm_de j).toNatClampNeg) + (1)))), (4, .int (sp_dg (sg_im u (jm_ru j (jm_de j).toNatClampNeg).toNatClampNeg) (jm_nx j (jm_de j).toNatClampNeg))), (3, .int (jm_nx j (jm_de j).toNatClampNeg)), (2, .int (jm_ru j (jm_de j).toNatClampNeg)), (1, .int (jm_de j)), (0, .ref (ad 0))]) hx hb d_md_instruction_45 hl (by decide) rfl (fun ls hl => ?_)
  refine lv_aload_n hx hb d_md_instruction_47 rfl (lv_at hl 6 rfl) ?_
  refine lv_iload hx hb d_md_instruction_48 (lv_at hl 2 rfl) ?_
  refine lv_iload hx hb d_md_instruction_50 (lv_at hl 1 rfl) ?_
  refine lv_iload_n hx hb d_md_instruction_52 rfl (lv_at hl 5 rfl) ?_
  refine mw_rdi (v := sp_fo u (sp_dg (sg_im u (jm_ru j (jm_de j).toNatClampNeg).toNatClampNeg) (jm_nx j (jm_de j).toNatClampNeg)) (sp_dg (sg_im u (jm_ru j (jm_de j).toNatClampNeg).toNatClampNeg) ((jm_nx j (jm_de j).toNatClampNeg) + (1))) (jm_de j)) (As := [.int (sp_dg (sg_im u (jm_ru j (jm_de j).toNatClampNeg).toNatClampNeg) (jm_nx j (jm_de j).toNatClampNeg)), .int (sp_dg (sg_im u (jm_ru j (jm_de j).toNatClampNeg).toNatClampNeg) ((jm_nx j (jm_de j).toNatClampNeg) + (1))), .int (jm_de j)]) (rest := []) ⟨hx, hb, hml, hown, hts⟩ (c_md_faultOf l D cs ad _ u j (sp_dg (sg_im u (jm_ru j (jm_de j).toNatClampNeg).toNatClampNeg) (jm_nx j (jm_de j).toNatClampNeg)) (sp_dg (sg_im u (jm_ru j (jm_de j).toNatClampNeg).toNatClampNeg) ((jm_nx j (jm_de j).toNatClampNeg) + (1))) (jm_de j) (sp_rd8 _ _)) tb_561 tb_563 sl_20 tb_4 tb_564 ⟨rfl, hd_md_faultOf⟩ ⟨Nat.le_of_ble_eq_true rfl, Nat.le_of_ble_eq_true rfl⟩ rfl rfl hK hP hD hN 0 3 rfl rfl hl.1 rfl (Nat.le_of_ble_eq_true rfl) d_md_instruction_53 ⟨Nat.zero_le _, Nat.zero_le _⟩ ?_
  refine lv_istore (nL := 8) (lv' := [(7, .int (sp_fo u (sp_dg (sg_im u (jm_ru j (jm_de j).toNatClampNeg).toNatClampNeg) (jm_nx j (jm_de j).toNatClampNeg)) (sp_dg (sg_im u (jm_ru j (jm_de j).toNatClampNeg).toNatClampNeg) ((jm_nx j (jm_de j).toNatClampNeg) + (1))) (jm_de j))), (6, .int (sp_dg (sg_im u (jm_ru j (jm_de j).toNatClampNeg).toNatClampNeg) ((jm_nx j (jm_de j).toNatClampNeg) + (2)))), (5, .int (sp_dg (sg_im u (jm_ru j (jm_de j).toNatClampNeg).toNatClampNeg) ((jm_nx j (jm_de j).toNatClampNeg) + (1)))), (4, .int (sp_dg (sg_im u (jm_ru j (jm_de j).toNatClampNeg).toNatClampNeg) (jm_nx j (jm_de j).toNatClampNeg))), (3, .int (jm_nx j (jm_de j).toNatClampNeg)), (2, .int (jm_ru j (jm_de j).toNatClampNeg)), (1, .int (jm_de j)), (0, .ref (ad 0))]) hx hb d_md_instruction_56 hl (by decide) rfl (fun ls hl => ?_)
  refine lv_iload hx hb d_md_instruction_58 (lv_at hl 0 rfl) ?_
  refine lv_if_eq hx hb d_md_instruction_60 (tgt := 66) (by decide) (fun z => absurd z hf) (fun _ => ?_)
  refine lv_iload hx hb d_md_instruction_63 (lv_at hl 0 rfl) ?_
  exact W.iret (v := sp_fo u (sp_dg (sg_im u (jm_ru j (jm_de j).toNatClampNeg).toNatClampNeg) (jm_nx j (jm_de j).toNatClampNeg)) (sp_dg (sg_im u (jm_ru j (jm_de j).toNatClampNeg).toNatClampNeg) ((jm_nx j (jm_de j).toNatClampNeg) + (1))) (jm_de j)) hx hb hret (fun t ht hW => ⟨_, rfl, rfl, ht⟩) (fun q h => by cases h) d_md_instruction_65
set_option maxHeartbeats 4000000 in
set_option maxRecDepth 100000 in
theorem c_md_instruction (l : Launch) (D : va_G) (cs : Nat → ClassId) (ad : Nat → Nat) (sz : Nat) (u : Sg) (j : Jm)  (hd : vp_in (jm_de j) 6) (hok : sp_ok u) (hru : vp_in (jm_ru j (jm_de j).toNatClampNeg) 8) (hf : sp_if (mb u j) = 0) : Met l y_md_instruction (Cond.code y_md_instruction b_md_instruction 8 (some .int) :: TB) { frames := 5, cells := 0, slots := 0, locals := 140 } (va_Pc [.ref (ad 0)] (mw_Pre D cs ad u j sz)) (va_Qi (fun (r : Int32) (j1 : Jm) => r = 0 ∧ mb (sp_in (mb u j)).1 j1 = sp_in (mb u j)) (fun (j1 : Jm) t => mw_B D cs ad (va_A (mw ad cs u j) sz) ((sp_in (mb u j)).1) j1 t) (va_A (mw ad cs u j) sz)) 0 0 (va_A (mw ad cs u j) sz) := by
  refine Met.ofW (cc := b_md_instruction) (maxL := 8) (ret := (some .int)) (by decide) rfl ?_
  intro p e s m args below meth c s₁ B hml hv
  obtain ⟨rfl, hsz, hP, hK, hD, hN⟩ := hv
  have hx := B.exec
  have hb := B.bytes
  have hret := B.returns
  have hts := atoms_spec (ws := Cond.code y_md_instruction b_md_instruction 8 (some .int) :: TB) B.pre
  have hT : ∀ w ∈ TB, w.before _ s = true := fun w h => hts w (List.mem_cons_of_mem _ h)
  have hown : s.vm.findClass "MeasuredStagesModel" = some m.cls := findClass_of_methodNamed B.named
  have hlocks := B.notSynchronized
  subst hsz
  have hD := hD.self (sz := s.heap.size)
  generalize hAe : va_A (mw ad cs u j) s.heap.size = A at hD ⊢
  have hA : ∀ q : Nat, s.heap.size ≤ q → A q := fun q h => by rw [← hAe]; exact Or.inr h
  have hS : va_S A s.heap s.heap [] := va_S.rf
  have hl := lv_entry ([.ref (ad 0)]) (n := 8) (Nat.le_of_ble_eq_true rfl)
  rw [lg_entry_eq]
  generalize (lg_sl ([.ref (ad 0)]) ++ List.replicate (8 - (lg_sl ([.ref (ad 0)])).length) Slot.unset).toArray = ls at hl ⊢
  have hl : lv_has ls 8 [(0, .ref (ad 0))] := hl
  skip
  refine lv_aload_n hx hb d_md_instruction_0 rfl (lv_at hl 0 rfl) ?_
  refine va_get (D := D) (ci := 3) (v := .int (jm_de j)) (C := "MeasuredStagesModel") (T := F_md) (N := 19) hx hb hts (fun w h => List.mem_cons_of_mem _ (i_md w h)) hown hK hP 0 rfl rfl 15 (by decide) (hT _ tb_474) (fun _ h9 => h9) rfl d_md_instruction_1 ?_
  refine lv_istore_n (nL := 8) (lv' := [(1, .int (jm_de j)), (0, .ref (ad 0))]) hx hb d_md_instruction_4 rfl hl (by decide) rfl (fun ls hl => ?_)
  refine lv_aload_n hx hb d_md_instruction_5 rfl (lv_at hl 1 rfl) ?_
  refine va_get (D := D) (ci := 3) (v := .ref (ad 11)) (C := "MeasuredStagesModel") (T := F_md) (N := 19) hx hb hts (fun w h => List.mem_cons_of_mem _ (i_md w h)) hown hK hP 0 rfl rfl 16 (by decide) (hT _ tb_475) (fun _ h9 => h9) rfl d_md_instruction_6 ?_
  refine lv_iload_n hx hb d_md_instruction_9 rfl (lv_at hl 0 rfl) ?_
  refine va_iald hx hb hK hP 11 10 rfl rfl hd d_md_instruction_10 ?_
  refine lv_istore_n (nL := 8) (lv' := [(2, .int (jm_ru j (jm_de j).toNatClampNeg)), (1, .int (jm_de j)), (0, .ref (ad 0))]) hx hb d_md_instruction_11 rfl hl (by decide) rfl (fun ls hl => ?_)
  refine lv_aload_n hx hb d_md_instruction_12 rfl (lv_at hl 2 rfl) ?_
  refine va_get (D := D) (ci := 3) (v := .ref (ad 12)) (C := "MeasuredStagesModel") (T := F_md) (N := 19) hx hb hts (fun w h => List.mem_cons_of_mem _ (i_md w h)) hown hK hP 0 rfl rfl 17 (by decide) (hT _ tb_476) (fun _ h9 => h9) rfl d_md_instruction_13 ?_
  refine lv_iload_n hx hb d_md_instruction_16 rfl (lv_at hl 1 rfl) ?_
  refine va_iald hx hb hK hP 12 11 rfl rfl hd d_md_instruction_17 ?_
  refine lv_istore_n (nL := 8) (lv' := [(3, .int (jm_nx j (jm_de j).toNatClampNeg)), (2, .int (jm_ru j (jm_de j).toNatClampNeg)), (1, .int (jm_de j)), (0, .ref (ad 0))]) hx hb d_md_instruction_18 rfl hl (by decide) rfl (fun ls hl => ?_)
  refine lv_aload_n hx hb d_md_instruction_19 rfl (lv_at hl 3 rfl) ?_
  refine lv_iload_n hx hb d_md_instruction_20 rfl (lv_at hl 1 rfl) ?_
  refine lv_iload_n hx hb d_md_instruction_21 rfl (lv_at hl 0 rfl) ?_
  refine mw_rdi (v := sp_dg (sg_im u (jm_ru j (jm_de j).toNatClampNeg).toNatClampNeg) (jm_nx j (jm_de j).toNatClampNeg)) (As := [.int (jm_ru j (jm_de j).toNatClampNeg), .int (jm_nx j (jm_de j).toNatClampNeg)]) (rest := []) ⟨hx, hb, hml, hown, hts⟩ (c_md_digit l D cs ad _ u j (jm_ru j (jm_de j).toNatClampNeg) (jm_nx j (jm_de j).toNatClampNeg) hru) tb_556 tb_558 sl_19 tb_4 tb_559 ⟨rfl, hd_md_digit⟩ ⟨Nat.le_of_ble_eq_true rfl, Nat.le_of_ble_eq_true rfl⟩ rfl rfl hK hP hD hN 0 3 rfl rfl hl.1 rfl (Nat.le_of_ble_eq_true rfl) d_md_instruction_22 ⟨Nat.zero_le _, Nat.zero_le _⟩ ?_
  refine lv_istore (nL := 8) (lv' := [(4, .int (sp_dg (sg_im u (jm_ru j (jm_de j).toNatClampNeg).toNatClampNeg) (jm_nx j (jm_de j).toNatClampNeg))), (3, .int (jm_nx j (jm_de j).toNatClampNeg)), (2, .int (jm_ru j (jm_de j).toNatClampNeg)), (1, .int (jm_de j)), (0, .ref (ad 0))]) hx hb d_md_instruction_25 hl (by decide) rfl (fun ls hl => ?_)
  refine lv_aload_n hx hb d_md_instruction_27 rfl (lv_at hl 4 rfl) ?_
  refine lv_iload_n hx hb d_md_instruction_28 rfl (lv_at hl 2 rfl) ?_
  refine lv_iload_n hx hb d_md_instruction_29 rfl (lv_at hl 1 rfl) ?_
  refine lv_iconst (v := 1) hx hb d_md_instruction_30 (by decide) ?_
  refine lv_iadd hx hb d_md_instruction_31 ?_
  refine mw_rdi (v := sp_dg (sg_im u (jm_ru j (jm_de j).toNatClampNeg).toNatClampNeg) ((jm_nx j (jm_de j).toNatClampNeg) + (1))) (As := [.int (jm_ru j (jm_de j).toNatClampNeg), .int ((jm_nx j (jm_de j).toNatClampNeg) + (1))]) (rest := []) ⟨hx, hb, hml, hown, hts⟩ (c_md_digit l D cs ad _ u j (jm_ru j (jm_de j).toNatClampNeg) ((jm_nx j (jm_de j).toNatClampNeg) + (1)) hru) tb_556 tb_558 sl_19 tb_4 tb_559 ⟨rfl, hd_md_digit⟩ ⟨Nat.le_of_ble_eq_true rfl, Nat.le_of_ble_eq_true rfl⟩ rfl rfl hK hP hD hN 0 3 rfl rfl hl.1 rfl (Nat.le_of_ble_eq_true rfl) d_md_instruction_32 ⟨Nat.zero_le _, Nat.zero_le _⟩ ?_
  refine lv_istore (nL := 8) (lv' := [(5, .int (sp_dg (sg_im u (jm_ru j (jm_de j).toNatClampNeg).toNatClampNeg) ((jm_nx j (jm_de j).toNatClampNeg) + (1)))), (4, .int (sp_dg (sg_im u (jm_ru j (jm_de j).toNatClampNeg).toNatClampNeg) (jm_nx j (jm_de j).toNatClampNeg))), (3, .int (jm_nx j (jm_de j).toNatClampNeg)), (2, .int (jm_ru j (jm_de j).toNatClampNeg)), (1, .int (jm_de j)), (0, .ref (ad 0))]) hx hb d_md_instruction_35 hl (by decide) rfl (fun ls hl => ?_)
  refine lv_aload_n hx hb d_md_instruction_37 rfl (lv_at hl 5 rfl) ?_
  refine lv_iload_n hx hb d_md_instruction_38 rfl (lv_at hl 3 rfl) ?_
  refine lv_iload_n hx hb d_md_instruction_39 rfl (lv_at hl 2 rfl) ?_
  refine lv_iconst (v := 2) hx hb d_md_instruction_40 (by decide) ?_
  refine lv_iadd hx hb d_md_instruction_41 ?_
  refine mw_rdi (v := sp_dg (sg_im u (jm_ru j (jm_de j).toNatClampNeg).toNatClampNeg) ((jm_nx j (jm_de j).toNatClampNeg) + (2))) (As := [.int (jm_ru j (jm_de j).toNatClampNeg), .int ((jm_nx j (jm_de j).toNatClampNeg) + (2))]) (rest := []) ⟨hx, hb, hml, hown, hts⟩ (c_md_digit l D cs ad _ u j (jm_ru j (jm_de j).toNatClampNeg) ((jm_nx j (jm_de j).toNatClampNeg) + (2)) hru) tb_556 tb_558 sl_19 tb_4 tb_559 ⟨rfl, hd_md_digit⟩ ⟨Nat.le_of_ble_eq_true rfl, Nat.le_of_ble_eq_true rfl⟩ rfl rfl hK hP hD hN 0 3 rfl rfl hl.1 rfl (Nat.le_of_ble_eq_true rfl) d_md_instruction_42 ⟨Nat.zero_le _, Nat.zero_le _⟩ ?_
  refine lv_istore (nL := 8) (lv' := [(6, .int (sp_dg (sg_im u (jm_ru j (jm_de j).toNatClampNeg).toNatClampNeg) ((jm_nx j (jm_de j).toNatClampNeg) + (2)))), (5, .int (sp_dg (sg_im u (jm_ru j (jm_de j).toNatClampNeg).toNatClampNeg) ((jm_nx j (jm_de j).toNatClampNeg) + (1)))), (4, .int (sp_dg (sg_im u (jm_ru j (jm_de j).toNatClampNeg).toNatClampNeg) (jm_nx j (jm_de j).toNatClampNeg))), (3, .int (jm_nx j (jm_de j).toNatClampNeg)), (2, .int (jm_ru j (jm_de j).toNatClampNeg)), (1, .int (jm_de j)), (0, .ref (ad 0))]) hx hb d_md_instruction_45 hl (by decide) rfl (fun ls hl => ?_)
  refine lv_aload_n hx hb d_md_instruction_47 rfl (lv_at hl 6 rfl) ?_
  refine lv_iload hx hb d_md_instruction_48 (lv_at hl 2 rfl) ?_
  refine lv_iload hx hb d_md_instruction_50 (lv_at hl 1 rfl) ?_
  refine lv_iload_n hx hb d_md_instruction_52 rfl (lv_at hl 5 rfl) ?_
  refine mw_rdi (v := sp_fo u (sp_dg (sg_im u (jm_ru j (jm_de j).toNatClampNeg).toNatClampNeg) (jm_nx j (jm_de j).toNatClampNeg)) (sp_dg (sg_im u (jm_ru j (jm_de j).toNatClampNeg).toNatClampNeg) ((jm_nx j (jm_de j).toNatClampNeg) + (1))) (jm_de j)) (As := [.int (sp_dg (sg_im u (jm_ru j (jm_de j).toNatClampNeg).toNatClampNeg) (jm_nx j (jm_de j).toNatClampNeg)), .int (sp_dg (sg_im u (jm_ru j (jm_de j).toNatClampNeg).toNatClampNeg) ((jm_nx j (jm_de j).toNatClampNeg) + (1))), .int (jm_de j)]) (rest := []) ⟨hx, hb, hml, hown, hts⟩ (c_md_faultOf l D cs ad _ u j (sp_dg (sg_im u (jm_ru j (jm_de j).toNatClampNeg).toNatClampNeg) (jm_nx j (jm_de j).toNatClampNeg)) (sp_dg (sg_im u (jm_ru j (jm_de j).toNatClampNeg).toNatClampNeg) ((jm_nx j (jm_de j).toNatClampNeg) + (1))) (jm_de j) (sp_rd8 _ _)) tb_561 tb_563 sl_20 tb_4 tb_564 ⟨rfl, hd_md_faultOf⟩ ⟨Nat.le_of_ble_eq_true rfl, Nat.le_of_ble_eq_true rfl⟩ rfl rfl hK hP hD hN 0 3 rfl rfl hl.1 rfl (Nat.le_of_ble_eq_true rfl) d_md_instruction_53 ⟨Nat.zero_le _, Nat.zero_le _⟩ ?_
  refine lv_istore (nL := 8) (lv' := [(7, .int (sp_fo u (sp_dg (sg_im u (jm_ru j (jm_de j).toNatClampNeg).toNatClampNeg) (jm_nx j (jm_de j).toNatClampNeg)) (sp_dg (sg_im u (jm_ru j (jm_de j).toNatClampNeg).toNatClampNeg) ((jm_nx j (jm_de j).toNatClampNeg) + (1))) (jm_de j))), (6, .int (sp_dg (sg_im u (jm_ru j (jm_de j).toNatClampNeg).toNatClampNeg) ((jm_nx j (jm_de j).toNatClampNeg) + (2)))), (5, .int (sp_dg (sg_im u (jm_ru j (jm_de j).toNatClampNeg).toNatClampNeg) ((jm_nx j (jm_de j).toNatClampNeg) + (1)))), (4, .int (sp_dg (sg_im u (jm_ru j (jm_de j).toNatClampNeg).toNatClampNeg) (jm_nx j (jm_de j).toNatClampNeg))), (3, .int (jm_nx j (jm_de j).toNatClampNeg)), (2, .int (jm_ru j (jm_de j).toNatClampNeg)), (1, .int (jm_de j)), (0, .ref (ad 0))]) hx hb d_md_instruction_56 hl (by decide) rfl (fun ls hl => ?_)
  refine lv_iload hx hb d_md_instruction_58 (lv_at hl 0 rfl) ?_
  refine lv_if_eq hx hb d_md_instruction_60 (tgt := 66) (by decide) (fun _ => ?_) (fun z => absurd hf z)
  refine lv_aload_n hx hb d_md_instruction_66 rfl (lv_at hl 7 rfl) ?_
  refine va_get (D := D) (ci := 3) (v := .ref (ad 12)) (C := "MeasuredStagesModel") (T := F_md) (N := 19) hx hb hts (fun w h => List.mem_cons_of_mem _ (i_md w h)) hown hK hP 0 rfl rfl 17 (by decide) (hT _ tb_476) (fun _ h9 => h9) rfl d_md_instruction_67 ?_
  refine lv_iload_n hx hb d_md_instruction_70 rfl (lv_at hl 6 rfl) ?_
  refine lv_iload_n hx hb d_md_instruction_71 rfl (lv_at hl 4 rfl) ?_
  refine lv_iconst (v := 1) hx hb d_md_instruction_72 (by decide) ?_
  refine lv_iadd hx hb d_md_instruction_73 ?_
  refine lv_iload hx hb d_md_instruction_74 (lv_at hl 3 rfl) ?_
  refine st_i (v := sp_op (sp_dg (sg_im u (jm_ru j (jm_de j).toNatClampNeg).toNatClampNeg) (jm_nx j (jm_de j).toNatClampNeg))) (As := [.int (sp_dg (sg_im u (jm_ru j (jm_de j).toNatClampNeg).toNatClampNeg) (jm_nx j (jm_de j).toNatClampNeg))]) (rest := [.int ((jm_nx j (jm_de j).toNatClampNeg) + (1)), .int (jm_de j), .ref (ad 12)]) ⟨hx, hb, hml, hown, hts⟩ (c_md_operands l (sp_dg (sg_im u (jm_ru j (jm_de j).toNatClampNeg).toNatClampNeg) (jm_nx j (jm_de j).toNatClampNeg))) tb_574 tb_575 tb_4 tb_576 hd_md_operands ⟨Nat.le_of_ble_eq_true rfl, Nat.le_of_ble_eq_true rfl⟩ rfl rfl hl.1 rfl (Nat.le_of_ble_eq_true rfl) d_md_instruction_76 ⟨Nat.zero_le _, Nat.zero_le _⟩ ?_
  refine lv_iadd hx hb d_md_instruction_79 ?_
  refine va_iast hx hb hK hP hD hS 12 11 rfl rfl hd d_md_instruction_80 (fun H locs hP hD hS => ?_)
  have hP : va_P D cx (mv ad cs (sg_im u) (sg_ap u) (sg_ag u) (sg_he u) (sg_er u) (sg_ev u) (sg_en u) (sg_ma u) (sg_po u) (sg_se u) (sg_ac u) (sg_fa u) (sg_la u) (sg_st u) (jm_ag j) (jm_de j) (jm_ru j) (upd (jm_nx j) (jm_de j).toNatClampNeg (((jm_nx j (jm_de j).toNatClampNeg) + (1)) + (sp_op (sp_dg (sg_im u (jm_ru j (jm_de j).toNatClampNeg).toNatClampNeg) (jm_nx j (jm_de j).toNatClampNeg))))) (jm_th j)) H := hP
  have hD : va_D A (mv ad cs (sg_im u) (sg_ap u) (sg_ag u) (sg_he u) (sg_er u) (sg_ev u) (sg_en u) (sg_ma u) (sg_po u) (sg_se u) (sg_ac u) (sg_fa u) (sg_la u) (sg_st u) (jm_ag j) (jm_de j) (jm_ru j) (upd (jm_nx j) (jm_de j).toNatClampNeg (((jm_nx j (jm_de j).toNatClampNeg) + (1)) + (sp_op (sp_dg (sg_im u (jm_ru j (jm_de j).toNatClampNeg).toNatClampNeg) (jm_nx j (jm_de j).toNatClampNeg))))) (jm_th j)) := hD
  refine lv_aload_n hx hb d_md_instruction_81 rfl (lv_at hl 7 rfl) ?_
  refine lv_iload hx hb d_md_instruction_82 (lv_at hl 3 rfl) ?_
  refine lv_iload hx hb d_md_instruction_84 (lv_at hl 2 rfl) ?_
  refine lv_iload hx hb d_md_instruction_86 (lv_at hl 1 rfl) ?_
  refine lv_iload_n hx hb d_md_instruction_88 rfl (lv_at hl 6 rfl) ?_
  obtain ⟨q1, eq1⟩ : ∃ z : Jm, z = (jm_ag j, jm_de j, jm_ru j, upd (jm_nx j) (jm_de j).toNatClampNeg (((jm_nx j (jm_de j).toNatClampNeg) + (1)) + (sp_op (sp_dg (sg_im u (jm_ru j (jm_de j).toNatClampNeg).toNatClampNeg) (jm_nx j (jm_de j).toNatClampNeg)))), jm_th j) := ⟨_, rfl⟩
  have hP : va_P D cx (mw ad cs u q1) H := by rw [eq1, mw_j]; exact hP
  have hD : va_D A (mw ad cs u q1) := by rw [eq1, mw_j]; exact hD
  refine mw_wrv (u' := (sp_ac (mb u q1) (sp_dg (sg_im u (jm_ru j (jm_de j).toNatClampNeg).toNatClampNeg) (jm_nx j (jm_de j).toNatClampNeg)) (sp_dg (sg_im u (jm_ru j (jm_de j).toNatClampNeg).toNatClampNeg) ((jm_nx j (jm_de j).toNatClampNeg) + (1))) (sp_dg (sg_im u (jm_ru j (jm_de j).toNatClampNeg).toNatClampNeg) ((jm_nx j (jm_de j).toNatClampNeg) + (2))) (jm_de j)).1) (As := [.int (sp_dg (sg_im u (jm_ru j (jm_de j).toNatClampNeg).toNatClampNeg) (jm_nx j (jm_de j).toNatClampNeg)), .int (sp_dg (sg_im u (jm_ru j (jm_de j).toNatClampNeg).toNatClampNeg) ((jm_nx j (jm_de j).toNatClampNeg) + (1))), .int (sp_dg (sg_im u (jm_ru j (jm_de j).toNatClampNeg).toNatClampNeg) ((jm_nx j (jm_de j).toNatClampNeg) + (2))), .int (jm_de j)]) (rest := []) ⟨hx, hb, hml, hown, hts⟩ (c_md_act l D cs ad _ u q1 (sp_dg (sg_im u (jm_ru j (jm_de j).toNatClampNeg).toNatClampNeg) (jm_nx j (jm_de j).toNatClampNeg)) (sp_dg (sg_im u (jm_ru j (jm_de j).toNatClampNeg).toNatClampNeg) ((jm_nx j (jm_de j).toNatClampNeg) + (1))) (sp_dg (sg_im u (jm_ru j (jm_de j).toNatClampNeg).toNatClampNeg) ((jm_nx j (jm_de j).toNatClampNeg) + (2))) (jm_de j) hd hok (sp_rd8 _ _) (sp_rd6 _ _) (sp_dg16 _ _) hf) tb_577 tb_579 sl_23 tb_4 tb_580 ⟨rfl, hd_md_act⟩ ⟨Nat.le_of_ble_eq_true rfl, Nat.le_of_ble_eq_true rfl⟩ rfl rfl hK hP hD hN 0 3 rfl rfl hl.1 rfl (Nat.le_of_ble_eq_true rfl) d_md_instruction_89 ⟨Nat.zero_le _, Nat.zero_le _⟩ hS hA (fun j2 H locs hj3 hP hD hS => ?_)
  obtain ⟨v4, ev4⟩ : ∃ z : Sg, z = (sp_ac (mb u q1) (sp_dg (sg_im u (jm_ru j (jm_de j).toNatClampNeg).toNatClampNeg) (jm_nx j (jm_de j).toNatClampNeg)) (sp_dg (sg_im u (jm_ru j (jm_de j).toNatClampNeg).toNatClampNeg) ((jm_nx j (jm_de j).toNatClampNeg) + (1))) (sp_dg (sg_im u (jm_ru j (jm_de j).toNatClampNeg).toNatClampNeg) ((jm_nx j (jm_de j).toNatClampNeg) + (2))) (jm_de j)).1 := ⟨_, rfl⟩
  rw [← ev4] at hP hD
  refine lv_iconst (v := 0) hx hb d_md_instruction_92 (by decide) ?_
  have eI : sp_ac (mb u q1) (sp_dg (sg_im u (jm_ru j (jm_de j).toNatClampNeg).toNatClampNeg) (jm_nx j (jm_de j).toNatClampNeg)) (sp_dg (sg_im u (jm_ru j (jm_de j).toNatClampNeg).toNatClampNeg) ((jm_nx j (jm_de j).toNatClampNeg) + (1))) (sp_dg (sg_im u (jm_ru j (jm_de j).toNatClampNeg).toNatClampNeg) ((jm_nx j (jm_de j).toNatClampNeg) + (2))) (jm_de j) = sp_in (mb u j) := by
    subst eq1
    rfl
  have hP : va_P D cx (mw ad cs (sp_in (mb u j)).1 j2) H := by rw [← eI, ← ev4]; exact hP
  have hD : va_D A (mw ad cs (sp_in (mb u j)).1 j2) := by rw [← eI, ← ev4]; exact hD
  rw [eI] at hj3
  exact W.iret hx hb hret (fun t ht hW => ⟨⟨_, j2, rfl, ⟨rfl, hj3⟩, by rw [ht]; exact hP, va_K.moved hW.alike hK, hD⟩, hS.F ht⟩) hS.2.2 d_md_instruction_93
