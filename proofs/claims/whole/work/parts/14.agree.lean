theorem ra_at {er : Nat → Int32} {ev : Nat → Int64} {f : Nat → Int64} {k : Nat} (h : ∀ i : Nat, i < 6 → f i = sp_ra er ev k i) (hr : vp_in (er k) 6) : ∀ i : Nat, i < 6 → vp_updL f (er k).toNatClampNeg (sp_h (f (er k).toNatClampNeg) (ev k)) i = sp_ra er ev (k + 1) i := by
  intro i hi
  show _ = vp_updL (sp_ra er ev k) (er k).toNatClampNeg (sp_h (sp_ra er ev k (er k).toNatClampNeg) (ev k)) i
  obtain ⟨m, hm, em⟩ := vp_in_of hr (by decide)
  have hc : (er k).toNatClampNeg = m := by rw [em]; exact nI_clamp (by omega)
  rw [hc, h m hm]
  by_cases z : i = m
  · rw [z, pk_uLs, pk_uLs]
  · rw [pk_uLn z, pk_uLn z]
    exact h i hi
theorem z6_0 (f : Nat → Int64) : ∀ i : Nat, i < 6 → sp_z6 f i = 0 := by
  intro i hi
  rcases (show i = 0 ∨ i = 1 ∨ i = 2 ∨ i = 3 ∨ i = 4 ∨ i = 5 by omega) with h | h | h | h | h | h <;> subst h <;> rfl
theorem re_1 {u : Sg} {f : Nat → Int64} (h : ∀ i : Nat, i < 6 → f i = sp_ra (sg_er u) (sg_ev u) (sg_en u).toNatClampNeg i) (h0 : f 0 = sg_he u 0) (h1 : f 1 = sg_he u 1) (h2 : f 2 = sg_he u 2) (h3 : f 3 = sg_he u 3) (h4 : f 4 = sg_he u 4) (h5 : f 5 = sg_he u 5) : 1 = sp_re u := by
  show 1 = if sp_ra (sg_er u) (sg_ev u) (sg_en u).toNatClampNeg 0 = sg_he u 0 ∧ sp_ra (sg_er u) (sg_ev u) (sg_en u).toNatClampNeg 1 = sg_he u 1 ∧ sp_ra (sg_er u) (sg_ev u) (sg_en u).toNatClampNeg 2 = sg_he u 2 ∧ sp_ra (sg_er u) (sg_ev u) (sg_en u).toNatClampNeg 3 = sg_he u 3 ∧ sp_ra (sg_er u) (sg_ev u) (sg_en u).toNatClampNeg 4 = sg_he u 4 ∧ sp_ra (sg_er u) (sg_ev u) (sg_en u).toNatClampNeg 5 = sg_he u 5 then (1 : Int32) else 0
  rw [if_pos ⟨(h 0 (by decide)).symm.trans h0, (h 1 (by decide)).symm.trans h1, (h 2 (by decide)).symm.trans h2, (h 3 (by decide)).symm.trans h3, (h 4 (by decide)).symm.trans h4, (h 5 (by decide)).symm.trans h5⟩]
theorem re_0 {u : Sg} {f : Nat → Int64} (h : ∀ i : Nat, i < 6 → f i = sp_ra (sg_er u) (sg_ev u) (sg_en u).toNatClampNeg i) (k : Nat) (hk : k < 6) (hn : ¬ f k = sg_he u k) : 0 = sp_re u := by
  show 0 = if sp_ra (sg_er u) (sg_ev u) (sg_en u).toNatClampNeg 0 = sg_he u 0 ∧ sp_ra (sg_er u) (sg_ev u) (sg_en u).toNatClampNeg 1 = sg_he u 1 ∧ sp_ra (sg_er u) (sg_ev u) (sg_en u).toNatClampNeg 2 = sg_he u 2 ∧ sp_ra (sg_er u) (sg_ev u) (sg_en u).toNatClampNeg 3 = sg_he u 3 ∧ sp_ra (sg_er u) (sg_ev u) (sg_en u).toNatClampNeg 4 = sg_he u 4 ∧ sp_ra (sg_er u) (sg_ev u) (sg_en u).toNatClampNeg 5 = sg_he u 5 then (1 : Int32) else 0
  rw [if_neg]
  intro ⟨a0, a1, a2, a3, a4, a5⟩
  apply hn
  rw [h k hk]
  rcases (show k = 0 ∨ k = 1 ∨ k = 2 ∨ k = 3 ∨ k = 4 ∨ k = 5 by omega) with z | z | z | z | z | z <;> subst z <;> assumption
theorem re_z (u : Sg) : narrow .boolean (.int (sp_re u)) = .int (sp_re u) := by
  have h : sp_re u = 0 ∨ sp_re u = 1 := by
    show (if sp_ra (sg_er u) (sg_ev u) (sg_en u).toNatClampNeg 0 = sg_he u 0 ∧ sp_ra (sg_er u) (sg_ev u) (sg_en u).toNatClampNeg 1 = sg_he u 1 ∧ sp_ra (sg_er u) (sg_ev u) (sg_en u).toNatClampNeg 2 = sg_he u 2 ∧ sp_ra (sg_er u) (sg_ev u) (sg_en u).toNatClampNeg 3 = sg_he u 3 ∧ sp_ra (sg_er u) (sg_ev u) (sg_en u).toNatClampNeg 4 = sg_he u 4 ∧ sp_ra (sg_er u) (sg_ev u) (sg_en u).toNatClampNeg 5 = sg_he u 5 then (1 : Int32) else 0) = 0 ∨ _
    by_cases z : sp_ra (sg_er u) (sg_ev u) (sg_en u).toNatClampNeg 0 = sg_he u 0 ∧ sp_ra (sg_er u) (sg_ev u) (sg_en u).toNatClampNeg 1 = sg_he u 1 ∧ sp_ra (sg_er u) (sg_ev u) (sg_en u).toNatClampNeg 2 = sg_he u 2 ∧ sp_ra (sg_er u) (sg_ev u) (sg_en u).toNatClampNeg 3 = sg_he u 3 ∧ sp_ra (sg_er u) (sg_ev u) (sg_en u).toNatClampNeg 4 = sg_he u 4 ∧ sp_ra (sg_er u) (sg_ev u) (sg_en u).toNatClampNeg 5 = sg_he u 5
    · exact Or.inr (if_pos z)
    · exact Or.inl (if_neg z)
  rcases h with h | h <;> rw [h] <;> rfl
theorem d_rg_agreeWithLog_0 : decode b_rg_agreeWithLog 0 = .ok (.aload_n 0, 1) := by decide +kernel
theorem d_rg_agreeWithLog_1 : decode b_rg_agreeWithLog 1 = .ok (.getfield 22, 3) := by decide +kernel
theorem d_rg_agreeWithLog_4 : decode b_rg_agreeWithLog 4 = .ok (.lconst 0, 1) := by decide +kernel
theorem d_rg_agreeWithLog_5 : decode b_rg_agreeWithLog 5 = .ok (.invokestatic 29, 3) := by decide +kernel
theorem d_rg_agreeWithLog_8 : decode b_rg_agreeWithLog 8 = .ok (.iconst 0, 1) := by decide +kernel
theorem d_rg_agreeWithLog_9 : decode b_rg_agreeWithLog 9 = .ok (.istore_n 1, 1) := by decide +kernel
theorem d_rg_agreeWithLog_10 : decode b_rg_agreeWithLog 10 = .ok (.iload_n 1, 1) := by decide +kernel
theorem d_rg_agreeWithLog_11 : decode b_rg_agreeWithLog 11 = .ok (.aload_n 0, 1) := by decide +kernel
theorem d_rg_agreeWithLog_12 : decode b_rg_agreeWithLog 12 = .ok (.getfield 25, 3) := by decide +kernel
theorem d_rg_agreeWithLog_15 : decode b_rg_agreeWithLog 15 = .ok (.if_icmp .ge 37, 3) := by decide +kernel
theorem d_rg_agreeWithLog_18 : decode b_rg_agreeWithLog 18 = .ok (.aload_n 0, 1) := by decide +kernel
theorem d_rg_agreeWithLog_19 : decode b_rg_agreeWithLog 19 = .ok (.getfield 15, 3) := by decide +kernel
theorem d_rg_agreeWithLog_22 : decode b_rg_agreeWithLog 22 = .ok (.iload_n 1, 1) := by decide +kernel
theorem d_rg_agreeWithLog_23 : decode b_rg_agreeWithLog 23 = .ok (.iaload, 1) := by decide +kernel
theorem d_rg_agreeWithLog_24 : decode b_rg_agreeWithLog 24 = .ok (.istore_n 2, 1) := by decide +kernel
theorem d_rg_agreeWithLog_25 : decode b_rg_agreeWithLog 25 = .ok (.aload_n 0, 1) := by decide +kernel
theorem d_rg_agreeWithLog_26 : decode b_rg_agreeWithLog 26 = .ok (.getfield 22, 3) := by decide +kernel
theorem d_rg_agreeWithLog_29 : decode b_rg_agreeWithLog 29 = .ok (.iload_n 2, 1) := by decide +kernel
theorem d_rg_agreeWithLog_30 : decode b_rg_agreeWithLog 30 = .ok (.aload_n 0, 1) := by decide +kernel
theorem d_rg_agreeWithLog_31 : decode b_rg_agreeWithLog 31 = .ok (.getfield 22, 3) := by decide +kernel
theorem d_rg_agreeWithLog_34 : decode b_rg_agreeWithLog 34 = .ok (.iload_n 2, 1) := by decide +kernel
theorem d_rg_agreeWithLog_35 : decode b_rg_agreeWithLog 35 = .ok (.laload, 1) := by decide +kernel
theorem d_rg_agreeWithLog_36 : decode b_rg_agreeWithLog 36 = .ok (.aload_n 0, 1) := by decide +kernel
theorem d_rg_agreeWithLog_37 : decode b_rg_agreeWithLog 37 = .ok (.getfield 19, 3) := by decide +kernel
theorem d_rg_agreeWithLog_40 : decode b_rg_agreeWithLog 40 = .ok (.iload_n 1, 1) := by decide +kernel
theorem d_rg_agreeWithLog_41 : decode b_rg_agreeWithLog 41 = .ok (.laload, 1) := by decide +kernel
theorem d_rg_agreeWithLog_42 : decode b_rg_agreeWithLog 42 = .ok (.invokestatic 35, 3) := by decide +kernel
theorem d_rg_agreeWithLog_45 : decode b_rg_agreeWithLog 45 = .ok (.lastore, 1) := by decide +kernel
theorem d_rg_agreeWithLog_46 : decode b_rg_agreeWithLog 46 = .ok (.iinc 1 1, 3) := by decide +kernel
theorem d_rg_agreeWithLog_49 : decode b_rg_agreeWithLog 49 = .ok (.goto (-39), 3) := by decide +kernel
theorem d_rg_agreeWithLog_52 : decode b_rg_agreeWithLog 52 = .ok (.iconst 0, 1) := by decide +kernel
theorem d_rg_agreeWithLog_53 : decode b_rg_agreeWithLog 53 = .ok (.istore_n 1, 1) := by decide +kernel
theorem d_rg_agreeWithLog_54 : decode b_rg_agreeWithLog 54 = .ok (.iload_n 1, 1) := by decide +kernel
theorem d_rg_agreeWithLog_55 : decode b_rg_agreeWithLog 55 = .ok (.bipush 6, 2) := by decide +kernel
theorem d_rg_agreeWithLog_57 : decode b_rg_agreeWithLog 57 = .ok (.if_icmp .ge 27, 3) := by decide +kernel
theorem d_rg_agreeWithLog_60 : decode b_rg_agreeWithLog 60 = .ok (.aload_n 0, 1) := by decide +kernel
theorem d_rg_agreeWithLog_61 : decode b_rg_agreeWithLog 61 = .ok (.getfield 22, 3) := by decide +kernel
theorem d_rg_agreeWithLog_64 : decode b_rg_agreeWithLog 64 = .ok (.iload_n 1, 1) := by decide +kernel
theorem d_rg_agreeWithLog_65 : decode b_rg_agreeWithLog 65 = .ok (.laload, 1) := by decide +kernel
theorem d_rg_agreeWithLog_66 : decode b_rg_agreeWithLog 66 = .ok (.aload_n 0, 1) := by decide +kernel
theorem d_rg_agreeWithLog_67 : decode b_rg_agreeWithLog 67 = .ok (.getfield 11, 3) := by decide +kernel
theorem d_rg_agreeWithLog_70 : decode b_rg_agreeWithLog 70 = .ok (.iload_n 1, 1) := by decide +kernel
theorem d_rg_agreeWithLog_71 : decode b_rg_agreeWithLog 71 = .ok (.laload, 1) := by decide +kernel
theorem d_rg_agreeWithLog_72 : decode b_rg_agreeWithLog 72 = .ok (.lcmp, 1) := by decide +kernel
theorem d_rg_agreeWithLog_73 : decode b_rg_agreeWithLog 73 = .ok (.ifCond .eq 5, 3) := by decide +kernel
theorem d_rg_agreeWithLog_76 : decode b_rg_agreeWithLog 76 = .ok (.iconst 0, 1) := by decide +kernel
theorem d_rg_agreeWithLog_77 : decode b_rg_agreeWithLog 77 = .ok (.ireturn, 1) := by decide +kernel
theorem d_rg_agreeWithLog_78 : decode b_rg_agreeWithLog 78 = .ok (.iinc 1 1, 3) := by decide +kernel
theorem d_rg_agreeWithLog_81 : decode b_rg_agreeWithLog 81 = .ok (.goto (-27), 3) := by decide +kernel
theorem d_rg_agreeWithLog_84 : decode b_rg_agreeWithLog 84 = .ok (.iconst 1, 1) := by decide +kernel
theorem d_rg_agreeWithLog_85 : decode b_rg_agreeWithLog 85 = .ok (.ireturn, 1) := by decide +kernel
theorem d_ms_replays_0 : decode b_ms_replays 0 = .ok (.aload_n 0, 1) := by decide +kernel
theorem d_ms_replays_1 : decode b_ms_replays 1 = .ok (.getfield 23, 3) := by decide +kernel
theorem d_ms_replays_4 : decode b_ms_replays 4 = .ok (.invokevirtual 119, 3) := by decide +kernel
theorem d_ms_replays_7 : decode b_ms_replays 7 = .ok (.ireturn, 1) := by decide +kernel
set_option maxHeartbeats 4000000 in
set_option maxRecDepth 100000 in
theorem c_rg_agreeWithLog (l : Launch) (D : va_G) (cs : Nat → ClassId) (ad : Nat → Nat) (sz : Nat) (u : Sg) (j : Jx) (n : Nat) (hok : sp_ok u) (hn32 : n ≤ 32) (hn : sg_en u = nI n) : Met l y_rg_agreeWithLog (Cond.code y_rg_agreeWithLog b_rg_agreeWithLog 3 (some .boolean) :: TB) { frames := 1, cells := 0, slots := 0, locals := 25 } (va_Pc [.ref (ad 4)] (xw_Pre D cs ad u j sz)) (va_Qi (fun (r : Int32) (j1 : Jx) => r = sp_re u ∧ True) (fun (j1 : Jx) t => xw_B D cs ad (va_A (xw ad cs u j) sz) u j1 t) (va_A (xw ad cs u j) sz)) 0 0 (va_A (xw ad cs u j) sz) := by
  refine Met.ofW (cc := b_rg_agreeWithLog) (maxL := 3) (ret := (some .boolean)) (by decide) rfl ?_
  intro p e s m args below meth c s₁ B hml hv
  obtain ⟨rfl, hsz, hP, hK, hD, hN⟩ := hv
  have hx := B.exec
  have hb := B.bytes
  have hret := B.returns
  have hts := atoms_spec (ws := Cond.code y_rg_agreeWithLog b_rg_agreeWithLog 3 (some .boolean) :: TB) B.pre
  have hT : ∀ w ∈ TB, w.before _ s = true := fun w h => hts w (List.mem_cons_of_mem _ h)
  have hown : s.vm.findClass "MeasuredStages$Registers" = some m.cls := findClass_of_methodNamed B.named
  have hlocks := B.notSynchronized
  subst hsz
  have hD := hD.self (sz := s.heap.size)
  generalize hAe : va_A (xw ad cs u j) s.heap.size = A at hD ⊢
  have hA : ∀ q : Nat, s.heap.size ≤ q → A q := fun q h => by rw [← hAe]; exact Or.inr h
  have hS : va_S A s.heap s.heap [] := va_S.rf
  have hl := lv_entry ([.ref (ad 4)]) (n := 3) (Nat.le_of_ble_eq_true rfl)
  rw [lg_entry_eq]
  generalize (lg_sl ([.ref (ad 4)]) ++ List.replicate (3 - (lg_sl ([.ref (ad 4)])).length) Slot.unset).toArray = ls at hl ⊢
  have hl : lv_has ls 3 [(0, .ref (ad 4))] := hl
  skip
  refine lv_aload_n hx hb d_rg_agreeWithLog_0 rfl (lv_at hl 0 rfl) ?_
  refine va_get (D := D) (ci := 1) (v := .ref (ad 11)) (C := "MeasuredStages$Registers") (T := F_rg) (N := 5) hx hb hts (fun w h => List.mem_cons_of_mem _ (i_rg w h)) hown hK hP 4 rfl rfl 4 (by decide) (hT _ tb_35) (fun _ h9 => h9) rfl d_rg_agreeWithLog_1 ?_
  refine lv_lconst (v := 0) hx hb d_rg_agreeWithLog_4 (by decide) ?_
  refine xw_fl11 ⟨hx, hb, hml, hown, hts⟩ tb_134 ⟨Nat.le_of_ble_eq_true rfl, Nat.le_of_ble_eq_true rfl⟩ hK hP hD hl.1 (Nat.le_of_ble_eq_true rfl) d_rg_agreeWithLog_5 ⟨Nat.zero_le _, Nat.zero_le _⟩ hS hA (fun H locs hP hD hS => ?_)
  have hP : va_P D cx (xv ad cs (sg_im u) (sg_ap u) (sg_ag u) (sg_he u) (sg_er u) (sg_ev u) (sg_en u) (sg_ma u) (sg_po u) (sg_se u) (sg_ac u) (sg_fa u) (sg_la u) (sg_st u) (jx_ru j) (jx_nd j) (jx_de j) (sp_z6 (jx_rp j))) H := hP
  have hD : va_D A (xv ad cs (sg_im u) (sg_ap u) (sg_ag u) (sg_he u) (sg_er u) (sg_ev u) (sg_en u) (sg_ma u) (sg_po u) (sg_se u) (sg_ac u) (sg_fa u) (sg_la u) (sg_st u) (jx_ru j) (jx_nd j) (jx_de j) (sp_z6 (jx_rp j))) := hD
  refine lv_iconst (v := 0) hx hb d_rg_agreeWithLog_8 (by decide) ?_
  refine lv_istore_n (nL := 3) (lv' := [(1, .int (0)), (0, .ref (ad 4))]) hx hb d_rg_agreeWithLog_9 rfl hl (by decide) rfl (fun ls hl => ?_)
  obtain ⟨q1, eq1⟩ : ∃ z : Jx, z = (jx_ru j, jx_nd j, jx_de j, sp_z6 (jx_rp j)) := ⟨_, rfl⟩
  have hP : va_P D cx (xw ad cs u q1) H := by rw [eq1, xw_j]; exact hP
  have hD : va_D A (xw ad cs u q1) := by rw [eq1, xw_j]; exact hD
  refine wl_up (α := Jx) n (fun r H1 L1 ls a => lv_has ls 3 [(1, .int (nI r)), (0, .ref (ad 4))] ∧ va_P D cx (xw ad cs u a) H1 ∧ va_D A (xw ad cs u a) ∧ va_S A s.heap H1 L1 ∧ (∀ i : Nat, i < 6 → jx_rp a i = sp_ra (sg_er u) (sg_ev u) r i)) 10 ?_ ?_ 0 _ _ ls q1 (Nat.zero_le _) ⟨hl, hP, hD, hS, (by subst eq1; exact z6_0 _)⟩
  · intro H L ls q1 hI
    obtain ⟨hl, hP, hD, hS, hra⟩ := hI
    have hra : ∀ i : Nat, i < 6 → jx_rp q1 i = sp_ra (sg_er u) (sg_ev u) (sg_en u).toNatClampNeg i := by rw [hn, nI_clamp (by omega)]; exact hra
    refine lv_iload_n hx hb d_rg_agreeWithLog_10 rfl (lv_at hl 0 rfl) ?_
    refine lv_aload_n hx hb d_rg_agreeWithLog_11 rfl (lv_at hl 1 rfl) ?_
    refine va_get (D := D) (ci := 1) (v := .int (sg_en u)) (C := "MeasuredStages$Registers") (T := F_rg) (N := 5) hx hb hts (fun w h => List.mem_cons_of_mem _ (i_rg w h)) hown hK hP 4 rfl rfl 3 (by decide) (hT _ tb_33) (fun _ h9 => h9) rfl d_rg_agreeWithLog_12 ?_
    refine lv_icmp_ge hx hb d_rg_agreeWithLog_15 (tgt := 52) (by decide) (fun _ => ?_) (fun z => absurd (by rw [hn]; exact nI_le (Nat.le_refl _) (by omega)) z)
    refine lv_iconst (v := 0) hx hb d_rg_agreeWithLog_52 (by decide) ?_
    refine lv_istore_n (nL := 3) (lv' := [(1, .int (0)), (0, .ref (ad 4))]) hx hb d_rg_agreeWithLog_53 rfl hl (by decide) rfl (fun ls hl => ?_)
    refine lv_iload_n hx hb d_rg_agreeWithLog_54 rfl (lv_at hl 0 rfl) ?_
    refine lv_bipush (v := 6) hx hb d_rg_agreeWithLog_55 (by decide) ?_
    refine lv_icmp_ge hx hb d_rg_agreeWithLog_57 (tgt := 84) (by decide) (fun z => absurd z (by decide)) (fun _ => ?_)
    refine lv_aload_n hx hb d_rg_agreeWithLog_60 rfl (lv_at hl 1 rfl) ?_
    refine va_get (D := D) (ci := 1) (v := .ref (ad 11)) (C := "MeasuredStages$Registers") (T := F_rg) (N := 5) hx hb hts (fun w h => List.mem_cons_of_mem _ (i_rg w h)) hown hK hP 4 rfl rfl 4 (by decide) (hT _ tb_35) (fun _ h9 => h9) rfl d_rg_agreeWithLog_61 ?_
    refine lv_iload_n hx hb d_rg_agreeWithLog_64 rfl (lv_at hl 0 rfl) ?_
    refine va_lald hx hb hK hP 11 8 rfl rfl (by unfold vp_in; decide) d_rg_agreeWithLog_65 ?_
    refine lv_aload_n hx hb d_rg_agreeWithLog_66 rfl (lv_at hl 1 rfl) ?_
    refine va_get (D := D) (ci := 1) (v := .ref (ad 8)) (C := "MeasuredStages$Registers") (T := F_rg) (N := 5) hx hb hts (fun w h => List.mem_cons_of_mem _ (i_rg w h)) hown hK hP 4 rfl rfl 0 (by decide) (hT _ tb_27) (fun _ h9 => h9) rfl d_rg_agreeWithLog_67 ?_
    refine lv_iload_n hx hb d_rg_agreeWithLog_70 rfl (lv_at hl 0 rfl) ?_
    refine va_lald hx hb hK hP 8 5 rfl rfl (by unfold vp_in; decide) d_rg_agreeWithLog_71 ?_
    refine W.lcmp hx hb d_rg_agreeWithLog_72 ?_
    refine lv_if_eq hx hb d_rg_agreeWithLog_73 (tgt := 78) (by decide) (fun h2 => ?_) (fun h2 => ?_)
    · skip
      have h2 := sp_cmp.mp h2
      refine lv_iinc (nL := 3) (k := 0) (v := 1) (lv' := [(1, .int (1)), (0, .ref (ad 4))]) hx hb d_rg_agreeWithLog_78 hl rfl (by decide) (by decide) rfl (fun ls hl => ?_)
      refine lv_goto hx hb d_rg_agreeWithLog_81 (tgt := 54) (by decide) ?_
      refine lv_iload_n hx hb d_rg_agreeWithLog_54 rfl (lv_at hl 0 rfl) ?_
      refine lv_bipush (v := 6) hx hb d_rg_agreeWithLog_55 (by decide) ?_
      refine lv_icmp_ge hx hb d_rg_agreeWithLog_57 (tgt := 84) (by decide) (fun z => absurd z (by decide)) (fun _ => ?_)
      refine lv_aload_n hx hb d_rg_agreeWithLog_60 rfl (lv_at hl 1 rfl) ?_
      refine va_get (D := D) (ci := 1) (v := .ref (ad 11)) (C := "MeasuredStages$Registers") (T := F_rg) (N := 5) hx hb hts (fun w h => List.mem_cons_of_mem _ (i_rg w h)) hown hK hP 4 rfl rfl 4 (by decide) (hT _ tb_35) (fun _ h9 => h9) rfl d_rg_agreeWithLog_61 ?_
      refine lv_iload_n hx hb d_rg_agreeWithLog_64 rfl (lv_at hl 0 rfl) ?_
      refine va_lald hx hb hK hP 11 8 rfl rfl (by unfold vp_in; decide) d_rg_agreeWithLog_65 ?_
      refine lv_aload_n hx hb d_rg_agreeWithLog_66 rfl (lv_at hl 1 rfl) ?_
      refine va_get (D := D) (ci := 1) (v := .ref (ad 8)) (C := "MeasuredStages$Registers") (T := F_rg) (N := 5) hx hb hts (fun w h => List.mem_cons_of_mem _ (i_rg w h)) hown hK hP 4 rfl rfl 0 (by decide) (hT _ tb_27) (fun _ h9 => h9) rfl d_rg_agreeWithLog_67 ?_
      refine lv_iload_n hx hb d_rg_agreeWithLog_70 rfl (lv_at hl 0 rfl) ?_
      refine va_lald hx hb hK hP 8 5 rfl rfl (by unfold vp_in; decide) d_rg_agreeWithLog_71 ?_
      refine W.lcmp hx hb d_rg_agreeWithLog_72 ?_
      refine lv_if_eq hx hb d_rg_agreeWithLog_73 (tgt := 78) (by decide) (fun h3 => ?_) (fun h3 => ?_)
      · skip
        have h3 := sp_cmp.mp h3
        refine lv_iinc (nL := 3) (k := 0) (v := 2) (lv' := [(1, .int (2)), (0, .ref (ad 4))]) hx hb d_rg_agreeWithLog_78 hl rfl (by decide) (by decide) rfl (fun ls hl => ?_)
        refine lv_goto hx hb d_rg_agreeWithLog_81 (tgt := 54) (by decide) ?_
        refine lv_iload_n hx hb d_rg_agreeWithLog_54 rfl (lv_at hl 0 rfl) ?_
        refine lv_bipush (v := 6) hx hb d_rg_agreeWithLog_55 (by decide) ?_
        refine lv_icmp_ge hx hb d_rg_agreeWithLog_57 (tgt := 84) (by decide) (fun z => absurd z (by decide)) (fun _ => ?_)
        refine lv_aload_n hx hb d_rg_agreeWithLog_60 rfl (lv_at hl 1 rfl) ?_
        refine va_get (D := D) (ci := 1) (v := .ref (ad 11)) (C := "MeasuredStages$Registers") (T := F_rg) (N := 5) hx hb hts (fun w h => List.mem_cons_of_mem _ (i_rg w h)) hown hK hP 4 rfl rfl 4 (by decide) (hT _ tb_35) (fun _ h9 => h9) rfl d_rg_agreeWithLog_61 ?_
        refine lv_iload_n hx hb d_rg_agreeWithLog_64 rfl (lv_at hl 0 rfl) ?_
        refine va_lald hx hb hK hP 11 8 rfl rfl (by unfold vp_in; decide) d_rg_agreeWithLog_65 ?_
        refine lv_aload_n hx hb d_rg_agreeWithLog_66 rfl (lv_at hl 1 rfl) ?_
        refine va_get (D := D) (ci := 1) (v := .ref (ad 8)) (C := "MeasuredStages$Registers") (T := F_rg) (N := 5) hx hb hts (fun w h => List.mem_cons_of_mem _ (i_rg w h)) hown hK hP 4 rfl rfl 0 (by decide) (hT _ tb_27) (fun _ h9 => h9) rfl d_rg_agreeWithLog_67 ?_
        refine lv_iload_n hx hb d_rg_agreeWithLog_70 rfl (lv_at hl 0 rfl) ?_
        refine va_lald hx hb hK hP 8 5 rfl rfl (by unfold vp_in; decide) d_rg_agreeWithLog_71 ?_
        refine W.lcmp hx hb d_rg_agreeWithLog_72 ?_
        refine lv_if_eq hx hb d_rg_agreeWithLog_73 (tgt := 78) (by decide) (fun h4 => ?_) (fun h4 => ?_)
        · skip
          have h4 := sp_cmp.mp h4
          refine lv_iinc (nL := 3) (k := 0) (v := 3) (lv' := [(1, .int (3)), (0, .ref (ad 4))]) hx hb d_rg_agreeWithLog_78 hl rfl (by decide) (by decide) rfl (fun ls hl => ?_)
          refine lv_goto hx hb d_rg_agreeWithLog_81 (tgt := 54) (by decide) ?_
          refine lv_iload_n hx hb d_rg_agreeWithLog_54 rfl (lv_at hl 0 rfl) ?_
          refine lv_bipush (v := 6) hx hb d_rg_agreeWithLog_55 (by decide) ?_
          refine lv_icmp_ge hx hb d_rg_agreeWithLog_57 (tgt := 84) (by decide) (fun z => absurd z (by decide)) (fun _ => ?_)
          refine lv_aload_n hx hb d_rg_agreeWithLog_60 rfl (lv_at hl 1 rfl) ?_
          refine va_get (D := D) (ci := 1) (v := .ref (ad 11)) (C := "MeasuredStages$Registers") (T := F_rg) (N := 5) hx hb hts (fun w h => List.mem_cons_of_mem _ (i_rg w h)) hown hK hP 4 rfl rfl 4 (by decide) (hT _ tb_35) (fun _ h9 => h9) rfl d_rg_agreeWithLog_61 ?_
          refine lv_iload_n hx hb d_rg_agreeWithLog_64 rfl (lv_at hl 0 rfl) ?_
          refine va_lald hx hb hK hP 11 8 rfl rfl (by unfold vp_in; decide) d_rg_agreeWithLog_65 ?_
          refine lv_aload_n hx hb d_rg_agreeWithLog_66 rfl (lv_at hl 1 rfl) ?_
          refine va_get (D := D) (ci := 1) (v := .ref (ad 8)) (C := "MeasuredStages$Registers") (T := F_rg) (N := 5) hx hb hts (fun w h => List.mem_cons_of_mem _ (i_rg w h)) hown hK hP 4 rfl rfl 0 (by decide) (hT _ tb_27) (fun _ h9 => h9) rfl d_rg_agreeWithLog_67 ?_
          refine lv_iload_n hx hb d_rg_agreeWithLog_70 rfl (lv_at hl 0 rfl) ?_
          refine va_lald hx hb hK hP 8 5 rfl rfl (by unfold vp_in; decide) d_rg_agreeWithLog_71 ?_
          refine W.lcmp hx hb d_rg_agreeWithLog_72 ?_
          refine lv_if_eq hx hb d_rg_agreeWithLog_73 (tgt := 78) (by decide) (fun h5 => ?_) (fun h5 => ?_)
          · skip
            have h5 := sp_cmp.mp h5
            refine lv_iinc (nL := 3) (k := 0) (v := 4) (lv' := [(1, .int (4)), (0, .ref (ad 4))]) hx hb d_rg_agreeWithLog_78 hl rfl (by decide) (by decide) rfl (fun ls hl => ?_)
            refine lv_goto hx hb d_rg_agreeWithLog_81 (tgt := 54) (by decide) ?_
            refine lv_iload_n hx hb d_rg_agreeWithLog_54 rfl (lv_at hl 0 rfl) ?_
            refine lv_bipush (v := 6) hx hb d_rg_agreeWithLog_55 (by decide) ?_
            refine lv_icmp_ge hx hb d_rg_agreeWithLog_57 (tgt := 84) (by decide) (fun z => absurd z (by decide)) (fun _ => ?_)
            refine lv_aload_n hx hb d_rg_agreeWithLog_60 rfl (lv_at hl 1 rfl) ?_
            refine va_get (D := D) (ci := 1) (v := .ref (ad 11)) (C := "MeasuredStages$Registers") (T := F_rg) (N := 5) hx hb hts (fun w h => List.mem_cons_of_mem _ (i_rg w h)) hown hK hP 4 rfl rfl 4 (by decide) (hT _ tb_35) (fun _ h9 => h9) rfl d_rg_agreeWithLog_61 ?_
            refine lv_iload_n hx hb d_rg_agreeWithLog_64 rfl (lv_at hl 0 rfl) ?_
            refine va_lald hx hb hK hP 11 8 rfl rfl (by unfold vp_in; decide) d_rg_agreeWithLog_65 ?_
            refine lv_aload_n hx hb d_rg_agreeWithLog_66 rfl (lv_at hl 1 rfl) ?_
            refine va_get (D := D) (ci := 1) (v := .ref (ad 8)) (C := "MeasuredStages$Registers") (T := F_rg) (N := 5) hx hb hts (fun w h => List.mem_cons_of_mem _ (i_rg w h)) hown hK hP 4 rfl rfl 0 (by decide) (hT _ tb_27) (fun _ h9 => h9) rfl d_rg_agreeWithLog_67 ?_
            refine lv_iload_n hx hb d_rg_agreeWithLog_70 rfl (lv_at hl 0 rfl) ?_
            refine va_lald hx hb hK hP 8 5 rfl rfl (by unfold vp_in; decide) d_rg_agreeWithLog_71 ?_
            refine W.lcmp hx hb d_rg_agreeWithLog_72 ?_
            refine lv_if_eq hx hb d_rg_agreeWithLog_73 (tgt := 78) (by decide) (fun h6 => ?_) (fun h6 => ?_)
            · skip
              have h6 := sp_cmp.mp h6
              refine lv_iinc (nL := 3) (k := 0) (v := 5) (lv' := [(1, .int (5)), (0, .ref (ad 4))]) hx hb d_rg_agreeWithLog_78 hl rfl (by decide) (by decide) rfl (fun ls hl => ?_)
              refine lv_goto hx hb d_rg_agreeWithLog_81 (tgt := 54) (by decide) ?_
              refine lv_iload_n hx hb d_rg_agreeWithLog_54 rfl (lv_at hl 0 rfl) ?_
              refine lv_bipush (v := 6) hx hb d_rg_agreeWithLog_55 (by decide) ?_
              refine lv_icmp_ge hx hb d_rg_agreeWithLog_57 (tgt := 84) (by decide) (fun z => absurd z (by decide)) (fun _ => ?_)
              refine lv_aload_n hx hb d_rg_agreeWithLog_60 rfl (lv_at hl 1 rfl) ?_
              refine va_get (D := D) (ci := 1) (v := .ref (ad 11)) (C := "MeasuredStages$Registers") (T := F_rg) (N := 5) hx hb hts (fun w h => List.mem_cons_of_mem _ (i_rg w h)) hown hK hP 4 rfl rfl 4 (by decide) (hT _ tb_35) (fun _ h9 => h9) rfl d_rg_agreeWithLog_61 ?_
              refine lv_iload_n hx hb d_rg_agreeWithLog_64 rfl (lv_at hl 0 rfl) ?_
              refine va_lald hx hb hK hP 11 8 rfl rfl (by unfold vp_in; decide) d_rg_agreeWithLog_65 ?_
              refine lv_aload_n hx hb d_rg_agreeWithLog_66 rfl (lv_at hl 1 rfl) ?_
              refine va_get (D := D) (ci := 1) (v := .ref (ad 8)) (C := "MeasuredStages$Registers") (T := F_rg) (N := 5) hx hb hts (fun w h => List.mem_cons_of_mem _ (i_rg w h)) hown hK hP 4 rfl rfl 0 (by decide) (hT _ tb_27) (fun _ h9 => h9) rfl d_rg_agreeWithLog_67 ?_
              refine lv_iload_n hx hb d_rg_agreeWithLog_70 rfl (lv_at hl 0 rfl) ?_
              refine va_lald hx hb hK hP 8 5 rfl rfl (by unfold vp_in; decide) d_rg_agreeWithLog_71 ?_
              refine W.lcmp hx hb d_rg_agreeWithLog_72 ?_
              refine lv_if_eq hx hb d_rg_agreeWithLog_73 (tgt := 78) (by decide) (fun h7 => ?_) (fun h7 => ?_)
              · skip
                have h7 := sp_cmp.mp h7
                refine lv_iinc (nL := 3) (k := 0) (v := 6) (lv' := [(1, .int (6)), (0, .ref (ad 4))]) hx hb d_rg_agreeWithLog_78 hl rfl (by decide) (by decide) rfl (fun ls hl => ?_)
                refine lv_goto hx hb d_rg_agreeWithLog_81 (tgt := 54) (by decide) ?_
                refine lv_iload_n hx hb d_rg_agreeWithLog_54 rfl (lv_at hl 0 rfl) ?_
                refine lv_bipush (v := 6) hx hb d_rg_agreeWithLog_55 (by decide) ?_
                refine lv_icmp_ge hx hb d_rg_agreeWithLog_57 (tgt := 84) (by decide) (fun _ => ?_) (fun z => absurd (by decide) z)
                refine lv_iconst (v := 1) hx hb d_rg_agreeWithLog_84 (by decide) ?_
                exact W.zret hx hb hret rfl (fun t ht hW => ⟨⟨_, q1, rfl, ⟨re_1 hra (show jx_rp q1 0 = sg_he u 0 from h2) (show jx_rp q1 1 = sg_he u 1 from h3) (show jx_rp q1 2 = sg_he u 2 from h4) (show jx_rp q1 3 = sg_he u 3 from h5) (show jx_rp q1 4 = sg_he u 4 from h6) (show jx_rp q1 5 = sg_he u 5 from h7), (by trivial)⟩, by rw [ht]; exact hP, va_K.moved hW.alike hK, hD⟩, hS.F ht⟩) hS.2.2 d_rg_agreeWithLog_85
              · skip
                have h7 := mt sp_cmp.mpr h7
                refine lv_iconst (v := 0) hx hb d_rg_agreeWithLog_76 (by decide) ?_
                exact W.zret hx hb hret rfl (fun t ht hW => ⟨⟨_, q1, rfl, ⟨re_0 hra 5 (by decide) (show ¬ jx_rp q1 5 = sg_he u 5 from h7), (by trivial)⟩, by rw [ht]; exact hP, va_K.moved hW.alike hK, hD⟩, hS.F ht⟩) hS.2.2 d_rg_agreeWithLog_77
            · skip
              have h6 := mt sp_cmp.mpr h6
              refine lv_iconst (v := 0) hx hb d_rg_agreeWithLog_76 (by decide) ?_
              exact W.zret hx hb hret rfl (fun t ht hW => ⟨⟨_, q1, rfl, ⟨re_0 hra 4 (by decide) (show ¬ jx_rp q1 4 = sg_he u 4 from h6), (by trivial)⟩, by rw [ht]; exact hP, va_K.moved hW.alike hK, hD⟩, hS.F ht⟩) hS.2.2 d_rg_agreeWithLog_77
          · skip
            have h5 := mt sp_cmp.mpr h5
            refine lv_iconst (v := 0) hx hb d_rg_agreeWithLog_76 (by decide) ?_
            exact W.zret hx hb hret rfl (fun t ht hW => ⟨⟨_, q1, rfl, ⟨re_0 hra 3 (by decide) (show ¬ jx_rp q1 3 = sg_he u 3 from h5), (by trivial)⟩, by rw [ht]; exact hP, va_K.moved hW.alike hK, hD⟩, hS.F ht⟩) hS.2.2 d_rg_agreeWithLog_77
        · skip
          have h4 := mt sp_cmp.mpr h4
          refine lv_iconst (v := 0) hx hb d_rg_agreeWithLog_76 (by decide) ?_
          exact W.zret hx hb hret rfl (fun t ht hW => ⟨⟨_, q1, rfl, ⟨re_0 hra 2 (by decide) (show ¬ jx_rp q1 2 = sg_he u 2 from h4), (by trivial)⟩, by rw [ht]; exact hP, va_K.moved hW.alike hK, hD⟩, hS.F ht⟩) hS.2.2 d_rg_agreeWithLog_77
      · skip
        have h3 := mt sp_cmp.mpr h3
        refine lv_iconst (v := 0) hx hb d_rg_agreeWithLog_76 (by decide) ?_
        exact W.zret hx hb hret rfl (fun t ht hW => ⟨⟨_, q1, rfl, ⟨re_0 hra 1 (by decide) (show ¬ jx_rp q1 1 = sg_he u 1 from h3), (by trivial)⟩, by rw [ht]; exact hP, va_K.moved hW.alike hK, hD⟩, hS.F ht⟩) hS.2.2 d_rg_agreeWithLog_77
    · skip
      have h2 := mt sp_cmp.mpr h2
      refine lv_iconst (v := 0) hx hb d_rg_agreeWithLog_76 (by decide) ?_
      exact W.zret hx hb hret rfl (fun t ht hW => ⟨⟨_, q1, rfl, ⟨re_0 hra 0 (by decide) (show ¬ jx_rp q1 0 = sg_he u 0 from h2), (by trivial)⟩, by rw [ht]; exact hP, va_K.moved hW.alike hK, hD⟩, hS.F ht⟩) hS.2.2 d_rg_agreeWithLog_77
  · intro r H L ls q1 hr hI ih
    obtain ⟨hl, hP, hD, hS, hra⟩ := hI
    refine lv_iload_n hx hb d_rg_agreeWithLog_10 rfl (lv_at hl 0 rfl) ?_
    refine lv_aload_n hx hb d_rg_agreeWithLog_11 rfl (lv_at hl 1 rfl) ?_
    refine va_get (D := D) (ci := 1) (v := .int (sg_en u)) (C := "MeasuredStages$Registers") (T := F_rg) (N := 5) hx hb hts (fun w h => List.mem_cons_of_mem _ (i_rg w h)) hown hK hP 4 rfl rfl 3 (by decide) (hT _ tb_33) (fun _ h9 => h9) rfl d_rg_agreeWithLog_12 ?_
    refine lv_icmp_ge hx hb d_rg_agreeWithLog_15 (tgt := 52) (by decide) (fun z => absurd z (by rw [hn]; exact nI_ge hr (by omega))) (fun _ => ?_)
    refine lv_aload_n hx hb d_rg_agreeWithLog_18 rfl (lv_at hl 1 rfl) ?_
    refine va_get (D := D) (ci := 1) (v := .ref (ad 9)) (C := "MeasuredStages$Registers") (T := F_rg) (N := 5) hx hb hts (fun w h => List.mem_cons_of_mem _ (i_rg w h)) hown hK hP 4 rfl rfl 1 (by decide) (hT _ tb_29) (fun _ h9 => h9) rfl d_rg_agreeWithLog_19 ?_
    refine lv_iload_n hx hb d_rg_agreeWithLog_22 rfl (lv_at hl 0 rfl) ?_
    refine va_iald hx hb hK hP 9 6 rfl rfl (vp_in_nI (by omega) (by decide)) d_rg_agreeWithLog_23 ?_
    refine lv_istore_n (nL := 3) (lv' := [(2, .int (sg_er u (nI r).toNatClampNeg)), (1, .int (nI r)), (0, .ref (ad 4))]) hx hb d_rg_agreeWithLog_24 rfl hl (by decide) rfl (fun ls hl => ?_)
    refine lv_aload_n hx hb d_rg_agreeWithLog_25 rfl (lv_at hl 2 rfl) ?_
    refine va_get (D := D) (ci := 1) (v := .ref (ad 11)) (C := "MeasuredStages$Registers") (T := F_rg) (N := 5) hx hb hts (fun w h => List.mem_cons_of_mem _ (i_rg w h)) hown hK hP 4 rfl rfl 4 (by decide) (hT _ tb_35) (fun _ h9 => h9) rfl d_rg_agreeWithLog_26 ?_
    refine lv_iload_n hx hb d_rg_agreeWithLog_29 rfl (lv_at hl 0 rfl) ?_
    refine lv_aload_n hx hb d_rg_agreeWithLog_30 rfl (lv_at hl 2 rfl) ?_
    refine va_get (D := D) (ci := 1) (v := .ref (ad 11)) (C := "MeasuredStages$Registers") (T := F_rg) (N := 5) hx hb hts (fun w h => List.mem_cons_of_mem _ (i_rg w h)) hown hK hP 4 rfl rfl 4 (by decide) (hT _ tb_35) (fun _ h9 => h9) rfl d_rg_agreeWithLog_31 ?_
    refine lv_iload_n hx hb d_rg_agreeWithLog_34 rfl (lv_at hl 0 rfl) ?_
    refine va_lald hx hb hK hP 11 8 rfl rfl (hok.2 _) d_rg_agreeWithLog_35 ?_
    refine lv_aload_n hx hb d_rg_agreeWithLog_36 rfl (lv_at hl 2 rfl) ?_
    refine va_get (D := D) (ci := 1) (v := .ref (ad 10)) (C := "MeasuredStages$Registers") (T := F_rg) (N := 5) hx hb hts (fun w h => List.mem_cons_of_mem _ (i_rg w h)) hown hK hP 4 rfl rfl 2 (by decide) (hT _ tb_31) (fun _ h9 => h9) rfl d_rg_agreeWithLog_37 ?_
    refine lv_iload_n hx hb d_rg_agreeWithLog_40 rfl (lv_at hl 1 rfl) ?_
    refine va_lald hx hb hK hP 10 7 rfl rfl (vp_in_nI (by omega) (by decide)) d_rg_agreeWithLog_41 ?_
    refine sn_l (v := sp_h (jx_rp q1 (sg_er u (nI r).toNatClampNeg).toNatClampNeg) (sg_ev u (nI r).toNatClampNeg)) (As := [.long (jx_rp q1 (sg_er u (nI r).toNatClampNeg).toNatClampNeg), .long (sg_ev u (nI r).toNatClampNeg)]) (rest := [.int (sg_er u (nI r).toNatClampNeg), .ref (ad 11)]) ⟨hx, hb, hml, hown, hts⟩ (c_ms_hash l (jx_rp q1 (sg_er u (nI r).toNatClampNeg).toNatClampNeg) (sg_ev u (nI r).toNatClampNeg)) hN tb_138 tb_1 tb_139 hd_ms_hash ⟨Nat.le_of_ble_eq_true rfl, Nat.le_of_ble_eq_true rfl⟩ rfl rfl hl.1 rfl (Nat.le_of_ble_eq_true rfl) d_rg_agreeWithLog_42 ⟨Nat.zero_le _, Nat.zero_le _⟩ ?_
    refine va_last hx hb hK hP hD hS 11 8 rfl rfl (hok.2 _) d_rg_agreeWithLog_45 (fun H locs hP hD hS => ?_)
    have hP : va_P D cx (xv ad cs (sg_im u) (sg_ap u) (sg_ag u) (sg_he u) (sg_er u) (sg_ev u) (sg_en u) (sg_ma u) (sg_po u) (sg_se u) (sg_ac u) (sg_fa u) (sg_la u) (sg_st u) (jx_ru q1) (jx_nd q1) (jx_de q1) (vp_updL (jx_rp q1) (sg_er u (nI r).toNatClampNeg).toNatClampNeg (sp_h (jx_rp q1 (sg_er u (nI r).toNatClampNeg).toNatClampNeg) (sg_ev u (nI r).toNatClampNeg)))) H := hP
    have hD : va_D A (xv ad cs (sg_im u) (sg_ap u) (sg_ag u) (sg_he u) (sg_er u) (sg_ev u) (sg_en u) (sg_ma u) (sg_po u) (sg_se u) (sg_ac u) (sg_fa u) (sg_la u) (sg_st u) (jx_ru q1) (jx_nd q1) (jx_de q1) (vp_updL (jx_rp q1) (sg_er u (nI r).toNatClampNeg).toNatClampNeg (sp_h (jx_rp q1 (sg_er u (nI r).toNatClampNeg).toNatClampNeg) (sg_ev u (nI r).toNatClampNeg)))) := hD
    refine lv_iinc (nL := 3) (k := 1) (v := nI (r + 1)) (lv' := [(1, .int (nI (r + 1))), (2, .int (sg_er u (nI r).toNatClampNeg)), (0, .ref (ad 4))]) hx hb d_rg_agreeWithLog_46 hl rfl ((nI_succ r).symm) (by decide) rfl (fun ls hl => ?_)
    refine lv_goto hx hb d_rg_agreeWithLog_49 (tgt := 10) (by decide) ?_
    obtain ⟨q8, eq8⟩ : ∃ z : Jx, z = (jx_ru q1, jx_nd q1, jx_de q1, vp_updL (jx_rp q1) (sg_er u (nI r).toNatClampNeg).toNatClampNeg (sp_h (jx_rp q1 (sg_er u (nI r).toNatClampNeg).toNatClampNeg) (sg_ev u (nI r).toNatClampNeg))) := ⟨_, rfl⟩
    have hP : va_P D cx (xw ad cs u q8) H := by rw [eq8, xw_j]; exact hP
    have hD : va_D A (xw ad cs u q8) := by rw [eq8, xw_j]; exact hD
    exact ih _ _ ls q8 ⟨lv_sub hl [0, 2] rfl, hP, hD, hS, (by subst eq8; have z := ra_at hra (hok.2 r); rw [nI_clamp (by omega)]; exact z)⟩
set_option maxHeartbeats 4000000 in
set_option maxRecDepth 100000 in
theorem c_ms_replays (l : Launch) (D : va_G) (cs : Nat → ClassId) (ad : Nat → Nat) (sz : Nat) (u : Sg) (j : Jx) (n : Nat) (hok : sp_ok u) (hn32 : n ≤ 32) (hn : sg_en u = nI n) : Met l y_ms_replays (Cond.code y_ms_replays b_ms_replays 1 (some .boolean) :: TB) { frames := 2, cells := 0, slots := 0, locals := 47 } (va_Pc [.ref (ad 0)] (xw_Pre D cs ad u j sz)) (va_Qi (fun (r : Int32) (j1 : Jx) => r = sp_re u ∧ True) (fun (j1 : Jx) t => xw_B D cs ad (va_A (xw ad cs u j) sz) u j1 t) (va_A (xw ad cs u j) sz)) 0 0 (va_A (xw ad cs u j) sz) := by
  refine Met.ofW (cc := b_ms_replays) (maxL := 1) (ret := (some .boolean)) (by decide) rfl ?_
  intro p e s m args below meth c s₁ B hml hv
  obtain ⟨rfl, hsz, hP, hK, hD, hN⟩ := hv
  have hx := B.exec
  have hb := B.bytes
  have hret := B.returns
  have hts := atoms_spec (ws := Cond.code y_ms_replays b_ms_replays 1 (some .boolean) :: TB) B.pre
  have hT : ∀ w ∈ TB, w.before _ s = true := fun w h => hts w (List.mem_cons_of_mem _ h)
  have hown : s.vm.findClass "MeasuredStages" = some m.cls := findClass_of_methodNamed B.named
  have hlocks := B.notSynchronized
  subst hsz
  have hD := hD.self (sz := s.heap.size)
  generalize hAe : va_A (xw ad cs u j) s.heap.size = A at hD ⊢
  have hA : ∀ q : Nat, s.heap.size ≤ q → A q := fun q h => by rw [← hAe]; exact Or.inr h
  have hS : va_S A s.heap s.heap [] := va_S.rf
  have hl := lv_entry ([.ref (ad 0)]) (n := 1) (Nat.le_of_ble_eq_true rfl)
  rw [lg_entry_eq]
  generalize (lg_sl ([.ref (ad 0)]) ++ List.replicate (1 - (lg_sl ([.ref (ad 0)])).length) Slot.unset).toArray = ls at hl ⊢
  have hl : lv_has ls 1 [(0, .ref (ad 0))] := hl
  skip
  refine lv_aload_n hx hb d_ms_replays_0 rfl (lv_at hl 0 rfl) ?_
  refine va_get (D := D) (ci := 0) (v := .ref (ad 4)) (C := "MeasuredStages") (T := F_ms) (N := 12) hx hb hts (fun w h => List.mem_cons_of_mem _ (i_ms w h)) hown hK hP 0 rfl rfl 3 (by decide) (hT _ tb_72) (fun _ h9 => h9) rfl d_ms_replays_1 ?_
  refine xw_wri (v := sp_re u) (u' := u) (As := []) (rest := []) ⟨hx, hb, hml, hown, hts⟩ (c_rg_agreeWithLog l D cs ad _ u j  n hok hn32 hn) tb_130 tb_131 tb_132 tb_2 tb_133 ⟨rfl, hd_rg_agreeWithLog⟩ ⟨Nat.le_of_ble_eq_true rfl, Nat.le_of_ble_eq_true rfl⟩ rfl rfl hK hP hD hN 4 1 rfl rfl hl.1 rfl (Nat.le_of_ble_eq_true rfl) d_ms_replays_4 ⟨Nat.zero_le _, Nat.zero_le _⟩ hS hA (fun j1 H locs hj2 hP hD hS => ?_)
  exact W.zret hx hb hret (re_z u) (fun t ht hW => ⟨⟨_, j1, rfl, ⟨rfl, (by trivial)⟩, by rw [ht]; exact hP, va_K.moved hW.alike hK, hD⟩, hS.F ht⟩) hS.2.2 d_ms_replays_7
