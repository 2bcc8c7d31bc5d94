theorem ok_ac {u : Sg} {x : Int64} (h : sp_ok u) : sp_ok (ss_ac u x) := h
theorem ok_la {u : Sg} {x : Int32} (h : sp_ok u) : sp_ok (ss_la u x) := h
theorem ok_st {u : Sg} {x : Int32} (h : sp_ok u) : sp_ok (ss_st u x) := h
theorem ok_fa {u : Sg} {x : Int32} (h : sp_ok u) : sp_ok (ss_fa u x) := h
theorem ok_fi {u : Sg} {k m : Int32} {x : Int64} (h : sp_ok u) : sp_ok (sp_fi u k m x) := h
theorem fa_ac (u : Sg) (x : Int64) : sg_fa (ss_ac u x) = sg_fa u := rfl
theorem fa_no (u : Sg) (r : Int32) (v : Int64) : sg_fa (sp_no u r v) = sg_fa u := rfl
theorem fa_la (u : Sg) (x : Int32) : sg_fa (ss_la u x) = sg_fa u := rfl
theorem fa_st (u : Sg) (x : Int32) : sg_fa (ss_st u x) = sg_fa u := rfl
theorem fa_fi (u : Sg) (k m : Int32) (x : Int64) : sg_fa (sp_fi u k m x) = sg_fa u := rfl
theorem st_ac (u : Sg) (x : Int64) : sg_st (ss_ac u x) = sg_st u := rfl
theorem st_no (u : Sg) (r : Int32) (v : Int64) : sg_st (sp_no u r v) = sg_st u := rfl
theorem st_la (u : Sg) (x : Int32) : sg_st (ss_la u x) = sg_st u := rfl
theorem st_fi (u : Sg) (k m : Int32) (x : Int64) : sg_st (sp_fi u k m x) = sg_st u := rfl
theorem st_st (u : Sg) (x : Int32) : sg_st (ss_st u x) = x := rfl
theorem im_no (u : Sg) (r : Int32) (v : Int64) : sg_im (sp_no u r v) = sg_im u := rfl
theorem im_la (u : Sg) (x : Int32) : sg_im (ss_la u x) = sg_im u := rfl
theorem im_fi (u : Sg) (k m : Int32) (x : Int64) : sg_im (sp_fi u k m x) = sg_im u := rfl
theorem la_1 (b : Bt) (n d : Int32) : (sp_la b n d).1 = ss_la (sp_no b.1 d (sp_di b.1 n)) (sg_la (sp_no b.1 d (sp_di b.1 n)) + 1) := rfl
theorem nle32 {u : Sg} (h : vp_in (sg_en u) 32) : ¬ 32 ≤ sg_en u := xn_nle (k := 32) (by decide) h
theorem de_m1 {d : Int32} (h : vp_in d 6) : vp_in (d - 1) 6 ∨ d - 1 = -1 := by
  obtain ⟨k, hk, rfl⟩ := vp_in_of h (by decide)
  rcases (show k = 0 ∨ k = 1 ∨ k = 2 ∨ k = 3 ∨ k = 4 ∨ k = 5 by omega) with h | h | h | h | h | h <;> subst h
  · exact Or.inr (by decide)
  · exact Or.inl (by rw [show nI 1 - 1 = nI 0 by decide]; exact vp_in_nI (by decide) (by decide))
  · exact Or.inl (by rw [show nI 2 - 1 = nI 1 by decide]; exact vp_in_nI (by decide) (by decide))
  · exact Or.inl (by rw [show nI 3 - 1 = nI 2 by decide]; exact vp_in_nI (by decide) (by decide))
  · exact Or.inl (by rw [show nI 4 - 1 = nI 3 by decide]; exact vp_in_nI (by decide) (by decide))
  · exact Or.inl (by rw [show nI 5 - 1 = nI 4 by decide]; exact vp_in_nI (by decide) (by decide))
/-- what an instruction without a fault keeps -/
theorem in_keep {b : Bt} (hd : vp_in b.2.1 6) (hok : sp_ok b.1) (hf : sp_if b = 0) :
    sp_ok (sp_in b).1 ∧ sg_fa (sp_in b).1 = sg_fa b.1 ∧ sg_st (sp_in b).1 = sg_st b.1 ∧ (vp_in (sp_in b).2.1 6 ∨ (sp_in b).2.1 = -1) ∧ sg_im (sp_in b).1 = sg_im b.1 := by
  obtain ⟨k, hk, ek⟩ := sp_dg16 (sg_im b.1 (b.2.2.1 b.2.1.toNatClampNeg).toNatClampNeg) (b.2.2.2 b.2.1.toNatClampNeg)
  have ek : sp_c0 b = nI k := ek
  have e : ∀ c : Int32, sp_c0 b = c → sp_in b = sp_ac (b.1, b.2.1, b.2.2.1, upd b.2.2.2 b.2.1.toNatClampNeg (b.2.2.2 b.2.1.toNatClampNeg + 1 + sp_op c)) c (sp_c1 b) (sp_c2 b) b.2.1 := fun c hc => by unfold sp_in; rw [hc]
  unfold sp_if at hf
  rcases (show k = 0 ∨ k = 1 ∨ k = 2 ∨ k = 3 ∨ k = 4 ∨ k = 5 ∨ k = 6 ∨ k = 7 ∨ k = 8 ∨ 8 < k by omega) with h | h | h | h | h | h | h | h | h | h
  · subst h
    rw [e 0 ek, ac_0]
    exact ⟨hok, rfl, rfl, de_m1 hd, rfl⟩
  · subst h
    have hc : sp_c0 b = 1 := ek
    rw [hc, fo_1] at hf
    have h5 : ¬ b.2.1 = 5 := fun z => by rw [if_pos z] at hf; exact absurd hf (by decide)
    rw [if_neg h5] at hf
    have he : ¬ sg_en b.1 = 32 := fun z => by rw [if_pos z] at hf; exact absurd hf (by decide)
    rw [e 1 hc, ac_1]
    refine ⟨?_, by rw [la_1, fa_la, fa_no], by rw [la_1, st_la, st_no], Or.inl (de_up hd h5), by rw [la_1, im_la, im_no]⟩
    rw [la_1]
    exact ok_la (sp_ok_no hok (nle32 (en_in hok he)) (de_up hd h5))
  · subst h
    have hc : sp_c0 b = 2 := ek
    rw [hc, fo_2] at hf
    have he : ¬ sg_en b.1 = 32 := fun z => by rw [if_pos z] at hf; exact absurd hf (by decide)
    rw [e 2 hc, ac_2]
    exact ⟨sp_ok_no hok (nle32 (en_in hok he)) (sp_rd6 _ _), fa_no _ _ _, st_no _ _ _, Or.inl hd, im_no _ _ _⟩
  · subst h
    rw [e 3 ek, ac_3]
    exact ⟨hok, rfl, rfl, Or.inl hd, rfl⟩
  · subst h
    rw [e 4 ek, ac_4]
    exact ⟨ok_ac hok, fa_ac _ _, st_ac _ _, Or.inl hd, im_ac _ _⟩
  · subst h
    rw [e 5 ek, ac_5]
    exact ⟨ok_ac hok, fa_ac _ _, st_ac _ _, Or.inl hd, im_ac _ _⟩
  · subst h
    have hc : sp_c0 b = 6 := ek
    rw [hc, fo_6] at hf
    have he : ¬ sg_en b.1 = 32 := fun z => by rw [if_pos z] at hf; exact absurd hf (by decide)
    rw [e 6 hc, ac_6]
    exact ⟨sp_ok_no hok (nle32 (en_in hok he)) (sp_rd6 _ _), fa_no _ _ _, st_no _ _ _, Or.inl hd, im_no _ _ _⟩
  · subst h
    rw [e 7 ek, ac_7]
    exact ⟨hok, rfl, rfl, Or.inl hd, rfl⟩
  · subst h
    rw [e 8 ek, ac_8]
    exact ⟨ok_fi hok, fa_fi _ _ _ _, st_fi _ _ _ _, Or.inl hd, im_fi _ _ _ _⟩
  · rw [fo_9 _ _ _ _ (by rw [ek]; exact nI_lt (a := 8) h (by omega))] at hf
    exact absurd hf (by decide)
theorem rn_end (n : Nat) (b : Bt) (h : b.2.1 = -1) : sp_rn (n + 1) b = b := by
  unfold sp_rn
  rw [if_pos (by rw [h]; decide)]
theorem rn_tired (n : Nat) (b : Bt) (h : vp_in b.2.1 6) (hs : sg_st b.1 = 100) : sp_rn (n + 1) b = (ss_fa b.1 3, b.2) := by
  unfold sp_rn
  rw [if_neg (xn_ge h), if_pos hs]
theorem rn_ft (n : Nat) (b : Bt) (h : vp_in b.2.1 6) (hs : ¬ sg_st b.1 = 100) (hf : ¬ sp_if b = 0) : sp_rn (n + 1) b = (ss_fa b.1 (sp_if b), b.2) := by
  unfold sp_rn
  rw [if_neg (xn_ge h), if_neg hs, if_neg hf]
theorem rn_ok (n : Nat) (b : Bt) (h : vp_in b.2.1 6) (hs : ¬ sg_st b.1 = 100) (hf : sp_if b = 0) : sp_rn (n + 1) b = sp_rn n (ss_st (sp_in b).1 (sg_st (sp_in b).1 + 1), (sp_in b).2) := by
  conv => lhs; unfold sp_rn
  rw [if_neg (xn_ge h), if_neg hs, if_pos hf]
theorem xj_st {b : Bt} {j : Jx} {x : Int32} (h : xj b j) : xj (ss_st b.1 x, b.2) j := h
theorem n100 {r : Nat} (h : r < 100) : ¬ nI r = 100 := fun z => by
  have := (nI_eq (a := r) (b := 100) (by omega) (by decide)).mp z
  omega
theorem lt100 {r : Nat} (h : r < 100) : nI r < 100 := nI_lt (b := 100) h (by decide)
theorem le100 {r : Nat} (h : r ≤ 100) : ¬ 100 < nI r := nI_nlt (a := 100) h (by decide) |> fun z => fun q => absurd q (Int32.not_lt.mpr (nI_le (b := 100) h (by decide)))
theorem d_ms_runToTheEnd_0 : decode b_ms_runToTheEnd 0 = .ok (.iconst 0, 1) := by decide +kernel
theorem d_ms_runToTheEnd_1 : decode b_ms_runToTheEnd 1 = .ok (.istore_n 1, 1) := by decide +kernel
theorem d_ms_runToTheEnd_2 : decode b_ms_runToTheEnd 2 = .ok (.iload_n 1, 1) := by decide +kernel
theorem d_ms_runToTheEnd_3 : decode b_ms_runToTheEnd 3 = .ok (.bipush 100, 2) := by decide +kernel
theorem d_ms_runToTheEnd_5 : decode b_ms_runToTheEnd 5 = .ok (.if_icmp .gt 48, 3) := by decide +kernel
theorem d_ms_runToTheEnd_8 : decode b_ms_runToTheEnd 8 = .ok (.aload_n 0, 1) := by decide +kernel
theorem d_ms_runToTheEnd_9 : decode b_ms_runToTheEnd 9 = .ok (.getfield 63, 3) := by decide +kernel
theorem d_ms_runToTheEnd_12 : decode b_ms_runToTheEnd 12 = .ok (.ifCond .ne 41, 3) := by decide +kernel
theorem d_ms_runToTheEnd_15 : decode b_ms_runToTheEnd 15 = .ok (.aload_n 0, 1) := by decide +kernel
theorem d_ms_runToTheEnd_16 : decode b_ms_runToTheEnd 16 = .ok (.getfield 179, 3) := by decide +kernel
theorem d_ms_runToTheEnd_19 : decode b_ms_runToTheEnd 19 = .ok (.ifCond .lt 34, 3) := by decide +kernel
theorem d_ms_runToTheEnd_22 : decode b_ms_runToTheEnd 22 = .ok (.aload_n 0, 1) := by decide +kernel
theorem d_ms_runToTheEnd_23 : decode b_ms_runToTheEnd 23 = .ok (.aload_n 0, 1) := by decide +kernel
theorem d_ms_runToTheEnd_24 : decode b_ms_runToTheEnd 24 = .ok (.invokevirtual 182, 3) := by decide +kernel
theorem d_ms_runToTheEnd_27 : decode b_ms_runToTheEnd 27 = .ok (.putfield 63, 3) := by decide +kernel
theorem d_ms_runToTheEnd_30 : decode b_ms_runToTheEnd 30 = .ok (.aload_n 0, 1) := by decide +kernel
theorem d_ms_runToTheEnd_31 : decode b_ms_runToTheEnd 31 = .ok (.getfield 63, 3) := by decide +kernel
theorem d_ms_runToTheEnd_34 : decode b_ms_runToTheEnd 34 = .ok (.ifCond .ne 13, 3) := by decide +kernel
theorem d_ms_runToTheEnd_37 : decode b_ms_runToTheEnd 37 = .ok (.aload_n 0, 1) := by decide +kernel
theorem d_ms_runToTheEnd_38 : decode b_ms_runToTheEnd 38 = .ok (.dup, 1) := by decide +kernel
theorem d_ms_runToTheEnd_39 : decode b_ms_runToTheEnd 39 = .ok (.getfield 78, 3) := by decide +kernel
theorem d_ms_runToTheEnd_42 : decode b_ms_runToTheEnd 42 = .ok (.iconst 1, 1) := by decide +kernel
theorem d_ms_runToTheEnd_43 : decode b_ms_runToTheEnd 43 = .ok (.iadd, 1) := by decide +kernel
theorem d_ms_runToTheEnd_44 : decode b_ms_runToTheEnd 44 = .ok (.putfield 78, 3) := by decide +kernel
theorem d_ms_runToTheEnd_47 : decode b_ms_runToTheEnd 47 = .ok (.iinc 1 1, 3) := by decide +kernel
theorem d_ms_runToTheEnd_50 : decode b_ms_runToTheEnd 50 = .ok (.goto (-48), 3) := by decide +kernel
theorem d_ms_runToTheEnd_53 : decode b_ms_runToTheEnd 53 = .ok (.return_, 1) := by decide +kernel
set_option maxHeartbeats 4000000 in
set_option maxRecDepth 100000 in
theorem c_ms_runToTheEnd (l : Launch) (D : va_G) (cs : Nat → ClassId) (ad : Nat → Nat) (sz : Nat) (u : Sg) (j : Jx) (b : Bt) (hub : u = b.1) (hJ : xj b j) (hok : sp_ok b.1) (hfa : sg_fa b.1 = 0) (hst : sg_st b.1 = nI 0) (hde : vp_in b.2.1 6 ∨ b.2.1 = -1) : Met l y_ms_runToTheEnd (Cond.code y_ms_runToTheEnd b_ms_runToTheEnd 2 none :: TB) { frames := 6, cells := 0, slots := 0, locals := 140 } (va_Pc [.ref (ad 0)] (xw_Pre D cs ad u j sz)) (va_Qv (fun (j1 : Jx) => True) (fun (j1 : Jx) t => xw_B D cs ad (va_A (xw ad cs u j) sz) ((sp_rn 101 b).1) j1 t) (va_A (xw ad cs u j) sz)) 0 0 (va_A (xw ad cs u j) sz) := by
  refine Met.ofW (cc := b_ms_runToTheEnd) (maxL := 2) (ret := none) (by decide) rfl ?_
  intro p e s m args below meth c s₁ B hml hv
  obtain ⟨rfl, hsz, hP, hK, hD, hN⟩ := hv
  have hx := B.exec
  have hb := B.bytes
  have hret := B.returns
  have hts := atoms_spec (ws := Cond.code y_ms_runToTheEnd b_ms_runToTheEnd 2 none :: TB) B.pre
  have hT : ∀ w ∈ TB, w.before _ s = true := fun w h => hts w (List.mem_cons_of_mem _ h)
  have hown : s.vm.findClass "MeasuredStages" = some m.cls := findClass_of_methodNamed B.named
  have hlocks := B.notSynchronized
  subst hsz
  have hD := hD.self (sz := s.heap.size)
  generalize hAe : va_A (xw ad cs u j) s.heap.size = A at hD ⊢
  have hA : ∀ q : Nat, s.heap.size ≤ q → A q := fun q h => by rw [← hAe]; exact Or.inr h
  have hS : va_S A s.heap s.heap [] := va_S.rf
  have hl := lv_entry ([.ref (ad 0)]) (n := 2) (Nat.le_of_ble_eq_true rfl)
  rw [lg_entry_eq]
  generalize (lg_sl ([.ref (ad 0)]) ++ List.replicate (2 - (lg_sl ([.ref (ad 0)])).length) Slot.unset).toArray = ls at hl ⊢
  have hl : lv_has ls 2 [(0, .ref (ad 0))] := hl
  subst hub
  skip
  refine lv_iconst (v := 0) hx hb d_ms_runToTheEnd_0 (by decide) ?_
  refine lv_istore_n (nL := 2) (lv' := [(1, .int (0)), (0, .ref (ad 0))]) hx hb d_ms_runToTheEnd_1 rfl hl (by decide) rfl (fun ls hl => ?_)
  refine wl_up (α := Bt × Jx) 100 (fun r H1 L1 ls a => lv_has ls 2 [(1, .int (nI r)), (0, .ref (ad 0))] ∧ va_P D cx (xw ad cs a.1.1 a.2) H1 ∧ va_D A (xw ad cs a.1.1 a.2) ∧ va_S A s.heap H1 L1 ∧ xj a.1 a.2 ∧ sp_ok a.1.1 ∧ sg_fa a.1.1 = 0 ∧ sg_st a.1.1 = nI r ∧ (vp_in a.1.2.1 6 ∨ a.1.2.1 = -1) ∧ (sp_rn (101 - r) a.1).1 = (sp_rn 101 b).1) 2 ?_ ?_ 0 _ _ ls (b, j) (Nat.zero_le _) ⟨hl, hP, hD, hS, hJ, hok, hfa, hst, hde, rfl⟩
  · intro H L ls a hI
    obtain ⟨b1, j1⟩ := a
    obtain ⟨hl, hP, hD, hS, hJ, hok, hfa, hst, hde, hU⟩ := hI
    have hl : lv_has ls 2 [(1, .int (nI 100)), (0, .ref (ad 0))] := hl
    have hP : va_P D cx (xw ad cs b1.1 j1) H := hP
    have hD : va_D A (xw ad cs b1.1 j1) := hD
    have hJ : xj b1 j1 := hJ
    have hok : sp_ok b1.1 := hok
    have hfa : sg_fa b1.1 = 0 := hfa
    have hst : sg_st b1.1 = nI 100 := hst
    have hde : vp_in b1.2.1 6 ∨ b1.2.1 = -1 := hde
    have hU : (sp_rn (101 - 100) b1).1 = (sp_rn 101 b).1 := hU
    rcases hde with hde | hde
    · skip
      refine lv_iload_n hx hb d_ms_runToTheEnd_2 rfl (lv_at hl 0 rfl) ?_
      refine lv_bipush (v := 100) hx hb d_ms_runToTheEnd_3 (by decide) ?_
      refine lv_icmp_gt hx hb d_ms_runToTheEnd_5 (tgt := 53) (by decide) (fun z => absurd z (by decide)) (fun _ => ?_)
      refine lv_aload_n hx hb d_ms_runToTheEnd_8 rfl (lv_at hl 1 rfl) ?_
      refine va_get (D := D) (ci := 0) (v := .int (sg_fa b1.1)) (C := "MeasuredStages") (T := F_ms) (N := 12) hx hb hts (fun w h => List.mem_cons_of_mem _ (i_ms w h)) hown hK hP 0 rfl rfl 9 (by decide) (hT _ tb_78) (fun _ h9 => h9) rfl d_ms_runToTheEnd_9 ?_
      refine lv_if_ne hx hb d_ms_runToTheEnd_12 (tgt := 53) (by decide) (fun z => absurd hfa z) (fun _ => ?_)
      refine lv_aload_n hx hb d_ms_runToTheEnd_15 rfl (lv_at hl 1 rfl) ?_
      refine va_get (D := D) (ci := 0) (v := .int (jx_de j1)) (C := "MeasuredStages") (T := F_ms) (N := 12) hx hb hts (fun w h => List.mem_cons_of_mem _ (i_ms w h)) hown hK hP 0 rfl rfl 7 (by decide) (hT _ tb_76) (fun _ h9 => h9) rfl d_ms_runToTheEnd_16 ?_
      refine lv_if_lt hx hb d_ms_runToTheEnd_19 (tgt := 53) (by decide) (fun z => absurd z (by rw [hJ.1]; exact xn_ge hde)) (fun _ => ?_)
      refine lv_aload_n hx hb d_ms_runToTheEnd_22 rfl (lv_at hl 1 rfl) ?_
      refine lv_aload_n hx hb d_ms_runToTheEnd_23 rfl (lv_at hl 1 rfl) ?_
      refine xw_rdi (v := 3) (As := []) (rest := [.ref (ad 0)]) ⟨hx, hb, hml, hown, hts⟩ (c_do_tired l D cs ad _ b1.1 j1 (by rw [hst]; decide)) tb_268 tb_270 sl_6 tb_1 tb_271 ⟨rfl, hd_ms_doInstruction⟩ ⟨Nat.le_of_ble_eq_true rfl, Nat.le_of_ble_eq_true rfl⟩ rfl rfl hK hP hD hN 0 0 rfl rfl hl.1 rfl (Nat.le_of_ble_eq_true rfl) d_ms_runToTheEnd_24 ⟨Nat.zero_le _, Nat.zero_le _⟩ ?_
      refine va_put (D := D) (ci := 0) (v := .int (3)) (ty := .int) (C := "MeasuredStages") (T := F_ms) (N := 12) hx hb hts (fun w h => List.mem_cons_of_mem _ (i_ms w h)) t_ms o_ms n_ms hown hK hP hD hS 0 rfl rfl 9 (by decide) (hT _ tb_78) (fun _ h9 => h9) rfl (by decide +kernel) rfl rfl (Nat.le_of_ble_eq_true rfl) d_ms_runToTheEnd_27 (fun H locs hP hD hS => ?_)
      have hP : va_P D cx (xv ad cs (sg_im b1.1) (sg_ap b1.1) (sg_ag b1.1) (sg_he b1.1) (sg_er b1.1) (sg_ev b1.1) (sg_en b1.1) (sg_ma b1.1) (sg_po b1.1) (sg_se b1.1) (sg_ac b1.1) (3) (sg_la b1.1) (sg_st b1.1) (jx_ru j1) (jx_nd j1) (jx_de j1) (jx_rp j1)) H := hP
      have hD : va_D A (xv ad cs (sg_im b1.1) (sg_ap b1.1) (sg_ag b1.1) (sg_he b1.1) (sg_er b1.1) (sg_ev b1.1) (sg_en b1.1) (sg_ma b1.1) (sg_po b1.1) (sg_se b1.1) (sg_ac b1.1) (3) (sg_la b1.1) (sg_st b1.1) (jx_ru j1) (jx_nd j1) (jx_de j1) (jx_rp j1)) := hD
      refine lv_aload_n hx hb d_ms_runToTheEnd_30 rfl (lv_at hl 1 rfl) ?_
      refine va_get (D := D) (ci := 0) (v := .int (3)) (C := "MeasuredStages") (T := F_ms) (N := 12) hx hb hts (fun w h => List.mem_cons_of_mem _ (i_ms w h)) hown hK hP 0 rfl rfl 9 (by decide) (hT _ tb_78) (fun _ h9 => h9) rfl d_ms_runToTheEnd_31 ?_
      refine lv_if_ne hx hb d_ms_runToTheEnd_34 (tgt := 47) (by decide) (fun _ => ?_) (fun z => absurd z (by decide))
      refine lv_iinc (nL := 2) (k := 0) (v := nI 101) (lv' := [(1, .int (nI 101)), (0, .ref (ad 0))]) hx hb d_ms_runToTheEnd_47 hl rfl (by decide) (by decide) rfl (fun ls hl => ?_)
      refine lv_goto hx hb d_ms_runToTheEnd_50 (tgt := 2) (by decide) ?_
      refine lv_iload_n hx hb d_ms_runToTheEnd_2 rfl (lv_at hl 0 rfl) ?_
      refine lv_bipush (v := 100) hx hb d_ms_runToTheEnd_3 (by decide) ?_
      refine lv_icmp_gt hx hb d_ms_runToTheEnd_5 (tgt := 53) (by decide) (fun _ => ?_) (fun z => absurd (by decide) z)
      obtain ⟨v1, ev1⟩ : ∃ z : Sg, z = (sg_im b1.1, sg_ap b1.1, sg_ag b1.1, sg_he b1.1, sg_er b1.1, sg_ev b1.1, sg_en b1.1, sg_ma b1.1, sg_po b1.1, sg_se b1.1, sg_ac b1.1, 3, sg_la b1.1, sg_st b1.1) := ⟨_, rfl⟩
      have hP : va_P D cx (xw ad cs v1 j1) H := by rw [ev1, xw_u]; exact hP
      have hD : va_D A (xw ad cs v1 j1) := by rw [ev1, xw_u]; exact hD
      subst ev1
      have eU : ss_fa b1.1 3 = (sp_rn 101 b).1 := by rw [← hU, rn_tired 0 b1 hde hst]
      have hP : va_P D cx (xw ad cs (ss_fa b1.1 3) j1) H := hP
      have hD : va_D A (xw ad cs (ss_fa b1.1 3) j1) := hD
      rw [eU] at hP hD
      exact W.vret hx hb hret (fun t ht hW => ⟨⟨j1, rfl, trivial, by rw [ht]; exact hP, va_K.moved hW.alike hK, hD⟩, hS.F ht⟩) hS.2.2 d_ms_runToTheEnd_53
    · skip
      refine lv_iload_n hx hb d_ms_runToTheEnd_2 rfl (lv_at hl 0 rfl) ?_
      refine lv_bipush (v := 100) hx hb d_ms_runToTheEnd_3 (by decide) ?_
      refine lv_icmp_gt hx hb d_ms_runToTheEnd_5 (tgt := 53) (by decide) (fun z => absurd z (by decide)) (fun _ => ?_)
      refine lv_aload_n hx hb d_ms_runToTheEnd_8 rfl (lv_at hl 1 rfl) ?_
      refine va_get (D := D) (ci := 0) (v := .int (sg_fa b1.1)) (C := "MeasuredStages") (T := F_ms) (N := 12) hx hb hts (fun w h => List.mem_cons_of_mem _ (i_ms w h)) hown hK hP 0 rfl rfl 9 (by decide) (hT _ tb_78) (fun _ h9 => h9) rfl d_ms_runToTheEnd_9 ?_
      refine lv_if_ne hx hb d_ms_runToTheEnd_12 (tgt := 53) (by decide) (fun z => absurd hfa z) (fun _ => ?_)
      refine lv_aload_n hx hb d_ms_runToTheEnd_15 rfl (lv_at hl 1 rfl) ?_
      refine va_get (D := D) (ci := 0) (v := .int (jx_de j1)) (C := "MeasuredStages") (T := F_ms) (N := 12) hx hb hts (fun w h => List.mem_cons_of_mem _ (i_ms w h)) hown hK hP 0 rfl rfl 7 (by decide) (hT _ tb_76) (fun _ h9 => h9) rfl d_ms_runToTheEnd_16 ?_
      refine lv_if_lt hx hb d_ms_runToTheEnd_19 (tgt := 53) (by decide) (fun _ => ?_) (fun z => absurd (by rw [hJ.1, hde]; decide) z)
      have eU : b1.1 = (sp_rn 101 b).1 := by rw [← hU, rn_end 0 b1 hde]
      have hP : va_P D cx (xw ad cs (b1.1) j1) H := hP
      have hD : va_D A (xw ad cs (b1.1) j1) := hD
      rw [eU] at hP hD
      exact W.vret hx hb hret (fun t ht hW => ⟨⟨j1, rfl, trivial, by rw [ht]; exact hP, va_K.moved hW.alike hK, hD⟩, hS.F ht⟩) hS.2.2 d_ms_runToTheEnd_53
  · intro r H L ls a hr hI ih
    obtain ⟨b1, j1⟩ := a
    obtain ⟨hl, hP, hD, hS, hJ, hok, hfa, hst, hde, hU⟩ := hI
    have hl : lv_has ls 2 [(1, .int (nI r)), (0, .ref (ad 0))] := hl
    have hP : va_P D cx (xw ad cs b1.1 j1) H := hP
    have hD : va_D A (xw ad cs b1.1 j1) := hD
    have hJ : xj b1 j1 := hJ
    have hok : sp_ok b1.1 := hok
    have hfa : sg_fa b1.1 = 0 := hfa
    have hst : sg_st b1.1 = nI r := hst
    have hde : vp_in b1.2.1 6 ∨ b1.2.1 = -1 := hde
    have hU : (sp_rn (101 - r) b1).1 = (sp_rn 101 b).1 := hU
    rw [show 101 - r = (100 - r) + 1 by omega] at hU
    rcases hde with hde | hde
    · skip
      have hs : sg_st b1.1 < 100 := by rw [hst]; exact lt100 hr
      have hs1 : ¬ sg_st b1.1 = 100 := by rw [hst]; exact n100 hr
      by_cases hf : sp_if b1 = 0
      · skip
        refine lv_iload_n hx hb d_ms_runToTheEnd_2 rfl (lv_at hl 0 rfl) ?_
        refine lv_bipush (v := 100) hx hb d_ms_runToTheEnd_3 (by decide) ?_
        refine lv_icmp_gt hx hb d_ms_runToTheEnd_5 (tgt := 53) (by decide) (fun z => absurd z (le100 (by omega))) (fun _ => ?_)
        refine lv_aload_n hx hb d_ms_runToTheEnd_8 rfl (lv_at hl 1 rfl) ?_
        refine va_get (D := D) (ci := 0) (v := .int (sg_fa b1.1)) (C := "MeasuredStages") (T := F_ms) (N := 12) hx hb hts (fun w h => List.mem_cons_of_mem _ (i_ms w h)) hown hK hP 0 rfl rfl 9 (by decide) (hT _ tb_78) (fun _ h9 => h9) rfl d_ms_runToTheEnd_9 ?_
        refine lv_if_ne hx hb d_ms_runToTheEnd_12 (tgt := 53) (by decide) (fun z => absurd hfa z) (fun _ => ?_)
        refine lv_aload_n hx hb d_ms_runToTheEnd_15 rfl (lv_at hl 1 rfl) ?_
        refine va_get (D := D) (ci := 0) (v := .int (jx_de j1)) (C := "MeasuredStages") (T := F_ms) (N := 12) hx hb hts (fun w h => List.mem_cons_of_mem _ (i_ms w h)) hown hK hP 0 rfl rfl 7 (by decide) (hT _ tb_76) (fun _ h9 => h9) rfl d_ms_runToTheEnd_16 ?_
        refine lv_if_lt hx hb d_ms_runToTheEnd_19 (tgt := 53) (by decide) (fun z => absurd z (by rw [hJ.1]; exact xn_ge hde)) (fun _ => ?_)
        refine lv_aload_n hx hb d_ms_runToTheEnd_22 rfl (lv_at hl 1 rfl) ?_
        refine lv_aload_n hx hb d_ms_runToTheEnd_23 rfl (lv_at hl 1 rfl) ?_
        refine xw_wri (v := 0) (u' := (sp_in b1).1) (As := []) (rest := [.ref (ad 0)]) ⟨hx, hb, hml, hown, hts⟩ (c_do_ok l D cs ad _ b1 j1 hs hde hok hJ hf) tb_268 tb_270 sl_6 tb_1 tb_271 ⟨rfl, hd_ms_doInstruction⟩ ⟨Nat.le_of_ble_eq_true rfl, Nat.le_of_ble_eq_true rfl⟩ rfl rfl hK hP hD hN 0 0 rfl rfl hl.1 rfl (Nat.le_of_ble_eq_true rfl) d_ms_runToTheEnd_24 ⟨Nat.zero_le _, Nat.zero_le _⟩ hS hA (fun j2 H locs hj3 hP hD hS => ?_)
        obtain ⟨v4, ev4⟩ : ∃ z : Sg, z = (sp_in b1).1 := ⟨_, rfl⟩
        rw [← ev4] at hP hD
        refine va_put (D := D) (ci := 0) (v := .int (0)) (ty := .int) (C := "MeasuredStages") (T := F_ms) (N := 12) hx hb hts (fun w h => List.mem_cons_of_mem _ (i_ms w h)) t_ms o_ms n_ms hown hK hP hD hS 0 rfl rfl 9 (by decide) (hT _ tb_78) (fun _ h9 => h9) rfl (by decide +kernel) rfl rfl (Nat.le_of_ble_eq_true rfl) d_ms_runToTheEnd_27 (fun H locs hP hD hS => ?_)
        have hP : va_P D cx (xv ad cs (sg_im v4) (sg_ap v4) (sg_ag v4) (sg_he v4) (sg_er v4) (sg_ev v4) (sg_en v4) (sg_ma v4) (sg_po v4) (sg_se v4) (sg_ac v4) (0) (sg_la v4) (sg_st v4) (jx_ru j2) (jx_nd j2) (jx_de j2) (jx_rp j2)) H := hP
        have hD : va_D A (xv ad cs (sg_im v4) (sg_ap v4) (sg_ag v4) (sg_he v4) (sg_er v4) (sg_ev v4) (sg_en v4) (sg_ma v4) (sg_po v4) (sg_se v4) (sg_ac v4) (0) (sg_la v4) (sg_st v4) (jx_ru j2) (jx_nd j2) (jx_de j2) (jx_rp j2)) := hD
        have hin := in_keep hde hok hf
        rw [← ev4] at hin
        have hfv : sg_fa v4 = 0 := hin.2.1.trans hfa
        have hP : va_P D cx (xw ad cs v4 j2) H := by
          show va_P D cx (xv ad cs (sg_im v4) (sg_ap v4) (sg_ag v4) (sg_he v4) (sg_er v4) (sg_ev v4) (sg_en v4) (sg_ma v4) (sg_po v4) (sg_se v4) (sg_ac v4) (sg_fa v4) (sg_la v4) (sg_st v4) (jx_ru j2) (jx_nd j2) (jx_de j2) (jx_rp j2)) H
          rw [hfv]; exact hP
        have hD : va_D A (xw ad cs v4 j2) := by
          show va_D A (xv ad cs (sg_im v4) (sg_ap v4) (sg_ag v4) (sg_he v4) (sg_er v4) (sg_ev v4) (sg_en v4) (sg_ma v4) (sg_po v4) (sg_se v4) (sg_ac v4) (sg_fa v4) (sg_la v4) (sg_st v4) (jx_ru j2) (jx_nd j2) (jx_de j2) (jx_rp j2))
          rw [hfv]; exact hD
        refine lv_aload_n hx hb d_ms_runToTheEnd_30 rfl (lv_at hl 1 rfl) ?_
        refine va_get (D := D) (ci := 0) (v := .int (sg_fa v4)) (C := "MeasuredStages") (T := F_ms) (N := 12) hx hb hts (fun w h => List.mem_cons_of_mem _ (i_ms w h)) hown hK hP 0 rfl rfl 9 (by decide) (hT _ tb_78) (fun _ h9 => h9) rfl d_ms_runToTheEnd_31 ?_
        refine lv_if_ne hx hb d_ms_runToTheEnd_34 (tgt := 47) (by decide) (fun z => absurd hfv z) (fun _ => ?_)
        refine lv_aload_n hx hb d_ms_runToTheEnd_37 rfl (lv_at hl 1 rfl) ?_
        refine lv_dup hx hb d_ms_runToTheEnd_38 rfl ?_
        refine va_get (D := D) (ci := 0) (v := .int (sg_st v4)) (C := "MeasuredStages") (T := F_ms) (N := 12) hx hb hts (fun w h => List.mem_cons_of_mem _ (i_ms w h)) hown hK hP 0 rfl rfl 11 (by decide) (hT _ tb_80) (fun _ h9 => h9) rfl d_ms_runToTheEnd_39 ?_
        refine lv_iconst (v := 1) hx hb d_ms_runToTheEnd_42 (by decide) ?_
        refine lv_iadd hx hb d_ms_runToTheEnd_43 ?_
        refine va_put (D := D) (ci := 0) (v := .int ((sg_st v4) + (1))) (ty := .int) (C := "MeasuredStages") (T := F_ms) (N := 12) hx hb hts (fun w h => List.mem_cons_of_mem _ (i_ms w h)) t_ms o_ms n_ms hown hK hP hD hS 0 rfl rfl 11 (by decide) (hT _ tb_80) (fun _ h9 => h9) rfl (by decide +kernel) rfl rfl (Nat.le_of_ble_eq_true rfl) d_ms_runToTheEnd_44 (fun H locs hP hD hS => ?_)
        have hP : va_P D cx (xv ad cs (sg_im v4) (sg_ap v4) (sg_ag v4) (sg_he v4) (sg_er v4) (sg_ev v4) (sg_en v4) (sg_ma v4) (sg_po v4) (sg_se v4) (sg_ac v4) (sg_fa v4) (sg_la v4) ((sg_st v4) + (1)) (jx_ru j2) (jx_nd j2) (jx_de j2) (jx_rp j2)) H := hP
        have hD : va_D A (xv ad cs (sg_im v4) (sg_ap v4) (sg_ag v4) (sg_he v4) (sg_er v4) (sg_ev v4) (sg_en v4) (sg_ma v4) (sg_po v4) (sg_se v4) (sg_ac v4) (sg_fa v4) (sg_la v4) ((sg_st v4) + (1)) (jx_ru j2) (jx_nd j2) (jx_de j2) (jx_rp j2)) := hD
        refine lv_iinc (nL := 2) (k := 0) (v := nI (r + 1)) (lv' := [(1, .int (nI (r + 1))), (0, .ref (ad 0))]) hx hb d_ms_runToTheEnd_47 hl rfl ((nI_succ r).symm) (by decide) rfl (fun ls hl => ?_)
        refine lv_goto hx hb d_ms_runToTheEnd_50 (tgt := 2) (by decide) ?_
        obtain ⟨v5, ev5⟩ : ∃ z : Sg, z = (sg_im v4, sg_ap v4, sg_ag v4, sg_he v4, sg_er v4, sg_ev v4, sg_en v4, sg_ma v4, sg_po v4, sg_se v4, sg_ac v4, sg_fa v4, sg_la v4, (sg_st v4) + (1)) := ⟨_, rfl⟩
        have hP : va_P D cx (xw ad cs v5 j2) H := by rw [ev5, xw_u]; exact hP
        have hD : va_D A (xw ad cs v5 j2) := by rw [ev5, xw_u]; exact hD
        subst ev5
        subst ev4
        exact ih _ _ ls ((ss_st (sp_in b1).1 (sg_st (sp_in b1).1 + 1), (sp_in b1).2), j2) ⟨lv_sub hl [0, 1] rfl, hP, hD, hS, xj_st hj3, ok_st hin.1, hin.2.1.trans hfa, (st_st _ _).trans ((congrArg (· + 1) (hin.2.2.1.trans hst)).trans (nI_succ r).symm), hin.2.2.2.1, (by rw [← hU, rn_ok _ b1 hde hs1 hf, show 101 - (r + 1) = 100 - r by omega])⟩
      · skip
        refine lv_iload_n hx hb d_ms_runToTheEnd_2 rfl (lv_at hl 0 rfl) ?_
        refine lv_bipush (v := 100) hx hb d_ms_runToTheEnd_3 (by decide) ?_
        refine lv_icmp_gt hx hb d_ms_runToTheEnd_5 (tgt := 53) (by decide) (fun z => absurd z (le100 (by omega))) (fun _ => ?_)
        refine lv_aload_n hx hb d_ms_runToTheEnd_8 rfl (lv_at hl 1 rfl) ?_
        refine va_get (D := D) (ci := 0) (v := .int (sg_fa b1.1)) (C := "MeasuredStages") (T := F_ms) (N := 12) hx hb hts (fun w h => List.mem_cons_of_mem _ (i_ms w h)) hown hK hP 0 rfl rfl 9 (by decide) (hT _ tb_78) (fun _ h9 => h9) rfl d_ms_runToTheEnd_9 ?_
        refine lv_if_ne hx hb d_ms_runToTheEnd_12 (tgt := 53) (by decide) (fun z => absurd hfa z) (fun _ => ?_)
        refine lv_aload_n hx hb d_ms_runToTheEnd_15 rfl (lv_at hl 1 rfl) ?_
        refine va_get (D := D) (ci := 0) (v := .int (jx_de j1)) (C := "MeasuredStages") (T := F_ms) (N := 12) hx hb hts (fun w h => List.mem_cons_of_mem _ (i_ms w h)) hown hK hP 0 rfl rfl 7 (by decide) (hT _ tb_76) (fun _ h9 => h9) rfl d_ms_runToTheEnd_16 ?_
        refine lv_if_lt hx hb d_ms_runToTheEnd_19 (tgt := 53) (by decide) (fun z => absurd z (by rw [hJ.1]; exact xn_ge hde)) (fun _ => ?_)
        refine lv_aload_n hx hb d_ms_runToTheEnd_22 rfl (lv_at hl 1 rfl) ?_
        refine lv_aload_n hx hb d_ms_runToTheEnd_23 rfl (lv_at hl 1 rfl) ?_
        refine xw_wri (v := sp_if b1) (u' := b1.1) (As := []) (rest := [.ref (ad 0)]) ⟨hx, hb, hml, hown, hts⟩ (c_do_ft l D cs ad _ b1 j1 hs hde hok hJ hf) tb_268 tb_270 sl_6 tb_1 tb_271 ⟨rfl, hd_ms_doInstruction⟩ ⟨Nat.le_of_ble_eq_true rfl, Nat.le_of_ble_eq_true rfl⟩ rfl rfl hK hP hD hN 0 0 rfl rfl hl.1 rfl (Nat.le_of_ble_eq_true rfl) d_ms_runToTheEnd_24 ⟨Nat.zero_le _, Nat.zero_le _⟩ hS hA (fun j6 H locs hj7 hP hD hS => ?_)
        refine va_put (D := D) (ci := 0) (v := .int (sp_if b1)) (ty := .int) (C := "MeasuredStages") (T := F_ms) (N := 12) hx hb hts (fun w h => List.mem_cons_of_mem _ (i_ms w h)) t_ms o_ms n_ms hown hK hP hD hS 0 rfl rfl 9 (by decide) (hT _ tb_78) (fun _ h9 => h9) rfl (by decide +kernel) rfl rfl (Nat.le_of_ble_eq_true rfl) d_ms_runToTheEnd_27 (fun H locs hP hD hS => ?_)
        have hP : va_P D cx (xv ad cs (sg_im b1.1) (sg_ap b1.1) (sg_ag b1.1) (sg_he b1.1) (sg_er b1.1) (sg_ev b1.1) (sg_en b1.1) (sg_ma b1.1) (sg_po b1.1) (sg_se b1.1) (sg_ac b1.1) (sp_if b1) (sg_la b1.1) (sg_st b1.1) (jx_ru j6) (jx_nd j6) (jx_de j6) (jx_rp j6)) H := hP
        have hD : va_D A (xv ad cs (sg_im b1.1) (sg_ap b1.1) (sg_ag b1.1) (sg_he b1.1) (sg_er b1.1) (sg_ev b1.1) (sg_en b1.1) (sg_ma b1.1) (sg_po b1.1) (sg_se b1.1) (sg_ac b1.1) (sp_if b1) (sg_la b1.1) (sg_st b1.1) (jx_ru j6) (jx_nd j6) (jx_de j6) (jx_rp j6)) := hD
        refine lv_aload_n hx hb d_ms_runToTheEnd_30 rfl (lv_at hl 1 rfl) ?_
        refine va_get (D := D) (ci := 0) (v := .int (sp_if b1)) (C := "MeasuredStages") (T := F_ms) (N := 12) hx hb hts (fun w h => List.mem_cons_of_mem _ (i_ms w h)) hown hK hP 0 rfl rfl 9 (by decide) (hT _ tb_78) (fun _ h9 => h9) rfl d_ms_runToTheEnd_31 ?_
        refine lv_if_ne hx hb d_ms_runToTheEnd_34 (tgt := 47) (by decide) (fun _ => ?_) (fun z => absurd z hf)
        refine lv_iinc (nL := 2) (k := 0) (v := nI (r + 1)) (lv' := [(1, .int (nI (r + 1))), (0, .ref (ad 0))]) hx hb d_ms_runToTheEnd_47 hl rfl ((nI_succ r).symm) (by decide) rfl (fun ls hl => ?_)
        refine lv_goto hx hb d_ms_runToTheEnd_50 (tgt := 2) (by decide) ?_
        refine lv_iload_n hx hb d_ms_runToTheEnd_2 rfl (lv_at hl 0 rfl) ?_
        refine lv_bipush (v := 100) hx hb d_ms_runToTheEnd_3 (by decide) ?_
        refine lv_icmp_gt hx hb d_ms_runToTheEnd_5 (tgt := 53) (by decide) (fun z => absurd z (le100 (by omega))) (fun _ => ?_)
        refine lv_aload_n hx hb d_ms_runToTheEnd_8 rfl (lv_at hl 1 rfl) ?_
        refine va_get (D := D) (ci := 0) (v := .int (sp_if b1)) (C := "MeasuredStages") (T := F_ms) (N := 12) hx hb hts (fun w h => List.mem_cons_of_mem _ (i_ms w h)) hown hK hP 0 rfl rfl 9 (by decide) (hT _ tb_78) (fun _ h9 => h9) rfl d_ms_runToTheEnd_9 ?_
        refine lv_if_ne hx hb d_ms_runToTheEnd_12 (tgt := 53) (by decide) (fun _ => ?_) (fun z => absurd z hf)
        obtain ⟨v8, ev8⟩ : ∃ z : Sg, z = (sg_im b1.1, sg_ap b1.1, sg_ag b1.1, sg_he b1.1, sg_er b1.1, sg_ev b1.1, sg_en b1.1, sg_ma b1.1, sg_po b1.1, sg_se b1.1, sg_ac b1.1, sp_if b1, sg_la b1.1, sg_st b1.1) := ⟨_, rfl⟩
        have hP : va_P D cx (xw ad cs v8 j6) H := by rw [ev8, xw_u]; exact hP
        have hD : va_D A (xw ad cs v8 j6) := by rw [ev8, xw_u]; exact hD
        subst ev8
        have eU : ss_fa b1.1 (sp_if b1) = (sp_rn 101 b).1 := by rw [← hU, rn_ft _ b1 hde hs1 hf]
        have hP : va_P D cx (xw ad cs (ss_fa b1.1 (sp_if b1)) j6) H := hP
        have hD : va_D A (xw ad cs (ss_fa b1.1 (sp_if b1)) j6) := hD
        rw [eU] at hP hD
        exact W.vret hx hb hret (fun t ht hW => ⟨⟨j6, rfl, trivial, by rw [ht]; exact hP, va_K.moved hW.alike hK, hD⟩, hS.F ht⟩) hS.2.2 d_ms_runToTheEnd_53
    · skip
      refine lv_iload_n hx hb d_ms_runToTheEnd_2 rfl (lv_at hl 0 rfl) ?_
      refine lv_bipush (v := 100) hx hb d_ms_runToTheEnd_3 (by decide) ?_
      refine lv_icmp_gt hx hb d_ms_runToTheEnd_5 (tgt := 53) (by decide) (fun z => absurd z (le100 (by omega))) (fun _ => ?_)
      refine lv_aload_n hx hb d_ms_runToTheEnd_8 rfl (lv_at hl 1 rfl) ?_
      refine va_get (D := D) (ci := 0) (v := .int (sg_fa b1.1)) (C := "MeasuredStages") (T := F_ms) (N := 12) hx hb hts (fun w h => List.mem_cons_of_mem _ (i_ms w h)) hown hK hP 0 rfl rfl 9 (by decide) (hT _ tb_78) (fun _ h9 => h9) rfl d_ms_runToTheEnd_9 ?_
      refine lv_if_ne hx hb d_ms_runToTheEnd_12 (tgt := 53) (by decide) (fun z => absurd hfa z) (fun _ => ?_)
      refine lv_aload_n hx hb d_ms_runToTheEnd_15 rfl (lv_at hl 1 rfl) ?_
      refine va_get (D := D) (ci := 0) (v := .int (jx_de j1)) (C := "MeasuredStages") (T := F_ms) (N := 12) hx hb hts (fun w h => List.mem_cons_of_mem _ (i_ms w h)) hown hK hP 0 rfl rfl 7 (by decide) (hT _ tb_76) (fun _ h9 => h9) rfl d_ms_runToTheEnd_16 ?_
      refine lv_if_lt hx hb d_ms_runToTheEnd_19 (tgt := 53) (by decide) (fun _ => ?_) (fun z => absurd (by rw [hJ.1, hde]; decide) z)
      have eU : b1.1 = (sp_rn 101 b).1 := by rw [← hU, rn_end _ b1 hde]
      have hP : va_P D cx (xw ad cs (b1.1) j1) H := hP
      have hD : va_D A (xw ad cs (b1.1) j1) := hD
      rw [eU] at hP hD
      exact W.vret hx hb hret (fun t ht hW => ⟨⟨j1, rfl, trivial, by rw [ht]; exact hP, va_K.moved hW.alike hK, hD⟩, hS.F ht⟩) hS.2.2 d_ms_runToTheEnd_53
