theorem d_ms_hash_0 : decode b_ms_hash 0 = .ok (.lload_n 0, 1) := by decide +kernel
theorem d_ms_hash_1 : decode b_ms_hash 1 = .ok (.ldc2_w 162, 3) := by decide +kernel
theorem d_ms_hash_4 : decode b_ms_hash 4 = .ok (.lxor, 1) := by decide +kernel
theorem d_ms_hash_5 : decode b_ms_hash 5 = .ok (.ldc2_w 164, 3) := by decide +kernel
theorem d_ms_hash_8 : decode b_ms_hash 8 = .ok (.lmul, 1) := by decide +kernel
theorem d_ms_hash_9 : decode b_ms_hash 9 = .ok (.lload_n 2, 1) := by decide +kernel
theorem d_ms_hash_10 : decode b_ms_hash 10 = .ok (.ladd, 1) := by decide +kernel
theorem d_ms_hash_11 : decode b_ms_hash 11 = .ok (.lstore 4, 2) := by decide +kernel
theorem d_ms_hash_13 : decode b_ms_hash 13 = .ok (.lload 4, 2) := by decide +kernel
theorem d_ms_hash_15 : decode b_ms_hash 15 = .ok (.lload 4, 2) := by decide +kernel
theorem d_ms_hash_17 : decode b_ms_hash 17 = .ok (.bipush 32, 2) := by decide +kernel
theorem d_ms_hash_19 : decode b_ms_hash 19 = .ok (.lushr, 1) := by decide +kernel
theorem d_ms_hash_20 : decode b_ms_hash 20 = .ok (.lxor, 1) := by decide +kernel
theorem d_ms_hash_21 : decode b_ms_hash 21 = .ok (.lstore 4, 2) := by decide +kernel
theorem d_ms_hash_23 : decode b_ms_hash 23 = .ok (.lload 4, 2) := by decide +kernel
theorem d_ms_hash_25 : decode b_ms_hash 25 = .ok (.ldc2_w 166, 3) := by decide +kernel
theorem d_ms_hash_28 : decode b_ms_hash 28 = .ok (.lmul, 1) := by decide +kernel
theorem d_ms_hash_29 : decode b_ms_hash 29 = .ok (.lstore 4, 2) := by decide +kernel
theorem d_ms_hash_31 : decode b_ms_hash 31 = .ok (.lload 4, 2) := by decide +kernel
theorem d_ms_hash_33 : decode b_ms_hash 33 = .ok (.lload 4, 2) := by decide +kernel
theorem d_ms_hash_35 : decode b_ms_hash 35 = .ok (.bipush 29, 2) := by decide +kernel
theorem d_ms_hash_37 : decode b_ms_hash 37 = .ok (.lushr, 1) := by decide +kernel
theorem d_ms_hash_38 : decode b_ms_hash 38 = .ok (.lxor, 1) := by decide +kernel
theorem d_ms_hash_39 : decode b_ms_hash 39 = .ok (.lreturn, 1) := by decide +kernel
theorem d_md_h_0 : decode b_md_h 0 = .ok (.lload_n 0, 1) := by decide +kernel
theorem d_md_h_1 : decode b_md_h 1 = .ok (.ldc2_w 52, 3) := by decide +kernel
theorem d_md_h_4 : decode b_md_h 4 = .ok (.lxor, 1) := by decide +kernel
theorem d_md_h_5 : decode b_md_h 5 = .ok (.ldc2_w 54, 3) := by decide +kernel
theorem d_md_h_8 : decode b_md_h 8 = .ok (.lmul, 1) := by decide +kernel
theorem d_md_h_9 : decode b_md_h 9 = .ok (.lload_n 2, 1) := by decide +kernel
theorem d_md_h_10 : decode b_md_h 10 = .ok (.ladd, 1) := by decide +kernel
theorem d_md_h_11 : decode b_md_h 11 = .ok (.lstore 4, 2) := by decide +kernel
theorem d_md_h_13 : decode b_md_h 13 = .ok (.lload 4, 2) := by decide +kernel
theorem d_md_h_15 : decode b_md_h 15 = .ok (.lload 4, 2) := by decide +kernel
theorem d_md_h_17 : decode b_md_h 17 = .ok (.bipush 32, 2) := by decide +kernel
theorem d_md_h_19 : decode b_md_h 19 = .ok (.lushr, 1) := by decide +kernel
theorem d_md_h_20 : decode b_md_h 20 = .ok (.lxor, 1) := by decide +kernel
theorem d_md_h_21 : decode b_md_h 21 = .ok (.lstore 4, 2) := by decide +kernel
theorem d_md_h_23 : decode b_md_h 23 = .ok (.lload 4, 2) := by decide +kernel
theorem d_md_h_25 : decode b_md_h 25 = .ok (.ldc2_w 56, 3) := by decide +kernel
theorem d_md_h_28 : decode b_md_h 28 = .ok (.lmul, 1) := by decide +kernel
theorem d_md_h_29 : decode b_md_h 29 = .ok (.lstore 4, 2) := by decide +kernel
theorem d_md_h_31 : decode b_md_h 31 = .ok (.lload 4, 2) := by decide +kernel
theorem d_md_h_33 : decode b_md_h 33 = .ok (.lload 4, 2) := by decide +kernel
theorem d_md_h_35 : decode b_md_h 35 = .ok (.bipush 29, 2) := by decide +kernel
theorem d_md_h_37 : decode b_md_h 37 = .ok (.lushr, 1) := by decide +kernel
theorem d_md_h_38 : decode b_md_h 38 = .ok (.lxor, 1) := by decide +kernel
theorem d_md_h_39 : decode b_md_h 39 = .ok (.lreturn, 1) := by decide +kernel
theorem d_ms_isImage_0 : decode b_ms_isImage 0 = .ok (.iload_n 0, 1) := by decide +kernel
theorem d_ms_isImage_1 : decode b_ms_isImage 1 = .ok (.ifCond .lt 13, 3) := by decide +kernel
theorem d_ms_isImage_4 : decode b_ms_isImage 4 = .ok (.iload_n 0, 1) := by decide +kernel
theorem d_ms_isImage_5 : decode b_ms_isImage 5 = .ok (.bipush 8, 2) := by decide +kernel
theorem d_ms_isImage_7 : decode b_ms_isImage 7 = .ok (.if_icmp .ge 7, 3) := by decide +kernel
theorem d_ms_isImage_10 : decode b_ms_isImage 10 = .ok (.iconst 1, 1) := by decide +kernel
theorem d_ms_isImage_11 : decode b_ms_isImage 11 = .ok (.goto 4, 3) := by decide +kernel
theorem d_ms_isImage_14 : decode b_ms_isImage 14 = .ok (.iconst 0, 1) := by decide +kernel
theorem d_ms_isImage_15 : decode b_ms_isImage 15 = .ok (.ireturn, 1) := by decide +kernel
theorem d_rg_isRegister_0 : decode b_rg_isRegister 0 = .ok (.iload_n 0, 1) := by decide +kernel
theorem d_rg_isRegister_1 : decode b_rg_isRegister 1 = .ok (.ifCond .lt 13, 3) := by decide +kernel
theorem d_rg_isRegister_4 : decode b_rg_isRegister 4 = .ok (.iload_n 0, 1) := by decide +kernel
theorem d_rg_isRegister_5 : decode b_rg_isRegister 5 = .ok (.bipush 6, 2) := by decide +kernel
theorem d_rg_isRegister_7 : decode b_rg_isRegister 7 = .ok (.if_icmp .ge 7, 3) := by decide +kernel
theorem d_rg_isRegister_10 : decode b_rg_isRegister 10 = .ok (.iconst 1, 1) := by decide +kernel
theorem d_rg_isRegister_11 : decode b_rg_isRegister 11 = .ok (.goto 4, 3) := by decide +kernel
theorem d_rg_isRegister_14 : decode b_rg_isRegister 14 = .ok (.iconst 0, 1) := by decide +kernel
theorem d_rg_isRegister_15 : decode b_rg_isRegister 15 = .ok (.ireturn, 1) := by decide +kernel
theorem d_ms_isMask_0 : decode b_ms_isMask 0 = .ok (.iload_n 0, 1) := by decide +kernel
theorem d_ms_isMask_1 : decode b_ms_isMask 1 = .ok (.iconst 1, 1) := by decide +kernel
theorem d_ms_isMask_2 : decode b_ms_isMask 2 = .ok (.if_icmp .lt 13, 3) := by decide +kernel
theorem d_ms_isMask_5 : decode b_ms_isMask 5 = .ok (.iload_n 0, 1) := by decide +kernel
theorem d_ms_isMask_6 : decode b_ms_isMask 6 = .ok (.bipush 63, 2) := by decide +kernel
theorem d_ms_isMask_8 : decode b_ms_isMask 8 = .ok (.if_icmp .gt 7, 3) := by decide +kernel
theorem d_ms_isMask_11 : decode b_ms_isMask 11 = .ok (.iconst 1, 1) := by decide +kernel
theorem d_ms_isMask_12 : decode b_ms_isMask 12 = .ok (.goto 4, 3) := by decide +kernel
theorem d_ms_isMask_15 : decode b_ms_isMask 15 = .ok (.iconst 0, 1) := by decide +kernel
theorem d_ms_isMask_16 : decode b_ms_isMask 16 = .ok (.ireturn, 1) := by decide +kernel
theorem d_md_operands_0 : decode b_md_operands 0 = .ok (.iload_n 0, 1) := by decide +kernel
theorem d_md_operands_1 : decode b_md_operands 1 = .ok (.ifCond .ne 7, 3) := by decide +kernel
theorem d_md_operands_4 : decode b_md_operands 4 = .ok (.iconst 0, 1) := by decide +kernel
theorem d_md_operands_5 : decode b_md_operands 5 = .ok (.goto 13, 3) := by decide +kernel
theorem d_md_operands_8 : decode b_md_operands 8 = .ok (.iload_n 0, 1) := by decide +kernel
theorem d_md_operands_9 : decode b_md_operands 9 = .ok (.iconst 2, 1) := by decide +kernel
theorem d_md_operands_10 : decode b_md_operands 10 = .ok (.if_icmp .ne 7, 3) := by decide +kernel
theorem d_md_operands_13 : decode b_md_operands 13 = .ok (.iconst 2, 1) := by decide +kernel
theorem d_md_operands_14 : decode b_md_operands 14 = .ok (.goto 4, 3) := by decide +kernel
theorem d_md_operands_17 : decode b_md_operands 17 = .ok (.iconst 1, 1) := by decide +kernel
theorem d_md_operands_18 : decode b_md_operands 18 = .ok (.ireturn, 1) := by decide +kernel
set_option maxHeartbeats 4000000 in
set_option maxRecDepth 100000 in
theorem c_ms_hash (l : Launch) (a b : Int64)  : Met l y_ms_hash (Cond.code y_ms_hash b_ms_hash 6 (some .long) :: TB) { frames := 0, cells := 0, slots := 0, locals := 0 } (va_Pc [.long a, .long b] (fun _ => True)) (vp_Sl (fun r => r = sp_h a b)) 0 0 (fun _ => False) := by
  refine Met.ofW (cc := b_ms_hash) (maxL := 6) (ret := (some .long)) (by decide) rfl ?_
  intro p e s m args below meth c s₁ B hml hv
  obtain ⟨rfl, -⟩ := hv
  have hx := B.exec
  have hb := B.bytes
  have hret := B.returns
  have hts := atoms_spec (ws := Cond.code y_ms_hash b_ms_hash 6 (some .long) :: TB) B.pre
  have hT : ∀ w ∈ TB, w.before _ s = true := fun w h => hts w (List.mem_cons_of_mem _ h)
  have hown : s.vm.findClass "MeasuredStages" = some m.cls := findClass_of_methodNamed B.named
  have hlocks := B.notSynchronized
  have hl := lv_entry ([.long a, .long b]) (n := 6) (Nat.le_of_ble_eq_true rfl)
  rw [lg_entry_eq]
  generalize (lg_sl ([.long a, .long b]) ++ List.replicate (6 - (lg_sl ([.long a, .long b])).length) Slot.unset).toArray = ls at hl ⊢
  have hl : lv_has ls 6 [(0, .long a), (2, .long b)] := hl
  refine lv_lload_n hx hb d_ms_hash_0 rfl (lv_at hl 0 rfl) ?_
  refine lv_ldc2 (v := 1442695040888963407) hx hb hown (hT _ tb_140) d_ms_hash_1 ?_
  refine lv_lxor hx hb d_ms_hash_4 ?_
  refine lv_ldc2 (v := 6364136223846793005) hx hb hown (hT _ tb_141) d_ms_hash_5 ?_
  refine lv_lmul hx hb d_ms_hash_8 ?_
  refine lv_lload_n hx hb d_ms_hash_9 rfl (lv_at hl 1 rfl) ?_
  refine lv_ladd hx hb d_ms_hash_10 ?_
  refine lv_lstore (nL := 6) (lv' := [(4, .long (((a ^^^ (1442695040888963407)) * (6364136223846793005)) + b)), (0, .long a), (2, .long b)]) hx hb d_ms_hash_11 hl (by decide) rfl (fun ls hl => ?_)
  refine lv_lload hx hb d_ms_hash_13 (lv_at hl 0 rfl) ?_
  refine lv_lload hx hb d_ms_hash_15 (lv_at hl 0 rfl) ?_
  refine lv_bipush (v := 32) hx hb d_ms_hash_17 (by decide) ?_
  refine lv_lushr (v := sp_sh (((a ^^^ (1442695040888963407)) * (6364136223846793005)) + b) (32)) hx hb d_ms_hash_19 rfl ?_
  refine lv_lxor hx hb d_ms_hash_20 ?_
  refine lv_lstore (nL := 6) (lv' := [(4, .long ((((a ^^^ (1442695040888963407)) * (6364136223846793005)) + b) ^^^ (sp_sh (((a ^^^ (1442695040888963407)) * (6364136223846793005)) + b) (32)))), (0, .long a), (2, .long b)]) hx hb d_ms_hash_21 hl (by decide) rfl (fun ls hl => ?_)
  refine lv_lload hx hb d_ms_hash_23 (lv_at hl 0 rfl) ?_
  refine lv_ldc2 (v := 2862933555777941757) hx hb hown (hT _ tb_142) d_ms_hash_25 ?_
  refine lv_lmul hx hb d_ms_hash_28 ?_
  refine lv_lstore (nL := 6) (lv' := [(4, .long (((((a ^^^ (1442695040888963407)) * (6364136223846793005)) + b) ^^^ (sp_sh (((a ^^^ (1442695040888963407)) * (6364136223846793005)) + b) (32))) * (2862933555777941757))), (0, .long a), (2, .long b)]) hx hb d_ms_hash_29 hl (by decide) rfl (fun ls hl => ?_)
  refine lv_lload hx hb d_ms_hash_31 (lv_at hl 0 rfl) ?_
  refine lv_lload hx hb d_ms_hash_33 (lv_at hl 0 rfl) ?_
  refine lv_bipush (v := 29) hx hb d_ms_hash_35 (by decide) ?_
  refine lv_lushr (v := sp_sh (((((a ^^^ (1442695040888963407)) * (6364136223846793005)) + b) ^^^ (sp_sh (((a ^^^ (1442695040888963407)) * (6364136223846793005)) + b) (32))) * (2862933555777941757)) (29)) hx hb d_ms_hash_37 rfl ?_
  refine lv_lxor hx hb d_ms_hash_38 ?_
  exact W.lret (v := (((((a ^^^ (1442695040888963407)) * (6364136223846793005)) + b) ^^^ (sp_sh (((a ^^^ (1442695040888963407)) * (6364136223846793005)) + b) (32))) * (2862933555777941757)) ^^^ (sp_sh (((((a ^^^ (1442695040888963407)) * (6364136223846793005)) + b) ^^^ (sp_sh (((a ^^^ (1442695040888963407)) * (6364136223846793005)) + b) (32))) * (2862933555777941757)) (29))) hx hb hret (fun t ht hW => ⟨_, rfl, rfl, ht⟩) (fun q h => by cases h) d_ms_hash_39
set_option maxHeartbeats 4000000 in
set_option maxRecDepth 100000 in
theorem c_md_h (l : Launch) (a b : Int64)  : Met l y_md_h (Cond.code y_md_h b_md_h 6 (some .long) :: TB) { frames := 0, cells := 0, slots := 0, locals := 0 } (va_Pc [.long a, .long b] (fun _ => True)) (vp_Sl (fun r => r = sp_h a b)) 0 0 (fun _ => False) := by
  refine Met.ofW (cc := b_md_h) (maxL := 6) (ret := (some .long)) (by decide) rfl ?_
  intro p e s m args below meth c s₁ B hml hv
  obtain ⟨rfl, -⟩ := hv
  have hx := B.exec
  have hb := B.bytes
  have hret := B.returns
  have hts := atoms_spec (ws := Cond.code y_md_h b_md_h 6 (some .long) :: TB) B.pre
  have hT : ∀ w ∈ TB, w.before _ s = true := fun w h => hts w (List.mem_cons_of_mem _ h)
  have hown : s.vm.findClass "MeasuredStagesModel" = some m.cls := findClass_of_methodNamed B.named
  have hlocks := B.notSynchronized
  have hl := lv_entry ([.long a, .long b]) (n := 6) (Nat.le_of_ble_eq_true rfl)
  rw [lg_entry_eq]
  generalize (lg_sl ([.long a, .long b]) ++ List.replicate (6 - (lg_sl ([.long a, .long b])).length) Slot.unset).toArray = ls at hl ⊢
  have hl : lv_has ls 6 [(0, .long a), (2, .long b)] := hl
  refine lv_lload_n hx hb d_md_h_0 rfl (lv_at hl 0 rfl) ?_
  refine lv_ldc2 (v := 1442695040888963407) hx hb hown (hT _ tb_537) d_md_h_1 ?_
  refine lv_lxor hx hb d_md_h_4 ?_
  refine lv_ldc2 (v := 6364136223846793005) hx hb hown (hT _ tb_538) d_md_h_5 ?_
  refine lv_lmul hx hb d_md_h_8 ?_
  refine lv_lload_n hx hb d_md_h_9 rfl (lv_at hl 1 rfl) ?_
  refine lv_ladd hx hb d_md_h_10 ?_
  refine lv_lstore (nL := 6) (lv' := [(4, .long (((a ^^^ (1442695040888963407)) * (6364136223846793005)) + b)), (0, .long a), (2, .long b)]) hx hb d_md_h_11 hl (by decide) rfl (fun ls hl => ?_)
  refine lv_lload hx hb d_md_h_13 (lv_at hl 0 rfl) ?_
  refine lv_lload hx hb d_md_h_15 (lv_at hl 0 rfl) ?_
  refine lv_bipush (v := 32) hx hb d_md_h_17 (by decide) ?_
  refine lv_lushr (v := sp_sh (((a ^^^ (1442695040888963407)) * (6364136223846793005)) + b) (32)) hx hb d_md_h_19 rfl ?_
  refine lv_lxor hx hb d_md_h_20 ?_
  refine lv_lstore (nL := 6) (lv' := [(4, .long ((((a ^^^ (1442695040888963407)) * (6364136223846793005)) + b) ^^^ (sp_sh (((a ^^^ (1442695040888963407)) * (6364136223846793005)) + b) (32)))), (0, .long a), (2, .long b)]) hx hb d_md_h_21 hl (by decide) rfl (fun ls hl => ?_)
  refine lv_lload hx hb d_md_h_23 (lv_at hl 0 rfl) ?_
  refine lv_ldc2 (v := 2862933555777941757) hx hb hown (hT _ tb_539) d_md_h_25 ?_
  refine lv_lmul hx hb d_md_h_28 ?_
  refine lv_lstore (nL := 6) (lv' := [(4, .long (((((a ^^^ (1442695040888963407)) * (6364136223846793005)) + b) ^^^ (sp_sh (((a ^^^ (1442695040888963407)) * (6364136223846793005)) + b) (32))) * (2862933555777941757))), (0, .long a), (2, .long b)]) hx hb d_md_h_29 hl (by decide) rfl (fun ls hl => ?_)
  refine lv_lload hx hb d_md_h_31 (lv_at hl 0 rfl) ?_
  refine lv_lload hx hb d_md_h_33 (lv_at hl 0 rfl) ?_
  refine lv_bipush (v := 29) hx hb d_md_h_35 (by decide) ?_
  refine lv_lushr (v := sp_sh (((((a ^^^ (1442695040888963407)) * (6364136223846793005)) + b) ^^^ (sp_sh (((a ^^^ (1442695040888963407)) * (6364136223846793005)) + b) (32))) * (2862933555777941757)) (29)) hx hb d_md_h_37 rfl ?_
  refine lv_lxor hx hb d_md_h_38 ?_
  exact W.lret (v := (((((a ^^^ (1442695040888963407)) * (6364136223846793005)) + b) ^^^ (sp_sh (((a ^^^ (1442695040888963407)) * (6364136223846793005)) + b) (32))) * (2862933555777941757)) ^^^ (sp_sh (((((a ^^^ (1442695040888963407)) * (6364136223846793005)) + b) ^^^ (sp_sh (((a ^^^ (1442695040888963407)) * (6364136223846793005)) + b) (32))) * (2862933555777941757)) (29))) hx hb hret (fun t ht hW => ⟨_, rfl, rfl, ht⟩) (fun q h => by cases h) d_md_h_39
set_option maxHeartbeats 4000000 in
set_option maxRecDepth 100000 in
theorem c_ms_isImage (l : Launch) (n : Int32)  : Met l y_ms_isImage (Cond.code y_ms_isImage b_ms_isImage 1 (some .boolean) :: TB) { frames := 0, cells := 0, slots := 0, locals := 0 } (va_Pc [.int n] (fun _ => True)) (vp_Si (fun r => r = sp_rg n 8)) 0 0 (fun _ => False) := by
  refine Met.ofW (cc := b_ms_isImage) (maxL := 1) (ret := (some .boolean)) (by decide) rfl ?_
  intro p e s m args below meth c s₁ B hml hv
  obtain ⟨rfl, -⟩ := hv
  have hx := B.exec
  have hb := B.bytes
  have hret := B.returns
  have hts := atoms_spec (ws := Cond.code y_ms_isImage b_ms_isImage 1 (some .boolean) :: TB) B.pre
  have hT : ∀ w ∈ TB, w.before _ s = true := fun w h => hts w (List.mem_cons_of_mem _ h)
  have hown : s.vm.findClass "MeasuredStages" = some m.cls := findClass_of_methodNamed B.named
  have hlocks := B.notSynchronized
  have hl := lv_entry ([.int n]) (n := 1) (Nat.le_of_ble_eq_true rfl)
  rw [lg_entry_eq]
  generalize (lg_sl ([.int n]) ++ List.replicate (1 - (lg_sl ([.int n])).length) Slot.unset).toArray = ls at hl ⊢
  have hl : lv_has ls 1 [(0, .int n)] := hl
  refine lv_iload_n hx hb d_ms_isImage_0 rfl (lv_at hl 0 rfl) ?_
  refine lv_if_lt hx hb d_ms_isImage_1 (tgt := 14) (by decide) (fun h1 => ?_) (fun h1 => ?_)
  · skip
    refine lv_iconst (v := 0) hx hb d_ms_isImage_14 (by decide) ?_
    exact W.zret (v := 0) hx hb hret rfl (fun t ht hW => ⟨_, rfl, by simp [sp_rg, h1], ht⟩) (fun q h => by cases h) d_ms_isImage_15
  · skip
    refine lv_iload_n hx hb d_ms_isImage_4 rfl (lv_at hl 0 rfl) ?_
    refine lv_bipush (v := 8) hx hb d_ms_isImage_5 (by decide) ?_
    refine lv_icmp_ge hx hb d_ms_isImage_7 (tgt := 14) (by decide) (fun h2 => ?_) (fun h2 => ?_)
    · skip
      refine lv_iconst (v := 0) hx hb d_ms_isImage_14 (by decide) ?_
      exact W.zret (v := 0) hx hb hret rfl (fun t ht hW => ⟨_, rfl, by simp [sp_rg, h1, h2], ht⟩) (fun q h => by cases h) d_ms_isImage_15
    · skip
      refine lv_iconst (v := 1) hx hb d_ms_isImage_10 (by decide) ?_
      refine lv_goto hx hb d_ms_isImage_11 (tgt := 15) (by decide) ?_
      exact W.zret (v := 1) hx hb hret rfl (fun t ht hW => ⟨_, rfl, by simp [sp_rg, h1, h2], ht⟩) (fun q h => by cases h) d_ms_isImage_15
set_option maxHeartbeats 4000000 in
set_option maxRecDepth 100000 in
theorem c_rg_isRegister (l : Launch) (n : Int32)  : Met l y_rg_isRegister (Cond.code y_rg_isRegister b_rg_isRegister 1 (some .boolean) :: TB) { frames := 0, cells := 0, slots := 0, locals := 0 } (va_Pc [.int n] (fun _ => True)) (vp_Si (fun r => r = sp_rg n 6)) 0 0 (fun _ => False) := by
  refine Met.ofW (cc := b_rg_isRegister) (maxL := 1) (ret := (some .boolean)) (by decide) rfl ?_
  intro p e s m args below meth c s₁ B hml hv
  obtain ⟨rfl, -⟩ := hv
  have hx := B.exec
  have hb := B.bytes
  have hret := B.returns
  have hts := atoms_spec (ws := Cond.code y_rg_isRegister b_rg_isRegister 1 (some .boolean) :: TB) B.pre
  have hT : ∀ w ∈ TB, w.before _ s = true := fun w h => hts w (List.mem_cons_of_mem _ h)
  have hown : s.vm.findClass "MeasuredStages$Registers" = some m.cls := findClass_of_methodNamed B.named
  have hlocks := B.notSynchronized
  have hl := lv_entry ([.int n]) (n := 1) (Nat.le_of_ble_eq_true rfl)
  rw [lg_entry_eq]
  generalize (lg_sl ([.int n]) ++ List.replicate (1 - (lg_sl ([.int n])).length) Slot.unset).toArray = ls at hl ⊢
  have hl : lv_has ls 1 [(0, .int n)] := hl
  refine lv_iload_n hx hb d_rg_isRegister_0 rfl (lv_at hl 0 rfl) ?_
  refine lv_if_lt hx hb d_rg_isRegister_1 (tgt := 14) (by decide) (fun h1 => ?_) (fun h1 => ?_)
  · skip
    refine lv_iconst (v := 0) hx hb d_rg_isRegister_14 (by decide) ?_
    exact W.zret (v := 0) hx hb hret rfl (fun t ht hW => ⟨_, rfl, by simp [sp_rg, h1], ht⟩) (fun q h => by cases h) d_rg_isRegister_15
  · skip
    refine lv_iload_n hx hb d_rg_isRegister_4 rfl (lv_at hl 0 rfl) ?_
    refine lv_bipush (v := 6) hx hb d_rg_isRegister_5 (by decide) ?_
    refine lv_icmp_ge hx hb d_rg_isRegister_7 (tgt := 14) (by decide) (fun h2 => ?_) (fun h2 => ?_)
    · skip
      refine lv_iconst (v := 0) hx hb d_rg_isRegister_14 (by decide) ?_
      exact W.zret (v := 0) hx hb hret rfl (fun t ht hW => ⟨_, rfl, by simp [sp_rg, h1, h2], ht⟩) (fun q h => by cases h) d_rg_isRegister_15
    · skip
      refine lv_iconst (v := 1) hx hb d_rg_isRegister_10 (by decide) ?_
      refine lv_goto hx hb d_rg_isRegister_11 (tgt := 15) (by decide) ?_
      exact W.zret (v := 1) hx hb hret rfl (fun t ht hW => ⟨_, rfl, by simp [sp_rg, h1, h2], ht⟩) (fun q h => by cases h) d_rg_isRegister_15
set_option maxHeartbeats 4000000 in
set_option maxRecDepth 100000 in
theorem c_ms_isMask (l : Launch) (n : Int32)  : Met l y_ms_isMask (Cond.code y_ms_isMask b_ms_isMask 1 (some .boolean) :: TB) { frames := 0, cells := 0, slots := 0, locals := 0 } (va_Pc [.int n] (fun _ => True)) (vp_Si (fun r => r = sp_mk n)) 0 0 (fun _ => False) := by
  refine Met.ofW (cc := b_ms_isMask) (maxL := 1) (ret := (some .boolean)) (by decide) rfl ?_
  intro p e s m args below meth c s₁ B hml hv
  obtain ⟨rfl, -⟩ := hv
  have hx := B.exec
  have hb := B.bytes
  have hret := B.returns
  have hts := atoms_spec (ws := Cond.code y_ms_isMask b_ms_isMask 1 (some .boolean) :: TB) B.pre
  have hT : ∀ w ∈ TB, w.before _ s = true := fun w h => hts w (List.mem_cons_of_mem _ h)
  have hown : s.vm.findClass "MeasuredStages" = some m.cls := findClass_of_methodNamed B.named
  have hlocks := B.notSynchronized
  have hl := lv_entry ([.int n]) (n := 1) (Nat.le_of_ble_eq_true rfl)
  rw [lg_entry_eq]
  generalize (lg_sl ([.int n]) ++ List.replicate (1 - (lg_sl ([.int n])).length) Slot.unset).toArray = ls at hl ⊢
  have hl : lv_has ls 1 [(0, .int n)] := hl
  refine lv_iload_n hx hb d_ms_isMask_0 rfl (lv_at hl 0 rfl) ?_
  refine lv_iconst (v := 1) hx hb d_ms_isMask_1 (by decide) ?_
  refine lv_icmp_lt hx hb d_ms_isMask_2 (tgt := 15) (by decide) (fun h1 => ?_) (fun h1 => ?_)
  · skip
    refine lv_iconst (v := 0) hx hb d_ms_isMask_15 (by decide) ?_
    exact W.zret (v := 0) hx hb hret rfl (fun t ht hW => ⟨_, rfl, by simp [sp_mk, h1], ht⟩) (fun q h => by cases h) d_ms_isMask_16
  · skip
    refine lv_iload_n hx hb d_ms_isMask_5 rfl (lv_at hl 0 rfl) ?_
    refine lv_bipush (v := 63) hx hb d_ms_isMask_6 (by decide) ?_
    refine lv_icmp_gt hx hb d_ms_isMask_8 (tgt := 15) (by decide) (fun h2 => ?_) (fun h2 => ?_)
    · skip
      refine lv_iconst (v := 0) hx hb d_ms_isMask_15 (by decide) ?_
      exact W.zret (v := 0) hx hb hret rfl (fun t ht hW => ⟨_, rfl, by simp [sp_mk, h1, h2], ht⟩) (fun q h => by cases h) d_ms_isMask_16
    · skip
      refine lv_iconst (v := 1) hx hb d_ms_isMask_11 (by decide) ?_
      refine lv_goto hx hb d_ms_isMask_12 (tgt := 16) (by decide) ?_
      exact W.zret (v := 1) hx hb hret rfl (fun t ht hW => ⟨_, rfl, by simp [sp_mk, h1, h2], ht⟩) (fun q h => by cases h) d_ms_isMask_16
set_option maxHeartbeats 4000000 in
set_option maxRecDepth 100000 in
theorem c_md_operands (l : Launch) (n : Int32)  : Met l y_md_operands (Cond.code y_md_operands b_md_operands 1 (some .int) :: TB) { frames := 0, cells := 0, slots := 0, locals := 0 } (va_Pc [.int n] (fun _ => True)) (vp_Si (fun r => r = sp_op n)) 0 0 (fun _ => False) := by
  refine Met.ofW (cc := b_md_operands) (maxL := 1) (ret := (some .int)) (by decide) rfl ?_
  intro p e s m args below meth c s₁ B hml hv
  obtain ⟨rfl, -⟩ := hv
  have hx := B.exec
  have hb := B.bytes
  have hret := B.returns
  have hts := atoms_spec (ws := Cond.code y_md_operands b_md_operands 1 (some .int) :: TB) B.pre
  have hT : ∀ w ∈ TB, w.before _ s = true := fun w h => hts w (List.mem_cons_of_mem _ h)
  have hown : s.vm.findClass "MeasuredStagesModel" = some m.cls := findClass_of_methodNamed B.named
  have hlocks := B.notSynchronized
  have hl := lv_entry ([.int n]) (n := 1) (Nat.le_of_ble_eq_true rfl)
  rw [lg_entry_eq]
  generalize (lg_sl ([.int n]) ++ List.replicate (1 - (lg_sl ([.int n])).length) Slot.unset).toArray = ls at hl ⊢
  have hl : lv_has ls 1 [(0, .int n)] := hl
  refine lv_iload_n hx hb d_md_operands_0 rfl (lv_at hl 0 rfl) ?_
  refine lv_if_ne hx hb d_md_operands_1 (tgt := 8) (by decide) (fun h1 => ?_) (fun h1 => ?_)
  · skip
    refine lv_iload_n hx hb d_md_operands_8 rfl (lv_at hl 0 rfl) ?_
    refine lv_iconst (v := 2) hx hb d_md_operands_9 (by decide) ?_
    refine lv_icmp_ne hx hb d_md_operands_10 (tgt := 17) (by decide) (fun h2 => ?_) (fun h2 => ?_)
    · skip
      refine lv_iconst (v := 1) hx hb d_md_operands_17 (by decide) ?_
      exact W.iret (v := 1) hx hb hret (fun t ht hW => ⟨_, rfl, by simp [sp_op, h1, h2], ht⟩) (fun q h => by cases h) d_md_operands_18
    · skip
      refine lv_iconst (v := 2) hx hb d_md_operands_13 (by decide) ?_
      refine lv_goto hx hb d_md_operands_14 (tgt := 18) (by decide) ?_
      exact W.iret (v := 2) hx hb hret (fun t ht hW => ⟨_, rfl, by simp [sp_op, h1, h2], ht⟩) (fun q h => by cases h) d_md_operands_18
  · skip
    refine lv_iconst (v := 0) hx hb d_md_operands_4 (by decide) ?_
    refine lv_goto hx hb d_md_operands_5 (tgt := 18) (by decide) ?_
    exact W.iret (v := 0) hx hb hret (fun t ht hW => ⟨_, rfl, by simp [sp_op, h1], ht⟩) (fun q h => by cases h) d_md_operands_18
